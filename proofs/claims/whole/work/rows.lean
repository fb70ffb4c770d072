section
-- ===== PART A: goes FIRST, ahead of the names: the tables' words, and 'selects' of the private methods out of them =====
/-- a private method of a class that the tables say can be made, by its rows of tables_1 -/
def lw_okq (q : MethodName × Nat) : Prop := (q.1.cls ≠ "java/lang/invoke/MethodHandle" ∧ q.1.cls ≠ "java/lang/invoke/VarHandle") ∧ Cond.instantiable q.1.cls q.2 ∈ tables_1 ∧ Cond.privateMethod q.1 ∈ tables_1 ∧ Cond.instanceMethod q.1 ∈ tables_1
theorem lw_p0 : lw_okq (⟨"GasVoyages", "isFlight", "(I)Z"⟩, 8) := ⟨⟨by decide +kernel, by decide +kernel⟩, List.mem_of_getElem? (i := 15) (by decide +kernel), List.mem_of_getElem? (i := 390) (by decide +kernel), List.mem_of_getElem? (i := 391) (by decide +kernel)⟩
theorem lw_p1 : lw_okq (⟨"GasVoyages$Balloon", "spend", "(II)V"⟩, 8) := ⟨⟨by decide +kernel, by decide +kernel⟩, List.mem_of_getElem? (i := 99) (by decide +kernel), List.mem_of_getElem? (i := 398) (by decide +kernel), List.mem_of_getElem? (i := 399) (by decide +kernel)⟩
theorem lw_p2 : lw_okq (⟨"GasVoyages$Balloon", "climb", "(I)V"⟩, 8) := ⟨⟨by decide +kernel, by decide +kernel⟩, List.mem_of_getElem? (i := 99) (by decide +kernel), List.mem_of_getElem? (i := 413) (by decide +kernel), List.mem_of_getElem? (i := 414) (by decide +kernel)⟩
theorem lw_p3 : lw_okq (⟨"GasVoyages$Balloon", "ventAbove", "(I)V"⟩, 8) := ⟨⟨by decide +kernel, by decide +kernel⟩, List.mem_of_getElem? (i := 99) (by decide +kernel), List.mem_of_getElem? (i := 420) (by decide +kernel), List.mem_of_getElem? (i := 421) (by decide +kernel)⟩
theorem lw_p4 : lw_okq (⟨"GasVoyages", "mayPlan", "(III)Z"⟩, 8) := ⟨⟨by decide +kernel, by decide +kernel⟩, List.mem_of_getElem? (i := 15) (by decide +kernel), List.mem_of_getElem? (i := 464) (by decide +kernel), List.mem_of_getElem? (i := 465) (by decide +kernel)⟩
theorem lw_p5 : lw_okq (⟨"GasVoyages$Planner", "tryFrom", "(I)V"⟩, 11) := ⟨⟨by decide +kernel, by decide +kernel⟩, List.mem_of_getElem? (i := 92) (by decide +kernel), List.mem_of_getElem? (i := 476) (by decide +kernel), List.mem_of_getElem? (i := 477) (by decide +kernel)⟩
theorem lw_p6 : lw_okq (⟨"GasVoyages$Planner", "weigh", "(I)V"⟩, 11) := ⟨⟨by decide +kernel, by decide +kernel⟩, List.mem_of_getElem? (i := 92) (by decide +kernel), List.mem_of_getElem? (i := 480) (by decide +kernel), List.mem_of_getElem? (i := 481) (by decide +kernel)⟩
theorem lw_p7 : lw_okq (⟨"GasVoyages$Planner", "mayBe", "(LGasVoyages$Balloon;)Z"⟩, 11) := ⟨⟨by decide +kernel, by decide +kernel⟩, List.mem_of_getElem? (i := 92) (by decide +kernel), List.mem_of_getElem? (i := 486) (by decide +kernel), List.mem_of_getElem? (i := 487) (by decide +kernel)⟩
theorem lw_p8 : lw_okq (⟨"GasVoyages$WayCounter", "enter", "(LGasVoyages$Front;III)V"⟩, 6) := ⟨⟨by decide +kernel, by decide +kernel⟩, List.mem_of_getElem? (i := 184) (by decide +kernel), List.mem_of_getElem? (i := 529) (by decide +kernel), List.mem_of_getElem? (i := 530) (by decide +kernel)⟩
theorem lw_p9 : lw_okq (⟨"GasVoyages$WayCounter", "spread", "(ILGasVoyages$Flight;I)V"⟩, 6) := ⟨⟨by decide +kernel, by decide +kernel⟩, List.mem_of_getElem? (i := 184) (by decide +kernel), List.mem_of_getElem? (i := 540) (by decide +kernel), List.mem_of_getElem? (i := 541) (by decide +kernel)⟩
theorem lw_p10 : lw_okq (⟨"GasVoyages$WayCounter", "sumUp", "()V"⟩, 6) := ⟨⟨by decide +kernel, by decide +kernel⟩, List.mem_of_getElem? (i := 184) (by decide +kernel), List.mem_of_getElem? (i := 548) (by decide +kernel), List.mem_of_getElem? (i := 549) (by decide +kernel)⟩
theorem lw_p11 : lw_okq (⟨"GasVoyages$Chasers", "stepOn", "(II)I"⟩, 6) := ⟨⟨by decide +kernel, by decide +kernel⟩, List.mem_of_getElem? (i := 234) (by decide +kernel), List.mem_of_getElem? (i := 580) (by decide +kernel), List.mem_of_getElem? (i := 581) (by decide +kernel)⟩
theorem lw_p12 : lw_okq (⟨"GasVoyages", "countAheadOf", "(I)I"⟩, 8) := ⟨⟨by decide +kernel, by decide +kernel⟩, List.mem_of_getElem? (i := 15) (by decide +kernel), List.mem_of_getElem? (i := 607) (by decide +kernel), List.mem_of_getElem? (i := 608) (by decide +kernel)⟩
theorem lw_p13 : lw_okq (⟨"GasVoyages", "isAhead", "(II)Z"⟩, 8) := ⟨⟨by decide +kernel, by decide +kernel⟩, List.mem_of_getElem? (i := 15) (by decide +kernel), List.mem_of_getElem? (i := 611) (by decide +kernel), List.mem_of_getElem? (i := 612) (by decide +kernel)⟩
theorem lw_p14 : lw_okq (⟨"GasVoyages", "countGoing", "()I"⟩, 8) := ⟨⟨by decide +kernel, by decide +kernel⟩, List.mem_of_getElem? (i := 15) (by decide +kernel), List.mem_of_getElem? (i := 619) (by decide +kernel), List.mem_of_getElem? (i := 620) (by decide +kernel)⟩
theorem lw_p15 : lw_okq (⟨"GasVoyages", "countLost", "()I"⟩, 8) := ⟨⟨by decide +kernel, by decide +kernel⟩, List.mem_of_getElem? (i := 15) (by decide +kernel), List.mem_of_getElem? (i := 627) (by decide +kernel), List.mem_of_getElem? (i := 628) (by decide +kernel)⟩
def lw_privs_1 : List (MethodName × Nat) := [(⟨"GasVoyages", "isFlight", "(I)Z"⟩, 8), (⟨"GasVoyages$Balloon", "spend", "(II)V"⟩, 8), (⟨"GasVoyages$Balloon", "climb", "(I)V"⟩, 8), (⟨"GasVoyages$Balloon", "ventAbove", "(I)V"⟩, 8), (⟨"GasVoyages", "mayPlan", "(III)Z"⟩, 8), (⟨"GasVoyages$Planner", "tryFrom", "(I)V"⟩, 11), (⟨"GasVoyages$Planner", "weigh", "(I)V"⟩, 11), (⟨"GasVoyages$Planner", "mayBe", "(LGasVoyages$Balloon;)Z"⟩, 11), (⟨"GasVoyages$WayCounter", "enter", "(LGasVoyages$Front;III)V"⟩, 6), (⟨"GasVoyages$WayCounter", "spread", "(ILGasVoyages$Flight;I)V"⟩, 6), (⟨"GasVoyages$WayCounter", "sumUp", "()V"⟩, 6), (⟨"GasVoyages$Chasers", "stepOn", "(II)I"⟩, 6), (⟨"GasVoyages", "countAheadOf", "(I)I"⟩, 8), (⟨"GasVoyages", "isAhead", "(II)Z"⟩, 8), (⟨"GasVoyages", "countGoing", "()I"⟩, 8), (⟨"GasVoyages", "countLost", "()I"⟩, 8)]
theorem lw_r1 : ∀ q ∈ lw_privs_1, lw_okq q := List.forall_mem_cons.mpr ⟨lw_p0, List.forall_mem_cons.mpr ⟨lw_p1, List.forall_mem_cons.mpr ⟨lw_p2, List.forall_mem_cons.mpr ⟨lw_p3, List.forall_mem_cons.mpr ⟨lw_p4, List.forall_mem_cons.mpr ⟨lw_p5, List.forall_mem_cons.mpr ⟨lw_p6, List.forall_mem_cons.mpr ⟨lw_p7, List.forall_mem_cons.mpr ⟨lw_p8, List.forall_mem_cons.mpr ⟨lw_p9, List.forall_mem_cons.mpr ⟨lw_p10, List.forall_mem_cons.mpr ⟨lw_p11, List.forall_mem_cons.mpr ⟨lw_p12, List.forall_mem_cons.mpr ⟨lw_p13, List.forall_mem_cons.mpr ⟨lw_p14, List.forall_mem_cons.mpr ⟨lw_p15, fun _ h => absurd h List.not_mem_nil⟩⟩⟩⟩⟩⟩⟩⟩⟩⟩⟩⟩⟩⟩⟩⟩
theorem lw_p16 : lw_okq (⟨"GasVoyages", "digestFlight", "(JI)J"⟩, 8) := ⟨⟨by decide +kernel, by decide +kernel⟩, List.mem_of_getElem? (i := 15) (by decide +kernel), List.mem_of_getElem? (i := 638) (by decide +kernel), List.mem_of_getElem? (i := 639) (by decide +kernel)⟩
theorem lw_p17 : lw_okq (⟨"GasVoyagesModel", "isCell", "(II)Z"⟩, 43) := ⟨⟨by decide +kernel, by decide +kernel⟩, List.mem_of_getElem? (i := 644) (by decide +kernel), List.mem_of_getElem? (i := 791) (by decide +kernel), List.mem_of_getElem? (i := 792) (by decide +kernel)⟩
theorem lw_p18 : lw_okq (⟨"GasVoyagesModel", "writes", "(I)V"⟩, 43) := ⟨⟨by decide +kernel, by decide +kernel⟩, List.mem_of_getElem? (i := 644) (by decide +kernel), List.mem_of_getElem? (i := 814) (by decide +kernel), List.mem_of_getElem? (i := 815) (by decide +kernel)⟩
theorem lw_p19 : lw_okq (⟨"GasVoyagesModel", "isFlight", "(I)Z"⟩, 43) := ⟨⟨by decide +kernel, by decide +kernel⟩, List.mem_of_getElem? (i := 644) (by decide +kernel), List.mem_of_getElem? (i := 822) (by decide +kernel), List.mem_of_getElem? (i := 823) (by decide +kernel)⟩
theorem lw_p20 : lw_okq (⟨"GasVoyagesModel", "begin", "(I)V"⟩, 43) := ⟨⟨by decide +kernel, by decide +kernel⟩, List.mem_of_getElem? (i := 644) (by decide +kernel), List.mem_of_getElem? (i := 826) (by decide +kernel), List.mem_of_getElem? (i := 827) (by decide +kernel)⟩
theorem lw_p21 : lw_okq (⟨"GasVoyagesModel", "tick", "(IIIII)V"⟩, 43) := ⟨⟨by decide +kernel, by decide +kernel⟩, List.mem_of_getElem? (i := 644) (by decide +kernel), List.mem_of_getElem? (i := 830) (by decide +kernel), List.mem_of_getElem? (i := 831) (by decide +kernel)⟩
theorem lw_p22 : lw_okq (⟨"GasVoyagesModel", "led", "(IIIII)I"⟩, 43) := ⟨⟨by decide +kernel, by decide +kernel⟩, List.mem_of_getElem? (i := 644) (by decide +kernel), List.mem_of_getElem? (i := 834) (by decide +kernel), List.mem_of_getElem? (i := 835) (by decide +kernel)⟩
theorem lw_p23 : lw_okq (⟨"GasVoyagesModel", "distanceFlown", "(I)I"⟩, 43) := ⟨⟨by decide +kernel, by decide +kernel⟩, List.mem_of_getElem? (i := 644) (by decide +kernel), List.mem_of_getElem? (i := 847) (by decide +kernel), List.mem_of_getElem? (i := 848) (by decide +kernel)⟩
theorem lw_p24 : lw_okq (⟨"GasVoyagesModel", "planned", "(IIIIIZ)I"⟩, 43) := ⟨⟨by decide +kernel, by decide +kernel⟩, List.mem_of_getElem? (i := 644) (by decide +kernel), List.mem_of_getElem? (i := 858) (by decide +kernel), List.mem_of_getElem? (i := 859) (by decide +kernel)⟩
theorem lw_p25 : lw_okq (⟨"GasVoyagesModel", "flown", "(IIIIIII)I"⟩, 43) := ⟨⟨by decide +kernel, by decide +kernel⟩, List.mem_of_getElem? (i := 644) (by decide +kernel), List.mem_of_getElem? (i := 862) (by decide +kernel), List.mem_of_getElem? (i := 863) (by decide +kernel)⟩
theorem lw_p26 : lw_okq (⟨"GasVoyagesModel", "judged", "(I)I"⟩, 43) := ⟨⟨by decide +kernel, by decide +kernel⟩, List.mem_of_getElem? (i := 644) (by decide +kernel), List.mem_of_getElem? (i := 886) (by decide +kernel), List.mem_of_getElem? (i := 887) (by decide +kernel)⟩
theorem lw_p27 : lw_okq (⟨"GasVoyagesModel", "findWays", "(I)V"⟩, 43) := ⟨⟨by decide +kernel, by decide +kernel⟩, List.mem_of_getElem? (i := 644) (by decide +kernel), List.mem_of_getElem? (i := 890) (by decide +kernel), List.mem_of_getElem? (i := 891) (by decide +kernel)⟩
theorem lw_p28 : lw_okq (⟨"GasVoyagesModel", "goOn", "(III)V"⟩, 43) := ⟨⟨by decide +kernel, by decide +kernel⟩, List.mem_of_getElem? (i := 644) (by decide +kernel), List.mem_of_getElem? (i := 894) (by decide +kernel), List.mem_of_getElem? (i := 895) (by decide +kernel)⟩
theorem lw_p29 : lw_okq (⟨"GasVoyagesModel", "chased", "(III)I"⟩, 43) := ⟨⟨by decide +kernel, by decide +kernel⟩, List.mem_of_getElem? (i := 644) (by decide +kernel), List.mem_of_getElem? (i := 914) (by decide +kernel), List.mem_of_getElem? (i := 915) (by decide +kernel)⟩
theorem lw_p30 : lw_okq (⟨"GasVoyagesModel", "reaches", "(III)Z"⟩, 43) := ⟨⟨by decide +kernel, by decide +kernel⟩, List.mem_of_getElem? (i := 644) (by decide +kernel), List.mem_of_getElem? (i := 918) (by decide +kernel), List.mem_of_getElem? (i := 919) (by decide +kernel)⟩
theorem lw_p31 : lw_okq (⟨"GasVoyagesModel", "isAhead", "(II)Z"⟩, 43) := ⟨⟨by decide +kernel, by decide +kernel⟩, List.mem_of_getElem? (i := 644) (by decide +kernel), List.mem_of_getElem? (i := 930) (by decide +kernel), List.mem_of_getElem? (i := 931) (by decide +kernel)⟩
def lw_privs_2 : List (MethodName × Nat) := [(⟨"GasVoyages", "digestFlight", "(JI)J"⟩, 8), (⟨"GasVoyagesModel", "isCell", "(II)Z"⟩, 43), (⟨"GasVoyagesModel", "writes", "(I)V"⟩, 43), (⟨"GasVoyagesModel", "isFlight", "(I)Z"⟩, 43), (⟨"GasVoyagesModel", "begin", "(I)V"⟩, 43), (⟨"GasVoyagesModel", "tick", "(IIIII)V"⟩, 43), (⟨"GasVoyagesModel", "led", "(IIIII)I"⟩, 43), (⟨"GasVoyagesModel", "distanceFlown", "(I)I"⟩, 43), (⟨"GasVoyagesModel", "planned", "(IIIIIZ)I"⟩, 43), (⟨"GasVoyagesModel", "flown", "(IIIIIII)I"⟩, 43), (⟨"GasVoyagesModel", "judged", "(I)I"⟩, 43), (⟨"GasVoyagesModel", "findWays", "(I)V"⟩, 43), (⟨"GasVoyagesModel", "goOn", "(III)V"⟩, 43), (⟨"GasVoyagesModel", "chased", "(III)I"⟩, 43), (⟨"GasVoyagesModel", "reaches", "(III)Z"⟩, 43), (⟨"GasVoyagesModel", "isAhead", "(II)Z"⟩, 43)]
theorem lw_r2 : ∀ q ∈ lw_privs_2, lw_okq q := List.forall_mem_cons.mpr ⟨lw_p16, List.forall_mem_cons.mpr ⟨lw_p17, List.forall_mem_cons.mpr ⟨lw_p18, List.forall_mem_cons.mpr ⟨lw_p19, List.forall_mem_cons.mpr ⟨lw_p20, List.forall_mem_cons.mpr ⟨lw_p21, List.forall_mem_cons.mpr ⟨lw_p22, List.forall_mem_cons.mpr ⟨lw_p23, List.forall_mem_cons.mpr ⟨lw_p24, List.forall_mem_cons.mpr ⟨lw_p25, List.forall_mem_cons.mpr ⟨lw_p26, List.forall_mem_cons.mpr ⟨lw_p27, List.forall_mem_cons.mpr ⟨lw_p28, List.forall_mem_cons.mpr ⟨lw_p29, List.forall_mem_cons.mpr ⟨lw_p30, List.forall_mem_cons.mpr ⟨lw_p31, fun _ h => absurd h List.not_mem_nil⟩⟩⟩⟩⟩⟩⟩⟩⟩⟩⟩⟩⟩⟩⟩⟩
def lw_privs : List (MethodName × Nat) := lw_privs_1 ++ (lw_privs_2)
def lw_tbl : List Cond := k2_sels lw_privs ++ tables_1
theorem lw_privs_ok : ∀ q ∈ lw_privs, lw_okq q := by
  show ∀ q ∈ lw_privs_1 ++ (lw_privs_2), lw_okq q
  exact List.forall_mem_append.mpr ⟨lw_r1, lw_r2⟩
-- ===== end of PART A; then your names; then what follows =====
end
section
/-! ===== BEGIN words of one list among another's, by their places ===== -/
theorem goodIn_r {big : List Cond} (ws : List Cond) (ps : List Nat) (hp : ws = ps.filterMap (fun i => big[i]?)) (h : ws.all goodWord = true) : GoodIn big ws := by
  intro w hw
  have h1 := List.all_eq_true.mp h w hw
  rw [hp] at hw
  obtain ⟨i, -, hi⟩ := List.mem_filterMap.mp hw
  have hm : w ∈ big := by first | exact List.mem_of_getElem? hi | exact List.getElem?_mem hi
  exact ⟨hm, good_of_word h1⟩
theorem goodIn_app {big a b : List Cond} (ha : GoodIn big a) (hb : GoodIn big b) : GoodIn big (a ++ b) := fun w h => (List.mem_append.mp h).elim (ha w) (hb w)
theorem goodIn_ca {big a b : List Cond} {c : Cond} (ha : GoodIn big (c :: a)) (hb : GoodIn big b) : GoodIn big (c :: (a ++ b)) := fun w h => (List.mem_cons.mp h).elim (fun e => ha w (List.mem_cons.mpr (Or.inl e))) (fun h => (List.mem_append.mp h).elim (fun h => ha w (List.mem_cons.mpr (Or.inr h))) (hb w))
theorem goodIn_sub {big ws : List Cond} (hm : ∀ w ∈ ws, w ∈ big) (h : ws.all goodWord = true) : GoodIn big ws := fun w hw => ⟨hm w hw, good_of_word (List.all_eq_true.mp h w hw)⟩
/-! ===== END ===== -/

/-! ===== BEGIN printed: names, fields, word lists, decode rows ===== -/
def RX0 : String := "GasVoyages$Air"
def TX0 : u_T := fun k => match k with
  | 0 => ("GasVoyages$Air", "density", "[I", true)
  | 1 => ("GasVoyages$Air", "fullness", "[I", true)
  | 2 => ("GasVoyages$Air", "warmth", "[I", true)
  | 3 => ("GasVoyages$Air", "real", "LGasVoyages$Winds;", true)
  | _ => ("GasVoyages$Air", "forecast", "LGasVoyages$Winds;", true)
def tyX0 : Nat → FieldType := fun k => match k with
  | 0 => .array .int
  | 1 => .array .int
  | 2 => .array .int
  | 3 => .object "GasVoyages$Winds"
  | _ => .object "GasVoyages$Winds"
abbrev wsX00 : List Cond := u_ws RX0 TX0 5
theorem nmX0 : ∀ a, a < 5 → ∀ b, b < 5 → a ≠ b → (TX0 a).2.1 ≠ (TX0 b).2.1 := by decide +kernel
theorem tyX0_ok : ∀ k, k < 5 → parseFieldDescriptor (TX0 k).2.2.1 = some (tyX0 k) := by decide +kernel
abbrev cX0_init : ByteArray := prog_2_method_1_code
def yX0_init : MethodName := ⟨RX0, "<init>", "()V"⟩
def RX1 : String := "GasVoyages$Balloon"
def TX1 : u_T := fun k => match k with
  | 0 => ("GasVoyages$Balloon", "cell", "I", false)
  | 1 => ("GasVoyages$Balloon", "level", "I", false)
  | 2 => ("GasVoyages$Balloon", "tick", "I", false)
  | 3 => ("GasVoyages$Balloon", "load", "I", false)
  | 4 => ("GasVoyages$Balloon", "gas", "I", false)
  | 5 => ("GasVoyages$Balloon", "ballast", "I", false)
  | 6 => ("GasVoyages$Balloon", "vented", "I", false)
  | _ => ("GasVoyages$Balloon", "landed", "Z", false)
def tyX1 : Nat → FieldType := fun k => match k with
  | 0 => .int
  | 1 => .int
  | 2 => .int
  | 3 => .int
  | 4 => .int
  | 5 => .int
  | 6 => .int
  | _ => .boolean
abbrev wsX10 : List Cond := u_ws RX1 TX1 8
theorem nmX1 : ∀ a, a < 8 → ∀ b, b < 8 → a ≠ b → (TX1 a).2.1 ≠ (TX1 b).2.1 := by decide +kernel
theorem tyX1_ok : ∀ k, k < 8 → parseFieldDescriptor (TX1 k).2.2.1 = some (tyX1 k) := by decide +kernel
abbrev cX1_init : ByteArray := prog_3_method_1_code
def yX1_init : MethodName := ⟨RX1, "<init>", "()V"⟩
abbrev cX1_copyOf : ByteArray := prog_3_method_2_code
def yX1_copyOf : MethodName := ⟨RX1, "copyOf", "(LGasVoyages$Balloon;)V"⟩
abbrev cX1_hour : ByteArray := prog_3_method_3_code
def yX1_hour : MethodName := ⟨RX1, "hour", "()I"⟩
abbrev cX1_liftLessWeight : ByteArray := prog_3_method_4_code
def yX1_liftLessWeight : MethodName := ⟨RX1, "liftLessWeight", "(LGasVoyages$Air;)I"⟩
abbrev cX1_pass : ByteArray := prog_3_method_5_code
def yX1_pass : MethodName := ⟨RX1, "pass", "(IILGasVoyages$Air;LGasVoyages$Winds;LGasVoyages$Land;)V"⟩
abbrev cX1_spend : ByteArray := prog_3_method_6_code
def yX1_spend : MethodName := ⟨RX1, "spend", "(II)V"⟩
abbrev cX1_climb : ByteArray := prog_3_method_7_code
def yX1_climb : MethodName := ⟨RX1, "climb", "(I)V"⟩
abbrev cX1_ventAbove : ByteArray := prog_3_method_8_code
def yX1_ventAbove : MethodName := ⟨RX1, "ventAbove", "(I)V"⟩
def RX2 : String := "GasVoyages$Chasers"
def TX2 : u_T := fun k => match k with
  | 0 => ("GasVoyages$Chasers", "land", "LGasVoyages$Land;", true)
  | 1 => ("GasVoyages$Chasers", "cells", "[I", true)
  | 2 => ("GasVoyages$Chasers", "paces", "[I", true)
  | 3 => ("GasVoyages$Chasers", "number", "I", false)
  | 4 => ("GasVoyages$Chasers", "steps", "[I", true)
  | _ => ("GasVoyages$Chasers", "queue", "[I", true)
def tyX2 : Nat → FieldType := fun k => match k with
  | 0 => .object "GasVoyages$Land"
  | 1 => .array .int
  | 2 => .array .int
  | 3 => .int
  | 4 => .array .int
  | _ => .array .int
abbrev wsX20 : List Cond := u_ws RX2 TX2 6
theorem nmX2 : ∀ a, a < 6 → ∀ b, b < 6 → a ≠ b → (TX2 a).2.1 ≠ (TX2 b).2.1 := by decide +kernel
theorem tyX2_ok : ∀ k, k < 6 → parseFieldDescriptor (TX2 k).2.2.1 = some (tyX2 k) := by decide +kernel
abbrev cX2_init : ByteArray := prog_4_method_1_code
def yX2_init : MethodName := ⟨RX2, "<init>", "(LGasVoyages$Land;)V"⟩
abbrev cX2_add : ByteArray := prog_4_method_2_code
def yX2_add : MethodName := ⟨RX2, "add", "(II)V"⟩
abbrev cX2_standOn : ByteArray := prog_4_method_3_code
def yX2_standOn : MethodName := ⟨RX2, "standOn", "(I)Z"⟩
abbrev cX2_measureFrom : ByteArray := prog_4_method_4_code
def yX2_measureFrom : MethodName := ⟨RX2, "measureFrom", "(I)V"⟩
abbrev cX2_stepOn : ByteArray := prog_4_method_5_code
def yX2_stepOn : MethodName := ⟨RX2, "stepOn", "(II)I"⟩
abbrev cX2_ticksOf : ByteArray := prog_4_method_6_code
def yX2_ticksOf : MethodName := ⟨RX2, "ticksOf", "(I)I"⟩
abbrev cX2_soonest : ByteArray := prog_4_method_7_code
def yX2_soonest : MethodName := ⟨RX2, "soonest", "()I"⟩
def RX3 : String := "GasVoyages$Flight"
def TX3 : u_T := fun k => match k with
  | 0 => ("GasVoyages$Flight", "balloon", "LGasVoyages$Balloon;", true)
  | 1 => ("GasVoyages$Flight", "places", "[I", true)
  | 2 => ("GasVoyages$Flight", "lost", "[Z", true)
  | 3 => ("GasVoyages$Flight", "entries", "I", false)
  | 4 => ("GasVoyages$Flight", "lostCount", "I", false)
  | 5 => ("GasVoyages$Flight", "startCell", "I", false)
  | _ => ("GasVoyages$Flight", "startTick", "I", false)
def tyX3 : Nat → FieldType := fun k => match k with
  | 0 => .object "GasVoyages$Balloon"
  | 1 => .array .int
  | 2 => .array .boolean
  | 3 => .int
  | 4 => .int
  | 5 => .int
  | _ => .int
abbrev wsX30 : List Cond := u_ws RX3 TX3 7
theorem nmX3 : ∀ a, a < 7 → ∀ b, b < 7 → a ≠ b → (TX3 a).2.1 ≠ (TX3 b).2.1 := by decide +kernel
theorem tyX3_ok : ∀ k, k < 7 → parseFieldDescriptor (TX3 k).2.2.1 = some (tyX3 k) := by decide +kernel
abbrev cX3_init : ByteArray := prog_5_method_1_code
def yX3_init : MethodName := ⟨RX3, "<init>", "()V"⟩
abbrev cX3_begin : ByteArray := prog_5_method_2_code
def yX3_begin : MethodName := ⟨RX3, "begin", "(IIIII)V"⟩
abbrev cX3_writeDown : ByteArray := prog_5_method_3_code
def yX3_writeDown : MethodName := ⟨RX3, "writeDown", "()V"⟩
abbrev cX3_forget : ByteArray := prog_5_method_4_code
def yX3_forget : MethodName := ⟨RX3, "forget", "(II)I"⟩
abbrev cX3_flown : ByteArray := prog_5_method_5_code
def yX3_flown : MethodName := ⟨RX3, "flown", "()I"⟩
def RX4 : String := "GasVoyages$Front"
def TX4 : u_T := fun k => match k with
  | 0 => ("GasVoyages$Front", "places", "[I", true)
  | 1 => ("GasVoyages$Front", "clean", "[I", true)
  | 2 => ("GasVoyages$Front", "broken", "[I", true)
  | _ => ("GasVoyages$Front", "size", "I", false)
def tyX4 : Nat → FieldType := fun k => match k with
  | 0 => .array .int
  | 1 => .array .int
  | 2 => .array .int
  | _ => .int
abbrev wsX40 : List Cond := u_ws RX4 TX4 4
theorem nmX4 : ∀ a, a < 4 → ∀ b, b < 4 → a ≠ b → (TX4 a).2.1 ≠ (TX4 b).2.1 := by decide +kernel
theorem tyX4_ok : ∀ k, k < 4 → parseFieldDescriptor (TX4 k).2.2.1 = some (tyX4 k) := by decide +kernel
abbrev cX4_init : ByteArray := prog_6_method_1_code
def yX4_init : MethodName := ⟨RX4, "<init>", "()V"⟩
abbrev cX4_clear : ByteArray := prog_6_method_2_code
def yX4_clear : MethodName := ⟨RX4, "clear", "()V"⟩
abbrev cX4_add : ByteArray := prog_6_method_3_code
def yX4_add : MethodName := ⟨RX4, "add", "(III)V"⟩
def RX5 : String := "GasVoyages$Land"
def TX5 : u_T := fun k => match k with
  | 0 => ("GasVoyages$Land", "w", "I", false)
  | 1 => ("GasVoyages$Land", "h", "I", false)
  | _ => ("GasVoyages$Land", "kinds", "[I", true)
def tyX5 : Nat → FieldType := fun k => match k with
  | 0 => .int
  | 1 => .int
  | _ => .array .int
abbrev wsX50 : List Cond := u_ws RX5 TX5 3
theorem nmX5 : ∀ a, a < 3 → ∀ b, b < 3 → a ≠ b → (TX5 a).2.1 ≠ (TX5 b).2.1 := by decide +kernel
theorem tyX5_ok : ∀ k, k < 3 → parseFieldDescriptor (TX5 k).2.2.1 = some (tyX5 k) := by decide +kernel
abbrev cX5_init : ByteArray := prog_7_method_1_code
def yX5_init : MethodName := ⟨RX5, "<init>", "()V"⟩
abbrev cX5_clear : ByteArray := prog_7_method_2_code
def yX5_clear : MethodName := ⟨RX5, "clear", "(II)V"⟩
abbrev cX5_has : ByteArray := prog_7_method_3_code
def yX5_has : MethodName := ⟨RX5, "has", "(II)Z"⟩
abbrev cX5_movedFrom : ByteArray := prog_7_method_4_code
def yX5_movedFrom : MethodName := ⟨RX5, "movedFrom", "(III)I"⟩
abbrev cX5_countClosed : ByteArray := prog_7_method_5_code
def yX5_countClosed : MethodName := ⟨RX5, "countClosed", "()I"⟩
def RX6 : String := "GasVoyages$Planner"
def TX6 : u_T := fun k => match k with
  | 0 => ("GasVoyages$Planner", "land", "LGasVoyages$Land;", true)
  | 1 => ("GasVoyages$Planner", "air", "LGasVoyages$Air;", true)
  | 2 => ("GasVoyages$Planner", "behind", "[LGasVoyages$Balloon;", true)
  | 3 => ("GasVoyages$Planner", "row", "[I", true)
  | 4 => ("GasVoyages$Planner", "found", "[I", true)
  | 5 => ("GasVoyages$Planner", "foundLength", "I", false)
  | 6 => ("GasVoyages$Planner", "length", "I", false)
  | 7 => ("GasVoyages$Planner", "dose", "I", false)
  | 8 => ("GasVoyages$Planner", "aim", "I", false)
  | 9 => ("GasVoyages$Planner", "near", "Z", false)
  | _ => ("GasVoyages$Planner", "bestSquare", "I", false)
def tyX6 : Nat → FieldType := fun k => match k with
  | 0 => .object "GasVoyages$Land"
  | 1 => .object "GasVoyages$Air"
  | 2 => .array (.object "GasVoyages$Balloon")
  | 3 => .array .int
  | 4 => .array .int
  | 5 => .int
  | 6 => .int
  | 7 => .int
  | 8 => .int
  | 9 => .boolean
  | _ => .int
abbrev wsX60 : List Cond := u_ws RX6 TX6 11
theorem nmX6 : ∀ a, a < 11 → ∀ b, b < 11 → a ≠ b → (TX6 a).2.1 ≠ (TX6 b).2.1 := by decide +kernel
theorem tyX6_ok : ∀ k, k < 11 → parseFieldDescriptor (TX6 k).2.2.1 = some (tyX6 k) := by decide +kernel
abbrev cX6_init : ByteArray := prog_8_method_1_code
def yX6_init : MethodName := ⟨RX6, "<init>", "(LGasVoyages$Land;LGasVoyages$Air;)V"⟩
abbrev cX6_best : ByteArray := prog_8_method_2_code
def yX6_best : MethodName := ⟨RX6, "best", "(LGasVoyages$Balloon;IIIZ)I"⟩
abbrev cX6_tryFrom : ByteArray := prog_8_method_3_code
def yX6_tryFrom : MethodName := ⟨RX6, "tryFrom", "(I)V"⟩
abbrev cX6_mayBe : ByteArray := prog_8_method_4_code
def yX6_mayBe : MethodName := ⟨RX6, "mayBe", "(LGasVoyages$Balloon;)Z"⟩
abbrev cX6_weigh : ByteArray := prog_8_method_5_code
def yX6_weigh : MethodName := ⟨RX6, "weigh", "(I)V"⟩
def RX7 : String := "GasVoyages$WayCounter"
def TX7 : u_T := fun k => match k with
  | 0 => ("GasVoyages$WayCounter", "land", "LGasVoyages$Land;", true)
  | 1 => ("GasVoyages$WayCounter", "winds", "LGasVoyages$Winds;", true)
  | 2 => ("GasVoyages$WayCounter", "here", "LGasVoyages$Front;", false)
  | 3 => ("GasVoyages$WayCounter", "there", "LGasVoyages$Front;", false)
  | 4 => ("GasVoyages$WayCounter", "clean", "I", false)
  | _ => ("GasVoyages$WayCounter", "broken", "I", false)
def tyX7 : Nat → FieldType := fun k => match k with
  | 0 => .object "GasVoyages$Land"
  | 1 => .object "GasVoyages$Winds"
  | 2 => .object "GasVoyages$Front"
  | 3 => .object "GasVoyages$Front"
  | 4 => .int
  | _ => .int
abbrev wsX70 : List Cond := u_ws RX7 TX7 6
theorem nmX7 : ∀ a, a < 6 → ∀ b, b < 6 → a ≠ b → (TX7 a).2.1 ≠ (TX7 b).2.1 := by decide +kernel
theorem tyX7_ok : ∀ k, k < 6 → parseFieldDescriptor (TX7 k).2.2.1 = some (tyX7 k) := by decide +kernel
abbrev cX7_init : ByteArray := prog_9_method_1_code
def yX7_init : MethodName := ⟨RX7, "<init>", "(LGasVoyages$Land;LGasVoyages$Winds;)V"⟩
abbrev cX7_follow : ByteArray := prog_9_method_2_code
def yX7_follow : MethodName := ⟨RX7, "follow", "(LGasVoyages$Flight;)V"⟩
abbrev cX7_spread : ByteArray := prog_9_method_3_code
def yX7_spread : MethodName := ⟨RX7, "spread", "(ILGasVoyages$Flight;I)V"⟩
abbrev cX7_enter : ByteArray := prog_9_method_4_code
def yX7_enter : MethodName := ⟨RX7, "enter", "(LGasVoyages$Front;III)V"⟩
abbrev cX7_sumUp : ByteArray := prog_9_method_5_code
def yX7_sumUp : MethodName := ⟨RX7, "sumUp", "()V"⟩
abbrev cX7_verdict : ByteArray := prog_9_method_6_code
def yX7_verdict : MethodName := ⟨RX7, "verdict", "()I"⟩
def RX8 : String := "GasVoyages$Winds"
def TX8 : u_T := fun k => match k with
  | 0 => ("GasVoyages$Winds", "dx", "[I", true)
  | _ => ("GasVoyages$Winds", "dy", "[I", true)
def tyX8 : Nat → FieldType := fun k => match k with
  | 0 => .array .int
  | _ => .array .int
abbrev wsX80 : List Cond := u_ws RX8 TX8 2
theorem nmX8 : ∀ a, a < 2 → ∀ b, b < 2 → a ≠ b → (TX8 a).2.1 ≠ (TX8 b).2.1 := by decide +kernel
theorem tyX8_ok : ∀ k, k < 2 → parseFieldDescriptor (TX8 k).2.2.1 = some (tyX8 k) := by decide +kernel
abbrev cX8_init : ByteArray := prog_10_method_1_code
def yX8_init : MethodName := ⟨RX8, "<init>", "()V"⟩
abbrev cX8_put : ByteArray := prog_10_method_2_code
def yX8_put : MethodName := ⟨RX8, "put", "(IIII)V"⟩
abbrev cX8_leadFrom : ByteArray := prog_10_method_3_code
def yX8_leadFrom : MethodName := ⟨RX8, "leadFrom", "(IIILGasVoyages$Land;)I"⟩
def RX9 : String := "GasVoyages"
def TX9 : u_T := fun k => match k with
  | 0 => ("GasVoyages", "ground", "LGasVoyages$Land;", true)
  | 1 => ("GasVoyages", "air", "LGasVoyages$Air;", true)
  | 2 => ("GasVoyages", "flights", "[LGasVoyages$Flight;", true)
  | 3 => ("GasVoyages", "ranked", "[Z", true)
  | 4 => ("GasVoyages", "flightCount", "I", false)
  | 5 => ("GasVoyages", "planner", "LGasVoyages$Planner;", true)
  | 6 => ("GasVoyages", "wayCounter", "LGasVoyages$WayCounter;", true)
  | _ => ("GasVoyages", "chasers", "LGasVoyages$Chasers;", true)
def tyX9 : Nat → FieldType := fun k => match k with
  | 0 => .object "GasVoyages$Land"
  | 1 => .object "GasVoyages$Air"
  | 2 => .array (.object "GasVoyages$Flight")
  | 3 => .array .boolean
  | 4 => .int
  | 5 => .object "GasVoyages$Planner"
  | 6 => .object "GasVoyages$WayCounter"
  | _ => .object "GasVoyages$Chasers"
abbrev wsX90 : List Cond := u_ws RX9 TX9 8
theorem nmX9 : ∀ a, a < 8 → ∀ b, b < 8 → a ≠ b → (TX9 a).2.1 ≠ (TX9 b).2.1 := by decide +kernel
theorem tyX9_ok : ∀ k, k < 8 → parseFieldDescriptor (TX9 k).2.2.1 = some (tyX9 k) := by decide +kernel
abbrev cX9_init : ByteArray := prog_1_method_1_code
def yX9_init : MethodName := ⟨RX9, "<init>", "()V"⟩
abbrev cX9_land : ByteArray := prog_1_method_2_code
def yX9_land : MethodName := ⟨RX9, "land", "(II)I"⟩
abbrev cX9_cell : ByteArray := prog_1_method_3_code
def yX9_cell : MethodName := ⟨RX9, "cell", "(III)I"⟩
abbrev cX9_level : ByteArray := prog_1_method_4_code
def yX9_level : MethodName := ⟨RX9, "level", "(III)I"⟩
abbrev cX9_warmth : ByteArray := prog_1_method_5_code
def yX9_warmth : MethodName := ⟨RX9, "warmth", "(II)I"⟩
abbrev cX9_wind : ByteArray := prog_1_method_6_code
def yX9_wind : MethodName := ⟨RX9, "wind", "(ZIIIII)I"⟩
abbrev cX9_fly : ByteArray := prog_1_method_7_code
def yX9_fly : MethodName := ⟨RX9, "fly", "(IIIIII)I"⟩
abbrev cX9_go : ByteArray := prog_1_method_8_code
def yX9_go : MethodName := ⟨RX9, "go", "(IIII)I"⟩
abbrev cX9_about : ByteArray := prog_1_method_9_code
def yX9_about : MethodName := ⟨RX9, "about", "(II)I"⟩
abbrev cX9_distance : ByteArray := prog_1_method_10_code
def yX9_distance : MethodName := ⟨RX9, "distance", "(I)I"⟩
abbrev cX9_plan : ByteArray := prog_1_method_11_code
def yX9_plan : MethodName := ⟨RX9, "plan", "(IIIII)I"⟩
abbrev cX9_away : ByteArray := prog_1_method_12_code
def yX9_away : MethodName := ⟨RX9, "away", "(III)I"⟩
abbrev cX9_order : ByteArray := prog_1_method_13_code
def yX9_order : MethodName := ⟨RX9, "order", "(I)I"⟩
abbrev cX9_entry : ByteArray := prog_1_method_14_code
def yX9_entry : MethodName := ⟨RX9, "entry", "(III)I"⟩
abbrev cX9_lose : ByteArray := prog_1_method_15_code
def yX9_lose : MethodName := ⟨RX9, "lose", "(III)I"⟩
abbrev cX9_judge : ByteArray := prog_1_method_16_code
def yX9_judge : MethodName := ⟨RX9, "judge", "(I)I"⟩
abbrev cX9_ways : ByteArray := prog_1_method_17_code
def yX9_ways : MethodName := ⟨RX9, "ways", "(IZ)I"⟩
abbrev cX9_chaser : ByteArray := prog_1_method_18_code
def yX9_chaser : MethodName := ⟨RX9, "chaser", "(III)I"⟩
abbrev cX9_chase : ByteArray := prog_1_method_19_code
def yX9_chase : MethodName := ⟨RX9, "chase", "(III)I"⟩
abbrev cX9_first : ByteArray := prog_1_method_20_code
def yX9_first : MethodName := ⟨RX9, "first", "(I)I"⟩
abbrev cX9_record : ByteArray := prog_1_method_21_code
def yX9_record : MethodName := ⟨RX9, "record", "(I)I"⟩
abbrev cX9_count : ByteArray := prog_1_method_22_code
def yX9_count : MethodName := ⟨RX9, "count", "(I)I"⟩
abbrev cX9_digest : ByteArray := prog_1_method_23_code
def yX9_digest : MethodName := ⟨RX9, "digest", "()J"⟩
abbrev cX9_digestFlight : ByteArray := prog_1_method_24_code
def yX9_digestFlight : MethodName := ⟨RX9, "digestFlight", "(JI)J"⟩
abbrev cX9_isFlight : ByteArray := prog_1_method_25_code
def yX9_isFlight : MethodName := ⟨RX9, "isFlight", "(I)Z"⟩
abbrev cX9_mayPlan : ByteArray := prog_1_method_26_code
def yX9_mayPlan : MethodName := ⟨RX9, "mayPlan", "(III)Z"⟩
abbrev cX9_countAheadOf : ByteArray := prog_1_method_27_code
def yX9_countAheadOf : MethodName := ⟨RX9, "countAheadOf", "(I)I"⟩
abbrev cX9_isAhead : ByteArray := prog_1_method_28_code
def yX9_isAhead : MethodName := ⟨RX9, "isAhead", "(II)Z"⟩
abbrev cX9_countGoing : ByteArray := prog_1_method_29_code
def yX9_countGoing : MethodName := ⟨RX9, "countGoing", "()I"⟩
abbrev cX9_countLost : ByteArray := prog_1_method_30_code
def yX9_countLost : MethodName := ⟨RX9, "countLost", "()I"⟩
abbrev cX9_within : ByteArray := prog_1_method_31_code
def yX9_within : MethodName := ⟨RX9, "within", "(III)Z"⟩
abbrev cX9_cellOf : ByteArray := prog_1_method_32_code
def yX9_cellOf : MethodName := ⟨RX9, "cellOf", "(II)I"⟩
abbrev cX9_xOf : ByteArray := prog_1_method_33_code
def yX9_xOf : MethodName := ⟨RX9, "xOf", "(I)I"⟩
abbrev cX9_yOf : ByteArray := prog_1_method_34_code
def yX9_yOf : MethodName := ⟨RX9, "yOf", "(I)I"⟩
abbrev cX9_placeOf : ByteArray := prog_1_method_35_code
def yX9_placeOf : MethodName := ⟨RX9, "placeOf", "(II)I"⟩
abbrev cX9_cellOfPlace : ByteArray := prog_1_method_36_code
def yX9_cellOfPlace : MethodName := ⟨RX9, "cellOfPlace", "(I)I"⟩
abbrev cX9_levelOfPlace : ByteArray := prog_1_method_37_code
def yX9_levelOfPlace : MethodName := ⟨RX9, "levelOfPlace", "(I)I"⟩
abbrev cX9_squareBetween : ByteArray := prog_1_method_38_code
def yX9_squareBetween : MethodName := ⟨RX9, "squareBetween", "(II)I"⟩
def RX10 : String := "GasVoyagesModel"
def TX10 : u_T := fun k => match k with
  | 0 => ("GasVoyagesModel", "wide", "I", false)
  | 1 => ("GasVoyagesModel", "high", "I", false)
  | 2 => ("GasVoyagesModel", "kinds", "[I", true)
  | 3 => ("GasVoyagesModel", "density", "[I", true)
  | 4 => ("GasVoyagesModel", "fullness", "[I", true)
  | 5 => ("GasVoyagesModel", "warmth", "[I", true)
  | 6 => ("GasVoyagesModel", "windX", "[I", true)
  | 7 => ("GasVoyagesModel", "windY", "[I", true)
  | 8 => ("GasVoyagesModel", "flights", "I", false)
  | 9 => ("GasVoyagesModel", "fx", "[I", true)
  | 10 => ("GasVoyagesModel", "fy", "[I", true)
  | 11 => ("GasVoyagesModel", "fl", "[I", true)
  | 12 => ("GasVoyagesModel", "ft", "[I", true)
  | 13 => ("GasVoyagesModel", "load", "[I", true)
  | 14 => ("GasVoyagesModel", "gas", "[I", true)
  | 15 => ("GasVoyagesModel", "ballast", "[I", true)
  | 16 => ("GasVoyagesModel", "gone", "[I", true)
  | 17 => ("GasVoyagesModel", "landed", "[Z", true)
  | 18 => ("GasVoyagesModel", "begun", "[I", true)
  | 19 => ("GasVoyagesModel", "entries", "[I", true)
  | 20 => ("GasVoyagesModel", "logCell", "[I", true)
  | 21 => ("GasVoyagesModel", "logLevel", "[I", true)
  | 22 => ("GasVoyagesModel", "lost", "[Z", true)
  | 23 => ("GasVoyagesModel", "chasers", "I", false)
  | 24 => ("GasVoyagesModel", "cx", "[I", true)
  | 25 => ("GasVoyagesModel", "cy", "[I", true)
  | 26 => ("GasVoyagesModel", "pace", "[I", true)
  | 27 => ("GasVoyagesModel", "plan", "[I", true)
  | 28 => ("GasVoyagesModel", "planMany", "I", false)
  | 29 => ("GasVoyagesModel", "nowX", "I", false)
  | 30 => ("GasVoyagesModel", "nowY", "I", false)
  | 31 => ("GasVoyagesModel", "nowLevel", "I", false)
  | 32 => ("GasVoyagesModel", "nowGas", "I", false)
  | 33 => ("GasVoyagesModel", "nowBallast", "I", false)
  | 34 => ("GasVoyagesModel", "nowGone", "I", false)
  | 35 => ("GasVoyagesModel", "whole", "[I", true)
  | 36 => ("GasVoyagesModel", "broken", "[I", true)
  | 37 => ("GasVoyagesModel", "nextWhole", "[I", true)
  | 38 => ("GasVoyagesModel", "nextBroken", "[I", true)
  | 39 => ("GasVoyagesModel", "wholeMany", "I", false)
  | 40 => ("GasVoyagesModel", "brokenMany", "I", false)
  | 41 => ("GasVoyagesModel", "far", "[I", true)
  | _ => ("GasVoyagesModel", "counts", "[Z", true)
def tyX10 : Nat → FieldType := fun k => match k with
  | 0 => .int
  | 1 => .int
  | 2 => .array .int
  | 3 => .array .int
  | 4 => .array .int
  | 5 => .array .int
  | 6 => .array .int
  | 7 => .array .int
  | 8 => .int
  | 9 => .array .int
  | 10 => .array .int
  | 11 => .array .int
  | 12 => .array .int
  | 13 => .array .int
  | 14 => .array .int
  | 15 => .array .int
  | 16 => .array .int
  | 17 => .array .boolean
  | 18 => .array .int
  | 19 => .array .int
  | 20 => .array .int
  | 21 => .array .int
  | 22 => .array .boolean
  | 23 => .int
  | 24 => .array .int
  | 25 => .array .int
  | 26 => .array .int
  | 27 => .array .int
  | 28 => .int
  | 29 => .int
  | 30 => .int
  | 31 => .int
  | 32 => .int
  | 33 => .int
  | 34 => .int
  | 35 => .array .int
  | 36 => .array .int
  | 37 => .array .int
  | 38 => .array .int
  | 39 => .int
  | 40 => .int
  | 41 => .array .int
  | _ => .array .boolean
abbrev wsX100 : List Cond := u_ws RX10 TX10 43
theorem nmX10 : ∀ a, a < 43 → ∀ b, b < 43 → a ≠ b → (TX10 a).2.1 ≠ (TX10 b).2.1 := by decide +kernel
theorem tyX10_ok : ∀ k, k < 43 → parseFieldDescriptor (TX10 k).2.2.1 = some (tyX10 k) := by decide +kernel
abbrev cX10_init : ByteArray := prog_12_method_1_code
def yX10_init : MethodName := ⟨RX10, "<init>", "()V"⟩
abbrev cX10_in : ByteArray := prog_12_method_3_code
def yX10_in : MethodName := ⟨RX10, "in", "(III)Z"⟩
abbrev cX10_isCell : ByteArray := prog_12_method_4_code
def yX10_isCell : MethodName := ⟨RX10, "isCell", "(II)Z"⟩
abbrev cX10_isFlight : ByteArray := prog_12_method_5_code
def yX10_isFlight : MethodName := ⟨RX10, "isFlight", "(I)Z"⟩
abbrev cX10_land : ByteArray := prog_12_method_6_code
def yX10_land : MethodName := ⟨RX10, "land", "(II)I"⟩
abbrev cX10_cell : ByteArray := prog_12_method_7_code
def yX10_cell : MethodName := ⟨RX10, "cell", "(III)I"⟩
abbrev cX10_level : ByteArray := prog_12_method_8_code
def yX10_level : MethodName := ⟨RX10, "level", "(III)I"⟩
abbrev cX10_warmth : ByteArray := prog_12_method_9_code
def yX10_warmth : MethodName := ⟨RX10, "warmth", "(II)I"⟩
abbrev cX10_wind : ByteArray := prog_12_method_10_code
def yX10_wind : MethodName := ⟨RX10, "wind", "(ZIIIII)I"⟩
abbrev cX10_windAt : ByteArray := prog_12_method_11_code
def yX10_windAt : MethodName := ⟨RX10, "windAt", "(III)I"⟩
abbrev cX10_tick : ByteArray := prog_12_method_12_code
def yX10_tick : MethodName := ⟨RX10, "tick", "(IIIII)V"⟩
abbrev cX10_led : ByteArray := prog_12_method_13_code
def yX10_led : MethodName := ⟨RX10, "led", "(IIIII)I"⟩
abbrev cX10_begin : ByteArray := prog_12_method_14_code
def yX10_begin : MethodName := ⟨RX10, "begin", "(I)V"⟩
abbrev cX10_writes : ByteArray := prog_12_method_15_code
def yX10_writes : MethodName := ⟨RX10, "writes", "(I)V"⟩
abbrev cX10_fly : ByteArray := prog_12_method_16_code
def yX10_fly : MethodName := ⟨RX10, "fly", "(IIIIII)I"⟩
abbrev cX10_go : ByteArray := prog_12_method_17_code
def yX10_go : MethodName := ⟨RX10, "go", "(IIII)I"⟩
abbrev cX10_about : ByteArray := prog_12_method_18_code
def yX10_about : MethodName := ⟨RX10, "about", "(II)I"⟩
abbrev cX10_distanceOf : ByteArray := prog_12_method_19_code
def yX10_distanceOf : MethodName := ⟨RX10, "distanceOf", "(II)I"⟩
abbrev cX10_distanceFlown : ByteArray := prog_12_method_20_code
def yX10_distanceFlown : MethodName := ⟨RX10, "distanceFlown", "(I)I"⟩
abbrev cX10_distance : ByteArray := prog_12_method_21_code
def yX10_distance : MethodName := ⟨RX10, "distance", "(I)I"⟩
abbrev cX10_planned : ByteArray := prog_12_method_22_code
def yX10_planned : MethodName := ⟨RX10, "planned", "(IIIIIZ)I"⟩
abbrev cX10_flown : ByteArray := prog_12_method_23_code
def yX10_flown : MethodName := ⟨RX10, "flown", "(IIIIIII)I"⟩
abbrev cX10_plan : ByteArray := prog_12_method_24_code
def yX10_plan : MethodName := ⟨RX10, "plan", "(IIIII)I"⟩
abbrev cX10_away : ByteArray := prog_12_method_25_code
def yX10_away : MethodName := ⟨RX10, "away", "(III)I"⟩
abbrev cX10_order : ByteArray := prog_12_method_26_code
def yX10_order : MethodName := ⟨RX10, "order", "(I)I"⟩
abbrev cX10_entry : ByteArray := prog_12_method_27_code
def yX10_entry : MethodName := ⟨RX10, "entry", "(III)I"⟩
abbrev cX10_lose : ByteArray := prog_12_method_28_code
def yX10_lose : MethodName := ⟨RX10, "lose", "(III)I"⟩
abbrev cX10_sum : ByteArray := prog_12_method_29_code
def yX10_sum : MethodName := ⟨RX10, "sum", "(II)I"⟩
abbrev cX10_findWays : ByteArray := prog_12_method_30_code
def yX10_findWays : MethodName := ⟨RX10, "findWays", "(I)V"⟩
abbrev cX10_goOn : ByteArray := prog_12_method_31_code
def yX10_goOn : MethodName := ⟨RX10, "goOn", "(III)V"⟩
abbrev cX10_judged : ByteArray := prog_12_method_32_code
def yX10_judged : MethodName := ⟨RX10, "judged", "(I)I"⟩
abbrev cX10_judge : ByteArray := prog_12_method_33_code
def yX10_judge : MethodName := ⟨RX10, "judge", "(I)I"⟩
abbrev cX10_ways : ByteArray := prog_12_method_34_code
def yX10_ways : MethodName := ⟨RX10, "ways", "(IZ)I"⟩
abbrev cX10_chaser : ByteArray := prog_12_method_35_code
def yX10_chaser : MethodName := ⟨RX10, "chaser", "(III)I"⟩
abbrev cX10_chased : ByteArray := prog_12_method_36_code
def yX10_chased : MethodName := ⟨RX10, "chased", "(III)I"⟩
abbrev cX10_reaches : ByteArray := prog_12_method_37_code
def yX10_reaches : MethodName := ⟨RX10, "reaches", "(III)Z"⟩
abbrev cX10_chase : ByteArray := prog_12_method_38_code
def yX10_chase : MethodName := ⟨RX10, "chase", "(III)I"⟩
abbrev cX10_first : ByteArray := prog_12_method_39_code
def yX10_first : MethodName := ⟨RX10, "first", "(I)I"⟩
abbrev cX10_isAhead : ByteArray := prog_12_method_40_code
def yX10_isAhead : MethodName := ⟨RX10, "isAhead", "(II)Z"⟩
abbrev cX10_record : ByteArray := prog_12_method_41_code
def yX10_record : MethodName := ⟨RX10, "record", "(I)I"⟩
abbrev cX10_count : ByteArray := prog_12_method_42_code
def yX10_count : MethodName := ⟨RX10, "count", "(I)I"⟩
abbrev cX10_digest : ByteArray := prog_12_method_43_code
def yX10_digest : MethodName := ⟨RX10, "digest", "()J"⟩
def RJ9 : String := "java/lang/Math"
def TJ9 : u_T := fun k => match k with
  | _ => ("", "", "", false)
def tyJ9 : Nat → FieldType := fun k => match k with
  | _ => .int
abbrev wsJ90 : List Cond := u_ws RJ9 TJ9 0
theorem nmJ9 : ∀ a, a < 0 → ∀ b, b < 0 → a ≠ b → (TJ9 a).2.1 ≠ (TJ9 b).2.1 := by decide +kernel
theorem tyJ9_ok : ∀ k, k < 0 → parseFieldDescriptor (TJ9 k).2.2.1 = some (tyJ9 k) := by decide +kernel
abbrev cJ9_max_7cf53 : ByteArray := prog_13_method_65_code
def yJ9_max_7cf53 : MethodName := ⟨RJ9, "max", "(II)I"⟩
abbrev cJ9_min_7cf53 : ByteArray := prog_13_method_69_code
def yJ9_min_7cf53 : MethodName := ⟨RJ9, "min", "(II)I"⟩
def RJ7 : String := "java/util/Arrays"
def TJ7 : u_T := fun k => match k with
  | _ => ("", "", "", false)
def tyJ7 : Nat → FieldType := fun k => match k with
  | _ => .int
abbrev wsJ70 : List Cond := u_ws RJ7 TJ7 0
theorem nmJ7 : ∀ a, a < 0 → ∀ b, b < 0 → a ≠ b → (TJ7 a).2.1 ≠ (TJ7 b).2.1 := by decide +kernel
theorem tyJ7_ok : ∀ k, k < 0 → parseFieldDescriptor (TJ7 k).2.2.1 = some (tyJ7 k) := by decide +kernel
abbrev cJ7_fill_53178 : ByteArray := prog_14_method_103_code
def yJ7_fill_53178 : MethodName := ⟨RJ7, "fill", "([II)V"⟩
def wsX8_init : List Cond := .code yX8_init cX8_init 1 none :: ([.methodLink RX8 3 objectInit, .instanceMethod objectInit, .code objectInit ⟨#[0xb1]⟩ 1 none, .arrayClass .int, .fieldLink RX8 9 "GasVoyages$Winds" "dx" "[I", .fieldLink RX8 15 "GasVoyages$Winds" "dy" "[I"] ++ wsX80)
def wsX0_init : List Cond := .code yX0_init cX0_init 2 none :: ([.methodLink RX0 3 objectInit, .instanceMethod objectInit, .code objectInit ⟨#[0xb1]⟩ 1 none, .arrayClass .int, .fieldLink RX0 9 "GasVoyages$Air" "density" "[I", .fieldLink RX0 15 "GasVoyages$Air" "fullness" "[I", .fieldLink RX0 18 "GasVoyages$Air" "warmth" "[I", .classLink RX0 21 RX8, .instantiable RX8 2, .initialized RX8, .fieldLink RX0 24 "GasVoyages$Air" "real" "LGasVoyages$Winds;", .fieldLink RX0 28 "GasVoyages$Air" "forecast" "LGasVoyages$Winds;", .instanceMethod yX8_init, .code yX8_init cX8_init 1 none, .methodLink RX8 3 objectInit, .fieldLink RX8 9 "GasVoyages$Winds" "dx" "[I", .fieldLink RX8 15 "GasVoyages$Winds" "dy" "[I"] ++ wsX00 ++ wsX80)
def wsX1_init : List Cond := .code yX1_init cX1_init 1 none :: ([.methodLink RX1 3 objectInit, .instanceMethod objectInit, .code objectInit ⟨#[0xb1]⟩ 1 none])
def wsX1_copyOf : List Cond := .code yX1_copyOf cX1_copyOf 2 none :: ([.fieldLink RX1 9 "GasVoyages$Balloon" "cell" "I", .fieldLink RX1 15 "GasVoyages$Balloon" "level" "I", .fieldLink RX1 18 "GasVoyages$Balloon" "tick" "I", .fieldLink RX1 21 "GasVoyages$Balloon" "load" "I", .fieldLink RX1 24 "GasVoyages$Balloon" "gas" "I", .fieldLink RX1 27 "GasVoyages$Balloon" "ballast" "I", .fieldLink RX1 30 "GasVoyages$Balloon" "vented" "I", .fieldLink RX1 33 "GasVoyages$Balloon" "landed" "Z"] ++ wsX10)
def wsX1_hour : List Cond := .code yX1_hour cX1_hour 1 (some .int) :: ([.fieldLink RX1 18 "GasVoyages$Balloon" "tick" "I"] ++ wsX10)
def wsX1_liftLessWeight : List Cond := .code yX1_liftLessWeight cX1_liftLessWeight 2 (some .int) :: ([.fieldLink RX1 24 "GasVoyages$Balloon" "gas" "I", .fieldLink RX1 37 "GasVoyages$Air" "density" "[I", .fieldLink RX1 15 "GasVoyages$Balloon" "level" "I", .fieldLink RX1 43 "GasVoyages$Air" "warmth" "[I", .fieldLink RX1 21 "GasVoyages$Balloon" "load" "I", .fieldLink RX1 27 "GasVoyages$Balloon" "ballast" "I", .methodLink RX1 46 yX1_hour, .instanceMethod yX1_hour, .selects RX1 yX1_hour yX1_hour, .initialized RX1, .code yX1_hour cX1_hour 1 (some .int), .fieldLink RX1 18 "GasVoyages$Balloon" "tick" "I"] ++ wsX10 ++ wsX00)
def wsX1_spend : List Cond := .code yX1_spend cX1_spend 3 none :: ([.fieldLink RX1 27 "GasVoyages$Balloon" "ballast" "I", .methodLink RX1 74 Lib.Math.min.name, .static Lib.Math.min.name, .initialized "java/lang/Math", .code Lib.Math.min.name Lib.Math.min.code 2 (some .int), .fieldLink RX1 24 "GasVoyages$Balloon" "gas" "I"] ++ wsX10)
def wsX1_climb : List Cond := .code yX1_climb cX1_climb 2 none :: ([.fieldLink RX1 15 "GasVoyages$Balloon" "level" "I", .methodLink RX1 74 Lib.Math.min.name, .static Lib.Math.min.name, .initialized "java/lang/Math", .code Lib.Math.min.name Lib.Math.min.code 2 (some .int), .methodLink RX1 80 Lib.Math.max.name, .static Lib.Math.max.name, .code Lib.Math.max.name Lib.Math.max.code 2 (some .int)] ++ wsX10)
def wsX1_ventAbove : List Cond := .code yX1_ventAbove cX1_ventAbove 2 none :: ([.fieldLink RX1 24 "GasVoyages$Balloon" "gas" "I", .fieldLink RX1 30 "GasVoyages$Balloon" "vented" "I"] ++ wsX10)
def wsX9_xOf : List Cond := .code yX9_xOf cX9_xOf 1 (some .int) :: ([])
def wsX9_yOf : List Cond := .code yX9_yOf cX9_yOf 1 (some .int) :: ([])
def wsX9_within : List Cond := .code yX9_within cX9_within 3 (some .boolean) :: ([])
def wsX5_has : List Cond := .code yX5_has cX5_has 3 (some .boolean) :: ([.fieldLink RX5 9 "GasVoyages$Land" "w" "I", .fieldLink RX5 15 "GasVoyages$Land" "h" "I", .static yX9_within, .initialized RX9, .code yX9_within cX9_within 3 (some .boolean)] ++ wsX50)
def wsX9_cellOf : List Cond := .code yX9_cellOf cX9_cellOf 2 (some .int) :: ([])
def wsX5_movedFrom : List Cond := .code yX5_movedFrom cX5_movedFrom 6 (some .int) :: ([.static yX9_xOf, .initialized RX9, .code yX9_xOf cX9_xOf 1 (some .int), .static yX9_yOf, .code yX9_yOf cX9_yOf 1 (some .int), .methodLink RX5 39 yX5_has, .instanceMethod yX5_has, .selects RX5 yX5_has yX5_has, .initialized RX5, .code yX5_has cX5_has 3 (some .boolean), .fieldLink RX5 9 "GasVoyages$Land" "w" "I", .fieldLink RX5 15 "GasVoyages$Land" "h" "I", .static yX9_within, .code yX9_within cX9_within 3 (some .boolean), .static yX9_cellOf, .code yX9_cellOf cX9_cellOf 2 (some .int)] ++ wsX50)
def wsX8_leadFrom : List Cond := .code yX8_leadFrom cX8_leadFrom 6 (some .int) :: ([.fieldLink RX8 9 "GasVoyages$Winds" "dx" "[I", .fieldLink RX8 15 "GasVoyages$Winds" "dy" "[I", .methodLink RX8 18 yX5_movedFrom, .instanceMethod yX5_movedFrom, .selects RX5 yX5_movedFrom yX5_movedFrom, .initialized RX5, .code yX5_movedFrom cX5_movedFrom 6 (some .int), .static yX9_xOf, .initialized RX9, .code yX9_xOf cX9_xOf 1 (some .int), .static yX9_yOf, .code yX9_yOf cX9_yOf 1 (some .int), .methodLink RX5 39 yX5_has, .instanceMethod yX5_has, .selects RX5 yX5_has yX5_has, .code yX5_has cX5_has 3 (some .boolean), .fieldLink RX5 9 "GasVoyages$Land" "w" "I", .fieldLink RX5 15 "GasVoyages$Land" "h" "I", .static yX9_within, .code yX9_within cX9_within 3 (some .boolean), .static yX9_cellOf, .code yX9_cellOf cX9_cellOf 2 (some .int)] ++ wsX80 ++ wsX50)
def wsX1_pass_r1 : List Cond := [Cond.fieldLink RX1 62 "GasVoyages$Air" "fullness" "[I", Cond.fieldLink RX1 15 "GasVoyages$Balloon" "level" "I", Cond.fieldLink RX1 33 "GasVoyages$Balloon" "landed" "Z", Cond.fieldLink RX1 9 "GasVoyages$Balloon" "cell" "I", Cond.fieldLink RX1 18 "GasVoyages$Balloon" "tick" "I", Cond.methodLink RX1 50 yX1_spend, Cond.instanceMethod yX1_spend, Cond.selects RX1 yX1_spend yX1_spend, Cond.initialized RX1, Cond.code yX1_spend cX1_spend 3 none, Cond.fieldLink RX1 27 "GasVoyages$Balloon" "ballast" "I", Cond.methodLink RX1 74 Lib.Math.min.name, Cond.static Lib.Math.min.name, Cond.initialized "java/lang/Math", Cond.code Lib.Math.min.name Lib.Math.min.code 2 (some .int), Cond.fieldLink RX1 24 "GasVoyages$Balloon" "gas" "I", Cond.methodLink RX1 54 yX1_liftLessWeight, Cond.instanceMethod yX1_liftLessWeight, Cond.selects RX1 yX1_liftLessWeight yX1_liftLessWeight, Cond.code yX1_liftLessWeight cX1_liftLessWeight 2 (some .int), Cond.fieldLink RX1 37 "GasVoyages$Air" "density" "[I", Cond.fieldLink RX1 43 "GasVoyages$Air" "warmth" "[I", Cond.fieldLink RX1 21 "GasVoyages$Balloon" "load" "I", Cond.methodLink RX1 46 yX1_hour]
def wsX1_pass_r2 : List Cond := [Cond.instanceMethod yX1_hour, Cond.selects RX1 yX1_hour yX1_hour, Cond.code yX1_hour cX1_hour 1 (some .int), Cond.methodLink RX1 58 yX1_climb, Cond.instanceMethod yX1_climb, Cond.selects RX1 yX1_climb yX1_climb, Cond.code yX1_climb cX1_climb 2 none, Cond.methodLink RX1 80 Lib.Math.max.name, Cond.static Lib.Math.max.name, Cond.code Lib.Math.max.name Lib.Math.max.code 2 (some .int), Cond.methodLink RX1 65 yX1_ventAbove, Cond.instanceMethod yX1_ventAbove, Cond.selects RX1 yX1_ventAbove yX1_ventAbove, Cond.code yX1_ventAbove cX1_ventAbove 2 none, Cond.fieldLink RX1 30 "GasVoyages$Balloon" "vented" "I", Cond.methodLink RX1 68 yX8_leadFrom, Cond.instanceMethod yX8_leadFrom, Cond.selects RX8 yX8_leadFrom yX8_leadFrom, Cond.initialized RX8, Cond.code yX8_leadFrom cX8_leadFrom 6 (some .int), Cond.fieldLink RX8 9 "GasVoyages$Winds" "dx" "[I", Cond.fieldLink RX8 15 "GasVoyages$Winds" "dy" "[I", Cond.methodLink RX8 18 yX5_movedFrom, Cond.instanceMethod yX5_movedFrom]
def wsX1_pass_r3 : List Cond := [Cond.selects RX5 yX5_movedFrom yX5_movedFrom, Cond.initialized RX5, Cond.code yX5_movedFrom cX5_movedFrom 6 (some .int), Cond.static yX9_xOf, Cond.initialized RX9, Cond.code yX9_xOf cX9_xOf 1 (some .int), Cond.static yX9_yOf, Cond.code yX9_yOf cX9_yOf 1 (some .int), Cond.methodLink RX5 39 yX5_has, Cond.instanceMethod yX5_has, Cond.selects RX5 yX5_has yX5_has, Cond.code yX5_has cX5_has 3 (some .boolean), Cond.fieldLink RX5 9 "GasVoyages$Land" "w" "I", Cond.fieldLink RX5 15 "GasVoyages$Land" "h" "I", Cond.static yX9_within, Cond.code yX9_within cX9_within 3 (some .boolean), Cond.static yX9_cellOf, Cond.code yX9_cellOf cX9_cellOf 2 (some .int)]
def wsX1_pass : List Cond := .code yX1_pass cX1_pass 6 none :: ((wsX1_pass_r1 ++ (wsX1_pass_r2 ++ wsX1_pass_r3)) ++ wsX00 ++ wsX10 ++ wsX80 ++ wsX50)
def wsX2_init : List Cond := .code yX2_init cX2_init 2 none :: ([.methodLink RX2 3 objectInit, .instanceMethod objectInit, .code objectInit ⟨#[0xb1]⟩ 1 none, .arrayClass .int, .fieldLink RX2 9 "GasVoyages$Chasers" "cells" "[I", .fieldLink RX2 15 "GasVoyages$Chasers" "paces" "[I", .fieldLink RX2 18 "GasVoyages$Chasers" "number" "I", .fieldLink RX2 22 "GasVoyages$Chasers" "steps" "[I", .fieldLink RX2 25 "GasVoyages$Chasers" "queue" "[I", .fieldLink RX2 28 "GasVoyages$Chasers" "land" "LGasVoyages$Land;"] ++ wsX20)
def wsX2_add : List Cond := .code yX2_add cX2_add 3 none :: ([.fieldLink RX2 18 "GasVoyages$Chasers" "number" "I", .fieldLink RX2 9 "GasVoyages$Chasers" "cells" "[I", .fieldLink RX2 15 "GasVoyages$Chasers" "paces" "[I"] ++ wsX20)
def wsX2_standOn : List Cond := .code yX2_standOn cX2_standOn 3 (some .boolean) :: ([.fieldLink RX2 18 "GasVoyages$Chasers" "number" "I", .fieldLink RX2 9 "GasVoyages$Chasers" "cells" "[I"] ++ wsX20)
def wsJ7_fill_53178 : List Cond := .code yJ7_fill_53178 cJ7_fill_53178 4 none :: ([])
def wsX2_stepOn : List Cond := .code yX2_stepOn cX2_stepOn 6 (some .int) :: ([.fieldLink RX2 28 "GasVoyages$Chasers" "land" "LGasVoyages$Land;", .fieldLink RX2 22 "GasVoyages$Chasers" "steps" "[I", .fieldLink RX2 38 "GasVoyages$Land" "kinds" "[I", .fieldLink RX2 25 "GasVoyages$Chasers" "queue" "[I", .methodLink RX2 53 yX5_movedFrom, .instanceMethod yX5_movedFrom, .selects RX5 yX5_movedFrom yX5_movedFrom, .initialized RX5, .code yX5_movedFrom cX5_movedFrom 6 (some .int), .static yX9_xOf, .initialized RX9, .code yX9_xOf cX9_xOf 1 (some .int), .static yX9_yOf, .code yX9_yOf cX9_yOf 1 (some .int), .methodLink RX5 39 yX5_has, .instanceMethod yX5_has, .selects RX5 yX5_has yX5_has, .code yX5_has cX5_has 3 (some .boolean), .fieldLink RX5 9 "GasVoyages$Land" "w" "I", .fieldLink RX5 15 "GasVoyages$Land" "h" "I", .static yX9_within, .code yX9_within cX9_within 3 (some .boolean), .static yX9_cellOf, .code yX9_cellOf cX9_cellOf 2 (some .int)] ++ wsX20 ++ wsX50)
def wsX2_measureFrom_r1 : List Cond := [Cond.fieldLink RX2 22 "GasVoyages$Chasers" "steps" "[I", Cond.fieldLink RX2 28 "GasVoyages$Chasers" "land" "LGasVoyages$Land;", Cond.fieldLink RX2 38 "GasVoyages$Land" "kinds" "[I", Cond.fieldLink RX2 25 "GasVoyages$Chasers" "queue" "[I", Cond.methodLink RX2 32 yJ7_fill_53178, Cond.static yJ7_fill_53178, Cond.initialized RJ7, Cond.code yJ7_fill_53178 cJ7_fill_53178 4 none, Cond.methodLink RX2 43 yX2_stepOn, Cond.instanceMethod yX2_stepOn, Cond.selects RX2 yX2_stepOn yX2_stepOn, Cond.initialized RX2, Cond.code yX2_stepOn cX2_stepOn 6 (some .int), Cond.methodLink RX2 53 yX5_movedFrom, Cond.instanceMethod yX5_movedFrom, Cond.selects RX5 yX5_movedFrom yX5_movedFrom, Cond.initialized RX5, Cond.code yX5_movedFrom cX5_movedFrom 6 (some .int), Cond.static yX9_xOf, Cond.initialized RX9, Cond.code yX9_xOf cX9_xOf 1 (some .int), Cond.static yX9_yOf, Cond.code yX9_yOf cX9_yOf 1 (some .int), Cond.methodLink RX5 39 yX5_has]
def wsX2_measureFrom_r2 : List Cond := [Cond.instanceMethod yX5_has, Cond.selects RX5 yX5_has yX5_has, Cond.code yX5_has cX5_has 3 (some .boolean), Cond.fieldLink RX5 9 "GasVoyages$Land" "w" "I", Cond.fieldLink RX5 15 "GasVoyages$Land" "h" "I", Cond.static yX9_within, Cond.code yX9_within cX9_within 3 (some .boolean), Cond.static yX9_cellOf, Cond.code yX9_cellOf cX9_cellOf 2 (some .int)]
def wsX2_measureFrom : List Cond := .code yX2_measureFrom cX2_measureFrom 4 none :: ((wsX2_measureFrom_r1 ++ wsX2_measureFrom_r2) ++ wsX20 ++ wsX50)
def wsX2_ticksOf : List Cond := .code yX2_ticksOf cX2_ticksOf 4 (some .int) :: ([.fieldLink RX2 22 "GasVoyages$Chasers" "steps" "[I", .fieldLink RX2 9 "GasVoyages$Chasers" "cells" "[I", .fieldLink RX2 15 "GasVoyages$Chasers" "paces" "[I"] ++ wsX20)
def wsX2_soonest : List Cond := .code yX2_soonest cX2_soonest 5 (some .int) :: ([.fieldLink RX2 18 "GasVoyages$Chasers" "number" "I", .methodLink RX2 57 yX2_ticksOf, .instanceMethod yX2_ticksOf, .selects RX2 yX2_ticksOf yX2_ticksOf, .initialized RX2, .code yX2_ticksOf cX2_ticksOf 4 (some .int), .fieldLink RX2 22 "GasVoyages$Chasers" "steps" "[I", .fieldLink RX2 9 "GasVoyages$Chasers" "cells" "[I", .fieldLink RX2 15 "GasVoyages$Chasers" "paces" "[I"] ++ wsX20)
def wsX3_init : List Cond := .code yX3_init cX3_init 1 none :: ([.methodLink RX3 3 objectInit, .instanceMethod objectInit, .code objectInit ⟨#[0xb1]⟩ 1 none, .classLink RX3 9 RX1, .instantiable RX1 8, .initialized RX1, .fieldLink RX3 12 "GasVoyages$Flight" "balloon" "LGasVoyages$Balloon;", .arrayClass .int, .fieldLink RX3 18 "GasVoyages$Flight" "places" "[I", .arrayClass .boolean, .fieldLink RX3 22 "GasVoyages$Flight" "lost" "[Z", .instanceMethod yX1_init, .code yX1_init cX1_init 1 none, .methodLink RX1 3 objectInit] ++ wsX10 ++ wsX30)
def wsX9_placeOf : List Cond := .code yX9_placeOf cX9_placeOf 2 (some .int) :: ([])
def wsX3_writeDown : List Cond := .code yX3_writeDown cX3_writeDown 1 none :: ([.fieldLink RX3 58 "GasVoyages$Flight" "entries" "I", .fieldLink RX3 18 "GasVoyages$Flight" "places" "[I", .fieldLink RX3 12 "GasVoyages$Flight" "balloon" "LGasVoyages$Balloon;", .fieldLink RX3 33 "GasVoyages$Balloon" "cell" "I", .fieldLink RX3 36 "GasVoyages$Balloon" "level" "I", .fieldLink RX3 22 "GasVoyages$Flight" "lost" "[Z", .static yX9_placeOf, .initialized RX9, .code yX9_placeOf cX9_placeOf 2 (some .int)] ++ wsX30 ++ wsX10)
def wsX3_begin : List Cond := .code yX3_begin cX3_begin 6 none :: ([.fieldLink RX3 26 "GasVoyages$Flight" "startCell" "I", .fieldLink RX3 30 "GasVoyages$Flight" "startTick" "I", .fieldLink RX3 12 "GasVoyages$Flight" "balloon" "LGasVoyages$Balloon;", .fieldLink RX3 33 "GasVoyages$Balloon" "cell" "I", .fieldLink RX3 36 "GasVoyages$Balloon" "level" "I", .fieldLink RX3 39 "GasVoyages$Balloon" "tick" "I", .fieldLink RX3 42 "GasVoyages$Balloon" "load" "I", .fieldLink RX3 45 "GasVoyages$Balloon" "gas" "I", .fieldLink RX3 48 "GasVoyages$Balloon" "ballast" "I", .fieldLink RX3 51 "GasVoyages$Balloon" "vented" "I", .fieldLink RX3 54 "GasVoyages$Balloon" "landed" "Z", .fieldLink RX3 58 "GasVoyages$Flight" "entries" "I", .fieldLink RX3 61 "GasVoyages$Flight" "lostCount" "I", .methodLink RX3 64 yX3_writeDown, .instanceMethod yX3_writeDown, .selects RX3 yX3_writeDown yX3_writeDown, .initialized RX3, .code yX3_writeDown cX3_writeDown 1 none, .fieldLink RX3 18 "GasVoyages$Flight" "places" "[I", .fieldLink RX3 22 "GasVoyages$Flight" "lost" "[Z", .static yX9_placeOf, .initialized RX9, .code yX9_placeOf cX9_placeOf 2 (some .int)] ++ wsX30 ++ wsX10)
def wsX3_forget : List Cond := .code yX3_forget cX3_forget 6 (some .int) :: ([.fieldLink RX3 58 "GasVoyages$Flight" "entries" "I", .methodLink RX3 71 Lib.Math.min.name, .static Lib.Math.min.name, .initialized "java/lang/Math", .code Lib.Math.min.name Lib.Math.min.code 2 (some .int), .fieldLink RX3 22 "GasVoyages$Flight" "lost" "[Z", .fieldLink RX3 61 "GasVoyages$Flight" "lostCount" "I"] ++ wsX30)
def wsX9_squareBetween : List Cond := .code yX9_squareBetween cX9_squareBetween 4 (some .int) :: ([.methodLink RX9 145 yX9_xOf, .static yX9_xOf, .initialized RX9, .code yX9_xOf cX9_xOf 1 (some .int), .methodLink RX9 149 yX9_yOf, .static yX9_yOf, .code yX9_yOf cX9_yOf 1 (some .int)])
def wsX3_flown : List Cond := .code yX3_flown cX3_flown 5 (some .int) :: ([.fieldLink RX3 26 "GasVoyages$Flight" "startCell" "I", .fieldLink RX3 12 "GasVoyages$Flight" "balloon" "LGasVoyages$Balloon;", .fieldLink RX3 33 "GasVoyages$Balloon" "cell" "I", .static yX9_squareBetween, .initialized RX9, .code yX9_squareBetween cX9_squareBetween 4 (some .int), .methodLink RX9 145 yX9_xOf, .static yX9_xOf, .code yX9_xOf cX9_xOf 1 (some .int), .methodLink RX9 149 yX9_yOf, .static yX9_yOf, .code yX9_yOf cX9_yOf 1 (some .int)] ++ wsX30 ++ wsX10)
def wsX4_init : List Cond := .code yX4_init cX4_init 1 none :: ([.methodLink RX4 3 objectInit, .instanceMethod objectInit, .code objectInit ⟨#[0xb1]⟩ 1 none, .arrayClass .int, .fieldLink RX4 9 "GasVoyages$Front" "places" "[I", .fieldLink RX4 15 "GasVoyages$Front" "clean" "[I", .fieldLink RX4 18 "GasVoyages$Front" "broken" "[I", .fieldLink RX4 21 "GasVoyages$Front" "size" "I"] ++ wsX40)
def wsX4_clear : List Cond := .code yX4_clear cX4_clear 2 none :: ([.fieldLink RX4 21 "GasVoyages$Front" "size" "I", .fieldLink RX4 15 "GasVoyages$Front" "clean" "[I", .fieldLink RX4 9 "GasVoyages$Front" "places" "[I", .fieldLink RX4 18 "GasVoyages$Front" "broken" "[I"] ++ wsX40)
def wsX4_add : List Cond := .code yX4_add cX4_add 4 none :: ([.fieldLink RX4 15 "GasVoyages$Front" "clean" "[I", .fieldLink RX4 18 "GasVoyages$Front" "broken" "[I", .fieldLink RX4 21 "GasVoyages$Front" "size" "I", .fieldLink RX4 9 "GasVoyages$Front" "places" "[I", .constant RX4 25 (1000000), .methodLink RX4 26 Lib.Math.min.name, .static Lib.Math.min.name, .initialized "java/lang/Math", .code Lib.Math.min.name Lib.Math.min.code 2 (some .int)] ++ wsX40)
def wsX5_init : List Cond := .code yX5_init cX5_init 1 none :: ([.methodLink RX5 3 objectInit, .instanceMethod objectInit, .code objectInit ⟨#[0xb1]⟩ 1 none, .fieldLink RX5 9 "GasVoyages$Land" "w" "I", .fieldLink RX5 15 "GasVoyages$Land" "h" "I", .arrayClass .int, .fieldLink RX5 18 "GasVoyages$Land" "kinds" "[I"] ++ wsX50)
def wsX5_clear : List Cond := .code yX5_clear cX5_clear 3 none :: ([.fieldLink RX5 9 "GasVoyages$Land" "w" "I", .fieldLink RX5 15 "GasVoyages$Land" "h" "I", .fieldLink RX5 18 "GasVoyages$Land" "kinds" "[I", .methodLink RX5 22 yJ7_fill_53178, .static yJ7_fill_53178, .initialized RJ7, .code yJ7_fill_53178 cJ7_fill_53178 4 none] ++ wsX50)
def wsX5_countClosed : List Cond := .code yX5_countClosed cX5_countClosed 3 (some .int) :: ([.fieldLink RX5 18 "GasVoyages$Land" "kinds" "[I"] ++ wsX50)
def wsX6_init : List Cond := .code yX6_init cX6_init 4 none :: ([.methodLink RX6 3 objectInit, .instanceMethod objectInit, .code objectInit ⟨#[0xb1]⟩ 1 none, .classLink RX6 9 RX1, .fieldLink RX6 11 "GasVoyages$Planner" "behind" "[LGasVoyages$Balloon;", .arrayClass .int, .fieldLink RX6 17 "GasVoyages$Planner" "row" "[I", .fieldLink RX6 21 "GasVoyages$Planner" "found" "[I", .fieldLink RX6 24 "GasVoyages$Planner" "foundLength" "I", .fieldLink RX6 28 "GasVoyages$Planner" "land" "LGasVoyages$Land;", .fieldLink RX6 32 "GasVoyages$Planner" "air" "LGasVoyages$Air;", .instantiable RX1 8, .initialized RX1, .instanceMethod yX1_init, .code yX1_init cX1_init 1 none, .methodLink RX1 3 objectInit] ++ wsX60 ++ wsX10)
def wsX6_weigh : List Cond := .code yX6_weigh cX6_weigh 5 none :: ([.fieldLink RX6 11 "GasVoyages$Planner" "behind" "[LGasVoyages$Balloon;", .fieldLink RX6 86 "GasVoyages$Balloon" "cell" "I", .fieldLink RX6 43 "GasVoyages$Planner" "aim" "I", .fieldLink RX6 46 "GasVoyages$Planner" "near" "Z", .fieldLink RX6 50 "GasVoyages$Planner" "bestSquare" "I", .fieldLink RX6 37 "GasVoyages$Planner" "length" "I", .fieldLink RX6 24 "GasVoyages$Planner" "foundLength" "I", .fieldLink RX6 21 "GasVoyages$Planner" "found" "[I", .fieldLink RX6 17 "GasVoyages$Planner" "row" "[I", .static yX9_squareBetween, .initialized RX9, .code yX9_squareBetween cX9_squareBetween 4 (some .int), .methodLink RX9 145 yX9_xOf, .static yX9_xOf, .code yX9_xOf cX9_xOf 1 (some .int), .methodLink RX9 149 yX9_yOf, .static yX9_yOf, .code yX9_yOf cX9_yOf 1 (some .int)] ++ wsX60 ++ wsX10)
def wsX6_mayBe : List Cond := .code yX6_mayBe cX6_mayBe 3 (some .boolean) :: ([.fieldLink RX6 28 "GasVoyages$Planner" "land" "LGasVoyages$Land;", .fieldLink RX6 81 "GasVoyages$Land" "kinds" "[I", .fieldLink RX6 86 "GasVoyages$Balloon" "cell" "I", .fieldLink RX6 61 "GasVoyages$Balloon" "landed" "Z"] ++ wsX60 ++ wsX50 ++ wsX10)
def wsX6_tryFrom_r1 : List Cond := [Cond.fieldLink RX6 37 "GasVoyages$Planner" "length" "I", Cond.fieldLink RX6 11 "GasVoyages$Planner" "behind" "[LGasVoyages$Balloon;", Cond.fieldLink RX6 61 "GasVoyages$Balloon" "landed" "Z", Cond.fieldLink RX6 40 "GasVoyages$Planner" "dose" "I", Cond.fieldLink RX6 32 "GasVoyages$Planner" "air" "LGasVoyages$Air;", Cond.fieldLink RX6 67 "GasVoyages$Air" "forecast" "LGasVoyages$Winds;", Cond.fieldLink RX6 28 "GasVoyages$Planner" "land" "LGasVoyages$Land;", Cond.fieldLink RX6 17 "GasVoyages$Planner" "row" "[I", Cond.methodLink RX6 64 yX6_weigh, Cond.instanceMethod yX6_weigh, Cond.selects RX6 yX6_weigh yX6_weigh, Cond.initialized RX6, Cond.code yX6_weigh cX6_weigh 5 none, Cond.fieldLink RX6 86 "GasVoyages$Balloon" "cell" "I", Cond.fieldLink RX6 43 "GasVoyages$Planner" "aim" "I", Cond.fieldLink RX6 46 "GasVoyages$Planner" "near" "Z", Cond.fieldLink RX6 50 "GasVoyages$Planner" "bestSquare" "I", Cond.fieldLink RX6 24 "GasVoyages$Planner" "foundLength" "I", Cond.fieldLink RX6 21 "GasVoyages$Planner" "found" "[I", Cond.static yX9_squareBetween, Cond.initialized RX9, Cond.code yX9_squareBetween cX9_squareBetween 4 (some .int), Cond.methodLink RX9 145 yX9_xOf, Cond.static yX9_xOf]
def wsX6_tryFrom_r2 : List Cond := [Cond.code yX9_xOf cX9_xOf 1 (some .int), Cond.methodLink RX9 149 yX9_yOf, Cond.static yX9_yOf, Cond.code yX9_yOf cX9_yOf 1 (some .int), Cond.methodLink RX6 53 yX1_copyOf, Cond.instanceMethod yX1_copyOf, Cond.selects RX1 yX1_copyOf yX1_copyOf, Cond.initialized RX1, Cond.code yX1_copyOf cX1_copyOf 2 none, Cond.fieldLink RX1 9 "GasVoyages$Balloon" "cell" "I", Cond.fieldLink RX1 15 "GasVoyages$Balloon" "level" "I", Cond.fieldLink RX1 18 "GasVoyages$Balloon" "tick" "I", Cond.fieldLink RX1 21 "GasVoyages$Balloon" "load" "I", Cond.fieldLink RX1 24 "GasVoyages$Balloon" "gas" "I", Cond.fieldLink RX1 27 "GasVoyages$Balloon" "ballast" "I", Cond.fieldLink RX1 30 "GasVoyages$Balloon" "vented" "I", Cond.fieldLink RX1 33 "GasVoyages$Balloon" "landed" "Z", Cond.methodLink RX6 73 yX1_pass, Cond.instanceMethod yX1_pass, Cond.selects RX1 yX1_pass yX1_pass, Cond.code yX1_pass cX1_pass 6 none, Cond.fieldLink RX1 62 "GasVoyages$Air" "fullness" "[I", Cond.methodLink RX1 50 yX1_spend, Cond.instanceMethod yX1_spend]
def wsX6_tryFrom_r3 : List Cond := [Cond.selects RX1 yX1_spend yX1_spend, Cond.code yX1_spend cX1_spend 3 none, Cond.methodLink RX1 74 Lib.Math.min.name, Cond.static Lib.Math.min.name, Cond.initialized "java/lang/Math", Cond.code Lib.Math.min.name Lib.Math.min.code 2 (some .int), Cond.methodLink RX1 54 yX1_liftLessWeight, Cond.instanceMethod yX1_liftLessWeight, Cond.selects RX1 yX1_liftLessWeight yX1_liftLessWeight, Cond.code yX1_liftLessWeight cX1_liftLessWeight 2 (some .int), Cond.fieldLink RX1 37 "GasVoyages$Air" "density" "[I", Cond.fieldLink RX1 43 "GasVoyages$Air" "warmth" "[I", Cond.methodLink RX1 46 yX1_hour, Cond.instanceMethod yX1_hour, Cond.selects RX1 yX1_hour yX1_hour, Cond.code yX1_hour cX1_hour 1 (some .int), Cond.methodLink RX1 58 yX1_climb, Cond.instanceMethod yX1_climb, Cond.selects RX1 yX1_climb yX1_climb, Cond.code yX1_climb cX1_climb 2 none, Cond.methodLink RX1 80 Lib.Math.max.name, Cond.static Lib.Math.max.name, Cond.code Lib.Math.max.name Lib.Math.max.code 2 (some .int), Cond.methodLink RX1 65 yX1_ventAbove]
def wsX6_tryFrom_r4 : List Cond := [Cond.instanceMethod yX1_ventAbove, Cond.selects RX1 yX1_ventAbove yX1_ventAbove, Cond.code yX1_ventAbove cX1_ventAbove 2 none, Cond.methodLink RX1 68 yX8_leadFrom, Cond.instanceMethod yX8_leadFrom, Cond.selects RX8 yX8_leadFrom yX8_leadFrom, Cond.initialized RX8, Cond.code yX8_leadFrom cX8_leadFrom 6 (some .int), Cond.fieldLink RX8 9 "GasVoyages$Winds" "dx" "[I", Cond.fieldLink RX8 15 "GasVoyages$Winds" "dy" "[I", Cond.methodLink RX8 18 yX5_movedFrom, Cond.instanceMethod yX5_movedFrom, Cond.selects RX5 yX5_movedFrom yX5_movedFrom, Cond.initialized RX5, Cond.code yX5_movedFrom cX5_movedFrom 6 (some .int), Cond.methodLink RX5 39 yX5_has, Cond.instanceMethod yX5_has, Cond.selects RX5 yX5_has yX5_has, Cond.code yX5_has cX5_has 3 (some .boolean), Cond.fieldLink RX5 9 "GasVoyages$Land" "w" "I", Cond.fieldLink RX5 15 "GasVoyages$Land" "h" "I", Cond.static yX9_within, Cond.code yX9_within cX9_within 3 (some .boolean), Cond.static yX9_cellOf]
def wsX6_tryFrom_r5 : List Cond := [Cond.code yX9_cellOf cX9_cellOf 2 (some .int), Cond.methodLink RX6 77 yX6_mayBe, Cond.instanceMethod yX6_mayBe, Cond.selects RX6 yX6_mayBe yX6_mayBe, Cond.code yX6_mayBe cX6_mayBe 3 (some .boolean), Cond.fieldLink RX6 81 "GasVoyages$Land" "kinds" "[I", Cond.methodLink RX6 57 yX6_tryFrom, Cond.instanceMethod yX6_tryFrom, Cond.selects RX6 yX6_tryFrom yX6_tryFrom]
def wsX6_tryFrom : List Cond := .code yX6_tryFrom cX6_tryFrom 4 none :: ((wsX6_tryFrom_r1 ++ (wsX6_tryFrom_r2 ++ (wsX6_tryFrom_r3 ++ (wsX6_tryFrom_r4 ++ wsX6_tryFrom_r5)))) ++ wsX60 ++ wsX10 ++ wsX00 ++ wsX80 ++ wsX50)
def wsX6_best_r1 : List Cond := [Cond.fieldLink RX6 37 "GasVoyages$Planner" "length" "I", Cond.fieldLink RX6 40 "GasVoyages$Planner" "dose" "I", Cond.fieldLink RX6 43 "GasVoyages$Planner" "aim" "I", Cond.fieldLink RX6 46 "GasVoyages$Planner" "near" "Z", Cond.fieldLink RX6 50 "GasVoyages$Planner" "bestSquare" "I", Cond.fieldLink RX6 11 "GasVoyages$Planner" "behind" "[LGasVoyages$Balloon;", Cond.methodLink RX6 53 yX1_copyOf, Cond.instanceMethod yX1_copyOf, Cond.selects RX1 yX1_copyOf yX1_copyOf, Cond.initialized RX1, Cond.code yX1_copyOf cX1_copyOf 2 none, Cond.fieldLink RX1 9 "GasVoyages$Balloon" "cell" "I", Cond.fieldLink RX1 15 "GasVoyages$Balloon" "level" "I", Cond.fieldLink RX1 18 "GasVoyages$Balloon" "tick" "I", Cond.fieldLink RX1 21 "GasVoyages$Balloon" "load" "I", Cond.fieldLink RX1 24 "GasVoyages$Balloon" "gas" "I", Cond.fieldLink RX1 27 "GasVoyages$Balloon" "ballast" "I", Cond.fieldLink RX1 30 "GasVoyages$Balloon" "vented" "I", Cond.fieldLink RX1 33 "GasVoyages$Balloon" "landed" "Z", Cond.methodLink RX6 57 yX6_tryFrom, Cond.instanceMethod yX6_tryFrom, Cond.selects RX6 yX6_tryFrom yX6_tryFrom, Cond.initialized RX6, Cond.code yX6_tryFrom cX6_tryFrom 4 none]
def wsX6_best_r2 : List Cond := [Cond.fieldLink RX6 61 "GasVoyages$Balloon" "landed" "Z", Cond.fieldLink RX6 32 "GasVoyages$Planner" "air" "LGasVoyages$Air;", Cond.fieldLink RX6 67 "GasVoyages$Air" "forecast" "LGasVoyages$Winds;", Cond.fieldLink RX6 28 "GasVoyages$Planner" "land" "LGasVoyages$Land;", Cond.fieldLink RX6 17 "GasVoyages$Planner" "row" "[I", Cond.methodLink RX6 64 yX6_weigh, Cond.instanceMethod yX6_weigh, Cond.selects RX6 yX6_weigh yX6_weigh, Cond.code yX6_weigh cX6_weigh 5 none, Cond.fieldLink RX6 86 "GasVoyages$Balloon" "cell" "I", Cond.fieldLink RX6 24 "GasVoyages$Planner" "foundLength" "I", Cond.fieldLink RX6 21 "GasVoyages$Planner" "found" "[I", Cond.static yX9_squareBetween, Cond.initialized RX9, Cond.code yX9_squareBetween cX9_squareBetween 4 (some .int), Cond.methodLink RX9 145 yX9_xOf, Cond.static yX9_xOf, Cond.code yX9_xOf cX9_xOf 1 (some .int), Cond.methodLink RX9 149 yX9_yOf, Cond.static yX9_yOf, Cond.code yX9_yOf cX9_yOf 1 (some .int), Cond.methodLink RX6 73 yX1_pass, Cond.instanceMethod yX1_pass, Cond.selects RX1 yX1_pass yX1_pass]
def wsX6_best_r3 : List Cond := [Cond.code yX1_pass cX1_pass 6 none, Cond.fieldLink RX1 62 "GasVoyages$Air" "fullness" "[I", Cond.methodLink RX1 50 yX1_spend, Cond.instanceMethod yX1_spend, Cond.selects RX1 yX1_spend yX1_spend, Cond.code yX1_spend cX1_spend 3 none, Cond.methodLink RX1 74 Lib.Math.min.name, Cond.static Lib.Math.min.name, Cond.initialized "java/lang/Math", Cond.code Lib.Math.min.name Lib.Math.min.code 2 (some .int), Cond.methodLink RX1 54 yX1_liftLessWeight, Cond.instanceMethod yX1_liftLessWeight, Cond.selects RX1 yX1_liftLessWeight yX1_liftLessWeight, Cond.code yX1_liftLessWeight cX1_liftLessWeight 2 (some .int), Cond.fieldLink RX1 37 "GasVoyages$Air" "density" "[I", Cond.fieldLink RX1 43 "GasVoyages$Air" "warmth" "[I", Cond.methodLink RX1 46 yX1_hour, Cond.instanceMethod yX1_hour, Cond.selects RX1 yX1_hour yX1_hour, Cond.code yX1_hour cX1_hour 1 (some .int), Cond.methodLink RX1 58 yX1_climb, Cond.instanceMethod yX1_climb, Cond.selects RX1 yX1_climb yX1_climb, Cond.code yX1_climb cX1_climb 2 none]
def wsX6_best_r4 : List Cond := [Cond.methodLink RX1 80 Lib.Math.max.name, Cond.static Lib.Math.max.name, Cond.code Lib.Math.max.name Lib.Math.max.code 2 (some .int), Cond.methodLink RX1 65 yX1_ventAbove, Cond.instanceMethod yX1_ventAbove, Cond.selects RX1 yX1_ventAbove yX1_ventAbove, Cond.code yX1_ventAbove cX1_ventAbove 2 none, Cond.methodLink RX1 68 yX8_leadFrom, Cond.instanceMethod yX8_leadFrom, Cond.selects RX8 yX8_leadFrom yX8_leadFrom, Cond.initialized RX8, Cond.code yX8_leadFrom cX8_leadFrom 6 (some .int), Cond.fieldLink RX8 9 "GasVoyages$Winds" "dx" "[I", Cond.fieldLink RX8 15 "GasVoyages$Winds" "dy" "[I", Cond.methodLink RX8 18 yX5_movedFrom, Cond.instanceMethod yX5_movedFrom, Cond.selects RX5 yX5_movedFrom yX5_movedFrom, Cond.initialized RX5, Cond.code yX5_movedFrom cX5_movedFrom 6 (some .int), Cond.methodLink RX5 39 yX5_has, Cond.instanceMethod yX5_has, Cond.selects RX5 yX5_has yX5_has, Cond.code yX5_has cX5_has 3 (some .boolean), Cond.fieldLink RX5 9 "GasVoyages$Land" "w" "I"]
def wsX6_best_r5 : List Cond := [Cond.fieldLink RX5 15 "GasVoyages$Land" "h" "I", Cond.static yX9_within, Cond.code yX9_within cX9_within 3 (some .boolean), Cond.static yX9_cellOf, Cond.code yX9_cellOf cX9_cellOf 2 (some .int), Cond.methodLink RX6 77 yX6_mayBe, Cond.instanceMethod yX6_mayBe, Cond.selects RX6 yX6_mayBe yX6_mayBe, Cond.code yX6_mayBe cX6_mayBe 3 (some .boolean), Cond.fieldLink RX6 81 "GasVoyages$Land" "kinds" "[I"]
def wsX6_best : List Cond := .code yX6_best cX6_best 6 (some .int) :: ((wsX6_best_r1 ++ (wsX6_best_r2 ++ (wsX6_best_r3 ++ (wsX6_best_r4 ++ wsX6_best_r5)))) ++ wsX60 ++ wsX10 ++ wsX00 ++ wsX80 ++ wsX50)
def wsX7_init : List Cond := .code yX7_init cX7_init 3 none :: ([.methodLink RX7 3 objectInit, .instanceMethod objectInit, .code objectInit ⟨#[0xb1]⟩ 1 none, .classLink RX7 9 RX4, .instantiable RX4 4, .initialized RX4, .fieldLink RX7 12 "GasVoyages$WayCounter" "here" "LGasVoyages$Front;", .fieldLink RX7 18 "GasVoyages$WayCounter" "there" "LGasVoyages$Front;", .fieldLink RX7 21 "GasVoyages$WayCounter" "land" "LGasVoyages$Land;", .fieldLink RX7 25 "GasVoyages$WayCounter" "winds" "LGasVoyages$Winds;", .instanceMethod yX4_init, .code yX4_init cX4_init 1 none, .methodLink RX4 3 objectInit, .arrayClass .int, .fieldLink RX4 9 "GasVoyages$Front" "places" "[I", .fieldLink RX4 15 "GasVoyages$Front" "clean" "[I", .fieldLink RX4 18 "GasVoyages$Front" "broken" "[I", .fieldLink RX4 21 "GasVoyages$Front" "size" "I"] ++ wsX40 ++ wsX70)
def wsX9_cellOfPlace : List Cond := .code yX9_cellOfPlace cX9_cellOfPlace 1 (some .int) :: ([])
def wsX7_enter : List Cond := .code yX7_enter cX7_enter 5 none :: ([.fieldLink RX7 21 "GasVoyages$WayCounter" "land" "LGasVoyages$Land;", .fieldLink RX7 92 "GasVoyages$Land" "kinds" "[I", .static yX9_cellOfPlace, .initialized RX9, .code yX9_cellOfPlace cX9_cellOfPlace 1 (some .int), .methodLink RX7 97 yX4_add, .instanceMethod yX4_add, .selects RX4 yX4_add yX4_add, .initialized RX4, .code yX4_add cX4_add 4 none, .fieldLink RX4 15 "GasVoyages$Front" "clean" "[I", .fieldLink RX4 18 "GasVoyages$Front" "broken" "[I", .fieldLink RX4 21 "GasVoyages$Front" "size" "I", .fieldLink RX4 9 "GasVoyages$Front" "places" "[I", .constant RX4 25 (1000000), .methodLink RX4 26 Lib.Math.min.name, .static Lib.Math.min.name, .initialized "java/lang/Math", .code Lib.Math.min.name Lib.Math.min.code 2 (some .int)] ++ wsX70 ++ wsX50 ++ wsX40)
def wsX9_levelOfPlace : List Cond := .code yX9_levelOfPlace cX9_levelOfPlace 1 (some .int) :: ([])
def wsX7_spread_r1 : List Cond := [Cond.fieldLink RX7 64 "GasVoyages$Flight" "startTick" "I", Cond.methodLink RX7 67 Lib.Math.min.name, Cond.static Lib.Math.min.name, Cond.initialized "java/lang/Math", Cond.code Lib.Math.min.name Lib.Math.min.code 2 (some .int), Cond.fieldLink RX7 25 "GasVoyages$WayCounter" "winds" "LGasVoyages$Winds;", Cond.fieldLink RX7 21 "GasVoyages$WayCounter" "land" "LGasVoyages$Land;", Cond.fieldLink RX7 82 "GasVoyages$Flight" "lost" "[Z", Cond.fieldLink RX7 32 "GasVoyages$Flight" "places" "[I", Cond.fieldLink RX7 18 "GasVoyages$WayCounter" "there" "LGasVoyages$Front;", Cond.fieldLink RX7 12 "GasVoyages$WayCounter" "here" "LGasVoyages$Front;", Cond.fieldLink RX7 86 "GasVoyages$Front" "clean" "[I", Cond.fieldLink RX7 89 "GasVoyages$Front" "broken" "[I", Cond.static yX9_levelOfPlace, Cond.initialized RX9, Cond.code yX9_levelOfPlace cX9_levelOfPlace 1 (some .int), Cond.static yX9_cellOfPlace, Cond.code yX9_cellOfPlace cX9_cellOfPlace 1 (some .int), Cond.methodLink RX7 73 yX8_leadFrom, Cond.instanceMethod yX8_leadFrom, Cond.selects RX8 yX8_leadFrom yX8_leadFrom, Cond.initialized RX8, Cond.code yX8_leadFrom cX8_leadFrom 6 (some .int), Cond.fieldLink RX8 9 "GasVoyages$Winds" "dx" "[I"]
def wsX7_spread_r2 : List Cond := [Cond.fieldLink RX8 15 "GasVoyages$Winds" "dy" "[I", Cond.methodLink RX8 18 yX5_movedFrom, Cond.instanceMethod yX5_movedFrom, Cond.selects RX5 yX5_movedFrom yX5_movedFrom, Cond.initialized RX5, Cond.code yX5_movedFrom cX5_movedFrom 6 (some .int), Cond.static yX9_xOf, Cond.code yX9_xOf cX9_xOf 1 (some .int), Cond.static yX9_yOf, Cond.code yX9_yOf cX9_yOf 1 (some .int), Cond.methodLink RX5 39 yX5_has, Cond.instanceMethod yX5_has, Cond.selects RX5 yX5_has yX5_has, Cond.code yX5_has cX5_has 3 (some .boolean), Cond.fieldLink RX5 9 "GasVoyages$Land" "w" "I", Cond.fieldLink RX5 15 "GasVoyages$Land" "h" "I", Cond.static yX9_within, Cond.code yX9_within cX9_within 3 (some .boolean), Cond.static yX9_cellOf, Cond.code yX9_cellOf cX9_cellOf 2 (some .int), Cond.static yX9_placeOf, Cond.code yX9_placeOf cX9_placeOf 2 (some .int), Cond.methodLink RX7 38 yX7_enter, Cond.instanceMethod yX7_enter]
def wsX7_spread_r3 : List Cond := [Cond.selects RX7 yX7_enter yX7_enter, Cond.initialized RX7, Cond.code yX7_enter cX7_enter 5 none, Cond.fieldLink RX7 92 "GasVoyages$Land" "kinds" "[I", Cond.methodLink RX7 97 yX4_add, Cond.instanceMethod yX4_add, Cond.selects RX4 yX4_add yX4_add, Cond.initialized RX4, Cond.code yX4_add cX4_add 4 none, Cond.fieldLink RX4 15 "GasVoyages$Front" "clean" "[I", Cond.fieldLink RX4 18 "GasVoyages$Front" "broken" "[I", Cond.fieldLink RX4 21 "GasVoyages$Front" "size" "I", Cond.fieldLink RX4 9 "GasVoyages$Front" "places" "[I", Cond.constant RX4 25 (1000000), Cond.methodLink RX4 26 Lib.Math.min.name]
def wsX7_spread : List Cond := .code yX7_spread cX7_spread 10 none :: ((wsX7_spread_r1 ++ (wsX7_spread_r2 ++ wsX7_spread_r3)) ++ wsX30 ++ wsX70 ++ wsX40 ++ wsX80 ++ wsX50)
def wsX7_sumUp : List Cond := .code yX7_sumUp cX7_sumUp 2 none :: ([.fieldLink RX7 101 "GasVoyages$WayCounter" "clean" "I", .fieldLink RX7 103 "GasVoyages$WayCounter" "broken" "I", .fieldLink RX7 12 "GasVoyages$WayCounter" "here" "LGasVoyages$Front;", .fieldLink RX7 46 "GasVoyages$Front" "size" "I", .constant RX7 105 (1000000), .fieldLink RX7 86 "GasVoyages$Front" "clean" "[I", .fieldLink RX7 49 "GasVoyages$Front" "places" "[I", .methodLink RX7 67 Lib.Math.min.name, .static Lib.Math.min.name, .initialized "java/lang/Math", .code Lib.Math.min.name Lib.Math.min.code 2 (some .int), .fieldLink RX7 89 "GasVoyages$Front" "broken" "[I"] ++ wsX70 ++ wsX40)
def wsX7_follow_r1 : List Cond := [Cond.fieldLink RX7 12 "GasVoyages$WayCounter" "here" "LGasVoyages$Front;", Cond.fieldLink RX7 32 "GasVoyages$Flight" "places" "[I", Cond.fieldLink RX7 42 "GasVoyages$Flight" "entries" "I", Cond.fieldLink RX7 18 "GasVoyages$WayCounter" "there" "LGasVoyages$Front;", Cond.fieldLink RX7 46 "GasVoyages$Front" "size" "I", Cond.fieldLink RX7 49 "GasVoyages$Front" "places" "[I", Cond.methodLink RX7 29 yX4_clear, Cond.instanceMethod yX4_clear, Cond.selects RX4 yX4_clear yX4_clear, Cond.initialized RX4, Cond.code yX4_clear cX4_clear 2 none, Cond.fieldLink RX4 21 "GasVoyages$Front" "size" "I", Cond.fieldLink RX4 15 "GasVoyages$Front" "clean" "[I", Cond.fieldLink RX4 9 "GasVoyages$Front" "places" "[I", Cond.fieldLink RX4 18 "GasVoyages$Front" "broken" "[I", Cond.methodLink RX7 38 yX7_enter, Cond.instanceMethod yX7_enter, Cond.selects RX7 yX7_enter yX7_enter, Cond.initialized RX7, Cond.code yX7_enter cX7_enter 5 none, Cond.fieldLink RX7 21 "GasVoyages$WayCounter" "land" "LGasVoyages$Land;", Cond.fieldLink RX7 92 "GasVoyages$Land" "kinds" "[I", Cond.static yX9_cellOfPlace, Cond.initialized RX9]
def wsX7_follow_r2 : List Cond := [Cond.code yX9_cellOfPlace cX9_cellOfPlace 1 (some .int), Cond.methodLink RX7 97 yX4_add, Cond.instanceMethod yX4_add, Cond.selects RX4 yX4_add yX4_add, Cond.code yX4_add cX4_add 4 none, Cond.constant RX4 25 (1000000), Cond.methodLink RX4 26 Lib.Math.min.name, Cond.static Lib.Math.min.name, Cond.initialized "java/lang/Math", Cond.code Lib.Math.min.name Lib.Math.min.code 2 (some .int), Cond.methodLink RX7 50 yX7_spread, Cond.instanceMethod yX7_spread, Cond.selects RX7 yX7_spread yX7_spread, Cond.code yX7_spread cX7_spread 10 none, Cond.fieldLink RX7 64 "GasVoyages$Flight" "startTick" "I", Cond.methodLink RX7 67 Lib.Math.min.name, Cond.fieldLink RX7 25 "GasVoyages$WayCounter" "winds" "LGasVoyages$Winds;", Cond.fieldLink RX7 82 "GasVoyages$Flight" "lost" "[Z", Cond.fieldLink RX7 86 "GasVoyages$Front" "clean" "[I", Cond.fieldLink RX7 89 "GasVoyages$Front" "broken" "[I", Cond.static yX9_levelOfPlace, Cond.code yX9_levelOfPlace cX9_levelOfPlace 1 (some .int), Cond.methodLink RX7 73 yX8_leadFrom, Cond.instanceMethod yX8_leadFrom]
def wsX7_follow_r3 : List Cond := [Cond.selects RX8 yX8_leadFrom yX8_leadFrom, Cond.initialized RX8, Cond.code yX8_leadFrom cX8_leadFrom 6 (some .int), Cond.fieldLink RX8 9 "GasVoyages$Winds" "dx" "[I", Cond.fieldLink RX8 15 "GasVoyages$Winds" "dy" "[I", Cond.methodLink RX8 18 yX5_movedFrom, Cond.instanceMethod yX5_movedFrom, Cond.selects RX5 yX5_movedFrom yX5_movedFrom, Cond.initialized RX5, Cond.code yX5_movedFrom cX5_movedFrom 6 (some .int), Cond.static yX9_xOf, Cond.code yX9_xOf cX9_xOf 1 (some .int), Cond.static yX9_yOf, Cond.code yX9_yOf cX9_yOf 1 (some .int), Cond.methodLink RX5 39 yX5_has, Cond.instanceMethod yX5_has, Cond.selects RX5 yX5_has yX5_has, Cond.code yX5_has cX5_has 3 (some .boolean), Cond.fieldLink RX5 9 "GasVoyages$Land" "w" "I", Cond.fieldLink RX5 15 "GasVoyages$Land" "h" "I", Cond.static yX9_within, Cond.code yX9_within cX9_within 3 (some .boolean), Cond.static yX9_cellOf, Cond.code yX9_cellOf cX9_cellOf 2 (some .int)]
def wsX7_follow_r4 : List Cond := [Cond.static yX9_placeOf, Cond.code yX9_placeOf cX9_placeOf 2 (some .int), Cond.methodLink RX7 54 yX7_sumUp, Cond.instanceMethod yX7_sumUp, Cond.selects RX7 yX7_sumUp yX7_sumUp, Cond.code yX7_sumUp cX7_sumUp 2 none, Cond.fieldLink RX7 101 "GasVoyages$WayCounter" "clean" "I", Cond.fieldLink RX7 103 "GasVoyages$WayCounter" "broken" "I", Cond.constant RX7 105 (1000000)]
def wsX7_follow : List Cond := .code yX7_follow cX7_follow 4 none :: ((wsX7_follow_r1 ++ (wsX7_follow_r2 ++ (wsX7_follow_r3 ++ wsX7_follow_r4))) ++ wsX70 ++ wsX30 ++ wsX40 ++ wsX50 ++ wsX80)
def wsX7_verdict : List Cond := .code yX7_verdict cX7_verdict 1 (some .int) :: ([.fieldLink RX7 101 "GasVoyages$WayCounter" "clean" "I", .fieldLink RX7 103 "GasVoyages$WayCounter" "broken" "I"] ++ wsX70)
def wsX8_put : List Cond := .code yX8_put cX8_put 5 none :: ([.fieldLink RX8 9 "GasVoyages$Winds" "dx" "[I", .fieldLink RX8 15 "GasVoyages$Winds" "dy" "[I"] ++ wsX80)
def wsX9_init_r1 : List Cond := [Cond.methodLink RX9 3 objectInit, Cond.instanceMethod objectInit, Cond.code objectInit ⟨#[0xb1]⟩ 1 none, Cond.classLink RX9 9 RX5, Cond.instantiable RX5 3, Cond.initialized RX5, Cond.fieldLink RX9 12 "GasVoyages" "ground" "LGasVoyages$Land;", Cond.classLink RX9 16 RX0, Cond.instantiable RX0 5, Cond.initialized RX0, Cond.fieldLink RX9 19 "GasVoyages" "air" "LGasVoyages$Air;", Cond.classLink RX9 23 RX3, Cond.fieldLink RX9 25 "GasVoyages" "flights" "[LGasVoyages$Flight;", Cond.arrayClass .boolean, Cond.fieldLink RX9 29 "GasVoyages" "ranked" "[Z", Cond.fieldLink RX9 33 "GasVoyages" "flightCount" "I", Cond.classLink RX9 37 RX6, Cond.instantiable RX6 11, Cond.initialized RX6, Cond.fieldLink RX9 42 "GasVoyages" "planner" "LGasVoyages$Planner;", Cond.classLink RX9 46 RX7, Cond.instantiable RX7 6, Cond.initialized RX7, Cond.fieldLink RX9 48 "GasVoyages$Air" "real" "LGasVoyages$Winds;"]
def wsX9_init_r2 : List Cond := [Cond.fieldLink RX9 55 "GasVoyages" "wayCounter" "LGasVoyages$WayCounter;", Cond.classLink RX9 59 RX2, Cond.instantiable RX2 6, Cond.initialized RX2, Cond.fieldLink RX9 64 "GasVoyages" "chasers" "LGasVoyages$Chasers;", Cond.instantiable RX3 7, Cond.initialized RX3, Cond.instanceMethod yX5_init, Cond.code yX5_init cX5_init 1 none, Cond.methodLink RX5 3 objectInit, Cond.fieldLink RX5 9 "GasVoyages$Land" "w" "I", Cond.fieldLink RX5 15 "GasVoyages$Land" "h" "I", Cond.arrayClass .int, Cond.fieldLink RX5 18 "GasVoyages$Land" "kinds" "[I", Cond.methodLink RX9 18 yX0_init, Cond.instanceMethod yX0_init, Cond.code yX0_init cX0_init 2 none, Cond.methodLink RX0 3 objectInit, Cond.fieldLink RX0 9 "GasVoyages$Air" "density" "[I", Cond.fieldLink RX0 15 "GasVoyages$Air" "fullness" "[I", Cond.fieldLink RX0 18 "GasVoyages$Air" "warmth" "[I", Cond.classLink RX0 21 RX8, Cond.instantiable RX8 2, Cond.initialized RX8]
def wsX9_init_r3 : List Cond := [Cond.fieldLink RX0 24 "GasVoyages$Air" "real" "LGasVoyages$Winds;", Cond.fieldLink RX0 28 "GasVoyages$Air" "forecast" "LGasVoyages$Winds;", Cond.instanceMethod yX8_init, Cond.code yX8_init cX8_init 1 none, Cond.methodLink RX8 3 objectInit, Cond.fieldLink RX8 9 "GasVoyages$Winds" "dx" "[I", Cond.fieldLink RX8 15 "GasVoyages$Winds" "dy" "[I", Cond.methodLink RX9 39 yX6_init, Cond.instanceMethod yX6_init, Cond.code yX6_init cX6_init 4 none, Cond.methodLink RX6 3 objectInit, Cond.classLink RX6 9 RX1, Cond.fieldLink RX6 11 "GasVoyages$Planner" "behind" "[LGasVoyages$Balloon;", Cond.fieldLink RX6 17 "GasVoyages$Planner" "row" "[I", Cond.fieldLink RX6 21 "GasVoyages$Planner" "found" "[I", Cond.fieldLink RX6 24 "GasVoyages$Planner" "foundLength" "I", Cond.fieldLink RX6 28 "GasVoyages$Planner" "land" "LGasVoyages$Land;", Cond.fieldLink RX6 32 "GasVoyages$Planner" "air" "LGasVoyages$Air;", Cond.instantiable RX1 8, Cond.initialized RX1, Cond.instanceMethod yX1_init, Cond.code yX1_init cX1_init 1 none, Cond.methodLink RX1 3 objectInit, Cond.methodLink RX9 52 yX7_init]
def wsX9_init_r4 : List Cond := [Cond.instanceMethod yX7_init, Cond.code yX7_init cX7_init 3 none, Cond.methodLink RX7 3 objectInit, Cond.classLink RX7 9 RX4, Cond.instantiable RX4 4, Cond.initialized RX4, Cond.fieldLink RX7 12 "GasVoyages$WayCounter" "here" "LGasVoyages$Front;", Cond.fieldLink RX7 18 "GasVoyages$WayCounter" "there" "LGasVoyages$Front;", Cond.fieldLink RX7 21 "GasVoyages$WayCounter" "land" "LGasVoyages$Land;", Cond.fieldLink RX7 25 "GasVoyages$WayCounter" "winds" "LGasVoyages$Winds;", Cond.instanceMethod yX4_init, Cond.code yX4_init cX4_init 1 none, Cond.methodLink RX4 3 objectInit, Cond.fieldLink RX4 9 "GasVoyages$Front" "places" "[I", Cond.fieldLink RX4 15 "GasVoyages$Front" "clean" "[I", Cond.fieldLink RX4 18 "GasVoyages$Front" "broken" "[I", Cond.fieldLink RX4 21 "GasVoyages$Front" "size" "I", Cond.methodLink RX9 61 yX2_init, Cond.instanceMethod yX2_init, Cond.code yX2_init cX2_init 2 none, Cond.methodLink RX2 3 objectInit, Cond.fieldLink RX2 9 "GasVoyages$Chasers" "cells" "[I", Cond.fieldLink RX2 15 "GasVoyages$Chasers" "paces" "[I", Cond.fieldLink RX2 18 "GasVoyages$Chasers" "number" "I"]
def wsX9_init_r5 : List Cond := [Cond.fieldLink RX2 22 "GasVoyages$Chasers" "steps" "[I", Cond.fieldLink RX2 25 "GasVoyages$Chasers" "queue" "[I", Cond.fieldLink RX2 28 "GasVoyages$Chasers" "land" "LGasVoyages$Land;", Cond.instanceMethod yX3_init, Cond.code yX3_init cX3_init 1 none, Cond.methodLink RX3 3 objectInit, Cond.classLink RX3 9 RX1, Cond.fieldLink RX3 12 "GasVoyages$Flight" "balloon" "LGasVoyages$Balloon;", Cond.fieldLink RX3 18 "GasVoyages$Flight" "places" "[I", Cond.fieldLink RX3 22 "GasVoyages$Flight" "lost" "[Z"]
def wsX9_init : List Cond := .code yX9_init cX9_init 2 none :: ((wsX9_init_r1 ++ (wsX9_init_r2 ++ (wsX9_init_r3 ++ (wsX9_init_r4 ++ wsX9_init_r5)))) ++ wsX50 ++ wsX90 ++ wsX00 ++ wsX60 ++ wsX70 ++ wsX20 ++ wsX30 ++ wsX80 ++ wsX10 ++ wsX40)
def wsX9_land : List Cond := .code yX9_land cX9_land 3 (some .int) :: ([.fieldLink RX9 12 "GasVoyages" "ground" "LGasVoyages$Land;", .fieldLink RX9 33 "GasVoyages" "flightCount" "I", .fieldLink RX9 64 "GasVoyages" "chasers" "LGasVoyages$Chasers;", .fieldLink RX9 77 "GasVoyages$Chasers" "number" "I", .methodLink RX9 69 yX9_within, .static yX9_within, .initialized RX9, .code yX9_within cX9_within 3 (some .boolean), .methodLink RX9 73 yX5_clear, .instanceMethod yX5_clear, .selects RX5 yX5_clear yX5_clear, .initialized RX5, .code yX5_clear cX5_clear 3 none, .fieldLink RX5 9 "GasVoyages$Land" "w" "I", .fieldLink RX5 15 "GasVoyages$Land" "h" "I", .fieldLink RX5 18 "GasVoyages$Land" "kinds" "[I", .methodLink RX5 22 yJ7_fill_53178, .static yJ7_fill_53178, .initialized RJ7, .code yJ7_fill_53178 cJ7_fill_53178 4 none] ++ wsX90 ++ wsX20 ++ wsX50)
def wsX9_cell : List Cond := .code yX9_cell cX9_cell 6 (some .int) :: ([.fieldLink RX9 12 "GasVoyages" "ground" "LGasVoyages$Land;", .fieldLink RX9 64 "GasVoyages" "chasers" "LGasVoyages$Chasers;", .fieldLink RX9 92 "GasVoyages$Land" "kinds" "[I", .methodLink RX9 80 yX5_has, .instanceMethod yX5_has, .selects RX5 yX5_has yX5_has, .initialized RX5, .code yX5_has cX5_has 3 (some .boolean), .fieldLink RX5 9 "GasVoyages$Land" "w" "I", .fieldLink RX5 15 "GasVoyages$Land" "h" "I", .static yX9_within, .initialized RX9, .code yX9_within cX9_within 3 (some .boolean), .methodLink RX9 69 yX9_within, .methodLink RX9 84 yX9_cellOf, .static yX9_cellOf, .code yX9_cellOf cX9_cellOf 2 (some .int), .methodLink RX9 88 yX2_standOn, .instanceMethod yX2_standOn, .selects RX2 yX2_standOn yX2_standOn, .initialized RX2, .code yX2_standOn cX2_standOn 3 (some .boolean), .fieldLink RX2 18 "GasVoyages$Chasers" "number" "I", .fieldLink RX2 9 "GasVoyages$Chasers" "cells" "[I"] ++ wsX90 ++ wsX50 ++ wsX20)
def wsX9_level : List Cond := .code yX9_level cX9_level 4 (some .int) :: ([.fieldLink RX9 19 "GasVoyages" "air" "LGasVoyages$Air;", .fieldLink RX9 96 "GasVoyages$Air" "density" "[I", .fieldLink RX9 99 "GasVoyages$Air" "fullness" "[I", .methodLink RX9 69 yX9_within, .static yX9_within, .initialized RX9, .code yX9_within cX9_within 3 (some .boolean)] ++ wsX90 ++ wsX00)
def wsX9_warmth : List Cond := .code yX9_warmth cX9_warmth 4 (some .int) :: ([.fieldLink RX9 19 "GasVoyages" "air" "LGasVoyages$Air;", .fieldLink RX9 102 "GasVoyages$Air" "warmth" "[I", .methodLink RX9 69 yX9_within, .static yX9_within, .initialized RX9, .code yX9_within cX9_within 3 (some .boolean)] ++ wsX90 ++ wsX00)
def wsX9_wind : List Cond := .code yX9_wind cX9_wind 9 (some .int) :: ([.fieldLink RX9 19 "GasVoyages" "air" "LGasVoyages$Air;", .fieldLink RX9 48 "GasVoyages$Air" "real" "LGasVoyages$Winds;", .fieldLink RX9 105 "GasVoyages$Air" "forecast" "LGasVoyages$Winds;", .methodLink RX9 69 yX9_within, .static yX9_within, .initialized RX9, .code yX9_within cX9_within 3 (some .boolean), .methodLink RX9 108 yX8_put, .instanceMethod yX8_put, .selects RX8 yX8_put yX8_put, .initialized RX8, .code yX8_put cX8_put 5 none, .fieldLink RX8 9 "GasVoyages$Winds" "dx" "[I", .fieldLink RX8 15 "GasVoyages$Winds" "dy" "[I"] ++ wsX90 ++ wsX00 ++ wsX80)
def wsX9_fly_r1 : List Cond := [Cond.fieldLink RX9 12 "GasVoyages" "ground" "LGasVoyages$Land;", Cond.fieldLink RX9 92 "GasVoyages$Land" "kinds" "[I", Cond.fieldLink RX9 33 "GasVoyages" "flightCount" "I", Cond.fieldLink RX9 25 "GasVoyages" "flights" "[LGasVoyages$Flight;", Cond.methodLink RX9 80 yX5_has, Cond.instanceMethod yX5_has, Cond.selects RX5 yX5_has yX5_has, Cond.initialized RX5, Cond.code yX5_has cX5_has 3 (some .boolean), Cond.fieldLink RX5 9 "GasVoyages$Land" "w" "I", Cond.fieldLink RX5 15 "GasVoyages$Land" "h" "I", Cond.static yX9_within, Cond.initialized RX9, Cond.code yX9_within cX9_within 3 (some .boolean), Cond.methodLink RX9 69 yX9_within, Cond.methodLink RX9 84 yX9_cellOf, Cond.static yX9_cellOf, Cond.code yX9_cellOf cX9_cellOf 2 (some .int), Cond.methodLink RX9 114 yX3_begin, Cond.instanceMethod yX3_begin, Cond.selects RX3 yX3_begin yX3_begin, Cond.initialized RX3, Cond.code yX3_begin cX3_begin 6 none, Cond.fieldLink RX3 26 "GasVoyages$Flight" "startCell" "I"]
def wsX9_fly_r2 : List Cond := [Cond.fieldLink RX3 30 "GasVoyages$Flight" "startTick" "I", Cond.fieldLink RX3 12 "GasVoyages$Flight" "balloon" "LGasVoyages$Balloon;", Cond.fieldLink RX3 33 "GasVoyages$Balloon" "cell" "I", Cond.fieldLink RX3 36 "GasVoyages$Balloon" "level" "I", Cond.fieldLink RX3 39 "GasVoyages$Balloon" "tick" "I", Cond.fieldLink RX3 42 "GasVoyages$Balloon" "load" "I", Cond.fieldLink RX3 45 "GasVoyages$Balloon" "gas" "I", Cond.fieldLink RX3 48 "GasVoyages$Balloon" "ballast" "I", Cond.fieldLink RX3 51 "GasVoyages$Balloon" "vented" "I", Cond.fieldLink RX3 54 "GasVoyages$Balloon" "landed" "Z", Cond.fieldLink RX3 58 "GasVoyages$Flight" "entries" "I", Cond.fieldLink RX3 61 "GasVoyages$Flight" "lostCount" "I", Cond.methodLink RX3 64 yX3_writeDown, Cond.instanceMethod yX3_writeDown, Cond.selects RX3 yX3_writeDown yX3_writeDown, Cond.code yX3_writeDown cX3_writeDown 1 none, Cond.fieldLink RX3 18 "GasVoyages$Flight" "places" "[I", Cond.fieldLink RX3 22 "GasVoyages$Flight" "lost" "[Z", Cond.static yX9_placeOf, Cond.code yX9_placeOf cX9_placeOf 2 (some .int)]
def wsX9_fly : List Cond := .code yX9_fly cX9_fly 8 (some .int) :: ((wsX9_fly_r1 ++ wsX9_fly_r2) ++ wsX90 ++ wsX50 ++ wsX30 ++ wsX10)
def wsX9_isFlight : List Cond := .code yX9_isFlight cX9_isFlight 2 (some .boolean) :: ([.fieldLink RX9 33 "GasVoyages" "flightCount" "I", .methodLink RX9 69 yX9_within, .static yX9_within, .initialized RX9, .code yX9_within cX9_within 3 (some .boolean)] ++ wsX90)
def wsX9_go_r1 : List Cond := [Cond.fieldLink RX9 25 "GasVoyages" "flights" "[LGasVoyages$Flight;", Cond.fieldLink RX9 121 "GasVoyages$Flight" "balloon" "LGasVoyages$Balloon;", Cond.fieldLink RX9 125 "GasVoyages$Balloon" "landed" "Z", Cond.fieldLink RX9 131 "GasVoyages$Flight" "entries" "I", Cond.fieldLink RX9 19 "GasVoyages" "air" "LGasVoyages$Air;", Cond.fieldLink RX9 48 "GasVoyages$Air" "real" "LGasVoyages$Winds;", Cond.fieldLink RX9 12 "GasVoyages" "ground" "LGasVoyages$Land;", Cond.methodLink RX9 118 yX9_isFlight, Cond.instanceMethod yX9_isFlight, Cond.selects RX9 yX9_isFlight yX9_isFlight, Cond.initialized RX9, Cond.code yX9_isFlight cX9_isFlight 2 (some .boolean), Cond.fieldLink RX9 33 "GasVoyages" "flightCount" "I", Cond.methodLink RX9 69 yX9_within, Cond.static yX9_within, Cond.code yX9_within cX9_within 3 (some .boolean), Cond.methodLink RX9 134 yX1_pass, Cond.instanceMethod yX1_pass, Cond.selects RX1 yX1_pass yX1_pass, Cond.initialized RX1, Cond.code yX1_pass cX1_pass 6 none, Cond.fieldLink RX1 62 "GasVoyages$Air" "fullness" "[I", Cond.fieldLink RX1 15 "GasVoyages$Balloon" "level" "I", Cond.fieldLink RX1 33 "GasVoyages$Balloon" "landed" "Z"]
def wsX9_go_r2 : List Cond := [Cond.fieldLink RX1 9 "GasVoyages$Balloon" "cell" "I", Cond.fieldLink RX1 18 "GasVoyages$Balloon" "tick" "I", Cond.methodLink RX1 50 yX1_spend, Cond.instanceMethod yX1_spend, Cond.selects RX1 yX1_spend yX1_spend, Cond.code yX1_spend cX1_spend 3 none, Cond.fieldLink RX1 27 "GasVoyages$Balloon" "ballast" "I", Cond.methodLink RX1 74 Lib.Math.min.name, Cond.static Lib.Math.min.name, Cond.initialized "java/lang/Math", Cond.code Lib.Math.min.name Lib.Math.min.code 2 (some .int), Cond.fieldLink RX1 24 "GasVoyages$Balloon" "gas" "I", Cond.methodLink RX1 54 yX1_liftLessWeight, Cond.instanceMethod yX1_liftLessWeight, Cond.selects RX1 yX1_liftLessWeight yX1_liftLessWeight, Cond.code yX1_liftLessWeight cX1_liftLessWeight 2 (some .int), Cond.fieldLink RX1 37 "GasVoyages$Air" "density" "[I", Cond.fieldLink RX1 43 "GasVoyages$Air" "warmth" "[I", Cond.fieldLink RX1 21 "GasVoyages$Balloon" "load" "I", Cond.methodLink RX1 46 yX1_hour, Cond.instanceMethod yX1_hour, Cond.selects RX1 yX1_hour yX1_hour, Cond.code yX1_hour cX1_hour 1 (some .int), Cond.methodLink RX1 58 yX1_climb]
def wsX9_go_r3 : List Cond := [Cond.instanceMethod yX1_climb, Cond.selects RX1 yX1_climb yX1_climb, Cond.code yX1_climb cX1_climb 2 none, Cond.methodLink RX1 80 Lib.Math.max.name, Cond.static Lib.Math.max.name, Cond.code Lib.Math.max.name Lib.Math.max.code 2 (some .int), Cond.methodLink RX1 65 yX1_ventAbove, Cond.instanceMethod yX1_ventAbove, Cond.selects RX1 yX1_ventAbove yX1_ventAbove, Cond.code yX1_ventAbove cX1_ventAbove 2 none, Cond.fieldLink RX1 30 "GasVoyages$Balloon" "vented" "I", Cond.methodLink RX1 68 yX8_leadFrom, Cond.instanceMethod yX8_leadFrom, Cond.selects RX8 yX8_leadFrom yX8_leadFrom, Cond.initialized RX8, Cond.code yX8_leadFrom cX8_leadFrom 6 (some .int), Cond.fieldLink RX8 9 "GasVoyages$Winds" "dx" "[I", Cond.fieldLink RX8 15 "GasVoyages$Winds" "dy" "[I", Cond.methodLink RX8 18 yX5_movedFrom, Cond.instanceMethod yX5_movedFrom, Cond.selects RX5 yX5_movedFrom yX5_movedFrom, Cond.initialized RX5, Cond.code yX5_movedFrom cX5_movedFrom 6 (some .int), Cond.static yX9_xOf]
def wsX9_go_r4 : List Cond := [Cond.code yX9_xOf cX9_xOf 1 (some .int), Cond.static yX9_yOf, Cond.code yX9_yOf cX9_yOf 1 (some .int), Cond.methodLink RX5 39 yX5_has, Cond.instanceMethod yX5_has, Cond.selects RX5 yX5_has yX5_has, Cond.code yX5_has cX5_has 3 (some .boolean), Cond.fieldLink RX5 9 "GasVoyages$Land" "w" "I", Cond.fieldLink RX5 15 "GasVoyages$Land" "h" "I", Cond.static yX9_cellOf, Cond.code yX9_cellOf cX9_cellOf 2 (some .int), Cond.methodLink RX9 138 yX3_writeDown, Cond.instanceMethod yX3_writeDown, Cond.selects RX3 yX3_writeDown yX3_writeDown, Cond.initialized RX3, Cond.code yX3_writeDown cX3_writeDown 1 none, Cond.fieldLink RX3 58 "GasVoyages$Flight" "entries" "I", Cond.fieldLink RX3 18 "GasVoyages$Flight" "places" "[I", Cond.fieldLink RX3 12 "GasVoyages$Flight" "balloon" "LGasVoyages$Balloon;", Cond.fieldLink RX3 33 "GasVoyages$Balloon" "cell" "I", Cond.fieldLink RX3 36 "GasVoyages$Balloon" "level" "I", Cond.fieldLink RX3 22 "GasVoyages$Flight" "lost" "[Z", Cond.static yX9_placeOf, Cond.code yX9_placeOf cX9_placeOf 2 (some .int)]
def wsX9_go : List Cond := .code yX9_go cX9_go 7 (some .int) :: ((wsX9_go_r1 ++ (wsX9_go_r2 ++ (wsX9_go_r3 ++ wsX9_go_r4))) ++ wsX90 ++ wsX30 ++ wsX10 ++ wsX00 ++ wsX80 ++ wsX50)
def wsX9_about_r1 : List Cond := [Cond.constant RX9 141 (-100000), Cond.fieldLink RX9 25 "GasVoyages" "flights" "[LGasVoyages$Flight;", Cond.fieldLink RX9 121 "GasVoyages$Flight" "balloon" "LGasVoyages$Balloon;", Cond.fieldLink RX9 142 "GasVoyages$Balloon" "cell" "I", Cond.fieldLink RX9 152 "GasVoyages$Balloon" "level" "I", Cond.fieldLink RX9 155 "GasVoyages$Balloon" "gas" "I", Cond.fieldLink RX9 158 "GasVoyages$Balloon" "ballast" "I", Cond.fieldLink RX9 161 "GasVoyages$Balloon" "tick" "I", Cond.fieldLink RX9 125 "GasVoyages$Balloon" "landed" "Z", Cond.fieldLink RX9 131 "GasVoyages$Flight" "entries" "I", Cond.fieldLink RX9 19 "GasVoyages" "air" "LGasVoyages$Air;", Cond.fieldLink RX9 168 "GasVoyages$Balloon" "vented" "I", Cond.methodLink RX9 118 yX9_isFlight, Cond.instanceMethod yX9_isFlight, Cond.selects RX9 yX9_isFlight yX9_isFlight, Cond.initialized RX9, Cond.code yX9_isFlight cX9_isFlight 2 (some .boolean), Cond.fieldLink RX9 33 "GasVoyages" "flightCount" "I", Cond.methodLink RX9 69 yX9_within, Cond.static yX9_within, Cond.code yX9_within cX9_within 3 (some .boolean), Cond.methodLink RX9 145 yX9_xOf, Cond.static yX9_xOf, Cond.code yX9_xOf cX9_xOf 1 (some .int)]
def wsX9_about_r2 : List Cond := [Cond.methodLink RX9 149 yX9_yOf, Cond.static yX9_yOf, Cond.code yX9_yOf cX9_yOf 1 (some .int), Cond.methodLink RX9 164 yX1_liftLessWeight, Cond.instanceMethod yX1_liftLessWeight, Cond.selects RX1 yX1_liftLessWeight yX1_liftLessWeight, Cond.initialized RX1, Cond.code yX1_liftLessWeight cX1_liftLessWeight 2 (some .int), Cond.fieldLink RX1 24 "GasVoyages$Balloon" "gas" "I", Cond.fieldLink RX1 37 "GasVoyages$Air" "density" "[I", Cond.fieldLink RX1 15 "GasVoyages$Balloon" "level" "I", Cond.fieldLink RX1 43 "GasVoyages$Air" "warmth" "[I", Cond.fieldLink RX1 21 "GasVoyages$Balloon" "load" "I", Cond.fieldLink RX1 27 "GasVoyages$Balloon" "ballast" "I", Cond.methodLink RX1 46 yX1_hour, Cond.instanceMethod yX1_hour, Cond.selects RX1 yX1_hour yX1_hour, Cond.code yX1_hour cX1_hour 1 (some .int), Cond.fieldLink RX1 18 "GasVoyages$Balloon" "tick" "I"]
def wsX9_about : List Cond := .code yX9_about cX9_about 5 (some .int) :: ((wsX9_about_r1 ++ wsX9_about_r2) ++ wsX90 ++ wsX30 ++ wsX10 ++ wsX00)
def wsX9_distance_r1 : List Cond := [Cond.fieldLink RX9 25 "GasVoyages" "flights" "[LGasVoyages$Flight;", Cond.methodLink RX9 118 yX9_isFlight, Cond.instanceMethod yX9_isFlight, Cond.selects RX9 yX9_isFlight yX9_isFlight, Cond.initialized RX9, Cond.code yX9_isFlight cX9_isFlight 2 (some .boolean), Cond.fieldLink RX9 33 "GasVoyages" "flightCount" "I", Cond.methodLink RX9 69 yX9_within, Cond.static yX9_within, Cond.code yX9_within cX9_within 3 (some .boolean), Cond.methodLink RX9 171 yX3_flown, Cond.instanceMethod yX3_flown, Cond.selects RX3 yX3_flown yX3_flown, Cond.initialized RX3, Cond.code yX3_flown cX3_flown 5 (some .int), Cond.fieldLink RX3 26 "GasVoyages$Flight" "startCell" "I", Cond.fieldLink RX3 12 "GasVoyages$Flight" "balloon" "LGasVoyages$Balloon;", Cond.fieldLink RX3 33 "GasVoyages$Balloon" "cell" "I", Cond.static yX9_squareBetween, Cond.code yX9_squareBetween cX9_squareBetween 4 (some .int), Cond.methodLink RX9 145 yX9_xOf, Cond.static yX9_xOf, Cond.code yX9_xOf cX9_xOf 1 (some .int), Cond.methodLink RX9 149 yX9_yOf]
def wsX9_distance_r2 : List Cond := [Cond.static yX9_yOf, Cond.code yX9_yOf cX9_yOf 1 (some .int)]
def wsX9_distance : List Cond := .code yX9_distance cX9_distance 2 (some .int) :: ((wsX9_distance_r1 ++ wsX9_distance_r2) ++ wsX90 ++ wsX30 ++ wsX10)
def wsX9_mayPlan : List Cond := .code yX9_mayPlan cX9_mayPlan 4 (some .boolean) :: ([.methodLink RX9 118 yX9_isFlight, .instanceMethod yX9_isFlight, .selects RX9 yX9_isFlight yX9_isFlight, .initialized RX9, .code yX9_isFlight cX9_isFlight 2 (some .boolean), .fieldLink RX9 33 "GasVoyages" "flightCount" "I", .methodLink RX9 69 yX9_within, .static yX9_within, .code yX9_within cX9_within 3 (some .boolean)] ++ wsX90)
def wsX9_plan_r1 : List Cond := [Cond.fieldLink RX9 12 "GasVoyages" "ground" "LGasVoyages$Land;", Cond.fieldLink RX9 25 "GasVoyages" "flights" "[LGasVoyages$Flight;", Cond.fieldLink RX9 121 "GasVoyages$Flight" "balloon" "LGasVoyages$Balloon;", Cond.fieldLink RX9 125 "GasVoyages$Balloon" "landed" "Z", Cond.fieldLink RX9 42 "GasVoyages" "planner" "LGasVoyages$Planner;", Cond.methodLink RX9 175 yX9_mayPlan, Cond.instanceMethod yX9_mayPlan, Cond.selects RX9 yX9_mayPlan yX9_mayPlan, Cond.initialized RX9, Cond.code yX9_mayPlan cX9_mayPlan 4 (some .boolean), Cond.methodLink RX9 118 yX9_isFlight, Cond.instanceMethod yX9_isFlight, Cond.selects RX9 yX9_isFlight yX9_isFlight, Cond.code yX9_isFlight cX9_isFlight 2 (some .boolean), Cond.fieldLink RX9 33 "GasVoyages" "flightCount" "I", Cond.methodLink RX9 69 yX9_within, Cond.static yX9_within, Cond.code yX9_within cX9_within 3 (some .boolean), Cond.methodLink RX9 80 yX5_has, Cond.instanceMethod yX5_has, Cond.selects RX5 yX5_has yX5_has, Cond.initialized RX5, Cond.code yX5_has cX5_has 3 (some .boolean), Cond.fieldLink RX5 9 "GasVoyages$Land" "w" "I"]
def wsX9_plan_r2 : List Cond := [Cond.fieldLink RX5 15 "GasVoyages$Land" "h" "I", Cond.methodLink RX9 84 yX9_cellOf, Cond.static yX9_cellOf, Cond.code yX9_cellOf cX9_cellOf 2 (some .int), Cond.methodLink RX9 178 yX6_best, Cond.instanceMethod yX6_best, Cond.selects RX6 yX6_best yX6_best, Cond.initialized RX6, Cond.code yX6_best cX6_best 6 (some .int), Cond.fieldLink RX6 37 "GasVoyages$Planner" "length" "I", Cond.fieldLink RX6 40 "GasVoyages$Planner" "dose" "I", Cond.fieldLink RX6 43 "GasVoyages$Planner" "aim" "I", Cond.fieldLink RX6 46 "GasVoyages$Planner" "near" "Z", Cond.fieldLink RX6 50 "GasVoyages$Planner" "bestSquare" "I", Cond.fieldLink RX6 11 "GasVoyages$Planner" "behind" "[LGasVoyages$Balloon;", Cond.methodLink RX6 53 yX1_copyOf, Cond.instanceMethod yX1_copyOf, Cond.selects RX1 yX1_copyOf yX1_copyOf, Cond.initialized RX1, Cond.code yX1_copyOf cX1_copyOf 2 none, Cond.fieldLink RX1 9 "GasVoyages$Balloon" "cell" "I", Cond.fieldLink RX1 15 "GasVoyages$Balloon" "level" "I", Cond.fieldLink RX1 18 "GasVoyages$Balloon" "tick" "I", Cond.fieldLink RX1 21 "GasVoyages$Balloon" "load" "I"]
def wsX9_plan_r3 : List Cond := [Cond.fieldLink RX1 24 "GasVoyages$Balloon" "gas" "I", Cond.fieldLink RX1 27 "GasVoyages$Balloon" "ballast" "I", Cond.fieldLink RX1 30 "GasVoyages$Balloon" "vented" "I", Cond.fieldLink RX1 33 "GasVoyages$Balloon" "landed" "Z", Cond.methodLink RX6 57 yX6_tryFrom, Cond.instanceMethod yX6_tryFrom, Cond.selects RX6 yX6_tryFrom yX6_tryFrom, Cond.code yX6_tryFrom cX6_tryFrom 4 none, Cond.fieldLink RX6 61 "GasVoyages$Balloon" "landed" "Z", Cond.fieldLink RX6 32 "GasVoyages$Planner" "air" "LGasVoyages$Air;", Cond.fieldLink RX6 67 "GasVoyages$Air" "forecast" "LGasVoyages$Winds;", Cond.fieldLink RX6 28 "GasVoyages$Planner" "land" "LGasVoyages$Land;", Cond.fieldLink RX6 17 "GasVoyages$Planner" "row" "[I", Cond.methodLink RX6 64 yX6_weigh, Cond.instanceMethod yX6_weigh, Cond.selects RX6 yX6_weigh yX6_weigh, Cond.code yX6_weigh cX6_weigh 5 none, Cond.fieldLink RX6 86 "GasVoyages$Balloon" "cell" "I", Cond.fieldLink RX6 24 "GasVoyages$Planner" "foundLength" "I", Cond.fieldLink RX6 21 "GasVoyages$Planner" "found" "[I", Cond.static yX9_squareBetween, Cond.code yX9_squareBetween cX9_squareBetween 4 (some .int), Cond.methodLink RX9 145 yX9_xOf, Cond.static yX9_xOf]
def wsX9_plan_r4 : List Cond := [Cond.code yX9_xOf cX9_xOf 1 (some .int), Cond.methodLink RX9 149 yX9_yOf, Cond.static yX9_yOf, Cond.code yX9_yOf cX9_yOf 1 (some .int), Cond.methodLink RX6 73 yX1_pass, Cond.instanceMethod yX1_pass, Cond.selects RX1 yX1_pass yX1_pass, Cond.code yX1_pass cX1_pass 6 none, Cond.fieldLink RX1 62 "GasVoyages$Air" "fullness" "[I", Cond.methodLink RX1 50 yX1_spend, Cond.instanceMethod yX1_spend, Cond.selects RX1 yX1_spend yX1_spend, Cond.code yX1_spend cX1_spend 3 none, Cond.methodLink RX1 74 Lib.Math.min.name, Cond.static Lib.Math.min.name, Cond.initialized "java/lang/Math", Cond.code Lib.Math.min.name Lib.Math.min.code 2 (some .int), Cond.methodLink RX1 54 yX1_liftLessWeight, Cond.instanceMethod yX1_liftLessWeight, Cond.selects RX1 yX1_liftLessWeight yX1_liftLessWeight, Cond.code yX1_liftLessWeight cX1_liftLessWeight 2 (some .int), Cond.fieldLink RX1 37 "GasVoyages$Air" "density" "[I", Cond.fieldLink RX1 43 "GasVoyages$Air" "warmth" "[I", Cond.methodLink RX1 46 yX1_hour]
def wsX9_plan_r5 : List Cond := [Cond.instanceMethod yX1_hour, Cond.selects RX1 yX1_hour yX1_hour, Cond.code yX1_hour cX1_hour 1 (some .int), Cond.methodLink RX1 58 yX1_climb, Cond.instanceMethod yX1_climb, Cond.selects RX1 yX1_climb yX1_climb, Cond.code yX1_climb cX1_climb 2 none, Cond.methodLink RX1 80 Lib.Math.max.name, Cond.static Lib.Math.max.name, Cond.code Lib.Math.max.name Lib.Math.max.code 2 (some .int), Cond.methodLink RX1 65 yX1_ventAbove, Cond.instanceMethod yX1_ventAbove, Cond.selects RX1 yX1_ventAbove yX1_ventAbove, Cond.code yX1_ventAbove cX1_ventAbove 2 none, Cond.methodLink RX1 68 yX8_leadFrom, Cond.instanceMethod yX8_leadFrom, Cond.selects RX8 yX8_leadFrom yX8_leadFrom, Cond.initialized RX8, Cond.code yX8_leadFrom cX8_leadFrom 6 (some .int), Cond.fieldLink RX8 9 "GasVoyages$Winds" "dx" "[I", Cond.fieldLink RX8 15 "GasVoyages$Winds" "dy" "[I", Cond.methodLink RX8 18 yX5_movedFrom, Cond.instanceMethod yX5_movedFrom, Cond.selects RX5 yX5_movedFrom yX5_movedFrom]
def wsX9_plan_r6 : List Cond := [Cond.code yX5_movedFrom cX5_movedFrom 6 (some .int), Cond.methodLink RX5 39 yX5_has, Cond.methodLink RX6 77 yX6_mayBe, Cond.instanceMethod yX6_mayBe, Cond.selects RX6 yX6_mayBe yX6_mayBe, Cond.code yX6_mayBe cX6_mayBe 3 (some .boolean), Cond.fieldLink RX6 81 "GasVoyages$Land" "kinds" "[I"]
def wsX9_plan : List Cond := .code yX9_plan cX9_plan 7 (some .int) :: ((wsX9_plan_r1 ++ (wsX9_plan_r2 ++ (wsX9_plan_r3 ++ (wsX9_plan_r4 ++ (wsX9_plan_r5 ++ wsX9_plan_r6))))) ++ wsX90 ++ wsX30 ++ wsX10 ++ wsX50 ++ wsX60 ++ wsX00 ++ wsX80)
def wsX9_away_r1 : List Cond := [Cond.fieldLink RX9 25 "GasVoyages" "flights" "[LGasVoyages$Flight;", Cond.fieldLink RX9 121 "GasVoyages$Flight" "balloon" "LGasVoyages$Balloon;", Cond.fieldLink RX9 125 "GasVoyages$Balloon" "landed" "Z", Cond.fieldLink RX9 42 "GasVoyages" "planner" "LGasVoyages$Planner;", Cond.fieldLink RX9 182 "GasVoyages$Flight" "startCell" "I", Cond.methodLink RX9 175 yX9_mayPlan, Cond.instanceMethod yX9_mayPlan, Cond.selects RX9 yX9_mayPlan yX9_mayPlan, Cond.initialized RX9, Cond.code yX9_mayPlan cX9_mayPlan 4 (some .boolean), Cond.methodLink RX9 118 yX9_isFlight, Cond.instanceMethod yX9_isFlight, Cond.selects RX9 yX9_isFlight yX9_isFlight, Cond.code yX9_isFlight cX9_isFlight 2 (some .boolean), Cond.fieldLink RX9 33 "GasVoyages" "flightCount" "I", Cond.methodLink RX9 69 yX9_within, Cond.static yX9_within, Cond.code yX9_within cX9_within 3 (some .boolean), Cond.methodLink RX9 178 yX6_best, Cond.instanceMethod yX6_best, Cond.selects RX6 yX6_best yX6_best, Cond.initialized RX6, Cond.code yX6_best cX6_best 6 (some .int), Cond.fieldLink RX6 37 "GasVoyages$Planner" "length" "I"]
def wsX9_away_r2 : List Cond := [Cond.fieldLink RX6 40 "GasVoyages$Planner" "dose" "I", Cond.fieldLink RX6 43 "GasVoyages$Planner" "aim" "I", Cond.fieldLink RX6 46 "GasVoyages$Planner" "near" "Z", Cond.fieldLink RX6 50 "GasVoyages$Planner" "bestSquare" "I", Cond.fieldLink RX6 11 "GasVoyages$Planner" "behind" "[LGasVoyages$Balloon;", Cond.methodLink RX6 53 yX1_copyOf, Cond.instanceMethod yX1_copyOf, Cond.selects RX1 yX1_copyOf yX1_copyOf, Cond.initialized RX1, Cond.code yX1_copyOf cX1_copyOf 2 none, Cond.fieldLink RX1 9 "GasVoyages$Balloon" "cell" "I", Cond.fieldLink RX1 15 "GasVoyages$Balloon" "level" "I", Cond.fieldLink RX1 18 "GasVoyages$Balloon" "tick" "I", Cond.fieldLink RX1 21 "GasVoyages$Balloon" "load" "I", Cond.fieldLink RX1 24 "GasVoyages$Balloon" "gas" "I", Cond.fieldLink RX1 27 "GasVoyages$Balloon" "ballast" "I", Cond.fieldLink RX1 30 "GasVoyages$Balloon" "vented" "I", Cond.fieldLink RX1 33 "GasVoyages$Balloon" "landed" "Z", Cond.methodLink RX6 57 yX6_tryFrom, Cond.instanceMethod yX6_tryFrom, Cond.selects RX6 yX6_tryFrom yX6_tryFrom, Cond.code yX6_tryFrom cX6_tryFrom 4 none, Cond.fieldLink RX6 61 "GasVoyages$Balloon" "landed" "Z", Cond.fieldLink RX6 32 "GasVoyages$Planner" "air" "LGasVoyages$Air;"]
def wsX9_away_r3 : List Cond := [Cond.fieldLink RX6 67 "GasVoyages$Air" "forecast" "LGasVoyages$Winds;", Cond.fieldLink RX6 28 "GasVoyages$Planner" "land" "LGasVoyages$Land;", Cond.fieldLink RX6 17 "GasVoyages$Planner" "row" "[I", Cond.methodLink RX6 64 yX6_weigh, Cond.instanceMethod yX6_weigh, Cond.selects RX6 yX6_weigh yX6_weigh, Cond.code yX6_weigh cX6_weigh 5 none, Cond.fieldLink RX6 86 "GasVoyages$Balloon" "cell" "I", Cond.fieldLink RX6 24 "GasVoyages$Planner" "foundLength" "I", Cond.fieldLink RX6 21 "GasVoyages$Planner" "found" "[I", Cond.static yX9_squareBetween, Cond.code yX9_squareBetween cX9_squareBetween 4 (some .int), Cond.methodLink RX9 145 yX9_xOf, Cond.static yX9_xOf, Cond.code yX9_xOf cX9_xOf 1 (some .int), Cond.methodLink RX9 149 yX9_yOf, Cond.static yX9_yOf, Cond.code yX9_yOf cX9_yOf 1 (some .int), Cond.methodLink RX6 73 yX1_pass, Cond.instanceMethod yX1_pass, Cond.selects RX1 yX1_pass yX1_pass, Cond.code yX1_pass cX1_pass 6 none, Cond.fieldLink RX1 62 "GasVoyages$Air" "fullness" "[I", Cond.methodLink RX1 50 yX1_spend]
def wsX9_away_r4 : List Cond := [Cond.instanceMethod yX1_spend, Cond.selects RX1 yX1_spend yX1_spend, Cond.code yX1_spend cX1_spend 3 none, Cond.methodLink RX1 74 Lib.Math.min.name, Cond.static Lib.Math.min.name, Cond.initialized "java/lang/Math", Cond.code Lib.Math.min.name Lib.Math.min.code 2 (some .int), Cond.methodLink RX1 54 yX1_liftLessWeight, Cond.instanceMethod yX1_liftLessWeight, Cond.selects RX1 yX1_liftLessWeight yX1_liftLessWeight, Cond.code yX1_liftLessWeight cX1_liftLessWeight 2 (some .int), Cond.fieldLink RX1 37 "GasVoyages$Air" "density" "[I", Cond.fieldLink RX1 43 "GasVoyages$Air" "warmth" "[I", Cond.methodLink RX1 46 yX1_hour, Cond.instanceMethod yX1_hour, Cond.selects RX1 yX1_hour yX1_hour, Cond.code yX1_hour cX1_hour 1 (some .int), Cond.methodLink RX1 58 yX1_climb, Cond.instanceMethod yX1_climb, Cond.selects RX1 yX1_climb yX1_climb, Cond.code yX1_climb cX1_climb 2 none, Cond.methodLink RX1 80 Lib.Math.max.name, Cond.static Lib.Math.max.name, Cond.code Lib.Math.max.name Lib.Math.max.code 2 (some .int)]
def wsX9_away_r5 : List Cond := [Cond.methodLink RX1 65 yX1_ventAbove, Cond.instanceMethod yX1_ventAbove, Cond.selects RX1 yX1_ventAbove yX1_ventAbove, Cond.code yX1_ventAbove cX1_ventAbove 2 none, Cond.methodLink RX1 68 yX8_leadFrom, Cond.instanceMethod yX8_leadFrom, Cond.selects RX8 yX8_leadFrom yX8_leadFrom, Cond.initialized RX8, Cond.code yX8_leadFrom cX8_leadFrom 6 (some .int), Cond.fieldLink RX8 9 "GasVoyages$Winds" "dx" "[I", Cond.fieldLink RX8 15 "GasVoyages$Winds" "dy" "[I", Cond.methodLink RX8 18 yX5_movedFrom, Cond.instanceMethod yX5_movedFrom, Cond.selects RX5 yX5_movedFrom yX5_movedFrom, Cond.initialized RX5, Cond.code yX5_movedFrom cX5_movedFrom 6 (some .int), Cond.methodLink RX5 39 yX5_has, Cond.instanceMethod yX5_has, Cond.selects RX5 yX5_has yX5_has, Cond.code yX5_has cX5_has 3 (some .boolean), Cond.fieldLink RX5 9 "GasVoyages$Land" "w" "I", Cond.fieldLink RX5 15 "GasVoyages$Land" "h" "I", Cond.static yX9_cellOf, Cond.code yX9_cellOf cX9_cellOf 2 (some .int)]
def wsX9_away_r6 : List Cond := [Cond.methodLink RX6 77 yX6_mayBe, Cond.instanceMethod yX6_mayBe, Cond.selects RX6 yX6_mayBe yX6_mayBe, Cond.code yX6_mayBe cX6_mayBe 3 (some .boolean), Cond.fieldLink RX6 81 "GasVoyages$Land" "kinds" "[I"]
def wsX9_away : List Cond := .code yX9_away cX9_away 5 (some .int) :: ((wsX9_away_r1 ++ (wsX9_away_r2 ++ (wsX9_away_r3 ++ (wsX9_away_r4 ++ (wsX9_away_r5 ++ wsX9_away_r6))))) ++ wsX90 ++ wsX30 ++ wsX10 ++ wsX60 ++ wsX00 ++ wsX80 ++ wsX50)
def wsX9_order : List Cond := .code yX9_order cX9_order 2 (some .int) :: ([.fieldLink RX9 42 "GasVoyages" "planner" "LGasVoyages$Planner;", .fieldLink RX9 185 "GasVoyages$Planner" "foundLength" "I", .fieldLink RX9 188 "GasVoyages$Planner" "found" "[I", .methodLink RX9 69 yX9_within, .static yX9_within, .initialized RX9, .code yX9_within cX9_within 3 (some .boolean)] ++ wsX90 ++ wsX60)
def wsX9_entry_r1 : List Cond := [Cond.fieldLink RX9 25 "GasVoyages" "flights" "[LGasVoyages$Flight;", Cond.fieldLink RX9 131 "GasVoyages$Flight" "entries" "I", Cond.fieldLink RX9 191 "GasVoyages$Flight" "lost" "[Z", Cond.fieldLink RX9 194 "GasVoyages$Flight" "places" "[I", Cond.methodLink RX9 118 yX9_isFlight, Cond.instanceMethod yX9_isFlight, Cond.selects RX9 yX9_isFlight yX9_isFlight, Cond.initialized RX9, Cond.code yX9_isFlight cX9_isFlight 2 (some .boolean), Cond.fieldLink RX9 33 "GasVoyages" "flightCount" "I", Cond.methodLink RX9 69 yX9_within, Cond.static yX9_within, Cond.code yX9_within cX9_within 3 (some .boolean), Cond.methodLink RX9 197 yX9_levelOfPlace, Cond.static yX9_levelOfPlace, Cond.code yX9_levelOfPlace cX9_levelOfPlace 1 (some .int), Cond.methodLink RX9 200 yX9_cellOfPlace, Cond.static yX9_cellOfPlace, Cond.code yX9_cellOfPlace cX9_cellOfPlace 1 (some .int), Cond.methodLink RX9 145 yX9_xOf, Cond.static yX9_xOf, Cond.code yX9_xOf cX9_xOf 1 (some .int), Cond.methodLink RX9 149 yX9_yOf, Cond.static yX9_yOf]
def wsX9_entry_r2 : List Cond := [Cond.code yX9_yOf cX9_yOf 1 (some .int)]
def wsX9_entry : List Cond := .code yX9_entry cX9_entry 6 (some .int) :: ((wsX9_entry_r1 ++ wsX9_entry_r2) ++ wsX90 ++ wsX30)
def wsX9_lose : List Cond := .code yX9_lose cX9_lose 4 (some .int) :: ([.fieldLink RX9 25 "GasVoyages" "flights" "[LGasVoyages$Flight;", .methodLink RX9 118 yX9_isFlight, .instanceMethod yX9_isFlight, .selects RX9 yX9_isFlight yX9_isFlight, .initialized RX9, .code yX9_isFlight cX9_isFlight 2 (some .boolean), .fieldLink RX9 33 "GasVoyages" "flightCount" "I", .methodLink RX9 69 yX9_within, .static yX9_within, .code yX9_within cX9_within 3 (some .boolean), .methodLink RX9 203 yX3_forget, .instanceMethod yX3_forget, .selects RX3 yX3_forget yX3_forget, .initialized RX3, .code yX3_forget cX3_forget 6 (some .int), .fieldLink RX3 58 "GasVoyages$Flight" "entries" "I", .methodLink RX3 71 Lib.Math.min.name, .static Lib.Math.min.name, .initialized "java/lang/Math", .code Lib.Math.min.name Lib.Math.min.code 2 (some .int), .fieldLink RX3 22 "GasVoyages$Flight" "lost" "[Z", .fieldLink RX3 61 "GasVoyages$Flight" "lostCount" "I"] ++ wsX90 ++ wsX30)
def wsX9_judge_r1 : List Cond := [Cond.fieldLink RX9 55 "GasVoyages" "wayCounter" "LGasVoyages$WayCounter;", Cond.fieldLink RX9 25 "GasVoyages" "flights" "[LGasVoyages$Flight;", Cond.methodLink RX9 118 yX9_isFlight, Cond.instanceMethod yX9_isFlight, Cond.selects RX9 yX9_isFlight yX9_isFlight, Cond.initialized RX9, Cond.code yX9_isFlight cX9_isFlight 2 (some .boolean), Cond.fieldLink RX9 33 "GasVoyages" "flightCount" "I", Cond.methodLink RX9 69 yX9_within, Cond.static yX9_within, Cond.code yX9_within cX9_within 3 (some .boolean), Cond.methodLink RX9 206 yX7_follow, Cond.instanceMethod yX7_follow, Cond.selects RX7 yX7_follow yX7_follow, Cond.initialized RX7, Cond.code yX7_follow cX7_follow 4 none, Cond.fieldLink RX7 12 "GasVoyages$WayCounter" "here" "LGasVoyages$Front;", Cond.fieldLink RX7 32 "GasVoyages$Flight" "places" "[I", Cond.fieldLink RX7 42 "GasVoyages$Flight" "entries" "I", Cond.fieldLink RX7 18 "GasVoyages$WayCounter" "there" "LGasVoyages$Front;", Cond.fieldLink RX7 46 "GasVoyages$Front" "size" "I", Cond.fieldLink RX7 49 "GasVoyages$Front" "places" "[I", Cond.methodLink RX7 29 yX4_clear, Cond.instanceMethod yX4_clear]
def wsX9_judge_r2 : List Cond := [Cond.selects RX4 yX4_clear yX4_clear, Cond.initialized RX4, Cond.code yX4_clear cX4_clear 2 none, Cond.fieldLink RX4 21 "GasVoyages$Front" "size" "I", Cond.fieldLink RX4 15 "GasVoyages$Front" "clean" "[I", Cond.fieldLink RX4 9 "GasVoyages$Front" "places" "[I", Cond.fieldLink RX4 18 "GasVoyages$Front" "broken" "[I", Cond.methodLink RX7 38 yX7_enter, Cond.instanceMethod yX7_enter, Cond.selects RX7 yX7_enter yX7_enter, Cond.code yX7_enter cX7_enter 5 none, Cond.fieldLink RX7 21 "GasVoyages$WayCounter" "land" "LGasVoyages$Land;", Cond.fieldLink RX7 92 "GasVoyages$Land" "kinds" "[I", Cond.static yX9_cellOfPlace, Cond.code yX9_cellOfPlace cX9_cellOfPlace 1 (some .int), Cond.methodLink RX7 97 yX4_add, Cond.instanceMethod yX4_add, Cond.selects RX4 yX4_add yX4_add, Cond.code yX4_add cX4_add 4 none, Cond.constant RX4 25 (1000000), Cond.methodLink RX4 26 Lib.Math.min.name, Cond.static Lib.Math.min.name, Cond.initialized "java/lang/Math", Cond.code Lib.Math.min.name Lib.Math.min.code 2 (some .int)]
def wsX9_judge_r3 : List Cond := [Cond.methodLink RX7 50 yX7_spread, Cond.instanceMethod yX7_spread, Cond.selects RX7 yX7_spread yX7_spread, Cond.code yX7_spread cX7_spread 10 none, Cond.fieldLink RX7 64 "GasVoyages$Flight" "startTick" "I", Cond.methodLink RX7 67 Lib.Math.min.name, Cond.fieldLink RX7 25 "GasVoyages$WayCounter" "winds" "LGasVoyages$Winds;", Cond.fieldLink RX7 82 "GasVoyages$Flight" "lost" "[Z", Cond.fieldLink RX7 86 "GasVoyages$Front" "clean" "[I", Cond.fieldLink RX7 89 "GasVoyages$Front" "broken" "[I", Cond.static yX9_levelOfPlace, Cond.code yX9_levelOfPlace cX9_levelOfPlace 1 (some .int), Cond.methodLink RX7 73 yX8_leadFrom, Cond.instanceMethod yX8_leadFrom, Cond.selects RX8 yX8_leadFrom yX8_leadFrom, Cond.initialized RX8, Cond.code yX8_leadFrom cX8_leadFrom 6 (some .int), Cond.fieldLink RX8 9 "GasVoyages$Winds" "dx" "[I", Cond.fieldLink RX8 15 "GasVoyages$Winds" "dy" "[I", Cond.methodLink RX8 18 yX5_movedFrom, Cond.instanceMethod yX5_movedFrom, Cond.selects RX5 yX5_movedFrom yX5_movedFrom, Cond.initialized RX5, Cond.code yX5_movedFrom cX5_movedFrom 6 (some .int)]
def wsX9_judge_r4 : List Cond := [Cond.static yX9_xOf, Cond.code yX9_xOf cX9_xOf 1 (some .int), Cond.static yX9_yOf, Cond.code yX9_yOf cX9_yOf 1 (some .int), Cond.methodLink RX5 39 yX5_has, Cond.instanceMethod yX5_has, Cond.selects RX5 yX5_has yX5_has, Cond.code yX5_has cX5_has 3 (some .boolean), Cond.fieldLink RX5 9 "GasVoyages$Land" "w" "I", Cond.fieldLink RX5 15 "GasVoyages$Land" "h" "I", Cond.static yX9_cellOf, Cond.code yX9_cellOf cX9_cellOf 2 (some .int), Cond.static yX9_placeOf, Cond.code yX9_placeOf cX9_placeOf 2 (some .int), Cond.methodLink RX7 54 yX7_sumUp, Cond.instanceMethod yX7_sumUp, Cond.selects RX7 yX7_sumUp yX7_sumUp, Cond.code yX7_sumUp cX7_sumUp 2 none, Cond.fieldLink RX7 101 "GasVoyages$WayCounter" "clean" "I", Cond.fieldLink RX7 103 "GasVoyages$WayCounter" "broken" "I", Cond.constant RX7 105 (1000000), Cond.methodLink RX9 210 yX7_verdict, Cond.instanceMethod yX7_verdict, Cond.selects RX7 yX7_verdict yX7_verdict]
def wsX9_judge_r5 : List Cond := [Cond.code yX7_verdict cX7_verdict 1 (some .int)]
def wsX9_judge : List Cond := .code yX9_judge cX9_judge 2 (some .int) :: ((wsX9_judge_r1 ++ (wsX9_judge_r2 ++ (wsX9_judge_r3 ++ (wsX9_judge_r4 ++ wsX9_judge_r5)))) ++ wsX90 ++ wsX70 ++ wsX30 ++ wsX40 ++ wsX50 ++ wsX80)
def wsX9_ways_r1 : List Cond := [Cond.fieldLink RX9 55 "GasVoyages" "wayCounter" "LGasVoyages$WayCounter;", Cond.fieldLink RX9 25 "GasVoyages" "flights" "[LGasVoyages$Flight;", Cond.fieldLink RX9 213 "GasVoyages$WayCounter" "broken" "I", Cond.constant RX9 216 (1000000), Cond.fieldLink RX9 217 "GasVoyages$WayCounter" "clean" "I", Cond.methodLink RX9 220 Lib.Math.min.name, Cond.static Lib.Math.min.name, Cond.initialized "java/lang/Math", Cond.code Lib.Math.min.name Lib.Math.min.code 2 (some .int), Cond.methodLink RX9 118 yX9_isFlight, Cond.instanceMethod yX9_isFlight, Cond.selects RX9 yX9_isFlight yX9_isFlight, Cond.initialized RX9, Cond.code yX9_isFlight cX9_isFlight 2 (some .boolean), Cond.fieldLink RX9 33 "GasVoyages" "flightCount" "I", Cond.methodLink RX9 69 yX9_within, Cond.static yX9_within, Cond.code yX9_within cX9_within 3 (some .boolean), Cond.methodLink RX9 206 yX7_follow, Cond.instanceMethod yX7_follow, Cond.selects RX7 yX7_follow yX7_follow, Cond.initialized RX7, Cond.code yX7_follow cX7_follow 4 none, Cond.fieldLink RX7 12 "GasVoyages$WayCounter" "here" "LGasVoyages$Front;"]
def wsX9_ways_r2 : List Cond := [Cond.fieldLink RX7 32 "GasVoyages$Flight" "places" "[I", Cond.fieldLink RX7 42 "GasVoyages$Flight" "entries" "I", Cond.fieldLink RX7 18 "GasVoyages$WayCounter" "there" "LGasVoyages$Front;", Cond.fieldLink RX7 46 "GasVoyages$Front" "size" "I", Cond.fieldLink RX7 49 "GasVoyages$Front" "places" "[I", Cond.methodLink RX7 29 yX4_clear, Cond.instanceMethod yX4_clear, Cond.selects RX4 yX4_clear yX4_clear, Cond.initialized RX4, Cond.code yX4_clear cX4_clear 2 none, Cond.fieldLink RX4 21 "GasVoyages$Front" "size" "I", Cond.fieldLink RX4 15 "GasVoyages$Front" "clean" "[I", Cond.fieldLink RX4 9 "GasVoyages$Front" "places" "[I", Cond.fieldLink RX4 18 "GasVoyages$Front" "broken" "[I", Cond.methodLink RX7 38 yX7_enter, Cond.instanceMethod yX7_enter, Cond.selects RX7 yX7_enter yX7_enter, Cond.code yX7_enter cX7_enter 5 none, Cond.fieldLink RX7 21 "GasVoyages$WayCounter" "land" "LGasVoyages$Land;", Cond.fieldLink RX7 92 "GasVoyages$Land" "kinds" "[I", Cond.static yX9_cellOfPlace, Cond.code yX9_cellOfPlace cX9_cellOfPlace 1 (some .int), Cond.methodLink RX7 97 yX4_add, Cond.instanceMethod yX4_add]
def wsX9_ways_r3 : List Cond := [Cond.selects RX4 yX4_add yX4_add, Cond.code yX4_add cX4_add 4 none, Cond.constant RX4 25 (1000000), Cond.methodLink RX4 26 Lib.Math.min.name, Cond.methodLink RX7 50 yX7_spread, Cond.instanceMethod yX7_spread, Cond.selects RX7 yX7_spread yX7_spread, Cond.code yX7_spread cX7_spread 10 none, Cond.fieldLink RX7 64 "GasVoyages$Flight" "startTick" "I", Cond.methodLink RX7 67 Lib.Math.min.name, Cond.fieldLink RX7 25 "GasVoyages$WayCounter" "winds" "LGasVoyages$Winds;", Cond.fieldLink RX7 82 "GasVoyages$Flight" "lost" "[Z", Cond.fieldLink RX7 86 "GasVoyages$Front" "clean" "[I", Cond.fieldLink RX7 89 "GasVoyages$Front" "broken" "[I", Cond.static yX9_levelOfPlace, Cond.code yX9_levelOfPlace cX9_levelOfPlace 1 (some .int), Cond.methodLink RX7 73 yX8_leadFrom, Cond.instanceMethod yX8_leadFrom, Cond.selects RX8 yX8_leadFrom yX8_leadFrom, Cond.initialized RX8, Cond.code yX8_leadFrom cX8_leadFrom 6 (some .int), Cond.fieldLink RX8 9 "GasVoyages$Winds" "dx" "[I", Cond.fieldLink RX8 15 "GasVoyages$Winds" "dy" "[I", Cond.methodLink RX8 18 yX5_movedFrom]
def wsX9_ways_r4 : List Cond := [Cond.instanceMethod yX5_movedFrom, Cond.selects RX5 yX5_movedFrom yX5_movedFrom, Cond.initialized RX5, Cond.code yX5_movedFrom cX5_movedFrom 6 (some .int), Cond.static yX9_xOf, Cond.code yX9_xOf cX9_xOf 1 (some .int), Cond.static yX9_yOf, Cond.code yX9_yOf cX9_yOf 1 (some .int), Cond.methodLink RX5 39 yX5_has, Cond.instanceMethod yX5_has, Cond.selects RX5 yX5_has yX5_has, Cond.code yX5_has cX5_has 3 (some .boolean), Cond.fieldLink RX5 9 "GasVoyages$Land" "w" "I", Cond.fieldLink RX5 15 "GasVoyages$Land" "h" "I", Cond.static yX9_cellOf, Cond.code yX9_cellOf cX9_cellOf 2 (some .int), Cond.static yX9_placeOf, Cond.code yX9_placeOf cX9_placeOf 2 (some .int), Cond.methodLink RX7 54 yX7_sumUp, Cond.instanceMethod yX7_sumUp, Cond.selects RX7 yX7_sumUp yX7_sumUp, Cond.code yX7_sumUp cX7_sumUp 2 none, Cond.fieldLink RX7 101 "GasVoyages$WayCounter" "clean" "I", Cond.fieldLink RX7 103 "GasVoyages$WayCounter" "broken" "I"]
def wsX9_ways_r5 : List Cond := [Cond.constant RX7 105 (1000000)]
def wsX9_ways : List Cond := .code yX9_ways cX9_ways 3 (some .int) :: ((wsX9_ways_r1 ++ (wsX9_ways_r2 ++ (wsX9_ways_r3 ++ (wsX9_ways_r4 ++ wsX9_ways_r5)))) ++ wsX90 ++ wsX70 ++ wsX30 ++ wsX40 ++ wsX50 ++ wsX80)
def wsX9_chaser_r1 : List Cond := [Cond.fieldLink RX9 12 "GasVoyages" "ground" "LGasVoyages$Land;", Cond.fieldLink RX9 92 "GasVoyages$Land" "kinds" "[I", Cond.fieldLink RX9 64 "GasVoyages" "chasers" "LGasVoyages$Chasers;", Cond.fieldLink RX9 77 "GasVoyages$Chasers" "number" "I", Cond.methodLink RX9 80 yX5_has, Cond.instanceMethod yX5_has, Cond.selects RX5 yX5_has yX5_has, Cond.initialized RX5, Cond.code yX5_has cX5_has 3 (some .boolean), Cond.fieldLink RX5 9 "GasVoyages$Land" "w" "I", Cond.fieldLink RX5 15 "GasVoyages$Land" "h" "I", Cond.static yX9_within, Cond.initialized RX9, Cond.code yX9_within cX9_within 3 (some .boolean), Cond.methodLink RX9 69 yX9_within, Cond.methodLink RX9 84 yX9_cellOf, Cond.static yX9_cellOf, Cond.code yX9_cellOf cX9_cellOf 2 (some .int), Cond.methodLink RX9 225 yX2_add, Cond.instanceMethod yX2_add, Cond.selects RX2 yX2_add yX2_add, Cond.initialized RX2, Cond.code yX2_add cX2_add 3 none, Cond.fieldLink RX2 18 "GasVoyages$Chasers" "number" "I"]
def wsX9_chaser_r2 : List Cond := [Cond.fieldLink RX2 9 "GasVoyages$Chasers" "cells" "[I", Cond.fieldLink RX2 15 "GasVoyages$Chasers" "paces" "[I"]
def wsX9_chaser : List Cond := .code yX9_chaser cX9_chaser 5 (some .int) :: ((wsX9_chaser_r1 ++ wsX9_chaser_r2) ++ wsX90 ++ wsX50 ++ wsX20)
def wsX9_chase_r1 : List Cond := [Cond.fieldLink RX9 64 "GasVoyages" "chasers" "LGasVoyages$Chasers;", Cond.fieldLink RX9 77 "GasVoyages$Chasers" "number" "I", Cond.fieldLink RX9 12 "GasVoyages" "ground" "LGasVoyages$Land;", Cond.methodLink RX9 69 yX9_within, Cond.static yX9_within, Cond.initialized RX9, Cond.code yX9_within cX9_within 3 (some .boolean), Cond.methodLink RX9 80 yX5_has, Cond.instanceMethod yX5_has, Cond.selects RX5 yX5_has yX5_has, Cond.initialized RX5, Cond.code yX5_has cX5_has 3 (some .boolean), Cond.fieldLink RX5 9 "GasVoyages$Land" "w" "I", Cond.fieldLink RX5 15 "GasVoyages$Land" "h" "I", Cond.methodLink RX9 84 yX9_cellOf, Cond.static yX9_cellOf, Cond.code yX9_cellOf cX9_cellOf 2 (some .int), Cond.methodLink RX9 228 yX2_measureFrom, Cond.instanceMethod yX2_measureFrom, Cond.selects RX2 yX2_measureFrom yX2_measureFrom, Cond.initialized RX2, Cond.code yX2_measureFrom cX2_measureFrom 4 none, Cond.fieldLink RX2 22 "GasVoyages$Chasers" "steps" "[I", Cond.fieldLink RX2 28 "GasVoyages$Chasers" "land" "LGasVoyages$Land;"]
def wsX9_chase_r2 : List Cond := [Cond.fieldLink RX2 38 "GasVoyages$Land" "kinds" "[I", Cond.fieldLink RX2 25 "GasVoyages$Chasers" "queue" "[I", Cond.methodLink RX2 32 yJ7_fill_53178, Cond.static yJ7_fill_53178, Cond.initialized RJ7, Cond.code yJ7_fill_53178 cJ7_fill_53178 4 none, Cond.methodLink RX2 43 yX2_stepOn, Cond.instanceMethod yX2_stepOn, Cond.selects RX2 yX2_stepOn yX2_stepOn, Cond.code yX2_stepOn cX2_stepOn 6 (some .int), Cond.methodLink RX2 53 yX5_movedFrom, Cond.instanceMethod yX5_movedFrom, Cond.selects RX5 yX5_movedFrom yX5_movedFrom, Cond.code yX5_movedFrom cX5_movedFrom 6 (some .int), Cond.static yX9_xOf, Cond.code yX9_xOf cX9_xOf 1 (some .int), Cond.static yX9_yOf, Cond.code yX9_yOf cX9_yOf 1 (some .int), Cond.methodLink RX5 39 yX5_has, Cond.methodLink RX9 232 yX2_ticksOf, Cond.instanceMethod yX2_ticksOf, Cond.selects RX2 yX2_ticksOf yX2_ticksOf, Cond.code yX2_ticksOf cX2_ticksOf 4 (some .int), Cond.fieldLink RX2 9 "GasVoyages$Chasers" "cells" "[I"]
def wsX9_chase_r3 : List Cond := [Cond.fieldLink RX2 15 "GasVoyages$Chasers" "paces" "[I"]
def wsX9_chase : List Cond := .code yX9_chase cX9_chase 4 (some .int) :: ((wsX9_chase_r1 ++ (wsX9_chase_r2 ++ wsX9_chase_r3)) ++ wsX90 ++ wsX20 ++ wsX50)
def wsX9_first_r1 : List Cond := [Cond.fieldLink RX9 64 "GasVoyages" "chasers" "LGasVoyages$Chasers;", Cond.fieldLink RX9 25 "GasVoyages" "flights" "[LGasVoyages$Flight;", Cond.fieldLink RX9 121 "GasVoyages$Flight" "balloon" "LGasVoyages$Balloon;", Cond.fieldLink RX9 142 "GasVoyages$Balloon" "cell" "I", Cond.methodLink RX9 118 yX9_isFlight, Cond.instanceMethod yX9_isFlight, Cond.selects RX9 yX9_isFlight yX9_isFlight, Cond.initialized RX9, Cond.code yX9_isFlight cX9_isFlight 2 (some .boolean), Cond.fieldLink RX9 33 "GasVoyages" "flightCount" "I", Cond.methodLink RX9 69 yX9_within, Cond.static yX9_within, Cond.code yX9_within cX9_within 3 (some .boolean), Cond.methodLink RX9 228 yX2_measureFrom, Cond.instanceMethod yX2_measureFrom, Cond.selects RX2 yX2_measureFrom yX2_measureFrom, Cond.initialized RX2, Cond.code yX2_measureFrom cX2_measureFrom 4 none, Cond.fieldLink RX2 22 "GasVoyages$Chasers" "steps" "[I", Cond.fieldLink RX2 28 "GasVoyages$Chasers" "land" "LGasVoyages$Land;", Cond.fieldLink RX2 38 "GasVoyages$Land" "kinds" "[I", Cond.fieldLink RX2 25 "GasVoyages$Chasers" "queue" "[I", Cond.methodLink RX2 32 yJ7_fill_53178, Cond.static yJ7_fill_53178]
def wsX9_first_r2 : List Cond := [Cond.initialized RJ7, Cond.code yJ7_fill_53178 cJ7_fill_53178 4 none, Cond.methodLink RX2 43 yX2_stepOn, Cond.instanceMethod yX2_stepOn, Cond.selects RX2 yX2_stepOn yX2_stepOn, Cond.code yX2_stepOn cX2_stepOn 6 (some .int), Cond.methodLink RX2 53 yX5_movedFrom, Cond.instanceMethod yX5_movedFrom, Cond.selects RX5 yX5_movedFrom yX5_movedFrom, Cond.initialized RX5, Cond.code yX5_movedFrom cX5_movedFrom 6 (some .int), Cond.static yX9_xOf, Cond.code yX9_xOf cX9_xOf 1 (some .int), Cond.static yX9_yOf, Cond.code yX9_yOf cX9_yOf 1 (some .int), Cond.methodLink RX5 39 yX5_has, Cond.instanceMethod yX5_has, Cond.selects RX5 yX5_has yX5_has, Cond.code yX5_has cX5_has 3 (some .boolean), Cond.fieldLink RX5 9 "GasVoyages$Land" "w" "I", Cond.fieldLink RX5 15 "GasVoyages$Land" "h" "I", Cond.static yX9_cellOf, Cond.code yX9_cellOf cX9_cellOf 2 (some .int), Cond.methodLink RX9 235 yX2_soonest]
def wsX9_first_r3 : List Cond := [Cond.instanceMethod yX2_soonest, Cond.selects RX2 yX2_soonest yX2_soonest, Cond.code yX2_soonest cX2_soonest 5 (some .int), Cond.fieldLink RX2 18 "GasVoyages$Chasers" "number" "I", Cond.methodLink RX2 57 yX2_ticksOf, Cond.instanceMethod yX2_ticksOf, Cond.selects RX2 yX2_ticksOf yX2_ticksOf, Cond.code yX2_ticksOf cX2_ticksOf 4 (some .int), Cond.fieldLink RX2 9 "GasVoyages$Chasers" "cells" "[I", Cond.fieldLink RX2 15 "GasVoyages$Chasers" "paces" "[I"]
def wsX9_first : List Cond := .code yX9_first cX9_first 2 (some .int) :: ((wsX9_first_r1 ++ (wsX9_first_r2 ++ wsX9_first_r3)) ++ wsX90 ++ wsX30 ++ wsX10 ++ wsX20 ++ wsX50)
def wsX9_isAhead : List Cond := .code yX9_isAhead cX9_isAhead 5 (some .boolean) :: ([.fieldLink RX9 25 "GasVoyages" "flights" "[LGasVoyages$Flight;", .fieldLink RX9 131 "GasVoyages$Flight" "entries" "I", .methodLink RX9 171 yX3_flown, .instanceMethod yX3_flown, .selects RX3 yX3_flown yX3_flown, .initialized RX3, .code yX3_flown cX3_flown 5 (some .int), .fieldLink RX3 26 "GasVoyages$Flight" "startCell" "I", .fieldLink RX3 12 "GasVoyages$Flight" "balloon" "LGasVoyages$Balloon;", .fieldLink RX3 33 "GasVoyages$Balloon" "cell" "I", .static yX9_squareBetween, .initialized RX9, .code yX9_squareBetween cX9_squareBetween 4 (some .int), .methodLink RX9 145 yX9_xOf, .static yX9_xOf, .code yX9_xOf cX9_xOf 1 (some .int), .methodLink RX9 149 yX9_yOf, .static yX9_yOf, .code yX9_yOf cX9_yOf 1 (some .int)] ++ wsX90 ++ wsX30 ++ wsX10)
def wsX9_countAheadOf_r1 : List Cond := [Cond.fieldLink RX9 33 "GasVoyages" "flightCount" "I", Cond.fieldLink RX9 29 "GasVoyages" "ranked" "[Z", Cond.methodLink RX9 280 yX9_isAhead, Cond.instanceMethod yX9_isAhead, Cond.selects RX9 yX9_isAhead yX9_isAhead, Cond.initialized RX9, Cond.code yX9_isAhead cX9_isAhead 5 (some .boolean), Cond.fieldLink RX9 25 "GasVoyages" "flights" "[LGasVoyages$Flight;", Cond.fieldLink RX9 131 "GasVoyages$Flight" "entries" "I", Cond.methodLink RX9 171 yX3_flown, Cond.instanceMethod yX3_flown, Cond.selects RX3 yX3_flown yX3_flown, Cond.initialized RX3, Cond.code yX3_flown cX3_flown 5 (some .int), Cond.fieldLink RX3 26 "GasVoyages$Flight" "startCell" "I", Cond.fieldLink RX3 12 "GasVoyages$Flight" "balloon" "LGasVoyages$Balloon;", Cond.fieldLink RX3 33 "GasVoyages$Balloon" "cell" "I", Cond.static yX9_squareBetween, Cond.code yX9_squareBetween cX9_squareBetween 4 (some .int), Cond.methodLink RX9 145 yX9_xOf, Cond.static yX9_xOf, Cond.code yX9_xOf cX9_xOf 1 (some .int), Cond.methodLink RX9 149 yX9_yOf, Cond.static yX9_yOf]
def wsX9_countAheadOf_r2 : List Cond := [Cond.code yX9_yOf cX9_yOf 1 (some .int)]
def wsX9_countAheadOf : List Cond := .code yX9_countAheadOf cX9_countAheadOf 4 (some .int) :: ((wsX9_countAheadOf_r1 ++ wsX9_countAheadOf_r2) ++ wsX90 ++ wsX30 ++ wsX10)
def wsX9_record_r1 : List Cond := [Cond.fieldLink RX9 33 "GasVoyages" "flightCount" "I", Cond.fieldLink RX9 29 "GasVoyages" "ranked" "[Z", Cond.fieldLink RX9 25 "GasVoyages" "flights" "[LGasVoyages$Flight;", Cond.fieldLink RX9 121 "GasVoyages$Flight" "balloon" "LGasVoyages$Balloon;", Cond.fieldLink RX9 125 "GasVoyages$Balloon" "landed" "Z", Cond.methodLink RX9 238 yX9_judge, Cond.instanceMethod yX9_judge, Cond.selects RX9 yX9_judge yX9_judge, Cond.initialized RX9, Cond.code yX9_judge cX9_judge 2 (some .int), Cond.fieldLink RX9 55 "GasVoyages" "wayCounter" "LGasVoyages$WayCounter;", Cond.methodLink RX9 118 yX9_isFlight, Cond.instanceMethod yX9_isFlight, Cond.selects RX9 yX9_isFlight yX9_isFlight, Cond.code yX9_isFlight cX9_isFlight 2 (some .boolean), Cond.methodLink RX9 69 yX9_within, Cond.static yX9_within, Cond.code yX9_within cX9_within 3 (some .boolean), Cond.methodLink RX9 206 yX7_follow, Cond.instanceMethod yX7_follow, Cond.selects RX7 yX7_follow yX7_follow, Cond.initialized RX7, Cond.code yX7_follow cX7_follow 4 none, Cond.fieldLink RX7 12 "GasVoyages$WayCounter" "here" "LGasVoyages$Front;"]
def wsX9_record_r2 : List Cond := [Cond.fieldLink RX7 32 "GasVoyages$Flight" "places" "[I", Cond.fieldLink RX7 42 "GasVoyages$Flight" "entries" "I", Cond.fieldLink RX7 18 "GasVoyages$WayCounter" "there" "LGasVoyages$Front;", Cond.fieldLink RX7 46 "GasVoyages$Front" "size" "I", Cond.fieldLink RX7 49 "GasVoyages$Front" "places" "[I", Cond.methodLink RX7 29 yX4_clear, Cond.instanceMethod yX4_clear, Cond.selects RX4 yX4_clear yX4_clear, Cond.initialized RX4, Cond.code yX4_clear cX4_clear 2 none, Cond.fieldLink RX4 21 "GasVoyages$Front" "size" "I", Cond.fieldLink RX4 15 "GasVoyages$Front" "clean" "[I", Cond.fieldLink RX4 9 "GasVoyages$Front" "places" "[I", Cond.fieldLink RX4 18 "GasVoyages$Front" "broken" "[I", Cond.methodLink RX7 38 yX7_enter, Cond.instanceMethod yX7_enter, Cond.selects RX7 yX7_enter yX7_enter, Cond.code yX7_enter cX7_enter 5 none, Cond.fieldLink RX7 21 "GasVoyages$WayCounter" "land" "LGasVoyages$Land;", Cond.fieldLink RX7 92 "GasVoyages$Land" "kinds" "[I", Cond.static yX9_cellOfPlace, Cond.code yX9_cellOfPlace cX9_cellOfPlace 1 (some .int), Cond.methodLink RX7 97 yX4_add, Cond.instanceMethod yX4_add]
def wsX9_record_r3 : List Cond := [Cond.selects RX4 yX4_add yX4_add, Cond.code yX4_add cX4_add 4 none, Cond.constant RX4 25 (1000000), Cond.methodLink RX4 26 Lib.Math.min.name, Cond.static Lib.Math.min.name, Cond.initialized "java/lang/Math", Cond.code Lib.Math.min.name Lib.Math.min.code 2 (some .int), Cond.methodLink RX7 50 yX7_spread, Cond.instanceMethod yX7_spread, Cond.selects RX7 yX7_spread yX7_spread, Cond.code yX7_spread cX7_spread 10 none, Cond.fieldLink RX7 64 "GasVoyages$Flight" "startTick" "I", Cond.methodLink RX7 67 Lib.Math.min.name, Cond.fieldLink RX7 25 "GasVoyages$WayCounter" "winds" "LGasVoyages$Winds;", Cond.fieldLink RX7 82 "GasVoyages$Flight" "lost" "[Z", Cond.fieldLink RX7 86 "GasVoyages$Front" "clean" "[I", Cond.fieldLink RX7 89 "GasVoyages$Front" "broken" "[I", Cond.static yX9_levelOfPlace, Cond.code yX9_levelOfPlace cX9_levelOfPlace 1 (some .int), Cond.methodLink RX7 73 yX8_leadFrom, Cond.instanceMethod yX8_leadFrom, Cond.selects RX8 yX8_leadFrom yX8_leadFrom, Cond.initialized RX8, Cond.code yX8_leadFrom cX8_leadFrom 6 (some .int)]
def wsX9_record_r4 : List Cond := [Cond.fieldLink RX8 9 "GasVoyages$Winds" "dx" "[I", Cond.fieldLink RX8 15 "GasVoyages$Winds" "dy" "[I", Cond.methodLink RX8 18 yX5_movedFrom, Cond.instanceMethod yX5_movedFrom, Cond.selects RX5 yX5_movedFrom yX5_movedFrom, Cond.initialized RX5, Cond.code yX5_movedFrom cX5_movedFrom 6 (some .int), Cond.static yX9_xOf, Cond.code yX9_xOf cX9_xOf 1 (some .int), Cond.static yX9_yOf, Cond.code yX9_yOf cX9_yOf 1 (some .int), Cond.methodLink RX5 39 yX5_has, Cond.instanceMethod yX5_has, Cond.selects RX5 yX5_has yX5_has, Cond.code yX5_has cX5_has 3 (some .boolean), Cond.fieldLink RX5 9 "GasVoyages$Land" "w" "I", Cond.fieldLink RX5 15 "GasVoyages$Land" "h" "I", Cond.static yX9_cellOf, Cond.code yX9_cellOf cX9_cellOf 2 (some .int), Cond.static yX9_placeOf, Cond.code yX9_placeOf cX9_placeOf 2 (some .int), Cond.methodLink RX7 54 yX7_sumUp, Cond.instanceMethod yX7_sumUp, Cond.selects RX7 yX7_sumUp yX7_sumUp]
def wsX9_record_r5 : List Cond := [Cond.code yX7_sumUp cX7_sumUp 2 none, Cond.fieldLink RX7 101 "GasVoyages$WayCounter" "clean" "I", Cond.fieldLink RX7 103 "GasVoyages$WayCounter" "broken" "I", Cond.constant RX7 105 (1000000), Cond.methodLink RX9 210 yX7_verdict, Cond.instanceMethod yX7_verdict, Cond.selects RX7 yX7_verdict yX7_verdict, Cond.code yX7_verdict cX7_verdict 1 (some .int), Cond.methodLink RX9 241 yX9_countAheadOf, Cond.instanceMethod yX9_countAheadOf, Cond.selects RX9 yX9_countAheadOf yX9_countAheadOf, Cond.code yX9_countAheadOf cX9_countAheadOf 4 (some .int), Cond.methodLink RX9 280 yX9_isAhead, Cond.instanceMethod yX9_isAhead, Cond.selects RX9 yX9_isAhead yX9_isAhead, Cond.code yX9_isAhead cX9_isAhead 5 (some .boolean), Cond.fieldLink RX9 131 "GasVoyages$Flight" "entries" "I", Cond.methodLink RX9 171 yX3_flown, Cond.instanceMethod yX3_flown, Cond.selects RX3 yX3_flown yX3_flown, Cond.initialized RX3, Cond.code yX3_flown cX3_flown 5 (some .int), Cond.fieldLink RX3 26 "GasVoyages$Flight" "startCell" "I", Cond.fieldLink RX3 12 "GasVoyages$Flight" "balloon" "LGasVoyages$Balloon;"]
def wsX9_record_r6 : List Cond := [Cond.fieldLink RX3 33 "GasVoyages$Balloon" "cell" "I", Cond.static yX9_squareBetween, Cond.code yX9_squareBetween cX9_squareBetween 4 (some .int), Cond.methodLink RX9 145 yX9_xOf, Cond.methodLink RX9 149 yX9_yOf]
def wsX9_record : List Cond := .code yX9_record cX9_record 3 (some .int) :: ((wsX9_record_r1 ++ (wsX9_record_r2 ++ (wsX9_record_r3 ++ (wsX9_record_r4 ++ (wsX9_record_r5 ++ wsX9_record_r6))))) ++ wsX90 ++ wsX30 ++ wsX10 ++ wsX70 ++ wsX40 ++ wsX50 ++ wsX80)
def wsX9_countGoing : List Cond := .code yX9_countGoing cX9_countGoing 3 (some .int) :: ([.fieldLink RX9 33 "GasVoyages" "flightCount" "I", .fieldLink RX9 25 "GasVoyages" "flights" "[LGasVoyages$Flight;", .fieldLink RX9 121 "GasVoyages$Flight" "balloon" "LGasVoyages$Balloon;", .fieldLink RX9 125 "GasVoyages$Balloon" "landed" "Z"] ++ wsX90 ++ wsX30 ++ wsX10)
def wsX9_countLost : List Cond := .code yX9_countLost cX9_countLost 3 (some .int) :: ([.fieldLink RX9 33 "GasVoyages" "flightCount" "I", .fieldLink RX9 25 "GasVoyages" "flights" "[LGasVoyages$Flight;", .fieldLink RX9 283 "GasVoyages$Flight" "lostCount" "I"] ++ wsX90 ++ wsX30)
def wsX9_count_r1 : List Cond := [Cond.fieldLink RX9 12 "GasVoyages" "ground" "LGasVoyages$Land;", Cond.fieldLink RX9 244 "GasVoyages$Land" "w" "I", Cond.fieldLink RX9 247 "GasVoyages$Land" "h" "I", Cond.fieldLink RX9 33 "GasVoyages" "flightCount" "I", Cond.fieldLink RX9 64 "GasVoyages" "chasers" "LGasVoyages$Chasers;", Cond.fieldLink RX9 77 "GasVoyages$Chasers" "number" "I", Cond.methodLink RX9 250 yX9_countGoing, Cond.instanceMethod yX9_countGoing, Cond.selects RX9 yX9_countGoing yX9_countGoing, Cond.initialized RX9, Cond.code yX9_countGoing cX9_countGoing 3 (some .int), Cond.fieldLink RX9 25 "GasVoyages" "flights" "[LGasVoyages$Flight;", Cond.fieldLink RX9 121 "GasVoyages$Flight" "balloon" "LGasVoyages$Balloon;", Cond.fieldLink RX9 125 "GasVoyages$Balloon" "landed" "Z", Cond.methodLink RX9 253 yX5_countClosed, Cond.instanceMethod yX5_countClosed, Cond.selects RX5 yX5_countClosed yX5_countClosed, Cond.initialized RX5, Cond.code yX5_countClosed cX5_countClosed 3 (some .int), Cond.fieldLink RX5 18 "GasVoyages$Land" "kinds" "[I", Cond.methodLink RX9 256 yX9_countLost, Cond.instanceMethod yX9_countLost, Cond.selects RX9 yX9_countLost yX9_countLost, Cond.code yX9_countLost cX9_countLost 3 (some .int)]
def wsX9_count_r2 : List Cond := [Cond.fieldLink RX9 283 "GasVoyages$Flight" "lostCount" "I"]
def wsX9_count : List Cond := .code yX9_count cX9_count 2 (some .int) :: ((wsX9_count_r1 ++ wsX9_count_r2) ++ wsX90 ++ wsX50 ++ wsX20 ++ wsX30 ++ wsX10)
def wsX9_digestFlight_r1 : List Cond := [Cond.constantLong RX9 261 (31), Cond.fieldLink RX9 25 "GasVoyages" "flights" "[LGasVoyages$Flight;", Cond.fieldLink RX9 131 "GasVoyages$Flight" "entries" "I", Cond.methodLink RX9 273 yX9_about, Cond.instanceMethod yX9_about, Cond.selects RX9 yX9_about yX9_about, Cond.initialized RX9, Cond.code yX9_about cX9_about 5 (some .int), Cond.constant RX9 141 (-100000), Cond.fieldLink RX9 121 "GasVoyages$Flight" "balloon" "LGasVoyages$Balloon;", Cond.fieldLink RX9 142 "GasVoyages$Balloon" "cell" "I", Cond.fieldLink RX9 152 "GasVoyages$Balloon" "level" "I", Cond.fieldLink RX9 155 "GasVoyages$Balloon" "gas" "I", Cond.fieldLink RX9 158 "GasVoyages$Balloon" "ballast" "I", Cond.fieldLink RX9 161 "GasVoyages$Balloon" "tick" "I", Cond.fieldLink RX9 125 "GasVoyages$Balloon" "landed" "Z", Cond.fieldLink RX9 19 "GasVoyages" "air" "LGasVoyages$Air;", Cond.fieldLink RX9 168 "GasVoyages$Balloon" "vented" "I", Cond.methodLink RX9 118 yX9_isFlight, Cond.instanceMethod yX9_isFlight, Cond.selects RX9 yX9_isFlight yX9_isFlight, Cond.code yX9_isFlight cX9_isFlight 2 (some .boolean), Cond.fieldLink RX9 33 "GasVoyages" "flightCount" "I", Cond.methodLink RX9 69 yX9_within]
def wsX9_digestFlight_r2 : List Cond := [Cond.static yX9_within, Cond.code yX9_within cX9_within 3 (some .boolean), Cond.methodLink RX9 145 yX9_xOf, Cond.static yX9_xOf, Cond.code yX9_xOf cX9_xOf 1 (some .int), Cond.methodLink RX9 149 yX9_yOf, Cond.static yX9_yOf, Cond.code yX9_yOf cX9_yOf 1 (some .int), Cond.methodLink RX9 164 yX1_liftLessWeight, Cond.instanceMethod yX1_liftLessWeight, Cond.selects RX1 yX1_liftLessWeight yX1_liftLessWeight, Cond.initialized RX1, Cond.code yX1_liftLessWeight cX1_liftLessWeight 2 (some .int), Cond.fieldLink RX1 24 "GasVoyages$Balloon" "gas" "I", Cond.fieldLink RX1 37 "GasVoyages$Air" "density" "[I", Cond.fieldLink RX1 15 "GasVoyages$Balloon" "level" "I", Cond.fieldLink RX1 43 "GasVoyages$Air" "warmth" "[I", Cond.fieldLink RX1 21 "GasVoyages$Balloon" "load" "I", Cond.fieldLink RX1 27 "GasVoyages$Balloon" "ballast" "I", Cond.methodLink RX1 46 yX1_hour, Cond.instanceMethod yX1_hour, Cond.selects RX1 yX1_hour yX1_hour, Cond.code yX1_hour cX1_hour 1 (some .int), Cond.fieldLink RX1 18 "GasVoyages$Balloon" "tick" "I"]
def wsX9_digestFlight_r3 : List Cond := [Cond.methodLink RX9 276 yX9_entry, Cond.instanceMethod yX9_entry, Cond.selects RX9 yX9_entry yX9_entry, Cond.code yX9_entry cX9_entry 6 (some .int), Cond.fieldLink RX9 191 "GasVoyages$Flight" "lost" "[Z", Cond.fieldLink RX9 194 "GasVoyages$Flight" "places" "[I", Cond.methodLink RX9 197 yX9_levelOfPlace, Cond.static yX9_levelOfPlace, Cond.code yX9_levelOfPlace cX9_levelOfPlace 1 (some .int), Cond.methodLink RX9 200 yX9_cellOfPlace, Cond.static yX9_cellOfPlace, Cond.code yX9_cellOfPlace cX9_cellOfPlace 1 (some .int)]
def wsX9_digestFlight : List Cond := .code yX9_digestFlight cX9_digestFlight 8 (some .long) :: ((wsX9_digestFlight_r1 ++ (wsX9_digestFlight_r2 ++ wsX9_digestFlight_r3)) ++ wsX90 ++ wsX30 ++ wsX10 ++ wsX00)
def wsX9_digest_r1 : List Cond := [Cond.constantLong RX9 259 (163), Cond.constantLong RX9 261 (31), Cond.fieldLink RX9 33 "GasVoyages" "flightCount" "I", Cond.fieldLink RX9 64 "GasVoyages" "chasers" "LGasVoyages$Chasers;", Cond.fieldLink RX9 77 "GasVoyages$Chasers" "number" "I", Cond.fieldLink RX9 270 "GasVoyages$Chasers" "cells" "[I", Cond.methodLink RX9 263 yX9_count, Cond.instanceMethod yX9_count, Cond.selects RX9 yX9_count yX9_count, Cond.initialized RX9, Cond.code yX9_count cX9_count 2 (some .int), Cond.fieldLink RX9 12 "GasVoyages" "ground" "LGasVoyages$Land;", Cond.fieldLink RX9 244 "GasVoyages$Land" "w" "I", Cond.fieldLink RX9 247 "GasVoyages$Land" "h" "I", Cond.methodLink RX9 250 yX9_countGoing, Cond.instanceMethod yX9_countGoing, Cond.selects RX9 yX9_countGoing yX9_countGoing, Cond.code yX9_countGoing cX9_countGoing 3 (some .int), Cond.fieldLink RX9 25 "GasVoyages" "flights" "[LGasVoyages$Flight;", Cond.fieldLink RX9 121 "GasVoyages$Flight" "balloon" "LGasVoyages$Balloon;", Cond.fieldLink RX9 125 "GasVoyages$Balloon" "landed" "Z", Cond.methodLink RX9 253 yX5_countClosed, Cond.instanceMethod yX5_countClosed, Cond.selects RX5 yX5_countClosed yX5_countClosed]
def wsX9_digest_r2 : List Cond := [Cond.initialized RX5, Cond.code yX5_countClosed cX5_countClosed 3 (some .int), Cond.fieldLink RX5 18 "GasVoyages$Land" "kinds" "[I", Cond.methodLink RX9 256 yX9_countLost, Cond.instanceMethod yX9_countLost, Cond.selects RX9 yX9_countLost yX9_countLost, Cond.code yX9_countLost cX9_countLost 3 (some .int), Cond.fieldLink RX9 283 "GasVoyages$Flight" "lostCount" "I", Cond.methodLink RX9 266 yX9_digestFlight, Cond.instanceMethod yX9_digestFlight, Cond.selects RX9 yX9_digestFlight yX9_digestFlight, Cond.code yX9_digestFlight cX9_digestFlight 8 (some .long), Cond.fieldLink RX9 131 "GasVoyages$Flight" "entries" "I", Cond.methodLink RX9 273 yX9_about, Cond.instanceMethod yX9_about, Cond.selects RX9 yX9_about yX9_about, Cond.code yX9_about cX9_about 5 (some .int), Cond.constant RX9 141 (-100000), Cond.fieldLink RX9 142 "GasVoyages$Balloon" "cell" "I", Cond.fieldLink RX9 152 "GasVoyages$Balloon" "level" "I", Cond.fieldLink RX9 155 "GasVoyages$Balloon" "gas" "I", Cond.fieldLink RX9 158 "GasVoyages$Balloon" "ballast" "I", Cond.fieldLink RX9 161 "GasVoyages$Balloon" "tick" "I", Cond.fieldLink RX9 19 "GasVoyages" "air" "LGasVoyages$Air;"]
def wsX9_digest_r3 : List Cond := [Cond.fieldLink RX9 168 "GasVoyages$Balloon" "vented" "I", Cond.methodLink RX9 118 yX9_isFlight, Cond.instanceMethod yX9_isFlight, Cond.selects RX9 yX9_isFlight yX9_isFlight, Cond.code yX9_isFlight cX9_isFlight 2 (some .boolean), Cond.methodLink RX9 69 yX9_within, Cond.static yX9_within, Cond.code yX9_within cX9_within 3 (some .boolean), Cond.methodLink RX9 145 yX9_xOf, Cond.static yX9_xOf, Cond.code yX9_xOf cX9_xOf 1 (some .int), Cond.methodLink RX9 149 yX9_yOf, Cond.static yX9_yOf, Cond.code yX9_yOf cX9_yOf 1 (some .int), Cond.methodLink RX9 164 yX1_liftLessWeight, Cond.instanceMethod yX1_liftLessWeight, Cond.selects RX1 yX1_liftLessWeight yX1_liftLessWeight, Cond.initialized RX1, Cond.code yX1_liftLessWeight cX1_liftLessWeight 2 (some .int), Cond.fieldLink RX1 24 "GasVoyages$Balloon" "gas" "I", Cond.fieldLink RX1 37 "GasVoyages$Air" "density" "[I", Cond.fieldLink RX1 15 "GasVoyages$Balloon" "level" "I", Cond.fieldLink RX1 43 "GasVoyages$Air" "warmth" "[I", Cond.fieldLink RX1 21 "GasVoyages$Balloon" "load" "I"]
def wsX9_digest_r4 : List Cond := [Cond.fieldLink RX1 27 "GasVoyages$Balloon" "ballast" "I", Cond.methodLink RX1 46 yX1_hour, Cond.instanceMethod yX1_hour, Cond.selects RX1 yX1_hour yX1_hour, Cond.code yX1_hour cX1_hour 1 (some .int), Cond.fieldLink RX1 18 "GasVoyages$Balloon" "tick" "I", Cond.methodLink RX9 276 yX9_entry, Cond.instanceMethod yX9_entry, Cond.selects RX9 yX9_entry yX9_entry, Cond.code yX9_entry cX9_entry 6 (some .int), Cond.fieldLink RX9 191 "GasVoyages$Flight" "lost" "[Z", Cond.fieldLink RX9 194 "GasVoyages$Flight" "places" "[I", Cond.methodLink RX9 197 yX9_levelOfPlace, Cond.static yX9_levelOfPlace, Cond.code yX9_levelOfPlace cX9_levelOfPlace 1 (some .int), Cond.methodLink RX9 200 yX9_cellOfPlace, Cond.static yX9_cellOfPlace, Cond.code yX9_cellOfPlace cX9_cellOfPlace 1 (some .int)]
def wsX9_digest : List Cond := .code yX9_digest cX9_digest 4 (some .long) :: ((wsX9_digest_r1 ++ (wsX9_digest_r2 ++ (wsX9_digest_r3 ++ wsX9_digest_r4))) ++ wsX90 ++ wsX20 ++ wsX50 ++ wsX30 ++ wsX10 ++ wsX00)
def wsX10_init_r1 : List Cond := [Cond.methodLink RX10 1 objectInit, Cond.instanceMethod objectInit, Cond.code objectInit ⟨#[0xb1]⟩ 1 none, Cond.fieldLink RX10 7 "GasVoyagesModel" "wide" "I", Cond.fieldLink RX10 13 "GasVoyagesModel" "high" "I", Cond.arrayClass .int, Cond.fieldLink RX10 16 "GasVoyagesModel" "kinds" "[I", Cond.fieldLink RX10 20 "GasVoyagesModel" "density" "[I", Cond.fieldLink RX10 23 "GasVoyagesModel" "fullness" "[I", Cond.fieldLink RX10 26 "GasVoyagesModel" "warmth" "[I", Cond.fieldLink RX10 29 "GasVoyagesModel" "windX" "[I", Cond.fieldLink RX10 32 "GasVoyagesModel" "windY" "[I", Cond.fieldLink RX10 35 "GasVoyagesModel" "fx" "[I", Cond.fieldLink RX10 38 "GasVoyagesModel" "fy" "[I", Cond.fieldLink RX10 41 "GasVoyagesModel" "fl" "[I", Cond.fieldLink RX10 44 "GasVoyagesModel" "ft" "[I", Cond.fieldLink RX10 47 "GasVoyagesModel" "load" "[I", Cond.fieldLink RX10 50 "GasVoyagesModel" "gas" "[I", Cond.fieldLink RX10 53 "GasVoyagesModel" "ballast" "[I", Cond.fieldLink RX10 56 "GasVoyagesModel" "gone" "[I", Cond.arrayClass .boolean, Cond.fieldLink RX10 59 "GasVoyagesModel" "landed" "[Z", Cond.fieldLink RX10 63 "GasVoyagesModel" "begun" "[I", Cond.fieldLink RX10 66 "GasVoyagesModel" "entries" "[I"]
def wsX10_init_r2 : List Cond := [Cond.fieldLink RX10 69 "GasVoyagesModel" "logCell" "[I", Cond.fieldLink RX10 72 "GasVoyagesModel" "logLevel" "[I", Cond.fieldLink RX10 75 "GasVoyagesModel" "lost" "[Z", Cond.fieldLink RX10 78 "GasVoyagesModel" "cx" "[I", Cond.fieldLink RX10 81 "GasVoyagesModel" "cy" "[I", Cond.fieldLink RX10 84 "GasVoyagesModel" "pace" "[I", Cond.fieldLink RX10 87 "GasVoyagesModel" "plan" "[I", Cond.fieldLink RX10 90 "GasVoyagesModel" "whole" "[I", Cond.fieldLink RX10 93 "GasVoyagesModel" "broken" "[I", Cond.fieldLink RX10 96 "GasVoyagesModel" "nextWhole" "[I", Cond.fieldLink RX10 99 "GasVoyagesModel" "nextBroken" "[I", Cond.fieldLink RX10 102 "GasVoyagesModel" "far" "[I", Cond.fieldLink RX10 105 "GasVoyagesModel" "counts" "[Z"]
def wsX10_init : List Cond := .code yX10_init cX10_init 2 none :: ((wsX10_init_r1 ++ wsX10_init_r2) ++ wsX100)
def wsX10_in : List Cond := .code yX10_in cX10_in 3 (some .boolean) :: ([])
def wsX10_isCell : List Cond := .code yX10_isCell cX10_isCell 3 (some .boolean) :: ([.fieldLink RX10 7 "GasVoyagesModel" "wide" "I", .fieldLink RX10 13 "GasVoyagesModel" "high" "I", .methodLink RX10 108 yX10_in, .static yX10_in, .initialized RX10, .code yX10_in cX10_in 3 (some .boolean)] ++ wsX100)
def wsX10_isFlight : List Cond := .code yX10_isFlight cX10_isFlight 2 (some .boolean) :: ([.fieldLink RX10 112 "GasVoyagesModel" "flights" "I", .methodLink RX10 108 yX10_in, .static yX10_in, .initialized RX10, .code yX10_in cX10_in 3 (some .boolean)] ++ wsX100)
def wsX10_land : List Cond := .code yX10_land cX10_land 4 (some .int) :: ([.fieldLink RX10 7 "GasVoyagesModel" "wide" "I", .fieldLink RX10 13 "GasVoyagesModel" "high" "I", .fieldLink RX10 16 "GasVoyagesModel" "kinds" "[I", .fieldLink RX10 112 "GasVoyagesModel" "flights" "I", .fieldLink RX10 115 "GasVoyagesModel" "chasers" "I", .methodLink RX10 108 yX10_in, .static yX10_in, .initialized RX10, .code yX10_in cX10_in 3 (some .boolean)] ++ wsX100)
def wsX10_cell : List Cond := .code yX10_cell cX10_cell 5 (some .int) :: ([.fieldLink RX10 115 "GasVoyagesModel" "chasers" "I", .fieldLink RX10 78 "GasVoyagesModel" "cx" "[I", .fieldLink RX10 81 "GasVoyagesModel" "cy" "[I", .fieldLink RX10 16 "GasVoyagesModel" "kinds" "[I", .methodLink RX10 118 yX10_isCell, .instanceMethod yX10_isCell, .selects RX10 yX10_isCell yX10_isCell, .initialized RX10, .code yX10_isCell cX10_isCell 3 (some .boolean), .fieldLink RX10 7 "GasVoyagesModel" "wide" "I", .fieldLink RX10 13 "GasVoyagesModel" "high" "I", .methodLink RX10 108 yX10_in, .static yX10_in, .code yX10_in cX10_in 3 (some .boolean)] ++ wsX100)
def wsX10_level : List Cond := .code yX10_level cX10_level 4 (some .int) :: ([.fieldLink RX10 20 "GasVoyagesModel" "density" "[I", .fieldLink RX10 23 "GasVoyagesModel" "fullness" "[I", .methodLink RX10 108 yX10_in, .static yX10_in, .initialized RX10, .code yX10_in cX10_in 3 (some .boolean)] ++ wsX100)
def wsX10_warmth : List Cond := .code yX10_warmth cX10_warmth 4 (some .int) :: ([.fieldLink RX10 26 "GasVoyagesModel" "warmth" "[I", .methodLink RX10 108 yX10_in, .static yX10_in, .initialized RX10, .code yX10_in cX10_in 3 (some .boolean)] ++ wsX100)
def wsX10_windAt : List Cond := .code yX10_windAt cX10_windAt 3 (some .int) :: ([])
def wsX10_wind : List Cond := .code yX10_wind cX10_wind 8 (some .int) :: ([.fieldLink RX10 29 "GasVoyagesModel" "windX" "[I", .fieldLink RX10 32 "GasVoyagesModel" "windY" "[I", .methodLink RX10 108 yX10_in, .static yX10_in, .initialized RX10, .code yX10_in cX10_in 3 (some .boolean), .methodLink RX10 122 yX10_windAt, .static yX10_windAt, .code yX10_windAt cX10_windAt 3 (some .int)] ++ wsX100)
def wsX10_led : List Cond := .code yX10_led cX10_led 7 (some .int) :: ([.fieldLink RX10 29 "GasVoyagesModel" "windX" "[I", .fieldLink RX10 32 "GasVoyagesModel" "windY" "[I", .methodLink RX10 122 yX10_windAt, .static yX10_windAt, .initialized RX10, .code yX10_windAt cX10_windAt 3 (some .int), .methodLink RX10 118 yX10_isCell, .instanceMethod yX10_isCell, .selects RX10 yX10_isCell yX10_isCell, .code yX10_isCell cX10_isCell 3 (some .boolean), .fieldLink RX10 7 "GasVoyagesModel" "wide" "I", .fieldLink RX10 13 "GasVoyagesModel" "high" "I", .methodLink RX10 108 yX10_in, .static yX10_in, .code yX10_in cX10_in 3 (some .boolean)] ++ wsX100)
def wsX10_tick_r1 : List Cond := [Cond.fieldLink RX10 126 "GasVoyagesModel" "nowBallast" "I", Cond.fieldLink RX10 129 "GasVoyagesModel" "nowGas" "I", Cond.fieldLink RX10 20 "GasVoyagesModel" "density" "[I", Cond.fieldLink RX10 132 "GasVoyagesModel" "nowLevel" "I", Cond.fieldLink RX10 26 "GasVoyagesModel" "warmth" "[I", Cond.fieldLink RX10 23 "GasVoyagesModel" "fullness" "[I", Cond.fieldLink RX10 135 "GasVoyagesModel" "nowGone" "I", Cond.fieldLink RX10 138 "GasVoyagesModel" "nowX" "I", Cond.fieldLink RX10 141 "GasVoyagesModel" "nowY" "I", Cond.methodLink RX10 144 yX10_led, Cond.instanceMethod yX10_led, Cond.selects RX10 yX10_led yX10_led, Cond.initialized RX10, Cond.code yX10_led cX10_led 7 (some .int), Cond.fieldLink RX10 29 "GasVoyagesModel" "windX" "[I", Cond.fieldLink RX10 32 "GasVoyagesModel" "windY" "[I", Cond.methodLink RX10 122 yX10_windAt, Cond.static yX10_windAt, Cond.code yX10_windAt cX10_windAt 3 (some .int), Cond.methodLink RX10 118 yX10_isCell, Cond.instanceMethod yX10_isCell, Cond.selects RX10 yX10_isCell yX10_isCell, Cond.code yX10_isCell cX10_isCell 3 (some .boolean), Cond.fieldLink RX10 7 "GasVoyagesModel" "wide" "I"]
def wsX10_tick_r2 : List Cond := [Cond.fieldLink RX10 13 "GasVoyagesModel" "high" "I", Cond.methodLink RX10 108 yX10_in, Cond.static yX10_in, Cond.code yX10_in cX10_in 3 (some .boolean)]
def wsX10_tick : List Cond := .code yX10_tick cX10_tick 9 none :: ((wsX10_tick_r1 ++ wsX10_tick_r2) ++ wsX100)
def wsX10_begin : List Cond := .code yX10_begin cX10_begin 2 none :: ([.fieldLink RX10 35 "GasVoyagesModel" "fx" "[I", .fieldLink RX10 138 "GasVoyagesModel" "nowX" "I", .fieldLink RX10 38 "GasVoyagesModel" "fy" "[I", .fieldLink RX10 141 "GasVoyagesModel" "nowY" "I", .fieldLink RX10 41 "GasVoyagesModel" "fl" "[I", .fieldLink RX10 132 "GasVoyagesModel" "nowLevel" "I", .fieldLink RX10 50 "GasVoyagesModel" "gas" "[I", .fieldLink RX10 129 "GasVoyagesModel" "nowGas" "I", .fieldLink RX10 53 "GasVoyagesModel" "ballast" "[I", .fieldLink RX10 126 "GasVoyagesModel" "nowBallast" "I", .fieldLink RX10 56 "GasVoyagesModel" "gone" "[I", .fieldLink RX10 135 "GasVoyagesModel" "nowGone" "I"] ++ wsX100)
def wsX10_writes : List Cond := .code yX10_writes cX10_writes 2 none :: ([.fieldLink RX10 69 "GasVoyagesModel" "logCell" "[I", .fieldLink RX10 66 "GasVoyagesModel" "entries" "[I", .fieldLink RX10 38 "GasVoyagesModel" "fy" "[I", .fieldLink RX10 35 "GasVoyagesModel" "fx" "[I", .fieldLink RX10 72 "GasVoyagesModel" "logLevel" "[I", .fieldLink RX10 41 "GasVoyagesModel" "fl" "[I", .fieldLink RX10 75 "GasVoyagesModel" "lost" "[Z"] ++ wsX100)
def wsX10_fly_r1 : List Cond := [Cond.fieldLink RX10 16 "GasVoyagesModel" "kinds" "[I", Cond.fieldLink RX10 112 "GasVoyagesModel" "flights" "I", Cond.fieldLink RX10 35 "GasVoyagesModel" "fx" "[I", Cond.fieldLink RX10 38 "GasVoyagesModel" "fy" "[I", Cond.fieldLink RX10 41 "GasVoyagesModel" "fl" "[I", Cond.fieldLink RX10 44 "GasVoyagesModel" "ft" "[I", Cond.fieldLink RX10 63 "GasVoyagesModel" "begun" "[I", Cond.fieldLink RX10 47 "GasVoyagesModel" "load" "[I", Cond.fieldLink RX10 50 "GasVoyagesModel" "gas" "[I", Cond.fieldLink RX10 53 "GasVoyagesModel" "ballast" "[I", Cond.fieldLink RX10 56 "GasVoyagesModel" "gone" "[I", Cond.fieldLink RX10 59 "GasVoyagesModel" "landed" "[Z", Cond.fieldLink RX10 66 "GasVoyagesModel" "entries" "[I", Cond.methodLink RX10 118 yX10_isCell, Cond.instanceMethod yX10_isCell, Cond.selects RX10 yX10_isCell yX10_isCell, Cond.initialized RX10, Cond.code yX10_isCell cX10_isCell 3 (some .boolean), Cond.fieldLink RX10 7 "GasVoyagesModel" "wide" "I", Cond.fieldLink RX10 13 "GasVoyagesModel" "high" "I", Cond.methodLink RX10 108 yX10_in, Cond.static yX10_in, Cond.code yX10_in cX10_in 3 (some .boolean), Cond.methodLink RX10 148 yX10_writes]
def wsX10_fly_r2 : List Cond := [Cond.instanceMethod yX10_writes, Cond.selects RX10 yX10_writes yX10_writes, Cond.code yX10_writes cX10_writes 2 none, Cond.fieldLink RX10 69 "GasVoyagesModel" "logCell" "[I", Cond.fieldLink RX10 72 "GasVoyagesModel" "logLevel" "[I", Cond.fieldLink RX10 75 "GasVoyagesModel" "lost" "[Z"]
def wsX10_fly : List Cond := .code yX10_fly cX10_fly 8 (some .int) :: ((wsX10_fly_r1 ++ wsX10_fly_r2) ++ wsX100)
def wsX10_go_r1 : List Cond := [Cond.fieldLink RX10 59 "GasVoyagesModel" "landed" "[Z", Cond.fieldLink RX10 66 "GasVoyagesModel" "entries" "[I", Cond.fieldLink RX10 44 "GasVoyagesModel" "ft" "[I", Cond.fieldLink RX10 47 "GasVoyagesModel" "load" "[I", Cond.fieldLink RX10 35 "GasVoyagesModel" "fx" "[I", Cond.fieldLink RX10 138 "GasVoyagesModel" "nowX" "I", Cond.fieldLink RX10 38 "GasVoyagesModel" "fy" "[I", Cond.fieldLink RX10 141 "GasVoyagesModel" "nowY" "I", Cond.fieldLink RX10 41 "GasVoyagesModel" "fl" "[I", Cond.fieldLink RX10 132 "GasVoyagesModel" "nowLevel" "I", Cond.fieldLink RX10 50 "GasVoyagesModel" "gas" "[I", Cond.fieldLink RX10 129 "GasVoyagesModel" "nowGas" "I", Cond.fieldLink RX10 53 "GasVoyagesModel" "ballast" "[I", Cond.fieldLink RX10 126 "GasVoyagesModel" "nowBallast" "I", Cond.fieldLink RX10 56 "GasVoyagesModel" "gone" "[I", Cond.fieldLink RX10 135 "GasVoyagesModel" "nowGone" "I", Cond.methodLink RX10 152 yX10_isFlight, Cond.instanceMethod yX10_isFlight, Cond.selects RX10 yX10_isFlight yX10_isFlight, Cond.initialized RX10, Cond.code yX10_isFlight cX10_isFlight 2 (some .boolean), Cond.fieldLink RX10 112 "GasVoyagesModel" "flights" "I", Cond.methodLink RX10 108 yX10_in, Cond.static yX10_in]
def wsX10_go_r2 : List Cond := [Cond.code yX10_in cX10_in 3 (some .boolean), Cond.methodLink RX10 156 yX10_begin, Cond.instanceMethod yX10_begin, Cond.selects RX10 yX10_begin yX10_begin, Cond.code yX10_begin cX10_begin 2 none, Cond.methodLink RX10 159 yX10_tick, Cond.instanceMethod yX10_tick, Cond.selects RX10 yX10_tick yX10_tick, Cond.code yX10_tick cX10_tick 9 none, Cond.fieldLink RX10 20 "GasVoyagesModel" "density" "[I", Cond.fieldLink RX10 26 "GasVoyagesModel" "warmth" "[I", Cond.fieldLink RX10 23 "GasVoyagesModel" "fullness" "[I", Cond.methodLink RX10 144 yX10_led, Cond.instanceMethod yX10_led, Cond.selects RX10 yX10_led yX10_led, Cond.code yX10_led cX10_led 7 (some .int), Cond.fieldLink RX10 29 "GasVoyagesModel" "windX" "[I", Cond.fieldLink RX10 32 "GasVoyagesModel" "windY" "[I", Cond.methodLink RX10 122 yX10_windAt, Cond.static yX10_windAt, Cond.code yX10_windAt cX10_windAt 3 (some .int), Cond.methodLink RX10 118 yX10_isCell, Cond.instanceMethod yX10_isCell, Cond.selects RX10 yX10_isCell yX10_isCell]
def wsX10_go_r3 : List Cond := [Cond.code yX10_isCell cX10_isCell 3 (some .boolean), Cond.fieldLink RX10 7 "GasVoyagesModel" "wide" "I", Cond.fieldLink RX10 13 "GasVoyagesModel" "high" "I", Cond.methodLink RX10 148 yX10_writes, Cond.instanceMethod yX10_writes, Cond.selects RX10 yX10_writes yX10_writes, Cond.code yX10_writes cX10_writes 2 none, Cond.fieldLink RX10 69 "GasVoyagesModel" "logCell" "[I", Cond.fieldLink RX10 72 "GasVoyagesModel" "logLevel" "[I", Cond.fieldLink RX10 75 "GasVoyagesModel" "lost" "[Z"]
def wsX10_go : List Cond := .code yX10_go cX10_go 6 (some .int) :: ((wsX10_go_r1 ++ (wsX10_go_r2 ++ wsX10_go_r3)) ++ wsX100)
def wsX10_about : List Cond := .code yX10_about cX10_about 3 (some .int) :: ([.constant RX10 163 (-100000), .fieldLink RX10 35 "GasVoyagesModel" "fx" "[I", .fieldLink RX10 38 "GasVoyagesModel" "fy" "[I", .fieldLink RX10 41 "GasVoyagesModel" "fl" "[I", .fieldLink RX10 50 "GasVoyagesModel" "gas" "[I", .fieldLink RX10 53 "GasVoyagesModel" "ballast" "[I", .fieldLink RX10 44 "GasVoyagesModel" "ft" "[I", .fieldLink RX10 59 "GasVoyagesModel" "landed" "[Z", .fieldLink RX10 66 "GasVoyagesModel" "entries" "[I", .fieldLink RX10 20 "GasVoyagesModel" "density" "[I", .fieldLink RX10 26 "GasVoyagesModel" "warmth" "[I", .fieldLink RX10 47 "GasVoyagesModel" "load" "[I", .fieldLink RX10 56 "GasVoyagesModel" "gone" "[I", .methodLink RX10 152 yX10_isFlight, .instanceMethod yX10_isFlight, .selects RX10 yX10_isFlight yX10_isFlight, .initialized RX10, .code yX10_isFlight cX10_isFlight 2 (some .boolean), .fieldLink RX10 112 "GasVoyagesModel" "flights" "I", .methodLink RX10 108 yX10_in, .static yX10_in, .code yX10_in cX10_in 3 (some .boolean)] ++ wsX100)
def wsX10_distanceOf : List Cond := .code yX10_distanceOf cX10_distanceOf 4 (some .int) :: ([])
def wsX10_distanceFlown : List Cond := .code yX10_distanceFlown cX10_distanceFlown 2 (some .int) :: ([.fieldLink RX10 35 "GasVoyagesModel" "fx" "[I", .fieldLink RX10 69 "GasVoyagesModel" "logCell" "[I", .fieldLink RX10 38 "GasVoyagesModel" "fy" "[I", .methodLink RX10 164 yX10_distanceOf, .static yX10_distanceOf, .initialized RX10, .code yX10_distanceOf cX10_distanceOf 4 (some .int)] ++ wsX100)
def wsX10_distance : List Cond := .code yX10_distance cX10_distance 2 (some .int) :: ([.methodLink RX10 152 yX10_isFlight, .instanceMethod yX10_isFlight, .selects RX10 yX10_isFlight yX10_isFlight, .initialized RX10, .code yX10_isFlight cX10_isFlight 2 (some .boolean), .fieldLink RX10 112 "GasVoyagesModel" "flights" "I", .methodLink RX10 108 yX10_in, .static yX10_in, .code yX10_in cX10_in 3 (some .boolean), .methodLink RX10 168 yX10_distanceFlown, .instanceMethod yX10_distanceFlown, .selects RX10 yX10_distanceFlown yX10_distanceFlown, .code yX10_distanceFlown cX10_distanceFlown 2 (some .int), .fieldLink RX10 35 "GasVoyagesModel" "fx" "[I", .fieldLink RX10 69 "GasVoyagesModel" "logCell" "[I", .fieldLink RX10 38 "GasVoyagesModel" "fy" "[I", .methodLink RX10 164 yX10_distanceOf, .static yX10_distanceOf, .code yX10_distanceOf cX10_distanceOf 4 (some .int)] ++ wsX100)
def wsX10_flown_r1 : List Cond := [Cond.fieldLink RX10 44 "GasVoyagesModel" "ft" "[I", Cond.fieldLink RX10 47 "GasVoyagesModel" "load" "[I", Cond.fieldLink RX10 132 "GasVoyagesModel" "nowLevel" "I", Cond.fieldLink RX10 16 "GasVoyagesModel" "kinds" "[I", Cond.fieldLink RX10 141 "GasVoyagesModel" "nowY" "I", Cond.fieldLink RX10 138 "GasVoyagesModel" "nowX" "I", Cond.methodLink RX10 156 yX10_begin, Cond.instanceMethod yX10_begin, Cond.selects RX10 yX10_begin yX10_begin, Cond.initialized RX10, Cond.code yX10_begin cX10_begin 2 none, Cond.fieldLink RX10 35 "GasVoyagesModel" "fx" "[I", Cond.fieldLink RX10 38 "GasVoyagesModel" "fy" "[I", Cond.fieldLink RX10 41 "GasVoyagesModel" "fl" "[I", Cond.fieldLink RX10 50 "GasVoyagesModel" "gas" "[I", Cond.fieldLink RX10 129 "GasVoyagesModel" "nowGas" "I", Cond.fieldLink RX10 53 "GasVoyagesModel" "ballast" "[I", Cond.fieldLink RX10 126 "GasVoyagesModel" "nowBallast" "I", Cond.fieldLink RX10 56 "GasVoyagesModel" "gone" "[I", Cond.fieldLink RX10 135 "GasVoyagesModel" "nowGone" "I", Cond.methodLink RX10 159 yX10_tick, Cond.instanceMethod yX10_tick, Cond.selects RX10 yX10_tick yX10_tick, Cond.code yX10_tick cX10_tick 9 none]
def wsX10_flown_r2 : List Cond := [Cond.fieldLink RX10 20 "GasVoyagesModel" "density" "[I", Cond.fieldLink RX10 26 "GasVoyagesModel" "warmth" "[I", Cond.fieldLink RX10 23 "GasVoyagesModel" "fullness" "[I", Cond.methodLink RX10 144 yX10_led, Cond.instanceMethod yX10_led, Cond.selects RX10 yX10_led yX10_led, Cond.code yX10_led cX10_led 7 (some .int), Cond.fieldLink RX10 29 "GasVoyagesModel" "windX" "[I", Cond.fieldLink RX10 32 "GasVoyagesModel" "windY" "[I", Cond.methodLink RX10 122 yX10_windAt, Cond.static yX10_windAt, Cond.code yX10_windAt cX10_windAt 3 (some .int), Cond.methodLink RX10 118 yX10_isCell, Cond.instanceMethod yX10_isCell, Cond.selects RX10 yX10_isCell yX10_isCell, Cond.code yX10_isCell cX10_isCell 3 (some .boolean), Cond.fieldLink RX10 7 "GasVoyagesModel" "wide" "I", Cond.fieldLink RX10 13 "GasVoyagesModel" "high" "I", Cond.methodLink RX10 108 yX10_in, Cond.static yX10_in, Cond.code yX10_in cX10_in 3 (some .boolean)]
def wsX10_flown : List Cond := .code yX10_flown cX10_flown 13 (some .int) :: ((wsX10_flown_r1 ++ wsX10_flown_r2) ++ wsX100)
def wsX10_planned_r1 : List Cond := [Cond.fieldLink RX10 176 "GasVoyagesModel" "planMany" "I", Cond.fieldLink RX10 87 "GasVoyagesModel" "plan" "[I", Cond.methodLink RX10 172 yX10_flown, Cond.instanceMethod yX10_flown, Cond.selects RX10 yX10_flown yX10_flown, Cond.initialized RX10, Cond.code yX10_flown cX10_flown 13 (some .int), Cond.fieldLink RX10 44 "GasVoyagesModel" "ft" "[I", Cond.fieldLink RX10 47 "GasVoyagesModel" "load" "[I", Cond.fieldLink RX10 132 "GasVoyagesModel" "nowLevel" "I", Cond.fieldLink RX10 16 "GasVoyagesModel" "kinds" "[I", Cond.fieldLink RX10 141 "GasVoyagesModel" "nowY" "I", Cond.fieldLink RX10 138 "GasVoyagesModel" "nowX" "I", Cond.methodLink RX10 156 yX10_begin, Cond.instanceMethod yX10_begin, Cond.selects RX10 yX10_begin yX10_begin, Cond.code yX10_begin cX10_begin 2 none, Cond.fieldLink RX10 35 "GasVoyagesModel" "fx" "[I", Cond.fieldLink RX10 38 "GasVoyagesModel" "fy" "[I", Cond.fieldLink RX10 41 "GasVoyagesModel" "fl" "[I", Cond.fieldLink RX10 50 "GasVoyagesModel" "gas" "[I", Cond.fieldLink RX10 129 "GasVoyagesModel" "nowGas" "I", Cond.fieldLink RX10 53 "GasVoyagesModel" "ballast" "[I", Cond.fieldLink RX10 126 "GasVoyagesModel" "nowBallast" "I"]
def wsX10_planned_r2 : List Cond := [Cond.fieldLink RX10 56 "GasVoyagesModel" "gone" "[I", Cond.fieldLink RX10 135 "GasVoyagesModel" "nowGone" "I", Cond.methodLink RX10 159 yX10_tick, Cond.instanceMethod yX10_tick, Cond.selects RX10 yX10_tick yX10_tick, Cond.code yX10_tick cX10_tick 9 none, Cond.fieldLink RX10 20 "GasVoyagesModel" "density" "[I", Cond.fieldLink RX10 26 "GasVoyagesModel" "warmth" "[I", Cond.fieldLink RX10 23 "GasVoyagesModel" "fullness" "[I", Cond.methodLink RX10 144 yX10_led, Cond.instanceMethod yX10_led, Cond.selects RX10 yX10_led yX10_led, Cond.code yX10_led cX10_led 7 (some .int), Cond.fieldLink RX10 29 "GasVoyagesModel" "windX" "[I", Cond.fieldLink RX10 32 "GasVoyagesModel" "windY" "[I", Cond.methodLink RX10 122 yX10_windAt, Cond.static yX10_windAt, Cond.code yX10_windAt cX10_windAt 3 (some .int), Cond.methodLink RX10 118 yX10_isCell, Cond.instanceMethod yX10_isCell, Cond.selects RX10 yX10_isCell yX10_isCell, Cond.code yX10_isCell cX10_isCell 3 (some .boolean), Cond.fieldLink RX10 7 "GasVoyagesModel" "wide" "I", Cond.fieldLink RX10 13 "GasVoyagesModel" "high" "I"]
def wsX10_planned_r3 : List Cond := [Cond.methodLink RX10 108 yX10_in, Cond.static yX10_in, Cond.code yX10_in cX10_in 3 (some .boolean)]
def wsX10_planned : List Cond := .code yX10_planned cX10_planned 12 (some .int) :: ((wsX10_planned_r1 ++ (wsX10_planned_r2 ++ wsX10_planned_r3)) ++ wsX100)
def wsX10_plan_r1 : List Cond := [Cond.fieldLink RX10 59 "GasVoyagesModel" "landed" "[Z", Cond.methodLink RX10 152 yX10_isFlight, Cond.instanceMethod yX10_isFlight, Cond.selects RX10 yX10_isFlight yX10_isFlight, Cond.initialized RX10, Cond.code yX10_isFlight cX10_isFlight 2 (some .boolean), Cond.fieldLink RX10 112 "GasVoyagesModel" "flights" "I", Cond.methodLink RX10 108 yX10_in, Cond.static yX10_in, Cond.code yX10_in cX10_in 3 (some .boolean), Cond.methodLink RX10 118 yX10_isCell, Cond.instanceMethod yX10_isCell, Cond.selects RX10 yX10_isCell yX10_isCell, Cond.code yX10_isCell cX10_isCell 3 (some .boolean), Cond.fieldLink RX10 7 "GasVoyagesModel" "wide" "I", Cond.fieldLink RX10 13 "GasVoyagesModel" "high" "I", Cond.methodLink RX10 179 yX10_planned, Cond.instanceMethod yX10_planned, Cond.selects RX10 yX10_planned yX10_planned, Cond.code yX10_planned cX10_planned 12 (some .int), Cond.fieldLink RX10 176 "GasVoyagesModel" "planMany" "I", Cond.fieldLink RX10 87 "GasVoyagesModel" "plan" "[I", Cond.methodLink RX10 172 yX10_flown, Cond.instanceMethod yX10_flown]
def wsX10_plan_r2 : List Cond := [Cond.selects RX10 yX10_flown yX10_flown, Cond.code yX10_flown cX10_flown 13 (some .int), Cond.fieldLink RX10 44 "GasVoyagesModel" "ft" "[I", Cond.fieldLink RX10 47 "GasVoyagesModel" "load" "[I", Cond.fieldLink RX10 132 "GasVoyagesModel" "nowLevel" "I", Cond.fieldLink RX10 16 "GasVoyagesModel" "kinds" "[I", Cond.fieldLink RX10 141 "GasVoyagesModel" "nowY" "I", Cond.fieldLink RX10 138 "GasVoyagesModel" "nowX" "I", Cond.methodLink RX10 156 yX10_begin, Cond.instanceMethod yX10_begin, Cond.selects RX10 yX10_begin yX10_begin, Cond.code yX10_begin cX10_begin 2 none, Cond.fieldLink RX10 35 "GasVoyagesModel" "fx" "[I", Cond.fieldLink RX10 38 "GasVoyagesModel" "fy" "[I", Cond.fieldLink RX10 41 "GasVoyagesModel" "fl" "[I", Cond.fieldLink RX10 50 "GasVoyagesModel" "gas" "[I", Cond.fieldLink RX10 129 "GasVoyagesModel" "nowGas" "I", Cond.fieldLink RX10 53 "GasVoyagesModel" "ballast" "[I", Cond.fieldLink RX10 126 "GasVoyagesModel" "nowBallast" "I", Cond.fieldLink RX10 56 "GasVoyagesModel" "gone" "[I", Cond.fieldLink RX10 135 "GasVoyagesModel" "nowGone" "I", Cond.methodLink RX10 159 yX10_tick, Cond.instanceMethod yX10_tick, Cond.selects RX10 yX10_tick yX10_tick]
def wsX10_plan_r3 : List Cond := [Cond.code yX10_tick cX10_tick 9 none, Cond.fieldLink RX10 20 "GasVoyagesModel" "density" "[I", Cond.fieldLink RX10 26 "GasVoyagesModel" "warmth" "[I", Cond.fieldLink RX10 23 "GasVoyagesModel" "fullness" "[I", Cond.methodLink RX10 144 yX10_led, Cond.instanceMethod yX10_led, Cond.selects RX10 yX10_led yX10_led, Cond.code yX10_led cX10_led 7 (some .int), Cond.fieldLink RX10 29 "GasVoyagesModel" "windX" "[I", Cond.fieldLink RX10 32 "GasVoyagesModel" "windY" "[I", Cond.methodLink RX10 122 yX10_windAt, Cond.static yX10_windAt, Cond.code yX10_windAt cX10_windAt 3 (some .int)]
def wsX10_plan : List Cond := .code yX10_plan cX10_plan 6 (some .int) :: ((wsX10_plan_r1 ++ (wsX10_plan_r2 ++ wsX10_plan_r3)) ++ wsX100)
def wsX10_away_r1 : List Cond := [Cond.fieldLink RX10 59 "GasVoyagesModel" "landed" "[Z", Cond.fieldLink RX10 69 "GasVoyagesModel" "logCell" "[I", Cond.methodLink RX10 152 yX10_isFlight, Cond.instanceMethod yX10_isFlight, Cond.selects RX10 yX10_isFlight yX10_isFlight, Cond.initialized RX10, Cond.code yX10_isFlight cX10_isFlight 2 (some .boolean), Cond.fieldLink RX10 112 "GasVoyagesModel" "flights" "I", Cond.methodLink RX10 108 yX10_in, Cond.static yX10_in, Cond.code yX10_in cX10_in 3 (some .boolean), Cond.methodLink RX10 179 yX10_planned, Cond.instanceMethod yX10_planned, Cond.selects RX10 yX10_planned yX10_planned, Cond.code yX10_planned cX10_planned 12 (some .int), Cond.fieldLink RX10 176 "GasVoyagesModel" "planMany" "I", Cond.fieldLink RX10 87 "GasVoyagesModel" "plan" "[I", Cond.methodLink RX10 172 yX10_flown, Cond.instanceMethod yX10_flown, Cond.selects RX10 yX10_flown yX10_flown, Cond.code yX10_flown cX10_flown 13 (some .int), Cond.fieldLink RX10 44 "GasVoyagesModel" "ft" "[I", Cond.fieldLink RX10 47 "GasVoyagesModel" "load" "[I", Cond.fieldLink RX10 132 "GasVoyagesModel" "nowLevel" "I"]
def wsX10_away_r2 : List Cond := [Cond.fieldLink RX10 16 "GasVoyagesModel" "kinds" "[I", Cond.fieldLink RX10 141 "GasVoyagesModel" "nowY" "I", Cond.fieldLink RX10 138 "GasVoyagesModel" "nowX" "I", Cond.methodLink RX10 156 yX10_begin, Cond.instanceMethod yX10_begin, Cond.selects RX10 yX10_begin yX10_begin, Cond.code yX10_begin cX10_begin 2 none, Cond.fieldLink RX10 35 "GasVoyagesModel" "fx" "[I", Cond.fieldLink RX10 38 "GasVoyagesModel" "fy" "[I", Cond.fieldLink RX10 41 "GasVoyagesModel" "fl" "[I", Cond.fieldLink RX10 50 "GasVoyagesModel" "gas" "[I", Cond.fieldLink RX10 129 "GasVoyagesModel" "nowGas" "I", Cond.fieldLink RX10 53 "GasVoyagesModel" "ballast" "[I", Cond.fieldLink RX10 126 "GasVoyagesModel" "nowBallast" "I", Cond.fieldLink RX10 56 "GasVoyagesModel" "gone" "[I", Cond.fieldLink RX10 135 "GasVoyagesModel" "nowGone" "I", Cond.methodLink RX10 159 yX10_tick, Cond.instanceMethod yX10_tick, Cond.selects RX10 yX10_tick yX10_tick, Cond.code yX10_tick cX10_tick 9 none, Cond.fieldLink RX10 20 "GasVoyagesModel" "density" "[I", Cond.fieldLink RX10 26 "GasVoyagesModel" "warmth" "[I", Cond.fieldLink RX10 23 "GasVoyagesModel" "fullness" "[I", Cond.methodLink RX10 144 yX10_led]
def wsX10_away_r3 : List Cond := [Cond.instanceMethod yX10_led, Cond.selects RX10 yX10_led yX10_led, Cond.code yX10_led cX10_led 7 (some .int), Cond.fieldLink RX10 29 "GasVoyagesModel" "windX" "[I", Cond.fieldLink RX10 32 "GasVoyagesModel" "windY" "[I", Cond.methodLink RX10 122 yX10_windAt, Cond.static yX10_windAt, Cond.code yX10_windAt cX10_windAt 3 (some .int), Cond.methodLink RX10 118 yX10_isCell, Cond.instanceMethod yX10_isCell, Cond.selects RX10 yX10_isCell yX10_isCell, Cond.code yX10_isCell cX10_isCell 3 (some .boolean), Cond.fieldLink RX10 7 "GasVoyagesModel" "wide" "I", Cond.fieldLink RX10 13 "GasVoyagesModel" "high" "I"]
def wsX10_away : List Cond := .code yX10_away cX10_away 4 (some .int) :: ((wsX10_away_r1 ++ (wsX10_away_r2 ++ wsX10_away_r3)) ++ wsX100)
def wsX10_order : List Cond := .code yX10_order cX10_order 2 (some .int) :: ([.fieldLink RX10 176 "GasVoyagesModel" "planMany" "I", .fieldLink RX10 87 "GasVoyagesModel" "plan" "[I", .methodLink RX10 108 yX10_in, .static yX10_in, .initialized RX10, .code yX10_in cX10_in 3 (some .boolean)] ++ wsX100)
def wsX10_entry : List Cond := .code yX10_entry cX10_entry 4 (some .int) :: ([.fieldLink RX10 66 "GasVoyagesModel" "entries" "[I", .fieldLink RX10 75 "GasVoyagesModel" "lost" "[Z", .fieldLink RX10 69 "GasVoyagesModel" "logCell" "[I", .fieldLink RX10 72 "GasVoyagesModel" "logLevel" "[I", .methodLink RX10 152 yX10_isFlight, .instanceMethod yX10_isFlight, .selects RX10 yX10_isFlight yX10_isFlight, .initialized RX10, .code yX10_isFlight cX10_isFlight 2 (some .boolean), .fieldLink RX10 112 "GasVoyagesModel" "flights" "I", .methodLink RX10 108 yX10_in, .static yX10_in, .code yX10_in cX10_in 3 (some .boolean)] ++ wsX100)
def wsX10_lose : List Cond := .code yX10_lose cX10_lose 6 (some .int) :: ([.fieldLink RX10 66 "GasVoyagesModel" "entries" "[I", .fieldLink RX10 75 "GasVoyagesModel" "lost" "[Z", .methodLink RX10 152 yX10_isFlight, .instanceMethod yX10_isFlight, .selects RX10 yX10_isFlight yX10_isFlight, .initialized RX10, .code yX10_isFlight cX10_isFlight 2 (some .boolean), .fieldLink RX10 112 "GasVoyagesModel" "flights" "I", .methodLink RX10 108 yX10_in, .static yX10_in, .code yX10_in cX10_in 3 (some .boolean)] ++ wsX100)
def wsX10_sum : List Cond := .code yX10_sum cX10_sum 2 (some .int) :: ([.constant RX10 183 (1000000)])
def wsX10_goOn_r1 : List Cond := [Cond.fieldLink RX10 96 "GasVoyagesModel" "nextWhole" "[I", Cond.fieldLink RX10 99 "GasVoyagesModel" "nextBroken" "[I", Cond.fieldLink RX10 90 "GasVoyagesModel" "whole" "[I", Cond.fieldLink RX10 93 "GasVoyagesModel" "broken" "[I", Cond.fieldLink RX10 75 "GasVoyagesModel" "lost" "[Z", Cond.fieldLink RX10 69 "GasVoyagesModel" "logCell" "[I", Cond.fieldLink RX10 72 "GasVoyagesModel" "logLevel" "[I", Cond.fieldLink RX10 16 "GasVoyagesModel" "kinds" "[I", Cond.methodLink RX10 144 yX10_led, Cond.instanceMethod yX10_led, Cond.selects RX10 yX10_led yX10_led, Cond.initialized RX10, Cond.code yX10_led cX10_led 7 (some .int), Cond.fieldLink RX10 29 "GasVoyagesModel" "windX" "[I", Cond.fieldLink RX10 32 "GasVoyagesModel" "windY" "[I", Cond.methodLink RX10 122 yX10_windAt, Cond.static yX10_windAt, Cond.code yX10_windAt cX10_windAt 3 (some .int), Cond.methodLink RX10 118 yX10_isCell, Cond.instanceMethod yX10_isCell, Cond.selects RX10 yX10_isCell yX10_isCell, Cond.code yX10_isCell cX10_isCell 3 (some .boolean), Cond.fieldLink RX10 7 "GasVoyagesModel" "wide" "I", Cond.fieldLink RX10 13 "GasVoyagesModel" "high" "I"]
def wsX10_goOn_r2 : List Cond := [Cond.methodLink RX10 108 yX10_in, Cond.static yX10_in, Cond.code yX10_in cX10_in 3 (some .boolean), Cond.methodLink RX10 194 yX10_sum, Cond.static yX10_sum, Cond.code yX10_sum cX10_sum 2 (some .int), Cond.constant RX10 183 (1000000)]
def wsX10_goOn : List Cond := .code yX10_goOn cX10_goOn 10 none :: ((wsX10_goOn_r1 ++ wsX10_goOn_r2) ++ wsX100)
def wsX10_findWays_r1 : List Cond := [Cond.fieldLink RX10 90 "GasVoyagesModel" "whole" "[I", Cond.fieldLink RX10 93 "GasVoyagesModel" "broken" "[I", Cond.fieldLink RX10 69 "GasVoyagesModel" "logCell" "[I", Cond.fieldLink RX10 72 "GasVoyagesModel" "logLevel" "[I", Cond.fieldLink RX10 16 "GasVoyagesModel" "kinds" "[I", Cond.fieldLink RX10 66 "GasVoyagesModel" "entries" "[I", Cond.fieldLink RX10 63 "GasVoyagesModel" "begun" "[I", Cond.fieldLink RX10 188 "GasVoyagesModel" "wholeMany" "I", Cond.fieldLink RX10 191 "GasVoyagesModel" "brokenMany" "I", Cond.methodLink RX10 184 yX10_goOn, Cond.instanceMethod yX10_goOn, Cond.selects RX10 yX10_goOn yX10_goOn, Cond.initialized RX10, Cond.code yX10_goOn cX10_goOn 10 none, Cond.fieldLink RX10 96 "GasVoyagesModel" "nextWhole" "[I", Cond.fieldLink RX10 99 "GasVoyagesModel" "nextBroken" "[I", Cond.fieldLink RX10 75 "GasVoyagesModel" "lost" "[Z", Cond.methodLink RX10 144 yX10_led, Cond.instanceMethod yX10_led, Cond.selects RX10 yX10_led yX10_led, Cond.code yX10_led cX10_led 7 (some .int), Cond.fieldLink RX10 29 "GasVoyagesModel" "windX" "[I", Cond.fieldLink RX10 32 "GasVoyagesModel" "windY" "[I", Cond.methodLink RX10 122 yX10_windAt]
def wsX10_findWays_r2 : List Cond := [Cond.static yX10_windAt, Cond.code yX10_windAt cX10_windAt 3 (some .int), Cond.methodLink RX10 118 yX10_isCell, Cond.instanceMethod yX10_isCell, Cond.selects RX10 yX10_isCell yX10_isCell, Cond.code yX10_isCell cX10_isCell 3 (some .boolean), Cond.fieldLink RX10 7 "GasVoyagesModel" "wide" "I", Cond.fieldLink RX10 13 "GasVoyagesModel" "high" "I", Cond.methodLink RX10 108 yX10_in, Cond.static yX10_in, Cond.code yX10_in cX10_in 3 (some .boolean), Cond.methodLink RX10 194 yX10_sum, Cond.static yX10_sum, Cond.code yX10_sum cX10_sum 2 (some .int), Cond.constant RX10 183 (1000000)]
def wsX10_findWays : List Cond := .code yX10_findWays cX10_findWays 4 none :: ((wsX10_findWays_r1 ++ wsX10_findWays_r2) ++ wsX100)
def wsX10_judged_r1 : List Cond := [Cond.fieldLink RX10 188 "GasVoyagesModel" "wholeMany" "I", Cond.fieldLink RX10 191 "GasVoyagesModel" "brokenMany" "I", Cond.methodLink RX10 197 yX10_findWays, Cond.instanceMethod yX10_findWays, Cond.selects RX10 yX10_findWays yX10_findWays, Cond.initialized RX10, Cond.code yX10_findWays cX10_findWays 4 none, Cond.fieldLink RX10 90 "GasVoyagesModel" "whole" "[I", Cond.fieldLink RX10 93 "GasVoyagesModel" "broken" "[I", Cond.fieldLink RX10 69 "GasVoyagesModel" "logCell" "[I", Cond.fieldLink RX10 72 "GasVoyagesModel" "logLevel" "[I", Cond.fieldLink RX10 16 "GasVoyagesModel" "kinds" "[I", Cond.fieldLink RX10 66 "GasVoyagesModel" "entries" "[I", Cond.fieldLink RX10 63 "GasVoyagesModel" "begun" "[I", Cond.methodLink RX10 184 yX10_goOn, Cond.instanceMethod yX10_goOn, Cond.selects RX10 yX10_goOn yX10_goOn, Cond.code yX10_goOn cX10_goOn 10 none, Cond.fieldLink RX10 96 "GasVoyagesModel" "nextWhole" "[I", Cond.fieldLink RX10 99 "GasVoyagesModel" "nextBroken" "[I", Cond.fieldLink RX10 75 "GasVoyagesModel" "lost" "[Z", Cond.methodLink RX10 144 yX10_led, Cond.instanceMethod yX10_led, Cond.selects RX10 yX10_led yX10_led]
def wsX10_judged_r2 : List Cond := [Cond.code yX10_led cX10_led 7 (some .int), Cond.fieldLink RX10 29 "GasVoyagesModel" "windX" "[I", Cond.fieldLink RX10 32 "GasVoyagesModel" "windY" "[I", Cond.methodLink RX10 122 yX10_windAt, Cond.static yX10_windAt, Cond.code yX10_windAt cX10_windAt 3 (some .int), Cond.methodLink RX10 118 yX10_isCell, Cond.instanceMethod yX10_isCell, Cond.selects RX10 yX10_isCell yX10_isCell, Cond.code yX10_isCell cX10_isCell 3 (some .boolean), Cond.fieldLink RX10 7 "GasVoyagesModel" "wide" "I", Cond.fieldLink RX10 13 "GasVoyagesModel" "high" "I", Cond.methodLink RX10 108 yX10_in, Cond.static yX10_in, Cond.code yX10_in cX10_in 3 (some .boolean), Cond.methodLink RX10 194 yX10_sum, Cond.static yX10_sum, Cond.code yX10_sum cX10_sum 2 (some .int), Cond.constant RX10 183 (1000000)]
def wsX10_judged : List Cond := .code yX10_judged cX10_judged 2 (some .int) :: ((wsX10_judged_r1 ++ wsX10_judged_r2) ++ wsX100)
def wsX10_judge_r1 : List Cond := [Cond.methodLink RX10 152 yX10_isFlight, Cond.instanceMethod yX10_isFlight, Cond.selects RX10 yX10_isFlight yX10_isFlight, Cond.initialized RX10, Cond.code yX10_isFlight cX10_isFlight 2 (some .boolean), Cond.fieldLink RX10 112 "GasVoyagesModel" "flights" "I", Cond.methodLink RX10 108 yX10_in, Cond.static yX10_in, Cond.code yX10_in cX10_in 3 (some .boolean), Cond.methodLink RX10 200 yX10_judged, Cond.instanceMethod yX10_judged, Cond.selects RX10 yX10_judged yX10_judged, Cond.code yX10_judged cX10_judged 2 (some .int), Cond.fieldLink RX10 188 "GasVoyagesModel" "wholeMany" "I", Cond.fieldLink RX10 191 "GasVoyagesModel" "brokenMany" "I", Cond.methodLink RX10 197 yX10_findWays, Cond.instanceMethod yX10_findWays, Cond.selects RX10 yX10_findWays yX10_findWays, Cond.code yX10_findWays cX10_findWays 4 none, Cond.fieldLink RX10 90 "GasVoyagesModel" "whole" "[I", Cond.fieldLink RX10 93 "GasVoyagesModel" "broken" "[I", Cond.fieldLink RX10 69 "GasVoyagesModel" "logCell" "[I", Cond.fieldLink RX10 72 "GasVoyagesModel" "logLevel" "[I", Cond.fieldLink RX10 16 "GasVoyagesModel" "kinds" "[I"]
def wsX10_judge_r2 : List Cond := [Cond.fieldLink RX10 66 "GasVoyagesModel" "entries" "[I", Cond.fieldLink RX10 63 "GasVoyagesModel" "begun" "[I", Cond.methodLink RX10 184 yX10_goOn, Cond.instanceMethod yX10_goOn, Cond.selects RX10 yX10_goOn yX10_goOn, Cond.code yX10_goOn cX10_goOn 10 none, Cond.fieldLink RX10 96 "GasVoyagesModel" "nextWhole" "[I", Cond.fieldLink RX10 99 "GasVoyagesModel" "nextBroken" "[I", Cond.fieldLink RX10 75 "GasVoyagesModel" "lost" "[Z", Cond.methodLink RX10 144 yX10_led, Cond.instanceMethod yX10_led, Cond.selects RX10 yX10_led yX10_led, Cond.code yX10_led cX10_led 7 (some .int), Cond.fieldLink RX10 29 "GasVoyagesModel" "windX" "[I", Cond.fieldLink RX10 32 "GasVoyagesModel" "windY" "[I", Cond.methodLink RX10 122 yX10_windAt, Cond.static yX10_windAt, Cond.code yX10_windAt cX10_windAt 3 (some .int), Cond.methodLink RX10 118 yX10_isCell, Cond.instanceMethod yX10_isCell, Cond.selects RX10 yX10_isCell yX10_isCell, Cond.code yX10_isCell cX10_isCell 3 (some .boolean), Cond.fieldLink RX10 7 "GasVoyagesModel" "wide" "I", Cond.fieldLink RX10 13 "GasVoyagesModel" "high" "I"]
def wsX10_judge_r3 : List Cond := [Cond.methodLink RX10 194 yX10_sum, Cond.static yX10_sum, Cond.code yX10_sum cX10_sum 2 (some .int), Cond.constant RX10 183 (1000000)]
def wsX10_judge : List Cond := .code yX10_judge cX10_judge 2 (some .int) :: ((wsX10_judge_r1 ++ (wsX10_judge_r2 ++ wsX10_judge_r3)) ++ wsX100)
def wsX10_ways_r1 : List Cond := [Cond.fieldLink RX10 191 "GasVoyagesModel" "brokenMany" "I", Cond.fieldLink RX10 188 "GasVoyagesModel" "wholeMany" "I", Cond.methodLink RX10 152 yX10_isFlight, Cond.instanceMethod yX10_isFlight, Cond.selects RX10 yX10_isFlight yX10_isFlight, Cond.initialized RX10, Cond.code yX10_isFlight cX10_isFlight 2 (some .boolean), Cond.fieldLink RX10 112 "GasVoyagesModel" "flights" "I", Cond.methodLink RX10 108 yX10_in, Cond.static yX10_in, Cond.code yX10_in cX10_in 3 (some .boolean), Cond.methodLink RX10 197 yX10_findWays, Cond.instanceMethod yX10_findWays, Cond.selects RX10 yX10_findWays yX10_findWays, Cond.code yX10_findWays cX10_findWays 4 none, Cond.fieldLink RX10 90 "GasVoyagesModel" "whole" "[I", Cond.fieldLink RX10 93 "GasVoyagesModel" "broken" "[I", Cond.fieldLink RX10 69 "GasVoyagesModel" "logCell" "[I", Cond.fieldLink RX10 72 "GasVoyagesModel" "logLevel" "[I", Cond.fieldLink RX10 16 "GasVoyagesModel" "kinds" "[I", Cond.fieldLink RX10 66 "GasVoyagesModel" "entries" "[I", Cond.fieldLink RX10 63 "GasVoyagesModel" "begun" "[I", Cond.methodLink RX10 184 yX10_goOn, Cond.instanceMethod yX10_goOn]
def wsX10_ways_r2 : List Cond := [Cond.selects RX10 yX10_goOn yX10_goOn, Cond.code yX10_goOn cX10_goOn 10 none, Cond.fieldLink RX10 96 "GasVoyagesModel" "nextWhole" "[I", Cond.fieldLink RX10 99 "GasVoyagesModel" "nextBroken" "[I", Cond.fieldLink RX10 75 "GasVoyagesModel" "lost" "[Z", Cond.methodLink RX10 144 yX10_led, Cond.instanceMethod yX10_led, Cond.selects RX10 yX10_led yX10_led, Cond.code yX10_led cX10_led 7 (some .int), Cond.fieldLink RX10 29 "GasVoyagesModel" "windX" "[I", Cond.fieldLink RX10 32 "GasVoyagesModel" "windY" "[I", Cond.methodLink RX10 122 yX10_windAt, Cond.static yX10_windAt, Cond.code yX10_windAt cX10_windAt 3 (some .int), Cond.methodLink RX10 118 yX10_isCell, Cond.instanceMethod yX10_isCell, Cond.selects RX10 yX10_isCell yX10_isCell, Cond.code yX10_isCell cX10_isCell 3 (some .boolean), Cond.fieldLink RX10 7 "GasVoyagesModel" "wide" "I", Cond.fieldLink RX10 13 "GasVoyagesModel" "high" "I", Cond.methodLink RX10 194 yX10_sum, Cond.static yX10_sum, Cond.code yX10_sum cX10_sum 2 (some .int), Cond.constant RX10 183 (1000000)]
def wsX10_ways : List Cond := .code yX10_ways cX10_ways 3 (some .int) :: ((wsX10_ways_r1 ++ wsX10_ways_r2) ++ wsX100)
def wsX10_chaser : List Cond := .code yX10_chaser cX10_chaser 4 (some .int) :: ([.fieldLink RX10 16 "GasVoyagesModel" "kinds" "[I", .fieldLink RX10 115 "GasVoyagesModel" "chasers" "I", .fieldLink RX10 78 "GasVoyagesModel" "cx" "[I", .fieldLink RX10 81 "GasVoyagesModel" "cy" "[I", .fieldLink RX10 84 "GasVoyagesModel" "pace" "[I", .methodLink RX10 118 yX10_isCell, .instanceMethod yX10_isCell, .selects RX10 yX10_isCell yX10_isCell, .initialized RX10, .code yX10_isCell cX10_isCell 3 (some .boolean), .fieldLink RX10 7 "GasVoyagesModel" "wide" "I", .fieldLink RX10 13 "GasVoyagesModel" "high" "I", .methodLink RX10 108 yX10_in, .static yX10_in, .code yX10_in cX10_in 3 (some .boolean)] ++ wsX100)
def wsX10_reaches : List Cond := .code yX10_reaches cX10_reaches 4 (some .boolean) :: ([.fieldLink RX10 16 "GasVoyagesModel" "kinds" "[I", .fieldLink RX10 102 "GasVoyagesModel" "far" "[I", .methodLink RX10 118 yX10_isCell, .instanceMethod yX10_isCell, .selects RX10 yX10_isCell yX10_isCell, .initialized RX10, .code yX10_isCell cX10_isCell 3 (some .boolean), .fieldLink RX10 7 "GasVoyagesModel" "wide" "I", .fieldLink RX10 13 "GasVoyagesModel" "high" "I", .methodLink RX10 108 yX10_in, .static yX10_in, .code yX10_in cX10_in 3 (some .boolean)] ++ wsX100)
def wsX10_chased : List Cond := .code yX10_chased cX10_chased 11 (some .int) :: ([.fieldLink RX10 102 "GasVoyagesModel" "far" "[I", .fieldLink RX10 81 "GasVoyagesModel" "cy" "[I", .fieldLink RX10 78 "GasVoyagesModel" "cx" "[I", .fieldLink RX10 84 "GasVoyagesModel" "pace" "[I", .methodLink RX10 203 yX10_reaches, .instanceMethod yX10_reaches, .selects RX10 yX10_reaches yX10_reaches, .initialized RX10, .code yX10_reaches cX10_reaches 4 (some .boolean), .fieldLink RX10 16 "GasVoyagesModel" "kinds" "[I", .methodLink RX10 118 yX10_isCell, .instanceMethod yX10_isCell, .selects RX10 yX10_isCell yX10_isCell, .code yX10_isCell cX10_isCell 3 (some .boolean), .fieldLink RX10 7 "GasVoyagesModel" "wide" "I", .fieldLink RX10 13 "GasVoyagesModel" "high" "I", .methodLink RX10 108 yX10_in, .static yX10_in, .code yX10_in cX10_in 3 (some .boolean)] ++ wsX100)
def wsX10_chase : List Cond := .code yX10_chase cX10_chase 4 (some .int) :: ([.fieldLink RX10 115 "GasVoyagesModel" "chasers" "I", .methodLink RX10 108 yX10_in, .static yX10_in, .initialized RX10, .code yX10_in cX10_in 3 (some .boolean), .methodLink RX10 118 yX10_isCell, .instanceMethod yX10_isCell, .selects RX10 yX10_isCell yX10_isCell, .code yX10_isCell cX10_isCell 3 (some .boolean), .fieldLink RX10 7 "GasVoyagesModel" "wide" "I", .fieldLink RX10 13 "GasVoyagesModel" "high" "I", .methodLink RX10 206 yX10_chased, .instanceMethod yX10_chased, .selects RX10 yX10_chased yX10_chased, .code yX10_chased cX10_chased 11 (some .int), .fieldLink RX10 102 "GasVoyagesModel" "far" "[I", .fieldLink RX10 81 "GasVoyagesModel" "cy" "[I", .fieldLink RX10 78 "GasVoyagesModel" "cx" "[I", .fieldLink RX10 84 "GasVoyagesModel" "pace" "[I", .methodLink RX10 203 yX10_reaches, .instanceMethod yX10_reaches, .selects RX10 yX10_reaches yX10_reaches, .code yX10_reaches cX10_reaches 4 (some .boolean), .fieldLink RX10 16 "GasVoyagesModel" "kinds" "[I"] ++ wsX100)
def wsX10_first_r1 : List Cond := [Cond.fieldLink RX10 115 "GasVoyagesModel" "chasers" "I", Cond.fieldLink RX10 35 "GasVoyagesModel" "fx" "[I", Cond.fieldLink RX10 38 "GasVoyagesModel" "fy" "[I", Cond.methodLink RX10 152 yX10_isFlight, Cond.instanceMethod yX10_isFlight, Cond.selects RX10 yX10_isFlight yX10_isFlight, Cond.initialized RX10, Cond.code yX10_isFlight cX10_isFlight 2 (some .boolean), Cond.fieldLink RX10 112 "GasVoyagesModel" "flights" "I", Cond.methodLink RX10 108 yX10_in, Cond.static yX10_in, Cond.code yX10_in cX10_in 3 (some .boolean), Cond.methodLink RX10 206 yX10_chased, Cond.instanceMethod yX10_chased, Cond.selects RX10 yX10_chased yX10_chased, Cond.code yX10_chased cX10_chased 11 (some .int), Cond.fieldLink RX10 102 "GasVoyagesModel" "far" "[I", Cond.fieldLink RX10 81 "GasVoyagesModel" "cy" "[I", Cond.fieldLink RX10 78 "GasVoyagesModel" "cx" "[I", Cond.fieldLink RX10 84 "GasVoyagesModel" "pace" "[I", Cond.methodLink RX10 203 yX10_reaches, Cond.instanceMethod yX10_reaches, Cond.selects RX10 yX10_reaches yX10_reaches, Cond.code yX10_reaches cX10_reaches 4 (some .boolean)]
def wsX10_first_r2 : List Cond := [Cond.fieldLink RX10 16 "GasVoyagesModel" "kinds" "[I", Cond.methodLink RX10 118 yX10_isCell, Cond.instanceMethod yX10_isCell, Cond.selects RX10 yX10_isCell yX10_isCell, Cond.code yX10_isCell cX10_isCell 3 (some .boolean), Cond.fieldLink RX10 7 "GasVoyagesModel" "wide" "I", Cond.fieldLink RX10 13 "GasVoyagesModel" "high" "I"]
def wsX10_first : List Cond := .code yX10_first cX10_first 6 (some .int) :: ((wsX10_first_r1 ++ wsX10_first_r2) ++ wsX100)
def wsX10_isAhead : List Cond := .code yX10_isAhead cX10_isAhead 5 (some .boolean) :: ([.fieldLink RX10 66 "GasVoyagesModel" "entries" "[I", .methodLink RX10 168 yX10_distanceFlown, .instanceMethod yX10_distanceFlown, .selects RX10 yX10_distanceFlown yX10_distanceFlown, .initialized RX10, .code yX10_distanceFlown cX10_distanceFlown 2 (some .int), .fieldLink RX10 35 "GasVoyagesModel" "fx" "[I", .fieldLink RX10 69 "GasVoyagesModel" "logCell" "[I", .fieldLink RX10 38 "GasVoyagesModel" "fy" "[I", .methodLink RX10 164 yX10_distanceOf, .static yX10_distanceOf, .code yX10_distanceOf cX10_distanceOf 4 (some .int)] ++ wsX100)
def wsX10_record_r1 : List Cond := [Cond.fieldLink RX10 112 "GasVoyagesModel" "flights" "I", Cond.fieldLink RX10 105 "GasVoyagesModel" "counts" "[Z", Cond.fieldLink RX10 59 "GasVoyagesModel" "landed" "[Z", Cond.methodLink RX10 200 yX10_judged, Cond.instanceMethod yX10_judged, Cond.selects RX10 yX10_judged yX10_judged, Cond.initialized RX10, Cond.code yX10_judged cX10_judged 2 (some .int), Cond.fieldLink RX10 188 "GasVoyagesModel" "wholeMany" "I", Cond.fieldLink RX10 191 "GasVoyagesModel" "brokenMany" "I", Cond.methodLink RX10 197 yX10_findWays, Cond.instanceMethod yX10_findWays, Cond.selects RX10 yX10_findWays yX10_findWays, Cond.code yX10_findWays cX10_findWays 4 none, Cond.fieldLink RX10 90 "GasVoyagesModel" "whole" "[I", Cond.fieldLink RX10 93 "GasVoyagesModel" "broken" "[I", Cond.fieldLink RX10 69 "GasVoyagesModel" "logCell" "[I", Cond.fieldLink RX10 72 "GasVoyagesModel" "logLevel" "[I", Cond.fieldLink RX10 16 "GasVoyagesModel" "kinds" "[I", Cond.fieldLink RX10 66 "GasVoyagesModel" "entries" "[I", Cond.fieldLink RX10 63 "GasVoyagesModel" "begun" "[I", Cond.methodLink RX10 184 yX10_goOn, Cond.instanceMethod yX10_goOn, Cond.selects RX10 yX10_goOn yX10_goOn]
def wsX10_record_r2 : List Cond := [Cond.code yX10_goOn cX10_goOn 10 none, Cond.fieldLink RX10 96 "GasVoyagesModel" "nextWhole" "[I", Cond.fieldLink RX10 99 "GasVoyagesModel" "nextBroken" "[I", Cond.fieldLink RX10 75 "GasVoyagesModel" "lost" "[Z", Cond.methodLink RX10 144 yX10_led, Cond.instanceMethod yX10_led, Cond.selects RX10 yX10_led yX10_led, Cond.code yX10_led cX10_led 7 (some .int), Cond.fieldLink RX10 29 "GasVoyagesModel" "windX" "[I", Cond.fieldLink RX10 32 "GasVoyagesModel" "windY" "[I", Cond.methodLink RX10 122 yX10_windAt, Cond.static yX10_windAt, Cond.code yX10_windAt cX10_windAt 3 (some .int), Cond.methodLink RX10 118 yX10_isCell, Cond.instanceMethod yX10_isCell, Cond.selects RX10 yX10_isCell yX10_isCell, Cond.code yX10_isCell cX10_isCell 3 (some .boolean), Cond.fieldLink RX10 7 "GasVoyagesModel" "wide" "I", Cond.fieldLink RX10 13 "GasVoyagesModel" "high" "I", Cond.methodLink RX10 108 yX10_in, Cond.static yX10_in, Cond.code yX10_in cX10_in 3 (some .boolean), Cond.methodLink RX10 194 yX10_sum, Cond.static yX10_sum]
def wsX10_record_r3 : List Cond := [Cond.code yX10_sum cX10_sum 2 (some .int), Cond.constant RX10 183 (1000000), Cond.methodLink RX10 209 yX10_isAhead, Cond.instanceMethod yX10_isAhead, Cond.selects RX10 yX10_isAhead yX10_isAhead, Cond.code yX10_isAhead cX10_isAhead 5 (some .boolean), Cond.methodLink RX10 168 yX10_distanceFlown, Cond.instanceMethod yX10_distanceFlown, Cond.selects RX10 yX10_distanceFlown yX10_distanceFlown, Cond.code yX10_distanceFlown cX10_distanceFlown 2 (some .int), Cond.fieldLink RX10 35 "GasVoyagesModel" "fx" "[I", Cond.fieldLink RX10 38 "GasVoyagesModel" "fy" "[I", Cond.methodLink RX10 164 yX10_distanceOf, Cond.static yX10_distanceOf, Cond.code yX10_distanceOf cX10_distanceOf 4 (some .int)]
def wsX10_record : List Cond := .code yX10_record cX10_record 5 (some .int) :: ((wsX10_record_r1 ++ (wsX10_record_r2 ++ wsX10_record_r3)) ++ wsX100)
def wsX10_count : List Cond := .code yX10_count cX10_count 5 (some .int) :: ([.fieldLink RX10 7 "GasVoyagesModel" "wide" "I", .fieldLink RX10 13 "GasVoyagesModel" "high" "I", .fieldLink RX10 112 "GasVoyagesModel" "flights" "I", .fieldLink RX10 59 "GasVoyagesModel" "landed" "[Z", .fieldLink RX10 115 "GasVoyagesModel" "chasers" "I", .fieldLink RX10 16 "GasVoyagesModel" "kinds" "[I", .fieldLink RX10 66 "GasVoyagesModel" "entries" "[I", .fieldLink RX10 75 "GasVoyagesModel" "lost" "[Z"] ++ wsX100)
def wsX10_digest_r1 : List Cond := [Cond.constantLong RX10 212 (163), Cond.constantLong RX10 214 (31), Cond.fieldLink RX10 112 "GasVoyagesModel" "flights" "I", Cond.fieldLink RX10 66 "GasVoyagesModel" "entries" "[I", Cond.fieldLink RX10 115 "GasVoyagesModel" "chasers" "I", Cond.fieldLink RX10 78 "GasVoyagesModel" "cx" "[I", Cond.fieldLink RX10 81 "GasVoyagesModel" "cy" "[I", Cond.methodLink RX10 216 yX10_count, Cond.instanceMethod yX10_count, Cond.selects RX10 yX10_count yX10_count, Cond.initialized RX10, Cond.code yX10_count cX10_count 5 (some .int), Cond.fieldLink RX10 7 "GasVoyagesModel" "wide" "I", Cond.fieldLink RX10 13 "GasVoyagesModel" "high" "I", Cond.fieldLink RX10 59 "GasVoyagesModel" "landed" "[Z", Cond.fieldLink RX10 16 "GasVoyagesModel" "kinds" "[I", Cond.fieldLink RX10 75 "GasVoyagesModel" "lost" "[Z", Cond.methodLink RX10 219 yX10_about, Cond.instanceMethod yX10_about, Cond.selects RX10 yX10_about yX10_about, Cond.code yX10_about cX10_about 3 (some .int), Cond.constant RX10 163 (-100000), Cond.fieldLink RX10 35 "GasVoyagesModel" "fx" "[I", Cond.fieldLink RX10 38 "GasVoyagesModel" "fy" "[I"]
def wsX10_digest_r2 : List Cond := [Cond.fieldLink RX10 41 "GasVoyagesModel" "fl" "[I", Cond.fieldLink RX10 50 "GasVoyagesModel" "gas" "[I", Cond.fieldLink RX10 53 "GasVoyagesModel" "ballast" "[I", Cond.fieldLink RX10 44 "GasVoyagesModel" "ft" "[I", Cond.fieldLink RX10 20 "GasVoyagesModel" "density" "[I", Cond.fieldLink RX10 26 "GasVoyagesModel" "warmth" "[I", Cond.fieldLink RX10 47 "GasVoyagesModel" "load" "[I", Cond.fieldLink RX10 56 "GasVoyagesModel" "gone" "[I", Cond.methodLink RX10 152 yX10_isFlight, Cond.instanceMethod yX10_isFlight, Cond.selects RX10 yX10_isFlight yX10_isFlight, Cond.code yX10_isFlight cX10_isFlight 2 (some .boolean), Cond.methodLink RX10 108 yX10_in, Cond.static yX10_in, Cond.code yX10_in cX10_in 3 (some .boolean), Cond.methodLink RX10 222 yX10_entry, Cond.instanceMethod yX10_entry, Cond.selects RX10 yX10_entry yX10_entry, Cond.code yX10_entry cX10_entry 4 (some .int), Cond.fieldLink RX10 69 "GasVoyagesModel" "logCell" "[I", Cond.fieldLink RX10 72 "GasVoyagesModel" "logLevel" "[I"]
def wsX10_digest : List Cond := .code yX10_digest cX10_digest 6 (some .long) :: ((wsX10_digest_r1 ++ wsX10_digest_r2) ++ wsX100)
def wsJ9_max_7cf53 : List Cond := .code yJ9_max_7cf53 cJ9_max_7cf53 2 (some .int) :: ([])
def wsJ9_min_7cf53 : List Cond := .code yJ9_min_7cf53 cJ9_min_7cf53 2 (some .int) :: ([])
abbrev vwCl : List vw_C := [(RX0, TX0, 5), (RX1, TX1, 8), (RX2, TX2, 6), (RX3, TX3, 7), (RX4, TX4, 4), (RX5, TX5, 3), (RX6, TX6, 11), (RX7, TX7, 6), (RX8, TX8, 2), (RX9, TX9, 8), (RX10, TX10, 43)]
end
section
set_option maxRecDepth 20000 in
theorem ggX0_init_X8_init : GoodIn wsX0_init wsX8_init := goodIn_r _ [14, 15, 2, 3, 4, 16, 17, 23, 24] (by decide +kernel) (by decide +kernel)
set_option maxRecDepth 20000 in
theorem gX0_init_X8_init_n23 : GoodIn wsX0_init (wsX8_init) := ggX0_init_X8_init
theorem dX0_init_0 : decode cX0_init 0 = .ok (.aload_n 0, 1) := by decide +kernel
theorem dX0_init_1 : decode cX0_init 1 = .ok (.invokespecial 3, 3) := by decide +kernel
theorem dX0_init_4 : decode cX0_init 4 = .ok (.aload_n 0, 1) := by decide +kernel
theorem dX0_init_5 : decode cX0_init 5 = .ok (.bipush 8, 2) := by decide +kernel
theorem dX0_init_7 : decode cX0_init 7 = .ok (.newarray .int, 2) := by decide +kernel
theorem dX0_init_9 : decode cX0_init 9 = .ok (.putfield 9, 3) := by decide +kernel
theorem dX0_init_12 : decode cX0_init 12 = .ok (.aload_n 0, 1) := by decide +kernel
theorem dX0_init_13 : decode cX0_init 13 = .ok (.bipush 8, 2) := by decide +kernel
theorem dX0_init_15 : decode cX0_init 15 = .ok (.newarray .int, 2) := by decide +kernel
theorem dX0_init_17 : decode cX0_init 17 = .ok (.putfield 15, 3) := by decide +kernel
theorem dX0_init_20 : decode cX0_init 20 = .ok (.aload_n 0, 1) := by decide +kernel
theorem dX0_init_21 : decode cX0_init 21 = .ok (.bipush 24, 2) := by decide +kernel
theorem dX0_init_23 : decode cX0_init 23 = .ok (.newarray .int, 2) := by decide +kernel
theorem dX0_init_25 : decode cX0_init 25 = .ok (.putfield 18, 3) := by decide +kernel
theorem dX0_init_28 : decode cX0_init 28 = .ok (.aload_n 0, 1) := by decide +kernel
theorem dX0_init_29 : decode cX0_init 29 = .ok (.new 21, 3) := by decide +kernel
theorem dX0_init_32 : decode cX0_init 32 = .ok (.dup, 1) := by decide +kernel
theorem dX0_init_33 : decode cX0_init 33 = .ok (.invokespecial 23, 3) := by decide +kernel
theorem dX0_init_36 : decode cX0_init 36 = .ok (.putfield 24, 3) := by decide +kernel
theorem dX0_init_39 : decode cX0_init 39 = .ok (.aload_n 0, 1) := by decide +kernel
theorem dX0_init_40 : decode cX0_init 40 = .ok (.new 21, 3) := by decide +kernel
theorem dX0_init_43 : decode cX0_init 43 = .ok (.dup, 1) := by decide +kernel
theorem dX0_init_44 : decode cX0_init 44 = .ok (.invokespecial 23, 3) := by decide +kernel
theorem dX0_init_47 : decode cX0_init 47 = .ok (.putfield 28, 3) := by decide +kernel
theorem dX0_init_50 : decode cX0_init 50 = .ok (.iconst 0, 1) := by decide +kernel
theorem dX0_init_51 : decode cX0_init 51 = .ok (.istore_n 1, 1) := by decide +kernel
theorem dX0_init_52 : decode cX0_init 52 = .ok (.iload_n 1, 1) := by decide +kernel
theorem dX0_init_53 : decode cX0_init 53 = .ok (.bipush 8, 2) := by decide +kernel
theorem dX0_init_55 : decode cX0_init 55 = .ok (.if_icmp .ge 28, 3) := by decide +kernel
theorem dX0_init_58 : decode cX0_init 58 = .ok (.aload_n 0, 1) := by decide +kernel
theorem dX0_init_59 : decode cX0_init 59 = .ok (.getfield 9, 3) := by decide +kernel
theorem dX0_init_62 : decode cX0_init 62 = .ok (.iload_n 1, 1) := by decide +kernel
theorem dX0_init_63 : decode cX0_init 63 = .ok (.bipush 14, 2) := by decide +kernel
theorem dX0_init_65 : decode cX0_init 65 = .ok (.iload_n 1, 1) := by decide +kernel
theorem dX0_init_66 : decode cX0_init 66 = .ok (.isub, 1) := by decide +kernel
theorem dX0_init_67 : decode cX0_init 67 = .ok (.iastore, 1) := by decide +kernel
theorem dX0_init_68 : decode cX0_init 68 = .ok (.aload_n 0, 1) := by decide +kernel
theorem dX0_init_69 : decode cX0_init 69 = .ok (.getfield 15, 3) := by decide +kernel
theorem dX0_init_72 : decode cX0_init 72 = .ok (.iload_n 1, 1) := by decide +kernel
theorem dX0_init_73 : decode cX0_init 73 = .ok (.sipush 500, 3) := by decide +kernel
theorem dX0_init_76 : decode cX0_init 76 = .ok (.iastore, 1) := by decide +kernel
theorem dX0_init_77 : decode cX0_init 77 = .ok (.iinc 1 1, 3) := by decide +kernel
theorem dX0_init_80 : decode cX0_init 80 = .ok (.goto (-28), 3) := by decide +kernel
theorem dX0_init_83 : decode cX0_init 83 = .ok (.return_, 1) := by decide +kernel
theorem dX1_init_0 : decode cX1_init 0 = .ok (.aload_n 0, 1) := by decide +kernel
theorem dX1_init_1 : decode cX1_init 1 = .ok (.invokespecial 3, 3) := by decide +kernel
theorem dX1_init_4 : decode cX1_init 4 = .ok (.return_, 1) := by decide +kernel
theorem dX1_copyOf_0 : decode cX1_copyOf 0 = .ok (.aload_n 0, 1) := by decide +kernel
theorem dX1_copyOf_1 : decode cX1_copyOf 1 = .ok (.aload_n 1, 1) := by decide +kernel
theorem dX1_copyOf_2 : decode cX1_copyOf 2 = .ok (.getfield 9, 3) := by decide +kernel
theorem dX1_copyOf_5 : decode cX1_copyOf 5 = .ok (.putfield 9, 3) := by decide +kernel
theorem dX1_copyOf_8 : decode cX1_copyOf 8 = .ok (.aload_n 0, 1) := by decide +kernel
theorem dX1_copyOf_9 : decode cX1_copyOf 9 = .ok (.aload_n 1, 1) := by decide +kernel
theorem dX1_copyOf_10 : decode cX1_copyOf 10 = .ok (.getfield 15, 3) := by decide +kernel
theorem dX1_copyOf_13 : decode cX1_copyOf 13 = .ok (.putfield 15, 3) := by decide +kernel
theorem dX1_copyOf_16 : decode cX1_copyOf 16 = .ok (.aload_n 0, 1) := by decide +kernel
theorem dX1_copyOf_17 : decode cX1_copyOf 17 = .ok (.aload_n 1, 1) := by decide +kernel
theorem dX1_copyOf_18 : decode cX1_copyOf 18 = .ok (.getfield 18, 3) := by decide +kernel
theorem dX1_copyOf_21 : decode cX1_copyOf 21 = .ok (.putfield 18, 3) := by decide +kernel
theorem dX1_copyOf_24 : decode cX1_copyOf 24 = .ok (.aload_n 0, 1) := by decide +kernel
theorem dX1_copyOf_25 : decode cX1_copyOf 25 = .ok (.aload_n 1, 1) := by decide +kernel
theorem dX1_copyOf_26 : decode cX1_copyOf 26 = .ok (.getfield 21, 3) := by decide +kernel
theorem dX1_copyOf_29 : decode cX1_copyOf 29 = .ok (.putfield 21, 3) := by decide +kernel
theorem dX1_copyOf_32 : decode cX1_copyOf 32 = .ok (.aload_n 0, 1) := by decide +kernel
theorem dX1_copyOf_33 : decode cX1_copyOf 33 = .ok (.aload_n 1, 1) := by decide +kernel
theorem dX1_copyOf_34 : decode cX1_copyOf 34 = .ok (.getfield 24, 3) := by decide +kernel
theorem dX1_copyOf_37 : decode cX1_copyOf 37 = .ok (.putfield 24, 3) := by decide +kernel
theorem dX1_copyOf_40 : decode cX1_copyOf 40 = .ok (.aload_n 0, 1) := by decide +kernel
theorem dX1_copyOf_41 : decode cX1_copyOf 41 = .ok (.aload_n 1, 1) := by decide +kernel
theorem dX1_copyOf_42 : decode cX1_copyOf 42 = .ok (.getfield 27, 3) := by decide +kernel
theorem dX1_copyOf_45 : decode cX1_copyOf 45 = .ok (.putfield 27, 3) := by decide +kernel
theorem dX1_copyOf_48 : decode cX1_copyOf 48 = .ok (.aload_n 0, 1) := by decide +kernel
theorem dX1_copyOf_49 : decode cX1_copyOf 49 = .ok (.aload_n 1, 1) := by decide +kernel
theorem dX1_copyOf_50 : decode cX1_copyOf 50 = .ok (.getfield 30, 3) := by decide +kernel
theorem dX1_copyOf_53 : decode cX1_copyOf 53 = .ok (.putfield 30, 3) := by decide +kernel
theorem dX1_copyOf_56 : decode cX1_copyOf 56 = .ok (.aload_n 0, 1) := by decide +kernel
theorem dX1_copyOf_57 : decode cX1_copyOf 57 = .ok (.aload_n 1, 1) := by decide +kernel
theorem dX1_copyOf_58 : decode cX1_copyOf 58 = .ok (.getfield 33, 3) := by decide +kernel
theorem dX1_copyOf_61 : decode cX1_copyOf 61 = .ok (.putfield 33, 3) := by decide +kernel
theorem dX1_copyOf_64 : decode cX1_copyOf 64 = .ok (.return_, 1) := by decide +kernel
theorem dX1_hour_0 : decode cX1_hour 0 = .ok (.aload_n 0, 1) := by decide +kernel
theorem dX1_hour_1 : decode cX1_hour 1 = .ok (.getfield 18, 3) := by decide +kernel
theorem dX1_hour_4 : decode cX1_hour 4 = .ok (.bipush 24, 2) := by decide +kernel
theorem dX1_hour_6 : decode cX1_hour 6 = .ok (.irem, 1) := by decide +kernel
theorem dX1_hour_7 : decode cX1_hour 7 = .ok (.ireturn, 1) := by decide +kernel
set_option maxRecDepth 20000 in
theorem ggX1_liftLessWeight_X1_hour : GoodIn wsX1_liftLessWeight wsX1_hour := goodIn_r _ [11, 12, 13, 14, 15, 16, 17, 18, 19, 20] (by decide +kernel) (by decide +kernel)
set_option maxRecDepth 20000 in
theorem gX1_liftLessWeight_X1_hour : GoodIn wsX1_liftLessWeight (wsV RX1 46 RX1 yX1_hour wsX1_hour) := goodIn_app (goodIn_of _ (by decide +kernel)) ggX1_liftLessWeight_X1_hour
theorem dX1_liftLessWeight_0 : decode cX1_liftLessWeight 0 = .ok (.aload_n 0, 1) := by decide +kernel
theorem dX1_liftLessWeight_1 : decode cX1_liftLessWeight 1 = .ok (.getfield 24, 3) := by decide +kernel
theorem dX1_liftLessWeight_4 : decode cX1_liftLessWeight 4 = .ok (.aload_n 1, 1) := by decide +kernel
theorem dX1_liftLessWeight_5 : decode cX1_liftLessWeight 5 = .ok (.getfield 37, 3) := by decide +kernel
theorem dX1_liftLessWeight_8 : decode cX1_liftLessWeight 8 = .ok (.aload_n 0, 1) := by decide +kernel
theorem dX1_liftLessWeight_9 : decode cX1_liftLessWeight 9 = .ok (.getfield 15, 3) := by decide +kernel
theorem dX1_liftLessWeight_12 : decode cX1_liftLessWeight 12 = .ok (.iaload, 1) := by decide +kernel
theorem dX1_liftLessWeight_13 : decode cX1_liftLessWeight 13 = .ok (.aload_n 1, 1) := by decide +kernel
theorem dX1_liftLessWeight_14 : decode cX1_liftLessWeight 14 = .ok (.getfield 43, 3) := by decide +kernel
theorem dX1_liftLessWeight_17 : decode cX1_liftLessWeight 17 = .ok (.aload_n 0, 1) := by decide +kernel
theorem dX1_liftLessWeight_18 : decode cX1_liftLessWeight 18 = .ok (.invokevirtual 46, 3) := by decide +kernel
theorem dX1_liftLessWeight_21 : decode cX1_liftLessWeight 21 = .ok (.iaload, 1) := by decide +kernel
theorem dX1_liftLessWeight_22 : decode cX1_liftLessWeight 22 = .ok (.iadd, 1) := by decide +kernel
theorem dX1_liftLessWeight_23 : decode cX1_liftLessWeight 23 = .ok (.imul, 1) := by decide +kernel
theorem dX1_liftLessWeight_24 : decode cX1_liftLessWeight 24 = .ok (.bipush 10, 2) := by decide +kernel
theorem dX1_liftLessWeight_26 : decode cX1_liftLessWeight 26 = .ok (.aload_n 0, 1) := by decide +kernel
theorem dX1_liftLessWeight_27 : decode cX1_liftLessWeight 27 = .ok (.getfield 21, 3) := by decide +kernel
theorem dX1_liftLessWeight_30 : decode cX1_liftLessWeight 30 = .ok (.aload_n 0, 1) := by decide +kernel
theorem dX1_liftLessWeight_31 : decode cX1_liftLessWeight 31 = .ok (.getfield 27, 3) := by decide +kernel
theorem dX1_liftLessWeight_34 : decode cX1_liftLessWeight 34 = .ok (.iadd, 1) := by decide +kernel
theorem dX1_liftLessWeight_35 : decode cX1_liftLessWeight 35 = .ok (.imul, 1) := by decide +kernel
theorem dX1_liftLessWeight_36 : decode cX1_liftLessWeight 36 = .ok (.isub, 1) := by decide +kernel
theorem dX1_liftLessWeight_37 : decode cX1_liftLessWeight 37 = .ok (.ireturn, 1) := by decide +kernel
set_option maxRecDepth 20000 in
theorem ggX1_pass_X1_spend : GoodIn wsX1_pass wsX1_spend := goodIn_r _ [10, 11, 12, 13, 14, 15, 16, 72, 73, 74, 75, 76, 77, 78, 79] (by decide +kernel) (by decide +kernel)
set_option maxRecDepth 20000 in
theorem gX1_pass_X1_spend : GoodIn wsX1_pass (wsV RX1 50 RX1 yX1_spend wsX1_spend) := goodIn_app (goodIn_of _ (by decide +kernel)) ggX1_pass_X1_spend
set_option maxRecDepth 20000 in
theorem ggX1_pass_X1_liftLessWeight : GoodIn wsX1_pass wsX1_liftLessWeight := goodIn_r _ [20, 16, 21, 2, 22, 23, 11, 24, 25, 26, 9, 27, 5, 72, 73, 74, 75, 76, 77, 78, 79, 67, 68, 69, 70, 71] (by decide +kernel) (by decide +kernel)
set_option maxRecDepth 20000 in
theorem gX1_pass_X1_liftLessWeight : GoodIn wsX1_pass (wsV RX1 54 RX1 yX1_liftLessWeight wsX1_liftLessWeight) := goodIn_app (goodIn_of _ (by decide +kernel)) ggX1_pass_X1_liftLessWeight
set_option maxRecDepth 20000 in
theorem ggX1_pass_X1_climb : GoodIn wsX1_pass wsX1_climb := goodIn_r _ [31, 2, 12, 13, 14, 15, 32, 33, 34, 72, 73, 74, 75, 76, 77, 78, 79] (by decide +kernel) (by decide +kernel)
set_option maxRecDepth 20000 in
theorem gX1_pass_X1_climb : GoodIn wsX1_pass (wsV RX1 58 RX1 yX1_climb wsX1_climb) := goodIn_app (goodIn_of _ (by decide +kernel)) ggX1_pass_X1_climb
set_option maxRecDepth 20000 in
theorem ggX1_pass_X1_ventAbove : GoodIn wsX1_pass wsX1_ventAbove := goodIn_r _ [38, 16, 39, 72, 73, 74, 75, 76, 77, 78, 79] (by decide +kernel) (by decide +kernel)
set_option maxRecDepth 20000 in
theorem gX1_pass_X1_ventAbove : GoodIn wsX1_pass (wsV RX1 65 RX1 yX1_ventAbove wsX1_ventAbove) := goodIn_app (goodIn_of _ (by decide +kernel)) ggX1_pass_X1_ventAbove
set_option maxRecDepth 20000 in
theorem ggX1_pass_X1_hour : GoodIn wsX1_pass wsX1_hour := goodIn_r _ [27, 5, 72, 73, 74, 75, 76, 77, 78, 79] (by decide +kernel) (by decide +kernel)
set_option maxRecDepth 20000 in
theorem gX1_pass_X1_hour : GoodIn wsX1_pass (wsV RX1 46 RX1 yX1_hour wsX1_hour) := goodIn_app (goodIn_of _ (by decide +kernel)) ggX1_pass_X1_hour
set_option maxRecDepth 20000 in
theorem ggX1_pass_X8_leadFrom : GoodIn wsX1_pass wsX8_leadFrom := goodIn_r _ [44, 45, 46, 47, 48, 49, 50, 51, 52, 53, 54, 55, 56, 57, 58, 59, 60, 61, 62, 63, 64, 65, 66, 80, 81, 82, 83, 84] (by decide +kernel) (by decide +kernel)
set_option maxRecDepth 20000 in
theorem gX1_pass_X8_leadFrom : GoodIn wsX1_pass (wsV RX1 68 RX8 yX8_leadFrom wsX8_leadFrom) := goodIn_app (goodIn_of _ (by decide +kernel)) ggX1_pass_X8_leadFrom
theorem dX1_pass_0 : decode cX1_pass 0 = .ok (.aload_n 0, 1) := by decide +kernel
theorem dX1_pass_1 : decode cX1_pass 1 = .ok (.iload_n 1, 1) := by decide +kernel
theorem dX1_pass_2 : decode cX1_pass 2 = .ok (.iload_n 2, 1) := by decide +kernel
theorem dX1_pass_3 : decode cX1_pass 3 = .ok (.invokevirtual 50, 3) := by decide +kernel
theorem dX1_pass_6 : decode cX1_pass 6 = .ok (.aload_n 0, 1) := by decide +kernel
theorem dX1_pass_7 : decode cX1_pass 7 = .ok (.aload_n 0, 1) := by decide +kernel
theorem dX1_pass_8 : decode cX1_pass 8 = .ok (.aload_n 3, 1) := by decide +kernel
theorem dX1_pass_9 : decode cX1_pass 9 = .ok (.invokevirtual 54, 3) := by decide +kernel
theorem dX1_pass_12 : decode cX1_pass 12 = .ok (.invokevirtual 58, 3) := by decide +kernel
theorem dX1_pass_15 : decode cX1_pass 15 = .ok (.aload_n 0, 1) := by decide +kernel
theorem dX1_pass_16 : decode cX1_pass 16 = .ok (.aload_n 3, 1) := by decide +kernel
theorem dX1_pass_17 : decode cX1_pass 17 = .ok (.getfield 62, 3) := by decide +kernel
theorem dX1_pass_20 : decode cX1_pass 20 = .ok (.aload_n 0, 1) := by decide +kernel
theorem dX1_pass_21 : decode cX1_pass 21 = .ok (.getfield 15, 3) := by decide +kernel
theorem dX1_pass_24 : decode cX1_pass 24 = .ok (.iaload, 1) := by decide +kernel
theorem dX1_pass_25 : decode cX1_pass 25 = .ok (.invokevirtual 65, 3) := by decide +kernel
theorem dX1_pass_28 : decode cX1_pass 28 = .ok (.aload_n 0, 1) := by decide +kernel
theorem dX1_pass_29 : decode cX1_pass 29 = .ok (.getfield 15, 3) := by decide +kernel
theorem dX1_pass_32 : decode cX1_pass 32 = .ok (.ifCond .ne 11, 3) := by decide +kernel
theorem dX1_pass_35 : decode cX1_pass 35 = .ok (.aload_n 0, 1) := by decide +kernel
theorem dX1_pass_36 : decode cX1_pass 36 = .ok (.iconst 1, 1) := by decide +kernel
theorem dX1_pass_37 : decode cX1_pass 37 = .ok (.putfield 33, 3) := by decide +kernel
theorem dX1_pass_40 : decode cX1_pass 40 = .ok (.goto 26, 3) := by decide +kernel
theorem dX1_pass_43 : decode cX1_pass 43 = .ok (.aload_n 0, 1) := by decide +kernel
theorem dX1_pass_44 : decode cX1_pass 44 = .ok (.aload 4, 2) := by decide +kernel
theorem dX1_pass_46 : decode cX1_pass 46 = .ok (.aload_n 0, 1) := by decide +kernel
theorem dX1_pass_47 : decode cX1_pass 47 = .ok (.getfield 9, 3) := by decide +kernel
theorem dX1_pass_50 : decode cX1_pass 50 = .ok (.aload_n 0, 1) := by decide +kernel
theorem dX1_pass_51 : decode cX1_pass 51 = .ok (.getfield 15, 3) := by decide +kernel
theorem dX1_pass_54 : decode cX1_pass 54 = .ok (.aload_n 0, 1) := by decide +kernel
theorem dX1_pass_55 : decode cX1_pass 55 = .ok (.invokevirtual 46, 3) := by decide +kernel
theorem dX1_pass_58 : decode cX1_pass 58 = .ok (.aload 5, 2) := by decide +kernel
theorem dX1_pass_60 : decode cX1_pass 60 = .ok (.invokevirtual 68, 3) := by decide +kernel
theorem dX1_pass_63 : decode cX1_pass 63 = .ok (.putfield 9, 3) := by decide +kernel
theorem dX1_pass_66 : decode cX1_pass 66 = .ok (.aload_n 0, 1) := by decide +kernel
theorem dX1_pass_67 : decode cX1_pass 67 = .ok (.dup, 1) := by decide +kernel
theorem dX1_pass_68 : decode cX1_pass 68 = .ok (.getfield 18, 3) := by decide +kernel
theorem dX1_pass_71 : decode cX1_pass 71 = .ok (.iconst 1, 1) := by decide +kernel
theorem dX1_pass_72 : decode cX1_pass 72 = .ok (.iadd, 1) := by decide +kernel
theorem dX1_pass_73 : decode cX1_pass 73 = .ok (.putfield 18, 3) := by decide +kernel
theorem dX1_pass_76 : decode cX1_pass 76 = .ok (.return_, 1) := by decide +kernel
theorem dX1_spend_0 : decode cX1_spend 0 = .ok (.iload_n 1, 1) := by decide +kernel
theorem dX1_spend_1 : decode cX1_spend 1 = .ok (.iconst 1, 1) := by decide +kernel
theorem dX1_spend_2 : decode cX1_spend 2 = .ok (.if_icmp .ne 23, 3) := by decide +kernel
theorem dX1_spend_5 : decode cX1_spend 5 = .ok (.aload_n 0, 1) := by decide +kernel
theorem dX1_spend_6 : decode cX1_spend 6 = .ok (.dup, 1) := by decide +kernel
theorem dX1_spend_7 : decode cX1_spend 7 = .ok (.getfield 27, 3) := by decide +kernel
theorem dX1_spend_10 : decode cX1_spend 10 = .ok (.iload_n 2, 1) := by decide +kernel
theorem dX1_spend_11 : decode cX1_spend 11 = .ok (.aload_n 0, 1) := by decide +kernel
theorem dX1_spend_12 : decode cX1_spend 12 = .ok (.getfield 27, 3) := by decide +kernel
theorem dX1_spend_15 : decode cX1_spend 15 = .ok (.invokestatic 74, 3) := by decide +kernel
theorem dX1_spend_18 : decode cX1_spend 18 = .ok (.isub, 1) := by decide +kernel
theorem dX1_spend_19 : decode cX1_spend 19 = .ok (.putfield 27, 3) := by decide +kernel
theorem dX1_spend_22 : decode cX1_spend 22 = .ok (.goto 25, 3) := by decide +kernel
theorem dX1_spend_25 : decode cX1_spend 25 = .ok (.iload_n 1, 1) := by decide +kernel
theorem dX1_spend_26 : decode cX1_spend 26 = .ok (.iconst 2, 1) := by decide +kernel
theorem dX1_spend_27 : decode cX1_spend 27 = .ok (.if_icmp .ne 20, 3) := by decide +kernel
theorem dX1_spend_30 : decode cX1_spend 30 = .ok (.aload_n 0, 1) := by decide +kernel
theorem dX1_spend_31 : decode cX1_spend 31 = .ok (.dup, 1) := by decide +kernel
theorem dX1_spend_32 : decode cX1_spend 32 = .ok (.getfield 24, 3) := by decide +kernel
theorem dX1_spend_35 : decode cX1_spend 35 = .ok (.iload_n 2, 1) := by decide +kernel
theorem dX1_spend_36 : decode cX1_spend 36 = .ok (.aload_n 0, 1) := by decide +kernel
theorem dX1_spend_37 : decode cX1_spend 37 = .ok (.getfield 24, 3) := by decide +kernel
theorem dX1_spend_40 : decode cX1_spend 40 = .ok (.invokestatic 74, 3) := by decide +kernel
theorem dX1_spend_43 : decode cX1_spend 43 = .ok (.isub, 1) := by decide +kernel
theorem dX1_spend_44 : decode cX1_spend 44 = .ok (.putfield 24, 3) := by decide +kernel
theorem dX1_spend_47 : decode cX1_spend 47 = .ok (.return_, 1) := by decide +kernel
theorem dX1_climb_0 : decode cX1_climb 0 = .ok (.iload_n 1, 1) := by decide +kernel
theorem dX1_climb_1 : decode cX1_climb 1 = .ok (.ifCond .le 21, 3) := by decide +kernel
theorem dX1_climb_4 : decode cX1_climb 4 = .ok (.aload_n 0, 1) := by decide +kernel
theorem dX1_climb_5 : decode cX1_climb 5 = .ok (.aload_n 0, 1) := by decide +kernel
theorem dX1_climb_6 : decode cX1_climb 6 = .ok (.getfield 15, 3) := by decide +kernel
theorem dX1_climb_9 : decode cX1_climb 9 = .ok (.iconst 1, 1) := by decide +kernel
theorem dX1_climb_10 : decode cX1_climb 10 = .ok (.iadd, 1) := by decide +kernel
theorem dX1_climb_11 : decode cX1_climb 11 = .ok (.bipush 7, 2) := by decide +kernel
theorem dX1_climb_13 : decode cX1_climb 13 = .ok (.invokestatic 74, 3) := by decide +kernel
theorem dX1_climb_16 : decode cX1_climb 16 = .ok (.putfield 15, 3) := by decide +kernel
theorem dX1_climb_19 : decode cX1_climb 19 = .ok (.goto 21, 3) := by decide +kernel
theorem dX1_climb_22 : decode cX1_climb 22 = .ok (.iload_n 1, 1) := by decide +kernel
theorem dX1_climb_23 : decode cX1_climb 23 = .ok (.ifCond .ge 17, 3) := by decide +kernel
theorem dX1_climb_26 : decode cX1_climb 26 = .ok (.aload_n 0, 1) := by decide +kernel
theorem dX1_climb_27 : decode cX1_climb 27 = .ok (.aload_n 0, 1) := by decide +kernel
theorem dX1_climb_28 : decode cX1_climb 28 = .ok (.getfield 15, 3) := by decide +kernel
theorem dX1_climb_31 : decode cX1_climb 31 = .ok (.iconst 1, 1) := by decide +kernel
theorem dX1_climb_32 : decode cX1_climb 32 = .ok (.isub, 1) := by decide +kernel
theorem dX1_climb_33 : decode cX1_climb 33 = .ok (.iconst 0, 1) := by decide +kernel
theorem dX1_climb_34 : decode cX1_climb 34 = .ok (.invokestatic 80, 3) := by decide +kernel
theorem dX1_climb_37 : decode cX1_climb 37 = .ok (.putfield 15, 3) := by decide +kernel
theorem dX1_climb_40 : decode cX1_climb 40 = .ok (.return_, 1) := by decide +kernel
theorem dX1_ventAbove_0 : decode cX1_ventAbove 0 = .ok (.aload_n 0, 1) := by decide +kernel
theorem dX1_ventAbove_1 : decode cX1_ventAbove 1 = .ok (.getfield 24, 3) := by decide +kernel
theorem dX1_ventAbove_4 : decode cX1_ventAbove 4 = .ok (.iload_n 1, 1) := by decide +kernel
theorem dX1_ventAbove_5 : decode cX1_ventAbove 5 = .ok (.if_icmp .le 23, 3) := by decide +kernel
theorem dX1_ventAbove_8 : decode cX1_ventAbove 8 = .ok (.aload_n 0, 1) := by decide +kernel
theorem dX1_ventAbove_9 : decode cX1_ventAbove 9 = .ok (.dup, 1) := by decide +kernel
theorem dX1_ventAbove_10 : decode cX1_ventAbove 10 = .ok (.getfield 30, 3) := by decide +kernel
theorem dX1_ventAbove_13 : decode cX1_ventAbove 13 = .ok (.aload_n 0, 1) := by decide +kernel
theorem dX1_ventAbove_14 : decode cX1_ventAbove 14 = .ok (.getfield 24, 3) := by decide +kernel
theorem dX1_ventAbove_17 : decode cX1_ventAbove 17 = .ok (.iload_n 1, 1) := by decide +kernel
theorem dX1_ventAbove_18 : decode cX1_ventAbove 18 = .ok (.isub, 1) := by decide +kernel
theorem dX1_ventAbove_19 : decode cX1_ventAbove 19 = .ok (.iadd, 1) := by decide +kernel
theorem dX1_ventAbove_20 : decode cX1_ventAbove 20 = .ok (.putfield 30, 3) := by decide +kernel
theorem dX1_ventAbove_23 : decode cX1_ventAbove 23 = .ok (.aload_n 0, 1) := by decide +kernel
theorem dX1_ventAbove_24 : decode cX1_ventAbove 24 = .ok (.iload_n 1, 1) := by decide +kernel
theorem dX1_ventAbove_25 : decode cX1_ventAbove 25 = .ok (.putfield 24, 3) := by decide +kernel
theorem dX1_ventAbove_28 : decode cX1_ventAbove 28 = .ok (.return_, 1) := by decide +kernel
theorem dX2_init_0 : decode cX2_init 0 = .ok (.aload_n 0, 1) := by decide +kernel
theorem dX2_init_1 : decode cX2_init 1 = .ok (.invokespecial 3, 3) := by decide +kernel
theorem dX2_init_4 : decode cX2_init 4 = .ok (.aload_n 0, 1) := by decide +kernel
theorem dX2_init_5 : decode cX2_init 5 = .ok (.iconst 4, 1) := by decide +kernel
theorem dX2_init_6 : decode cX2_init 6 = .ok (.newarray .int, 2) := by decide +kernel
theorem dX2_init_8 : decode cX2_init 8 = .ok (.putfield 9, 3) := by decide +kernel
theorem dX2_init_11 : decode cX2_init 11 = .ok (.aload_n 0, 1) := by decide +kernel
theorem dX2_init_12 : decode cX2_init 12 = .ok (.iconst 4, 1) := by decide +kernel
theorem dX2_init_13 : decode cX2_init 13 = .ok (.newarray .int, 2) := by decide +kernel
theorem dX2_init_15 : decode cX2_init 15 = .ok (.putfield 15, 3) := by decide +kernel
theorem dX2_init_18 : decode cX2_init 18 = .ok (.aload_n 0, 1) := by decide +kernel
theorem dX2_init_19 : decode cX2_init 19 = .ok (.iconst 0, 1) := by decide +kernel
theorem dX2_init_20 : decode cX2_init 20 = .ok (.putfield 18, 3) := by decide +kernel
theorem dX2_init_23 : decode cX2_init 23 = .ok (.aload_n 0, 1) := by decide +kernel
theorem dX2_init_24 : decode cX2_init 24 = .ok (.sipush 576, 3) := by decide +kernel
theorem dX2_init_27 : decode cX2_init 27 = .ok (.newarray .int, 2) := by decide +kernel
theorem dX2_init_29 : decode cX2_init 29 = .ok (.putfield 22, 3) := by decide +kernel
theorem dX2_init_32 : decode cX2_init 32 = .ok (.aload_n 0, 1) := by decide +kernel
theorem dX2_init_33 : decode cX2_init 33 = .ok (.sipush 576, 3) := by decide +kernel
theorem dX2_init_36 : decode cX2_init 36 = .ok (.newarray .int, 2) := by decide +kernel
theorem dX2_init_38 : decode cX2_init 38 = .ok (.putfield 25, 3) := by decide +kernel
theorem dX2_init_41 : decode cX2_init 41 = .ok (.aload_n 0, 1) := by decide +kernel
theorem dX2_init_42 : decode cX2_init 42 = .ok (.aload_n 1, 1) := by decide +kernel
theorem dX2_init_43 : decode cX2_init 43 = .ok (.putfield 28, 3) := by decide +kernel
theorem dX2_init_46 : decode cX2_init 46 = .ok (.return_, 1) := by decide +kernel
theorem dX2_add_0 : decode cX2_add 0 = .ok (.aload_n 0, 1) := by decide +kernel
theorem dX2_add_1 : decode cX2_add 1 = .ok (.getfield 18, 3) := by decide +kernel
theorem dX2_add_4 : decode cX2_add 4 = .ok (.iconst 4, 1) := by decide +kernel
theorem dX2_add_5 : decode cX2_add 5 = .ok (.if_icmp .ge 33, 3) := by decide +kernel
theorem dX2_add_8 : decode cX2_add 8 = .ok (.aload_n 0, 1) := by decide +kernel
theorem dX2_add_9 : decode cX2_add 9 = .ok (.getfield 9, 3) := by decide +kernel
theorem dX2_add_12 : decode cX2_add 12 = .ok (.aload_n 0, 1) := by decide +kernel
theorem dX2_add_13 : decode cX2_add 13 = .ok (.getfield 18, 3) := by decide +kernel
theorem dX2_add_16 : decode cX2_add 16 = .ok (.iload_n 1, 1) := by decide +kernel
theorem dX2_add_17 : decode cX2_add 17 = .ok (.iastore, 1) := by decide +kernel
theorem dX2_add_18 : decode cX2_add 18 = .ok (.aload_n 0, 1) := by decide +kernel
theorem dX2_add_19 : decode cX2_add 19 = .ok (.getfield 15, 3) := by decide +kernel
theorem dX2_add_22 : decode cX2_add 22 = .ok (.aload_n 0, 1) := by decide +kernel
theorem dX2_add_23 : decode cX2_add 23 = .ok (.getfield 18, 3) := by decide +kernel
theorem dX2_add_26 : decode cX2_add 26 = .ok (.iload_n 2, 1) := by decide +kernel
theorem dX2_add_27 : decode cX2_add 27 = .ok (.iastore, 1) := by decide +kernel
theorem dX2_add_28 : decode cX2_add 28 = .ok (.aload_n 0, 1) := by decide +kernel
theorem dX2_add_29 : decode cX2_add 29 = .ok (.dup, 1) := by decide +kernel
theorem dX2_add_30 : decode cX2_add 30 = .ok (.getfield 18, 3) := by decide +kernel
theorem dX2_add_33 : decode cX2_add 33 = .ok (.iconst 1, 1) := by decide +kernel
theorem dX2_add_34 : decode cX2_add 34 = .ok (.iadd, 1) := by decide +kernel
theorem dX2_add_35 : decode cX2_add 35 = .ok (.putfield 18, 3) := by decide +kernel
theorem dX2_add_38 : decode cX2_add 38 = .ok (.return_, 1) := by decide +kernel
theorem dX2_standOn_0 : decode cX2_standOn 0 = .ok (.iconst 0, 1) := by decide +kernel
theorem dX2_standOn_1 : decode cX2_standOn 1 = .ok (.istore_n 2, 1) := by decide +kernel
theorem dX2_standOn_2 : decode cX2_standOn 2 = .ok (.iload_n 2, 1) := by decide +kernel
theorem dX2_standOn_3 : decode cX2_standOn 3 = .ok (.aload_n 0, 1) := by decide +kernel
theorem dX2_standOn_4 : decode cX2_standOn 4 = .ok (.getfield 18, 3) := by decide +kernel
theorem dX2_standOn_7 : decode cX2_standOn 7 = .ok (.if_icmp .ge 21, 3) := by decide +kernel
theorem dX2_standOn_10 : decode cX2_standOn 10 = .ok (.aload_n 0, 1) := by decide +kernel
theorem dX2_standOn_11 : decode cX2_standOn 11 = .ok (.getfield 9, 3) := by decide +kernel
theorem dX2_standOn_14 : decode cX2_standOn 14 = .ok (.iload_n 2, 1) := by decide +kernel
theorem dX2_standOn_15 : decode cX2_standOn 15 = .ok (.iaload, 1) := by decide +kernel
theorem dX2_standOn_16 : decode cX2_standOn 16 = .ok (.iload_n 1, 1) := by decide +kernel
theorem dX2_standOn_17 : decode cX2_standOn 17 = .ok (.if_icmp .ne 5, 3) := by decide +kernel
theorem dX2_standOn_20 : decode cX2_standOn 20 = .ok (.iconst 1, 1) := by decide +kernel
theorem dX2_standOn_21 : decode cX2_standOn 21 = .ok (.ireturn, 1) := by decide +kernel
theorem dX2_standOn_22 : decode cX2_standOn 22 = .ok (.iinc 2 1, 3) := by decide +kernel
theorem dX2_standOn_25 : decode cX2_standOn 25 = .ok (.goto (-23), 3) := by decide +kernel
theorem dX2_standOn_28 : decode cX2_standOn 28 = .ok (.iconst 0, 1) := by decide +kernel
theorem dX2_standOn_29 : decode cX2_standOn 29 = .ok (.ireturn, 1) := by decide +kernel
set_option maxRecDepth 20000 in
theorem ggX2_measureFrom_J7_fill_53178 : GoodIn wsX2_measureFrom wsJ7_fill_53178 := goodIn_r _ [8] (by decide +kernel) (by decide +kernel)
set_option maxRecDepth 20000 in
theorem gX2_measureFrom_J7_fill_53178 : GoodIn wsX2_measureFrom (va_wsS RX2 32 yJ7_fill_53178 wsJ7_fill_53178) := goodIn_app (goodIn_of _ (by decide +kernel)) ggX2_measureFrom_J7_fill_53178
set_option maxRecDepth 20000 in
theorem ggX2_measureFrom_X2_stepOn : GoodIn wsX2_measureFrom wsX2_stepOn := goodIn_r _ [13, 2, 1, 3, 4, 14, 15, 16, 17, 18, 19, 20, 21, 22, 23, 24, 25, 26, 27, 28, 29, 30, 31, 32, 33, 34, 35, 36, 37, 38, 39, 40, 41, 42] (by decide +kernel) (by decide +kernel)
set_option maxRecDepth 20000 in
theorem gX2_measureFrom_X2_stepOn : GoodIn wsX2_measureFrom (wsV RX2 43 RX2 yX2_stepOn wsX2_stepOn) := goodIn_app (goodIn_of _ (by decide +kernel)) ggX2_measureFrom_X2_stepOn
theorem dX2_measureFrom_0 : decode cX2_measureFrom 0 = .ok (.aload_n 0, 1) := by decide +kernel
theorem dX2_measureFrom_1 : decode cX2_measureFrom 1 = .ok (.getfield 22, 3) := by decide +kernel
theorem dX2_measureFrom_4 : decode cX2_measureFrom 4 = .ok (.iconst (-1), 1) := by decide +kernel
theorem dX2_measureFrom_5 : decode cX2_measureFrom 5 = .ok (.invokestatic 32, 3) := by decide +kernel
theorem dX2_measureFrom_8 : decode cX2_measureFrom 8 = .ok (.aload_n 0, 1) := by decide +kernel
theorem dX2_measureFrom_9 : decode cX2_measureFrom 9 = .ok (.getfield 28, 3) := by decide +kernel
theorem dX2_measureFrom_12 : decode cX2_measureFrom 12 = .ok (.getfield 38, 3) := by decide +kernel
theorem dX2_measureFrom_15 : decode cX2_measureFrom 15 = .ok (.iload_n 1, 1) := by decide +kernel
theorem dX2_measureFrom_16 : decode cX2_measureFrom 16 = .ok (.iaload, 1) := by decide +kernel
theorem dX2_measureFrom_17 : decode cX2_measureFrom 17 = .ok (.iconst 1, 1) := by decide +kernel
theorem dX2_measureFrom_18 : decode cX2_measureFrom 18 = .ok (.if_icmp .ne 4, 3) := by decide +kernel
theorem dX2_measureFrom_21 : decode cX2_measureFrom 21 = .ok (.return_, 1) := by decide +kernel
theorem dX2_measureFrom_22 : decode cX2_measureFrom 22 = .ok (.aload_n 0, 1) := by decide +kernel
theorem dX2_measureFrom_23 : decode cX2_measureFrom 23 = .ok (.getfield 22, 3) := by decide +kernel
theorem dX2_measureFrom_26 : decode cX2_measureFrom 26 = .ok (.iload_n 1, 1) := by decide +kernel
theorem dX2_measureFrom_27 : decode cX2_measureFrom 27 = .ok (.iconst 0, 1) := by decide +kernel
theorem dX2_measureFrom_28 : decode cX2_measureFrom 28 = .ok (.iastore, 1) := by decide +kernel
theorem dX2_measureFrom_29 : decode cX2_measureFrom 29 = .ok (.aload_n 0, 1) := by decide +kernel
theorem dX2_measureFrom_30 : decode cX2_measureFrom 30 = .ok (.getfield 25, 3) := by decide +kernel
theorem dX2_measureFrom_33 : decode cX2_measureFrom 33 = .ok (.iconst 0, 1) := by decide +kernel
theorem dX2_measureFrom_34 : decode cX2_measureFrom 34 = .ok (.iload_n 1, 1) := by decide +kernel
theorem dX2_measureFrom_35 : decode cX2_measureFrom 35 = .ok (.iastore, 1) := by decide +kernel
theorem dX2_measureFrom_36 : decode cX2_measureFrom 36 = .ok (.iconst 1, 1) := by decide +kernel
theorem dX2_measureFrom_37 : decode cX2_measureFrom 37 = .ok (.istore_n 2, 1) := by decide +kernel
theorem dX2_measureFrom_38 : decode cX2_measureFrom 38 = .ok (.iconst 0, 1) := by decide +kernel
theorem dX2_measureFrom_39 : decode cX2_measureFrom 39 = .ok (.istore_n 3, 1) := by decide +kernel
theorem dX2_measureFrom_40 : decode cX2_measureFrom 40 = .ok (.iload_n 3, 1) := by decide +kernel
theorem dX2_measureFrom_41 : decode cX2_measureFrom 41 = .ok (.iload_n 2, 1) := by decide +kernel
theorem dX2_measureFrom_42 : decode cX2_measureFrom 42 = .ok (.if_icmp .ge 28, 3) := by decide +kernel
theorem dX2_measureFrom_45 : decode cX2_measureFrom 45 = .ok (.iload_n 3, 1) := by decide +kernel
theorem dX2_measureFrom_46 : decode cX2_measureFrom 46 = .ok (.sipush 576, 3) := by decide +kernel
theorem dX2_measureFrom_49 : decode cX2_measureFrom 49 = .ok (.if_icmp .ge 21, 3) := by decide +kernel
theorem dX2_measureFrom_52 : decode cX2_measureFrom 52 = .ok (.aload_n 0, 1) := by decide +kernel
theorem dX2_measureFrom_53 : decode cX2_measureFrom 53 = .ok (.aload_n 0, 1) := by decide +kernel
theorem dX2_measureFrom_54 : decode cX2_measureFrom 54 = .ok (.getfield 25, 3) := by decide +kernel
theorem dX2_measureFrom_57 : decode cX2_measureFrom 57 = .ok (.iload_n 3, 1) := by decide +kernel
theorem dX2_measureFrom_58 : decode cX2_measureFrom 58 = .ok (.iaload, 1) := by decide +kernel
theorem dX2_measureFrom_59 : decode cX2_measureFrom 59 = .ok (.iload_n 2, 1) := by decide +kernel
theorem dX2_measureFrom_60 : decode cX2_measureFrom 60 = .ok (.invokevirtual 43, 3) := by decide +kernel
theorem dX2_measureFrom_63 : decode cX2_measureFrom 63 = .ok (.istore_n 2, 1) := by decide +kernel
theorem dX2_measureFrom_64 : decode cX2_measureFrom 64 = .ok (.iinc 3 1, 3) := by decide +kernel
theorem dX2_measureFrom_67 : decode cX2_measureFrom 67 = .ok (.goto (-27), 3) := by decide +kernel
theorem dX2_measureFrom_70 : decode cX2_measureFrom 70 = .ok (.return_, 1) := by decide +kernel
set_option maxRecDepth 20000 in
theorem ggX2_stepOn_X5_movedFrom : GoodIn wsX2_stepOn wsX5_movedFrom := goodIn_r _ [9, 10, 11, 12, 13, 14, 15, 16, 17, 8, 18, 19, 20, 21, 22, 23, 24, 31, 32, 33] (by decide +kernel) (by decide +kernel)
set_option maxRecDepth 20000 in
theorem gX2_stepOn_X5_movedFrom : GoodIn wsX2_stepOn (wsV RX2 53 RX5 yX5_movedFrom wsX5_movedFrom) := goodIn_app (goodIn_of _ (by decide +kernel)) ggX2_stepOn_X5_movedFrom
theorem dX2_stepOn_0 : decode cX2_stepOn 0 = .ok (.iload_n 2, 1) := by decide +kernel
theorem dX2_stepOn_1 : decode cX2_stepOn 1 = .ok (.istore_n 3, 1) := by decide +kernel
theorem dX2_stepOn_2 : decode cX2_stepOn 2 = .ok (.iconst 0, 1) := by decide +kernel
theorem dX2_stepOn_3 : decode cX2_stepOn 3 = .ok (.istore 4, 2) := by decide +kernel
theorem dX2_stepOn_5 : decode cX2_stepOn 5 = .ok (.iload 4, 2) := by decide +kernel
theorem dX2_stepOn_7 : decode cX2_stepOn 7 = .ok (.iconst 4, 1) := by decide +kernel
theorem dX2_stepOn_8 : decode cX2_stepOn 8 = .ok (.if_icmp .ge 89, 3) := by decide +kernel
theorem dX2_stepOn_11 : decode cX2_stepOn 11 = .ok (.aload_n 0, 1) := by decide +kernel
theorem dX2_stepOn_12 : decode cX2_stepOn 12 = .ok (.getfield 28, 3) := by decide +kernel
theorem dX2_stepOn_15 : decode cX2_stepOn 15 = .ok (.iload_n 1, 1) := by decide +kernel
theorem dX2_stepOn_16 : decode cX2_stepOn 16 = .ok (.getstatic 47, 3) := by decide +kernel
theorem dX2_stepOn_19 : decode cX2_stepOn 19 = .ok (.iload 4, 2) := by decide +kernel
theorem dX2_stepOn_21 : decode cX2_stepOn 21 = .ok (.iaload, 1) := by decide +kernel
theorem dX2_stepOn_22 : decode cX2_stepOn 22 = .ok (.getstatic 50, 3) := by decide +kernel
theorem dX2_stepOn_25 : decode cX2_stepOn 25 = .ok (.iload 4, 2) := by decide +kernel
theorem dX2_stepOn_27 : decode cX2_stepOn 27 = .ok (.iaload, 1) := by decide +kernel
theorem dX2_stepOn_28 : decode cX2_stepOn 28 = .ok (.invokevirtual 53, 3) := by decide +kernel
theorem dX2_stepOn_31 : decode cX2_stepOn 31 = .ok (.istore 5, 2) := by decide +kernel
theorem dX2_stepOn_33 : decode cX2_stepOn 33 = .ok (.aload_n 0, 1) := by decide +kernel
theorem dX2_stepOn_34 : decode cX2_stepOn 34 = .ok (.getfield 22, 3) := by decide +kernel
theorem dX2_stepOn_37 : decode cX2_stepOn 37 = .ok (.iload 5, 2) := by decide +kernel
theorem dX2_stepOn_39 : decode cX2_stepOn 39 = .ok (.iaload, 1) := by decide +kernel
theorem dX2_stepOn_40 : decode cX2_stepOn 40 = .ok (.iconst (-1), 1) := by decide +kernel
theorem dX2_stepOn_41 : decode cX2_stepOn 41 = .ok (.if_icmp .ne 50, 3) := by decide +kernel
theorem dX2_stepOn_44 : decode cX2_stepOn 44 = .ok (.aload_n 0, 1) := by decide +kernel
theorem dX2_stepOn_45 : decode cX2_stepOn 45 = .ok (.getfield 28, 3) := by decide +kernel
theorem dX2_stepOn_48 : decode cX2_stepOn 48 = .ok (.getfield 38, 3) := by decide +kernel
theorem dX2_stepOn_51 : decode cX2_stepOn 51 = .ok (.iload 5, 2) := by decide +kernel
theorem dX2_stepOn_53 : decode cX2_stepOn 53 = .ok (.iaload, 1) := by decide +kernel
theorem dX2_stepOn_54 : decode cX2_stepOn 54 = .ok (.iconst 1, 1) := by decide +kernel
theorem dX2_stepOn_55 : decode cX2_stepOn 55 = .ok (.if_icmp .eq 36, 3) := by decide +kernel
theorem dX2_stepOn_58 : decode cX2_stepOn 58 = .ok (.iload_n 3, 1) := by decide +kernel
theorem dX2_stepOn_59 : decode cX2_stepOn 59 = .ok (.sipush 576, 3) := by decide +kernel
theorem dX2_stepOn_62 : decode cX2_stepOn 62 = .ok (.if_icmp .ge 29, 3) := by decide +kernel
theorem dX2_stepOn_65 : decode cX2_stepOn 65 = .ok (.aload_n 0, 1) := by decide +kernel
theorem dX2_stepOn_66 : decode cX2_stepOn 66 = .ok (.getfield 22, 3) := by decide +kernel
theorem dX2_stepOn_69 : decode cX2_stepOn 69 = .ok (.iload 5, 2) := by decide +kernel
theorem dX2_stepOn_71 : decode cX2_stepOn 71 = .ok (.aload_n 0, 1) := by decide +kernel
theorem dX2_stepOn_72 : decode cX2_stepOn 72 = .ok (.getfield 22, 3) := by decide +kernel
theorem dX2_stepOn_75 : decode cX2_stepOn 75 = .ok (.iload_n 1, 1) := by decide +kernel
theorem dX2_stepOn_76 : decode cX2_stepOn 76 = .ok (.iaload, 1) := by decide +kernel
theorem dX2_stepOn_77 : decode cX2_stepOn 77 = .ok (.iconst 1, 1) := by decide +kernel
theorem dX2_stepOn_78 : decode cX2_stepOn 78 = .ok (.iadd, 1) := by decide +kernel
theorem dX2_stepOn_79 : decode cX2_stepOn 79 = .ok (.iastore, 1) := by decide +kernel
theorem dX2_stepOn_80 : decode cX2_stepOn 80 = .ok (.aload_n 0, 1) := by decide +kernel
theorem dX2_stepOn_81 : decode cX2_stepOn 81 = .ok (.getfield 25, 3) := by decide +kernel
theorem dX2_stepOn_84 : decode cX2_stepOn 84 = .ok (.iload_n 3, 1) := by decide +kernel
theorem dX2_stepOn_85 : decode cX2_stepOn 85 = .ok (.iload 5, 2) := by decide +kernel
theorem dX2_stepOn_87 : decode cX2_stepOn 87 = .ok (.iastore, 1) := by decide +kernel
theorem dX2_stepOn_88 : decode cX2_stepOn 88 = .ok (.iinc 3 1, 3) := by decide +kernel
theorem dX2_stepOn_91 : decode cX2_stepOn 91 = .ok (.iinc 4 1, 3) := by decide +kernel
theorem dX2_stepOn_94 : decode cX2_stepOn 94 = .ok (.goto (-89), 3) := by decide +kernel
theorem dX2_stepOn_97 : decode cX2_stepOn 97 = .ok (.iload_n 3, 1) := by decide +kernel
theorem dX2_stepOn_98 : decode cX2_stepOn 98 = .ok (.ireturn, 1) := by decide +kernel
theorem dX2_ticksOf_0 : decode cX2_ticksOf 0 = .ok (.aload_n 0, 1) := by decide +kernel
theorem dX2_ticksOf_1 : decode cX2_ticksOf 1 = .ok (.getfield 22, 3) := by decide +kernel
theorem dX2_ticksOf_4 : decode cX2_ticksOf 4 = .ok (.aload_n 0, 1) := by decide +kernel
theorem dX2_ticksOf_5 : decode cX2_ticksOf 5 = .ok (.getfield 9, 3) := by decide +kernel
theorem dX2_ticksOf_8 : decode cX2_ticksOf 8 = .ok (.iload_n 1, 1) := by decide +kernel
theorem dX2_ticksOf_9 : decode cX2_ticksOf 9 = .ok (.iaload, 1) := by decide +kernel
theorem dX2_ticksOf_10 : decode cX2_ticksOf 10 = .ok (.iaload, 1) := by decide +kernel
theorem dX2_ticksOf_11 : decode cX2_ticksOf 11 = .ok (.istore_n 2, 1) := by decide +kernel
theorem dX2_ticksOf_12 : decode cX2_ticksOf 12 = .ok (.aload_n 0, 1) := by decide +kernel
theorem dX2_ticksOf_13 : decode cX2_ticksOf 13 = .ok (.getfield 15, 3) := by decide +kernel
theorem dX2_ticksOf_16 : decode cX2_ticksOf 16 = .ok (.iload_n 1, 1) := by decide +kernel
theorem dX2_ticksOf_17 : decode cX2_ticksOf 17 = .ok (.iaload, 1) := by decide +kernel
theorem dX2_ticksOf_18 : decode cX2_ticksOf 18 = .ok (.istore_n 3, 1) := by decide +kernel
theorem dX2_ticksOf_19 : decode cX2_ticksOf 19 = .ok (.iload_n 2, 1) := by decide +kernel
theorem dX2_ticksOf_20 : decode cX2_ticksOf 20 = .ok (.iconst (-1), 1) := by decide +kernel
theorem dX2_ticksOf_21 : decode cX2_ticksOf 21 = .ok (.if_icmp .eq 8, 3) := by decide +kernel
theorem dX2_ticksOf_24 : decode cX2_ticksOf 24 = .ok (.iload_n 3, 1) := by decide +kernel
theorem dX2_ticksOf_25 : decode cX2_ticksOf 25 = .ok (.iconst 1, 1) := by decide +kernel
theorem dX2_ticksOf_26 : decode cX2_ticksOf 26 = .ok (.if_icmp .ge 5, 3) := by decide +kernel
theorem dX2_ticksOf_29 : decode cX2_ticksOf 29 = .ok (.iconst (-1), 1) := by decide +kernel
theorem dX2_ticksOf_30 : decode cX2_ticksOf 30 = .ok (.ireturn, 1) := by decide +kernel
theorem dX2_ticksOf_31 : decode cX2_ticksOf 31 = .ok (.iload_n 2, 1) := by decide +kernel
theorem dX2_ticksOf_32 : decode cX2_ticksOf 32 = .ok (.iload_n 3, 1) := by decide +kernel
theorem dX2_ticksOf_33 : decode cX2_ticksOf 33 = .ok (.iadd, 1) := by decide +kernel
theorem dX2_ticksOf_34 : decode cX2_ticksOf 34 = .ok (.iconst 1, 1) := by decide +kernel
theorem dX2_ticksOf_35 : decode cX2_ticksOf 35 = .ok (.isub, 1) := by decide +kernel
theorem dX2_ticksOf_36 : decode cX2_ticksOf 36 = .ok (.iload_n 3, 1) := by decide +kernel
theorem dX2_ticksOf_37 : decode cX2_ticksOf 37 = .ok (.idiv, 1) := by decide +kernel
theorem dX2_ticksOf_38 : decode cX2_ticksOf 38 = .ok (.ireturn, 1) := by decide +kernel
set_option maxRecDepth 20000 in
theorem ggX2_soonest_X2_ticksOf : GoodIn wsX2_soonest wsX2_ticksOf := goodIn_r _ [6, 7, 8, 9, 10, 11, 12, 13, 14, 15] (by decide +kernel) (by decide +kernel)
set_option maxRecDepth 20000 in
theorem gX2_soonest_X2_ticksOf : GoodIn wsX2_soonest (wsV RX2 57 RX2 yX2_ticksOf wsX2_ticksOf) := goodIn_app (goodIn_of _ (by decide +kernel)) ggX2_soonest_X2_ticksOf
theorem dX2_soonest_0 : decode cX2_soonest 0 = .ok (.iconst (-1), 1) := by decide +kernel
theorem dX2_soonest_1 : decode cX2_soonest 1 = .ok (.istore_n 1, 1) := by decide +kernel
theorem dX2_soonest_2 : decode cX2_soonest 2 = .ok (.iconst (-1), 1) := by decide +kernel
theorem dX2_soonest_3 : decode cX2_soonest 3 = .ok (.istore_n 2, 1) := by decide +kernel
theorem dX2_soonest_4 : decode cX2_soonest 4 = .ok (.iconst 0, 1) := by decide +kernel
theorem dX2_soonest_5 : decode cX2_soonest 5 = .ok (.istore_n 3, 1) := by decide +kernel
theorem dX2_soonest_6 : decode cX2_soonest 6 = .ok (.iload_n 3, 1) := by decide +kernel
theorem dX2_soonest_7 : decode cX2_soonest 7 = .ok (.aload_n 0, 1) := by decide +kernel
theorem dX2_soonest_8 : decode cX2_soonest 8 = .ok (.getfield 18, 3) := by decide +kernel
theorem dX2_soonest_11 : decode cX2_soonest 11 = .ok (.if_icmp .ge 38, 3) := by decide +kernel
theorem dX2_soonest_14 : decode cX2_soonest 14 = .ok (.aload_n 0, 1) := by decide +kernel
theorem dX2_soonest_15 : decode cX2_soonest 15 = .ok (.iload_n 3, 1) := by decide +kernel
theorem dX2_soonest_16 : decode cX2_soonest 16 = .ok (.invokevirtual 57, 3) := by decide +kernel
theorem dX2_soonest_19 : decode cX2_soonest 19 = .ok (.istore 4, 2) := by decide +kernel
theorem dX2_soonest_21 : decode cX2_soonest 21 = .ok (.iload 4, 2) := by decide +kernel
theorem dX2_soonest_23 : decode cX2_soonest 23 = .ok (.iconst (-1), 1) := by decide +kernel
theorem dX2_soonest_24 : decode cX2_soonest 24 = .ok (.if_icmp .eq 19, 3) := by decide +kernel
theorem dX2_soonest_27 : decode cX2_soonest 27 = .ok (.iload_n 1, 1) := by decide +kernel
theorem dX2_soonest_28 : decode cX2_soonest 28 = .ok (.iconst (-1), 1) := by decide +kernel
theorem dX2_soonest_29 : decode cX2_soonest 29 = .ok (.if_icmp .eq 9, 3) := by decide +kernel
theorem dX2_soonest_32 : decode cX2_soonest 32 = .ok (.iload 4, 2) := by decide +kernel
theorem dX2_soonest_34 : decode cX2_soonest 34 = .ok (.iload_n 2, 1) := by decide +kernel
theorem dX2_soonest_35 : decode cX2_soonest 35 = .ok (.if_icmp .ge 8, 3) := by decide +kernel
theorem dX2_soonest_38 : decode cX2_soonest 38 = .ok (.iload_n 3, 1) := by decide +kernel
theorem dX2_soonest_39 : decode cX2_soonest 39 = .ok (.istore_n 1, 1) := by decide +kernel
theorem dX2_soonest_40 : decode cX2_soonest 40 = .ok (.iload 4, 2) := by decide +kernel
theorem dX2_soonest_42 : decode cX2_soonest 42 = .ok (.istore_n 2, 1) := by decide +kernel
theorem dX2_soonest_43 : decode cX2_soonest 43 = .ok (.iinc 3 1, 3) := by decide +kernel
theorem dX2_soonest_46 : decode cX2_soonest 46 = .ok (.goto (-40), 3) := by decide +kernel
theorem dX2_soonest_49 : decode cX2_soonest 49 = .ok (.iload_n 1, 1) := by decide +kernel
theorem dX2_soonest_50 : decode cX2_soonest 50 = .ok (.ireturn, 1) := by decide +kernel
set_option maxRecDepth 20000 in
theorem ggX3_init_X1_init : GoodIn wsX3_init wsX1_init := goodIn_r _ [13, 14, 2, 3] (by decide +kernel) (by decide +kernel)
set_option maxRecDepth 20000 in
theorem gX3_init_X1_init_n11 : GoodIn wsX3_init (wsX1_init) := ggX3_init_X1_init
theorem dX3_init_0 : decode cX3_init 0 = .ok (.aload_n 0, 1) := by decide +kernel
theorem dX3_init_1 : decode cX3_init 1 = .ok (.invokespecial 3, 3) := by decide +kernel
theorem dX3_init_4 : decode cX3_init 4 = .ok (.aload_n 0, 1) := by decide +kernel
theorem dX3_init_5 : decode cX3_init 5 = .ok (.new 9, 3) := by decide +kernel
theorem dX3_init_8 : decode cX3_init 8 = .ok (.dup, 1) := by decide +kernel
theorem dX3_init_9 : decode cX3_init 9 = .ok (.invokespecial 11, 3) := by decide +kernel
theorem dX3_init_12 : decode cX3_init 12 = .ok (.putfield 12, 3) := by decide +kernel
theorem dX3_init_15 : decode cX3_init 15 = .ok (.aload_n 0, 1) := by decide +kernel
theorem dX3_init_16 : decode cX3_init 16 = .ok (.bipush 60, 2) := by decide +kernel
theorem dX3_init_18 : decode cX3_init 18 = .ok (.newarray .int, 2) := by decide +kernel
theorem dX3_init_20 : decode cX3_init 20 = .ok (.putfield 18, 3) := by decide +kernel
theorem dX3_init_23 : decode cX3_init 23 = .ok (.aload_n 0, 1) := by decide +kernel
theorem dX3_init_24 : decode cX3_init 24 = .ok (.bipush 60, 2) := by decide +kernel
theorem dX3_init_26 : decode cX3_init 26 = .ok (.newarray .boolean, 2) := by decide +kernel
theorem dX3_init_28 : decode cX3_init 28 = .ok (.putfield 22, 3) := by decide +kernel
theorem dX3_init_31 : decode cX3_init 31 = .ok (.return_, 1) := by decide +kernel
set_option maxRecDepth 20000 in
theorem ggX3_begin_X3_writeDown : GoodIn wsX3_begin wsX3_writeDown := goodIn_r _ [18, 12, 19, 3, 4, 5, 20, 21, 22, 23, 24, 25, 26, 27, 28, 29, 30, 31, 32, 33, 34, 35, 36, 37, 38] (by decide +kernel) (by decide +kernel)
set_option maxRecDepth 20000 in
theorem gX3_begin_X3_writeDown : GoodIn wsX3_begin (wsV RX3 64 RX3 yX3_writeDown wsX3_writeDown) := goodIn_app (goodIn_of _ (by decide +kernel)) ggX3_begin_X3_writeDown
theorem dX3_begin_0 : decode cX3_begin 0 = .ok (.aload_n 0, 1) := by decide +kernel
theorem dX3_begin_1 : decode cX3_begin 1 = .ok (.iload_n 1, 1) := by decide +kernel
theorem dX3_begin_2 : decode cX3_begin 2 = .ok (.putfield 26, 3) := by decide +kernel
theorem dX3_begin_5 : decode cX3_begin 5 = .ok (.aload_n 0, 1) := by decide +kernel
theorem dX3_begin_6 : decode cX3_begin 6 = .ok (.iload_n 2, 1) := by decide +kernel
theorem dX3_begin_7 : decode cX3_begin 7 = .ok (.putfield 30, 3) := by decide +kernel
theorem dX3_begin_10 : decode cX3_begin 10 = .ok (.aload_n 0, 1) := by decide +kernel
theorem dX3_begin_11 : decode cX3_begin 11 = .ok (.getfield 12, 3) := by decide +kernel
theorem dX3_begin_14 : decode cX3_begin 14 = .ok (.iload_n 1, 1) := by decide +kernel
theorem dX3_begin_15 : decode cX3_begin 15 = .ok (.putfield 33, 3) := by decide +kernel
theorem dX3_begin_18 : decode cX3_begin 18 = .ok (.aload_n 0, 1) := by decide +kernel
theorem dX3_begin_19 : decode cX3_begin 19 = .ok (.getfield 12, 3) := by decide +kernel
theorem dX3_begin_22 : decode cX3_begin 22 = .ok (.iconst 1, 1) := by decide +kernel
theorem dX3_begin_23 : decode cX3_begin 23 = .ok (.putfield 36, 3) := by decide +kernel
theorem dX3_begin_26 : decode cX3_begin 26 = .ok (.aload_n 0, 1) := by decide +kernel
theorem dX3_begin_27 : decode cX3_begin 27 = .ok (.getfield 12, 3) := by decide +kernel
theorem dX3_begin_30 : decode cX3_begin 30 = .ok (.iload_n 2, 1) := by decide +kernel
theorem dX3_begin_31 : decode cX3_begin 31 = .ok (.putfield 39, 3) := by decide +kernel
theorem dX3_begin_34 : decode cX3_begin 34 = .ok (.aload_n 0, 1) := by decide +kernel
theorem dX3_begin_35 : decode cX3_begin 35 = .ok (.getfield 12, 3) := by decide +kernel
theorem dX3_begin_38 : decode cX3_begin 38 = .ok (.iload_n 3, 1) := by decide +kernel
theorem dX3_begin_39 : decode cX3_begin 39 = .ok (.putfield 42, 3) := by decide +kernel
theorem dX3_begin_42 : decode cX3_begin 42 = .ok (.aload_n 0, 1) := by decide +kernel
theorem dX3_begin_43 : decode cX3_begin 43 = .ok (.getfield 12, 3) := by decide +kernel
theorem dX3_begin_46 : decode cX3_begin 46 = .ok (.iload 4, 2) := by decide +kernel
theorem dX3_begin_48 : decode cX3_begin 48 = .ok (.putfield 45, 3) := by decide +kernel
theorem dX3_begin_51 : decode cX3_begin 51 = .ok (.aload_n 0, 1) := by decide +kernel
theorem dX3_begin_52 : decode cX3_begin 52 = .ok (.getfield 12, 3) := by decide +kernel
theorem dX3_begin_55 : decode cX3_begin 55 = .ok (.iload 5, 2) := by decide +kernel
theorem dX3_begin_57 : decode cX3_begin 57 = .ok (.putfield 48, 3) := by decide +kernel
theorem dX3_begin_60 : decode cX3_begin 60 = .ok (.aload_n 0, 1) := by decide +kernel
theorem dX3_begin_61 : decode cX3_begin 61 = .ok (.getfield 12, 3) := by decide +kernel
theorem dX3_begin_64 : decode cX3_begin 64 = .ok (.iconst 0, 1) := by decide +kernel
theorem dX3_begin_65 : decode cX3_begin 65 = .ok (.putfield 51, 3) := by decide +kernel
theorem dX3_begin_68 : decode cX3_begin 68 = .ok (.aload_n 0, 1) := by decide +kernel
theorem dX3_begin_69 : decode cX3_begin 69 = .ok (.getfield 12, 3) := by decide +kernel
theorem dX3_begin_72 : decode cX3_begin 72 = .ok (.iconst 0, 1) := by decide +kernel
theorem dX3_begin_73 : decode cX3_begin 73 = .ok (.putfield 54, 3) := by decide +kernel
theorem dX3_begin_76 : decode cX3_begin 76 = .ok (.aload_n 0, 1) := by decide +kernel
theorem dX3_begin_77 : decode cX3_begin 77 = .ok (.iconst 0, 1) := by decide +kernel
theorem dX3_begin_78 : decode cX3_begin 78 = .ok (.putfield 58, 3) := by decide +kernel
theorem dX3_begin_81 : decode cX3_begin 81 = .ok (.aload_n 0, 1) := by decide +kernel
theorem dX3_begin_82 : decode cX3_begin 82 = .ok (.iconst 0, 1) := by decide +kernel
theorem dX3_begin_83 : decode cX3_begin 83 = .ok (.putfield 61, 3) := by decide +kernel
theorem dX3_begin_86 : decode cX3_begin 86 = .ok (.aload_n 0, 1) := by decide +kernel
theorem dX3_begin_87 : decode cX3_begin 87 = .ok (.invokevirtual 64, 3) := by decide +kernel
theorem dX3_begin_90 : decode cX3_begin 90 = .ok (.return_, 1) := by decide +kernel
set_option maxRecDepth 20000 in
theorem ggX3_writeDown_X9_placeOf : GoodIn wsX3_writeDown wsX9_placeOf := goodIn_r _ [9] (by decide +kernel) (by decide +kernel)
set_option maxRecDepth 20000 in
theorem gX3_writeDown_X9_placeOf_n67 : GoodIn wsX3_writeDown (wsX9_placeOf) := ggX3_writeDown_X9_placeOf
theorem dX3_writeDown_0 : decode cX3_writeDown 0 = .ok (.aload_n 0, 1) := by decide +kernel
theorem dX3_writeDown_1 : decode cX3_writeDown 1 = .ok (.getfield 58, 3) := by decide +kernel
theorem dX3_writeDown_4 : decode cX3_writeDown 4 = .ok (.bipush 60, 2) := by decide +kernel
theorem dX3_writeDown_6 : decode cX3_writeDown 6 = .ok (.if_icmp .ge 49, 3) := by decide +kernel
theorem dX3_writeDown_9 : decode cX3_writeDown 9 = .ok (.aload_n 0, 1) := by decide +kernel
theorem dX3_writeDown_10 : decode cX3_writeDown 10 = .ok (.getfield 18, 3) := by decide +kernel
theorem dX3_writeDown_13 : decode cX3_writeDown 13 = .ok (.aload_n 0, 1) := by decide +kernel
theorem dX3_writeDown_14 : decode cX3_writeDown 14 = .ok (.getfield 58, 3) := by decide +kernel
theorem dX3_writeDown_17 : decode cX3_writeDown 17 = .ok (.aload_n 0, 1) := by decide +kernel
theorem dX3_writeDown_18 : decode cX3_writeDown 18 = .ok (.getfield 12, 3) := by decide +kernel
theorem dX3_writeDown_21 : decode cX3_writeDown 21 = .ok (.getfield 33, 3) := by decide +kernel
theorem dX3_writeDown_24 : decode cX3_writeDown 24 = .ok (.aload_n 0, 1) := by decide +kernel
theorem dX3_writeDown_25 : decode cX3_writeDown 25 = .ok (.getfield 12, 3) := by decide +kernel
theorem dX3_writeDown_28 : decode cX3_writeDown 28 = .ok (.getfield 36, 3) := by decide +kernel
theorem dX3_writeDown_31 : decode cX3_writeDown 31 = .ok (.invokestatic 67, 3) := by decide +kernel
theorem dX3_writeDown_34 : decode cX3_writeDown 34 = .ok (.iastore, 1) := by decide +kernel
theorem dX3_writeDown_35 : decode cX3_writeDown 35 = .ok (.aload_n 0, 1) := by decide +kernel
theorem dX3_writeDown_36 : decode cX3_writeDown 36 = .ok (.getfield 22, 3) := by decide +kernel
theorem dX3_writeDown_39 : decode cX3_writeDown 39 = .ok (.aload_n 0, 1) := by decide +kernel
theorem dX3_writeDown_40 : decode cX3_writeDown 40 = .ok (.getfield 58, 3) := by decide +kernel
theorem dX3_writeDown_43 : decode cX3_writeDown 43 = .ok (.iconst 0, 1) := by decide +kernel
theorem dX3_writeDown_44 : decode cX3_writeDown 44 = .ok (.bastore, 1) := by decide +kernel
theorem dX3_writeDown_45 : decode cX3_writeDown 45 = .ok (.aload_n 0, 1) := by decide +kernel
theorem dX3_writeDown_46 : decode cX3_writeDown 46 = .ok (.dup, 1) := by decide +kernel
theorem dX3_writeDown_47 : decode cX3_writeDown 47 = .ok (.getfield 58, 3) := by decide +kernel
theorem dX3_writeDown_50 : decode cX3_writeDown 50 = .ok (.iconst 1, 1) := by decide +kernel
theorem dX3_writeDown_51 : decode cX3_writeDown 51 = .ok (.iadd, 1) := by decide +kernel
theorem dX3_writeDown_52 : decode cX3_writeDown 52 = .ok (.putfield 58, 3) := by decide +kernel
theorem dX3_writeDown_55 : decode cX3_writeDown 55 = .ok (.return_, 1) := by decide +kernel
theorem dX3_forget_0 : decode cX3_forget 0 = .ok (.iconst 0, 1) := by decide +kernel
theorem dX3_forget_1 : decode cX3_forget 1 = .ok (.istore_n 3, 1) := by decide +kernel
theorem dX3_forget_2 : decode cX3_forget 2 = .ok (.iload_n 2, 1) := by decide +kernel
theorem dX3_forget_3 : decode cX3_forget 3 = .ok (.aload_n 0, 1) := by decide +kernel
theorem dX3_forget_4 : decode cX3_forget 4 = .ok (.getfield 58, 3) := by decide +kernel
theorem dX3_forget_7 : decode cX3_forget 7 = .ok (.iconst 1, 1) := by decide +kernel
theorem dX3_forget_8 : decode cX3_forget 8 = .ok (.isub, 1) := by decide +kernel
theorem dX3_forget_9 : decode cX3_forget 9 = .ok (.invokestatic 71, 3) := by decide +kernel
theorem dX3_forget_12 : decode cX3_forget 12 = .ok (.istore 4, 2) := by decide +kernel
theorem dX3_forget_14 : decode cX3_forget 14 = .ok (.iload_n 1, 1) := by decide +kernel
theorem dX3_forget_15 : decode cX3_forget 15 = .ok (.istore 5, 2) := by decide +kernel
theorem dX3_forget_17 : decode cX3_forget 17 = .ok (.iload 5, 2) := by decide +kernel
theorem dX3_forget_19 : decode cX3_forget 19 = .ok (.iload 4, 2) := by decide +kernel
theorem dX3_forget_21 : decode cX3_forget 21 = .ok (.if_icmp .gt 30, 3) := by decide +kernel
theorem dX3_forget_24 : decode cX3_forget 24 = .ok (.aload_n 0, 1) := by decide +kernel
theorem dX3_forget_25 : decode cX3_forget 25 = .ok (.getfield 22, 3) := by decide +kernel
theorem dX3_forget_28 : decode cX3_forget 28 = .ok (.iload 5, 2) := by decide +kernel
theorem dX3_forget_30 : decode cX3_forget 30 = .ok (.baload, 1) := by decide +kernel
theorem dX3_forget_31 : decode cX3_forget 31 = .ok (.ifCond .ne 14, 3) := by decide +kernel
theorem dX3_forget_34 : decode cX3_forget 34 = .ok (.aload_n 0, 1) := by decide +kernel
theorem dX3_forget_35 : decode cX3_forget 35 = .ok (.getfield 22, 3) := by decide +kernel
theorem dX3_forget_38 : decode cX3_forget 38 = .ok (.iload 5, 2) := by decide +kernel
theorem dX3_forget_40 : decode cX3_forget 40 = .ok (.iconst 1, 1) := by decide +kernel
theorem dX3_forget_41 : decode cX3_forget 41 = .ok (.bastore, 1) := by decide +kernel
theorem dX3_forget_42 : decode cX3_forget 42 = .ok (.iinc 3 1, 3) := by decide +kernel
theorem dX3_forget_45 : decode cX3_forget 45 = .ok (.iinc 5 1, 3) := by decide +kernel
theorem dX3_forget_48 : decode cX3_forget 48 = .ok (.goto (-31), 3) := by decide +kernel
theorem dX3_forget_51 : decode cX3_forget 51 = .ok (.aload_n 0, 1) := by decide +kernel
theorem dX3_forget_52 : decode cX3_forget 52 = .ok (.dup, 1) := by decide +kernel
theorem dX3_forget_53 : decode cX3_forget 53 = .ok (.getfield 61, 3) := by decide +kernel
theorem dX3_forget_56 : decode cX3_forget 56 = .ok (.iload_n 3, 1) := by decide +kernel
theorem dX3_forget_57 : decode cX3_forget 57 = .ok (.iadd, 1) := by decide +kernel
theorem dX3_forget_58 : decode cX3_forget 58 = .ok (.putfield 61, 3) := by decide +kernel
theorem dX3_forget_61 : decode cX3_forget 61 = .ok (.iload_n 3, 1) := by decide +kernel
theorem dX3_forget_62 : decode cX3_forget 62 = .ok (.ireturn, 1) := by decide +kernel
set_option maxRecDepth 20000 in
theorem ggX3_flown_X9_squareBetween : GoodIn wsX3_flown wsX9_squareBetween := goodIn_r _ [6, 7, 8, 5, 9, 10, 11, 12] (by decide +kernel) (by decide +kernel)
set_option maxRecDepth 20000 in
theorem gX3_flown_X9_squareBetween_n76 : GoodIn wsX3_flown (wsX9_squareBetween) := ggX3_flown_X9_squareBetween
theorem dX3_flown_0 : decode cX3_flown 0 = .ok (.sipush 10000, 3) := by decide +kernel
theorem dX3_flown_3 : decode cX3_flown 3 = .ok (.aload_n 0, 1) := by decide +kernel
theorem dX3_flown_4 : decode cX3_flown 4 = .ok (.getfield 26, 3) := by decide +kernel
theorem dX3_flown_7 : decode cX3_flown 7 = .ok (.aload_n 0, 1) := by decide +kernel
theorem dX3_flown_8 : decode cX3_flown 8 = .ok (.getfield 12, 3) := by decide +kernel
theorem dX3_flown_11 : decode cX3_flown 11 = .ok (.getfield 33, 3) := by decide +kernel
theorem dX3_flown_14 : decode cX3_flown 14 = .ok (.invokestatic 76, 3) := by decide +kernel
theorem dX3_flown_17 : decode cX3_flown 17 = .ok (.imul, 1) := by decide +kernel
theorem dX3_flown_18 : decode cX3_flown 18 = .ok (.istore_n 1, 1) := by decide +kernel
theorem dX3_flown_19 : decode cX3_flown 19 = .ok (.iconst 0, 1) := by decide +kernel
theorem dX3_flown_20 : decode cX3_flown 20 = .ok (.istore_n 2, 1) := by decide +kernel
theorem dX3_flown_21 : decode cX3_flown 21 = .ok (.sipush 2048, 3) := by decide +kernel
theorem dX3_flown_24 : decode cX3_flown 24 = .ok (.istore_n 3, 1) := by decide +kernel
theorem dX3_flown_25 : decode cX3_flown 25 = .ok (.iload_n 3, 1) := by decide +kernel
theorem dX3_flown_26 : decode cX3_flown 26 = .ok (.ifCond .le 27, 3) := by decide +kernel
theorem dX3_flown_29 : decode cX3_flown 29 = .ok (.iload_n 2, 1) := by decide +kernel
theorem dX3_flown_30 : decode cX3_flown 30 = .ok (.iload_n 3, 1) := by decide +kernel
theorem dX3_flown_31 : decode cX3_flown 31 = .ok (.iadd, 1) := by decide +kernel
theorem dX3_flown_32 : decode cX3_flown 32 = .ok (.istore 4, 2) := by decide +kernel
theorem dX3_flown_34 : decode cX3_flown 34 = .ok (.iload 4, 2) := by decide +kernel
theorem dX3_flown_36 : decode cX3_flown 36 = .ok (.iload 4, 2) := by decide +kernel
theorem dX3_flown_38 : decode cX3_flown 38 = .ok (.imul, 1) := by decide +kernel
theorem dX3_flown_39 : decode cX3_flown 39 = .ok (.iload_n 1, 1) := by decide +kernel
theorem dX3_flown_40 : decode cX3_flown 40 = .ok (.if_icmp .gt 6, 3) := by decide +kernel
theorem dX3_flown_43 : decode cX3_flown 43 = .ok (.iload 4, 2) := by decide +kernel
theorem dX3_flown_45 : decode cX3_flown 45 = .ok (.istore_n 2, 1) := by decide +kernel
theorem dX3_flown_46 : decode cX3_flown 46 = .ok (.iload_n 3, 1) := by decide +kernel
theorem dX3_flown_47 : decode cX3_flown 47 = .ok (.iconst 2, 1) := by decide +kernel
theorem dX3_flown_48 : decode cX3_flown 48 = .ok (.idiv, 1) := by decide +kernel
theorem dX3_flown_49 : decode cX3_flown 49 = .ok (.istore_n 3, 1) := by decide +kernel
theorem dX3_flown_50 : decode cX3_flown 50 = .ok (.goto (-25), 3) := by decide +kernel
theorem dX3_flown_53 : decode cX3_flown 53 = .ok (.iload_n 2, 1) := by decide +kernel
theorem dX3_flown_54 : decode cX3_flown 54 = .ok (.ireturn, 1) := by decide +kernel
theorem dX4_init_0 : decode cX4_init 0 = .ok (.aload_n 0, 1) := by decide +kernel
theorem dX4_init_1 : decode cX4_init 1 = .ok (.invokespecial 3, 3) := by decide +kernel
theorem dX4_init_4 : decode cX4_init 4 = .ok (.aload_n 0, 1) := by decide +kernel
theorem dX4_init_5 : decode cX4_init 5 = .ok (.sipush 4608, 3) := by decide +kernel
theorem dX4_init_8 : decode cX4_init 8 = .ok (.newarray .int, 2) := by decide +kernel
theorem dX4_init_10 : decode cX4_init 10 = .ok (.putfield 9, 3) := by decide +kernel
theorem dX4_init_13 : decode cX4_init 13 = .ok (.aload_n 0, 1) := by decide +kernel
theorem dX4_init_14 : decode cX4_init 14 = .ok (.sipush 4608, 3) := by decide +kernel
theorem dX4_init_17 : decode cX4_init 17 = .ok (.newarray .int, 2) := by decide +kernel
theorem dX4_init_19 : decode cX4_init 19 = .ok (.putfield 15, 3) := by decide +kernel
theorem dX4_init_22 : decode cX4_init 22 = .ok (.aload_n 0, 1) := by decide +kernel
theorem dX4_init_23 : decode cX4_init 23 = .ok (.sipush 4608, 3) := by decide +kernel
theorem dX4_init_26 : decode cX4_init 26 = .ok (.newarray .int, 2) := by decide +kernel
theorem dX4_init_28 : decode cX4_init 28 = .ok (.putfield 18, 3) := by decide +kernel
theorem dX4_init_31 : decode cX4_init 31 = .ok (.aload_n 0, 1) := by decide +kernel
theorem dX4_init_32 : decode cX4_init 32 = .ok (.iconst 0, 1) := by decide +kernel
theorem dX4_init_33 : decode cX4_init 33 = .ok (.putfield 21, 3) := by decide +kernel
theorem dX4_init_36 : decode cX4_init 36 = .ok (.return_, 1) := by decide +kernel
theorem dX4_clear_0 : decode cX4_clear 0 = .ok (.iconst 0, 1) := by decide +kernel
theorem dX4_clear_1 : decode cX4_clear 1 = .ok (.istore_n 1, 1) := by decide +kernel
theorem dX4_clear_2 : decode cX4_clear 2 = .ok (.iload_n 1, 1) := by decide +kernel
theorem dX4_clear_3 : decode cX4_clear 3 = .ok (.aload_n 0, 1) := by decide +kernel
theorem dX4_clear_4 : decode cX4_clear 4 = .ok (.getfield 21, 3) := by decide +kernel
theorem dX4_clear_7 : decode cX4_clear 7 = .ok (.if_icmp .ge 33, 3) := by decide +kernel
theorem dX4_clear_10 : decode cX4_clear 10 = .ok (.aload_n 0, 1) := by decide +kernel
theorem dX4_clear_11 : decode cX4_clear 11 = .ok (.getfield 15, 3) := by decide +kernel
theorem dX4_clear_14 : decode cX4_clear 14 = .ok (.aload_n 0, 1) := by decide +kernel
theorem dX4_clear_15 : decode cX4_clear 15 = .ok (.getfield 9, 3) := by decide +kernel
theorem dX4_clear_18 : decode cX4_clear 18 = .ok (.iload_n 1, 1) := by decide +kernel
theorem dX4_clear_19 : decode cX4_clear 19 = .ok (.iaload, 1) := by decide +kernel
theorem dX4_clear_20 : decode cX4_clear 20 = .ok (.iconst 0, 1) := by decide +kernel
theorem dX4_clear_21 : decode cX4_clear 21 = .ok (.iastore, 1) := by decide +kernel
theorem dX4_clear_22 : decode cX4_clear 22 = .ok (.aload_n 0, 1) := by decide +kernel
theorem dX4_clear_23 : decode cX4_clear 23 = .ok (.getfield 18, 3) := by decide +kernel
theorem dX4_clear_26 : decode cX4_clear 26 = .ok (.aload_n 0, 1) := by decide +kernel
theorem dX4_clear_27 : decode cX4_clear 27 = .ok (.getfield 9, 3) := by decide +kernel
theorem dX4_clear_30 : decode cX4_clear 30 = .ok (.iload_n 1, 1) := by decide +kernel
theorem dX4_clear_31 : decode cX4_clear 31 = .ok (.iaload, 1) := by decide +kernel
theorem dX4_clear_32 : decode cX4_clear 32 = .ok (.iconst 0, 1) := by decide +kernel
theorem dX4_clear_33 : decode cX4_clear 33 = .ok (.iastore, 1) := by decide +kernel
theorem dX4_clear_34 : decode cX4_clear 34 = .ok (.iinc 1 1, 3) := by decide +kernel
theorem dX4_clear_37 : decode cX4_clear 37 = .ok (.goto (-35), 3) := by decide +kernel
theorem dX4_clear_40 : decode cX4_clear 40 = .ok (.aload_n 0, 1) := by decide +kernel
theorem dX4_clear_41 : decode cX4_clear 41 = .ok (.iconst 0, 1) := by decide +kernel
theorem dX4_clear_42 : decode cX4_clear 42 = .ok (.putfield 21, 3) := by decide +kernel
theorem dX4_clear_45 : decode cX4_clear 45 = .ok (.return_, 1) := by decide +kernel
theorem dX4_add_0 : decode cX4_add 0 = .ok (.aload_n 0, 1) := by decide +kernel
theorem dX4_add_1 : decode cX4_add 1 = .ok (.getfield 15, 3) := by decide +kernel
theorem dX4_add_4 : decode cX4_add 4 = .ok (.iload_n 1, 1) := by decide +kernel
theorem dX4_add_5 : decode cX4_add 5 = .ok (.iaload, 1) := by decide +kernel
theorem dX4_add_6 : decode cX4_add 6 = .ok (.ifCond .ne 42, 3) := by decide +kernel
theorem dX4_add_9 : decode cX4_add 9 = .ok (.aload_n 0, 1) := by decide +kernel
theorem dX4_add_10 : decode cX4_add 10 = .ok (.getfield 18, 3) := by decide +kernel
theorem dX4_add_13 : decode cX4_add 13 = .ok (.iload_n 1, 1) := by decide +kernel
theorem dX4_add_14 : decode cX4_add 14 = .ok (.iaload, 1) := by decide +kernel
theorem dX4_add_15 : decode cX4_add 15 = .ok (.ifCond .ne 33, 3) := by decide +kernel
theorem dX4_add_18 : decode cX4_add 18 = .ok (.aload_n 0, 1) := by decide +kernel
theorem dX4_add_19 : decode cX4_add 19 = .ok (.getfield 21, 3) := by decide +kernel
theorem dX4_add_22 : decode cX4_add 22 = .ok (.sipush 4608, 3) := by decide +kernel
theorem dX4_add_25 : decode cX4_add 25 = .ok (.if_icmp .ge 23, 3) := by decide +kernel
theorem dX4_add_28 : decode cX4_add 28 = .ok (.aload_n 0, 1) := by decide +kernel
theorem dX4_add_29 : decode cX4_add 29 = .ok (.getfield 9, 3) := by decide +kernel
theorem dX4_add_32 : decode cX4_add 32 = .ok (.aload_n 0, 1) := by decide +kernel
theorem dX4_add_33 : decode cX4_add 33 = .ok (.getfield 21, 3) := by decide +kernel
theorem dX4_add_36 : decode cX4_add 36 = .ok (.iload_n 1, 1) := by decide +kernel
theorem dX4_add_37 : decode cX4_add 37 = .ok (.iastore, 1) := by decide +kernel
theorem dX4_add_38 : decode cX4_add 38 = .ok (.aload_n 0, 1) := by decide +kernel
theorem dX4_add_39 : decode cX4_add 39 = .ok (.dup, 1) := by decide +kernel
theorem dX4_add_40 : decode cX4_add 40 = .ok (.getfield 21, 3) := by decide +kernel
theorem dX4_add_43 : decode cX4_add 43 = .ok (.iconst 1, 1) := by decide +kernel
theorem dX4_add_44 : decode cX4_add 44 = .ok (.iadd, 1) := by decide +kernel
theorem dX4_add_45 : decode cX4_add 45 = .ok (.putfield 21, 3) := by decide +kernel
theorem dX4_add_48 : decode cX4_add 48 = .ok (.aload_n 0, 1) := by decide +kernel
theorem dX4_add_49 : decode cX4_add 49 = .ok (.getfield 15, 3) := by decide +kernel
theorem dX4_add_52 : decode cX4_add 52 = .ok (.iload_n 1, 1) := by decide +kernel
theorem dX4_add_53 : decode cX4_add 53 = .ok (.ldc 25, 2) := by decide +kernel
theorem dX4_add_55 : decode cX4_add 55 = .ok (.aload_n 0, 1) := by decide +kernel
theorem dX4_add_56 : decode cX4_add 56 = .ok (.getfield 15, 3) := by decide +kernel
theorem dX4_add_59 : decode cX4_add 59 = .ok (.iload_n 1, 1) := by decide +kernel
theorem dX4_add_60 : decode cX4_add 60 = .ok (.iaload, 1) := by decide +kernel
theorem dX4_add_61 : decode cX4_add 61 = .ok (.iload_n 2, 1) := by decide +kernel
theorem dX4_add_62 : decode cX4_add 62 = .ok (.iadd, 1) := by decide +kernel
theorem dX4_add_63 : decode cX4_add 63 = .ok (.invokestatic 26, 3) := by decide +kernel
theorem dX4_add_66 : decode cX4_add 66 = .ok (.iastore, 1) := by decide +kernel
theorem dX4_add_67 : decode cX4_add 67 = .ok (.aload_n 0, 1) := by decide +kernel
theorem dX4_add_68 : decode cX4_add 68 = .ok (.getfield 18, 3) := by decide +kernel
theorem dX4_add_71 : decode cX4_add 71 = .ok (.iload_n 1, 1) := by decide +kernel
theorem dX4_add_72 : decode cX4_add 72 = .ok (.ldc 25, 2) := by decide +kernel
theorem dX4_add_74 : decode cX4_add 74 = .ok (.aload_n 0, 1) := by decide +kernel
theorem dX4_add_75 : decode cX4_add 75 = .ok (.getfield 18, 3) := by decide +kernel
theorem dX4_add_78 : decode cX4_add 78 = .ok (.iload_n 1, 1) := by decide +kernel
theorem dX4_add_79 : decode cX4_add 79 = .ok (.iaload, 1) := by decide +kernel
theorem dX4_add_80 : decode cX4_add 80 = .ok (.iload_n 3, 1) := by decide +kernel
theorem dX4_add_81 : decode cX4_add 81 = .ok (.iadd, 1) := by decide +kernel
theorem dX4_add_82 : decode cX4_add 82 = .ok (.invokestatic 26, 3) := by decide +kernel
theorem dX4_add_85 : decode cX4_add 85 = .ok (.iastore, 1) := by decide +kernel
theorem dX4_add_86 : decode cX4_add 86 = .ok (.return_, 1) := by decide +kernel
theorem dX5_init_0 : decode cX5_init 0 = .ok (.aload_n 0, 1) := by decide +kernel
theorem dX5_init_1 : decode cX5_init 1 = .ok (.invokespecial 3, 3) := by decide +kernel
theorem dX5_init_4 : decode cX5_init 4 = .ok (.aload_n 0, 1) := by decide +kernel
theorem dX5_init_5 : decode cX5_init 5 = .ok (.bipush 12, 2) := by decide +kernel
theorem dX5_init_7 : decode cX5_init 7 = .ok (.putfield 9, 3) := by decide +kernel
theorem dX5_init_10 : decode cX5_init 10 = .ok (.aload_n 0, 1) := by decide +kernel
theorem dX5_init_11 : decode cX5_init 11 = .ok (.bipush 12, 2) := by decide +kernel
theorem dX5_init_13 : decode cX5_init 13 = .ok (.putfield 15, 3) := by decide +kernel
theorem dX5_init_16 : decode cX5_init 16 = .ok (.aload_n 0, 1) := by decide +kernel
theorem dX5_init_17 : decode cX5_init 17 = .ok (.sipush 576, 3) := by decide +kernel
theorem dX5_init_20 : decode cX5_init 20 = .ok (.newarray .int, 2) := by decide +kernel
theorem dX5_init_22 : decode cX5_init 22 = .ok (.putfield 18, 3) := by decide +kernel
theorem dX5_init_25 : decode cX5_init 25 = .ok (.return_, 1) := by decide +kernel
set_option maxRecDepth 20000 in
theorem ggX5_clear_J7_fill_53178 : GoodIn wsX5_clear wsJ7_fill_53178 := goodIn_r _ [7] (by decide +kernel) (by decide +kernel)
set_option maxRecDepth 20000 in
theorem gX5_clear_J7_fill_53178 : GoodIn wsX5_clear (va_wsS RX5 22 yJ7_fill_53178 wsJ7_fill_53178) := goodIn_app (goodIn_of _ (by decide +kernel)) ggX5_clear_J7_fill_53178
theorem dX5_clear_0 : decode cX5_clear 0 = .ok (.aload_n 0, 1) := by decide +kernel
theorem dX5_clear_1 : decode cX5_clear 1 = .ok (.iload_n 1, 1) := by decide +kernel
theorem dX5_clear_2 : decode cX5_clear 2 = .ok (.putfield 9, 3) := by decide +kernel
theorem dX5_clear_5 : decode cX5_clear 5 = .ok (.aload_n 0, 1) := by decide +kernel
theorem dX5_clear_6 : decode cX5_clear 6 = .ok (.iload_n 2, 1) := by decide +kernel
theorem dX5_clear_7 : decode cX5_clear 7 = .ok (.putfield 15, 3) := by decide +kernel
theorem dX5_clear_10 : decode cX5_clear 10 = .ok (.aload_n 0, 1) := by decide +kernel
theorem dX5_clear_11 : decode cX5_clear 11 = .ok (.getfield 18, 3) := by decide +kernel
theorem dX5_clear_14 : decode cX5_clear 14 = .ok (.iconst 0, 1) := by decide +kernel
theorem dX5_clear_15 : decode cX5_clear 15 = .ok (.invokestatic 22, 3) := by decide +kernel
theorem dX5_clear_18 : decode cX5_clear 18 = .ok (.return_, 1) := by decide +kernel
set_option maxRecDepth 20000 in
theorem ggX5_has_X9_within : GoodIn wsX5_has wsX9_within := goodIn_r _ [5] (by decide +kernel) (by decide +kernel)
set_option maxRecDepth 20000 in
theorem gX5_has_X9_within_n28 : GoodIn wsX5_has (wsX9_within) := ggX5_has_X9_within
theorem dX5_has_0 : decode cX5_has 0 = .ok (.iload_n 1, 1) := by decide +kernel
theorem dX5_has_1 : decode cX5_has 1 = .ok (.iconst 0, 1) := by decide +kernel
theorem dX5_has_2 : decode cX5_has 2 = .ok (.aload_n 0, 1) := by decide +kernel
theorem dX5_has_3 : decode cX5_has 3 = .ok (.getfield 9, 3) := by decide +kernel
theorem dX5_has_6 : decode cX5_has 6 = .ok (.iconst 1, 1) := by decide +kernel
theorem dX5_has_7 : decode cX5_has 7 = .ok (.isub, 1) := by decide +kernel
theorem dX5_has_8 : decode cX5_has 8 = .ok (.invokestatic 28, 3) := by decide +kernel
theorem dX5_has_11 : decode cX5_has 11 = .ok (.ifCond .eq 21, 3) := by decide +kernel
theorem dX5_has_14 : decode cX5_has 14 = .ok (.iload_n 2, 1) := by decide +kernel
theorem dX5_has_15 : decode cX5_has 15 = .ok (.iconst 0, 1) := by decide +kernel
theorem dX5_has_16 : decode cX5_has 16 = .ok (.aload_n 0, 1) := by decide +kernel
theorem dX5_has_17 : decode cX5_has 17 = .ok (.getfield 15, 3) := by decide +kernel
theorem dX5_has_20 : decode cX5_has 20 = .ok (.iconst 1, 1) := by decide +kernel
theorem dX5_has_21 : decode cX5_has 21 = .ok (.isub, 1) := by decide +kernel
theorem dX5_has_22 : decode cX5_has 22 = .ok (.invokestatic 28, 3) := by decide +kernel
theorem dX5_has_25 : decode cX5_has 25 = .ok (.ifCond .eq 7, 3) := by decide +kernel
theorem dX5_has_28 : decode cX5_has 28 = .ok (.iconst 1, 1) := by decide +kernel
theorem dX5_has_29 : decode cX5_has 29 = .ok (.goto 4, 3) := by decide +kernel
theorem dX5_has_32 : decode cX5_has 32 = .ok (.iconst 0, 1) := by decide +kernel
theorem dX5_has_33 : decode cX5_has 33 = .ok (.ireturn, 1) := by decide +kernel
set_option maxRecDepth 20000 in
theorem ggX5_movedFrom_X9_xOf : GoodIn wsX5_movedFrom wsX9_xOf := goodIn_r _ [3] (by decide +kernel) (by decide +kernel)
set_option maxRecDepth 20000 in
theorem gX5_movedFrom_X9_xOf_n32 : GoodIn wsX5_movedFrom (wsX9_xOf) := ggX5_movedFrom_X9_xOf
set_option maxRecDepth 20000 in
theorem ggX5_movedFrom_X9_yOf : GoodIn wsX5_movedFrom wsX9_yOf := goodIn_r _ [5] (by decide +kernel) (by decide +kernel)
set_option maxRecDepth 20000 in
theorem gX5_movedFrom_X9_yOf_n36 : GoodIn wsX5_movedFrom (wsX9_yOf) := ggX5_movedFrom_X9_yOf
set_option maxRecDepth 20000 in
theorem ggX5_movedFrom_X5_has : GoodIn wsX5_movedFrom wsX5_has := goodIn_r _ [10, 11, 12, 13, 2, 14, 17, 18, 19] (by decide +kernel) (by decide +kernel)
set_option maxRecDepth 20000 in
theorem gX5_movedFrom_X5_has : GoodIn wsX5_movedFrom (wsV RX5 39 RX5 yX5_has wsX5_has) := goodIn_app (goodIn_of _ (by decide +kernel)) ggX5_movedFrom_X5_has
set_option maxRecDepth 20000 in
theorem ggX5_movedFrom_X9_cellOf : GoodIn wsX5_movedFrom wsX9_cellOf := goodIn_r _ [16] (by decide +kernel) (by decide +kernel)
set_option maxRecDepth 20000 in
theorem gX5_movedFrom_X9_cellOf_n43 : GoodIn wsX5_movedFrom (wsX9_cellOf) := ggX5_movedFrom_X9_cellOf
theorem dX5_movedFrom_0 : decode cX5_movedFrom 0 = .ok (.iload_n 1, 1) := by decide +kernel
theorem dX5_movedFrom_1 : decode cX5_movedFrom 1 = .ok (.invokestatic 32, 3) := by decide +kernel
theorem dX5_movedFrom_4 : decode cX5_movedFrom 4 = .ok (.iload_n 2, 1) := by decide +kernel
theorem dX5_movedFrom_5 : decode cX5_movedFrom 5 = .ok (.iadd, 1) := by decide +kernel
theorem dX5_movedFrom_6 : decode cX5_movedFrom 6 = .ok (.istore 4, 2) := by decide +kernel
theorem dX5_movedFrom_8 : decode cX5_movedFrom 8 = .ok (.iload_n 1, 1) := by decide +kernel
theorem dX5_movedFrom_9 : decode cX5_movedFrom 9 = .ok (.invokestatic 36, 3) := by decide +kernel
theorem dX5_movedFrom_12 : decode cX5_movedFrom 12 = .ok (.iload_n 3, 1) := by decide +kernel
theorem dX5_movedFrom_13 : decode cX5_movedFrom 13 = .ok (.iadd, 1) := by decide +kernel
theorem dX5_movedFrom_14 : decode cX5_movedFrom 14 = .ok (.istore 5, 2) := by decide +kernel
theorem dX5_movedFrom_16 : decode cX5_movedFrom 16 = .ok (.aload_n 0, 1) := by decide +kernel
theorem dX5_movedFrom_17 : decode cX5_movedFrom 17 = .ok (.iload 4, 2) := by decide +kernel
theorem dX5_movedFrom_19 : decode cX5_movedFrom 19 = .ok (.iload 5, 2) := by decide +kernel
theorem dX5_movedFrom_21 : decode cX5_movedFrom 21 = .ok (.invokevirtual 39, 3) := by decide +kernel
theorem dX5_movedFrom_24 : decode cX5_movedFrom 24 = .ok (.ifCond .eq 13, 3) := by decide +kernel
theorem dX5_movedFrom_27 : decode cX5_movedFrom 27 = .ok (.iload 4, 2) := by decide +kernel
theorem dX5_movedFrom_29 : decode cX5_movedFrom 29 = .ok (.iload 5, 2) := by decide +kernel
theorem dX5_movedFrom_31 : decode cX5_movedFrom 31 = .ok (.invokestatic 43, 3) := by decide +kernel
theorem dX5_movedFrom_34 : decode cX5_movedFrom 34 = .ok (.goto 4, 3) := by decide +kernel
theorem dX5_movedFrom_37 : decode cX5_movedFrom 37 = .ok (.iload_n 1, 1) := by decide +kernel
theorem dX5_movedFrom_38 : decode cX5_movedFrom 38 = .ok (.ireturn, 1) := by decide +kernel
theorem dX5_countClosed_0 : decode cX5_countClosed 0 = .ok (.iconst 0, 1) := by decide +kernel
theorem dX5_countClosed_1 : decode cX5_countClosed 1 = .ok (.istore_n 1, 1) := by decide +kernel
theorem dX5_countClosed_2 : decode cX5_countClosed 2 = .ok (.iconst 0, 1) := by decide +kernel
theorem dX5_countClosed_3 : decode cX5_countClosed 3 = .ok (.istore_n 2, 1) := by decide +kernel
theorem dX5_countClosed_4 : decode cX5_countClosed 4 = .ok (.iload_n 2, 1) := by decide +kernel
theorem dX5_countClosed_5 : decode cX5_countClosed 5 = .ok (.sipush 576, 3) := by decide +kernel
theorem dX5_countClosed_8 : decode cX5_countClosed 8 = .ok (.if_icmp .ge 22, 3) := by decide +kernel
theorem dX5_countClosed_11 : decode cX5_countClosed 11 = .ok (.aload_n 0, 1) := by decide +kernel
theorem dX5_countClosed_12 : decode cX5_countClosed 12 = .ok (.getfield 18, 3) := by decide +kernel
theorem dX5_countClosed_15 : decode cX5_countClosed 15 = .ok (.iload_n 2, 1) := by decide +kernel
theorem dX5_countClosed_16 : decode cX5_countClosed 16 = .ok (.iaload, 1) := by decide +kernel
theorem dX5_countClosed_17 : decode cX5_countClosed 17 = .ok (.iconst 2, 1) := by decide +kernel
theorem dX5_countClosed_18 : decode cX5_countClosed 18 = .ok (.if_icmp .ne 6, 3) := by decide +kernel
theorem dX5_countClosed_21 : decode cX5_countClosed 21 = .ok (.iinc 1 1, 3) := by decide +kernel
theorem dX5_countClosed_24 : decode cX5_countClosed 24 = .ok (.iinc 2 1, 3) := by decide +kernel
theorem dX5_countClosed_27 : decode cX5_countClosed 27 = .ok (.goto (-23), 3) := by decide +kernel
theorem dX5_countClosed_30 : decode cX5_countClosed 30 = .ok (.iload_n 1, 1) := by decide +kernel
theorem dX5_countClosed_31 : decode cX5_countClosed 31 = .ok (.ireturn, 1) := by decide +kernel
set_option maxRecDepth 20000 in
theorem ggX6_init_X1_init : GoodIn wsX6_init wsX1_init := goodIn_r _ [15, 16, 2, 3] (by decide +kernel) (by decide +kernel)
set_option maxRecDepth 20000 in
theorem gX6_init_X1_init_n36 : GoodIn wsX6_init (wsX1_init) := ggX6_init_X1_init
theorem dX6_init_0 : decode cX6_init 0 = .ok (.aload_n 0, 1) := by decide +kernel
theorem dX6_init_1 : decode cX6_init 1 = .ok (.invokespecial 3, 3) := by decide +kernel
theorem dX6_init_4 : decode cX6_init 4 = .ok (.aload_n 0, 1) := by decide +kernel
theorem dX6_init_5 : decode cX6_init 5 = .ok (.bipush 7, 2) := by decide +kernel
theorem dX6_init_7 : decode cX6_init 7 = .ok (.anewarray 9, 3) := by decide +kernel
theorem dX6_init_10 : decode cX6_init 10 = .ok (.putfield 11, 3) := by decide +kernel
theorem dX6_init_13 : decode cX6_init 13 = .ok (.aload_n 0, 1) := by decide +kernel
theorem dX6_init_14 : decode cX6_init 14 = .ok (.bipush 6, 2) := by decide +kernel
theorem dX6_init_16 : decode cX6_init 16 = .ok (.newarray .int, 2) := by decide +kernel
theorem dX6_init_18 : decode cX6_init 18 = .ok (.putfield 17, 3) := by decide +kernel
theorem dX6_init_21 : decode cX6_init 21 = .ok (.aload_n 0, 1) := by decide +kernel
theorem dX6_init_22 : decode cX6_init 22 = .ok (.bipush 6, 2) := by decide +kernel
theorem dX6_init_24 : decode cX6_init 24 = .ok (.newarray .int, 2) := by decide +kernel
theorem dX6_init_26 : decode cX6_init 26 = .ok (.putfield 21, 3) := by decide +kernel
theorem dX6_init_29 : decode cX6_init 29 = .ok (.aload_n 0, 1) := by decide +kernel
theorem dX6_init_30 : decode cX6_init 30 = .ok (.iconst 0, 1) := by decide +kernel
theorem dX6_init_31 : decode cX6_init 31 = .ok (.putfield 24, 3) := by decide +kernel
theorem dX6_init_34 : decode cX6_init 34 = .ok (.aload_n 0, 1) := by decide +kernel
theorem dX6_init_35 : decode cX6_init 35 = .ok (.aload_n 1, 1) := by decide +kernel
theorem dX6_init_36 : decode cX6_init 36 = .ok (.putfield 28, 3) := by decide +kernel
theorem dX6_init_39 : decode cX6_init 39 = .ok (.aload_n 0, 1) := by decide +kernel
theorem dX6_init_40 : decode cX6_init 40 = .ok (.aload_n 2, 1) := by decide +kernel
theorem dX6_init_41 : decode cX6_init 41 = .ok (.putfield 32, 3) := by decide +kernel
theorem dX6_init_44 : decode cX6_init 44 = .ok (.iconst 0, 1) := by decide +kernel
theorem dX6_init_45 : decode cX6_init 45 = .ok (.istore_n 3, 1) := by decide +kernel
theorem dX6_init_46 : decode cX6_init 46 = .ok (.iload_n 3, 1) := by decide +kernel
theorem dX6_init_47 : decode cX6_init 47 = .ok (.bipush 6, 2) := by decide +kernel
theorem dX6_init_49 : decode cX6_init 49 = .ok (.if_icmp .gt 22, 3) := by decide +kernel
theorem dX6_init_52 : decode cX6_init 52 = .ok (.aload_n 0, 1) := by decide +kernel
theorem dX6_init_53 : decode cX6_init 53 = .ok (.getfield 11, 3) := by decide +kernel
theorem dX6_init_56 : decode cX6_init 56 = .ok (.iload_n 3, 1) := by decide +kernel
theorem dX6_init_57 : decode cX6_init 57 = .ok (.new 9, 3) := by decide +kernel
theorem dX6_init_60 : decode cX6_init 60 = .ok (.dup, 1) := by decide +kernel
theorem dX6_init_61 : decode cX6_init 61 = .ok (.invokespecial 36, 3) := by decide +kernel
theorem dX6_init_64 : decode cX6_init 64 = .ok (.aastore, 1) := by decide +kernel
theorem dX6_init_65 : decode cX6_init 65 = .ok (.iinc 3 1, 3) := by decide +kernel
theorem dX6_init_68 : decode cX6_init 68 = .ok (.goto (-22), 3) := by decide +kernel
theorem dX6_init_71 : decode cX6_init 71 = .ok (.return_, 1) := by decide +kernel
set_option maxRecDepth 20000 in
theorem ggX6_best_X1_copyOf : GoodIn wsX6_best wsX1_copyOf := goodIn_r _ [11, 12, 13, 14, 15, 16, 17, 18, 19, 118, 119, 120, 121, 122, 123, 124, 125] (by decide +kernel) (by decide +kernel)
set_option maxRecDepth 20000 in
theorem gX6_best_X1_copyOf : GoodIn wsX6_best (wsV RX6 53 RX1 yX1_copyOf wsX1_copyOf) := goodIn_app (goodIn_of _ (by decide +kernel)) ggX6_best_X1_copyOf
set_option maxRecDepth 20000 in
theorem ggX6_best_X6_tryFrom : GoodIn wsX6_best wsX6_tryFrom := goodIn_r _ [24, 1, 6, 25, 2, 26, 27, 28, 29, 30, 31, 32, 23, 33, 34, 3, 4, 5, 35, 36, 37, 38, 39, 40, 41, 42, 43, 44, 45, 7, 8, 9, 10, 11, 12, 13, 14, 15, 16, 17, 18, 19, 46, 47, 48, 49, 50, 51, 52, 53, 54, 55, 56, 57, 58, 59, 60, 61, 62, 63, 64, 65, 66, 67, 68, 69, 70, 71, 72, 73, 74, 75, 76, 77, 78, 79, 80, 81, 82, 83, 84, 85, 86, 87, 88, 89, 90, 91, 92, 93, 94, 95, 96, 97, 98, 99, 100, 101, 102, 103, 104, 105, 106, 20, 21, 22, 107, 108, 109, 110, 111, 112, 113, 114, 115, 116, 117, 118, 119, 120, 121, 122, 123, 124, 125, 126, 127, 128, 129, 130, 131, 132, 133, 134, 135] (by decide +kernel) (by decide +kernel)
set_option maxRecDepth 20000 in
theorem gX6_best_X6_tryFrom : GoodIn wsX6_best (wsV RX6 57 RX6 yX6_tryFrom wsX6_tryFrom) := goodIn_app (goodIn_of _ (by decide +kernel)) ggX6_best_X6_tryFrom
theorem dX6_best_0 : decode cX6_best 0 = .ok (.aload_n 0, 1) := by decide +kernel
theorem dX6_best_1 : decode cX6_best 1 = .ok (.iload_n 2, 1) := by decide +kernel
theorem dX6_best_2 : decode cX6_best 2 = .ok (.putfield 37, 3) := by decide +kernel
theorem dX6_best_5 : decode cX6_best 5 = .ok (.aload_n 0, 1) := by decide +kernel
theorem dX6_best_6 : decode cX6_best 6 = .ok (.iload_n 3, 1) := by decide +kernel
theorem dX6_best_7 : decode cX6_best 7 = .ok (.putfield 40, 3) := by decide +kernel
theorem dX6_best_10 : decode cX6_best 10 = .ok (.aload_n 0, 1) := by decide +kernel
theorem dX6_best_11 : decode cX6_best 11 = .ok (.iload 4, 2) := by decide +kernel
theorem dX6_best_13 : decode cX6_best 13 = .ok (.putfield 43, 3) := by decide +kernel
theorem dX6_best_16 : decode cX6_best 16 = .ok (.aload_n 0, 1) := by decide +kernel
theorem dX6_best_17 : decode cX6_best 17 = .ok (.iload 5, 2) := by decide +kernel
theorem dX6_best_19 : decode cX6_best 19 = .ok (.putfield 46, 3) := by decide +kernel
theorem dX6_best_22 : decode cX6_best 22 = .ok (.aload_n 0, 1) := by decide +kernel
theorem dX6_best_23 : decode cX6_best 23 = .ok (.iconst (-1), 1) := by decide +kernel
theorem dX6_best_24 : decode cX6_best 24 = .ok (.putfield 50, 3) := by decide +kernel
theorem dX6_best_27 : decode cX6_best 27 = .ok (.aload_n 0, 1) := by decide +kernel
theorem dX6_best_28 : decode cX6_best 28 = .ok (.getfield 11, 3) := by decide +kernel
theorem dX6_best_31 : decode cX6_best 31 = .ok (.iconst 0, 1) := by decide +kernel
theorem dX6_best_32 : decode cX6_best 32 = .ok (.aaload, 1) := by decide +kernel
theorem dX6_best_33 : decode cX6_best 33 = .ok (.aload_n 1, 1) := by decide +kernel
theorem dX6_best_34 : decode cX6_best 34 = .ok (.invokevirtual 53, 3) := by decide +kernel
theorem dX6_best_37 : decode cX6_best 37 = .ok (.aload_n 0, 1) := by decide +kernel
theorem dX6_best_38 : decode cX6_best 38 = .ok (.iconst 0, 1) := by decide +kernel
theorem dX6_best_39 : decode cX6_best 39 = .ok (.invokevirtual 57, 3) := by decide +kernel
theorem dX6_best_42 : decode cX6_best 42 = .ok (.aload_n 0, 1) := by decide +kernel
theorem dX6_best_43 : decode cX6_best 43 = .ok (.getfield 50, 3) := by decide +kernel
theorem dX6_best_46 : decode cX6_best 46 = .ok (.ireturn, 1) := by decide +kernel
set_option maxRecDepth 20000 in
theorem ggX6_tryFrom_X6_weigh : GoodIn wsX6_tryFrom wsX6_weigh := goodIn_r _ [13, 2, 14, 15, 16, 17, 1, 18, 19, 8, 20, 21, 22, 23, 24, 25, 26, 27, 28, 106, 107, 108, 109, 110, 111, 112, 113, 114, 115, 116, 117, 118, 119, 120, 121, 122, 123, 124] (by decide +kernel) (by decide +kernel)
set_option maxRecDepth 20000 in
theorem gX6_tryFrom_X6_weigh : GoodIn wsX6_tryFrom (wsV RX6 64 RX6 yX6_weigh wsX6_weigh) := goodIn_app (goodIn_of _ (by decide +kernel)) ggX6_tryFrom_X6_weigh
set_option maxRecDepth 20000 in
theorem ggX6_tryFrom_X1_copyOf : GoodIn wsX6_tryFrom wsX1_copyOf := goodIn_r _ [33, 34, 35, 36, 37, 38, 39, 40, 41, 117, 118, 119, 120, 121, 122, 123, 124] (by decide +kernel) (by decide +kernel)
set_option maxRecDepth 20000 in
theorem gX6_tryFrom_X1_copyOf : GoodIn wsX6_tryFrom (wsV RX6 53 RX1 yX1_copyOf wsX1_copyOf) := goodIn_app (goodIn_of _ (by decide +kernel)) ggX6_tryFrom_X1_copyOf
set_option maxRecDepth 20000 in
theorem ggX6_tryFrom_X1_pass : GoodIn wsX6_tryFrom wsX1_pass := goodIn_r _ [45, 46, 35, 41, 34, 36, 47, 48, 49, 32, 50, 39, 51, 52, 53, 54, 38, 55, 56, 57, 58, 59, 60, 37, 61, 62, 63, 64, 65, 66, 67, 68, 69, 70, 71, 72, 73, 74, 75, 40, 76, 77, 78, 79, 80, 81, 82, 83, 84, 85, 86, 87, 24, 21, 25, 27, 28, 88, 89, 90, 91, 92, 93, 94, 95, 96, 97, 125, 126, 127, 128, 129, 117, 118, 119, 120, 121, 122, 123, 124, 130, 131, 132, 133, 134] (by decide +kernel) (by decide +kernel)
set_option maxRecDepth 20000 in
theorem gX6_tryFrom_X1_pass : GoodIn wsX6_tryFrom (wsV RX6 73 RX1 yX1_pass wsX1_pass) := goodIn_app (goodIn_of _ (by decide +kernel)) ggX6_tryFrom_X1_pass
set_option maxRecDepth 20000 in
theorem ggX6_tryFrom_X6_mayBe : GoodIn wsX6_tryFrom wsX6_mayBe := goodIn_r _ [101, 7, 102, 14, 3, 106, 107, 108, 109, 110, 111, 112, 113, 114, 115, 116, 132, 133, 134, 117, 118, 119, 120, 121, 122, 123, 124] (by decide +kernel) (by decide +kernel)
set_option maxRecDepth 20000 in
theorem gX6_tryFrom_X6_mayBe : GoodIn wsX6_tryFrom (wsV RX6 77 RX6 yX6_mayBe wsX6_mayBe) := goodIn_app (goodIn_of _ (by decide +kernel)) ggX6_tryFrom_X6_mayBe
end
section
set_option maxRecDepth 20000 in
theorem ggX6_tryFrom_X6_tryFrom : GoodIn wsX6_tryFrom wsX6_tryFrom := goodIn_r _ [0, 1, 2, 3, 4, 5, 6, 7, 8, 9, 10, 11, 12, 13, 14, 15, 16, 17, 18, 19, 20, 21, 22, 23, 24, 25, 26, 27, 28, 29, 30, 31, 32, 33, 34, 35, 36, 37, 38, 39, 40, 41, 42, 43, 44, 45, 46, 47, 48, 49, 50, 51, 52, 53, 54, 55, 56, 57, 58, 59, 60, 61, 62, 63, 64, 65, 66, 67, 68, 69, 70, 71, 72, 73, 74, 75, 76, 77, 78, 79, 80, 81, 82, 83, 84, 85, 86, 87, 88, 89, 90, 91, 92, 93, 94, 95, 96, 97, 98, 99, 100, 101, 102, 103, 104, 105, 106, 107, 108, 109, 110, 111, 112, 113, 114, 115, 116, 117, 118, 119, 120, 121, 122, 123, 124, 125, 126, 127, 128, 129, 130, 131, 132, 133, 134] (by decide +kernel) (by decide +kernel)
set_option maxRecDepth 20000 in
theorem gX6_tryFrom_X6_tryFrom : GoodIn wsX6_tryFrom (wsV RX6 57 RX6 yX6_tryFrom wsX6_tryFrom) := goodIn_app (goodIn_of _ (by decide +kernel)) ggX6_tryFrom_X6_tryFrom
theorem dX6_tryFrom_0 : decode cX6_tryFrom 0 = .ok (.iload_n 1, 1) := by decide +kernel
theorem dX6_tryFrom_1 : decode cX6_tryFrom 1 = .ok (.aload_n 0, 1) := by decide +kernel
theorem dX6_tryFrom_2 : decode cX6_tryFrom 2 = .ok (.getfield 37, 3) := by decide +kernel
theorem dX6_tryFrom_5 : decode cX6_tryFrom 5 = .ok (.if_icmp .ge 21, 3) := by decide +kernel
theorem dX6_tryFrom_8 : decode cX6_tryFrom 8 = .ok (.iload_n 1, 1) := by decide +kernel
theorem dX6_tryFrom_9 : decode cX6_tryFrom 9 = .ok (.bipush 6, 2) := by decide +kernel
theorem dX6_tryFrom_11 : decode cX6_tryFrom 11 = .ok (.if_icmp .ge 15, 3) := by decide +kernel
theorem dX6_tryFrom_14 : decode cX6_tryFrom 14 = .ok (.aload_n 0, 1) := by decide +kernel
theorem dX6_tryFrom_15 : decode cX6_tryFrom 15 = .ok (.getfield 11, 3) := by decide +kernel
theorem dX6_tryFrom_18 : decode cX6_tryFrom 18 = .ok (.iload_n 1, 1) := by decide +kernel
theorem dX6_tryFrom_19 : decode cX6_tryFrom 19 = .ok (.aaload, 1) := by decide +kernel
theorem dX6_tryFrom_20 : decode cX6_tryFrom 20 = .ok (.getfield 61, 3) := by decide +kernel
theorem dX6_tryFrom_23 : decode cX6_tryFrom 23 = .ok (.ifCond .eq 9, 3) := by decide +kernel
theorem dX6_tryFrom_26 : decode cX6_tryFrom 26 = .ok (.aload_n 0, 1) := by decide +kernel
theorem dX6_tryFrom_27 : decode cX6_tryFrom 27 = .ok (.iload_n 1, 1) := by decide +kernel
theorem dX6_tryFrom_28 : decode cX6_tryFrom 28 = .ok (.invokevirtual 64, 3) := by decide +kernel
theorem dX6_tryFrom_31 : decode cX6_tryFrom 31 = .ok (.return_, 1) := by decide +kernel
theorem dX6_tryFrom_32 : decode cX6_tryFrom 32 = .ok (.aload_n 0, 1) := by decide +kernel
theorem dX6_tryFrom_33 : decode cX6_tryFrom 33 = .ok (.getfield 11, 3) := by decide +kernel
theorem dX6_tryFrom_36 : decode cX6_tryFrom 36 = .ok (.iload_n 1, 1) := by decide +kernel
theorem dX6_tryFrom_37 : decode cX6_tryFrom 37 = .ok (.iconst 1, 1) := by decide +kernel
theorem dX6_tryFrom_38 : decode cX6_tryFrom 38 = .ok (.iadd, 1) := by decide +kernel
theorem dX6_tryFrom_39 : decode cX6_tryFrom 39 = .ok (.aaload, 1) := by decide +kernel
theorem dX6_tryFrom_40 : decode cX6_tryFrom 40 = .ok (.astore_n 2, 1) := by decide +kernel
theorem dX6_tryFrom_41 : decode cX6_tryFrom 41 = .ok (.iconst 0, 1) := by decide +kernel
theorem dX6_tryFrom_42 : decode cX6_tryFrom 42 = .ok (.istore_n 3, 1) := by decide +kernel
theorem dX6_tryFrom_43 : decode cX6_tryFrom 43 = .ok (.iload_n 3, 1) := by decide +kernel
theorem dX6_tryFrom_44 : decode cX6_tryFrom 44 = .ok (.iconst 3, 1) := by decide +kernel
theorem dX6_tryFrom_45 : decode cX6_tryFrom 45 = .ok (.if_icmp .ge 65, 3) := by decide +kernel
theorem dX6_tryFrom_48 : decode cX6_tryFrom 48 = .ok (.aload_n 2, 1) := by decide +kernel
theorem dX6_tryFrom_49 : decode cX6_tryFrom 49 = .ok (.aload_n 0, 1) := by decide +kernel
theorem dX6_tryFrom_50 : decode cX6_tryFrom 50 = .ok (.getfield 11, 3) := by decide +kernel
theorem dX6_tryFrom_53 : decode cX6_tryFrom 53 = .ok (.iload_n 1, 1) := by decide +kernel
theorem dX6_tryFrom_54 : decode cX6_tryFrom 54 = .ok (.aaload, 1) := by decide +kernel
theorem dX6_tryFrom_55 : decode cX6_tryFrom 55 = .ok (.invokevirtual 53, 3) := by decide +kernel
theorem dX6_tryFrom_58 : decode cX6_tryFrom 58 = .ok (.aload_n 2, 1) := by decide +kernel
theorem dX6_tryFrom_59 : decode cX6_tryFrom 59 = .ok (.iload_n 3, 1) := by decide +kernel
theorem dX6_tryFrom_60 : decode cX6_tryFrom 60 = .ok (.aload_n 0, 1) := by decide +kernel
theorem dX6_tryFrom_61 : decode cX6_tryFrom 61 = .ok (.getfield 40, 3) := by decide +kernel
theorem dX6_tryFrom_64 : decode cX6_tryFrom 64 = .ok (.aload_n 0, 1) := by decide +kernel
theorem dX6_tryFrom_65 : decode cX6_tryFrom 65 = .ok (.getfield 32, 3) := by decide +kernel
theorem dX6_tryFrom_68 : decode cX6_tryFrom 68 = .ok (.aload_n 0, 1) := by decide +kernel
theorem dX6_tryFrom_69 : decode cX6_tryFrom 69 = .ok (.getfield 32, 3) := by decide +kernel
theorem dX6_tryFrom_72 : decode cX6_tryFrom 72 = .ok (.getfield 67, 3) := by decide +kernel
theorem dX6_tryFrom_75 : decode cX6_tryFrom 75 = .ok (.aload_n 0, 1) := by decide +kernel
theorem dX6_tryFrom_76 : decode cX6_tryFrom 76 = .ok (.getfield 28, 3) := by decide +kernel
theorem dX6_tryFrom_79 : decode cX6_tryFrom 79 = .ok (.invokevirtual 73, 3) := by decide +kernel
theorem dX6_tryFrom_82 : decode cX6_tryFrom 82 = .ok (.aload_n 0, 1) := by decide +kernel
theorem dX6_tryFrom_83 : decode cX6_tryFrom 83 = .ok (.aload_n 2, 1) := by decide +kernel
theorem dX6_tryFrom_84 : decode cX6_tryFrom 84 = .ok (.invokevirtual 77, 3) := by decide +kernel
theorem dX6_tryFrom_87 : decode cX6_tryFrom 87 = .ok (.ifCond .eq 17, 3) := by decide +kernel
theorem dX6_tryFrom_90 : decode cX6_tryFrom 90 = .ok (.aload_n 0, 1) := by decide +kernel
theorem dX6_tryFrom_91 : decode cX6_tryFrom 91 = .ok (.getfield 17, 3) := by decide +kernel
theorem dX6_tryFrom_94 : decode cX6_tryFrom 94 = .ok (.iload_n 1, 1) := by decide +kernel
theorem dX6_tryFrom_95 : decode cX6_tryFrom 95 = .ok (.iload_n 3, 1) := by decide +kernel
theorem dX6_tryFrom_96 : decode cX6_tryFrom 96 = .ok (.iastore, 1) := by decide +kernel
theorem dX6_tryFrom_97 : decode cX6_tryFrom 97 = .ok (.aload_n 0, 1) := by decide +kernel
theorem dX6_tryFrom_98 : decode cX6_tryFrom 98 = .ok (.iload_n 1, 1) := by decide +kernel
theorem dX6_tryFrom_99 : decode cX6_tryFrom 99 = .ok (.iconst 1, 1) := by decide +kernel
theorem dX6_tryFrom_100 : decode cX6_tryFrom 100 = .ok (.iadd, 1) := by decide +kernel
theorem dX6_tryFrom_101 : decode cX6_tryFrom 101 = .ok (.invokevirtual 57, 3) := by decide +kernel
theorem dX6_tryFrom_104 : decode cX6_tryFrom 104 = .ok (.iinc 3 1, 3) := by decide +kernel
theorem dX6_tryFrom_107 : decode cX6_tryFrom 107 = .ok (.goto (-64), 3) := by decide +kernel
theorem dX6_tryFrom_110 : decode cX6_tryFrom 110 = .ok (.return_, 1) := by decide +kernel
theorem dX6_mayBe_0 : decode cX6_mayBe 0 = .ok (.aload_n 0, 1) := by decide +kernel
theorem dX6_mayBe_1 : decode cX6_mayBe 1 = .ok (.getfield 28, 3) := by decide +kernel
theorem dX6_mayBe_4 : decode cX6_mayBe 4 = .ok (.getfield 81, 3) := by decide +kernel
theorem dX6_mayBe_7 : decode cX6_mayBe 7 = .ok (.aload_n 1, 1) := by decide +kernel
theorem dX6_mayBe_8 : decode cX6_mayBe 8 = .ok (.getfield 86, 3) := by decide +kernel
theorem dX6_mayBe_11 : decode cX6_mayBe 11 = .ok (.iaload, 1) := by decide +kernel
theorem dX6_mayBe_12 : decode cX6_mayBe 12 = .ok (.istore_n 2, 1) := by decide +kernel
theorem dX6_mayBe_13 : decode cX6_mayBe 13 = .ok (.iload_n 2, 1) := by decide +kernel
theorem dX6_mayBe_14 : decode cX6_mayBe 14 = .ok (.iconst 2, 1) := by decide +kernel
theorem dX6_mayBe_15 : decode cX6_mayBe 15 = .ok (.if_icmp .eq 19, 3) := by decide +kernel
theorem dX6_mayBe_18 : decode cX6_mayBe 18 = .ok (.aload_n 1, 1) := by decide +kernel
theorem dX6_mayBe_19 : decode cX6_mayBe 19 = .ok (.getfield 61, 3) := by decide +kernel
theorem dX6_mayBe_22 : decode cX6_mayBe 22 = .ok (.ifCond .eq 8, 3) := by decide +kernel
theorem dX6_mayBe_25 : decode cX6_mayBe 25 = .ok (.iload_n 2, 1) := by decide +kernel
theorem dX6_mayBe_26 : decode cX6_mayBe 26 = .ok (.iconst 1, 1) := by decide +kernel
theorem dX6_mayBe_27 : decode cX6_mayBe 27 = .ok (.if_icmp .eq 7, 3) := by decide +kernel
theorem dX6_mayBe_30 : decode cX6_mayBe 30 = .ok (.iconst 1, 1) := by decide +kernel
theorem dX6_mayBe_31 : decode cX6_mayBe 31 = .ok (.goto 4, 3) := by decide +kernel
theorem dX6_mayBe_34 : decode cX6_mayBe 34 = .ok (.iconst 0, 1) := by decide +kernel
theorem dX6_mayBe_35 : decode cX6_mayBe 35 = .ok (.ireturn, 1) := by decide +kernel
set_option maxRecDepth 20000 in
theorem ggX6_weigh_X9_squareBetween : GoodIn wsX6_weigh wsX9_squareBetween := goodIn_r _ [12, 13, 14, 11, 15, 16, 17, 18] (by decide +kernel) (by decide +kernel)
set_option maxRecDepth 20000 in
theorem gX6_weigh_X9_squareBetween_n89 : GoodIn wsX6_weigh (wsX9_squareBetween) := ggX6_weigh_X9_squareBetween
theorem dX6_weigh_0 : decode cX6_weigh 0 = .ok (.aload_n 0, 1) := by decide +kernel
theorem dX6_weigh_1 : decode cX6_weigh 1 = .ok (.getfield 11, 3) := by decide +kernel
theorem dX6_weigh_4 : decode cX6_weigh 4 = .ok (.iload_n 1, 1) := by decide +kernel
theorem dX6_weigh_5 : decode cX6_weigh 5 = .ok (.aaload, 1) := by decide +kernel
theorem dX6_weigh_6 : decode cX6_weigh 6 = .ok (.getfield 86, 3) := by decide +kernel
theorem dX6_weigh_9 : decode cX6_weigh 9 = .ok (.aload_n 0, 1) := by decide +kernel
theorem dX6_weigh_10 : decode cX6_weigh 10 = .ok (.getfield 43, 3) := by decide +kernel
theorem dX6_weigh_13 : decode cX6_weigh 13 = .ok (.invokestatic 89, 3) := by decide +kernel
theorem dX6_weigh_16 : decode cX6_weigh 16 = .ok (.istore_n 2, 1) := by decide +kernel
theorem dX6_weigh_17 : decode cX6_weigh 17 = .ok (.aload_n 0, 1) := by decide +kernel
theorem dX6_weigh_18 : decode cX6_weigh 18 = .ok (.getfield 46, 3) := by decide +kernel
theorem dX6_weigh_21 : decode cX6_weigh 21 = .ok (.ifCond .eq 19, 3) := by decide +kernel
theorem dX6_weigh_24 : decode cX6_weigh 24 = .ok (.iload_n 2, 1) := by decide +kernel
theorem dX6_weigh_25 : decode cX6_weigh 25 = .ok (.aload_n 0, 1) := by decide +kernel
theorem dX6_weigh_26 : decode cX6_weigh 26 = .ok (.getfield 50, 3) := by decide +kernel
theorem dX6_weigh_29 : decode cX6_weigh 29 = .ok (.if_icmp .ge 7, 3) := by decide +kernel
theorem dX6_weigh_32 : decode cX6_weigh 32 = .ok (.iconst 1, 1) := by decide +kernel
theorem dX6_weigh_33 : decode cX6_weigh 33 = .ok (.goto 20, 3) := by decide +kernel
theorem dX6_weigh_36 : decode cX6_weigh 36 = .ok (.iconst 0, 1) := by decide +kernel
theorem dX6_weigh_37 : decode cX6_weigh 37 = .ok (.goto 16, 3) := by decide +kernel
theorem dX6_weigh_40 : decode cX6_weigh 40 = .ok (.iload_n 2, 1) := by decide +kernel
theorem dX6_weigh_41 : decode cX6_weigh 41 = .ok (.aload_n 0, 1) := by decide +kernel
theorem dX6_weigh_42 : decode cX6_weigh 42 = .ok (.getfield 50, 3) := by decide +kernel
theorem dX6_weigh_45 : decode cX6_weigh 45 = .ok (.if_icmp .le 7, 3) := by decide +kernel
theorem dX6_weigh_48 : decode cX6_weigh 48 = .ok (.iconst 1, 1) := by decide +kernel
theorem dX6_weigh_49 : decode cX6_weigh 49 = .ok (.goto 4, 3) := by decide +kernel
theorem dX6_weigh_52 : decode cX6_weigh 52 = .ok (.iconst 0, 1) := by decide +kernel
theorem dX6_weigh_53 : decode cX6_weigh 53 = .ok (.istore_n 3, 1) := by decide +kernel
theorem dX6_weigh_54 : decode cX6_weigh 54 = .ok (.aload_n 0, 1) := by decide +kernel
theorem dX6_weigh_55 : decode cX6_weigh 55 = .ok (.getfield 50, 3) := by decide +kernel
theorem dX6_weigh_58 : decode cX6_weigh 58 = .ok (.iconst (-1), 1) := by decide +kernel
theorem dX6_weigh_59 : decode cX6_weigh 59 = .ok (.if_icmp .eq 8, 3) := by decide +kernel
theorem dX6_weigh_62 : decode cX6_weigh 62 = .ok (.iload_n 3, 1) := by decide +kernel
theorem dX6_weigh_63 : decode cX6_weigh 63 = .ok (.ifCond .ne 4, 3) := by decide +kernel
theorem dX6_weigh_66 : decode cX6_weigh 66 = .ok (.return_, 1) := by decide +kernel
theorem dX6_weigh_67 : decode cX6_weigh 67 = .ok (.aload_n 0, 1) := by decide +kernel
theorem dX6_weigh_68 : decode cX6_weigh 68 = .ok (.iload_n 2, 1) := by decide +kernel
theorem dX6_weigh_69 : decode cX6_weigh 69 = .ok (.putfield 50, 3) := by decide +kernel
theorem dX6_weigh_72 : decode cX6_weigh 72 = .ok (.aload_n 0, 1) := by decide +kernel
theorem dX6_weigh_73 : decode cX6_weigh 73 = .ok (.aload_n 0, 1) := by decide +kernel
theorem dX6_weigh_74 : decode cX6_weigh 74 = .ok (.getfield 37, 3) := by decide +kernel
theorem dX6_weigh_77 : decode cX6_weigh 77 = .ok (.putfield 24, 3) := by decide +kernel
theorem dX6_weigh_80 : decode cX6_weigh 80 = .ok (.iconst 0, 1) := by decide +kernel
theorem dX6_weigh_81 : decode cX6_weigh 81 = .ok (.istore 4, 2) := by decide +kernel
theorem dX6_weigh_83 : decode cX6_weigh 83 = .ok (.iload 4, 2) := by decide +kernel
theorem dX6_weigh_85 : decode cX6_weigh 85 = .ok (.aload_n 0, 1) := by decide +kernel
theorem dX6_weigh_86 : decode cX6_weigh 86 = .ok (.getfield 37, 3) := by decide +kernel
theorem dX6_weigh_89 : decode cX6_weigh 89 = .ok (.if_icmp .ge 33, 3) := by decide +kernel
theorem dX6_weigh_92 : decode cX6_weigh 92 = .ok (.aload_n 0, 1) := by decide +kernel
theorem dX6_weigh_93 : decode cX6_weigh 93 = .ok (.getfield 21, 3) := by decide +kernel
theorem dX6_weigh_96 : decode cX6_weigh 96 = .ok (.iload 4, 2) := by decide +kernel
theorem dX6_weigh_98 : decode cX6_weigh 98 = .ok (.iload 4, 2) := by decide +kernel
theorem dX6_weigh_100 : decode cX6_weigh 100 = .ok (.iload_n 1, 1) := by decide +kernel
theorem dX6_weigh_101 : decode cX6_weigh 101 = .ok (.if_icmp .ge 13, 3) := by decide +kernel
theorem dX6_weigh_104 : decode cX6_weigh 104 = .ok (.aload_n 0, 1) := by decide +kernel
theorem dX6_weigh_105 : decode cX6_weigh 105 = .ok (.getfield 17, 3) := by decide +kernel
theorem dX6_weigh_108 : decode cX6_weigh 108 = .ok (.iload 4, 2) := by decide +kernel
theorem dX6_weigh_110 : decode cX6_weigh 110 = .ok (.iaload, 1) := by decide +kernel
theorem dX6_weigh_111 : decode cX6_weigh 111 = .ok (.goto 4, 3) := by decide +kernel
theorem dX6_weigh_114 : decode cX6_weigh 114 = .ok (.iconst 0, 1) := by decide +kernel
theorem dX6_weigh_115 : decode cX6_weigh 115 = .ok (.iastore, 1) := by decide +kernel
theorem dX6_weigh_116 : decode cX6_weigh 116 = .ok (.iinc 4 1, 3) := by decide +kernel
theorem dX6_weigh_119 : decode cX6_weigh 119 = .ok (.goto (-36), 3) := by decide +kernel
theorem dX6_weigh_122 : decode cX6_weigh 122 = .ok (.return_, 1) := by decide +kernel
set_option maxRecDepth 20000 in
theorem ggX7_init_X4_init : GoodIn wsX7_init wsX4_init := goodIn_r _ [12, 13, 2, 3, 14, 15, 16, 17, 18, 19, 20, 21, 22] (by decide +kernel) (by decide +kernel)
set_option maxRecDepth 20000 in
theorem gX7_init_X4_init_n11 : GoodIn wsX7_init (wsX4_init) := ggX7_init_X4_init
theorem dX7_init_0 : decode cX7_init 0 = .ok (.aload_n 0, 1) := by decide +kernel
theorem dX7_init_1 : decode cX7_init 1 = .ok (.invokespecial 3, 3) := by decide +kernel
theorem dX7_init_4 : decode cX7_init 4 = .ok (.aload_n 0, 1) := by decide +kernel
theorem dX7_init_5 : decode cX7_init 5 = .ok (.new 9, 3) := by decide +kernel
theorem dX7_init_8 : decode cX7_init 8 = .ok (.dup, 1) := by decide +kernel
theorem dX7_init_9 : decode cX7_init 9 = .ok (.invokespecial 11, 3) := by decide +kernel
theorem dX7_init_12 : decode cX7_init 12 = .ok (.putfield 12, 3) := by decide +kernel
theorem dX7_init_15 : decode cX7_init 15 = .ok (.aload_n 0, 1) := by decide +kernel
theorem dX7_init_16 : decode cX7_init 16 = .ok (.new 9, 3) := by decide +kernel
theorem dX7_init_19 : decode cX7_init 19 = .ok (.dup, 1) := by decide +kernel
theorem dX7_init_20 : decode cX7_init 20 = .ok (.invokespecial 11, 3) := by decide +kernel
theorem dX7_init_23 : decode cX7_init 23 = .ok (.putfield 18, 3) := by decide +kernel
theorem dX7_init_26 : decode cX7_init 26 = .ok (.aload_n 0, 1) := by decide +kernel
theorem dX7_init_27 : decode cX7_init 27 = .ok (.aload_n 1, 1) := by decide +kernel
theorem dX7_init_28 : decode cX7_init 28 = .ok (.putfield 21, 3) := by decide +kernel
theorem dX7_init_31 : decode cX7_init 31 = .ok (.aload_n 0, 1) := by decide +kernel
theorem dX7_init_32 : decode cX7_init 32 = .ok (.aload_n 2, 1) := by decide +kernel
theorem dX7_init_33 : decode cX7_init 33 = .ok (.putfield 25, 3) := by decide +kernel
theorem dX7_init_36 : decode cX7_init 36 = .ok (.return_, 1) := by decide +kernel
set_option maxRecDepth 20000 in
theorem ggX7_follow_X4_clear : GoodIn wsX7_follow wsX4_clear := goodIn_r _ [11, 12, 13, 14, 15, 95, 96, 97, 98] (by decide +kernel) (by decide +kernel)
set_option maxRecDepth 20000 in
theorem gX7_follow_X4_clear : GoodIn wsX7_follow (wsV RX7 29 RX4 yX4_clear wsX4_clear) := goodIn_app (goodIn_of _ (by decide +kernel)) ggX7_follow_X4_clear
set_option maxRecDepth 20000 in
theorem ggX7_follow_X7_enter : GoodIn wsX7_follow wsX7_enter := goodIn_r _ [20, 21, 22, 23, 24, 25, 26, 27, 28, 10, 29, 13, 15, 12, 14, 30, 31, 32, 33, 34, 82, 83, 84, 85, 86, 87, 99, 100, 101, 95, 96, 97, 98] (by decide +kernel) (by decide +kernel)
set_option maxRecDepth 20000 in
theorem gX7_follow_X7_enter : GoodIn wsX7_follow (wsV RX7 38 RX7 yX7_enter wsX7_enter) := goodIn_app (goodIn_of _ (by decide +kernel)) ggX7_follow_X7_enter
set_option maxRecDepth 20000 in
theorem ggX7_follow_X7_spread : GoodIn wsX7_follow wsX7_spread := goodIn_r _ [38, 39, 40, 32, 33, 34, 41, 21, 42, 2, 4, 1, 43, 44, 45, 24, 46, 23, 25, 47, 48, 49, 50, 51, 52, 53, 54, 55, 56, 57, 58, 59, 60, 61, 62, 63, 64, 65, 66, 67, 68, 69, 70, 71, 72, 73, 74, 16, 17, 18, 19, 20, 22, 26, 27, 28, 10, 29, 13, 15, 12, 14, 30, 31, 88, 89, 90, 91, 92, 93, 94, 82, 83, 84, 85, 86, 87, 95, 96, 97, 98, 102, 103, 99, 100, 101] (by decide +kernel) (by decide +kernel)
set_option maxRecDepth 20000 in
theorem gX7_follow_X7_spread : GoodIn wsX7_follow (wsV RX7 50 RX7 yX7_spread wsX7_spread) := goodIn_app (goodIn_of _ (by decide +kernel)) ggX7_follow_X7_spread
set_option maxRecDepth 20000 in
theorem ggX7_follow_X7_sumUp : GoodIn wsX7_follow wsX7_sumUp := goodIn_r _ [78, 79, 80, 1, 5, 81, 43, 6, 40, 32, 33, 34, 44, 82, 83, 84, 85, 86, 87, 95, 96, 97, 98] (by decide +kernel) (by decide +kernel)
set_option maxRecDepth 20000 in
theorem gX7_follow_X7_sumUp : GoodIn wsX7_follow (wsV RX7 54 RX7 yX7_sumUp wsX7_sumUp) := goodIn_app (goodIn_of _ (by decide +kernel)) ggX7_follow_X7_sumUp
theorem dX7_follow_0 : decode cX7_follow 0 = .ok (.aload_n 0, 1) := by decide +kernel
theorem dX7_follow_1 : decode cX7_follow 1 = .ok (.getfield 12, 3) := by decide +kernel
theorem dX7_follow_4 : decode cX7_follow 4 = .ok (.invokevirtual 29, 3) := by decide +kernel
theorem dX7_follow_7 : decode cX7_follow 7 = .ok (.aload_n 0, 1) := by decide +kernel
theorem dX7_follow_8 : decode cX7_follow 8 = .ok (.aload_n 0, 1) := by decide +kernel
theorem dX7_follow_9 : decode cX7_follow 9 = .ok (.getfield 12, 3) := by decide +kernel
theorem dX7_follow_12 : decode cX7_follow 12 = .ok (.aload_n 1, 1) := by decide +kernel
theorem dX7_follow_13 : decode cX7_follow 13 = .ok (.getfield 32, 3) := by decide +kernel
theorem dX7_follow_16 : decode cX7_follow 16 = .ok (.iconst 0, 1) := by decide +kernel
theorem dX7_follow_17 : decode cX7_follow 17 = .ok (.iaload, 1) := by decide +kernel
theorem dX7_follow_18 : decode cX7_follow 18 = .ok (.iconst 1, 1) := by decide +kernel
theorem dX7_follow_19 : decode cX7_follow 19 = .ok (.iconst 0, 1) := by decide +kernel
theorem dX7_follow_20 : decode cX7_follow 20 = .ok (.invokevirtual 38, 3) := by decide +kernel
theorem dX7_follow_23 : decode cX7_follow 23 = .ok (.iconst 1, 1) := by decide +kernel
theorem dX7_follow_24 : decode cX7_follow 24 = .ok (.istore_n 2, 1) := by decide +kernel
theorem dX7_follow_25 : decode cX7_follow 25 = .ok (.iload_n 2, 1) := by decide +kernel
theorem dX7_follow_26 : decode cX7_follow 26 = .ok (.aload_n 1, 1) := by decide +kernel
theorem dX7_follow_27 : decode cX7_follow 27 = .ok (.getfield 42, 3) := by decide +kernel
theorem dX7_follow_30 : decode cX7_follow 30 = .ok (.if_icmp .ge 68, 3) := by decide +kernel
theorem dX7_follow_33 : decode cX7_follow 33 = .ok (.aload_n 0, 1) := by decide +kernel
theorem dX7_follow_34 : decode cX7_follow 34 = .ok (.getfield 18, 3) := by decide +kernel
theorem dX7_follow_37 : decode cX7_follow 37 = .ok (.invokevirtual 29, 3) := by decide +kernel
theorem dX7_follow_40 : decode cX7_follow 40 = .ok (.iconst 0, 1) := by decide +kernel
theorem dX7_follow_41 : decode cX7_follow 41 = .ok (.istore_n 3, 1) := by decide +kernel
theorem dX7_follow_42 : decode cX7_follow 42 = .ok (.iload_n 3, 1) := by decide +kernel
theorem dX7_follow_43 : decode cX7_follow 43 = .ok (.aload_n 0, 1) := by decide +kernel
theorem dX7_follow_44 : decode cX7_follow 44 = .ok (.getfield 12, 3) := by decide +kernel
theorem dX7_follow_47 : decode cX7_follow 47 = .ok (.getfield 46, 3) := by decide +kernel
theorem dX7_follow_50 : decode cX7_follow 50 = .ok (.if_icmp .ge 24, 3) := by decide +kernel
theorem dX7_follow_53 : decode cX7_follow 53 = .ok (.aload_n 0, 1) := by decide +kernel
theorem dX7_follow_54 : decode cX7_follow 54 = .ok (.aload_n 0, 1) := by decide +kernel
theorem dX7_follow_55 : decode cX7_follow 55 = .ok (.getfield 12, 3) := by decide +kernel
theorem dX7_follow_58 : decode cX7_follow 58 = .ok (.getfield 49, 3) := by decide +kernel
theorem dX7_follow_61 : decode cX7_follow 61 = .ok (.iload_n 3, 1) := by decide +kernel
theorem dX7_follow_62 : decode cX7_follow 62 = .ok (.iaload, 1) := by decide +kernel
theorem dX7_follow_63 : decode cX7_follow 63 = .ok (.aload_n 1, 1) := by decide +kernel
theorem dX7_follow_64 : decode cX7_follow 64 = .ok (.iload_n 2, 1) := by decide +kernel
theorem dX7_follow_65 : decode cX7_follow 65 = .ok (.invokevirtual 50, 3) := by decide +kernel
theorem dX7_follow_68 : decode cX7_follow 68 = .ok (.iinc 3 1, 3) := by decide +kernel
theorem dX7_follow_71 : decode cX7_follow 71 = .ok (.goto (-29), 3) := by decide +kernel
theorem dX7_follow_74 : decode cX7_follow 74 = .ok (.aload_n 0, 1) := by decide +kernel
theorem dX7_follow_75 : decode cX7_follow 75 = .ok (.getfield 12, 3) := by decide +kernel
theorem dX7_follow_78 : decode cX7_follow 78 = .ok (.astore_n 3, 1) := by decide +kernel
theorem dX7_follow_79 : decode cX7_follow 79 = .ok (.aload_n 0, 1) := by decide +kernel
theorem dX7_follow_80 : decode cX7_follow 80 = .ok (.aload_n 0, 1) := by decide +kernel
theorem dX7_follow_81 : decode cX7_follow 81 = .ok (.getfield 18, 3) := by decide +kernel
theorem dX7_follow_84 : decode cX7_follow 84 = .ok (.putfield 12, 3) := by decide +kernel
theorem dX7_follow_87 : decode cX7_follow 87 = .ok (.aload_n 0, 1) := by decide +kernel
theorem dX7_follow_88 : decode cX7_follow 88 = .ok (.aload_n 3, 1) := by decide +kernel
theorem dX7_follow_89 : decode cX7_follow 89 = .ok (.putfield 18, 3) := by decide +kernel
theorem dX7_follow_92 : decode cX7_follow 92 = .ok (.iinc 2 1, 3) := by decide +kernel
theorem dX7_follow_95 : decode cX7_follow 95 = .ok (.goto (-70), 3) := by decide +kernel
theorem dX7_follow_98 : decode cX7_follow 98 = .ok (.aload_n 0, 1) := by decide +kernel
theorem dX7_follow_99 : decode cX7_follow 99 = .ok (.invokevirtual 54, 3) := by decide +kernel
theorem dX7_follow_102 : decode cX7_follow 102 = .ok (.return_, 1) := by decide +kernel
set_option maxRecDepth 20000 in
theorem ggX7_spread_X9_levelOfPlace : GoodIn wsX7_spread wsX9_levelOfPlace := goodIn_r _ [16] (by decide +kernel) (by decide +kernel)
set_option maxRecDepth 20000 in
theorem gX7_spread_X9_levelOfPlace_n57 : GoodIn wsX7_spread (wsX9_levelOfPlace) := ggX7_spread_X9_levelOfPlace
set_option maxRecDepth 20000 in
theorem ggX7_spread_X9_cellOfPlace : GoodIn wsX7_spread wsX9_cellOfPlace := goodIn_r _ [18] (by decide +kernel) (by decide +kernel)
set_option maxRecDepth 20000 in
theorem gX7_spread_X9_cellOfPlace_n61 : GoodIn wsX7_spread (wsX9_cellOfPlace) := ggX7_spread_X9_cellOfPlace
set_option maxRecDepth 20000 in
theorem ggX7_spread_X8_leadFrom : GoodIn wsX7_spread wsX8_leadFrom := goodIn_r _ [23, 24, 25, 26, 27, 28, 29, 30, 31, 15, 32, 33, 34, 35, 36, 37, 38, 39, 40, 41, 42, 43, 44, 81, 82, 83, 84, 85] (by decide +kernel) (by decide +kernel)
set_option maxRecDepth 20000 in
theorem gX7_spread_X8_leadFrom : GoodIn wsX7_spread (wsV RX7 73 RX8 yX8_leadFrom wsX8_leadFrom) := goodIn_app (goodIn_of _ (by decide +kernel)) ggX7_spread_X8_leadFrom
set_option maxRecDepth 20000 in
theorem ggX7_spread_X9_placeOf : GoodIn wsX7_spread wsX9_placeOf := goodIn_r _ [46] (by decide +kernel) (by decide +kernel)
set_option maxRecDepth 20000 in
theorem gX7_spread_X9_placeOf_n79 : GoodIn wsX7_spread (wsX9_placeOf) := ggX7_spread_X9_placeOf
set_option maxRecDepth 20000 in
theorem ggX7_spread_X7_enter : GoodIn wsX7_spread wsX7_enter := goodIn_r _ [51, 7, 52, 17, 15, 18, 53, 54, 55, 56, 57, 58, 59, 60, 61, 62, 63, 3, 4, 5, 71, 72, 73, 74, 75, 76, 83, 84, 85, 77, 78, 79, 80] (by decide +kernel) (by decide +kernel)
set_option maxRecDepth 20000 in
theorem gX7_spread_X7_enter : GoodIn wsX7_spread (wsV RX7 38 RX7 yX7_enter wsX7_enter) := goodIn_app (goodIn_of _ (by decide +kernel)) ggX7_spread_X7_enter
theorem dX7_spread_0 : decode cX7_spread 0 = .ok (.iload_n 1, 1) := by decide +kernel
theorem dX7_spread_1 : decode cX7_spread 1 = .ok (.invokestatic 57, 3) := by decide +kernel
theorem dX7_spread_4 : decode cX7_spread 4 = .ok (.istore 4, 2) := by decide +kernel
theorem dX7_spread_6 : decode cX7_spread 6 = .ok (.iload 4, 2) := by decide +kernel
theorem dX7_spread_8 : decode cX7_spread 8 = .ok (.ifCond .ne 4, 3) := by decide +kernel
theorem dX7_spread_11 : decode cX7_spread 11 = .ok (.return_, 1) := by decide +kernel
theorem dX7_spread_12 : decode cX7_spread 12 = .ok (.iload_n 1, 1) := by decide +kernel
theorem dX7_spread_13 : decode cX7_spread 13 = .ok (.invokestatic 61, 3) := by decide +kernel
theorem dX7_spread_16 : decode cX7_spread 16 = .ok (.istore 5, 2) := by decide +kernel
theorem dX7_spread_18 : decode cX7_spread 18 = .ok (.aload_n 2, 1) := by decide +kernel
theorem dX7_spread_19 : decode cX7_spread 19 = .ok (.getfield 64, 3) := by decide +kernel
theorem dX7_spread_22 : decode cX7_spread 22 = .ok (.iload_n 3, 1) := by decide +kernel
theorem dX7_spread_23 : decode cX7_spread 23 = .ok (.iadd, 1) := by decide +kernel
theorem dX7_spread_24 : decode cX7_spread 24 = .ok (.iconst 1, 1) := by decide +kernel
theorem dX7_spread_25 : decode cX7_spread 25 = .ok (.isub, 1) := by decide +kernel
theorem dX7_spread_26 : decode cX7_spread 26 = .ok (.bipush 24, 2) := by decide +kernel
theorem dX7_spread_28 : decode cX7_spread 28 = .ok (.irem, 1) := by decide +kernel
theorem dX7_spread_29 : decode cX7_spread 29 = .ok (.istore 6, 2) := by decide +kernel
theorem dX7_spread_31 : decode cX7_spread 31 = .ok (.iload 4, 2) := by decide +kernel
theorem dX7_spread_33 : decode cX7_spread 33 = .ok (.iconst 1, 1) := by decide +kernel
theorem dX7_spread_34 : decode cX7_spread 34 = .ok (.iadd, 1) := by decide +kernel
theorem dX7_spread_35 : decode cX7_spread 35 = .ok (.bipush 7, 2) := by decide +kernel
theorem dX7_spread_37 : decode cX7_spread 37 = .ok (.invokestatic 67, 3) := by decide +kernel
theorem dX7_spread_40 : decode cX7_spread 40 = .ok (.istore 7, 2) := by decide +kernel
theorem dX7_spread_42 : decode cX7_spread 42 = .ok (.iload 4, 2) := by decide +kernel
theorem dX7_spread_44 : decode cX7_spread 44 = .ok (.iconst 1, 1) := by decide +kernel
theorem dX7_spread_45 : decode cX7_spread 45 = .ok (.isub, 1) := by decide +kernel
theorem dX7_spread_46 : decode cX7_spread 46 = .ok (.istore 8, 2) := by decide +kernel
theorem dX7_spread_48 : decode cX7_spread 48 = .ok (.iload 8, 2) := by decide +kernel
theorem dX7_spread_50 : decode cX7_spread 50 = .ok (.iload 7, 2) := by decide +kernel
theorem dX7_spread_52 : decode cX7_spread 52 = .ok (.if_icmp .gt 91, 3) := by decide +kernel
theorem dX7_spread_55 : decode cX7_spread 55 = .ok (.iload 8, 2) := by decide +kernel
theorem dX7_spread_57 : decode cX7_spread 57 = .ok (.ifCond .ne 8, 3) := by decide +kernel
theorem dX7_spread_60 : decode cX7_spread 60 = .ok (.iload 5, 2) := by decide +kernel
theorem dX7_spread_62 : decode cX7_spread 62 = .ok (.goto 20, 3) := by decide +kernel
theorem dX7_spread_65 : decode cX7_spread 65 = .ok (.aload_n 0, 1) := by decide +kernel
theorem dX7_spread_66 : decode cX7_spread 66 = .ok (.getfield 25, 3) := by decide +kernel
theorem dX7_spread_69 : decode cX7_spread 69 = .ok (.iload 5, 2) := by decide +kernel
theorem dX7_spread_71 : decode cX7_spread 71 = .ok (.iload 8, 2) := by decide +kernel
theorem dX7_spread_73 : decode cX7_spread 73 = .ok (.iload 6, 2) := by decide +kernel
theorem dX7_spread_75 : decode cX7_spread 75 = .ok (.aload_n 0, 1) := by decide +kernel
theorem dX7_spread_76 : decode cX7_spread 76 = .ok (.getfield 21, 3) := by decide +kernel
theorem dX7_spread_79 : decode cX7_spread 79 = .ok (.invokevirtual 73, 3) := by decide +kernel
theorem dX7_spread_82 : decode cX7_spread 82 = .ok (.iload 8, 2) := by decide +kernel
theorem dX7_spread_84 : decode cX7_spread 84 = .ok (.invokestatic 79, 3) := by decide +kernel
theorem dX7_spread_87 : decode cX7_spread 87 = .ok (.istore 9, 2) := by decide +kernel
theorem dX7_spread_89 : decode cX7_spread 89 = .ok (.aload_n 2, 1) := by decide +kernel
theorem dX7_spread_90 : decode cX7_spread 90 = .ok (.getfield 82, 3) := by decide +kernel
theorem dX7_spread_93 : decode cX7_spread 93 = .ok (.iload_n 3, 1) := by decide +kernel
theorem dX7_spread_94 : decode cX7_spread 94 = .ok (.baload, 1) := by decide +kernel
theorem dX7_spread_95 : decode cX7_spread 95 = .ok (.ifCond .ne 14, 3) := by decide +kernel
theorem dX7_spread_98 : decode cX7_spread 98 = .ok (.aload_n 2, 1) := by decide +kernel
theorem dX7_spread_99 : decode cX7_spread 99 = .ok (.getfield 32, 3) := by decide +kernel
theorem dX7_spread_102 : decode cX7_spread 102 = .ok (.iload_n 3, 1) := by decide +kernel
theorem dX7_spread_103 : decode cX7_spread 103 = .ok (.iaload, 1) := by decide +kernel
theorem dX7_spread_104 : decode cX7_spread 104 = .ok (.iload 9, 2) := by decide +kernel
theorem dX7_spread_106 : decode cX7_spread 106 = .ok (.if_icmp .ne 31, 3) := by decide +kernel
theorem dX7_spread_109 : decode cX7_spread 109 = .ok (.aload_n 0, 1) := by decide +kernel
theorem dX7_spread_110 : decode cX7_spread 110 = .ok (.aload_n 0, 1) := by decide +kernel
theorem dX7_spread_111 : decode cX7_spread 111 = .ok (.getfield 18, 3) := by decide +kernel
theorem dX7_spread_114 : decode cX7_spread 114 = .ok (.iload 9, 2) := by decide +kernel
theorem dX7_spread_116 : decode cX7_spread 116 = .ok (.aload_n 0, 1) := by decide +kernel
theorem dX7_spread_117 : decode cX7_spread 117 = .ok (.getfield 12, 3) := by decide +kernel
theorem dX7_spread_120 : decode cX7_spread 120 = .ok (.getfield 86, 3) := by decide +kernel
theorem dX7_spread_123 : decode cX7_spread 123 = .ok (.iload_n 1, 1) := by decide +kernel
theorem dX7_spread_124 : decode cX7_spread 124 = .ok (.iaload, 1) := by decide +kernel
theorem dX7_spread_125 : decode cX7_spread 125 = .ok (.aload_n 0, 1) := by decide +kernel
theorem dX7_spread_126 : decode cX7_spread 126 = .ok (.getfield 12, 3) := by decide +kernel
theorem dX7_spread_129 : decode cX7_spread 129 = .ok (.getfield 89, 3) := by decide +kernel
theorem dX7_spread_132 : decode cX7_spread 132 = .ok (.iload_n 1, 1) := by decide +kernel
theorem dX7_spread_133 : decode cX7_spread 133 = .ok (.iaload, 1) := by decide +kernel
theorem dX7_spread_134 : decode cX7_spread 134 = .ok (.invokevirtual 38, 3) := by decide +kernel
theorem dX7_spread_137 : decode cX7_spread 137 = .ok (.iinc 8 1, 3) := by decide +kernel
theorem dX7_spread_140 : decode cX7_spread 140 = .ok (.goto (-92), 3) := by decide +kernel
theorem dX7_spread_143 : decode cX7_spread 143 = .ok (.return_, 1) := by decide +kernel
set_option maxRecDepth 20000 in
theorem ggX7_enter_X9_cellOfPlace : GoodIn wsX7_enter wsX9_cellOfPlace := goodIn_r _ [5] (by decide +kernel) (by decide +kernel)
set_option maxRecDepth 20000 in
theorem gX7_enter_X9_cellOfPlace_n61 : GoodIn wsX7_enter (wsX9_cellOfPlace) := ggX7_enter_X9_cellOfPlace
set_option maxRecDepth 20000 in
theorem ggX7_enter_X4_add : GoodIn wsX7_enter wsX4_add := goodIn_r _ [10, 11, 12, 13, 14, 15, 16, 17, 18, 19, 29, 30, 31, 32] (by decide +kernel) (by decide +kernel)
set_option maxRecDepth 20000 in
theorem gX7_enter_X4_add : GoodIn wsX7_enter (wsV RX7 97 RX4 yX4_add wsX4_add) := goodIn_app (goodIn_of _ (by decide +kernel)) ggX7_enter_X4_add
theorem dX7_enter_0 : decode cX7_enter 0 = .ok (.aload_n 0, 1) := by decide +kernel
theorem dX7_enter_1 : decode cX7_enter 1 = .ok (.getfield 21, 3) := by decide +kernel
theorem dX7_enter_4 : decode cX7_enter 4 = .ok (.getfield 92, 3) := by decide +kernel
theorem dX7_enter_7 : decode cX7_enter 7 = .ok (.iload_n 2, 1) := by decide +kernel
theorem dX7_enter_8 : decode cX7_enter 8 = .ok (.invokestatic 61, 3) := by decide +kernel
theorem dX7_enter_11 : decode cX7_enter 11 = .ok (.iaload, 1) := by decide +kernel
theorem dX7_enter_12 : decode cX7_enter 12 = .ok (.iconst 2, 1) := by decide +kernel
theorem dX7_enter_13 : decode cX7_enter 13 = .ok (.if_icmp .ne 16, 3) := by decide +kernel
theorem dX7_enter_16 : decode cX7_enter 16 = .ok (.aload_n 1, 1) := by decide +kernel
theorem dX7_enter_17 : decode cX7_enter 17 = .ok (.iload_n 2, 1) := by decide +kernel
theorem dX7_enter_18 : decode cX7_enter 18 = .ok (.iconst 0, 1) := by decide +kernel
theorem dX7_enter_19 : decode cX7_enter 19 = .ok (.iload_n 3, 1) := by decide +kernel
theorem dX7_enter_20 : decode cX7_enter 20 = .ok (.iload 4, 2) := by decide +kernel
theorem dX7_enter_22 : decode cX7_enter 22 = .ok (.iadd, 1) := by decide +kernel
theorem dX7_enter_23 : decode cX7_enter 23 = .ok (.invokevirtual 97, 3) := by decide +kernel
theorem dX7_enter_26 : decode cX7_enter 26 = .ok (.goto 11, 3) := by decide +kernel
theorem dX7_enter_29 : decode cX7_enter 29 = .ok (.aload_n 1, 1) := by decide +kernel
theorem dX7_enter_30 : decode cX7_enter 30 = .ok (.iload_n 2, 1) := by decide +kernel
theorem dX7_enter_31 : decode cX7_enter 31 = .ok (.iload_n 3, 1) := by decide +kernel
theorem dX7_enter_32 : decode cX7_enter 32 = .ok (.iload 4, 2) := by decide +kernel
theorem dX7_enter_34 : decode cX7_enter 34 = .ok (.invokevirtual 97, 3) := by decide +kernel
theorem dX7_enter_37 : decode cX7_enter 37 = .ok (.return_, 1) := by decide +kernel
theorem dX7_sumUp_0 : decode cX7_sumUp 0 = .ok (.aload_n 0, 1) := by decide +kernel
theorem dX7_sumUp_1 : decode cX7_sumUp 1 = .ok (.iconst 0, 1) := by decide +kernel
theorem dX7_sumUp_2 : decode cX7_sumUp 2 = .ok (.putfield 101, 3) := by decide +kernel
theorem dX7_sumUp_5 : decode cX7_sumUp 5 = .ok (.aload_n 0, 1) := by decide +kernel
theorem dX7_sumUp_6 : decode cX7_sumUp 6 = .ok (.iconst 0, 1) := by decide +kernel
theorem dX7_sumUp_7 : decode cX7_sumUp 7 = .ok (.putfield 103, 3) := by decide +kernel
theorem dX7_sumUp_10 : decode cX7_sumUp 10 = .ok (.iconst 0, 1) := by decide +kernel
theorem dX7_sumUp_11 : decode cX7_sumUp 11 = .ok (.istore_n 1, 1) := by decide +kernel
theorem dX7_sumUp_12 : decode cX7_sumUp 12 = .ok (.iload_n 1, 1) := by decide +kernel
theorem dX7_sumUp_13 : decode cX7_sumUp 13 = .ok (.aload_n 0, 1) := by decide +kernel
theorem dX7_sumUp_14 : decode cX7_sumUp 14 = .ok (.getfield 12, 3) := by decide +kernel
theorem dX7_sumUp_17 : decode cX7_sumUp 17 = .ok (.getfield 46, 3) := by decide +kernel
theorem dX7_sumUp_20 : decode cX7_sumUp 20 = .ok (.if_icmp .ge 71, 3) := by decide +kernel
theorem dX7_sumUp_23 : decode cX7_sumUp 23 = .ok (.aload_n 0, 1) := by decide +kernel
theorem dX7_sumUp_24 : decode cX7_sumUp 24 = .ok (.ldc 105, 2) := by decide +kernel
theorem dX7_sumUp_26 : decode cX7_sumUp 26 = .ok (.aload_n 0, 1) := by decide +kernel
theorem dX7_sumUp_27 : decode cX7_sumUp 27 = .ok (.getfield 101, 3) := by decide +kernel
theorem dX7_sumUp_30 : decode cX7_sumUp 30 = .ok (.aload_n 0, 1) := by decide +kernel
theorem dX7_sumUp_31 : decode cX7_sumUp 31 = .ok (.getfield 12, 3) := by decide +kernel
theorem dX7_sumUp_34 : decode cX7_sumUp 34 = .ok (.getfield 86, 3) := by decide +kernel
theorem dX7_sumUp_37 : decode cX7_sumUp 37 = .ok (.aload_n 0, 1) := by decide +kernel
theorem dX7_sumUp_38 : decode cX7_sumUp 38 = .ok (.getfield 12, 3) := by decide +kernel
theorem dX7_sumUp_41 : decode cX7_sumUp 41 = .ok (.getfield 49, 3) := by decide +kernel
theorem dX7_sumUp_44 : decode cX7_sumUp 44 = .ok (.iload_n 1, 1) := by decide +kernel
theorem dX7_sumUp_45 : decode cX7_sumUp 45 = .ok (.iaload, 1) := by decide +kernel
theorem dX7_sumUp_46 : decode cX7_sumUp 46 = .ok (.iaload, 1) := by decide +kernel
theorem dX7_sumUp_47 : decode cX7_sumUp 47 = .ok (.iadd, 1) := by decide +kernel
theorem dX7_sumUp_48 : decode cX7_sumUp 48 = .ok (.invokestatic 67, 3) := by decide +kernel
theorem dX7_sumUp_51 : decode cX7_sumUp 51 = .ok (.putfield 101, 3) := by decide +kernel
theorem dX7_sumUp_54 : decode cX7_sumUp 54 = .ok (.aload_n 0, 1) := by decide +kernel
theorem dX7_sumUp_55 : decode cX7_sumUp 55 = .ok (.ldc 105, 2) := by decide +kernel
theorem dX7_sumUp_57 : decode cX7_sumUp 57 = .ok (.aload_n 0, 1) := by decide +kernel
theorem dX7_sumUp_58 : decode cX7_sumUp 58 = .ok (.getfield 103, 3) := by decide +kernel
theorem dX7_sumUp_61 : decode cX7_sumUp 61 = .ok (.aload_n 0, 1) := by decide +kernel
theorem dX7_sumUp_62 : decode cX7_sumUp 62 = .ok (.getfield 12, 3) := by decide +kernel
theorem dX7_sumUp_65 : decode cX7_sumUp 65 = .ok (.getfield 89, 3) := by decide +kernel
theorem dX7_sumUp_68 : decode cX7_sumUp 68 = .ok (.aload_n 0, 1) := by decide +kernel
theorem dX7_sumUp_69 : decode cX7_sumUp 69 = .ok (.getfield 12, 3) := by decide +kernel
theorem dX7_sumUp_72 : decode cX7_sumUp 72 = .ok (.getfield 49, 3) := by decide +kernel
theorem dX7_sumUp_75 : decode cX7_sumUp 75 = .ok (.iload_n 1, 1) := by decide +kernel
theorem dX7_sumUp_76 : decode cX7_sumUp 76 = .ok (.iaload, 1) := by decide +kernel
theorem dX7_sumUp_77 : decode cX7_sumUp 77 = .ok (.iaload, 1) := by decide +kernel
theorem dX7_sumUp_78 : decode cX7_sumUp 78 = .ok (.iadd, 1) := by decide +kernel
theorem dX7_sumUp_79 : decode cX7_sumUp 79 = .ok (.invokestatic 67, 3) := by decide +kernel
theorem dX7_sumUp_82 : decode cX7_sumUp 82 = .ok (.putfield 103, 3) := by decide +kernel
theorem dX7_sumUp_85 : decode cX7_sumUp 85 = .ok (.iinc 1 1, 3) := by decide +kernel
theorem dX7_sumUp_88 : decode cX7_sumUp 88 = .ok (.goto (-76), 3) := by decide +kernel
theorem dX7_sumUp_91 : decode cX7_sumUp 91 = .ok (.return_, 1) := by decide +kernel
theorem dX7_verdict_0 : decode cX7_verdict 0 = .ok (.aload_n 0, 1) := by decide +kernel
theorem dX7_verdict_1 : decode cX7_verdict 1 = .ok (.getfield 101, 3) := by decide +kernel
theorem dX7_verdict_4 : decode cX7_verdict 4 = .ok (.ifCond .le 12, 3) := by decide +kernel
theorem dX7_verdict_7 : decode cX7_verdict 7 = .ok (.aload_n 0, 1) := by decide +kernel
theorem dX7_verdict_8 : decode cX7_verdict 8 = .ok (.getfield 103, 3) := by decide +kernel
theorem dX7_verdict_11 : decode cX7_verdict 11 = .ok (.ifCond .ne 5, 3) := by decide +kernel
theorem dX7_verdict_14 : decode cX7_verdict 14 = .ok (.iconst 0, 1) := by decide +kernel
theorem dX7_verdict_15 : decode cX7_verdict 15 = .ok (.ireturn, 1) := by decide +kernel
theorem dX7_verdict_16 : decode cX7_verdict 16 = .ok (.aload_n 0, 1) := by decide +kernel
theorem dX7_verdict_17 : decode cX7_verdict 17 = .ok (.getfield 103, 3) := by decide +kernel
theorem dX7_verdict_20 : decode cX7_verdict 20 = .ok (.ifCond .le 14, 3) := by decide +kernel
theorem dX7_verdict_23 : decode cX7_verdict 23 = .ok (.aload_n 0, 1) := by decide +kernel
theorem dX7_verdict_24 : decode cX7_verdict 24 = .ok (.getfield 101, 3) := by decide +kernel
theorem dX7_verdict_27 : decode cX7_verdict 27 = .ok (.ifCond .ne 7, 3) := by decide +kernel
theorem dX7_verdict_30 : decode cX7_verdict 30 = .ok (.iconst 2, 1) := by decide +kernel
theorem dX7_verdict_31 : decode cX7_verdict 31 = .ok (.goto 4, 3) := by decide +kernel
theorem dX7_verdict_34 : decode cX7_verdict 34 = .ok (.iconst 1, 1) := by decide +kernel
theorem dX7_verdict_35 : decode cX7_verdict 35 = .ok (.ireturn, 1) := by decide +kernel
theorem dX8_init_0 : decode cX8_init 0 = .ok (.aload_n 0, 1) := by decide +kernel
theorem dX8_init_1 : decode cX8_init 1 = .ok (.invokespecial 3, 3) := by decide +kernel
theorem dX8_init_4 : decode cX8_init 4 = .ok (.aload_n 0, 1) := by decide +kernel
theorem dX8_init_5 : decode cX8_init 5 = .ok (.sipush 192, 3) := by decide +kernel
theorem dX8_init_8 : decode cX8_init 8 = .ok (.newarray .int, 2) := by decide +kernel
theorem dX8_init_10 : decode cX8_init 10 = .ok (.putfield 9, 3) := by decide +kernel
theorem dX8_init_13 : decode cX8_init 13 = .ok (.aload_n 0, 1) := by decide +kernel
theorem dX8_init_14 : decode cX8_init 14 = .ok (.sipush 192, 3) := by decide +kernel
theorem dX8_init_17 : decode cX8_init 17 = .ok (.newarray .int, 2) := by decide +kernel
theorem dX8_init_19 : decode cX8_init 19 = .ok (.putfield 15, 3) := by decide +kernel
theorem dX8_init_22 : decode cX8_init 22 = .ok (.return_, 1) := by decide +kernel
theorem dX8_put_0 : decode cX8_put 0 = .ok (.aload_n 0, 1) := by decide +kernel
theorem dX8_put_1 : decode cX8_put 1 = .ok (.getfield 9, 3) := by decide +kernel
theorem dX8_put_4 : decode cX8_put 4 = .ok (.iload_n 1, 1) := by decide +kernel
theorem dX8_put_5 : decode cX8_put 5 = .ok (.bipush 24, 2) := by decide +kernel
theorem dX8_put_7 : decode cX8_put 7 = .ok (.imul, 1) := by decide +kernel
theorem dX8_put_8 : decode cX8_put 8 = .ok (.iload_n 2, 1) := by decide +kernel
theorem dX8_put_9 : decode cX8_put 9 = .ok (.iadd, 1) := by decide +kernel
theorem dX8_put_10 : decode cX8_put 10 = .ok (.iload_n 3, 1) := by decide +kernel
theorem dX8_put_11 : decode cX8_put 11 = .ok (.iastore, 1) := by decide +kernel
theorem dX8_put_12 : decode cX8_put 12 = .ok (.aload_n 0, 1) := by decide +kernel
theorem dX8_put_13 : decode cX8_put 13 = .ok (.getfield 15, 3) := by decide +kernel
theorem dX8_put_16 : decode cX8_put 16 = .ok (.iload_n 1, 1) := by decide +kernel
theorem dX8_put_17 : decode cX8_put 17 = .ok (.bipush 24, 2) := by decide +kernel
theorem dX8_put_19 : decode cX8_put 19 = .ok (.imul, 1) := by decide +kernel
theorem dX8_put_20 : decode cX8_put 20 = .ok (.iload_n 2, 1) := by decide +kernel
theorem dX8_put_21 : decode cX8_put 21 = .ok (.iadd, 1) := by decide +kernel
theorem dX8_put_22 : decode cX8_put 22 = .ok (.iload 4, 2) := by decide +kernel
theorem dX8_put_24 : decode cX8_put 24 = .ok (.iastore, 1) := by decide +kernel
theorem dX8_put_25 : decode cX8_put 25 = .ok (.return_, 1) := by decide +kernel
set_option maxRecDepth 20000 in
theorem ggX8_leadFrom_X5_movedFrom : GoodIn wsX8_leadFrom wsX5_movedFrom := goodIn_r _ [7, 8, 9, 10, 11, 12, 13, 14, 15, 6, 16, 17, 18, 19, 20, 21, 22, 25, 26, 27] (by decide +kernel) (by decide +kernel)
set_option maxRecDepth 20000 in
theorem gX8_leadFrom_X5_movedFrom : GoodIn wsX8_leadFrom (wsV RX8 18 RX5 yX5_movedFrom wsX5_movedFrom) := goodIn_app (goodIn_of _ (by decide +kernel)) ggX8_leadFrom_X5_movedFrom
theorem dX8_leadFrom_0 : decode cX8_leadFrom 0 = .ok (.iload_n 2, 1) := by decide +kernel
theorem dX8_leadFrom_1 : decode cX8_leadFrom 1 = .ok (.bipush 24, 2) := by decide +kernel
theorem dX8_leadFrom_3 : decode cX8_leadFrom 3 = .ok (.imul, 1) := by decide +kernel
theorem dX8_leadFrom_4 : decode cX8_leadFrom 4 = .ok (.iload_n 3, 1) := by decide +kernel
theorem dX8_leadFrom_5 : decode cX8_leadFrom 5 = .ok (.iadd, 1) := by decide +kernel
theorem dX8_leadFrom_6 : decode cX8_leadFrom 6 = .ok (.istore 5, 2) := by decide +kernel
theorem dX8_leadFrom_8 : decode cX8_leadFrom 8 = .ok (.aload 4, 2) := by decide +kernel
theorem dX8_leadFrom_10 : decode cX8_leadFrom 10 = .ok (.iload_n 1, 1) := by decide +kernel
theorem dX8_leadFrom_11 : decode cX8_leadFrom 11 = .ok (.aload_n 0, 1) := by decide +kernel
theorem dX8_leadFrom_12 : decode cX8_leadFrom 12 = .ok (.getfield 9, 3) := by decide +kernel
theorem dX8_leadFrom_15 : decode cX8_leadFrom 15 = .ok (.iload 5, 2) := by decide +kernel
theorem dX8_leadFrom_17 : decode cX8_leadFrom 17 = .ok (.iaload, 1) := by decide +kernel
theorem dX8_leadFrom_18 : decode cX8_leadFrom 18 = .ok (.aload_n 0, 1) := by decide +kernel
theorem dX8_leadFrom_19 : decode cX8_leadFrom 19 = .ok (.getfield 15, 3) := by decide +kernel
theorem dX8_leadFrom_22 : decode cX8_leadFrom 22 = .ok (.iload 5, 2) := by decide +kernel
theorem dX8_leadFrom_24 : decode cX8_leadFrom 24 = .ok (.iaload, 1) := by decide +kernel
theorem dX8_leadFrom_25 : decode cX8_leadFrom 25 = .ok (.invokevirtual 18, 3) := by decide +kernel
theorem dX8_leadFrom_28 : decode cX8_leadFrom 28 = .ok (.ireturn, 1) := by decide +kernel
set_option maxRecDepth 20000 in
theorem ggX9_init_X5_init : GoodIn wsX9_init wsX5_init := goodIn_r _ [33, 34, 2, 3, 35, 36, 37, 38, 107, 108, 109] (by decide +kernel) (by decide +kernel)
set_option maxRecDepth 20000 in
theorem gX9_init_X5_init_n11 : GoodIn wsX9_init (wsX5_init) := ggX9_init_X5_init
set_option maxRecDepth 20000 in
theorem ggX9_init_X0_init : GoodIn wsX9_init wsX0_init := goodIn_r _ [41, 42, 2, 3, 37, 43, 44, 45, 46, 47, 48, 49, 50, 51, 52, 53, 54, 55, 118, 119, 120, 121, 122, 153, 154] (by decide +kernel) (by decide +kernel)
set_option maxRecDepth 20000 in
theorem gX9_init_X0_init : GoodIn wsX9_init (wsX0_init) := ggX9_init_X0_init
set_option maxRecDepth 20000 in
theorem ggX9_init_X6_init : GoodIn wsX9_init wsX6_init := goodIn_r _ [58, 59, 2, 3, 60, 61, 37, 62, 63, 64, 65, 66, 67, 68, 69, 70, 71, 123, 124, 125, 126, 127, 128, 129, 130, 131, 132, 133, 155, 156, 157, 158, 159, 160, 161, 162] (by decide +kernel) (by decide +kernel)
set_option maxRecDepth 20000 in
theorem gX9_init_X6_init : GoodIn wsX9_init (wsX6_init) := ggX9_init_X6_init
set_option maxRecDepth 20000 in
theorem ggX9_init_X7_init : GoodIn wsX9_init wsX7_init := goodIn_r _ [74, 75, 2, 3, 76, 77, 78, 79, 80, 81, 82, 83, 84, 85, 37, 86, 87, 88, 89, 163, 164, 165, 166, 134, 135, 136, 137, 138, 139] (by decide +kernel) (by decide +kernel)
set_option maxRecDepth 20000 in
theorem gX9_init_X7_init : GoodIn wsX9_init (wsX7_init) := ggX9_init_X7_init
set_option maxRecDepth 20000 in
theorem ggX9_init_X2_init : GoodIn wsX9_init wsX2_init := goodIn_r _ [92, 93, 2, 3, 37, 94, 95, 96, 97, 98, 99, 140, 141, 142, 143, 144, 145] (by decide +kernel) (by decide +kernel)
set_option maxRecDepth 20000 in
theorem gX9_init_X2_init : GoodIn wsX9_init (wsX2_init) := ggX9_init_X2_init
set_option maxRecDepth 20000 in
theorem ggX9_init_X3_init : GoodIn wsX9_init wsX3_init := goodIn_r _ [101, 102, 2, 3, 103, 67, 68, 104, 37, 105, 14, 106, 69, 70, 71, 155, 156, 157, 158, 159, 160, 161, 162, 146, 147, 148, 149, 150, 151, 152] (by decide +kernel) (by decide +kernel)
set_option maxRecDepth 20000 in
theorem gX9_init_X3_init_n68 : GoodIn wsX9_init (wsX3_init) := ggX9_init_X3_init
theorem dX9_init_0 : decode cX9_init 0 = .ok (.aload_n 0, 1) := by decide +kernel
theorem dX9_init_1 : decode cX9_init 1 = .ok (.invokespecial 3, 3) := by decide +kernel
theorem dX9_init_4 : decode cX9_init 4 = .ok (.aload_n 0, 1) := by decide +kernel
theorem dX9_init_5 : decode cX9_init 5 = .ok (.new 9, 3) := by decide +kernel
theorem dX9_init_8 : decode cX9_init 8 = .ok (.dup, 1) := by decide +kernel
theorem dX9_init_9 : decode cX9_init 9 = .ok (.invokespecial 11, 3) := by decide +kernel
theorem dX9_init_12 : decode cX9_init 12 = .ok (.putfield 12, 3) := by decide +kernel
theorem dX9_init_15 : decode cX9_init 15 = .ok (.aload_n 0, 1) := by decide +kernel
theorem dX9_init_16 : decode cX9_init 16 = .ok (.new 16, 3) := by decide +kernel
theorem dX9_init_19 : decode cX9_init 19 = .ok (.dup, 1) := by decide +kernel
theorem dX9_init_20 : decode cX9_init 20 = .ok (.invokespecial 18, 3) := by decide +kernel
theorem dX9_init_23 : decode cX9_init 23 = .ok (.putfield 19, 3) := by decide +kernel
theorem dX9_init_26 : decode cX9_init 26 = .ok (.aload_n 0, 1) := by decide +kernel
theorem dX9_init_27 : decode cX9_init 27 = .ok (.bipush 8, 2) := by decide +kernel
theorem dX9_init_29 : decode cX9_init 29 = .ok (.anewarray 23, 3) := by decide +kernel
theorem dX9_init_32 : decode cX9_init 32 = .ok (.putfield 25, 3) := by decide +kernel
theorem dX9_init_35 : decode cX9_init 35 = .ok (.aload_n 0, 1) := by decide +kernel
theorem dX9_init_36 : decode cX9_init 36 = .ok (.bipush 8, 2) := by decide +kernel
theorem dX9_init_38 : decode cX9_init 38 = .ok (.newarray .boolean, 2) := by decide +kernel
theorem dX9_init_40 : decode cX9_init 40 = .ok (.putfield 29, 3) := by decide +kernel
theorem dX9_init_43 : decode cX9_init 43 = .ok (.aload_n 0, 1) := by decide +kernel
theorem dX9_init_44 : decode cX9_init 44 = .ok (.iconst 0, 1) := by decide +kernel
theorem dX9_init_45 : decode cX9_init 45 = .ok (.putfield 33, 3) := by decide +kernel
theorem dX9_init_48 : decode cX9_init 48 = .ok (.aload_n 0, 1) := by decide +kernel
theorem dX9_init_49 : decode cX9_init 49 = .ok (.new 37, 3) := by decide +kernel
theorem dX9_init_52 : decode cX9_init 52 = .ok (.dup, 1) := by decide +kernel
theorem dX9_init_53 : decode cX9_init 53 = .ok (.aload_n 0, 1) := by decide +kernel
theorem dX9_init_54 : decode cX9_init 54 = .ok (.getfield 12, 3) := by decide +kernel
theorem dX9_init_57 : decode cX9_init 57 = .ok (.aload_n 0, 1) := by decide +kernel
theorem dX9_init_58 : decode cX9_init 58 = .ok (.getfield 19, 3) := by decide +kernel
theorem dX9_init_61 : decode cX9_init 61 = .ok (.invokespecial 39, 3) := by decide +kernel
theorem dX9_init_64 : decode cX9_init 64 = .ok (.putfield 42, 3) := by decide +kernel
theorem dX9_init_67 : decode cX9_init 67 = .ok (.aload_n 0, 1) := by decide +kernel
theorem dX9_init_68 : decode cX9_init 68 = .ok (.new 46, 3) := by decide +kernel
theorem dX9_init_71 : decode cX9_init 71 = .ok (.dup, 1) := by decide +kernel
theorem dX9_init_72 : decode cX9_init 72 = .ok (.aload_n 0, 1) := by decide +kernel
theorem dX9_init_73 : decode cX9_init 73 = .ok (.getfield 12, 3) := by decide +kernel
theorem dX9_init_76 : decode cX9_init 76 = .ok (.aload_n 0, 1) := by decide +kernel
theorem dX9_init_77 : decode cX9_init 77 = .ok (.getfield 19, 3) := by decide +kernel
theorem dX9_init_80 : decode cX9_init 80 = .ok (.getfield 48, 3) := by decide +kernel
theorem dX9_init_83 : decode cX9_init 83 = .ok (.invokespecial 52, 3) := by decide +kernel
theorem dX9_init_86 : decode cX9_init 86 = .ok (.putfield 55, 3) := by decide +kernel
theorem dX9_init_89 : decode cX9_init 89 = .ok (.aload_n 0, 1) := by decide +kernel
theorem dX9_init_90 : decode cX9_init 90 = .ok (.new 59, 3) := by decide +kernel
theorem dX9_init_93 : decode cX9_init 93 = .ok (.dup, 1) := by decide +kernel
theorem dX9_init_94 : decode cX9_init 94 = .ok (.aload_n 0, 1) := by decide +kernel
theorem dX9_init_95 : decode cX9_init 95 = .ok (.getfield 12, 3) := by decide +kernel
theorem dX9_init_98 : decode cX9_init 98 = .ok (.invokespecial 61, 3) := by decide +kernel
theorem dX9_init_101 : decode cX9_init 101 = .ok (.putfield 64, 3) := by decide +kernel
theorem dX9_init_104 : decode cX9_init 104 = .ok (.iconst 0, 1) := by decide +kernel
theorem dX9_init_105 : decode cX9_init 105 = .ok (.istore_n 1, 1) := by decide +kernel
theorem dX9_init_106 : decode cX9_init 106 = .ok (.iload_n 1, 1) := by decide +kernel
theorem dX9_init_107 : decode cX9_init 107 = .ok (.bipush 8, 2) := by decide +kernel
theorem dX9_init_109 : decode cX9_init 109 = .ok (.if_icmp .ge 22, 3) := by decide +kernel
theorem dX9_init_112 : decode cX9_init 112 = .ok (.aload_n 0, 1) := by decide +kernel
theorem dX9_init_113 : decode cX9_init 113 = .ok (.getfield 25, 3) := by decide +kernel
theorem dX9_init_116 : decode cX9_init 116 = .ok (.iload_n 1, 1) := by decide +kernel
theorem dX9_init_117 : decode cX9_init 117 = .ok (.new 23, 3) := by decide +kernel
theorem dX9_init_120 : decode cX9_init 120 = .ok (.dup, 1) := by decide +kernel
theorem dX9_init_121 : decode cX9_init 121 = .ok (.invokespecial 68, 3) := by decide +kernel
theorem dX9_init_124 : decode cX9_init 124 = .ok (.aastore, 1) := by decide +kernel
theorem dX9_init_125 : decode cX9_init 125 = .ok (.iinc 1 1, 3) := by decide +kernel
theorem dX9_init_128 : decode cX9_init 128 = .ok (.goto (-22), 3) := by decide +kernel
theorem dX9_init_131 : decode cX9_init 131 = .ok (.return_, 1) := by decide +kernel
set_option maxRecDepth 20000 in
theorem ggX9_land_X9_within : GoodIn wsX9_land wsX9_within := goodIn_r _ [8] (by decide +kernel) (by decide +kernel)
set_option maxRecDepth 20000 in
theorem gX9_land_X9_within : GoodIn wsX9_land (va_wsS RX9 69 yX9_within wsX9_within) := goodIn_app (goodIn_of _ (by decide +kernel)) ggX9_land_X9_within
set_option maxRecDepth 20000 in
theorem ggX9_land_X5_clear : GoodIn wsX9_land wsX5_clear := goodIn_r _ [13, 14, 15, 16, 17, 18, 19, 20, 35, 36, 37] (by decide +kernel) (by decide +kernel)
set_option maxRecDepth 20000 in
theorem gX9_land_X5_clear : GoodIn wsX9_land (wsV RX9 73 RX5 yX5_clear wsX5_clear) := goodIn_app (goodIn_of _ (by decide +kernel)) ggX9_land_X5_clear
theorem dX9_land_0 : decode cX9_land 0 = .ok (.iload_n 1, 1) := by decide +kernel
theorem dX9_land_1 : decode cX9_land 1 = .ok (.iconst 4, 1) := by decide +kernel
theorem dX9_land_2 : decode cX9_land 2 = .ok (.bipush 24, 2) := by decide +kernel
theorem dX9_land_4 : decode cX9_land 4 = .ok (.invokestatic 69, 3) := by decide +kernel
theorem dX9_land_7 : decode cX9_land 7 = .ok (.ifCond .eq 13, 3) := by decide +kernel
theorem dX9_land_10 : decode cX9_land 10 = .ok (.iload_n 2, 1) := by decide +kernel
theorem dX9_land_11 : decode cX9_land 11 = .ok (.iconst 4, 1) := by decide +kernel
theorem dX9_land_12 : decode cX9_land 12 = .ok (.bipush 24, 2) := by decide +kernel
theorem dX9_land_14 : decode cX9_land 14 = .ok (.invokestatic 69, 3) := by decide +kernel
theorem dX9_land_17 : decode cX9_land 17 = .ok (.ifCond .ne 6, 3) := by decide +kernel
theorem dX9_land_20 : decode cX9_land 20 = .ok (.bipush (-2), 2) := by decide +kernel
theorem dX9_land_22 : decode cX9_land 22 = .ok (.ireturn, 1) := by decide +kernel
theorem dX9_land_23 : decode cX9_land 23 = .ok (.aload_n 0, 1) := by decide +kernel
theorem dX9_land_24 : decode cX9_land 24 = .ok (.getfield 12, 3) := by decide +kernel
theorem dX9_land_27 : decode cX9_land 27 = .ok (.iload_n 1, 1) := by decide +kernel
theorem dX9_land_28 : decode cX9_land 28 = .ok (.iload_n 2, 1) := by decide +kernel
theorem dX9_land_29 : decode cX9_land 29 = .ok (.invokevirtual 73, 3) := by decide +kernel
theorem dX9_land_32 : decode cX9_land 32 = .ok (.aload_n 0, 1) := by decide +kernel
theorem dX9_land_33 : decode cX9_land 33 = .ok (.iconst 0, 1) := by decide +kernel
theorem dX9_land_34 : decode cX9_land 34 = .ok (.putfield 33, 3) := by decide +kernel
theorem dX9_land_37 : decode cX9_land 37 = .ok (.aload_n 0, 1) := by decide +kernel
theorem dX9_land_38 : decode cX9_land 38 = .ok (.getfield 64, 3) := by decide +kernel
theorem dX9_land_41 : decode cX9_land 41 = .ok (.iconst 0, 1) := by decide +kernel
theorem dX9_land_42 : decode cX9_land 42 = .ok (.putfield 77, 3) := by decide +kernel
theorem dX9_land_45 : decode cX9_land 45 = .ok (.iconst 1, 1) := by decide +kernel
theorem dX9_land_46 : decode cX9_land 46 = .ok (.ireturn, 1) := by decide +kernel
set_option maxRecDepth 20000 in
theorem ggX9_cell_X5_has : GoodIn wsX9_cell wsX5_has := goodIn_r _ [8, 9, 10, 11, 12, 13, 33, 34, 35] (by decide +kernel) (by decide +kernel)
set_option maxRecDepth 20000 in
theorem gX9_cell_X5_has : GoodIn wsX9_cell (wsV RX9 80 RX5 yX5_has wsX5_has) := goodIn_app (goodIn_of _ (by decide +kernel)) ggX9_cell_X5_has
set_option maxRecDepth 20000 in
theorem ggX9_cell_X9_within : GoodIn wsX9_cell wsX9_within := goodIn_r _ [13] (by decide +kernel) (by decide +kernel)
set_option maxRecDepth 20000 in
theorem gX9_cell_X9_within : GoodIn wsX9_cell (va_wsS RX9 69 yX9_within wsX9_within) := goodIn_app (goodIn_of _ (by decide +kernel)) ggX9_cell_X9_within
set_option maxRecDepth 20000 in
theorem ggX9_cell_X9_cellOf : GoodIn wsX9_cell wsX9_cellOf := goodIn_r _ [17] (by decide +kernel) (by decide +kernel)
set_option maxRecDepth 20000 in
theorem gX9_cell_X9_cellOf : GoodIn wsX9_cell (va_wsS RX9 84 yX9_cellOf wsX9_cellOf) := goodIn_app (goodIn_of _ (by decide +kernel)) ggX9_cell_X9_cellOf
set_option maxRecDepth 20000 in
theorem ggX9_cell_X2_standOn : GoodIn wsX9_cell wsX2_standOn := goodIn_r _ [22, 23, 24, 36, 37, 38, 39, 40, 41] (by decide +kernel) (by decide +kernel)
set_option maxRecDepth 20000 in
theorem gX9_cell_X2_standOn : GoodIn wsX9_cell (wsV RX9 88 RX2 yX2_standOn wsX2_standOn) := goodIn_app (goodIn_of _ (by decide +kernel)) ggX9_cell_X2_standOn
theorem dX9_cell_0 : decode cX9_cell 0 = .ok (.aload_n 0, 1) := by decide +kernel
theorem dX9_cell_1 : decode cX9_cell 1 = .ok (.getfield 12, 3) := by decide +kernel
theorem dX9_cell_4 : decode cX9_cell 4 = .ok (.iload_n 1, 1) := by decide +kernel
theorem dX9_cell_5 : decode cX9_cell 5 = .ok (.iload_n 2, 1) := by decide +kernel
theorem dX9_cell_6 : decode cX9_cell 6 = .ok (.invokevirtual 80, 3) := by decide +kernel
theorem dX9_cell_9 : decode cX9_cell 9 = .ok (.ifCond .eq 12, 3) := by decide +kernel
theorem dX9_cell_12 : decode cX9_cell 12 = .ok (.iload_n 3, 1) := by decide +kernel
theorem dX9_cell_13 : decode cX9_cell 13 = .ok (.iconst 0, 1) := by decide +kernel
theorem dX9_cell_14 : decode cX9_cell 14 = .ok (.iconst 2, 1) := by decide +kernel
theorem dX9_cell_15 : decode cX9_cell 15 = .ok (.invokestatic 69, 3) := by decide +kernel
theorem dX9_cell_18 : decode cX9_cell 18 = .ok (.ifCond .ne 6, 3) := by decide +kernel
theorem dX9_cell_21 : decode cX9_cell 21 = .ok (.bipush (-2), 2) := by decide +kernel
theorem dX9_cell_23 : decode cX9_cell 23 = .ok (.ireturn, 1) := by decide +kernel
theorem dX9_cell_24 : decode cX9_cell 24 = .ok (.iload_n 1, 1) := by decide +kernel
theorem dX9_cell_25 : decode cX9_cell 25 = .ok (.iload_n 2, 1) := by decide +kernel
theorem dX9_cell_26 : decode cX9_cell 26 = .ok (.invokestatic 84, 3) := by decide +kernel
theorem dX9_cell_29 : decode cX9_cell 29 = .ok (.istore 4, 2) := by decide +kernel
theorem dX9_cell_31 : decode cX9_cell 31 = .ok (.iload_n 3, 1) := by decide +kernel
theorem dX9_cell_32 : decode cX9_cell 32 = .ok (.iconst 1, 1) := by decide +kernel
theorem dX9_cell_33 : decode cX9_cell 33 = .ok (.if_icmp .ne 18, 3) := by decide +kernel
theorem dX9_cell_36 : decode cX9_cell 36 = .ok (.aload_n 0, 1) := by decide +kernel
theorem dX9_cell_37 : decode cX9_cell 37 = .ok (.getfield 64, 3) := by decide +kernel
theorem dX9_cell_40 : decode cX9_cell 40 = .ok (.iload 4, 2) := by decide +kernel
theorem dX9_cell_42 : decode cX9_cell 42 = .ok (.invokevirtual 88, 3) := by decide +kernel
theorem dX9_cell_45 : decode cX9_cell 45 = .ok (.ifCond .eq 6, 3) := by decide +kernel
theorem dX9_cell_48 : decode cX9_cell 48 = .ok (.bipush (-3), 2) := by decide +kernel
theorem dX9_cell_50 : decode cX9_cell 50 = .ok (.ireturn, 1) := by decide +kernel
theorem dX9_cell_51 : decode cX9_cell 51 = .ok (.aload_n 0, 1) := by decide +kernel
theorem dX9_cell_52 : decode cX9_cell 52 = .ok (.getfield 12, 3) := by decide +kernel
theorem dX9_cell_55 : decode cX9_cell 55 = .ok (.getfield 92, 3) := by decide +kernel
theorem dX9_cell_58 : decode cX9_cell 58 = .ok (.iload 4, 2) := by decide +kernel
theorem dX9_cell_60 : decode cX9_cell 60 = .ok (.iaload, 1) := by decide +kernel
theorem dX9_cell_61 : decode cX9_cell 61 = .ok (.istore 5, 2) := by decide +kernel
theorem dX9_cell_63 : decode cX9_cell 63 = .ok (.aload_n 0, 1) := by decide +kernel
theorem dX9_cell_64 : decode cX9_cell 64 = .ok (.getfield 12, 3) := by decide +kernel
theorem dX9_cell_67 : decode cX9_cell 67 = .ok (.getfield 92, 3) := by decide +kernel
theorem dX9_cell_70 : decode cX9_cell 70 = .ok (.iload 4, 2) := by decide +kernel
theorem dX9_cell_72 : decode cX9_cell 72 = .ok (.iload_n 3, 1) := by decide +kernel
theorem dX9_cell_73 : decode cX9_cell 73 = .ok (.iastore, 1) := by decide +kernel
theorem dX9_cell_74 : decode cX9_cell 74 = .ok (.iload 5, 2) := by decide +kernel
theorem dX9_cell_76 : decode cX9_cell 76 = .ok (.ireturn, 1) := by decide +kernel
set_option maxRecDepth 20000 in
theorem ggX9_level_X9_within : GoodIn wsX9_level wsX9_within := goodIn_r _ [7] (by decide +kernel) (by decide +kernel)
set_option maxRecDepth 20000 in
theorem gX9_level_X9_within : GoodIn wsX9_level (va_wsS RX9 69 yX9_within wsX9_within) := goodIn_app (goodIn_of _ (by decide +kernel)) ggX9_level_X9_within
theorem dX9_level_0 : decode cX9_level 0 = .ok (.iload_n 1, 1) := by decide +kernel
theorem dX9_level_1 : decode cX9_level 1 = .ok (.iconst 0, 1) := by decide +kernel
theorem dX9_level_2 : decode cX9_level 2 = .ok (.bipush 7, 2) := by decide +kernel
theorem dX9_level_4 : decode cX9_level 4 = .ok (.invokestatic 69, 3) := by decide +kernel
theorem dX9_level_7 : decode cX9_level 7 = .ok (.ifCond .eq 24, 3) := by decide +kernel
theorem dX9_level_10 : decode cX9_level 10 = .ok (.iload_n 2, 1) := by decide +kernel
theorem dX9_level_11 : decode cX9_level 11 = .ok (.iconst 0, 1) := by decide +kernel
theorem dX9_level_12 : decode cX9_level 12 = .ok (.bipush 50, 2) := by decide +kernel
theorem dX9_level_14 : decode cX9_level 14 = .ok (.invokestatic 69, 3) := by decide +kernel
theorem dX9_level_17 : decode cX9_level 17 = .ok (.ifCond .eq 14, 3) := by decide +kernel
theorem dX9_level_20 : decode cX9_level 20 = .ok (.iload_n 3, 1) := by decide +kernel
theorem dX9_level_21 : decode cX9_level 21 = .ok (.iconst 0, 1) := by decide +kernel
theorem dX9_level_22 : decode cX9_level 22 = .ok (.sipush 500, 3) := by decide +kernel
theorem dX9_level_25 : decode cX9_level 25 = .ok (.invokestatic 69, 3) := by decide +kernel
theorem dX9_level_28 : decode cX9_level 28 = .ok (.ifCond .ne 6, 3) := by decide +kernel
theorem dX9_level_31 : decode cX9_level 31 = .ok (.bipush (-2), 2) := by decide +kernel
theorem dX9_level_33 : decode cX9_level 33 = .ok (.ireturn, 1) := by decide +kernel
theorem dX9_level_34 : decode cX9_level 34 = .ok (.aload_n 0, 1) := by decide +kernel
theorem dX9_level_35 : decode cX9_level 35 = .ok (.getfield 19, 3) := by decide +kernel
theorem dX9_level_38 : decode cX9_level 38 = .ok (.getfield 96, 3) := by decide +kernel
theorem dX9_level_41 : decode cX9_level 41 = .ok (.iload_n 1, 1) := by decide +kernel
theorem dX9_level_42 : decode cX9_level 42 = .ok (.iload_n 2, 1) := by decide +kernel
theorem dX9_level_43 : decode cX9_level 43 = .ok (.iastore, 1) := by decide +kernel
theorem dX9_level_44 : decode cX9_level 44 = .ok (.aload_n 0, 1) := by decide +kernel
theorem dX9_level_45 : decode cX9_level 45 = .ok (.getfield 19, 3) := by decide +kernel
theorem dX9_level_48 : decode cX9_level 48 = .ok (.getfield 99, 3) := by decide +kernel
theorem dX9_level_51 : decode cX9_level 51 = .ok (.iload_n 1, 1) := by decide +kernel
theorem dX9_level_52 : decode cX9_level 52 = .ok (.iload_n 3, 1) := by decide +kernel
theorem dX9_level_53 : decode cX9_level 53 = .ok (.iastore, 1) := by decide +kernel
theorem dX9_level_54 : decode cX9_level 54 = .ok (.iconst 1, 1) := by decide +kernel
theorem dX9_level_55 : decode cX9_level 55 = .ok (.ireturn, 1) := by decide +kernel
set_option maxRecDepth 20000 in
theorem ggX9_warmth_X9_within : GoodIn wsX9_warmth wsX9_within := goodIn_r _ [6] (by decide +kernel) (by decide +kernel)
set_option maxRecDepth 20000 in
theorem gX9_warmth_X9_within : GoodIn wsX9_warmth (va_wsS RX9 69 yX9_within wsX9_within) := goodIn_app (goodIn_of _ (by decide +kernel)) ggX9_warmth_X9_within
theorem dX9_warmth_0 : decode cX9_warmth 0 = .ok (.iload_n 1, 1) := by decide +kernel
theorem dX9_warmth_1 : decode cX9_warmth 1 = .ok (.iconst 0, 1) := by decide +kernel
theorem dX9_warmth_2 : decode cX9_warmth 2 = .ok (.bipush 23, 2) := by decide +kernel
theorem dX9_warmth_4 : decode cX9_warmth 4 = .ok (.invokestatic 69, 3) := by decide +kernel
theorem dX9_warmth_7 : decode cX9_warmth 7 = .ok (.ifCond .eq 14, 3) := by decide +kernel
theorem dX9_warmth_10 : decode cX9_warmth 10 = .ok (.iload_n 2, 1) := by decide +kernel
theorem dX9_warmth_11 : decode cX9_warmth 11 = .ok (.bipush (-20), 2) := by decide +kernel
theorem dX9_warmth_13 : decode cX9_warmth 13 = .ok (.bipush 20, 2) := by decide +kernel
theorem dX9_warmth_15 : decode cX9_warmth 15 = .ok (.invokestatic 69, 3) := by decide +kernel
theorem dX9_warmth_18 : decode cX9_warmth 18 = .ok (.ifCond .ne 7, 3) := by decide +kernel
theorem dX9_warmth_21 : decode cX9_warmth 21 = .ok (.sipush (-1000), 3) := by decide +kernel
theorem dX9_warmth_24 : decode cX9_warmth 24 = .ok (.ireturn, 1) := by decide +kernel
theorem dX9_warmth_25 : decode cX9_warmth 25 = .ok (.aload_n 0, 1) := by decide +kernel
theorem dX9_warmth_26 : decode cX9_warmth 26 = .ok (.getfield 19, 3) := by decide +kernel
theorem dX9_warmth_29 : decode cX9_warmth 29 = .ok (.getfield 102, 3) := by decide +kernel
theorem dX9_warmth_32 : decode cX9_warmth 32 = .ok (.iload_n 1, 1) := by decide +kernel
theorem dX9_warmth_33 : decode cX9_warmth 33 = .ok (.iaload, 1) := by decide +kernel
theorem dX9_warmth_34 : decode cX9_warmth 34 = .ok (.istore_n 3, 1) := by decide +kernel
theorem dX9_warmth_35 : decode cX9_warmth 35 = .ok (.aload_n 0, 1) := by decide +kernel
theorem dX9_warmth_36 : decode cX9_warmth 36 = .ok (.getfield 19, 3) := by decide +kernel
theorem dX9_warmth_39 : decode cX9_warmth 39 = .ok (.getfield 102, 3) := by decide +kernel
theorem dX9_warmth_42 : decode cX9_warmth 42 = .ok (.iload_n 1, 1) := by decide +kernel
theorem dX9_warmth_43 : decode cX9_warmth 43 = .ok (.iload_n 2, 1) := by decide +kernel
theorem dX9_warmth_44 : decode cX9_warmth 44 = .ok (.iastore, 1) := by decide +kernel
theorem dX9_warmth_45 : decode cX9_warmth 45 = .ok (.iload_n 3, 1) := by decide +kernel
theorem dX9_warmth_46 : decode cX9_warmth 46 = .ok (.ireturn, 1) := by decide +kernel
set_option maxRecDepth 20000 in
theorem ggX9_wind_X9_within : GoodIn wsX9_wind wsX9_within := goodIn_r _ [7] (by decide +kernel) (by decide +kernel)
set_option maxRecDepth 20000 in
theorem gX9_wind_X9_within : GoodIn wsX9_wind (va_wsS RX9 69 yX9_within wsX9_within) := goodIn_app (goodIn_of _ (by decide +kernel)) ggX9_wind_X9_within
set_option maxRecDepth 20000 in
theorem ggX9_wind_X8_put : GoodIn wsX9_wind wsX8_put := goodIn_r _ [12, 13, 14, 28, 29] (by decide +kernel) (by decide +kernel)
set_option maxRecDepth 20000 in
theorem gX9_wind_X8_put : GoodIn wsX9_wind (wsV RX9 108 RX8 yX8_put wsX8_put) := goodIn_app (goodIn_of _ (by decide +kernel)) ggX9_wind_X8_put
theorem dX9_wind_0 : decode cX9_wind 0 = .ok (.iload_n 2, 1) := by decide +kernel
theorem dX9_wind_1 : decode cX9_wind 1 = .ok (.iconst 1, 1) := by decide +kernel
theorem dX9_wind_2 : decode cX9_wind 2 = .ok (.bipush 7, 2) := by decide +kernel
theorem dX9_wind_4 : decode cX9_wind 4 = .ok (.invokestatic 69, 3) := by decide +kernel
theorem dX9_wind_7 : decode cX9_wind 7 = .ok (.ifCond .eq 24, 3) := by decide +kernel
theorem dX9_wind_10 : decode cX9_wind 10 = .ok (.iload_n 3, 1) := by decide +kernel
theorem dX9_wind_11 : decode cX9_wind 11 = .ok (.iconst 0, 1) := by decide +kernel
theorem dX9_wind_12 : decode cX9_wind 12 = .ok (.bipush 23, 2) := by decide +kernel
theorem dX9_wind_14 : decode cX9_wind 14 = .ok (.invokestatic 69, 3) := by decide +kernel
theorem dX9_wind_17 : decode cX9_wind 17 = .ok (.ifCond .eq 14, 3) := by decide +kernel
theorem dX9_wind_20 : decode cX9_wind 20 = .ok (.iload 4, 2) := by decide +kernel
theorem dX9_wind_22 : decode cX9_wind 22 = .ok (.iload_n 3, 1) := by decide +kernel
theorem dX9_wind_23 : decode cX9_wind 23 = .ok (.bipush 23, 2) := by decide +kernel
theorem dX9_wind_25 : decode cX9_wind 25 = .ok (.invokestatic 69, 3) := by decide +kernel
theorem dX9_wind_28 : decode cX9_wind 28 = .ok (.ifCond .ne 6, 3) := by decide +kernel
theorem dX9_wind_31 : decode cX9_wind 31 = .ok (.bipush (-2), 2) := by decide +kernel
theorem dX9_wind_33 : decode cX9_wind 33 = .ok (.ireturn, 1) := by decide +kernel
theorem dX9_wind_34 : decode cX9_wind 34 = .ok (.iload 5, 2) := by decide +kernel
theorem dX9_wind_36 : decode cX9_wind 36 = .ok (.bipush (-2), 2) := by decide +kernel
theorem dX9_wind_38 : decode cX9_wind 38 = .ok (.iconst 2, 1) := by decide +kernel
theorem dX9_wind_39 : decode cX9_wind 39 = .ok (.invokestatic 69, 3) := by decide +kernel
theorem dX9_wind_42 : decode cX9_wind 42 = .ok (.ifCond .eq 14, 3) := by decide +kernel
theorem dX9_wind_45 : decode cX9_wind 45 = .ok (.iload 6, 2) := by decide +kernel
theorem dX9_wind_47 : decode cX9_wind 47 = .ok (.bipush (-2), 2) := by decide +kernel
theorem dX9_wind_49 : decode cX9_wind 49 = .ok (.iconst 2, 1) := by decide +kernel
theorem dX9_wind_50 : decode cX9_wind 50 = .ok (.invokestatic 69, 3) := by decide +kernel
theorem dX9_wind_53 : decode cX9_wind 53 = .ok (.ifCond .ne 6, 3) := by decide +kernel
theorem dX9_wind_56 : decode cX9_wind 56 = .ok (.bipush (-2), 2) := by decide +kernel
theorem dX9_wind_58 : decode cX9_wind 58 = .ok (.ireturn, 1) := by decide +kernel
theorem dX9_wind_59 : decode cX9_wind 59 = .ok (.iload_n 1, 1) := by decide +kernel
theorem dX9_wind_60 : decode cX9_wind 60 = .ok (.ifCond .eq 13, 3) := by decide +kernel
theorem dX9_wind_63 : decode cX9_wind 63 = .ok (.aload_n 0, 1) := by decide +kernel
theorem dX9_wind_64 : decode cX9_wind 64 = .ok (.getfield 19, 3) := by decide +kernel
theorem dX9_wind_67 : decode cX9_wind 67 = .ok (.getfield 48, 3) := by decide +kernel
theorem dX9_wind_70 : decode cX9_wind 70 = .ok (.goto 10, 3) := by decide +kernel
theorem dX9_wind_73 : decode cX9_wind 73 = .ok (.aload_n 0, 1) := by decide +kernel
theorem dX9_wind_74 : decode cX9_wind 74 = .ok (.getfield 19, 3) := by decide +kernel
theorem dX9_wind_77 : decode cX9_wind 77 = .ok (.getfield 105, 3) := by decide +kernel
theorem dX9_wind_80 : decode cX9_wind 80 = .ok (.astore 7, 2) := by decide +kernel
theorem dX9_wind_82 : decode cX9_wind 82 = .ok (.iload_n 3, 1) := by decide +kernel
theorem dX9_wind_83 : decode cX9_wind 83 = .ok (.istore 8, 2) := by decide +kernel
theorem dX9_wind_85 : decode cX9_wind 85 = .ok (.iload 8, 2) := by decide +kernel
theorem dX9_wind_87 : decode cX9_wind 87 = .ok (.iload 4, 2) := by decide +kernel
theorem dX9_wind_89 : decode cX9_wind 89 = .ok (.if_icmp .gt 21, 3) := by decide +kernel
theorem dX9_wind_92 : decode cX9_wind 92 = .ok (.aload 7, 2) := by decide +kernel
theorem dX9_wind_94 : decode cX9_wind 94 = .ok (.iload_n 2, 1) := by decide +kernel
theorem dX9_wind_95 : decode cX9_wind 95 = .ok (.iload 8, 2) := by decide +kernel
theorem dX9_wind_97 : decode cX9_wind 97 = .ok (.iload 5, 2) := by decide +kernel
theorem dX9_wind_99 : decode cX9_wind 99 = .ok (.iload 6, 2) := by decide +kernel
theorem dX9_wind_101 : decode cX9_wind 101 = .ok (.invokevirtual 108, 3) := by decide +kernel
theorem dX9_wind_104 : decode cX9_wind 104 = .ok (.iinc 8 1, 3) := by decide +kernel
theorem dX9_wind_107 : decode cX9_wind 107 = .ok (.goto (-22), 3) := by decide +kernel
theorem dX9_wind_110 : decode cX9_wind 110 = .ok (.iconst 1, 1) := by decide +kernel
theorem dX9_wind_111 : decode cX9_wind 111 = .ok (.ireturn, 1) := by decide +kernel
set_option maxRecDepth 20000 in
theorem ggX9_fly_X5_has : GoodIn wsX9_fly wsX5_has := goodIn_r _ [9, 10, 11, 12, 13, 14, 53, 54, 55] (by decide +kernel) (by decide +kernel)
set_option maxRecDepth 20000 in
theorem gX9_fly_X5_has : GoodIn wsX9_fly (wsV RX9 80 RX5 yX5_has wsX5_has) := goodIn_app (goodIn_of _ (by decide +kernel)) ggX9_fly_X5_has
set_option maxRecDepth 20000 in
theorem ggX9_fly_X9_within : GoodIn wsX9_fly wsX9_within := goodIn_r _ [14] (by decide +kernel) (by decide +kernel)
set_option maxRecDepth 20000 in
theorem gX9_fly_X9_within : GoodIn wsX9_fly (va_wsS RX9 69 yX9_within wsX9_within) := goodIn_app (goodIn_of _ (by decide +kernel)) ggX9_fly_X9_within
set_option maxRecDepth 20000 in
theorem ggX9_fly_X9_cellOf : GoodIn wsX9_fly wsX9_cellOf := goodIn_r _ [18] (by decide +kernel) (by decide +kernel)
set_option maxRecDepth 20000 in
theorem gX9_fly_X9_cellOf : GoodIn wsX9_fly (va_wsS RX9 84 yX9_cellOf wsX9_cellOf) := goodIn_app (goodIn_of _ (by decide +kernel)) ggX9_fly_X9_cellOf
set_option maxRecDepth 20000 in
theorem ggX9_fly_X3_begin : GoodIn wsX9_fly wsX3_begin := goodIn_r _ [23, 24, 25, 26, 27, 28, 29, 30, 31, 32, 33, 34, 35, 36, 37, 38, 39, 22, 40, 41, 42, 43, 13, 44, 56, 57, 58, 59, 60, 61, 62, 63, 64, 65, 66, 67, 68, 69, 70] (by decide +kernel) (by decide +kernel)
set_option maxRecDepth 20000 in
theorem gX9_fly_X3_begin : GoodIn wsX9_fly (wsV RX9 114 RX3 yX3_begin wsX3_begin) := goodIn_app (goodIn_of _ (by decide +kernel)) ggX9_fly_X3_begin
theorem dX9_fly_0 : decode cX9_fly 0 = .ok (.aload_n 0, 1) := by decide +kernel
theorem dX9_fly_1 : decode cX9_fly 1 = .ok (.getfield 12, 3) := by decide +kernel
theorem dX9_fly_4 : decode cX9_fly 4 = .ok (.iload_n 1, 1) := by decide +kernel
theorem dX9_fly_5 : decode cX9_fly 5 = .ok (.iload_n 2, 1) := by decide +kernel
theorem dX9_fly_6 : decode cX9_fly 6 = .ok (.invokevirtual 80, 3) := by decide +kernel
theorem dX9_fly_9 : decode cX9_fly 9 = .ok (.ifCond .eq 25, 3) := by decide +kernel
theorem dX9_fly_12 : decode cX9_fly 12 = .ok (.iload_n 3, 1) := by decide +kernel
theorem dX9_fly_13 : decode cX9_fly 13 = .ok (.iconst 0, 1) := by decide +kernel
theorem dX9_fly_14 : decode cX9_fly 14 = .ok (.bipush 23, 2) := by decide +kernel
theorem dX9_fly_16 : decode cX9_fly 16 = .ok (.invokestatic 69, 3) := by decide +kernel
theorem dX9_fly_19 : decode cX9_fly 19 = .ok (.ifCond .eq 15, 3) := by decide +kernel
theorem dX9_fly_22 : decode cX9_fly 22 = .ok (.iload 4, 2) := by decide +kernel
theorem dX9_fly_24 : decode cX9_fly 24 = .ok (.iconst 1, 1) := by decide +kernel
theorem dX9_fly_25 : decode cX9_fly 25 = .ok (.sipush 200, 3) := by decide +kernel
theorem dX9_fly_28 : decode cX9_fly 28 = .ok (.invokestatic 69, 3) := by decide +kernel
theorem dX9_fly_31 : decode cX9_fly 31 = .ok (.ifCond .ne 6, 3) := by decide +kernel
theorem dX9_fly_34 : decode cX9_fly 34 = .ok (.bipush (-2), 2) := by decide +kernel
theorem dX9_fly_36 : decode cX9_fly 36 = .ok (.ireturn, 1) := by decide +kernel
theorem dX9_fly_37 : decode cX9_fly 37 = .ok (.iload 5, 2) := by decide +kernel
theorem dX9_fly_39 : decode cX9_fly 39 = .ok (.iconst 0, 1) := by decide +kernel
theorem dX9_fly_40 : decode cX9_fly 40 = .ok (.sipush 500, 3) := by decide +kernel
theorem dX9_fly_43 : decode cX9_fly 43 = .ok (.invokestatic 69, 3) := by decide +kernel
theorem dX9_fly_46 : decode cX9_fly 46 = .ok (.ifCond .eq 15, 3) := by decide +kernel
theorem dX9_fly_49 : decode cX9_fly 49 = .ok (.iload 6, 2) := by decide +kernel
theorem dX9_fly_51 : decode cX9_fly 51 = .ok (.iconst 0, 1) := by decide +kernel
theorem dX9_fly_52 : decode cX9_fly 52 = .ok (.sipush 200, 3) := by decide +kernel
theorem dX9_fly_55 : decode cX9_fly 55 = .ok (.invokestatic 69, 3) := by decide +kernel
theorem dX9_fly_58 : decode cX9_fly 58 = .ok (.ifCond .ne 6, 3) := by decide +kernel
theorem dX9_fly_61 : decode cX9_fly 61 = .ok (.bipush (-2), 2) := by decide +kernel
theorem dX9_fly_63 : decode cX9_fly 63 = .ok (.ireturn, 1) := by decide +kernel
theorem dX9_fly_64 : decode cX9_fly 64 = .ok (.iload_n 1, 1) := by decide +kernel
theorem dX9_fly_65 : decode cX9_fly 65 = .ok (.iload_n 2, 1) := by decide +kernel
theorem dX9_fly_66 : decode cX9_fly 66 = .ok (.invokestatic 84, 3) := by decide +kernel
theorem dX9_fly_69 : decode cX9_fly 69 = .ok (.istore 7, 2) := by decide +kernel
theorem dX9_fly_71 : decode cX9_fly 71 = .ok (.aload_n 0, 1) := by decide +kernel
theorem dX9_fly_72 : decode cX9_fly 72 = .ok (.getfield 12, 3) := by decide +kernel
theorem dX9_fly_75 : decode cX9_fly 75 = .ok (.getfield 92, 3) := by decide +kernel
theorem dX9_fly_78 : decode cX9_fly 78 = .ok (.iload 7, 2) := by decide +kernel
theorem dX9_fly_80 : decode cX9_fly 80 = .ok (.iaload, 1) := by decide +kernel
theorem dX9_fly_81 : decode cX9_fly 81 = .ok (.iconst 2, 1) := by decide +kernel
theorem dX9_fly_82 : decode cX9_fly 82 = .ok (.if_icmp .ne 6, 3) := by decide +kernel
theorem dX9_fly_85 : decode cX9_fly 85 = .ok (.bipush (-3), 2) := by decide +kernel
theorem dX9_fly_87 : decode cX9_fly 87 = .ok (.ireturn, 1) := by decide +kernel
theorem dX9_fly_88 : decode cX9_fly 88 = .ok (.aload_n 0, 1) := by decide +kernel
theorem dX9_fly_89 : decode cX9_fly 89 = .ok (.getfield 33, 3) := by decide +kernel
theorem dX9_fly_92 : decode cX9_fly 92 = .ok (.bipush 8, 2) := by decide +kernel
theorem dX9_fly_94 : decode cX9_fly 94 = .ok (.if_icmp .lt 6, 3) := by decide +kernel
theorem dX9_fly_97 : decode cX9_fly 97 = .ok (.bipush (-4), 2) := by decide +kernel
theorem dX9_fly_99 : decode cX9_fly 99 = .ok (.ireturn, 1) := by decide +kernel
theorem dX9_fly_100 : decode cX9_fly 100 = .ok (.aload_n 0, 1) := by decide +kernel
theorem dX9_fly_101 : decode cX9_fly 101 = .ok (.getfield 25, 3) := by decide +kernel
theorem dX9_fly_104 : decode cX9_fly 104 = .ok (.aload_n 0, 1) := by decide +kernel
theorem dX9_fly_105 : decode cX9_fly 105 = .ok (.getfield 33, 3) := by decide +kernel
theorem dX9_fly_108 : decode cX9_fly 108 = .ok (.aaload, 1) := by decide +kernel
theorem dX9_fly_109 : decode cX9_fly 109 = .ok (.iload 7, 2) := by decide +kernel
theorem dX9_fly_111 : decode cX9_fly 111 = .ok (.iload_n 3, 1) := by decide +kernel
theorem dX9_fly_112 : decode cX9_fly 112 = .ok (.iload 4, 2) := by decide +kernel
theorem dX9_fly_114 : decode cX9_fly 114 = .ok (.iload 5, 2) := by decide +kernel
theorem dX9_fly_116 : decode cX9_fly 116 = .ok (.iload 6, 2) := by decide +kernel
theorem dX9_fly_118 : decode cX9_fly 118 = .ok (.invokevirtual 114, 3) := by decide +kernel
theorem dX9_fly_121 : decode cX9_fly 121 = .ok (.aload_n 0, 1) := by decide +kernel
theorem dX9_fly_122 : decode cX9_fly 122 = .ok (.dup, 1) := by decide +kernel
theorem dX9_fly_123 : decode cX9_fly 123 = .ok (.getfield 33, 3) := by decide +kernel
theorem dX9_fly_126 : decode cX9_fly 126 = .ok (.iconst 1, 1) := by decide +kernel
theorem dX9_fly_127 : decode cX9_fly 127 = .ok (.iadd, 1) := by decide +kernel
theorem dX9_fly_128 : decode cX9_fly 128 = .ok (.putfield 33, 3) := by decide +kernel
theorem dX9_fly_131 : decode cX9_fly 131 = .ok (.aload_n 0, 1) := by decide +kernel
theorem dX9_fly_132 : decode cX9_fly 132 = .ok (.getfield 33, 3) := by decide +kernel
theorem dX9_fly_135 : decode cX9_fly 135 = .ok (.iconst 1, 1) := by decide +kernel
theorem dX9_fly_136 : decode cX9_fly 136 = .ok (.isub, 1) := by decide +kernel
theorem dX9_fly_137 : decode cX9_fly 137 = .ok (.ireturn, 1) := by decide +kernel
set_option maxRecDepth 20000 in
theorem ggX9_go_X9_isFlight : GoodIn wsX9_go wsX9_isFlight := goodIn_r _ [12, 13, 14, 15, 11, 16, 97, 98, 99, 100, 101, 102, 103, 104] (by decide +kernel) (by decide +kernel)
set_option maxRecDepth 20000 in
theorem gX9_go_X9_isFlight : GoodIn wsX9_go (wsV RX9 118 RX9 yX9_isFlight wsX9_isFlight) := goodIn_app (goodIn_of _ (by decide +kernel)) ggX9_go_X9_isFlight
set_option maxRecDepth 20000 in
theorem ggX9_go_X9_within : GoodIn wsX9_go wsX9_within := goodIn_r _ [16] (by decide +kernel) (by decide +kernel)
set_option maxRecDepth 20000 in
theorem gX9_go_X9_within : GoodIn wsX9_go (va_wsS RX9 69 yX9_within wsX9_within) := goodIn_app (goodIn_of _ (by decide +kernel)) ggX9_go_X9_within
set_option maxRecDepth 20000 in
theorem ggX9_go_X1_pass : GoodIn wsX9_go wsX1_pass := goodIn_r _ [21, 22, 23, 24, 25, 26, 27, 28, 29, 20, 30, 31, 32, 33, 34, 35, 36, 37, 38, 39, 40, 41, 42, 43, 44, 45, 46, 47, 48, 49, 50, 51, 52, 53, 54, 55, 56, 57, 58, 59, 60, 61, 62, 63, 64, 65, 66, 67, 68, 69, 70, 71, 72, 11, 73, 74, 75, 76, 77, 78, 79, 80, 81, 15, 16, 82, 83, 120, 121, 122, 123, 124, 112, 113, 114, 115, 116, 117, 118, 119, 125, 126, 127, 128, 129] (by decide +kernel) (by decide +kernel)
set_option maxRecDepth 20000 in
theorem gX9_go_X1_pass : GoodIn wsX9_go (wsV RX9 134 RX1 yX1_pass wsX1_pass) := goodIn_app (goodIn_of _ (by decide +kernel)) ggX9_go_X1_pass
set_option maxRecDepth 20000 in
theorem ggX9_go_X3_writeDown : GoodIn wsX9_go wsX3_writeDown := goodIn_r _ [88, 89, 90, 91, 92, 93, 94, 95, 11, 96, 105, 106, 107, 108, 109, 110, 111, 112, 113, 114, 115, 116, 117, 118, 119] (by decide +kernel) (by decide +kernel)
set_option maxRecDepth 20000 in
theorem gX9_go_X3_writeDown : GoodIn wsX9_go (wsV RX9 138 RX3 yX3_writeDown wsX3_writeDown) := goodIn_app (goodIn_of _ (by decide +kernel)) ggX9_go_X3_writeDown
theorem dX9_go_0 : decode cX9_go 0 = .ok (.aload_n 0, 1) := by decide +kernel
theorem dX9_go_1 : decode cX9_go 1 = .ok (.iload_n 1, 1) := by decide +kernel
theorem dX9_go_2 : decode cX9_go 2 = .ok (.invokevirtual 118, 3) := by decide +kernel
theorem dX9_go_5 : decode cX9_go 5 = .ok (.ifCond .eq 12, 3) := by decide +kernel
theorem dX9_go_8 : decode cX9_go 8 = .ok (.iload_n 2, 1) := by decide +kernel
theorem dX9_go_9 : decode cX9_go 9 = .ok (.iconst 0, 1) := by decide +kernel
theorem dX9_go_10 : decode cX9_go 10 = .ok (.iconst 2, 1) := by decide +kernel
theorem dX9_go_11 : decode cX9_go 11 = .ok (.invokestatic 69, 3) := by decide +kernel
theorem dX9_go_14 : decode cX9_go 14 = .ok (.ifCond .ne 6, 3) := by decide +kernel
theorem dX9_go_17 : decode cX9_go 17 = .ok (.bipush (-2), 2) := by decide +kernel
theorem dX9_go_19 : decode cX9_go 19 = .ok (.ireturn, 1) := by decide +kernel
theorem dX9_go_20 : decode cX9_go 20 = .ok (.iload_n 3, 1) := by decide +kernel
theorem dX9_go_21 : decode cX9_go 21 = .ok (.iconst 1, 1) := by decide +kernel
theorem dX9_go_22 : decode cX9_go 22 = .ok (.bipush 50, 2) := by decide +kernel
theorem dX9_go_24 : decode cX9_go 24 = .ok (.invokestatic 69, 3) := by decide +kernel
theorem dX9_go_27 : decode cX9_go 27 = .ok (.ifCond .eq 14, 3) := by decide +kernel
theorem dX9_go_30 : decode cX9_go 30 = .ok (.iload 4, 2) := by decide +kernel
theorem dX9_go_32 : decode cX9_go 32 = .ok (.iconst 1, 1) := by decide +kernel
theorem dX9_go_33 : decode cX9_go 33 = .ok (.bipush 12, 2) := by decide +kernel
theorem dX9_go_35 : decode cX9_go 35 = .ok (.invokestatic 69, 3) := by decide +kernel
theorem dX9_go_38 : decode cX9_go 38 = .ok (.ifCond .ne 6, 3) := by decide +kernel
theorem dX9_go_41 : decode cX9_go 41 = .ok (.bipush (-2), 2) := by decide +kernel
theorem dX9_go_43 : decode cX9_go 43 = .ok (.ireturn, 1) := by decide +kernel
theorem dX9_go_44 : decode cX9_go 44 = .ok (.aload_n 0, 1) := by decide +kernel
theorem dX9_go_45 : decode cX9_go 45 = .ok (.getfield 25, 3) := by decide +kernel
theorem dX9_go_48 : decode cX9_go 48 = .ok (.iload_n 1, 1) := by decide +kernel
theorem dX9_go_49 : decode cX9_go 49 = .ok (.aaload, 1) := by decide +kernel
theorem dX9_go_50 : decode cX9_go 50 = .ok (.astore 5, 2) := by decide +kernel
theorem dX9_go_52 : decode cX9_go 52 = .ok (.aload 5, 2) := by decide +kernel
theorem dX9_go_54 : decode cX9_go 54 = .ok (.getfield 121, 3) := by decide +kernel
theorem dX9_go_57 : decode cX9_go 57 = .ok (.getfield 125, 3) := by decide +kernel
theorem dX9_go_60 : decode cX9_go 60 = .ok (.ifCond .eq 6, 3) := by decide +kernel
theorem dX9_go_63 : decode cX9_go 63 = .ok (.bipush (-3), 2) := by decide +kernel
theorem dX9_go_65 : decode cX9_go 65 = .ok (.ireturn, 1) := by decide +kernel
theorem dX9_go_66 : decode cX9_go 66 = .ok (.aload 5, 2) := by decide +kernel
theorem dX9_go_68 : decode cX9_go 68 = .ok (.getfield 131, 3) := by decide +kernel
theorem dX9_go_71 : decode cX9_go 71 = .ok (.iload 4, 2) := by decide +kernel
theorem dX9_go_73 : decode cX9_go 73 = .ok (.iadd, 1) := by decide +kernel
theorem dX9_go_74 : decode cX9_go 74 = .ok (.bipush 60, 2) := by decide +kernel
theorem dX9_go_76 : decode cX9_go 76 = .ok (.if_icmp .le 6, 3) := by decide +kernel
theorem dX9_go_79 : decode cX9_go 79 = .ok (.bipush (-4), 2) := by decide +kernel
theorem dX9_go_81 : decode cX9_go 81 = .ok (.ireturn, 1) := by decide +kernel
theorem dX9_go_82 : decode cX9_go 82 = .ok (.iconst 0, 1) := by decide +kernel
theorem dX9_go_83 : decode cX9_go 83 = .ok (.istore 6, 2) := by decide +kernel
theorem dX9_go_85 : decode cX9_go 85 = .ok (.iload 6, 2) := by decide +kernel
theorem dX9_go_87 : decode cX9_go 87 = .ok (.iload 4, 2) := by decide +kernel
theorem dX9_go_89 : decode cX9_go 89 = .ok (.if_icmp .ge 50, 3) := by decide +kernel
theorem dX9_go_92 : decode cX9_go 92 = .ok (.aload 5, 2) := by decide +kernel
theorem dX9_go_94 : decode cX9_go 94 = .ok (.getfield 121, 3) := by decide +kernel
theorem dX9_go_97 : decode cX9_go 97 = .ok (.getfield 125, 3) := by decide +kernel
theorem dX9_go_100 : decode cX9_go 100 = .ok (.ifCond .ne 39, 3) := by decide +kernel
theorem dX9_go_103 : decode cX9_go 103 = .ok (.aload 5, 2) := by decide +kernel
theorem dX9_go_105 : decode cX9_go 105 = .ok (.getfield 121, 3) := by decide +kernel
theorem dX9_go_108 : decode cX9_go 108 = .ok (.iload_n 2, 1) := by decide +kernel
theorem dX9_go_109 : decode cX9_go 109 = .ok (.iload_n 3, 1) := by decide +kernel
theorem dX9_go_110 : decode cX9_go 110 = .ok (.aload_n 0, 1) := by decide +kernel
theorem dX9_go_111 : decode cX9_go 111 = .ok (.getfield 19, 3) := by decide +kernel
theorem dX9_go_114 : decode cX9_go 114 = .ok (.aload_n 0, 1) := by decide +kernel
theorem dX9_go_115 : decode cX9_go 115 = .ok (.getfield 19, 3) := by decide +kernel
theorem dX9_go_118 : decode cX9_go 118 = .ok (.getfield 48, 3) := by decide +kernel
theorem dX9_go_121 : decode cX9_go 121 = .ok (.aload_n 0, 1) := by decide +kernel
theorem dX9_go_122 : decode cX9_go 122 = .ok (.getfield 12, 3) := by decide +kernel
theorem dX9_go_125 : decode cX9_go 125 = .ok (.invokevirtual 134, 3) := by decide +kernel
theorem dX9_go_128 : decode cX9_go 128 = .ok (.aload 5, 2) := by decide +kernel
theorem dX9_go_130 : decode cX9_go 130 = .ok (.invokevirtual 138, 3) := by decide +kernel
theorem dX9_go_133 : decode cX9_go 133 = .ok (.iinc 6 1, 3) := by decide +kernel
theorem dX9_go_136 : decode cX9_go 136 = .ok (.goto (-51), 3) := by decide +kernel
theorem dX9_go_139 : decode cX9_go 139 = .ok (.iload 6, 2) := by decide +kernel
theorem dX9_go_141 : decode cX9_go 141 = .ok (.ireturn, 1) := by decide +kernel
set_option maxRecDepth 20000 in
theorem ggX9_about_X9_isFlight : GoodIn wsX9_about wsX9_isFlight := goodIn_r _ [17, 18, 19, 20, 16, 21, 44, 45, 46, 47, 48, 49, 50, 51] (by decide +kernel) (by decide +kernel)
set_option maxRecDepth 20000 in
theorem gX9_about_X9_isFlight : GoodIn wsX9_about (wsV RX9 118 RX9 yX9_isFlight wsX9_isFlight) := goodIn_app (goodIn_of _ (by decide +kernel)) ggX9_about_X9_isFlight
set_option maxRecDepth 20000 in
theorem ggX9_about_X9_xOf : GoodIn wsX9_about wsX9_xOf := goodIn_r _ [24] (by decide +kernel) (by decide +kernel)
set_option maxRecDepth 20000 in
theorem gX9_about_X9_xOf : GoodIn wsX9_about (va_wsS RX9 145 yX9_xOf wsX9_xOf) := goodIn_app (goodIn_of _ (by decide +kernel)) ggX9_about_X9_xOf
set_option maxRecDepth 20000 in
theorem ggX9_about_X9_yOf : GoodIn wsX9_about wsX9_yOf := goodIn_r _ [27] (by decide +kernel) (by decide +kernel)
set_option maxRecDepth 20000 in
theorem gX9_about_X9_yOf : GoodIn wsX9_about (va_wsS RX9 149 yX9_yOf wsX9_yOf) := goodIn_app (goodIn_of _ (by decide +kernel)) ggX9_about_X9_yOf
set_option maxRecDepth 20000 in
theorem ggX9_about_X1_liftLessWeight : GoodIn wsX9_about wsX1_liftLessWeight := goodIn_r _ [32, 33, 34, 35, 36, 37, 38, 39, 40, 41, 31, 42, 43, 59, 60, 61, 62, 63, 64, 65, 66, 67, 68, 69, 70, 71] (by decide +kernel) (by decide +kernel)
end
section
set_option maxRecDepth 20000 in
theorem gX9_about_X1_liftLessWeight : GoodIn wsX9_about (wsV RX9 164 RX1 yX1_liftLessWeight wsX1_liftLessWeight) := goodIn_app (goodIn_of _ (by decide +kernel)) ggX9_about_X1_liftLessWeight
theorem dX9_about_0 : decode cX9_about 0 = .ok (.aload_n 0, 1) := by decide +kernel
theorem dX9_about_1 : decode cX9_about 1 = .ok (.iload_n 1, 1) := by decide +kernel
theorem dX9_about_2 : decode cX9_about 2 = .ok (.invokevirtual 118, 3) := by decide +kernel
theorem dX9_about_5 : decode cX9_about 5 = .ok (.ifCond .ne 6, 3) := by decide +kernel
theorem dX9_about_8 : decode cX9_about 8 = .ok (.ldc 141, 2) := by decide +kernel
theorem dX9_about_10 : decode cX9_about 10 = .ok (.ireturn, 1) := by decide +kernel
theorem dX9_about_11 : decode cX9_about 11 = .ok (.aload_n 0, 1) := by decide +kernel
theorem dX9_about_12 : decode cX9_about 12 = .ok (.getfield 25, 3) := by decide +kernel
theorem dX9_about_15 : decode cX9_about 15 = .ok (.iload_n 1, 1) := by decide +kernel
theorem dX9_about_16 : decode cX9_about 16 = .ok (.aaload, 1) := by decide +kernel
theorem dX9_about_17 : decode cX9_about 17 = .ok (.astore_n 3, 1) := by decide +kernel
theorem dX9_about_18 : decode cX9_about 18 = .ok (.aload_n 3, 1) := by decide +kernel
theorem dX9_about_19 : decode cX9_about 19 = .ok (.getfield 121, 3) := by decide +kernel
theorem dX9_about_22 : decode cX9_about 22 = .ok (.astore 4, 2) := by decide +kernel
theorem dX9_about_24 : decode cX9_about 24 = .ok (.iload_n 2, 1) := by decide +kernel
theorem dX9_about_25 : decode cX9_about 25 = .ok (.tableswitch 132 0 9 #[55, 64, 73, 79, 85, 91, 97, 111, 116, 126], 55) := by decide +kernel
theorem dX9_about_80 : decode cX9_about 80 = .ok (.aload 4, 2) := by decide +kernel
theorem dX9_about_82 : decode cX9_about 82 = .ok (.getfield 142, 3) := by decide +kernel
theorem dX9_about_85 : decode cX9_about 85 = .ok (.invokestatic 145, 3) := by decide +kernel
theorem dX9_about_88 : decode cX9_about 88 = .ok (.ireturn, 1) := by decide +kernel
theorem dX9_about_89 : decode cX9_about 89 = .ok (.aload 4, 2) := by decide +kernel
theorem dX9_about_91 : decode cX9_about 91 = .ok (.getfield 142, 3) := by decide +kernel
theorem dX9_about_94 : decode cX9_about 94 = .ok (.invokestatic 149, 3) := by decide +kernel
theorem dX9_about_97 : decode cX9_about 97 = .ok (.ireturn, 1) := by decide +kernel
theorem dX9_about_98 : decode cX9_about 98 = .ok (.aload 4, 2) := by decide +kernel
theorem dX9_about_100 : decode cX9_about 100 = .ok (.getfield 152, 3) := by decide +kernel
theorem dX9_about_103 : decode cX9_about 103 = .ok (.ireturn, 1) := by decide +kernel
theorem dX9_about_104 : decode cX9_about 104 = .ok (.aload 4, 2) := by decide +kernel
theorem dX9_about_106 : decode cX9_about 106 = .ok (.getfield 155, 3) := by decide +kernel
theorem dX9_about_109 : decode cX9_about 109 = .ok (.ireturn, 1) := by decide +kernel
theorem dX9_about_110 : decode cX9_about 110 = .ok (.aload 4, 2) := by decide +kernel
theorem dX9_about_112 : decode cX9_about 112 = .ok (.getfield 158, 3) := by decide +kernel
theorem dX9_about_115 : decode cX9_about 115 = .ok (.ireturn, 1) := by decide +kernel
theorem dX9_about_116 : decode cX9_about 116 = .ok (.aload 4, 2) := by decide +kernel
theorem dX9_about_118 : decode cX9_about 118 = .ok (.getfield 161, 3) := by decide +kernel
theorem dX9_about_121 : decode cX9_about 121 = .ok (.ireturn, 1) := by decide +kernel
theorem dX9_about_122 : decode cX9_about 122 = .ok (.aload 4, 2) := by decide +kernel
theorem dX9_about_124 : decode cX9_about 124 = .ok (.getfield 125, 3) := by decide +kernel
theorem dX9_about_127 : decode cX9_about 127 = .ok (.ifCond .eq 7, 3) := by decide +kernel
theorem dX9_about_130 : decode cX9_about 130 = .ok (.iconst 1, 1) := by decide +kernel
theorem dX9_about_131 : decode cX9_about 131 = .ok (.goto 4, 3) := by decide +kernel
theorem dX9_about_134 : decode cX9_about 134 = .ok (.iconst 0, 1) := by decide +kernel
theorem dX9_about_135 : decode cX9_about 135 = .ok (.ireturn, 1) := by decide +kernel
theorem dX9_about_136 : decode cX9_about 136 = .ok (.aload_n 3, 1) := by decide +kernel
theorem dX9_about_137 : decode cX9_about 137 = .ok (.getfield 131, 3) := by decide +kernel
theorem dX9_about_140 : decode cX9_about 140 = .ok (.ireturn, 1) := by decide +kernel
theorem dX9_about_141 : decode cX9_about 141 = .ok (.aload 4, 2) := by decide +kernel
theorem dX9_about_143 : decode cX9_about 143 = .ok (.aload_n 0, 1) := by decide +kernel
theorem dX9_about_144 : decode cX9_about 144 = .ok (.getfield 19, 3) := by decide +kernel
theorem dX9_about_147 : decode cX9_about 147 = .ok (.invokevirtual 164, 3) := by decide +kernel
theorem dX9_about_150 : decode cX9_about 150 = .ok (.ireturn, 1) := by decide +kernel
theorem dX9_about_151 : decode cX9_about 151 = .ok (.aload 4, 2) := by decide +kernel
theorem dX9_about_153 : decode cX9_about 153 = .ok (.getfield 168, 3) := by decide +kernel
theorem dX9_about_156 : decode cX9_about 156 = .ok (.ireturn, 1) := by decide +kernel
theorem dX9_about_157 : decode cX9_about 157 = .ok (.ldc 141, 2) := by decide +kernel
theorem dX9_about_159 : decode cX9_about 159 = .ok (.ireturn, 1) := by decide +kernel
set_option maxRecDepth 20000 in
theorem ggX9_distance_X9_isFlight : GoodIn wsX9_distance wsX9_isFlight := goodIn_r _ [6, 7, 8, 9, 5, 10, 27, 28, 29, 30, 31, 32, 33, 34] (by decide +kernel) (by decide +kernel)
set_option maxRecDepth 20000 in
theorem gX9_distance_X9_isFlight : GoodIn wsX9_distance (wsV RX9 118 RX9 yX9_isFlight wsX9_isFlight) := goodIn_app (goodIn_of _ (by decide +kernel)) ggX9_distance_X9_isFlight
set_option maxRecDepth 20000 in
theorem ggX9_distance_X3_flown : GoodIn wsX9_distance wsX3_flown := goodIn_r _ [15, 16, 17, 18, 19, 5, 20, 21, 22, 23, 24, 25, 26, 35, 36, 37, 38, 39, 40, 41, 42, 43, 44, 45, 46, 47, 48, 49] (by decide +kernel) (by decide +kernel)
set_option maxRecDepth 20000 in
theorem gX9_distance_X3_flown : GoodIn wsX9_distance (wsV RX9 171 RX3 yX3_flown wsX3_flown) := goodIn_app (goodIn_of _ (by decide +kernel)) ggX9_distance_X3_flown
theorem dX9_distance_0 : decode cX9_distance 0 = .ok (.aload_n 0, 1) := by decide +kernel
theorem dX9_distance_1 : decode cX9_distance 1 = .ok (.iload_n 1, 1) := by decide +kernel
theorem dX9_distance_2 : decode cX9_distance 2 = .ok (.invokevirtual 118, 3) := by decide +kernel
theorem dX9_distance_5 : decode cX9_distance 5 = .ok (.ifCond .ne 6, 3) := by decide +kernel
theorem dX9_distance_8 : decode cX9_distance 8 = .ok (.bipush (-2), 2) := by decide +kernel
theorem dX9_distance_10 : decode cX9_distance 10 = .ok (.ireturn, 1) := by decide +kernel
theorem dX9_distance_11 : decode cX9_distance 11 = .ok (.aload_n 0, 1) := by decide +kernel
theorem dX9_distance_12 : decode cX9_distance 12 = .ok (.getfield 25, 3) := by decide +kernel
theorem dX9_distance_15 : decode cX9_distance 15 = .ok (.iload_n 1, 1) := by decide +kernel
theorem dX9_distance_16 : decode cX9_distance 16 = .ok (.aaload, 1) := by decide +kernel
theorem dX9_distance_17 : decode cX9_distance 17 = .ok (.invokevirtual 171, 3) := by decide +kernel
theorem dX9_distance_20 : decode cX9_distance 20 = .ok (.ireturn, 1) := by decide +kernel
set_option maxRecDepth 20000 in
theorem ggX9_plan_X9_mayPlan : GoodIn wsX9_plan wsX9_mayPlan := goodIn_r _ [10, 11, 12, 13, 9, 14, 15, 16, 17, 18, 128, 129, 130, 131, 132, 133, 134, 135] (by decide +kernel) (by decide +kernel)
set_option maxRecDepth 20000 in
theorem gX9_plan_X9_mayPlan : GoodIn wsX9_plan (wsV RX9 175 RX9 yX9_mayPlan wsX9_mayPlan) := goodIn_app (goodIn_of _ (by decide +kernel)) ggX9_plan_X9_mayPlan
set_option maxRecDepth 20000 in
theorem ggX9_plan_X5_has : GoodIn wsX9_plan wsX5_has := goodIn_r _ [23, 24, 25, 17, 9, 18, 151, 152, 153] (by decide +kernel) (by decide +kernel)
set_option maxRecDepth 20000 in
theorem gX9_plan_X5_has : GoodIn wsX9_plan (wsV RX9 80 RX5 yX5_has wsX5_has) := goodIn_app (goodIn_of _ (by decide +kernel)) ggX9_plan_X5_has
set_option maxRecDepth 20000 in
theorem ggX9_plan_X9_cellOf : GoodIn wsX9_plan wsX9_cellOf := goodIn_r _ [28] (by decide +kernel) (by decide +kernel)
set_option maxRecDepth 20000 in
theorem gX9_plan_X9_cellOf : GoodIn wsX9_plan (va_wsS RX9 84 yX9_cellOf wsX9_cellOf) := goodIn_app (goodIn_of _ (by decide +kernel)) ggX9_plan_X9_cellOf
set_option maxRecDepth 20000 in
theorem ggX9_plan_X6_best : GoodIn wsX9_plan wsX6_best := goodIn_r _ [33, 34, 35, 36, 37, 38, 39, 40, 41, 42, 43, 44, 45, 46, 47, 48, 49, 50, 51, 52, 53, 54, 55, 32, 56, 57, 58, 59, 60, 61, 62, 63, 64, 65, 66, 67, 68, 69, 9, 70, 71, 72, 73, 74, 75, 76, 77, 78, 79, 80, 81, 82, 83, 84, 85, 86, 87, 88, 89, 90, 91, 92, 93, 94, 95, 96, 97, 98, 99, 100, 101, 102, 103, 104, 105, 106, 107, 108, 109, 110, 111, 112, 113, 114, 115, 116, 117, 118, 119, 120, 22, 121, 122, 20, 21, 23, 24, 25, 17, 18, 27, 28, 123, 124, 125, 126, 127, 154, 155, 156, 157, 158, 159, 160, 161, 162, 163, 164, 143, 144, 145, 146, 147, 148, 149, 150, 165, 166, 167, 168, 169, 170, 171, 151, 152, 153] (by decide +kernel) (by decide +kernel)
set_option maxRecDepth 20000 in
theorem gX9_plan_X6_best : GoodIn wsX9_plan (wsV RX9 178 RX6 yX6_best wsX6_best) := goodIn_app (goodIn_of _ (by decide +kernel)) ggX9_plan_X6_best
theorem dX9_plan_0 : decode cX9_plan 0 = .ok (.aload_n 0, 1) := by decide +kernel
theorem dX9_plan_1 : decode cX9_plan 1 = .ok (.iload_n 1, 1) := by decide +kernel
theorem dX9_plan_2 : decode cX9_plan 2 = .ok (.iload_n 2, 1) := by decide +kernel
theorem dX9_plan_3 : decode cX9_plan 3 = .ok (.iload_n 3, 1) := by decide +kernel
theorem dX9_plan_4 : decode cX9_plan 4 = .ok (.invokevirtual 175, 3) := by decide +kernel
theorem dX9_plan_7 : decode cX9_plan 7 = .ok (.ifCond .eq 17, 3) := by decide +kernel
theorem dX9_plan_10 : decode cX9_plan 10 = .ok (.aload_n 0, 1) := by decide +kernel
theorem dX9_plan_11 : decode cX9_plan 11 = .ok (.getfield 12, 3) := by decide +kernel
theorem dX9_plan_14 : decode cX9_plan 14 = .ok (.iload 4, 2) := by decide +kernel
theorem dX9_plan_16 : decode cX9_plan 16 = .ok (.iload 5, 2) := by decide +kernel
theorem dX9_plan_18 : decode cX9_plan 18 = .ok (.invokevirtual 80, 3) := by decide +kernel
theorem dX9_plan_21 : decode cX9_plan 21 = .ok (.ifCond .ne 6, 3) := by decide +kernel
theorem dX9_plan_24 : decode cX9_plan 24 = .ok (.bipush (-2), 2) := by decide +kernel
theorem dX9_plan_26 : decode cX9_plan 26 = .ok (.ireturn, 1) := by decide +kernel
theorem dX9_plan_27 : decode cX9_plan 27 = .ok (.aload_n 0, 1) := by decide +kernel
theorem dX9_plan_28 : decode cX9_plan 28 = .ok (.getfield 25, 3) := by decide +kernel
theorem dX9_plan_31 : decode cX9_plan 31 = .ok (.iload_n 1, 1) := by decide +kernel
theorem dX9_plan_32 : decode cX9_plan 32 = .ok (.aaload, 1) := by decide +kernel
theorem dX9_plan_33 : decode cX9_plan 33 = .ok (.getfield 121, 3) := by decide +kernel
theorem dX9_plan_36 : decode cX9_plan 36 = .ok (.astore 6, 2) := by decide +kernel
theorem dX9_plan_38 : decode cX9_plan 38 = .ok (.aload 6, 2) := by decide +kernel
theorem dX9_plan_40 : decode cX9_plan 40 = .ok (.getfield 125, 3) := by decide +kernel
theorem dX9_plan_43 : decode cX9_plan 43 = .ok (.ifCond .eq 6, 3) := by decide +kernel
theorem dX9_plan_46 : decode cX9_plan 46 = .ok (.bipush (-3), 2) := by decide +kernel
theorem dX9_plan_48 : decode cX9_plan 48 = .ok (.ireturn, 1) := by decide +kernel
theorem dX9_plan_49 : decode cX9_plan 49 = .ok (.aload_n 0, 1) := by decide +kernel
theorem dX9_plan_50 : decode cX9_plan 50 = .ok (.getfield 42, 3) := by decide +kernel
theorem dX9_plan_53 : decode cX9_plan 53 = .ok (.aload 6, 2) := by decide +kernel
theorem dX9_plan_55 : decode cX9_plan 55 = .ok (.iload_n 2, 1) := by decide +kernel
theorem dX9_plan_56 : decode cX9_plan 56 = .ok (.iload_n 3, 1) := by decide +kernel
theorem dX9_plan_57 : decode cX9_plan 57 = .ok (.iload 4, 2) := by decide +kernel
theorem dX9_plan_59 : decode cX9_plan 59 = .ok (.iload 5, 2) := by decide +kernel
theorem dX9_plan_61 : decode cX9_plan 61 = .ok (.invokestatic 84, 3) := by decide +kernel
theorem dX9_plan_64 : decode cX9_plan 64 = .ok (.iconst 1, 1) := by decide +kernel
theorem dX9_plan_65 : decode cX9_plan 65 = .ok (.invokevirtual 178, 3) := by decide +kernel
theorem dX9_plan_68 : decode cX9_plan 68 = .ok (.ireturn, 1) := by decide +kernel
set_option maxRecDepth 20000 in
theorem ggX9_away_X9_mayPlan : GoodIn wsX9_away wsX9_mayPlan := goodIn_r _ [10, 11, 12, 13, 9, 14, 15, 16, 17, 18, 126, 127, 128, 129, 130, 131, 132, 133] (by decide +kernel) (by decide +kernel)
set_option maxRecDepth 20000 in
theorem gX9_away_X9_mayPlan : GoodIn wsX9_away (wsV RX9 175 RX9 yX9_mayPlan wsX9_mayPlan) := goodIn_app (goodIn_of _ (by decide +kernel)) ggX9_away_X9_mayPlan
set_option maxRecDepth 20000 in
theorem ggX9_away_X6_best : GoodIn wsX9_away wsX6_best := goodIn_r _ [23, 24, 25, 26, 27, 28, 29, 30, 31, 32, 33, 34, 35, 36, 37, 38, 39, 40, 41, 42, 43, 44, 45, 22, 46, 47, 48, 49, 50, 51, 52, 53, 54, 55, 56, 57, 58, 59, 9, 60, 61, 62, 63, 64, 65, 66, 67, 68, 69, 70, 71, 72, 73, 74, 75, 76, 77, 78, 79, 80, 81, 82, 83, 84, 85, 86, 87, 88, 89, 90, 91, 92, 93, 94, 95, 96, 97, 98, 99, 100, 101, 102, 103, 104, 105, 106, 107, 108, 109, 110, 111, 112, 113, 114, 115, 116, 117, 118, 17, 18, 119, 120, 121, 122, 123, 124, 125, 149, 150, 151, 152, 153, 154, 155, 156, 157, 158, 159, 141, 142, 143, 144, 145, 146, 147, 148, 160, 161, 162, 163, 164, 165, 166, 167, 168, 169] (by decide +kernel) (by decide +kernel)
set_option maxRecDepth 20000 in
theorem gX9_away_X6_best : GoodIn wsX9_away (wsV RX9 178 RX6 yX6_best wsX6_best) := goodIn_app (goodIn_of _ (by decide +kernel)) ggX9_away_X6_best
theorem dX9_away_0 : decode cX9_away 0 = .ok (.aload_n 0, 1) := by decide +kernel
theorem dX9_away_1 : decode cX9_away 1 = .ok (.iload_n 1, 1) := by decide +kernel
theorem dX9_away_2 : decode cX9_away 2 = .ok (.iload_n 2, 1) := by decide +kernel
theorem dX9_away_3 : decode cX9_away 3 = .ok (.iload_n 3, 1) := by decide +kernel
theorem dX9_away_4 : decode cX9_away 4 = .ok (.invokevirtual 175, 3) := by decide +kernel
theorem dX9_away_7 : decode cX9_away 7 = .ok (.ifCond .ne 6, 3) := by decide +kernel
theorem dX9_away_10 : decode cX9_away 10 = .ok (.bipush (-2), 2) := by decide +kernel
theorem dX9_away_12 : decode cX9_away 12 = .ok (.ireturn, 1) := by decide +kernel
theorem dX9_away_13 : decode cX9_away 13 = .ok (.aload_n 0, 1) := by decide +kernel
theorem dX9_away_14 : decode cX9_away 14 = .ok (.getfield 25, 3) := by decide +kernel
theorem dX9_away_17 : decode cX9_away 17 = .ok (.iload_n 1, 1) := by decide +kernel
theorem dX9_away_18 : decode cX9_away 18 = .ok (.aaload, 1) := by decide +kernel
theorem dX9_away_19 : decode cX9_away 19 = .ok (.getfield 121, 3) := by decide +kernel
theorem dX9_away_22 : decode cX9_away 22 = .ok (.astore 4, 2) := by decide +kernel
theorem dX9_away_24 : decode cX9_away 24 = .ok (.aload 4, 2) := by decide +kernel
theorem dX9_away_26 : decode cX9_away 26 = .ok (.getfield 125, 3) := by decide +kernel
theorem dX9_away_29 : decode cX9_away 29 = .ok (.ifCond .eq 6, 3) := by decide +kernel
theorem dX9_away_32 : decode cX9_away 32 = .ok (.bipush (-3), 2) := by decide +kernel
theorem dX9_away_34 : decode cX9_away 34 = .ok (.ireturn, 1) := by decide +kernel
theorem dX9_away_35 : decode cX9_away 35 = .ok (.aload_n 0, 1) := by decide +kernel
theorem dX9_away_36 : decode cX9_away 36 = .ok (.getfield 42, 3) := by decide +kernel
theorem dX9_away_39 : decode cX9_away 39 = .ok (.aload 4, 2) := by decide +kernel
theorem dX9_away_41 : decode cX9_away 41 = .ok (.iload_n 2, 1) := by decide +kernel
theorem dX9_away_42 : decode cX9_away 42 = .ok (.iload_n 3, 1) := by decide +kernel
theorem dX9_away_43 : decode cX9_away 43 = .ok (.aload_n 0, 1) := by decide +kernel
theorem dX9_away_44 : decode cX9_away 44 = .ok (.getfield 25, 3) := by decide +kernel
theorem dX9_away_47 : decode cX9_away 47 = .ok (.iload_n 1, 1) := by decide +kernel
theorem dX9_away_48 : decode cX9_away 48 = .ok (.aaload, 1) := by decide +kernel
theorem dX9_away_49 : decode cX9_away 49 = .ok (.getfield 182, 3) := by decide +kernel
theorem dX9_away_52 : decode cX9_away 52 = .ok (.iconst 0, 1) := by decide +kernel
theorem dX9_away_53 : decode cX9_away 53 = .ok (.invokevirtual 178, 3) := by decide +kernel
theorem dX9_away_56 : decode cX9_away 56 = .ok (.ireturn, 1) := by decide +kernel
set_option maxRecDepth 20000 in
theorem ggX9_order_X9_within : GoodIn wsX9_order wsX9_within := goodIn_r _ [7] (by decide +kernel) (by decide +kernel)
set_option maxRecDepth 20000 in
theorem gX9_order_X9_within : GoodIn wsX9_order (va_wsS RX9 69 yX9_within wsX9_within) := goodIn_app (goodIn_of _ (by decide +kernel)) ggX9_order_X9_within
theorem dX9_order_0 : decode cX9_order 0 = .ok (.iload_n 1, 1) := by decide +kernel
theorem dX9_order_1 : decode cX9_order 1 = .ok (.iconst 0, 1) := by decide +kernel
theorem dX9_order_2 : decode cX9_order 2 = .ok (.aload_n 0, 1) := by decide +kernel
theorem dX9_order_3 : decode cX9_order 3 = .ok (.getfield 42, 3) := by decide +kernel
theorem dX9_order_6 : decode cX9_order 6 = .ok (.getfield 185, 3) := by decide +kernel
theorem dX9_order_9 : decode cX9_order 9 = .ok (.iconst 1, 1) := by decide +kernel
theorem dX9_order_10 : decode cX9_order 10 = .ok (.isub, 1) := by decide +kernel
theorem dX9_order_11 : decode cX9_order 11 = .ok (.invokestatic 69, 3) := by decide +kernel
theorem dX9_order_14 : decode cX9_order 14 = .ok (.ifCond .ne 5, 3) := by decide +kernel
theorem dX9_order_17 : decode cX9_order 17 = .ok (.iconst (-1), 1) := by decide +kernel
theorem dX9_order_18 : decode cX9_order 18 = .ok (.ireturn, 1) := by decide +kernel
theorem dX9_order_19 : decode cX9_order 19 = .ok (.aload_n 0, 1) := by decide +kernel
theorem dX9_order_20 : decode cX9_order 20 = .ok (.getfield 42, 3) := by decide +kernel
theorem dX9_order_23 : decode cX9_order 23 = .ok (.getfield 188, 3) := by decide +kernel
theorem dX9_order_26 : decode cX9_order 26 = .ok (.iload_n 1, 1) := by decide +kernel
theorem dX9_order_27 : decode cX9_order 27 = .ok (.iaload, 1) := by decide +kernel
theorem dX9_order_28 : decode cX9_order 28 = .ok (.ireturn, 1) := by decide +kernel
set_option maxRecDepth 20000 in
theorem ggX9_entry_X9_isFlight : GoodIn wsX9_entry wsX9_isFlight := goodIn_r _ [9, 10, 11, 12, 8, 13, 26, 27, 28, 29, 30, 31, 32, 33] (by decide +kernel) (by decide +kernel)
set_option maxRecDepth 20000 in
theorem gX9_entry_X9_isFlight : GoodIn wsX9_entry (wsV RX9 118 RX9 yX9_isFlight wsX9_isFlight) := goodIn_app (goodIn_of _ (by decide +kernel)) ggX9_entry_X9_isFlight
set_option maxRecDepth 20000 in
theorem ggX9_entry_X9_within : GoodIn wsX9_entry wsX9_within := goodIn_r _ [13] (by decide +kernel) (by decide +kernel)
set_option maxRecDepth 20000 in
theorem gX9_entry_X9_within : GoodIn wsX9_entry (va_wsS RX9 69 yX9_within wsX9_within) := goodIn_app (goodIn_of _ (by decide +kernel)) ggX9_entry_X9_within
set_option maxRecDepth 20000 in
theorem ggX9_entry_X9_levelOfPlace : GoodIn wsX9_entry wsX9_levelOfPlace := goodIn_r _ [16] (by decide +kernel) (by decide +kernel)
set_option maxRecDepth 20000 in
theorem gX9_entry_X9_levelOfPlace : GoodIn wsX9_entry (va_wsS RX9 197 yX9_levelOfPlace wsX9_levelOfPlace) := goodIn_app (goodIn_of _ (by decide +kernel)) ggX9_entry_X9_levelOfPlace
set_option maxRecDepth 20000 in
theorem ggX9_entry_X9_cellOfPlace : GoodIn wsX9_entry wsX9_cellOfPlace := goodIn_r _ [19] (by decide +kernel) (by decide +kernel)
set_option maxRecDepth 20000 in
theorem gX9_entry_X9_cellOfPlace : GoodIn wsX9_entry (va_wsS RX9 200 yX9_cellOfPlace wsX9_cellOfPlace) := goodIn_app (goodIn_of _ (by decide +kernel)) ggX9_entry_X9_cellOfPlace
set_option maxRecDepth 20000 in
theorem ggX9_entry_X9_xOf : GoodIn wsX9_entry wsX9_xOf := goodIn_r _ [22] (by decide +kernel) (by decide +kernel)
set_option maxRecDepth 20000 in
theorem gX9_entry_X9_xOf : GoodIn wsX9_entry (va_wsS RX9 145 yX9_xOf wsX9_xOf) := goodIn_app (goodIn_of _ (by decide +kernel)) ggX9_entry_X9_xOf
set_option maxRecDepth 20000 in
theorem ggX9_entry_X9_yOf : GoodIn wsX9_entry wsX9_yOf := goodIn_r _ [25] (by decide +kernel) (by decide +kernel)
set_option maxRecDepth 20000 in
theorem gX9_entry_X9_yOf : GoodIn wsX9_entry (va_wsS RX9 149 yX9_yOf wsX9_yOf) := goodIn_app (goodIn_of _ (by decide +kernel)) ggX9_entry_X9_yOf
theorem dX9_entry_0 : decode cX9_entry 0 = .ok (.aload_n 0, 1) := by decide +kernel
theorem dX9_entry_1 : decode cX9_entry 1 = .ok (.iload_n 1, 1) := by decide +kernel
theorem dX9_entry_2 : decode cX9_entry 2 = .ok (.invokevirtual 118, 3) := by decide +kernel
theorem dX9_entry_5 : decode cX9_entry 5 = .ok (.ifCond .eq 12, 3) := by decide +kernel
theorem dX9_entry_8 : decode cX9_entry 8 = .ok (.iload_n 3, 1) := by decide +kernel
theorem dX9_entry_9 : decode cX9_entry 9 = .ok (.iconst 0, 1) := by decide +kernel
theorem dX9_entry_10 : decode cX9_entry 10 = .ok (.iconst 2, 1) := by decide +kernel
theorem dX9_entry_11 : decode cX9_entry 11 = .ok (.invokestatic 69, 3) := by decide +kernel
theorem dX9_entry_14 : decode cX9_entry 14 = .ok (.ifCond .ne 6, 3) := by decide +kernel
theorem dX9_entry_17 : decode cX9_entry 17 = .ok (.bipush (-2), 2) := by decide +kernel
theorem dX9_entry_19 : decode cX9_entry 19 = .ok (.ireturn, 1) := by decide +kernel
theorem dX9_entry_20 : decode cX9_entry 20 = .ok (.aload_n 0, 1) := by decide +kernel
theorem dX9_entry_21 : decode cX9_entry 21 = .ok (.getfield 25, 3) := by decide +kernel
theorem dX9_entry_24 : decode cX9_entry 24 = .ok (.iload_n 1, 1) := by decide +kernel
theorem dX9_entry_25 : decode cX9_entry 25 = .ok (.aaload, 1) := by decide +kernel
theorem dX9_entry_26 : decode cX9_entry 26 = .ok (.astore 4, 2) := by decide +kernel
theorem dX9_entry_28 : decode cX9_entry 28 = .ok (.iload_n 2, 1) := by decide +kernel
theorem dX9_entry_29 : decode cX9_entry 29 = .ok (.iconst 0, 1) := by decide +kernel
theorem dX9_entry_30 : decode cX9_entry 30 = .ok (.aload 4, 2) := by decide +kernel
theorem dX9_entry_32 : decode cX9_entry 32 = .ok (.getfield 131, 3) := by decide +kernel
theorem dX9_entry_35 : decode cX9_entry 35 = .ok (.iconst 1, 1) := by decide +kernel
theorem dX9_entry_36 : decode cX9_entry 36 = .ok (.isub, 1) := by decide +kernel
theorem dX9_entry_37 : decode cX9_entry 37 = .ok (.invokestatic 69, 3) := by decide +kernel
theorem dX9_entry_40 : decode cX9_entry 40 = .ok (.ifCond .eq 13, 3) := by decide +kernel
theorem dX9_entry_43 : decode cX9_entry 43 = .ok (.aload 4, 2) := by decide +kernel
theorem dX9_entry_45 : decode cX9_entry 45 = .ok (.getfield 191, 3) := by decide +kernel
theorem dX9_entry_48 : decode cX9_entry 48 = .ok (.iload_n 2, 1) := by decide +kernel
theorem dX9_entry_49 : decode cX9_entry 49 = .ok (.baload, 1) := by decide +kernel
theorem dX9_entry_50 : decode cX9_entry 50 = .ok (.ifCond .eq 5, 3) := by decide +kernel
theorem dX9_entry_53 : decode cX9_entry 53 = .ok (.iconst (-1), 1) := by decide +kernel
theorem dX9_entry_54 : decode cX9_entry 54 = .ok (.ireturn, 1) := by decide +kernel
theorem dX9_entry_55 : decode cX9_entry 55 = .ok (.aload 4, 2) := by decide +kernel
theorem dX9_entry_57 : decode cX9_entry 57 = .ok (.getfield 194, 3) := by decide +kernel
theorem dX9_entry_60 : decode cX9_entry 60 = .ok (.iload_n 2, 1) := by decide +kernel
theorem dX9_entry_61 : decode cX9_entry 61 = .ok (.iaload, 1) := by decide +kernel
theorem dX9_entry_62 : decode cX9_entry 62 = .ok (.istore 5, 2) := by decide +kernel
theorem dX9_entry_64 : decode cX9_entry 64 = .ok (.iload_n 3, 1) := by decide +kernel
theorem dX9_entry_65 : decode cX9_entry 65 = .ok (.iconst 2, 1) := by decide +kernel
theorem dX9_entry_66 : decode cX9_entry 66 = .ok (.if_icmp .ne 9, 3) := by decide +kernel
theorem dX9_entry_69 : decode cX9_entry 69 = .ok (.iload 5, 2) := by decide +kernel
theorem dX9_entry_71 : decode cX9_entry 71 = .ok (.invokestatic 197, 3) := by decide +kernel
theorem dX9_entry_74 : decode cX9_entry 74 = .ok (.ireturn, 1) := by decide +kernel
theorem dX9_entry_75 : decode cX9_entry 75 = .ok (.iload_n 3, 1) := by decide +kernel
theorem dX9_entry_76 : decode cX9_entry 76 = .ok (.ifCond .ne 14, 3) := by decide +kernel
theorem dX9_entry_79 : decode cX9_entry 79 = .ok (.iload 5, 2) := by decide +kernel
theorem dX9_entry_81 : decode cX9_entry 81 = .ok (.invokestatic 200, 3) := by decide +kernel
theorem dX9_entry_84 : decode cX9_entry 84 = .ok (.invokestatic 145, 3) := by decide +kernel
theorem dX9_entry_87 : decode cX9_entry 87 = .ok (.goto 11, 3) := by decide +kernel
theorem dX9_entry_90 : decode cX9_entry 90 = .ok (.iload 5, 2) := by decide +kernel
theorem dX9_entry_92 : decode cX9_entry 92 = .ok (.invokestatic 200, 3) := by decide +kernel
theorem dX9_entry_95 : decode cX9_entry 95 = .ok (.invokestatic 149, 3) := by decide +kernel
theorem dX9_entry_98 : decode cX9_entry 98 = .ok (.ireturn, 1) := by decide +kernel
set_option maxRecDepth 20000 in
theorem ggX9_lose_X9_isFlight : GoodIn wsX9_lose wsX9_isFlight := goodIn_r _ [6, 7, 8, 9, 5, 10, 23, 24, 25, 26, 27, 28, 29, 30] (by decide +kernel) (by decide +kernel)
set_option maxRecDepth 20000 in
theorem gX9_lose_X9_isFlight : GoodIn wsX9_lose (wsV RX9 118 RX9 yX9_isFlight wsX9_isFlight) := goodIn_app (goodIn_of _ (by decide +kernel)) ggX9_lose_X9_isFlight
set_option maxRecDepth 20000 in
theorem ggX9_lose_X3_forget : GoodIn wsX9_lose wsX3_forget := goodIn_r _ [15, 16, 17, 18, 19, 20, 21, 22, 31, 32, 33, 34, 35, 36, 37] (by decide +kernel) (by decide +kernel)
set_option maxRecDepth 20000 in
theorem gX9_lose_X3_forget : GoodIn wsX9_lose (wsV RX9 203 RX3 yX3_forget wsX3_forget) := goodIn_app (goodIn_of _ (by decide +kernel)) ggX9_lose_X3_forget
theorem dX9_lose_0 : decode cX9_lose 0 = .ok (.aload_n 0, 1) := by decide +kernel
theorem dX9_lose_1 : decode cX9_lose 1 = .ok (.iload_n 1, 1) := by decide +kernel
theorem dX9_lose_2 : decode cX9_lose 2 = .ok (.invokevirtual 118, 3) := by decide +kernel
theorem dX9_lose_5 : decode cX9_lose 5 = .ok (.ifCond .eq 13, 3) := by decide +kernel
theorem dX9_lose_8 : decode cX9_lose 8 = .ok (.iload_n 2, 1) := by decide +kernel
theorem dX9_lose_9 : decode cX9_lose 9 = .ok (.iconst 1, 1) := by decide +kernel
theorem dX9_lose_10 : decode cX9_lose 10 = .ok (.if_icmp .lt 8, 3) := by decide +kernel
theorem dX9_lose_13 : decode cX9_lose 13 = .ok (.iload_n 3, 1) := by decide +kernel
theorem dX9_lose_14 : decode cX9_lose 14 = .ok (.iload_n 2, 1) := by decide +kernel
theorem dX9_lose_15 : decode cX9_lose 15 = .ok (.if_icmp .ge 6, 3) := by decide +kernel
theorem dX9_lose_18 : decode cX9_lose 18 = .ok (.bipush (-2), 2) := by decide +kernel
theorem dX9_lose_20 : decode cX9_lose 20 = .ok (.ireturn, 1) := by decide +kernel
theorem dX9_lose_21 : decode cX9_lose 21 = .ok (.aload_n 0, 1) := by decide +kernel
theorem dX9_lose_22 : decode cX9_lose 22 = .ok (.getfield 25, 3) := by decide +kernel
theorem dX9_lose_25 : decode cX9_lose 25 = .ok (.iload_n 1, 1) := by decide +kernel
theorem dX9_lose_26 : decode cX9_lose 26 = .ok (.aaload, 1) := by decide +kernel
theorem dX9_lose_27 : decode cX9_lose 27 = .ok (.iload_n 2, 1) := by decide +kernel
theorem dX9_lose_28 : decode cX9_lose 28 = .ok (.iload_n 3, 1) := by decide +kernel
theorem dX9_lose_29 : decode cX9_lose 29 = .ok (.invokevirtual 203, 3) := by decide +kernel
theorem dX9_lose_32 : decode cX9_lose 32 = .ok (.ireturn, 1) := by decide +kernel
set_option maxRecDepth 20000 in
theorem ggX9_judge_X9_isFlight : GoodIn wsX9_judge wsX9_isFlight := goodIn_r _ [7, 8, 9, 10, 6, 11, 98, 99, 100, 101, 102, 103, 104, 105] (by decide +kernel) (by decide +kernel)
set_option maxRecDepth 20000 in
theorem gX9_judge_X9_isFlight : GoodIn wsX9_judge (wsV RX9 118 RX9 yX9_isFlight wsX9_isFlight) := goodIn_app (goodIn_of _ (by decide +kernel)) ggX9_judge_X9_isFlight
set_option maxRecDepth 20000 in
theorem ggX9_judge_X7_follow : GoodIn wsX9_judge wsX7_follow := goodIn_r _ [16, 17, 18, 19, 20, 21, 22, 23, 24, 25, 26, 27, 28, 29, 30, 31, 32, 33, 34, 15, 35, 36, 37, 38, 6, 39, 40, 41, 42, 43, 44, 45, 46, 47, 48, 49, 50, 51, 52, 53, 54, 55, 56, 57, 58, 59, 60, 61, 62, 63, 64, 65, 66, 67, 68, 69, 70, 71, 72, 73, 74, 75, 76, 77, 78, 79, 80, 81, 82, 10, 11, 83, 84, 85, 86, 87, 88, 89, 90, 91, 92, 93, 106, 107, 108, 109, 110, 111, 112, 113, 114, 115, 116, 117, 118, 119, 120, 121, 122, 123, 124, 125, 126, 127] (by decide +kernel) (by decide +kernel)
set_option maxRecDepth 20000 in
theorem gX9_judge_X7_follow : GoodIn wsX9_judge (wsV RX9 206 RX7 yX7_follow wsX7_follow) := goodIn_app (goodIn_of _ (by decide +kernel)) ggX9_judge_X7_follow
set_option maxRecDepth 20000 in
theorem ggX9_judge_X7_verdict : GoodIn wsX9_judge wsX7_verdict := goodIn_r _ [97, 91, 92, 106, 107, 108, 109, 110, 111] (by decide +kernel) (by decide +kernel)
set_option maxRecDepth 20000 in
theorem gX9_judge_X7_verdict : GoodIn wsX9_judge (wsV RX9 210 RX7 yX7_verdict wsX7_verdict) := goodIn_app (goodIn_of _ (by decide +kernel)) ggX9_judge_X7_verdict
theorem dX9_judge_0 : decode cX9_judge 0 = .ok (.aload_n 0, 1) := by decide +kernel
theorem dX9_judge_1 : decode cX9_judge 1 = .ok (.iload_n 1, 1) := by decide +kernel
theorem dX9_judge_2 : decode cX9_judge 2 = .ok (.invokevirtual 118, 3) := by decide +kernel
theorem dX9_judge_5 : decode cX9_judge 5 = .ok (.ifCond .ne 6, 3) := by decide +kernel
theorem dX9_judge_8 : decode cX9_judge 8 = .ok (.bipush (-2), 2) := by decide +kernel
theorem dX9_judge_10 : decode cX9_judge 10 = .ok (.ireturn, 1) := by decide +kernel
theorem dX9_judge_11 : decode cX9_judge 11 = .ok (.aload_n 0, 1) := by decide +kernel
theorem dX9_judge_12 : decode cX9_judge 12 = .ok (.getfield 55, 3) := by decide +kernel
theorem dX9_judge_15 : decode cX9_judge 15 = .ok (.aload_n 0, 1) := by decide +kernel
theorem dX9_judge_16 : decode cX9_judge 16 = .ok (.getfield 25, 3) := by decide +kernel
theorem dX9_judge_19 : decode cX9_judge 19 = .ok (.iload_n 1, 1) := by decide +kernel
theorem dX9_judge_20 : decode cX9_judge 20 = .ok (.aaload, 1) := by decide +kernel
theorem dX9_judge_21 : decode cX9_judge 21 = .ok (.invokevirtual 206, 3) := by decide +kernel
theorem dX9_judge_24 : decode cX9_judge 24 = .ok (.aload_n 0, 1) := by decide +kernel
theorem dX9_judge_25 : decode cX9_judge 25 = .ok (.getfield 55, 3) := by decide +kernel
theorem dX9_judge_28 : decode cX9_judge 28 = .ok (.invokevirtual 210, 3) := by decide +kernel
theorem dX9_judge_31 : decode cX9_judge 31 = .ok (.ireturn, 1) := by decide +kernel
set_option maxRecDepth 20000 in
theorem ggX9_ways_X9_isFlight : GoodIn wsX9_ways wsX9_isFlight := goodIn_r _ [14, 15, 16, 17, 13, 18, 98, 99, 100, 101, 102, 103, 104, 105] (by decide +kernel) (by decide +kernel)
set_option maxRecDepth 20000 in
theorem gX9_ways_X9_isFlight : GoodIn wsX9_ways (wsV RX9 118 RX9 yX9_isFlight wsX9_isFlight) := goodIn_app (goodIn_of _ (by decide +kernel)) ggX9_ways_X9_isFlight
set_option maxRecDepth 20000 in
theorem ggX9_ways_X7_follow : GoodIn wsX9_ways wsX7_follow := goodIn_r _ [23, 24, 25, 26, 27, 28, 29, 30, 31, 32, 33, 34, 35, 36, 37, 38, 39, 40, 41, 22, 42, 43, 44, 45, 13, 46, 47, 48, 49, 50, 51, 52, 7, 8, 9, 53, 54, 55, 56, 57, 58, 59, 60, 61, 62, 63, 64, 65, 66, 67, 68, 69, 70, 71, 72, 73, 74, 75, 76, 77, 78, 79, 80, 81, 82, 83, 84, 85, 86, 17, 18, 87, 88, 89, 90, 91, 92, 93, 94, 95, 96, 97, 106, 107, 108, 109, 110, 111, 112, 113, 114, 115, 116, 117, 118, 119, 120, 121, 122, 123, 124, 125, 126, 127] (by decide +kernel) (by decide +kernel)
set_option maxRecDepth 20000 in
theorem gX9_ways_X7_follow : GoodIn wsX9_ways (wsV RX9 206 RX7 yX7_follow wsX7_follow) := goodIn_app (goodIn_of _ (by decide +kernel)) ggX9_ways_X7_follow
theorem dX9_ways_0 : decode cX9_ways 0 = .ok (.aload_n 0, 1) := by decide +kernel
theorem dX9_ways_1 : decode cX9_ways 1 = .ok (.iload_n 1, 1) := by decide +kernel
theorem dX9_ways_2 : decode cX9_ways 2 = .ok (.invokevirtual 118, 3) := by decide +kernel
theorem dX9_ways_5 : decode cX9_ways 5 = .ok (.ifCond .ne 6, 3) := by decide +kernel
theorem dX9_ways_8 : decode cX9_ways 8 = .ok (.bipush (-2), 2) := by decide +kernel
theorem dX9_ways_10 : decode cX9_ways 10 = .ok (.ireturn, 1) := by decide +kernel
theorem dX9_ways_11 : decode cX9_ways 11 = .ok (.aload_n 0, 1) := by decide +kernel
theorem dX9_ways_12 : decode cX9_ways 12 = .ok (.getfield 55, 3) := by decide +kernel
theorem dX9_ways_15 : decode cX9_ways 15 = .ok (.aload_n 0, 1) := by decide +kernel
theorem dX9_ways_16 : decode cX9_ways 16 = .ok (.getfield 25, 3) := by decide +kernel
theorem dX9_ways_19 : decode cX9_ways 19 = .ok (.iload_n 1, 1) := by decide +kernel
theorem dX9_ways_20 : decode cX9_ways 20 = .ok (.aaload, 1) := by decide +kernel
theorem dX9_ways_21 : decode cX9_ways 21 = .ok (.invokevirtual 206, 3) := by decide +kernel
theorem dX9_ways_24 : decode cX9_ways 24 = .ok (.iload_n 2, 1) := by decide +kernel
theorem dX9_ways_25 : decode cX9_ways 25 = .ok (.ifCond .eq 13, 3) := by decide +kernel
theorem dX9_ways_28 : decode cX9_ways 28 = .ok (.aload_n 0, 1) := by decide +kernel
theorem dX9_ways_29 : decode cX9_ways 29 = .ok (.getfield 55, 3) := by decide +kernel
theorem dX9_ways_32 : decode cX9_ways 32 = .ok (.getfield 213, 3) := by decide +kernel
theorem dX9_ways_35 : decode cX9_ways 35 = .ok (.goto 23, 3) := by decide +kernel
theorem dX9_ways_38 : decode cX9_ways 38 = .ok (.ldc 216, 2) := by decide +kernel
theorem dX9_ways_40 : decode cX9_ways 40 = .ok (.aload_n 0, 1) := by decide +kernel
theorem dX9_ways_41 : decode cX9_ways 41 = .ok (.getfield 55, 3) := by decide +kernel
theorem dX9_ways_44 : decode cX9_ways 44 = .ok (.getfield 217, 3) := by decide +kernel
theorem dX9_ways_47 : decode cX9_ways 47 = .ok (.aload_n 0, 1) := by decide +kernel
theorem dX9_ways_48 : decode cX9_ways 48 = .ok (.getfield 55, 3) := by decide +kernel
theorem dX9_ways_51 : decode cX9_ways 51 = .ok (.getfield 213, 3) := by decide +kernel
theorem dX9_ways_54 : decode cX9_ways 54 = .ok (.iadd, 1) := by decide +kernel
theorem dX9_ways_55 : decode cX9_ways 55 = .ok (.invokestatic 220, 3) := by decide +kernel
theorem dX9_ways_58 : decode cX9_ways 58 = .ok (.ireturn, 1) := by decide +kernel
set_option maxRecDepth 20000 in
theorem ggX9_chaser_X5_has : GoodIn wsX9_chaser wsX5_has := goodIn_r _ [9, 10, 11, 12, 13, 14, 35, 36, 37] (by decide +kernel) (by decide +kernel)
set_option maxRecDepth 20000 in
theorem gX9_chaser_X5_has : GoodIn wsX9_chaser (wsV RX9 80 RX5 yX5_has wsX5_has) := goodIn_app (goodIn_of _ (by decide +kernel)) ggX9_chaser_X5_has
set_option maxRecDepth 20000 in
theorem ggX9_chaser_X9_within : GoodIn wsX9_chaser wsX9_within := goodIn_r _ [14] (by decide +kernel) (by decide +kernel)
set_option maxRecDepth 20000 in
theorem gX9_chaser_X9_within : GoodIn wsX9_chaser (va_wsS RX9 69 yX9_within wsX9_within) := goodIn_app (goodIn_of _ (by decide +kernel)) ggX9_chaser_X9_within
set_option maxRecDepth 20000 in
theorem ggX9_chaser_X9_cellOf : GoodIn wsX9_chaser wsX9_cellOf := goodIn_r _ [18] (by decide +kernel) (by decide +kernel)
set_option maxRecDepth 20000 in
theorem gX9_chaser_X9_cellOf : GoodIn wsX9_chaser (va_wsS RX9 84 yX9_cellOf wsX9_cellOf) := goodIn_app (goodIn_of _ (by decide +kernel)) ggX9_chaser_X9_cellOf
set_option maxRecDepth 20000 in
theorem ggX9_chaser_X2_add : GoodIn wsX9_chaser wsX2_add := goodIn_r _ [23, 24, 25, 26, 38, 39, 40, 41, 42, 43] (by decide +kernel) (by decide +kernel)
set_option maxRecDepth 20000 in
theorem gX9_chaser_X2_add : GoodIn wsX9_chaser (wsV RX9 225 RX2 yX2_add wsX2_add) := goodIn_app (goodIn_of _ (by decide +kernel)) ggX9_chaser_X2_add
theorem dX9_chaser_0 : decode cX9_chaser 0 = .ok (.aload_n 0, 1) := by decide +kernel
theorem dX9_chaser_1 : decode cX9_chaser 1 = .ok (.getfield 12, 3) := by decide +kernel
theorem dX9_chaser_4 : decode cX9_chaser 4 = .ok (.iload_n 1, 1) := by decide +kernel
theorem dX9_chaser_5 : decode cX9_chaser 5 = .ok (.iload_n 2, 1) := by decide +kernel
theorem dX9_chaser_6 : decode cX9_chaser 6 = .ok (.invokevirtual 80, 3) := by decide +kernel
theorem dX9_chaser_9 : decode cX9_chaser 9 = .ok (.ifCond .eq 12, 3) := by decide +kernel
theorem dX9_chaser_12 : decode cX9_chaser 12 = .ok (.iload_n 3, 1) := by decide +kernel
theorem dX9_chaser_13 : decode cX9_chaser 13 = .ok (.iconst 1, 1) := by decide +kernel
theorem dX9_chaser_14 : decode cX9_chaser 14 = .ok (.iconst 5, 1) := by decide +kernel
theorem dX9_chaser_15 : decode cX9_chaser 15 = .ok (.invokestatic 69, 3) := by decide +kernel
theorem dX9_chaser_18 : decode cX9_chaser 18 = .ok (.ifCond .ne 6, 3) := by decide +kernel
theorem dX9_chaser_21 : decode cX9_chaser 21 = .ok (.bipush (-2), 2) := by decide +kernel
theorem dX9_chaser_23 : decode cX9_chaser 23 = .ok (.ireturn, 1) := by decide +kernel
theorem dX9_chaser_24 : decode cX9_chaser 24 = .ok (.iload_n 1, 1) := by decide +kernel
theorem dX9_chaser_25 : decode cX9_chaser 25 = .ok (.iload_n 2, 1) := by decide +kernel
theorem dX9_chaser_26 : decode cX9_chaser 26 = .ok (.invokestatic 84, 3) := by decide +kernel
theorem dX9_chaser_29 : decode cX9_chaser 29 = .ok (.istore 4, 2) := by decide +kernel
theorem dX9_chaser_31 : decode cX9_chaser 31 = .ok (.aload_n 0, 1) := by decide +kernel
theorem dX9_chaser_32 : decode cX9_chaser 32 = .ok (.getfield 12, 3) := by decide +kernel
theorem dX9_chaser_35 : decode cX9_chaser 35 = .ok (.getfield 92, 3) := by decide +kernel
theorem dX9_chaser_38 : decode cX9_chaser 38 = .ok (.iload 4, 2) := by decide +kernel
theorem dX9_chaser_40 : decode cX9_chaser 40 = .ok (.iaload, 1) := by decide +kernel
theorem dX9_chaser_41 : decode cX9_chaser 41 = .ok (.iconst 1, 1) := by decide +kernel
theorem dX9_chaser_42 : decode cX9_chaser 42 = .ok (.if_icmp .ne 6, 3) := by decide +kernel
theorem dX9_chaser_45 : decode cX9_chaser 45 = .ok (.bipush (-3), 2) := by decide +kernel
theorem dX9_chaser_47 : decode cX9_chaser 47 = .ok (.ireturn, 1) := by decide +kernel
theorem dX9_chaser_48 : decode cX9_chaser 48 = .ok (.aload_n 0, 1) := by decide +kernel
theorem dX9_chaser_49 : decode cX9_chaser 49 = .ok (.getfield 64, 3) := by decide +kernel
theorem dX9_chaser_52 : decode cX9_chaser 52 = .ok (.getfield 77, 3) := by decide +kernel
theorem dX9_chaser_55 : decode cX9_chaser 55 = .ok (.iconst 4, 1) := by decide +kernel
theorem dX9_chaser_56 : decode cX9_chaser 56 = .ok (.if_icmp .lt 6, 3) := by decide +kernel
theorem dX9_chaser_59 : decode cX9_chaser 59 = .ok (.bipush (-4), 2) := by decide +kernel
theorem dX9_chaser_61 : decode cX9_chaser 61 = .ok (.ireturn, 1) := by decide +kernel
theorem dX9_chaser_62 : decode cX9_chaser 62 = .ok (.aload_n 0, 1) := by decide +kernel
theorem dX9_chaser_63 : decode cX9_chaser 63 = .ok (.getfield 64, 3) := by decide +kernel
theorem dX9_chaser_66 : decode cX9_chaser 66 = .ok (.iload 4, 2) := by decide +kernel
theorem dX9_chaser_68 : decode cX9_chaser 68 = .ok (.iload_n 3, 1) := by decide +kernel
theorem dX9_chaser_69 : decode cX9_chaser 69 = .ok (.invokevirtual 225, 3) := by decide +kernel
theorem dX9_chaser_72 : decode cX9_chaser 72 = .ok (.aload_n 0, 1) := by decide +kernel
theorem dX9_chaser_73 : decode cX9_chaser 73 = .ok (.getfield 64, 3) := by decide +kernel
theorem dX9_chaser_76 : decode cX9_chaser 76 = .ok (.getfield 77, 3) := by decide +kernel
theorem dX9_chaser_79 : decode cX9_chaser 79 = .ok (.iconst 1, 1) := by decide +kernel
theorem dX9_chaser_80 : decode cX9_chaser 80 = .ok (.isub, 1) := by decide +kernel
theorem dX9_chaser_81 : decode cX9_chaser 81 = .ok (.ireturn, 1) := by decide +kernel
set_option maxRecDepth 20000 in
theorem ggX9_chase_X9_within : GoodIn wsX9_chase wsX9_within := goodIn_r _ [7] (by decide +kernel) (by decide +kernel)
set_option maxRecDepth 20000 in
theorem gX9_chase_X9_within : GoodIn wsX9_chase (va_wsS RX9 69 yX9_within wsX9_within) := goodIn_app (goodIn_of _ (by decide +kernel)) ggX9_chase_X9_within
set_option maxRecDepth 20000 in
theorem ggX9_chase_X5_has : GoodIn wsX9_chase wsX5_has := goodIn_r _ [12, 13, 14, 5, 6, 7, 64, 65, 66] (by decide +kernel) (by decide +kernel)
set_option maxRecDepth 20000 in
theorem gX9_chase_X5_has : GoodIn wsX9_chase (wsV RX9 80 RX5 yX5_has wsX5_has) := goodIn_app (goodIn_of _ (by decide +kernel)) ggX9_chase_X5_has
set_option maxRecDepth 20000 in
theorem ggX9_chase_X9_cellOf : GoodIn wsX9_chase wsX9_cellOf := goodIn_r _ [17] (by decide +kernel) (by decide +kernel)
set_option maxRecDepth 20000 in
theorem gX9_chase_X9_cellOf : GoodIn wsX9_chase (va_wsS RX9 84 yX9_cellOf wsX9_cellOf) := goodIn_app (goodIn_of _ (by decide +kernel)) ggX9_chase_X9_cellOf
set_option maxRecDepth 20000 in
theorem ggX9_chase_X2_measureFrom : GoodIn wsX9_chase wsX2_measureFrom := goodIn_r _ [22, 23, 24, 25, 26, 27, 28, 29, 30, 31, 32, 33, 21, 34, 35, 36, 37, 11, 38, 39, 6, 40, 41, 42, 43, 9, 10, 12, 13, 14, 5, 7, 16, 17, 58, 59, 60, 61, 62, 63, 64, 65, 66] (by decide +kernel) (by decide +kernel)
set_option maxRecDepth 20000 in
theorem gX9_chase_X2_measureFrom : GoodIn wsX9_chase (wsV RX9 228 RX2 yX2_measureFrom wsX2_measureFrom) := goodIn_app (goodIn_of _ (by decide +kernel)) ggX9_chase_X2_measureFrom
set_option maxRecDepth 20000 in
theorem ggX9_chase_X2_ticksOf : GoodIn wsX9_chase wsX2_ticksOf := goodIn_r _ [47, 23, 48, 49, 58, 59, 60, 61, 62, 63] (by decide +kernel) (by decide +kernel)
set_option maxRecDepth 20000 in
theorem gX9_chase_X2_ticksOf : GoodIn wsX9_chase (wsV RX9 232 RX2 yX2_ticksOf wsX2_ticksOf) := goodIn_app (goodIn_of _ (by decide +kernel)) ggX9_chase_X2_ticksOf
theorem dX9_chase_0 : decode cX9_chase 0 = .ok (.iload_n 1, 1) := by decide +kernel
theorem dX9_chase_1 : decode cX9_chase 1 = .ok (.iconst 0, 1) := by decide +kernel
theorem dX9_chase_2 : decode cX9_chase 2 = .ok (.aload_n 0, 1) := by decide +kernel
theorem dX9_chase_3 : decode cX9_chase 3 = .ok (.getfield 64, 3) := by decide +kernel
theorem dX9_chase_6 : decode cX9_chase 6 = .ok (.getfield 77, 3) := by decide +kernel
theorem dX9_chase_9 : decode cX9_chase 9 = .ok (.iconst 1, 1) := by decide +kernel
theorem dX9_chase_10 : decode cX9_chase 10 = .ok (.isub, 1) := by decide +kernel
theorem dX9_chase_11 : decode cX9_chase 11 = .ok (.invokestatic 69, 3) := by decide +kernel
theorem dX9_chase_14 : decode cX9_chase 14 = .ok (.ifCond .eq 15, 3) := by decide +kernel
theorem dX9_chase_17 : decode cX9_chase 17 = .ok (.aload_n 0, 1) := by decide +kernel
theorem dX9_chase_18 : decode cX9_chase 18 = .ok (.getfield 12, 3) := by decide +kernel
theorem dX9_chase_21 : decode cX9_chase 21 = .ok (.iload_n 2, 1) := by decide +kernel
theorem dX9_chase_22 : decode cX9_chase 22 = .ok (.iload_n 3, 1) := by decide +kernel
theorem dX9_chase_23 : decode cX9_chase 23 = .ok (.invokevirtual 80, 3) := by decide +kernel
theorem dX9_chase_26 : decode cX9_chase 26 = .ok (.ifCond .ne 6, 3) := by decide +kernel
theorem dX9_chase_29 : decode cX9_chase 29 = .ok (.bipush (-2), 2) := by decide +kernel
theorem dX9_chase_31 : decode cX9_chase 31 = .ok (.ireturn, 1) := by decide +kernel
theorem dX9_chase_32 : decode cX9_chase 32 = .ok (.aload_n 0, 1) := by decide +kernel
theorem dX9_chase_33 : decode cX9_chase 33 = .ok (.getfield 64, 3) := by decide +kernel
theorem dX9_chase_36 : decode cX9_chase 36 = .ok (.iload_n 2, 1) := by decide +kernel
theorem dX9_chase_37 : decode cX9_chase 37 = .ok (.iload_n 3, 1) := by decide +kernel
theorem dX9_chase_38 : decode cX9_chase 38 = .ok (.invokestatic 84, 3) := by decide +kernel
theorem dX9_chase_41 : decode cX9_chase 41 = .ok (.invokevirtual 228, 3) := by decide +kernel
theorem dX9_chase_44 : decode cX9_chase 44 = .ok (.aload_n 0, 1) := by decide +kernel
theorem dX9_chase_45 : decode cX9_chase 45 = .ok (.getfield 64, 3) := by decide +kernel
theorem dX9_chase_48 : decode cX9_chase 48 = .ok (.iload_n 1, 1) := by decide +kernel
theorem dX9_chase_49 : decode cX9_chase 49 = .ok (.invokevirtual 232, 3) := by decide +kernel
theorem dX9_chase_52 : decode cX9_chase 52 = .ok (.ireturn, 1) := by decide +kernel
set_option maxRecDepth 20000 in
theorem ggX9_first_X9_isFlight : GoodIn wsX9_first wsX9_isFlight := goodIn_r _ [9, 10, 11, 12, 8, 13, 59, 60, 61, 62, 63, 64, 65, 66] (by decide +kernel) (by decide +kernel)
set_option maxRecDepth 20000 in
theorem gX9_first_X9_isFlight : GoodIn wsX9_first (wsV RX9 118 RX9 yX9_isFlight wsX9_isFlight) := goodIn_app (goodIn_of _ (by decide +kernel)) ggX9_first_X9_isFlight
set_option maxRecDepth 20000 in
theorem ggX9_first_X2_measureFrom : GoodIn wsX9_first wsX2_measureFrom := goodIn_r _ [18, 19, 20, 21, 22, 23, 24, 25, 26, 27, 28, 29, 17, 30, 31, 32, 33, 34, 35, 36, 8, 37, 38, 39, 40, 41, 42, 43, 44, 45, 12, 13, 46, 47, 82, 83, 84, 85, 86, 87, 88, 89, 90] (by decide +kernel) (by decide +kernel)
set_option maxRecDepth 20000 in
theorem gX9_first_X2_measureFrom : GoodIn wsX9_first (wsV RX9 228 RX2 yX2_measureFrom wsX2_measureFrom) := goodIn_app (goodIn_of _ (by decide +kernel)) ggX9_first_X2_measureFrom
set_option maxRecDepth 20000 in
theorem ggX9_first_X2_soonest : GoodIn wsX9_first wsX2_soonest := goodIn_r _ [51, 52, 53, 54, 55, 17, 56, 19, 57, 58, 82, 83, 84, 85, 86, 87] (by decide +kernel) (by decide +kernel)
set_option maxRecDepth 20000 in
theorem gX9_first_X2_soonest : GoodIn wsX9_first (wsV RX9 235 RX2 yX2_soonest wsX2_soonest) := goodIn_app (goodIn_of _ (by decide +kernel)) ggX9_first_X2_soonest
theorem dX9_first_0 : decode cX9_first 0 = .ok (.aload_n 0, 1) := by decide +kernel
theorem dX9_first_1 : decode cX9_first 1 = .ok (.iload_n 1, 1) := by decide +kernel
theorem dX9_first_2 : decode cX9_first 2 = .ok (.invokevirtual 118, 3) := by decide +kernel
theorem dX9_first_5 : decode cX9_first 5 = .ok (.ifCond .ne 6, 3) := by decide +kernel
theorem dX9_first_8 : decode cX9_first 8 = .ok (.bipush (-2), 2) := by decide +kernel
theorem dX9_first_10 : decode cX9_first 10 = .ok (.ireturn, 1) := by decide +kernel
theorem dX9_first_11 : decode cX9_first 11 = .ok (.aload_n 0, 1) := by decide +kernel
theorem dX9_first_12 : decode cX9_first 12 = .ok (.getfield 64, 3) := by decide +kernel
theorem dX9_first_15 : decode cX9_first 15 = .ok (.aload_n 0, 1) := by decide +kernel
theorem dX9_first_16 : decode cX9_first 16 = .ok (.getfield 25, 3) := by decide +kernel
theorem dX9_first_19 : decode cX9_first 19 = .ok (.iload_n 1, 1) := by decide +kernel
theorem dX9_first_20 : decode cX9_first 20 = .ok (.aaload, 1) := by decide +kernel
theorem dX9_first_21 : decode cX9_first 21 = .ok (.getfield 121, 3) := by decide +kernel
theorem dX9_first_24 : decode cX9_first 24 = .ok (.getfield 142, 3) := by decide +kernel
theorem dX9_first_27 : decode cX9_first 27 = .ok (.invokevirtual 228, 3) := by decide +kernel
theorem dX9_first_30 : decode cX9_first 30 = .ok (.aload_n 0, 1) := by decide +kernel
theorem dX9_first_31 : decode cX9_first 31 = .ok (.getfield 64, 3) := by decide +kernel
theorem dX9_first_34 : decode cX9_first 34 = .ok (.invokevirtual 235, 3) := by decide +kernel
theorem dX9_first_37 : decode cX9_first 37 = .ok (.ireturn, 1) := by decide +kernel
set_option maxRecDepth 20000 in
theorem ggX9_record_X9_judge : GoodIn wsX9_record wsX9_judge := goodIn_r _ [10, 11, 3, 12, 13, 14, 9, 15, 1, 16, 17, 18, 19, 20, 21, 22, 23, 24, 25, 26, 27, 28, 29, 30, 31, 32, 33, 34, 35, 36, 37, 38, 39, 40, 41, 42, 43, 44, 45, 46, 47, 48, 49, 50, 51, 52, 53, 54, 55, 56, 57, 58, 59, 60, 61, 62, 63, 64, 65, 66, 67, 68, 69, 70, 71, 72, 73, 74, 75, 76, 77, 78, 79, 80, 81, 82, 83, 84, 85, 86, 87, 88, 89, 90, 91, 92, 93, 94, 95, 96, 97, 98, 99, 100, 101, 102, 103, 104, 126, 127, 128, 129, 130, 131, 132, 133, 149, 150, 151, 152, 153, 154, 134, 135, 136, 137, 138, 139, 140, 155, 156, 157, 158, 159, 160, 161, 162, 163] (by decide +kernel) (by decide +kernel)
set_option maxRecDepth 20000 in
theorem gX9_record_X9_judge : GoodIn wsX9_record (wsV RX9 238 RX9 yX9_judge wsX9_judge) := goodIn_app (goodIn_of _ (by decide +kernel)) ggX9_record_X9_judge
set_option maxRecDepth 20000 in
theorem ggX9_record_X9_countAheadOf : GoodIn wsX9_record wsX9_countAheadOf := goodIn_r _ [108, 1, 2, 109, 110, 111, 9, 112, 3, 113, 114, 115, 116, 117, 118, 119, 120, 121, 122, 123, 124, 80, 81, 125, 82, 83, 126, 127, 128, 129, 130, 131, 132, 133, 134, 135, 136, 137, 138, 139, 140, 141, 142, 143, 144, 145, 146, 147, 148] (by decide +kernel) (by decide +kernel)
set_option maxRecDepth 20000 in
theorem gX9_record_X9_countAheadOf : GoodIn wsX9_record (wsV RX9 241 RX9 yX9_countAheadOf wsX9_countAheadOf) := goodIn_app (goodIn_of _ (by decide +kernel)) ggX9_record_X9_countAheadOf
theorem dX9_record_0 : decode cX9_record 0 = .ok (.iload_n 1, 1) := by decide +kernel
theorem dX9_record_1 : decode cX9_record 1 = .ok (.ifCond .ge 6, 3) := by decide +kernel
theorem dX9_record_4 : decode cX9_record 4 = .ok (.bipush (-2), 2) := by decide +kernel
theorem dX9_record_6 : decode cX9_record 6 = .ok (.ireturn, 1) := by decide +kernel
theorem dX9_record_7 : decode cX9_record 7 = .ok (.iconst 0, 1) := by decide +kernel
theorem dX9_record_8 : decode cX9_record 8 = .ok (.istore_n 2, 1) := by decide +kernel
theorem dX9_record_9 : decode cX9_record 9 = .ok (.iload_n 2, 1) := by decide +kernel
theorem dX9_record_10 : decode cX9_record 10 = .ok (.aload_n 0, 1) := by decide +kernel
theorem dX9_record_11 : decode cX9_record 11 = .ok (.getfield 33, 3) := by decide +kernel
theorem dX9_record_14 : decode cX9_record 14 = .ok (.if_icmp .ge 43, 3) := by decide +kernel
theorem dX9_record_17 : decode cX9_record 17 = .ok (.aload_n 0, 1) := by decide +kernel
theorem dX9_record_18 : decode cX9_record 18 = .ok (.getfield 29, 3) := by decide +kernel
theorem dX9_record_21 : decode cX9_record 21 = .ok (.iload_n 2, 1) := by decide +kernel
theorem dX9_record_22 : decode cX9_record 22 = .ok (.aload_n 0, 1) := by decide +kernel
theorem dX9_record_23 : decode cX9_record 23 = .ok (.getfield 25, 3) := by decide +kernel
theorem dX9_record_26 : decode cX9_record 26 = .ok (.iload_n 2, 1) := by decide +kernel
theorem dX9_record_27 : decode cX9_record 27 = .ok (.aaload, 1) := by decide +kernel
theorem dX9_record_28 : decode cX9_record 28 = .ok (.getfield 121, 3) := by decide +kernel
theorem dX9_record_31 : decode cX9_record 31 = .ok (.getfield 125, 3) := by decide +kernel
theorem dX9_record_34 : decode cX9_record 34 = .ok (.ifCond .eq 15, 3) := by decide +kernel
theorem dX9_record_37 : decode cX9_record 37 = .ok (.aload_n 0, 1) := by decide +kernel
theorem dX9_record_38 : decode cX9_record 38 = .ok (.iload_n 2, 1) := by decide +kernel
theorem dX9_record_39 : decode cX9_record 39 = .ok (.invokevirtual 238, 3) := by decide +kernel
theorem dX9_record_42 : decode cX9_record 42 = .ok (.ifCond .ne 7, 3) := by decide +kernel
theorem dX9_record_45 : decode cX9_record 45 = .ok (.iconst 1, 1) := by decide +kernel
theorem dX9_record_46 : decode cX9_record 46 = .ok (.goto 4, 3) := by decide +kernel
theorem dX9_record_49 : decode cX9_record 49 = .ok (.iconst 0, 1) := by decide +kernel
theorem dX9_record_50 : decode cX9_record 50 = .ok (.bastore, 1) := by decide +kernel
theorem dX9_record_51 : decode cX9_record 51 = .ok (.iinc 2 1, 3) := by decide +kernel
theorem dX9_record_54 : decode cX9_record 54 = .ok (.goto (-45), 3) := by decide +kernel
theorem dX9_record_57 : decode cX9_record 57 = .ok (.iconst 0, 1) := by decide +kernel
theorem dX9_record_58 : decode cX9_record 58 = .ok (.istore_n 2, 1) := by decide +kernel
theorem dX9_record_59 : decode cX9_record 59 = .ok (.iload_n 2, 1) := by decide +kernel
theorem dX9_record_60 : decode cX9_record 60 = .ok (.aload_n 0, 1) := by decide +kernel
theorem dX9_record_61 : decode cX9_record 61 = .ok (.getfield 33, 3) := by decide +kernel
theorem dX9_record_64 : decode cX9_record 64 = .ok (.if_icmp .ge 29, 3) := by decide +kernel
theorem dX9_record_67 : decode cX9_record 67 = .ok (.aload_n 0, 1) := by decide +kernel
theorem dX9_record_68 : decode cX9_record 68 = .ok (.getfield 29, 3) := by decide +kernel
theorem dX9_record_71 : decode cX9_record 71 = .ok (.iload_n 2, 1) := by decide +kernel
theorem dX9_record_72 : decode cX9_record 72 = .ok (.baload, 1) := by decide +kernel
theorem dX9_record_73 : decode cX9_record 73 = .ok (.ifCond .eq 14, 3) := by decide +kernel
theorem dX9_record_76 : decode cX9_record 76 = .ok (.aload_n 0, 1) := by decide +kernel
theorem dX9_record_77 : decode cX9_record 77 = .ok (.iload_n 2, 1) := by decide +kernel
theorem dX9_record_78 : decode cX9_record 78 = .ok (.invokevirtual 241, 3) := by decide +kernel
theorem dX9_record_81 : decode cX9_record 81 = .ok (.iload_n 1, 1) := by decide +kernel
theorem dX9_record_82 : decode cX9_record 82 = .ok (.if_icmp .ne 5, 3) := by decide +kernel
theorem dX9_record_85 : decode cX9_record 85 = .ok (.iload_n 2, 1) := by decide +kernel
theorem dX9_record_86 : decode cX9_record 86 = .ok (.ireturn, 1) := by decide +kernel
theorem dX9_record_87 : decode cX9_record 87 = .ok (.iinc 2 1, 3) := by decide +kernel
theorem dX9_record_90 : decode cX9_record 90 = .ok (.goto (-31), 3) := by decide +kernel
theorem dX9_record_93 : decode cX9_record 93 = .ok (.iconst (-1), 1) := by decide +kernel
theorem dX9_record_94 : decode cX9_record 94 = .ok (.ireturn, 1) := by decide +kernel
set_option maxRecDepth 20000 in
theorem ggX9_count_X9_countGoing : GoodIn wsX9_count wsX9_countGoing := goodIn_r _ [11, 4, 12, 13, 14, 26, 27, 28, 29, 30, 31, 32, 33, 43, 44, 45, 46, 47, 48, 49, 50, 51, 52, 53, 54, 55, 56, 57] (by decide +kernel) (by decide +kernel)
set_option maxRecDepth 20000 in
theorem gX9_count_X9_countGoing : GoodIn wsX9_count (wsV RX9 250 RX9 yX9_countGoing wsX9_countGoing) := goodIn_app (goodIn_of _ (by decide +kernel)) ggX9_count_X9_countGoing
set_option maxRecDepth 20000 in
theorem ggX9_count_X5_countClosed : GoodIn wsX9_count wsX5_countClosed := goodIn_r _ [19, 20, 34, 35, 36] (by decide +kernel) (by decide +kernel)
set_option maxRecDepth 20000 in
theorem gX9_count_X5_countClosed : GoodIn wsX9_count (wsV RX9 253 RX5 yX5_countClosed wsX5_countClosed) := goodIn_app (goodIn_of _ (by decide +kernel)) ggX9_count_X5_countClosed
set_option maxRecDepth 20000 in
theorem ggX9_count_X9_countLost : GoodIn wsX9_count wsX9_countLost := goodIn_r _ [24, 4, 12, 25, 26, 27, 28, 29, 30, 31, 32, 33, 43, 44, 45, 46, 47, 48, 49] (by decide +kernel) (by decide +kernel)
set_option maxRecDepth 20000 in
theorem gX9_count_X9_countLost : GoodIn wsX9_count (wsV RX9 256 RX9 yX9_countLost wsX9_countLost) := goodIn_app (goodIn_of _ (by decide +kernel)) ggX9_count_X9_countLost
theorem dX9_count_0 : decode cX9_count 0 = .ok (.iload_n 1, 1) := by decide +kernel
theorem dX9_count_1 : decode cX9_count 1 = .ok (.tableswitch 90 0 6 #[43, 51, 59, 64, 69, 77, 85], 43) := by decide +kernel
theorem dX9_count_44 : decode cX9_count 44 = .ok (.aload_n 0, 1) := by decide +kernel
theorem dX9_count_45 : decode cX9_count 45 = .ok (.getfield 12, 3) := by decide +kernel
theorem dX9_count_48 : decode cX9_count 48 = .ok (.getfield 244, 3) := by decide +kernel
theorem dX9_count_51 : decode cX9_count 51 = .ok (.ireturn, 1) := by decide +kernel
theorem dX9_count_52 : decode cX9_count 52 = .ok (.aload_n 0, 1) := by decide +kernel
theorem dX9_count_53 : decode cX9_count 53 = .ok (.getfield 12, 3) := by decide +kernel
theorem dX9_count_56 : decode cX9_count 56 = .ok (.getfield 247, 3) := by decide +kernel
theorem dX9_count_59 : decode cX9_count 59 = .ok (.ireturn, 1) := by decide +kernel
theorem dX9_count_60 : decode cX9_count 60 = .ok (.aload_n 0, 1) := by decide +kernel
theorem dX9_count_61 : decode cX9_count 61 = .ok (.getfield 33, 3) := by decide +kernel
theorem dX9_count_64 : decode cX9_count 64 = .ok (.ireturn, 1) := by decide +kernel
theorem dX9_count_65 : decode cX9_count 65 = .ok (.aload_n 0, 1) := by decide +kernel
theorem dX9_count_66 : decode cX9_count 66 = .ok (.invokevirtual 250, 3) := by decide +kernel
theorem dX9_count_69 : decode cX9_count 69 = .ok (.ireturn, 1) := by decide +kernel
theorem dX9_count_70 : decode cX9_count 70 = .ok (.aload_n 0, 1) := by decide +kernel
theorem dX9_count_71 : decode cX9_count 71 = .ok (.getfield 64, 3) := by decide +kernel
theorem dX9_count_74 : decode cX9_count 74 = .ok (.getfield 77, 3) := by decide +kernel
theorem dX9_count_77 : decode cX9_count 77 = .ok (.ireturn, 1) := by decide +kernel
theorem dX9_count_78 : decode cX9_count 78 = .ok (.aload_n 0, 1) := by decide +kernel
theorem dX9_count_79 : decode cX9_count 79 = .ok (.getfield 12, 3) := by decide +kernel
theorem dX9_count_82 : decode cX9_count 82 = .ok (.invokevirtual 253, 3) := by decide +kernel
theorem dX9_count_85 : decode cX9_count 85 = .ok (.ireturn, 1) := by decide +kernel
theorem dX9_count_86 : decode cX9_count 86 = .ok (.aload_n 0, 1) := by decide +kernel
theorem dX9_count_87 : decode cX9_count 87 = .ok (.invokevirtual 256, 3) := by decide +kernel
theorem dX9_count_90 : decode cX9_count 90 = .ok (.ireturn, 1) := by decide +kernel
theorem dX9_count_91 : decode cX9_count 91 = .ok (.bipush (-2), 2) := by decide +kernel
theorem dX9_count_93 : decode cX9_count 93 = .ok (.ireturn, 1) := by decide +kernel
set_option maxRecDepth 20000 in
theorem ggX9_digest_X9_count : GoodIn wsX9_digest wsX9_count := goodIn_r _ [11, 12, 13, 14, 3, 4, 5, 15, 16, 17, 10, 18, 19, 20, 21, 22, 23, 24, 25, 26, 27, 28, 29, 30, 31, 32, 91, 92, 93, 94, 95, 96, 97, 98, 105, 106, 107, 99, 100, 101, 102, 103, 104, 108, 109, 110, 111, 112, 113, 114, 115, 116, 117, 118, 119, 120, 121, 122] (by decide +kernel) (by decide +kernel)
set_option maxRecDepth 20000 in
theorem gX9_digest_X9_count : GoodIn wsX9_digest (wsV RX9 263 RX9 yX9_count wsX9_count) := goodIn_app (goodIn_of _ (by decide +kernel)) ggX9_digest_X9_count
set_option maxRecDepth 20000 in
theorem ggX9_digest_X9_digestFlight : GoodIn wsX9_digest wsX9_digestFlight := goodIn_r _ [36, 2, 19, 37, 38, 39, 40, 10, 41, 42, 20, 43, 44, 45, 46, 47, 21, 48, 49, 50, 51, 52, 53, 3, 54, 55, 56, 57, 58, 59, 60, 61, 62, 63, 64, 65, 66, 67, 68, 69, 70, 71, 72, 73, 74, 75, 76, 77, 78, 79, 80, 81, 82, 83, 84, 85, 86, 87, 88, 89, 90, 91, 92, 93, 94, 95, 96, 97, 98, 108, 109, 110, 111, 112, 113, 114, 115, 116, 117, 118, 119, 120, 121, 122, 123, 124, 125, 126, 127] (by decide +kernel) (by decide +kernel)
set_option maxRecDepth 20000 in
theorem gX9_digest_X9_digestFlight : GoodIn wsX9_digest (wsV RX9 266 RX9 yX9_digestFlight wsX9_digestFlight) := goodIn_app (goodIn_of _ (by decide +kernel)) ggX9_digest_X9_digestFlight
set_option maxRecDepth 20000 in
theorem ggX9_digest_X9_xOf : GoodIn wsX9_digest wsX9_xOf := goodIn_r _ [59] (by decide +kernel) (by decide +kernel)
set_option maxRecDepth 20000 in
theorem gX9_digest_X9_xOf : GoodIn wsX9_digest (va_wsS RX9 145 yX9_xOf wsX9_xOf) := goodIn_app (goodIn_of _ (by decide +kernel)) ggX9_digest_X9_xOf
set_option maxRecDepth 20000 in
theorem ggX9_digest_X9_yOf : GoodIn wsX9_digest wsX9_yOf := goodIn_r _ [62] (by decide +kernel) (by decide +kernel)
set_option maxRecDepth 20000 in
theorem gX9_digest_X9_yOf : GoodIn wsX9_digest (va_wsS RX9 149 yX9_yOf wsX9_yOf) := goodIn_app (goodIn_of _ (by decide +kernel)) ggX9_digest_X9_yOf
theorem dX9_digest_0 : decode cX9_digest 0 = .ok (.ldc2_w 259, 3) := by decide +kernel
theorem dX9_digest_3 : decode cX9_digest 3 = .ok (.lstore_n 1, 1) := by decide +kernel
theorem dX9_digest_4 : decode cX9_digest 4 = .ok (.iconst 0, 1) := by decide +kernel
theorem dX9_digest_5 : decode cX9_digest 5 = .ok (.istore_n 3, 1) := by decide +kernel
theorem dX9_digest_6 : decode cX9_digest 6 = .ok (.iload_n 3, 1) := by decide +kernel
theorem dX9_digest_7 : decode cX9_digest 7 = .ok (.bipush 6, 2) := by decide +kernel
theorem dX9_digest_9 : decode cX9_digest 9 = .ok (.if_icmp .gt 22, 3) := by decide +kernel
theorem dX9_digest_12 : decode cX9_digest 12 = .ok (.ldc2_w 261, 3) := by decide +kernel
theorem dX9_digest_15 : decode cX9_digest 15 = .ok (.lload_n 1, 1) := by decide +kernel
theorem dX9_digest_16 : decode cX9_digest 16 = .ok (.lmul, 1) := by decide +kernel
theorem dX9_digest_17 : decode cX9_digest 17 = .ok (.aload_n 0, 1) := by decide +kernel
theorem dX9_digest_18 : decode cX9_digest 18 = .ok (.iload_n 3, 1) := by decide +kernel
theorem dX9_digest_19 : decode cX9_digest 19 = .ok (.invokevirtual 263, 3) := by decide +kernel
theorem dX9_digest_22 : decode cX9_digest 22 = .ok (.i2l, 1) := by decide +kernel
theorem dX9_digest_23 : decode cX9_digest 23 = .ok (.ladd, 1) := by decide +kernel
theorem dX9_digest_24 : decode cX9_digest 24 = .ok (.lstore_n 1, 1) := by decide +kernel
theorem dX9_digest_25 : decode cX9_digest 25 = .ok (.iinc 3 1, 3) := by decide +kernel
theorem dX9_digest_28 : decode cX9_digest 28 = .ok (.goto (-22), 3) := by decide +kernel
theorem dX9_digest_31 : decode cX9_digest 31 = .ok (.iconst 0, 1) := by decide +kernel
theorem dX9_digest_32 : decode cX9_digest 32 = .ok (.istore_n 3, 1) := by decide +kernel
theorem dX9_digest_33 : decode cX9_digest 33 = .ok (.iload_n 3, 1) := by decide +kernel
theorem dX9_digest_34 : decode cX9_digest 34 = .ok (.aload_n 0, 1) := by decide +kernel
theorem dX9_digest_35 : decode cX9_digest 35 = .ok (.getfield 33, 3) := by decide +kernel
theorem dX9_digest_38 : decode cX9_digest 38 = .ok (.if_icmp .ge 16, 3) := by decide +kernel
theorem dX9_digest_41 : decode cX9_digest 41 = .ok (.aload_n 0, 1) := by decide +kernel
theorem dX9_digest_42 : decode cX9_digest 42 = .ok (.lload_n 1, 1) := by decide +kernel
theorem dX9_digest_43 : decode cX9_digest 43 = .ok (.iload_n 3, 1) := by decide +kernel
theorem dX9_digest_44 : decode cX9_digest 44 = .ok (.invokevirtual 266, 3) := by decide +kernel
theorem dX9_digest_47 : decode cX9_digest 47 = .ok (.lstore_n 1, 1) := by decide +kernel
theorem dX9_digest_48 : decode cX9_digest 48 = .ok (.iinc 3 1, 3) := by decide +kernel
theorem dX9_digest_51 : decode cX9_digest 51 = .ok (.goto (-18), 3) := by decide +kernel
theorem dX9_digest_54 : decode cX9_digest 54 = .ok (.iconst 0, 1) := by decide +kernel
theorem dX9_digest_55 : decode cX9_digest 55 = .ok (.istore_n 3, 1) := by decide +kernel
theorem dX9_digest_56 : decode cX9_digest 56 = .ok (.iload_n 3, 1) := by decide +kernel
theorem dX9_digest_57 : decode cX9_digest 57 = .ok (.aload_n 0, 1) := by decide +kernel
theorem dX9_digest_58 : decode cX9_digest 58 = .ok (.getfield 64, 3) := by decide +kernel
theorem dX9_digest_61 : decode cX9_digest 61 = .ok (.getfield 77, 3) := by decide +kernel
theorem dX9_digest_64 : decode cX9_digest 64 = .ok (.if_icmp .ge 49, 3) := by decide +kernel
theorem dX9_digest_67 : decode cX9_digest 67 = .ok (.ldc2_w 261, 3) := by decide +kernel
theorem dX9_digest_70 : decode cX9_digest 70 = .ok (.lload_n 1, 1) := by decide +kernel
theorem dX9_digest_71 : decode cX9_digest 71 = .ok (.lmul, 1) := by decide +kernel
theorem dX9_digest_72 : decode cX9_digest 72 = .ok (.aload_n 0, 1) := by decide +kernel
theorem dX9_digest_73 : decode cX9_digest 73 = .ok (.getfield 64, 3) := by decide +kernel
theorem dX9_digest_76 : decode cX9_digest 76 = .ok (.getfield 270, 3) := by decide +kernel
theorem dX9_digest_79 : decode cX9_digest 79 = .ok (.iload_n 3, 1) := by decide +kernel
theorem dX9_digest_80 : decode cX9_digest 80 = .ok (.iaload, 1) := by decide +kernel
theorem dX9_digest_81 : decode cX9_digest 81 = .ok (.invokestatic 145, 3) := by decide +kernel
theorem dX9_digest_84 : decode cX9_digest 84 = .ok (.i2l, 1) := by decide +kernel
theorem dX9_digest_85 : decode cX9_digest 85 = .ok (.ladd, 1) := by decide +kernel
theorem dX9_digest_86 : decode cX9_digest 86 = .ok (.lstore_n 1, 1) := by decide +kernel
theorem dX9_digest_87 : decode cX9_digest 87 = .ok (.ldc2_w 261, 3) := by decide +kernel
theorem dX9_digest_90 : decode cX9_digest 90 = .ok (.lload_n 1, 1) := by decide +kernel
theorem dX9_digest_91 : decode cX9_digest 91 = .ok (.lmul, 1) := by decide +kernel
theorem dX9_digest_92 : decode cX9_digest 92 = .ok (.aload_n 0, 1) := by decide +kernel
theorem dX9_digest_93 : decode cX9_digest 93 = .ok (.getfield 64, 3) := by decide +kernel
theorem dX9_digest_96 : decode cX9_digest 96 = .ok (.getfield 270, 3) := by decide +kernel
theorem dX9_digest_99 : decode cX9_digest 99 = .ok (.iload_n 3, 1) := by decide +kernel
theorem dX9_digest_100 : decode cX9_digest 100 = .ok (.iaload, 1) := by decide +kernel
theorem dX9_digest_101 : decode cX9_digest 101 = .ok (.invokestatic 149, 3) := by decide +kernel
theorem dX9_digest_104 : decode cX9_digest 104 = .ok (.i2l, 1) := by decide +kernel
theorem dX9_digest_105 : decode cX9_digest 105 = .ok (.ladd, 1) := by decide +kernel
theorem dX9_digest_106 : decode cX9_digest 106 = .ok (.lstore_n 1, 1) := by decide +kernel
theorem dX9_digest_107 : decode cX9_digest 107 = .ok (.iinc 3 1, 3) := by decide +kernel
theorem dX9_digest_110 : decode cX9_digest 110 = .ok (.goto (-54), 3) := by decide +kernel
theorem dX9_digest_113 : decode cX9_digest 113 = .ok (.lload_n 1, 1) := by decide +kernel
theorem dX9_digest_114 : decode cX9_digest 114 = .ok (.lreturn, 1) := by decide +kernel
set_option maxRecDepth 20000 in
theorem ggX9_digestFlight_X9_about : GoodIn wsX9_digestFlight wsX9_about := goodIn_r _ [8, 9, 2, 10, 11, 12, 13, 14, 15, 16, 3, 17, 18, 19, 20, 21, 7, 22, 23, 24, 25, 26, 27, 28, 29, 30, 31, 32, 33, 34, 35, 36, 37, 38, 39, 40, 41, 42, 43, 44, 45, 46, 47, 48, 61, 62, 63, 64, 65, 66, 67, 68, 69, 70, 71, 72, 73, 74, 75, 76, 77, 78, 79, 80, 81, 82, 83, 84, 85, 86, 87, 88] (by decide +kernel) (by decide +kernel)
set_option maxRecDepth 20000 in
theorem gX9_digestFlight_X9_about : GoodIn wsX9_digestFlight (wsV RX9 273 RX9 yX9_about wsX9_about) := goodIn_app (goodIn_of _ (by decide +kernel)) ggX9_digestFlight_X9_about
set_option maxRecDepth 20000 in
theorem ggX9_digestFlight_X9_entry : GoodIn wsX9_digestFlight wsX9_entry := goodIn_r _ [52, 2, 3, 53, 54, 19, 20, 21, 7, 22, 23, 24, 25, 26, 55, 56, 57, 58, 59, 60, 27, 28, 29, 30, 31, 32, 61, 62, 63, 64, 65, 66, 67, 68, 69, 70, 71, 72, 73, 74, 75] (by decide +kernel) (by decide +kernel)
set_option maxRecDepth 20000 in
theorem gX9_digestFlight_X9_entry : GoodIn wsX9_digestFlight (wsV RX9 276 RX9 yX9_entry wsX9_entry) := goodIn_app (goodIn_of _ (by decide +kernel)) ggX9_digestFlight_X9_entry
theorem dX9_digestFlight_0 : decode cX9_digestFlight 0 = .ok (.lload_n 1, 1) := by decide +kernel
theorem dX9_digestFlight_1 : decode cX9_digestFlight 1 = .ok (.lstore 4, 2) := by decide +kernel
theorem dX9_digestFlight_3 : decode cX9_digestFlight 3 = .ok (.iconst 0, 1) := by decide +kernel
theorem dX9_digestFlight_4 : decode cX9_digestFlight 4 = .ok (.istore 6, 2) := by decide +kernel
theorem dX9_digestFlight_6 : decode cX9_digestFlight 6 = .ok (.iload 6, 2) := by decide +kernel
theorem dX9_digestFlight_8 : decode cX9_digestFlight 8 = .ok (.bipush 9, 2) := by decide +kernel
theorem dX9_digestFlight_10 : decode cX9_digestFlight 10 = .ok (.if_icmp .gt 26, 3) := by decide +kernel
theorem dX9_digestFlight_13 : decode cX9_digestFlight 13 = .ok (.ldc2_w 261, 3) := by decide +kernel
theorem dX9_digestFlight_16 : decode cX9_digestFlight 16 = .ok (.lload 4, 2) := by decide +kernel
theorem dX9_digestFlight_18 : decode cX9_digestFlight 18 = .ok (.lmul, 1) := by decide +kernel
theorem dX9_digestFlight_19 : decode cX9_digestFlight 19 = .ok (.aload_n 0, 1) := by decide +kernel
theorem dX9_digestFlight_20 : decode cX9_digestFlight 20 = .ok (.iload_n 3, 1) := by decide +kernel
theorem dX9_digestFlight_21 : decode cX9_digestFlight 21 = .ok (.iload 6, 2) := by decide +kernel
theorem dX9_digestFlight_23 : decode cX9_digestFlight 23 = .ok (.invokevirtual 273, 3) := by decide +kernel
theorem dX9_digestFlight_26 : decode cX9_digestFlight 26 = .ok (.i2l, 1) := by decide +kernel
theorem dX9_digestFlight_27 : decode cX9_digestFlight 27 = .ok (.ladd, 1) := by decide +kernel
theorem dX9_digestFlight_28 : decode cX9_digestFlight 28 = .ok (.lstore 4, 2) := by decide +kernel
theorem dX9_digestFlight_30 : decode cX9_digestFlight 30 = .ok (.iinc 6 1, 3) := by decide +kernel
theorem dX9_digestFlight_33 : decode cX9_digestFlight 33 = .ok (.goto (-27), 3) := by decide +kernel
theorem dX9_digestFlight_36 : decode cX9_digestFlight 36 = .ok (.iconst 0, 1) := by decide +kernel
theorem dX9_digestFlight_37 : decode cX9_digestFlight 37 = .ok (.istore 6, 2) := by decide +kernel
theorem dX9_digestFlight_39 : decode cX9_digestFlight 39 = .ok (.iload 6, 2) := by decide +kernel
theorem dX9_digestFlight_41 : decode cX9_digestFlight 41 = .ok (.aload_n 0, 1) := by decide +kernel
theorem dX9_digestFlight_42 : decode cX9_digestFlight 42 = .ok (.getfield 25, 3) := by decide +kernel
theorem dX9_digestFlight_45 : decode cX9_digestFlight 45 = .ok (.iload_n 3, 1) := by decide +kernel
theorem dX9_digestFlight_46 : decode cX9_digestFlight 46 = .ok (.aaload, 1) := by decide +kernel
theorem dX9_digestFlight_47 : decode cX9_digestFlight 47 = .ok (.getfield 131, 3) := by decide +kernel
theorem dX9_digestFlight_50 : decode cX9_digestFlight 50 = .ok (.if_icmp .ge 43, 3) := by decide +kernel
theorem dX9_digestFlight_53 : decode cX9_digestFlight 53 = .ok (.iconst 0, 1) := by decide +kernel
theorem dX9_digestFlight_54 : decode cX9_digestFlight 54 = .ok (.istore 7, 2) := by decide +kernel
theorem dX9_digestFlight_56 : decode cX9_digestFlight 56 = .ok (.iload 7, 2) := by decide +kernel
theorem dX9_digestFlight_58 : decode cX9_digestFlight 58 = .ok (.iconst 2, 1) := by decide +kernel
theorem dX9_digestFlight_59 : decode cX9_digestFlight 59 = .ok (.if_icmp .gt 28, 3) := by decide +kernel
theorem dX9_digestFlight_62 : decode cX9_digestFlight 62 = .ok (.ldc2_w 261, 3) := by decide +kernel
theorem dX9_digestFlight_65 : decode cX9_digestFlight 65 = .ok (.lload 4, 2) := by decide +kernel
theorem dX9_digestFlight_67 : decode cX9_digestFlight 67 = .ok (.lmul, 1) := by decide +kernel
theorem dX9_digestFlight_68 : decode cX9_digestFlight 68 = .ok (.aload_n 0, 1) := by decide +kernel
theorem dX9_digestFlight_69 : decode cX9_digestFlight 69 = .ok (.iload_n 3, 1) := by decide +kernel
theorem dX9_digestFlight_70 : decode cX9_digestFlight 70 = .ok (.iload 6, 2) := by decide +kernel
theorem dX9_digestFlight_72 : decode cX9_digestFlight 72 = .ok (.iload 7, 2) := by decide +kernel
theorem dX9_digestFlight_74 : decode cX9_digestFlight 74 = .ok (.invokevirtual 276, 3) := by decide +kernel
theorem dX9_digestFlight_77 : decode cX9_digestFlight 77 = .ok (.i2l, 1) := by decide +kernel
theorem dX9_digestFlight_78 : decode cX9_digestFlight 78 = .ok (.ladd, 1) := by decide +kernel
theorem dX9_digestFlight_79 : decode cX9_digestFlight 79 = .ok (.lstore 4, 2) := by decide +kernel
theorem dX9_digestFlight_81 : decode cX9_digestFlight 81 = .ok (.iinc 7 1, 3) := by decide +kernel
theorem dX9_digestFlight_84 : decode cX9_digestFlight 84 = .ok (.goto (-28), 3) := by decide +kernel
theorem dX9_digestFlight_87 : decode cX9_digestFlight 87 = .ok (.iinc 6 1, 3) := by decide +kernel
theorem dX9_digestFlight_90 : decode cX9_digestFlight 90 = .ok (.goto (-51), 3) := by decide +kernel
theorem dX9_digestFlight_93 : decode cX9_digestFlight 93 = .ok (.lload 4, 2) := by decide +kernel
theorem dX9_digestFlight_95 : decode cX9_digestFlight 95 = .ok (.lreturn, 1) := by decide +kernel
set_option maxRecDepth 20000 in
theorem ggX9_isFlight_X9_within : GoodIn wsX9_isFlight wsX9_within := goodIn_r _ [5] (by decide +kernel) (by decide +kernel)
set_option maxRecDepth 20000 in
theorem gX9_isFlight_X9_within : GoodIn wsX9_isFlight (va_wsS RX9 69 yX9_within wsX9_within) := goodIn_app (goodIn_of _ (by decide +kernel)) ggX9_isFlight_X9_within
theorem dX9_isFlight_0 : decode cX9_isFlight 0 = .ok (.iload_n 1, 1) := by decide +kernel
theorem dX9_isFlight_1 : decode cX9_isFlight 1 = .ok (.iconst 0, 1) := by decide +kernel
theorem dX9_isFlight_2 : decode cX9_isFlight 2 = .ok (.aload_n 0, 1) := by decide +kernel
theorem dX9_isFlight_3 : decode cX9_isFlight 3 = .ok (.getfield 33, 3) := by decide +kernel
theorem dX9_isFlight_6 : decode cX9_isFlight 6 = .ok (.iconst 1, 1) := by decide +kernel
theorem dX9_isFlight_7 : decode cX9_isFlight 7 = .ok (.isub, 1) := by decide +kernel
theorem dX9_isFlight_8 : decode cX9_isFlight 8 = .ok (.invokestatic 69, 3) := by decide +kernel
theorem dX9_isFlight_11 : decode cX9_isFlight 11 = .ok (.ireturn, 1) := by decide +kernel
set_option maxRecDepth 20000 in
theorem ggX9_mayPlan_X9_isFlight : GoodIn wsX9_mayPlan wsX9_isFlight := goodIn_r _ [5, 6, 7, 8, 4, 9, 10, 11, 12, 13, 14, 15, 16, 17] (by decide +kernel) (by decide +kernel)
set_option maxRecDepth 20000 in
theorem gX9_mayPlan_X9_isFlight : GoodIn wsX9_mayPlan (wsV RX9 118 RX9 yX9_isFlight wsX9_isFlight) := goodIn_app (goodIn_of _ (by decide +kernel)) ggX9_mayPlan_X9_isFlight
set_option maxRecDepth 20000 in
theorem ggX9_mayPlan_X9_within : GoodIn wsX9_mayPlan wsX9_within := goodIn_r _ [9] (by decide +kernel) (by decide +kernel)
set_option maxRecDepth 20000 in
theorem gX9_mayPlan_X9_within : GoodIn wsX9_mayPlan (va_wsS RX9 69 yX9_within wsX9_within) := goodIn_app (goodIn_of _ (by decide +kernel)) ggX9_mayPlan_X9_within
theorem dX9_mayPlan_0 : decode cX9_mayPlan 0 = .ok (.aload_n 0, 1) := by decide +kernel
theorem dX9_mayPlan_1 : decode cX9_mayPlan 1 = .ok (.iload_n 1, 1) := by decide +kernel
theorem dX9_mayPlan_2 : decode cX9_mayPlan 2 = .ok (.invokevirtual 118, 3) := by decide +kernel
theorem dX9_mayPlan_5 : decode cX9_mayPlan 5 = .ok (.ifCond .eq 27, 3) := by decide +kernel
theorem dX9_mayPlan_8 : decode cX9_mayPlan 8 = .ok (.iload_n 2, 1) := by decide +kernel
theorem dX9_mayPlan_9 : decode cX9_mayPlan 9 = .ok (.iconst 1, 1) := by decide +kernel
theorem dX9_mayPlan_10 : decode cX9_mayPlan 10 = .ok (.bipush 6, 2) := by decide +kernel
theorem dX9_mayPlan_12 : decode cX9_mayPlan 12 = .ok (.invokestatic 69, 3) := by decide +kernel
theorem dX9_mayPlan_15 : decode cX9_mayPlan 15 = .ok (.ifCond .eq 17, 3) := by decide +kernel
theorem dX9_mayPlan_18 : decode cX9_mayPlan 18 = .ok (.iload_n 3, 1) := by decide +kernel
theorem dX9_mayPlan_19 : decode cX9_mayPlan 19 = .ok (.iconst 1, 1) := by decide +kernel
theorem dX9_mayPlan_20 : decode cX9_mayPlan 20 = .ok (.bipush 50, 2) := by decide +kernel
theorem dX9_mayPlan_22 : decode cX9_mayPlan 22 = .ok (.invokestatic 69, 3) := by decide +kernel
theorem dX9_mayPlan_25 : decode cX9_mayPlan 25 = .ok (.ifCond .eq 7, 3) := by decide +kernel
theorem dX9_mayPlan_28 : decode cX9_mayPlan 28 = .ok (.iconst 1, 1) := by decide +kernel
theorem dX9_mayPlan_29 : decode cX9_mayPlan 29 = .ok (.goto 4, 3) := by decide +kernel
theorem dX9_mayPlan_32 : decode cX9_mayPlan 32 = .ok (.iconst 0, 1) := by decide +kernel
theorem dX9_mayPlan_33 : decode cX9_mayPlan 33 = .ok (.ireturn, 1) := by decide +kernel
set_option maxRecDepth 20000 in
theorem ggX9_countAheadOf_X9_isAhead : GoodIn wsX9_countAheadOf wsX9_isAhead := goodIn_r _ [7, 8, 9, 10, 11, 12, 13, 14, 15, 16, 17, 18, 6, 19, 20, 21, 22, 23, 24, 25, 26, 27, 28, 29, 30, 31, 32, 33, 34, 35, 36, 37, 38, 39, 40, 41, 42, 43, 44, 45, 46, 47, 48] (by decide +kernel) (by decide +kernel)
set_option maxRecDepth 20000 in
theorem gX9_countAheadOf_X9_isAhead : GoodIn wsX9_countAheadOf (wsV RX9 280 RX9 yX9_isAhead wsX9_isAhead) := goodIn_app (goodIn_of _ (by decide +kernel)) ggX9_countAheadOf_X9_isAhead
theorem dX9_countAheadOf_0 : decode cX9_countAheadOf 0 = .ok (.iconst 0, 1) := by decide +kernel
theorem dX9_countAheadOf_1 : decode cX9_countAheadOf 1 = .ok (.istore_n 2, 1) := by decide +kernel
theorem dX9_countAheadOf_2 : decode cX9_countAheadOf 2 = .ok (.iconst 0, 1) := by decide +kernel
theorem dX9_countAheadOf_3 : decode cX9_countAheadOf 3 = .ok (.istore_n 3, 1) := by decide +kernel
theorem dX9_countAheadOf_4 : decode cX9_countAheadOf 4 = .ok (.iload_n 3, 1) := by decide +kernel
theorem dX9_countAheadOf_5 : decode cX9_countAheadOf 5 = .ok (.aload_n 0, 1) := by decide +kernel
theorem dX9_countAheadOf_6 : decode cX9_countAheadOf 6 = .ok (.getfield 33, 3) := by decide +kernel
theorem dX9_countAheadOf_9 : decode cX9_countAheadOf 9 = .ok (.if_icmp .ge 35, 3) := by decide +kernel
theorem dX9_countAheadOf_12 : decode cX9_countAheadOf 12 = .ok (.iload_n 3, 1) := by decide +kernel
theorem dX9_countAheadOf_13 : decode cX9_countAheadOf 13 = .ok (.iload_n 1, 1) := by decide +kernel
theorem dX9_countAheadOf_14 : decode cX9_countAheadOf 14 = .ok (.if_icmp .eq 24, 3) := by decide +kernel
theorem dX9_countAheadOf_17 : decode cX9_countAheadOf 17 = .ok (.aload_n 0, 1) := by decide +kernel
theorem dX9_countAheadOf_18 : decode cX9_countAheadOf 18 = .ok (.getfield 29, 3) := by decide +kernel
theorem dX9_countAheadOf_21 : decode cX9_countAheadOf 21 = .ok (.iload_n 3, 1) := by decide +kernel
theorem dX9_countAheadOf_22 : decode cX9_countAheadOf 22 = .ok (.baload, 1) := by decide +kernel
theorem dX9_countAheadOf_23 : decode cX9_countAheadOf 23 = .ok (.ifCond .eq 15, 3) := by decide +kernel
theorem dX9_countAheadOf_26 : decode cX9_countAheadOf 26 = .ok (.aload_n 0, 1) := by decide +kernel
theorem dX9_countAheadOf_27 : decode cX9_countAheadOf 27 = .ok (.iload_n 3, 1) := by decide +kernel
theorem dX9_countAheadOf_28 : decode cX9_countAheadOf 28 = .ok (.iload_n 1, 1) := by decide +kernel
theorem dX9_countAheadOf_29 : decode cX9_countAheadOf 29 = .ok (.invokevirtual 280, 3) := by decide +kernel
theorem dX9_countAheadOf_32 : decode cX9_countAheadOf 32 = .ok (.ifCond .eq 6, 3) := by decide +kernel
theorem dX9_countAheadOf_35 : decode cX9_countAheadOf 35 = .ok (.iinc 2 1, 3) := by decide +kernel
theorem dX9_countAheadOf_38 : decode cX9_countAheadOf 38 = .ok (.iinc 3 1, 3) := by decide +kernel
theorem dX9_countAheadOf_41 : decode cX9_countAheadOf 41 = .ok (.goto (-37), 3) := by decide +kernel
theorem dX9_countAheadOf_44 : decode cX9_countAheadOf 44 = .ok (.iload_n 2, 1) := by decide +kernel
theorem dX9_countAheadOf_45 : decode cX9_countAheadOf 45 = .ok (.ireturn, 1) := by decide +kernel
set_option maxRecDepth 20000 in
theorem ggX9_isAhead_X3_flown : GoodIn wsX9_isAhead wsX3_flown := goodIn_r _ [7, 8, 9, 10, 11, 12, 13, 14, 15, 16, 17, 18, 19, 28, 29, 30, 31, 32, 33, 34, 35, 36, 37, 38, 39, 40, 41, 42] (by decide +kernel) (by decide +kernel)
set_option maxRecDepth 20000 in
theorem gX9_isAhead_X3_flown : GoodIn wsX9_isAhead (wsV RX9 171 RX3 yX3_flown wsX3_flown) := goodIn_app (goodIn_of _ (by decide +kernel)) ggX9_isAhead_X3_flown
theorem dX9_isAhead_0 : decode cX9_isAhead 0 = .ok (.aload_n 0, 1) := by decide +kernel
theorem dX9_isAhead_1 : decode cX9_isAhead 1 = .ok (.getfield 25, 3) := by decide +kernel
theorem dX9_isAhead_4 : decode cX9_isAhead 4 = .ok (.iload_n 1, 1) := by decide +kernel
theorem dX9_isAhead_5 : decode cX9_isAhead 5 = .ok (.aaload, 1) := by decide +kernel
theorem dX9_isAhead_6 : decode cX9_isAhead 6 = .ok (.invokevirtual 171, 3) := by decide +kernel
theorem dX9_isAhead_9 : decode cX9_isAhead 9 = .ok (.aload_n 0, 1) := by decide +kernel
theorem dX9_isAhead_10 : decode cX9_isAhead 10 = .ok (.getfield 25, 3) := by decide +kernel
theorem dX9_isAhead_13 : decode cX9_isAhead 13 = .ok (.iload_n 2, 1) := by decide +kernel
theorem dX9_isAhead_14 : decode cX9_isAhead 14 = .ok (.aaload, 1) := by decide +kernel
theorem dX9_isAhead_15 : decode cX9_isAhead 15 = .ok (.invokevirtual 171, 3) := by decide +kernel
theorem dX9_isAhead_18 : decode cX9_isAhead 18 = .ok (.isub, 1) := by decide +kernel
theorem dX9_isAhead_19 : decode cX9_isAhead 19 = .ok (.istore_n 3, 1) := by decide +kernel
theorem dX9_isAhead_20 : decode cX9_isAhead 20 = .ok (.iload_n 3, 1) := by decide +kernel
theorem dX9_isAhead_21 : decode cX9_isAhead 21 = .ok (.ifCond .eq 13, 3) := by decide +kernel
theorem dX9_isAhead_24 : decode cX9_isAhead 24 = .ok (.iload_n 3, 1) := by decide +kernel
theorem dX9_isAhead_25 : decode cX9_isAhead 25 = .ok (.ifCond .le 7, 3) := by decide +kernel
theorem dX9_isAhead_28 : decode cX9_isAhead 28 = .ok (.iconst 1, 1) := by decide +kernel
theorem dX9_isAhead_29 : decode cX9_isAhead 29 = .ok (.goto 4, 3) := by decide +kernel
theorem dX9_isAhead_32 : decode cX9_isAhead 32 = .ok (.iconst 0, 1) := by decide +kernel
theorem dX9_isAhead_33 : decode cX9_isAhead 33 = .ok (.ireturn, 1) := by decide +kernel
theorem dX9_isAhead_34 : decode cX9_isAhead 34 = .ok (.aload_n 0, 1) := by decide +kernel
theorem dX9_isAhead_35 : decode cX9_isAhead 35 = .ok (.getfield 25, 3) := by decide +kernel
theorem dX9_isAhead_38 : decode cX9_isAhead 38 = .ok (.iload_n 1, 1) := by decide +kernel
theorem dX9_isAhead_39 : decode cX9_isAhead 39 = .ok (.aaload, 1) := by decide +kernel
theorem dX9_isAhead_40 : decode cX9_isAhead 40 = .ok (.getfield 131, 3) := by decide +kernel
theorem dX9_isAhead_43 : decode cX9_isAhead 43 = .ok (.aload_n 0, 1) := by decide +kernel
theorem dX9_isAhead_44 : decode cX9_isAhead 44 = .ok (.getfield 25, 3) := by decide +kernel
theorem dX9_isAhead_47 : decode cX9_isAhead 47 = .ok (.iload_n 2, 1) := by decide +kernel
theorem dX9_isAhead_48 : decode cX9_isAhead 48 = .ok (.aaload, 1) := by decide +kernel
theorem dX9_isAhead_49 : decode cX9_isAhead 49 = .ok (.getfield 131, 3) := by decide +kernel
theorem dX9_isAhead_52 : decode cX9_isAhead 52 = .ok (.isub, 1) := by decide +kernel
theorem dX9_isAhead_53 : decode cX9_isAhead 53 = .ok (.istore 4, 2) := by decide +kernel
theorem dX9_isAhead_55 : decode cX9_isAhead 55 = .ok (.iload 4, 2) := by decide +kernel
theorem dX9_isAhead_57 : decode cX9_isAhead 57 = .ok (.ifCond .eq 16, 3) := by decide +kernel
theorem dX9_isAhead_60 : decode cX9_isAhead 60 = .ok (.iload 4, 2) := by decide +kernel
theorem dX9_isAhead_62 : decode cX9_isAhead 62 = .ok (.ifCond .ge 7, 3) := by decide +kernel
theorem dX9_isAhead_65 : decode cX9_isAhead 65 = .ok (.iconst 1, 1) := by decide +kernel
theorem dX9_isAhead_66 : decode cX9_isAhead 66 = .ok (.goto 17, 3) := by decide +kernel
theorem dX9_isAhead_69 : decode cX9_isAhead 69 = .ok (.iconst 0, 1) := by decide +kernel
theorem dX9_isAhead_70 : decode cX9_isAhead 70 = .ok (.goto 13, 3) := by decide +kernel
theorem dX9_isAhead_73 : decode cX9_isAhead 73 = .ok (.iload_n 1, 1) := by decide +kernel
theorem dX9_isAhead_74 : decode cX9_isAhead 74 = .ok (.iload_n 2, 1) := by decide +kernel
theorem dX9_isAhead_75 : decode cX9_isAhead 75 = .ok (.if_icmp .ge 7, 3) := by decide +kernel
theorem dX9_isAhead_78 : decode cX9_isAhead 78 = .ok (.iconst 1, 1) := by decide +kernel
theorem dX9_isAhead_79 : decode cX9_isAhead 79 = .ok (.goto 4, 3) := by decide +kernel
theorem dX9_isAhead_82 : decode cX9_isAhead 82 = .ok (.iconst 0, 1) := by decide +kernel
theorem dX9_isAhead_83 : decode cX9_isAhead 83 = .ok (.ireturn, 1) := by decide +kernel
theorem dX9_countGoing_0 : decode cX9_countGoing 0 = .ok (.iconst 0, 1) := by decide +kernel
theorem dX9_countGoing_1 : decode cX9_countGoing 1 = .ok (.istore_n 1, 1) := by decide +kernel
theorem dX9_countGoing_2 : decode cX9_countGoing 2 = .ok (.iconst 0, 1) := by decide +kernel
theorem dX9_countGoing_3 : decode cX9_countGoing 3 = .ok (.istore_n 2, 1) := by decide +kernel
theorem dX9_countGoing_4 : decode cX9_countGoing 4 = .ok (.iload_n 2, 1) := by decide +kernel
theorem dX9_countGoing_5 : decode cX9_countGoing 5 = .ok (.aload_n 0, 1) := by decide +kernel
theorem dX9_countGoing_6 : decode cX9_countGoing 6 = .ok (.getfield 33, 3) := by decide +kernel
theorem dX9_countGoing_9 : decode cX9_countGoing 9 = .ok (.if_icmp .ge 27, 3) := by decide +kernel
theorem dX9_countGoing_12 : decode cX9_countGoing 12 = .ok (.aload_n 0, 1) := by decide +kernel
theorem dX9_countGoing_13 : decode cX9_countGoing 13 = .ok (.getfield 25, 3) := by decide +kernel
theorem dX9_countGoing_16 : decode cX9_countGoing 16 = .ok (.iload_n 2, 1) := by decide +kernel
theorem dX9_countGoing_17 : decode cX9_countGoing 17 = .ok (.aaload, 1) := by decide +kernel
theorem dX9_countGoing_18 : decode cX9_countGoing 18 = .ok (.getfield 121, 3) := by decide +kernel
theorem dX9_countGoing_21 : decode cX9_countGoing 21 = .ok (.getfield 125, 3) := by decide +kernel
theorem dX9_countGoing_24 : decode cX9_countGoing 24 = .ok (.ifCond .ne 6, 3) := by decide +kernel
theorem dX9_countGoing_27 : decode cX9_countGoing 27 = .ok (.iinc 1 1, 3) := by decide +kernel
theorem dX9_countGoing_30 : decode cX9_countGoing 30 = .ok (.iinc 2 1, 3) := by decide +kernel
theorem dX9_countGoing_33 : decode cX9_countGoing 33 = .ok (.goto (-29), 3) := by decide +kernel
theorem dX9_countGoing_36 : decode cX9_countGoing 36 = .ok (.iload_n 1, 1) := by decide +kernel
theorem dX9_countGoing_37 : decode cX9_countGoing 37 = .ok (.ireturn, 1) := by decide +kernel
theorem dX9_countLost_0 : decode cX9_countLost 0 = .ok (.iconst 0, 1) := by decide +kernel
theorem dX9_countLost_1 : decode cX9_countLost 1 = .ok (.istore_n 1, 1) := by decide +kernel
theorem dX9_countLost_2 : decode cX9_countLost 2 = .ok (.iconst 0, 1) := by decide +kernel
theorem dX9_countLost_3 : decode cX9_countLost 3 = .ok (.istore_n 2, 1) := by decide +kernel
theorem dX9_countLost_4 : decode cX9_countLost 4 = .ok (.iload_n 2, 1) := by decide +kernel
theorem dX9_countLost_5 : decode cX9_countLost 5 = .ok (.aload_n 0, 1) := by decide +kernel
theorem dX9_countLost_6 : decode cX9_countLost 6 = .ok (.getfield 33, 3) := by decide +kernel
theorem dX9_countLost_9 : decode cX9_countLost 9 = .ok (.if_icmp .ge 21, 3) := by decide +kernel
theorem dX9_countLost_12 : decode cX9_countLost 12 = .ok (.iload_n 1, 1) := by decide +kernel
theorem dX9_countLost_13 : decode cX9_countLost 13 = .ok (.aload_n 0, 1) := by decide +kernel
theorem dX9_countLost_14 : decode cX9_countLost 14 = .ok (.getfield 25, 3) := by decide +kernel
theorem dX9_countLost_17 : decode cX9_countLost 17 = .ok (.iload_n 2, 1) := by decide +kernel
theorem dX9_countLost_18 : decode cX9_countLost 18 = .ok (.aaload, 1) := by decide +kernel
theorem dX9_countLost_19 : decode cX9_countLost 19 = .ok (.getfield 283, 3) := by decide +kernel
theorem dX9_countLost_22 : decode cX9_countLost 22 = .ok (.iadd, 1) := by decide +kernel
theorem dX9_countLost_23 : decode cX9_countLost 23 = .ok (.istore_n 1, 1) := by decide +kernel
theorem dX9_countLost_24 : decode cX9_countLost 24 = .ok (.iinc 2 1, 3) := by decide +kernel
theorem dX9_countLost_27 : decode cX9_countLost 27 = .ok (.goto (-23), 3) := by decide +kernel
theorem dX9_countLost_30 : decode cX9_countLost 30 = .ok (.iload_n 1, 1) := by decide +kernel
theorem dX9_countLost_31 : decode cX9_countLost 31 = .ok (.ireturn, 1) := by decide +kernel
theorem dX9_within_0 : decode cX9_within 0 = .ok (.iload_n 0, 1) := by decide +kernel
theorem dX9_within_1 : decode cX9_within 1 = .ok (.iload_n 1, 1) := by decide +kernel
theorem dX9_within_2 : decode cX9_within 2 = .ok (.if_icmp .lt 12, 3) := by decide +kernel
theorem dX9_within_5 : decode cX9_within 5 = .ok (.iload_n 0, 1) := by decide +kernel
theorem dX9_within_6 : decode cX9_within 6 = .ok (.iload_n 2, 1) := by decide +kernel
theorem dX9_within_7 : decode cX9_within 7 = .ok (.if_icmp .gt 7, 3) := by decide +kernel
theorem dX9_within_10 : decode cX9_within 10 = .ok (.iconst 1, 1) := by decide +kernel
theorem dX9_within_11 : decode cX9_within 11 = .ok (.goto 4, 3) := by decide +kernel
theorem dX9_within_14 : decode cX9_within 14 = .ok (.iconst 0, 1) := by decide +kernel
theorem dX9_within_15 : decode cX9_within 15 = .ok (.ireturn, 1) := by decide +kernel
theorem dX9_cellOf_0 : decode cX9_cellOf 0 = .ok (.iload_n 1, 1) := by decide +kernel
theorem dX9_cellOf_1 : decode cX9_cellOf 1 = .ok (.bipush 24, 2) := by decide +kernel
theorem dX9_cellOf_3 : decode cX9_cellOf 3 = .ok (.imul, 1) := by decide +kernel
theorem dX9_cellOf_4 : decode cX9_cellOf 4 = .ok (.iload_n 0, 1) := by decide +kernel
theorem dX9_cellOf_5 : decode cX9_cellOf 5 = .ok (.iadd, 1) := by decide +kernel
theorem dX9_cellOf_6 : decode cX9_cellOf 6 = .ok (.ireturn, 1) := by decide +kernel
theorem dX9_xOf_0 : decode cX9_xOf 0 = .ok (.iload_n 0, 1) := by decide +kernel
theorem dX9_xOf_1 : decode cX9_xOf 1 = .ok (.bipush 24, 2) := by decide +kernel
theorem dX9_xOf_3 : decode cX9_xOf 3 = .ok (.irem, 1) := by decide +kernel
theorem dX9_xOf_4 : decode cX9_xOf 4 = .ok (.ireturn, 1) := by decide +kernel
theorem dX9_yOf_0 : decode cX9_yOf 0 = .ok (.iload_n 0, 1) := by decide +kernel
theorem dX9_yOf_1 : decode cX9_yOf 1 = .ok (.bipush 24, 2) := by decide +kernel
theorem dX9_yOf_3 : decode cX9_yOf 3 = .ok (.idiv, 1) := by decide +kernel
theorem dX9_yOf_4 : decode cX9_yOf 4 = .ok (.ireturn, 1) := by decide +kernel
theorem dX9_placeOf_0 : decode cX9_placeOf 0 = .ok (.iload_n 0, 1) := by decide +kernel
theorem dX9_placeOf_1 : decode cX9_placeOf 1 = .ok (.bipush 8, 2) := by decide +kernel
theorem dX9_placeOf_3 : decode cX9_placeOf 3 = .ok (.imul, 1) := by decide +kernel
theorem dX9_placeOf_4 : decode cX9_placeOf 4 = .ok (.iload_n 1, 1) := by decide +kernel
theorem dX9_placeOf_5 : decode cX9_placeOf 5 = .ok (.iadd, 1) := by decide +kernel
theorem dX9_placeOf_6 : decode cX9_placeOf 6 = .ok (.ireturn, 1) := by decide +kernel
theorem dX9_cellOfPlace_0 : decode cX9_cellOfPlace 0 = .ok (.iload_n 0, 1) := by decide +kernel
theorem dX9_cellOfPlace_1 : decode cX9_cellOfPlace 1 = .ok (.bipush 8, 2) := by decide +kernel
theorem dX9_cellOfPlace_3 : decode cX9_cellOfPlace 3 = .ok (.idiv, 1) := by decide +kernel
theorem dX9_cellOfPlace_4 : decode cX9_cellOfPlace 4 = .ok (.ireturn, 1) := by decide +kernel
theorem dX9_levelOfPlace_0 : decode cX9_levelOfPlace 0 = .ok (.iload_n 0, 1) := by decide +kernel
theorem dX9_levelOfPlace_1 : decode cX9_levelOfPlace 1 = .ok (.bipush 8, 2) := by decide +kernel
theorem dX9_levelOfPlace_3 : decode cX9_levelOfPlace 3 = .ok (.irem, 1) := by decide +kernel
theorem dX9_levelOfPlace_4 : decode cX9_levelOfPlace 4 = .ok (.ireturn, 1) := by decide +kernel
set_option maxRecDepth 20000 in
theorem ggX9_squareBetween_X9_xOf : GoodIn wsX9_squareBetween wsX9_xOf := goodIn_r _ [4] (by decide +kernel) (by decide +kernel)
set_option maxRecDepth 20000 in
theorem gX9_squareBetween_X9_xOf : GoodIn wsX9_squareBetween (va_wsS RX9 145 yX9_xOf wsX9_xOf) := goodIn_app (goodIn_of _ (by decide +kernel)) ggX9_squareBetween_X9_xOf
set_option maxRecDepth 20000 in
theorem ggX9_squareBetween_X9_yOf : GoodIn wsX9_squareBetween wsX9_yOf := goodIn_r _ [7] (by decide +kernel) (by decide +kernel)
set_option maxRecDepth 20000 in
theorem gX9_squareBetween_X9_yOf : GoodIn wsX9_squareBetween (va_wsS RX9 149 yX9_yOf wsX9_yOf) := goodIn_app (goodIn_of _ (by decide +kernel)) ggX9_squareBetween_X9_yOf
theorem dX9_squareBetween_0 : decode cX9_squareBetween 0 = .ok (.iload_n 0, 1) := by decide +kernel
theorem dX9_squareBetween_1 : decode cX9_squareBetween 1 = .ok (.invokestatic 145, 3) := by decide +kernel
theorem dX9_squareBetween_4 : decode cX9_squareBetween 4 = .ok (.iload_n 1, 1) := by decide +kernel
theorem dX9_squareBetween_5 : decode cX9_squareBetween 5 = .ok (.invokestatic 145, 3) := by decide +kernel
theorem dX9_squareBetween_8 : decode cX9_squareBetween 8 = .ok (.isub, 1) := by decide +kernel
theorem dX9_squareBetween_9 : decode cX9_squareBetween 9 = .ok (.istore_n 2, 1) := by decide +kernel
theorem dX9_squareBetween_10 : decode cX9_squareBetween 10 = .ok (.iload_n 0, 1) := by decide +kernel
theorem dX9_squareBetween_11 : decode cX9_squareBetween 11 = .ok (.invokestatic 149, 3) := by decide +kernel
theorem dX9_squareBetween_14 : decode cX9_squareBetween 14 = .ok (.iload_n 1, 1) := by decide +kernel
theorem dX9_squareBetween_15 : decode cX9_squareBetween 15 = .ok (.invokestatic 149, 3) := by decide +kernel
theorem dX9_squareBetween_18 : decode cX9_squareBetween 18 = .ok (.isub, 1) := by decide +kernel
theorem dX9_squareBetween_19 : decode cX9_squareBetween 19 = .ok (.istore_n 3, 1) := by decide +kernel
theorem dX9_squareBetween_20 : decode cX9_squareBetween 20 = .ok (.iload_n 2, 1) := by decide +kernel
theorem dX9_squareBetween_21 : decode cX9_squareBetween 21 = .ok (.iload_n 2, 1) := by decide +kernel
theorem dX9_squareBetween_22 : decode cX9_squareBetween 22 = .ok (.imul, 1) := by decide +kernel
theorem dX9_squareBetween_23 : decode cX9_squareBetween 23 = .ok (.iload_n 3, 1) := by decide +kernel
theorem dX9_squareBetween_24 : decode cX9_squareBetween 24 = .ok (.iload_n 3, 1) := by decide +kernel
theorem dX9_squareBetween_25 : decode cX9_squareBetween 25 = .ok (.imul, 1) := by decide +kernel
theorem dX9_squareBetween_26 : decode cX9_squareBetween 26 = .ok (.iadd, 1) := by decide +kernel
theorem dX9_squareBetween_27 : decode cX9_squareBetween 27 = .ok (.ireturn, 1) := by decide +kernel
theorem dX10_init_0 : decode cX10_init 0 = .ok (.aload_n 0, 1) := by decide +kernel
theorem dX10_init_1 : decode cX10_init 1 = .ok (.invokespecial 1, 3) := by decide +kernel
theorem dX10_init_4 : decode cX10_init 4 = .ok (.aload_n 0, 1) := by decide +kernel
theorem dX10_init_5 : decode cX10_init 5 = .ok (.bipush 12, 2) := by decide +kernel
theorem dX10_init_7 : decode cX10_init 7 = .ok (.putfield 7, 3) := by decide +kernel
theorem dX10_init_10 : decode cX10_init 10 = .ok (.aload_n 0, 1) := by decide +kernel
theorem dX10_init_11 : decode cX10_init 11 = .ok (.bipush 12, 2) := by decide +kernel
theorem dX10_init_13 : decode cX10_init 13 = .ok (.putfield 13, 3) := by decide +kernel
theorem dX10_init_16 : decode cX10_init 16 = .ok (.aload_n 0, 1) := by decide +kernel
theorem dX10_init_17 : decode cX10_init 17 = .ok (.sipush 576, 3) := by decide +kernel
theorem dX10_init_20 : decode cX10_init 20 = .ok (.newarray .int, 2) := by decide +kernel
theorem dX10_init_22 : decode cX10_init 22 = .ok (.putfield 16, 3) := by decide +kernel
theorem dX10_init_25 : decode cX10_init 25 = .ok (.aload_n 0, 1) := by decide +kernel
theorem dX10_init_26 : decode cX10_init 26 = .ok (.bipush 8, 2) := by decide +kernel
theorem dX10_init_28 : decode cX10_init 28 = .ok (.newarray .int, 2) := by decide +kernel
theorem dX10_init_30 : decode cX10_init 30 = .ok (.putfield 20, 3) := by decide +kernel
theorem dX10_init_33 : decode cX10_init 33 = .ok (.aload_n 0, 1) := by decide +kernel
theorem dX10_init_34 : decode cX10_init 34 = .ok (.bipush 8, 2) := by decide +kernel
theorem dX10_init_36 : decode cX10_init 36 = .ok (.newarray .int, 2) := by decide +kernel
theorem dX10_init_38 : decode cX10_init 38 = .ok (.putfield 23, 3) := by decide +kernel
theorem dX10_init_41 : decode cX10_init 41 = .ok (.aload_n 0, 1) := by decide +kernel
theorem dX10_init_42 : decode cX10_init 42 = .ok (.bipush 24, 2) := by decide +kernel
theorem dX10_init_44 : decode cX10_init 44 = .ok (.newarray .int, 2) := by decide +kernel
theorem dX10_init_46 : decode cX10_init 46 = .ok (.putfield 26, 3) := by decide +kernel
theorem dX10_init_49 : decode cX10_init 49 = .ok (.aload_n 0, 1) := by decide +kernel
theorem dX10_init_50 : decode cX10_init 50 = .ok (.sipush 384, 3) := by decide +kernel
theorem dX10_init_53 : decode cX10_init 53 = .ok (.newarray .int, 2) := by decide +kernel
theorem dX10_init_55 : decode cX10_init 55 = .ok (.putfield 29, 3) := by decide +kernel
theorem dX10_init_58 : decode cX10_init 58 = .ok (.aload_n 0, 1) := by decide +kernel
theorem dX10_init_59 : decode cX10_init 59 = .ok (.sipush 384, 3) := by decide +kernel
theorem dX10_init_62 : decode cX10_init 62 = .ok (.newarray .int, 2) := by decide +kernel
theorem dX10_init_64 : decode cX10_init 64 = .ok (.putfield 32, 3) := by decide +kernel
theorem dX10_init_67 : decode cX10_init 67 = .ok (.aload_n 0, 1) := by decide +kernel
theorem dX10_init_68 : decode cX10_init 68 = .ok (.bipush 8, 2) := by decide +kernel
theorem dX10_init_70 : decode cX10_init 70 = .ok (.newarray .int, 2) := by decide +kernel
theorem dX10_init_72 : decode cX10_init 72 = .ok (.putfield 35, 3) := by decide +kernel
theorem dX10_init_75 : decode cX10_init 75 = .ok (.aload_n 0, 1) := by decide +kernel
theorem dX10_init_76 : decode cX10_init 76 = .ok (.bipush 8, 2) := by decide +kernel
theorem dX10_init_78 : decode cX10_init 78 = .ok (.newarray .int, 2) := by decide +kernel
end
section
theorem dX10_init_80 : decode cX10_init 80 = .ok (.putfield 38, 3) := by decide +kernel
theorem dX10_init_83 : decode cX10_init 83 = .ok (.aload_n 0, 1) := by decide +kernel
theorem dX10_init_84 : decode cX10_init 84 = .ok (.bipush 8, 2) := by decide +kernel
theorem dX10_init_86 : decode cX10_init 86 = .ok (.newarray .int, 2) := by decide +kernel
theorem dX10_init_88 : decode cX10_init 88 = .ok (.putfield 41, 3) := by decide +kernel
theorem dX10_init_91 : decode cX10_init 91 = .ok (.aload_n 0, 1) := by decide +kernel
theorem dX10_init_92 : decode cX10_init 92 = .ok (.bipush 8, 2) := by decide +kernel
theorem dX10_init_94 : decode cX10_init 94 = .ok (.newarray .int, 2) := by decide +kernel
theorem dX10_init_96 : decode cX10_init 96 = .ok (.putfield 44, 3) := by decide +kernel
theorem dX10_init_99 : decode cX10_init 99 = .ok (.aload_n 0, 1) := by decide +kernel
theorem dX10_init_100 : decode cX10_init 100 = .ok (.bipush 8, 2) := by decide +kernel
theorem dX10_init_102 : decode cX10_init 102 = .ok (.newarray .int, 2) := by decide +kernel
theorem dX10_init_104 : decode cX10_init 104 = .ok (.putfield 47, 3) := by decide +kernel
theorem dX10_init_107 : decode cX10_init 107 = .ok (.aload_n 0, 1) := by decide +kernel
theorem dX10_init_108 : decode cX10_init 108 = .ok (.bipush 8, 2) := by decide +kernel
theorem dX10_init_110 : decode cX10_init 110 = .ok (.newarray .int, 2) := by decide +kernel
theorem dX10_init_112 : decode cX10_init 112 = .ok (.putfield 50, 3) := by decide +kernel
theorem dX10_init_115 : decode cX10_init 115 = .ok (.aload_n 0, 1) := by decide +kernel
theorem dX10_init_116 : decode cX10_init 116 = .ok (.bipush 8, 2) := by decide +kernel
theorem dX10_init_118 : decode cX10_init 118 = .ok (.newarray .int, 2) := by decide +kernel
theorem dX10_init_120 : decode cX10_init 120 = .ok (.putfield 53, 3) := by decide +kernel
theorem dX10_init_123 : decode cX10_init 123 = .ok (.aload_n 0, 1) := by decide +kernel
theorem dX10_init_124 : decode cX10_init 124 = .ok (.bipush 8, 2) := by decide +kernel
theorem dX10_init_126 : decode cX10_init 126 = .ok (.newarray .int, 2) := by decide +kernel
theorem dX10_init_128 : decode cX10_init 128 = .ok (.putfield 56, 3) := by decide +kernel
theorem dX10_init_131 : decode cX10_init 131 = .ok (.aload_n 0, 1) := by decide +kernel
theorem dX10_init_132 : decode cX10_init 132 = .ok (.bipush 8, 2) := by decide +kernel
theorem dX10_init_134 : decode cX10_init 134 = .ok (.newarray .boolean, 2) := by decide +kernel
theorem dX10_init_136 : decode cX10_init 136 = .ok (.putfield 59, 3) := by decide +kernel
theorem dX10_init_139 : decode cX10_init 139 = .ok (.aload_n 0, 1) := by decide +kernel
theorem dX10_init_140 : decode cX10_init 140 = .ok (.bipush 8, 2) := by decide +kernel
theorem dX10_init_142 : decode cX10_init 142 = .ok (.newarray .int, 2) := by decide +kernel
theorem dX10_init_144 : decode cX10_init 144 = .ok (.putfield 63, 3) := by decide +kernel
theorem dX10_init_147 : decode cX10_init 147 = .ok (.aload_n 0, 1) := by decide +kernel
theorem dX10_init_148 : decode cX10_init 148 = .ok (.bipush 8, 2) := by decide +kernel
theorem dX10_init_150 : decode cX10_init 150 = .ok (.newarray .int, 2) := by decide +kernel
theorem dX10_init_152 : decode cX10_init 152 = .ok (.putfield 66, 3) := by decide +kernel
theorem dX10_init_155 : decode cX10_init 155 = .ok (.aload_n 0, 1) := by decide +kernel
theorem dX10_init_156 : decode cX10_init 156 = .ok (.sipush 488, 3) := by decide +kernel
theorem dX10_init_159 : decode cX10_init 159 = .ok (.newarray .int, 2) := by decide +kernel
theorem dX10_init_161 : decode cX10_init 161 = .ok (.putfield 69, 3) := by decide +kernel
theorem dX10_init_164 : decode cX10_init 164 = .ok (.aload_n 0, 1) := by decide +kernel
theorem dX10_init_165 : decode cX10_init 165 = .ok (.sipush 488, 3) := by decide +kernel
theorem dX10_init_168 : decode cX10_init 168 = .ok (.newarray .int, 2) := by decide +kernel
theorem dX10_init_170 : decode cX10_init 170 = .ok (.putfield 72, 3) := by decide +kernel
theorem dX10_init_173 : decode cX10_init 173 = .ok (.aload_n 0, 1) := by decide +kernel
theorem dX10_init_174 : decode cX10_init 174 = .ok (.sipush 488, 3) := by decide +kernel
theorem dX10_init_177 : decode cX10_init 177 = .ok (.newarray .boolean, 2) := by decide +kernel
theorem dX10_init_179 : decode cX10_init 179 = .ok (.putfield 75, 3) := by decide +kernel
theorem dX10_init_182 : decode cX10_init 182 = .ok (.aload_n 0, 1) := by decide +kernel
theorem dX10_init_183 : decode cX10_init 183 = .ok (.iconst 4, 1) := by decide +kernel
theorem dX10_init_184 : decode cX10_init 184 = .ok (.newarray .int, 2) := by decide +kernel
theorem dX10_init_186 : decode cX10_init 186 = .ok (.putfield 78, 3) := by decide +kernel
theorem dX10_init_189 : decode cX10_init 189 = .ok (.aload_n 0, 1) := by decide +kernel
theorem dX10_init_190 : decode cX10_init 190 = .ok (.iconst 4, 1) := by decide +kernel
theorem dX10_init_191 : decode cX10_init 191 = .ok (.newarray .int, 2) := by decide +kernel
theorem dX10_init_193 : decode cX10_init 193 = .ok (.putfield 81, 3) := by decide +kernel
theorem dX10_init_196 : decode cX10_init 196 = .ok (.aload_n 0, 1) := by decide +kernel
theorem dX10_init_197 : decode cX10_init 197 = .ok (.iconst 4, 1) := by decide +kernel
theorem dX10_init_198 : decode cX10_init 198 = .ok (.newarray .int, 2) := by decide +kernel
theorem dX10_init_200 : decode cX10_init 200 = .ok (.putfield 84, 3) := by decide +kernel
theorem dX10_init_203 : decode cX10_init 203 = .ok (.aload_n 0, 1) := by decide +kernel
theorem dX10_init_204 : decode cX10_init 204 = .ok (.bipush 6, 2) := by decide +kernel
theorem dX10_init_206 : decode cX10_init 206 = .ok (.newarray .int, 2) := by decide +kernel
theorem dX10_init_208 : decode cX10_init 208 = .ok (.putfield 87, 3) := by decide +kernel
theorem dX10_init_211 : decode cX10_init 211 = .ok (.aload_n 0, 1) := by decide +kernel
theorem dX10_init_212 : decode cX10_init 212 = .ok (.sipush 4608, 3) := by decide +kernel
theorem dX10_init_215 : decode cX10_init 215 = .ok (.newarray .int, 2) := by decide +kernel
theorem dX10_init_217 : decode cX10_init 217 = .ok (.putfield 90, 3) := by decide +kernel
theorem dX10_init_220 : decode cX10_init 220 = .ok (.aload_n 0, 1) := by decide +kernel
theorem dX10_init_221 : decode cX10_init 221 = .ok (.sipush 4608, 3) := by decide +kernel
theorem dX10_init_224 : decode cX10_init 224 = .ok (.newarray .int, 2) := by decide +kernel
theorem dX10_init_226 : decode cX10_init 226 = .ok (.putfield 93, 3) := by decide +kernel
theorem dX10_init_229 : decode cX10_init 229 = .ok (.aload_n 0, 1) := by decide +kernel
theorem dX10_init_230 : decode cX10_init 230 = .ok (.sipush 4608, 3) := by decide +kernel
theorem dX10_init_233 : decode cX10_init 233 = .ok (.newarray .int, 2) := by decide +kernel
theorem dX10_init_235 : decode cX10_init 235 = .ok (.putfield 96, 3) := by decide +kernel
theorem dX10_init_238 : decode cX10_init 238 = .ok (.aload_n 0, 1) := by decide +kernel
theorem dX10_init_239 : decode cX10_init 239 = .ok (.sipush 4608, 3) := by decide +kernel
theorem dX10_init_242 : decode cX10_init 242 = .ok (.newarray .int, 2) := by decide +kernel
theorem dX10_init_244 : decode cX10_init 244 = .ok (.putfield 99, 3) := by decide +kernel
theorem dX10_init_247 : decode cX10_init 247 = .ok (.aload_n 0, 1) := by decide +kernel
theorem dX10_init_248 : decode cX10_init 248 = .ok (.sipush 576, 3) := by decide +kernel
theorem dX10_init_251 : decode cX10_init 251 = .ok (.newarray .int, 2) := by decide +kernel
theorem dX10_init_253 : decode cX10_init 253 = .ok (.putfield 102, 3) := by decide +kernel
theorem dX10_init_256 : decode cX10_init 256 = .ok (.aload_n 0, 1) := by decide +kernel
theorem dX10_init_257 : decode cX10_init 257 = .ok (.bipush 8, 2) := by decide +kernel
theorem dX10_init_259 : decode cX10_init 259 = .ok (.newarray .boolean, 2) := by decide +kernel
theorem dX10_init_261 : decode cX10_init 261 = .ok (.putfield 105, 3) := by decide +kernel
theorem dX10_init_264 : decode cX10_init 264 = .ok (.iconst 0, 1) := by decide +kernel
theorem dX10_init_265 : decode cX10_init 265 = .ok (.istore_n 1, 1) := by decide +kernel
theorem dX10_init_266 : decode cX10_init 266 = .ok (.iload_n 1, 1) := by decide +kernel
theorem dX10_init_267 : decode cX10_init 267 = .ok (.bipush 8, 2) := by decide +kernel
theorem dX10_init_269 : decode cX10_init 269 = .ok (.if_icmp .ge 28, 3) := by decide +kernel
theorem dX10_init_272 : decode cX10_init 272 = .ok (.aload_n 0, 1) := by decide +kernel
theorem dX10_init_273 : decode cX10_init 273 = .ok (.getfield 20, 3) := by decide +kernel
theorem dX10_init_276 : decode cX10_init 276 = .ok (.iload_n 1, 1) := by decide +kernel
theorem dX10_init_277 : decode cX10_init 277 = .ok (.bipush 14, 2) := by decide +kernel
theorem dX10_init_279 : decode cX10_init 279 = .ok (.iload_n 1, 1) := by decide +kernel
theorem dX10_init_280 : decode cX10_init 280 = .ok (.isub, 1) := by decide +kernel
theorem dX10_init_281 : decode cX10_init 281 = .ok (.iastore, 1) := by decide +kernel
theorem dX10_init_282 : decode cX10_init 282 = .ok (.aload_n 0, 1) := by decide +kernel
theorem dX10_init_283 : decode cX10_init 283 = .ok (.getfield 23, 3) := by decide +kernel
theorem dX10_init_286 : decode cX10_init 286 = .ok (.iload_n 1, 1) := by decide +kernel
theorem dX10_init_287 : decode cX10_init 287 = .ok (.sipush 500, 3) := by decide +kernel
theorem dX10_init_290 : decode cX10_init 290 = .ok (.iastore, 1) := by decide +kernel
theorem dX10_init_291 : decode cX10_init 291 = .ok (.iinc 1 1, 3) := by decide +kernel
theorem dX10_init_294 : decode cX10_init 294 = .ok (.goto (-28), 3) := by decide +kernel
theorem dX10_init_297 : decode cX10_init 297 = .ok (.return_, 1) := by decide +kernel
theorem dX10_in_0 : decode cX10_in 0 = .ok (.iload_n 0, 1) := by decide +kernel
theorem dX10_in_1 : decode cX10_in 1 = .ok (.iload_n 1, 1) := by decide +kernel
theorem dX10_in_2 : decode cX10_in 2 = .ok (.if_icmp .lt 12, 3) := by decide +kernel
theorem dX10_in_5 : decode cX10_in 5 = .ok (.iload_n 0, 1) := by decide +kernel
theorem dX10_in_6 : decode cX10_in 6 = .ok (.iload_n 2, 1) := by decide +kernel
theorem dX10_in_7 : decode cX10_in 7 = .ok (.if_icmp .gt 7, 3) := by decide +kernel
theorem dX10_in_10 : decode cX10_in 10 = .ok (.iconst 1, 1) := by decide +kernel
theorem dX10_in_11 : decode cX10_in 11 = .ok (.goto 4, 3) := by decide +kernel
theorem dX10_in_14 : decode cX10_in 14 = .ok (.iconst 0, 1) := by decide +kernel
theorem dX10_in_15 : decode cX10_in 15 = .ok (.ireturn, 1) := by decide +kernel
set_option maxRecDepth 20000 in
theorem ggX10_isCell_X10_in : GoodIn wsX10_isCell wsX10_in := goodIn_r _ [6] (by decide +kernel) (by decide +kernel)
set_option maxRecDepth 20000 in
theorem gX10_isCell_X10_in : GoodIn wsX10_isCell (va_wsS RX10 108 yX10_in wsX10_in) := goodIn_app (goodIn_of _ (by decide +kernel)) ggX10_isCell_X10_in
theorem dX10_isCell_0 : decode cX10_isCell 0 = .ok (.iload_n 1, 1) := by decide +kernel
theorem dX10_isCell_1 : decode cX10_isCell 1 = .ok (.iconst 0, 1) := by decide +kernel
theorem dX10_isCell_2 : decode cX10_isCell 2 = .ok (.aload_n 0, 1) := by decide +kernel
theorem dX10_isCell_3 : decode cX10_isCell 3 = .ok (.getfield 7, 3) := by decide +kernel
theorem dX10_isCell_6 : decode cX10_isCell 6 = .ok (.iconst 1, 1) := by decide +kernel
theorem dX10_isCell_7 : decode cX10_isCell 7 = .ok (.isub, 1) := by decide +kernel
theorem dX10_isCell_8 : decode cX10_isCell 8 = .ok (.invokestatic 108, 3) := by decide +kernel
theorem dX10_isCell_11 : decode cX10_isCell 11 = .ok (.ifCond .eq 21, 3) := by decide +kernel
theorem dX10_isCell_14 : decode cX10_isCell 14 = .ok (.iload_n 2, 1) := by decide +kernel
theorem dX10_isCell_15 : decode cX10_isCell 15 = .ok (.iconst 0, 1) := by decide +kernel
theorem dX10_isCell_16 : decode cX10_isCell 16 = .ok (.aload_n 0, 1) := by decide +kernel
theorem dX10_isCell_17 : decode cX10_isCell 17 = .ok (.getfield 13, 3) := by decide +kernel
theorem dX10_isCell_20 : decode cX10_isCell 20 = .ok (.iconst 1, 1) := by decide +kernel
theorem dX10_isCell_21 : decode cX10_isCell 21 = .ok (.isub, 1) := by decide +kernel
theorem dX10_isCell_22 : decode cX10_isCell 22 = .ok (.invokestatic 108, 3) := by decide +kernel
theorem dX10_isCell_25 : decode cX10_isCell 25 = .ok (.ifCond .eq 7, 3) := by decide +kernel
theorem dX10_isCell_28 : decode cX10_isCell 28 = .ok (.iconst 1, 1) := by decide +kernel
theorem dX10_isCell_29 : decode cX10_isCell 29 = .ok (.goto 4, 3) := by decide +kernel
theorem dX10_isCell_32 : decode cX10_isCell 32 = .ok (.iconst 0, 1) := by decide +kernel
theorem dX10_isCell_33 : decode cX10_isCell 33 = .ok (.ireturn, 1) := by decide +kernel
set_option maxRecDepth 20000 in
theorem ggX10_isFlight_X10_in : GoodIn wsX10_isFlight wsX10_in := goodIn_r _ [5] (by decide +kernel) (by decide +kernel)
set_option maxRecDepth 20000 in
theorem gX10_isFlight_X10_in : GoodIn wsX10_isFlight (va_wsS RX10 108 yX10_in wsX10_in) := goodIn_app (goodIn_of _ (by decide +kernel)) ggX10_isFlight_X10_in
theorem dX10_isFlight_0 : decode cX10_isFlight 0 = .ok (.iload_n 1, 1) := by decide +kernel
theorem dX10_isFlight_1 : decode cX10_isFlight 1 = .ok (.iconst 0, 1) := by decide +kernel
theorem dX10_isFlight_2 : decode cX10_isFlight 2 = .ok (.aload_n 0, 1) := by decide +kernel
theorem dX10_isFlight_3 : decode cX10_isFlight 3 = .ok (.getfield 112, 3) := by decide +kernel
theorem dX10_isFlight_6 : decode cX10_isFlight 6 = .ok (.iconst 1, 1) := by decide +kernel
theorem dX10_isFlight_7 : decode cX10_isFlight 7 = .ok (.isub, 1) := by decide +kernel
theorem dX10_isFlight_8 : decode cX10_isFlight 8 = .ok (.invokestatic 108, 3) := by decide +kernel
theorem dX10_isFlight_11 : decode cX10_isFlight 11 = .ok (.ireturn, 1) := by decide +kernel
set_option maxRecDepth 20000 in
theorem ggX10_land_X10_in : GoodIn wsX10_land wsX10_in := goodIn_r _ [9] (by decide +kernel) (by decide +kernel)
set_option maxRecDepth 20000 in
theorem gX10_land_X10_in : GoodIn wsX10_land (va_wsS RX10 108 yX10_in wsX10_in) := goodIn_app (goodIn_of _ (by decide +kernel)) ggX10_land_X10_in
theorem dX10_land_0 : decode cX10_land 0 = .ok (.iload_n 1, 1) := by decide +kernel
theorem dX10_land_1 : decode cX10_land 1 = .ok (.iconst 4, 1) := by decide +kernel
theorem dX10_land_2 : decode cX10_land 2 = .ok (.bipush 24, 2) := by decide +kernel
theorem dX10_land_4 : decode cX10_land 4 = .ok (.invokestatic 108, 3) := by decide +kernel
theorem dX10_land_7 : decode cX10_land 7 = .ok (.ifCond .eq 13, 3) := by decide +kernel
theorem dX10_land_10 : decode cX10_land 10 = .ok (.iload_n 2, 1) := by decide +kernel
theorem dX10_land_11 : decode cX10_land 11 = .ok (.iconst 4, 1) := by decide +kernel
theorem dX10_land_12 : decode cX10_land 12 = .ok (.bipush 24, 2) := by decide +kernel
theorem dX10_land_14 : decode cX10_land 14 = .ok (.invokestatic 108, 3) := by decide +kernel
theorem dX10_land_17 : decode cX10_land 17 = .ok (.ifCond .ne 6, 3) := by decide +kernel
theorem dX10_land_20 : decode cX10_land 20 = .ok (.bipush (-2), 2) := by decide +kernel
theorem dX10_land_22 : decode cX10_land 22 = .ok (.ireturn, 1) := by decide +kernel
theorem dX10_land_23 : decode cX10_land 23 = .ok (.aload_n 0, 1) := by decide +kernel
theorem dX10_land_24 : decode cX10_land 24 = .ok (.iload_n 1, 1) := by decide +kernel
theorem dX10_land_25 : decode cX10_land 25 = .ok (.putfield 7, 3) := by decide +kernel
theorem dX10_land_28 : decode cX10_land 28 = .ok (.aload_n 0, 1) := by decide +kernel
theorem dX10_land_29 : decode cX10_land 29 = .ok (.iload_n 2, 1) := by decide +kernel
theorem dX10_land_30 : decode cX10_land 30 = .ok (.putfield 13, 3) := by decide +kernel
theorem dX10_land_33 : decode cX10_land 33 = .ok (.iconst 0, 1) := by decide +kernel
theorem dX10_land_34 : decode cX10_land 34 = .ok (.istore_n 3, 1) := by decide +kernel
theorem dX10_land_35 : decode cX10_land 35 = .ok (.iload_n 3, 1) := by decide +kernel
theorem dX10_land_36 : decode cX10_land 36 = .ok (.sipush 576, 3) := by decide +kernel
theorem dX10_land_39 : decode cX10_land 39 = .ok (.if_icmp .ge 16, 3) := by decide +kernel
theorem dX10_land_42 : decode cX10_land 42 = .ok (.aload_n 0, 1) := by decide +kernel
theorem dX10_land_43 : decode cX10_land 43 = .ok (.getfield 16, 3) := by decide +kernel
theorem dX10_land_46 : decode cX10_land 46 = .ok (.iload_n 3, 1) := by decide +kernel
theorem dX10_land_47 : decode cX10_land 47 = .ok (.iconst 0, 1) := by decide +kernel
theorem dX10_land_48 : decode cX10_land 48 = .ok (.iastore, 1) := by decide +kernel
theorem dX10_land_49 : decode cX10_land 49 = .ok (.iinc 3 1, 3) := by decide +kernel
theorem dX10_land_52 : decode cX10_land 52 = .ok (.goto (-17), 3) := by decide +kernel
theorem dX10_land_55 : decode cX10_land 55 = .ok (.aload_n 0, 1) := by decide +kernel
theorem dX10_land_56 : decode cX10_land 56 = .ok (.iconst 0, 1) := by decide +kernel
theorem dX10_land_57 : decode cX10_land 57 = .ok (.putfield 112, 3) := by decide +kernel
theorem dX10_land_60 : decode cX10_land 60 = .ok (.aload_n 0, 1) := by decide +kernel
theorem dX10_land_61 : decode cX10_land 61 = .ok (.iconst 0, 1) := by decide +kernel
theorem dX10_land_62 : decode cX10_land 62 = .ok (.putfield 115, 3) := by decide +kernel
theorem dX10_land_65 : decode cX10_land 65 = .ok (.iconst 1, 1) := by decide +kernel
theorem dX10_land_66 : decode cX10_land 66 = .ok (.ireturn, 1) := by decide +kernel
set_option maxRecDepth 20000 in
theorem ggX10_cell_X10_isCell : GoodIn wsX10_cell wsX10_isCell := goodIn_r _ [9, 10, 11, 12, 13, 8, 14, 15, 16, 17, 18, 19, 20, 21, 22, 23, 24, 25, 26, 27, 28, 29, 30, 31, 32, 33, 34, 35, 36, 37, 38, 39, 40, 41, 42, 43, 44, 45, 46, 47, 48, 49, 50, 51, 52, 53, 54, 55, 56, 57] (by decide +kernel) (by decide +kernel)
set_option maxRecDepth 20000 in
theorem gX10_cell_X10_isCell : GoodIn wsX10_cell (wsV RX10 118 RX10 yX10_isCell wsX10_isCell) := goodIn_app (goodIn_of _ (by decide +kernel)) ggX10_cell_X10_isCell
set_option maxRecDepth 20000 in
theorem ggX10_cell_X10_in : GoodIn wsX10_cell wsX10_in := goodIn_r _ [14] (by decide +kernel) (by decide +kernel)
set_option maxRecDepth 20000 in
theorem gX10_cell_X10_in : GoodIn wsX10_cell (va_wsS RX10 108 yX10_in wsX10_in) := goodIn_app (goodIn_of _ (by decide +kernel)) ggX10_cell_X10_in
theorem dX10_cell_0 : decode cX10_cell 0 = .ok (.aload_n 0, 1) := by decide +kernel
theorem dX10_cell_1 : decode cX10_cell 1 = .ok (.iload_n 1, 1) := by decide +kernel
theorem dX10_cell_2 : decode cX10_cell 2 = .ok (.iload_n 2, 1) := by decide +kernel
theorem dX10_cell_3 : decode cX10_cell 3 = .ok (.invokevirtual 118, 3) := by decide +kernel
theorem dX10_cell_6 : decode cX10_cell 6 = .ok (.ifCond .eq 12, 3) := by decide +kernel
theorem dX10_cell_9 : decode cX10_cell 9 = .ok (.iload_n 3, 1) := by decide +kernel
theorem dX10_cell_10 : decode cX10_cell 10 = .ok (.iconst 0, 1) := by decide +kernel
theorem dX10_cell_11 : decode cX10_cell 11 = .ok (.iconst 2, 1) := by decide +kernel
theorem dX10_cell_12 : decode cX10_cell 12 = .ok (.invokestatic 108, 3) := by decide +kernel
theorem dX10_cell_15 : decode cX10_cell 15 = .ok (.ifCond .ne 6, 3) := by decide +kernel
theorem dX10_cell_18 : decode cX10_cell 18 = .ok (.bipush (-2), 2) := by decide +kernel
theorem dX10_cell_20 : decode cX10_cell 20 = .ok (.ireturn, 1) := by decide +kernel
theorem dX10_cell_21 : decode cX10_cell 21 = .ok (.iconst 0, 1) := by decide +kernel
theorem dX10_cell_22 : decode cX10_cell 22 = .ok (.istore 4, 2) := by decide +kernel
theorem dX10_cell_24 : decode cX10_cell 24 = .ok (.iload 4, 2) := by decide +kernel
theorem dX10_cell_26 : decode cX10_cell 26 = .ok (.aload_n 0, 1) := by decide +kernel
theorem dX10_cell_27 : decode cX10_cell 27 = .ok (.getfield 115, 3) := by decide +kernel
theorem dX10_cell_30 : decode cX10_cell 30 = .ok (.if_icmp .ge 39, 3) := by decide +kernel
theorem dX10_cell_33 : decode cX10_cell 33 = .ok (.iload_n 3, 1) := by decide +kernel
theorem dX10_cell_34 : decode cX10_cell 34 = .ok (.iconst 1, 1) := by decide +kernel
theorem dX10_cell_35 : decode cX10_cell 35 = .ok (.if_icmp .ne 34, 3) := by decide +kernel
theorem dX10_cell_38 : decode cX10_cell 38 = .ok (.aload_n 0, 1) := by decide +kernel
theorem dX10_cell_39 : decode cX10_cell 39 = .ok (.getfield 78, 3) := by decide +kernel
theorem dX10_cell_42 : decode cX10_cell 42 = .ok (.iload 4, 2) := by decide +kernel
theorem dX10_cell_44 : decode cX10_cell 44 = .ok (.iaload, 1) := by decide +kernel
theorem dX10_cell_45 : decode cX10_cell 45 = .ok (.iload_n 1, 1) := by decide +kernel
theorem dX10_cell_46 : decode cX10_cell 46 = .ok (.if_icmp .ne 17, 3) := by decide +kernel
theorem dX10_cell_49 : decode cX10_cell 49 = .ok (.aload_n 0, 1) := by decide +kernel
theorem dX10_cell_50 : decode cX10_cell 50 = .ok (.getfield 81, 3) := by decide +kernel
theorem dX10_cell_53 : decode cX10_cell 53 = .ok (.iload 4, 2) := by decide +kernel
theorem dX10_cell_55 : decode cX10_cell 55 = .ok (.iaload, 1) := by decide +kernel
theorem dX10_cell_56 : decode cX10_cell 56 = .ok (.iload_n 2, 1) := by decide +kernel
theorem dX10_cell_57 : decode cX10_cell 57 = .ok (.if_icmp .ne 6, 3) := by decide +kernel
theorem dX10_cell_60 : decode cX10_cell 60 = .ok (.bipush (-3), 2) := by decide +kernel
theorem dX10_cell_62 : decode cX10_cell 62 = .ok (.ireturn, 1) := by decide +kernel
theorem dX10_cell_63 : decode cX10_cell 63 = .ok (.iinc 4 1, 3) := by decide +kernel
theorem dX10_cell_66 : decode cX10_cell 66 = .ok (.goto (-42), 3) := by decide +kernel
theorem dX10_cell_69 : decode cX10_cell 69 = .ok (.aload_n 0, 1) := by decide +kernel
theorem dX10_cell_70 : decode cX10_cell 70 = .ok (.getfield 16, 3) := by decide +kernel
theorem dX10_cell_73 : decode cX10_cell 73 = .ok (.bipush 24, 2) := by decide +kernel
theorem dX10_cell_75 : decode cX10_cell 75 = .ok (.iload_n 2, 1) := by decide +kernel
theorem dX10_cell_76 : decode cX10_cell 76 = .ok (.imul, 1) := by decide +kernel
theorem dX10_cell_77 : decode cX10_cell 77 = .ok (.iload_n 1, 1) := by decide +kernel
theorem dX10_cell_78 : decode cX10_cell 78 = .ok (.iadd, 1) := by decide +kernel
theorem dX10_cell_79 : decode cX10_cell 79 = .ok (.iaload, 1) := by decide +kernel
theorem dX10_cell_80 : decode cX10_cell 80 = .ok (.istore 4, 2) := by decide +kernel
theorem dX10_cell_82 : decode cX10_cell 82 = .ok (.aload_n 0, 1) := by decide +kernel
theorem dX10_cell_83 : decode cX10_cell 83 = .ok (.getfield 16, 3) := by decide +kernel
theorem dX10_cell_86 : decode cX10_cell 86 = .ok (.bipush 24, 2) := by decide +kernel
theorem dX10_cell_88 : decode cX10_cell 88 = .ok (.iload_n 2, 1) := by decide +kernel
theorem dX10_cell_89 : decode cX10_cell 89 = .ok (.imul, 1) := by decide +kernel
theorem dX10_cell_90 : decode cX10_cell 90 = .ok (.iload_n 1, 1) := by decide +kernel
theorem dX10_cell_91 : decode cX10_cell 91 = .ok (.iadd, 1) := by decide +kernel
theorem dX10_cell_92 : decode cX10_cell 92 = .ok (.iload_n 3, 1) := by decide +kernel
theorem dX10_cell_93 : decode cX10_cell 93 = .ok (.iastore, 1) := by decide +kernel
theorem dX10_cell_94 : decode cX10_cell 94 = .ok (.iload 4, 2) := by decide +kernel
theorem dX10_cell_96 : decode cX10_cell 96 = .ok (.ireturn, 1) := by decide +kernel
set_option maxRecDepth 20000 in
theorem ggX10_level_X10_in : GoodIn wsX10_level wsX10_in := goodIn_r _ [6] (by decide +kernel) (by decide +kernel)
set_option maxRecDepth 20000 in
theorem gX10_level_X10_in : GoodIn wsX10_level (va_wsS RX10 108 yX10_in wsX10_in) := goodIn_app (goodIn_of _ (by decide +kernel)) ggX10_level_X10_in
theorem dX10_level_0 : decode cX10_level 0 = .ok (.iload_n 1, 1) := by decide +kernel
theorem dX10_level_1 : decode cX10_level 1 = .ok (.iconst 0, 1) := by decide +kernel
theorem dX10_level_2 : decode cX10_level 2 = .ok (.bipush 7, 2) := by decide +kernel
theorem dX10_level_4 : decode cX10_level 4 = .ok (.invokestatic 108, 3) := by decide +kernel
theorem dX10_level_7 : decode cX10_level 7 = .ok (.ifCond .eq 24, 3) := by decide +kernel
theorem dX10_level_10 : decode cX10_level 10 = .ok (.iload_n 2, 1) := by decide +kernel
theorem dX10_level_11 : decode cX10_level 11 = .ok (.iconst 0, 1) := by decide +kernel
theorem dX10_level_12 : decode cX10_level 12 = .ok (.bipush 50, 2) := by decide +kernel
theorem dX10_level_14 : decode cX10_level 14 = .ok (.invokestatic 108, 3) := by decide +kernel
theorem dX10_level_17 : decode cX10_level 17 = .ok (.ifCond .eq 14, 3) := by decide +kernel
theorem dX10_level_20 : decode cX10_level 20 = .ok (.iload_n 3, 1) := by decide +kernel
theorem dX10_level_21 : decode cX10_level 21 = .ok (.iconst 0, 1) := by decide +kernel
theorem dX10_level_22 : decode cX10_level 22 = .ok (.sipush 500, 3) := by decide +kernel
theorem dX10_level_25 : decode cX10_level 25 = .ok (.invokestatic 108, 3) := by decide +kernel
theorem dX10_level_28 : decode cX10_level 28 = .ok (.ifCond .ne 6, 3) := by decide +kernel
theorem dX10_level_31 : decode cX10_level 31 = .ok (.bipush (-2), 2) := by decide +kernel
theorem dX10_level_33 : decode cX10_level 33 = .ok (.ireturn, 1) := by decide +kernel
theorem dX10_level_34 : decode cX10_level 34 = .ok (.aload_n 0, 1) := by decide +kernel
theorem dX10_level_35 : decode cX10_level 35 = .ok (.getfield 20, 3) := by decide +kernel
theorem dX10_level_38 : decode cX10_level 38 = .ok (.iload_n 1, 1) := by decide +kernel
theorem dX10_level_39 : decode cX10_level 39 = .ok (.iload_n 2, 1) := by decide +kernel
theorem dX10_level_40 : decode cX10_level 40 = .ok (.iastore, 1) := by decide +kernel
theorem dX10_level_41 : decode cX10_level 41 = .ok (.aload_n 0, 1) := by decide +kernel
theorem dX10_level_42 : decode cX10_level 42 = .ok (.getfield 23, 3) := by decide +kernel
theorem dX10_level_45 : decode cX10_level 45 = .ok (.iload_n 1, 1) := by decide +kernel
theorem dX10_level_46 : decode cX10_level 46 = .ok (.iload_n 3, 1) := by decide +kernel
theorem dX10_level_47 : decode cX10_level 47 = .ok (.iastore, 1) := by decide +kernel
theorem dX10_level_48 : decode cX10_level 48 = .ok (.iconst 1, 1) := by decide +kernel
theorem dX10_level_49 : decode cX10_level 49 = .ok (.ireturn, 1) := by decide +kernel
set_option maxRecDepth 20000 in
theorem ggX10_warmth_X10_in : GoodIn wsX10_warmth wsX10_in := goodIn_r _ [5] (by decide +kernel) (by decide +kernel)
set_option maxRecDepth 20000 in
theorem gX10_warmth_X10_in : GoodIn wsX10_warmth (va_wsS RX10 108 yX10_in wsX10_in) := goodIn_app (goodIn_of _ (by decide +kernel)) ggX10_warmth_X10_in
theorem dX10_warmth_0 : decode cX10_warmth 0 = .ok (.iload_n 1, 1) := by decide +kernel
theorem dX10_warmth_1 : decode cX10_warmth 1 = .ok (.iconst 0, 1) := by decide +kernel
theorem dX10_warmth_2 : decode cX10_warmth 2 = .ok (.bipush 23, 2) := by decide +kernel
theorem dX10_warmth_4 : decode cX10_warmth 4 = .ok (.invokestatic 108, 3) := by decide +kernel
theorem dX10_warmth_7 : decode cX10_warmth 7 = .ok (.ifCond .eq 14, 3) := by decide +kernel
theorem dX10_warmth_10 : decode cX10_warmth 10 = .ok (.iload_n 2, 1) := by decide +kernel
theorem dX10_warmth_11 : decode cX10_warmth 11 = .ok (.bipush (-20), 2) := by decide +kernel
theorem dX10_warmth_13 : decode cX10_warmth 13 = .ok (.bipush 20, 2) := by decide +kernel
theorem dX10_warmth_15 : decode cX10_warmth 15 = .ok (.invokestatic 108, 3) := by decide +kernel
theorem dX10_warmth_18 : decode cX10_warmth 18 = .ok (.ifCond .ne 7, 3) := by decide +kernel
theorem dX10_warmth_21 : decode cX10_warmth 21 = .ok (.sipush (-1000), 3) := by decide +kernel
theorem dX10_warmth_24 : decode cX10_warmth 24 = .ok (.ireturn, 1) := by decide +kernel
theorem dX10_warmth_25 : decode cX10_warmth 25 = .ok (.aload_n 0, 1) := by decide +kernel
theorem dX10_warmth_26 : decode cX10_warmth 26 = .ok (.getfield 26, 3) := by decide +kernel
theorem dX10_warmth_29 : decode cX10_warmth 29 = .ok (.iload_n 1, 1) := by decide +kernel
theorem dX10_warmth_30 : decode cX10_warmth 30 = .ok (.iaload, 1) := by decide +kernel
theorem dX10_warmth_31 : decode cX10_warmth 31 = .ok (.istore_n 3, 1) := by decide +kernel
theorem dX10_warmth_32 : decode cX10_warmth 32 = .ok (.aload_n 0, 1) := by decide +kernel
theorem dX10_warmth_33 : decode cX10_warmth 33 = .ok (.getfield 26, 3) := by decide +kernel
theorem dX10_warmth_36 : decode cX10_warmth 36 = .ok (.iload_n 1, 1) := by decide +kernel
theorem dX10_warmth_37 : decode cX10_warmth 37 = .ok (.iload_n 2, 1) := by decide +kernel
theorem dX10_warmth_38 : decode cX10_warmth 38 = .ok (.iastore, 1) := by decide +kernel
theorem dX10_warmth_39 : decode cX10_warmth 39 = .ok (.iload_n 3, 1) := by decide +kernel
theorem dX10_warmth_40 : decode cX10_warmth 40 = .ok (.ireturn, 1) := by decide +kernel
set_option maxRecDepth 20000 in
theorem ggX10_wind_X10_in : GoodIn wsX10_wind wsX10_in := goodIn_r _ [6] (by decide +kernel) (by decide +kernel)
set_option maxRecDepth 20000 in
theorem gX10_wind_X10_in : GoodIn wsX10_wind (va_wsS RX10 108 yX10_in wsX10_in) := goodIn_app (goodIn_of _ (by decide +kernel)) ggX10_wind_X10_in
set_option maxRecDepth 20000 in
theorem ggX10_wind_X10_windAt : GoodIn wsX10_wind wsX10_windAt := goodIn_r _ [9] (by decide +kernel) (by decide +kernel)
set_option maxRecDepth 20000 in
theorem gX10_wind_X10_windAt : GoodIn wsX10_wind (va_wsS RX10 122 yX10_windAt wsX10_windAt) := goodIn_app (goodIn_of _ (by decide +kernel)) ggX10_wind_X10_windAt
theorem dX10_wind_0 : decode cX10_wind 0 = .ok (.iload_n 2, 1) := by decide +kernel
theorem dX10_wind_1 : decode cX10_wind 1 = .ok (.iconst 1, 1) := by decide +kernel
theorem dX10_wind_2 : decode cX10_wind 2 = .ok (.bipush 7, 2) := by decide +kernel
theorem dX10_wind_4 : decode cX10_wind 4 = .ok (.invokestatic 108, 3) := by decide +kernel
theorem dX10_wind_7 : decode cX10_wind 7 = .ok (.ifCond .eq 46, 3) := by decide +kernel
theorem dX10_wind_10 : decode cX10_wind 10 = .ok (.iload_n 3, 1) := by decide +kernel
theorem dX10_wind_11 : decode cX10_wind 11 = .ok (.iconst 0, 1) := by decide +kernel
theorem dX10_wind_12 : decode cX10_wind 12 = .ok (.bipush 23, 2) := by decide +kernel
theorem dX10_wind_14 : decode cX10_wind 14 = .ok (.invokestatic 108, 3) := by decide +kernel
theorem dX10_wind_17 : decode cX10_wind 17 = .ok (.ifCond .eq 36, 3) := by decide +kernel
theorem dX10_wind_20 : decode cX10_wind 20 = .ok (.iload 4, 2) := by decide +kernel
theorem dX10_wind_22 : decode cX10_wind 22 = .ok (.iload_n 3, 1) := by decide +kernel
theorem dX10_wind_23 : decode cX10_wind 23 = .ok (.bipush 23, 2) := by decide +kernel
theorem dX10_wind_25 : decode cX10_wind 25 = .ok (.invokestatic 108, 3) := by decide +kernel
theorem dX10_wind_28 : decode cX10_wind 28 = .ok (.ifCond .eq 25, 3) := by decide +kernel
theorem dX10_wind_31 : decode cX10_wind 31 = .ok (.iload 5, 2) := by decide +kernel
theorem dX10_wind_33 : decode cX10_wind 33 = .ok (.bipush (-2), 2) := by decide +kernel
theorem dX10_wind_35 : decode cX10_wind 35 = .ok (.iconst 2, 1) := by decide +kernel
theorem dX10_wind_36 : decode cX10_wind 36 = .ok (.invokestatic 108, 3) := by decide +kernel
theorem dX10_wind_39 : decode cX10_wind 39 = .ok (.ifCond .eq 14, 3) := by decide +kernel
theorem dX10_wind_42 : decode cX10_wind 42 = .ok (.iload 6, 2) := by decide +kernel
theorem dX10_wind_44 : decode cX10_wind 44 = .ok (.bipush (-2), 2) := by decide +kernel
theorem dX10_wind_46 : decode cX10_wind 46 = .ok (.iconst 2, 1) := by decide +kernel
theorem dX10_wind_47 : decode cX10_wind 47 = .ok (.invokestatic 108, 3) := by decide +kernel
theorem dX10_wind_50 : decode cX10_wind 50 = .ok (.ifCond .ne 6, 3) := by decide +kernel
theorem dX10_wind_53 : decode cX10_wind 53 = .ok (.bipush (-2), 2) := by decide +kernel
theorem dX10_wind_55 : decode cX10_wind 55 = .ok (.ireturn, 1) := by decide +kernel
theorem dX10_wind_56 : decode cX10_wind 56 = .ok (.iload_n 3, 1) := by decide +kernel
theorem dX10_wind_57 : decode cX10_wind 57 = .ok (.istore 7, 2) := by decide +kernel
theorem dX10_wind_59 : decode cX10_wind 59 = .ok (.iload 7, 2) := by decide +kernel
theorem dX10_wind_61 : decode cX10_wind 61 = .ok (.iload 4, 2) := by decide +kernel
theorem dX10_wind_63 : decode cX10_wind 63 = .ok (.if_icmp .gt 53, 3) := by decide +kernel
theorem dX10_wind_66 : decode cX10_wind 66 = .ok (.aload_n 0, 1) := by decide +kernel
theorem dX10_wind_67 : decode cX10_wind 67 = .ok (.getfield 29, 3) := by decide +kernel
theorem dX10_wind_70 : decode cX10_wind 70 = .ok (.iload_n 1, 1) := by decide +kernel
theorem dX10_wind_71 : decode cX10_wind 71 = .ok (.ifCond .eq 7, 3) := by decide +kernel
theorem dX10_wind_74 : decode cX10_wind 74 = .ok (.iconst 0, 1) := by decide +kernel
theorem dX10_wind_75 : decode cX10_wind 75 = .ok (.goto 4, 3) := by decide +kernel
theorem dX10_wind_78 : decode cX10_wind 78 = .ok (.iconst 1, 1) := by decide +kernel
theorem dX10_wind_79 : decode cX10_wind 79 = .ok (.iload_n 2, 1) := by decide +kernel
theorem dX10_wind_80 : decode cX10_wind 80 = .ok (.iload 7, 2) := by decide +kernel
theorem dX10_wind_82 : decode cX10_wind 82 = .ok (.invokestatic 122, 3) := by decide +kernel
theorem dX10_wind_85 : decode cX10_wind 85 = .ok (.iload 5, 2) := by decide +kernel
theorem dX10_wind_87 : decode cX10_wind 87 = .ok (.iastore, 1) := by decide +kernel
theorem dX10_wind_88 : decode cX10_wind 88 = .ok (.aload_n 0, 1) := by decide +kernel
theorem dX10_wind_89 : decode cX10_wind 89 = .ok (.getfield 32, 3) := by decide +kernel
theorem dX10_wind_92 : decode cX10_wind 92 = .ok (.iload_n 1, 1) := by decide +kernel
theorem dX10_wind_93 : decode cX10_wind 93 = .ok (.ifCond .eq 7, 3) := by decide +kernel
theorem dX10_wind_96 : decode cX10_wind 96 = .ok (.iconst 0, 1) := by decide +kernel
theorem dX10_wind_97 : decode cX10_wind 97 = .ok (.goto 4, 3) := by decide +kernel
theorem dX10_wind_100 : decode cX10_wind 100 = .ok (.iconst 1, 1) := by decide +kernel
theorem dX10_wind_101 : decode cX10_wind 101 = .ok (.iload_n 2, 1) := by decide +kernel
theorem dX10_wind_102 : decode cX10_wind 102 = .ok (.iload 7, 2) := by decide +kernel
theorem dX10_wind_104 : decode cX10_wind 104 = .ok (.invokestatic 122, 3) := by decide +kernel
theorem dX10_wind_107 : decode cX10_wind 107 = .ok (.iload 6, 2) := by decide +kernel
theorem dX10_wind_109 : decode cX10_wind 109 = .ok (.iastore, 1) := by decide +kernel
theorem dX10_wind_110 : decode cX10_wind 110 = .ok (.iinc 7 1, 3) := by decide +kernel
theorem dX10_wind_113 : decode cX10_wind 113 = .ok (.goto (-54), 3) := by decide +kernel
theorem dX10_wind_116 : decode cX10_wind 116 = .ok (.iconst 1, 1) := by decide +kernel
theorem dX10_wind_117 : decode cX10_wind 117 = .ok (.ireturn, 1) := by decide +kernel
theorem dX10_windAt_0 : decode cX10_windAt 0 = .ok (.sipush 192, 3) := by decide +kernel
theorem dX10_windAt_3 : decode cX10_windAt 3 = .ok (.iload_n 0, 1) := by decide +kernel
theorem dX10_windAt_4 : decode cX10_windAt 4 = .ok (.imul, 1) := by decide +kernel
theorem dX10_windAt_5 : decode cX10_windAt 5 = .ok (.bipush 24, 2) := by decide +kernel
theorem dX10_windAt_7 : decode cX10_windAt 7 = .ok (.iload_n 1, 1) := by decide +kernel
theorem dX10_windAt_8 : decode cX10_windAt 8 = .ok (.imul, 1) := by decide +kernel
theorem dX10_windAt_9 : decode cX10_windAt 9 = .ok (.iadd, 1) := by decide +kernel
theorem dX10_windAt_10 : decode cX10_windAt 10 = .ok (.iload_n 2, 1) := by decide +kernel
theorem dX10_windAt_11 : decode cX10_windAt 11 = .ok (.iadd, 1) := by decide +kernel
theorem dX10_windAt_12 : decode cX10_windAt 12 = .ok (.ireturn, 1) := by decide +kernel
set_option maxRecDepth 20000 in
theorem ggX10_tick_X10_led : GoodIn wsX10_tick wsX10_led := goodIn_r _ [14, 15, 16, 17, 18, 13, 19, 20, 21, 22, 23, 24, 25, 26, 27, 28, 29, 30, 31, 32, 33, 34, 35, 36, 37, 38, 39, 40, 41, 42, 43, 44, 45, 46, 47, 48, 49, 50, 51, 52, 53, 54, 55, 56, 57, 58, 59, 60, 61, 62, 63, 64, 65, 66, 67, 68, 69, 70, 71] (by decide +kernel) (by decide +kernel)
set_option maxRecDepth 20000 in
theorem gX10_tick_X10_led : GoodIn wsX10_tick (wsV RX10 144 RX10 yX10_led wsX10_led) := goodIn_app (goodIn_of _ (by decide +kernel)) ggX10_tick_X10_led
theorem dX10_tick_0 : decode cX10_tick 0 = .ok (.iload 4, 2) := by decide +kernel
theorem dX10_tick_2 : decode cX10_tick 2 = .ok (.iconst 1, 1) := by decide +kernel
theorem dX10_tick_3 : decode cX10_tick 3 = .ok (.if_icmp .ne 30, 3) := by decide +kernel
theorem dX10_tick_6 : decode cX10_tick 6 = .ok (.aload_n 0, 1) := by decide +kernel
theorem dX10_tick_7 : decode cX10_tick 7 = .ok (.aload_n 0, 1) := by decide +kernel
theorem dX10_tick_8 : decode cX10_tick 8 = .ok (.getfield 126, 3) := by decide +kernel
theorem dX10_tick_11 : decode cX10_tick 11 = .ok (.iload 5, 2) := by decide +kernel
theorem dX10_tick_13 : decode cX10_tick 13 = .ok (.if_icmp .le 13, 3) := by decide +kernel
theorem dX10_tick_16 : decode cX10_tick 16 = .ok (.aload_n 0, 1) := by decide +kernel
theorem dX10_tick_17 : decode cX10_tick 17 = .ok (.getfield 126, 3) := by decide +kernel
theorem dX10_tick_20 : decode cX10_tick 20 = .ok (.iload 5, 2) := by decide +kernel
theorem dX10_tick_22 : decode cX10_tick 22 = .ok (.isub, 1) := by decide +kernel
theorem dX10_tick_23 : decode cX10_tick 23 = .ok (.goto 4, 3) := by decide +kernel
theorem dX10_tick_26 : decode cX10_tick 26 = .ok (.iconst 0, 1) := by decide +kernel
theorem dX10_tick_27 : decode cX10_tick 27 = .ok (.putfield 126, 3) := by decide +kernel
theorem dX10_tick_30 : decode cX10_tick 30 = .ok (.goto 33, 3) := by decide +kernel
theorem dX10_tick_33 : decode cX10_tick 33 = .ok (.iload 4, 2) := by decide +kernel
theorem dX10_tick_35 : decode cX10_tick 35 = .ok (.iconst 2, 1) := by decide +kernel
theorem dX10_tick_36 : decode cX10_tick 36 = .ok (.if_icmp .ne 27, 3) := by decide +kernel
theorem dX10_tick_39 : decode cX10_tick 39 = .ok (.aload_n 0, 1) := by decide +kernel
theorem dX10_tick_40 : decode cX10_tick 40 = .ok (.aload_n 0, 1) := by decide +kernel
theorem dX10_tick_41 : decode cX10_tick 41 = .ok (.getfield 129, 3) := by decide +kernel
theorem dX10_tick_44 : decode cX10_tick 44 = .ok (.iload 5, 2) := by decide +kernel
theorem dX10_tick_46 : decode cX10_tick 46 = .ok (.if_icmp .le 13, 3) := by decide +kernel
theorem dX10_tick_49 : decode cX10_tick 49 = .ok (.aload_n 0, 1) := by decide +kernel
theorem dX10_tick_50 : decode cX10_tick 50 = .ok (.getfield 129, 3) := by decide +kernel
theorem dX10_tick_53 : decode cX10_tick 53 = .ok (.iload 5, 2) := by decide +kernel
theorem dX10_tick_55 : decode cX10_tick 55 = .ok (.isub, 1) := by decide +kernel
theorem dX10_tick_56 : decode cX10_tick 56 = .ok (.goto 4, 3) := by decide +kernel
theorem dX10_tick_59 : decode cX10_tick 59 = .ok (.iconst 0, 1) := by decide +kernel
theorem dX10_tick_60 : decode cX10_tick 60 = .ok (.putfield 129, 3) := by decide +kernel
theorem dX10_tick_63 : decode cX10_tick 63 = .ok (.aload_n 0, 1) := by decide +kernel
theorem dX10_tick_64 : decode cX10_tick 64 = .ok (.getfield 129, 3) := by decide +kernel
theorem dX10_tick_67 : decode cX10_tick 67 = .ok (.aload_n 0, 1) := by decide +kernel
theorem dX10_tick_68 : decode cX10_tick 68 = .ok (.getfield 20, 3) := by decide +kernel
theorem dX10_tick_71 : decode cX10_tick 71 = .ok (.aload_n 0, 1) := by decide +kernel
theorem dX10_tick_72 : decode cX10_tick 72 = .ok (.getfield 132, 3) := by decide +kernel
theorem dX10_tick_75 : decode cX10_tick 75 = .ok (.iaload, 1) := by decide +kernel
theorem dX10_tick_76 : decode cX10_tick 76 = .ok (.aload_n 0, 1) := by decide +kernel
theorem dX10_tick_77 : decode cX10_tick 77 = .ok (.getfield 26, 3) := by decide +kernel
theorem dX10_tick_80 : decode cX10_tick 80 = .ok (.iload_n 2, 1) := by decide +kernel
theorem dX10_tick_81 : decode cX10_tick 81 = .ok (.iaload, 1) := by decide +kernel
theorem dX10_tick_82 : decode cX10_tick 82 = .ok (.iadd, 1) := by decide +kernel
theorem dX10_tick_83 : decode cX10_tick 83 = .ok (.imul, 1) := by decide +kernel
theorem dX10_tick_84 : decode cX10_tick 84 = .ok (.istore 6, 2) := by decide +kernel
theorem dX10_tick_86 : decode cX10_tick 86 = .ok (.bipush 10, 2) := by decide +kernel
theorem dX10_tick_88 : decode cX10_tick 88 = .ok (.iload_n 3, 1) := by decide +kernel
theorem dX10_tick_89 : decode cX10_tick 89 = .ok (.aload_n 0, 1) := by decide +kernel
theorem dX10_tick_90 : decode cX10_tick 90 = .ok (.getfield 126, 3) := by decide +kernel
theorem dX10_tick_93 : decode cX10_tick 93 = .ok (.iadd, 1) := by decide +kernel
theorem dX10_tick_94 : decode cX10_tick 94 = .ok (.imul, 1) := by decide +kernel
theorem dX10_tick_95 : decode cX10_tick 95 = .ok (.istore 7, 2) := by decide +kernel
theorem dX10_tick_97 : decode cX10_tick 97 = .ok (.iload 6, 2) := by decide +kernel
theorem dX10_tick_99 : decode cX10_tick 99 = .ok (.iload 7, 2) := by decide +kernel
theorem dX10_tick_101 : decode cX10_tick 101 = .ok (.if_icmp .le 30, 3) := by decide +kernel
theorem dX10_tick_104 : decode cX10_tick 104 = .ok (.aload_n 0, 1) := by decide +kernel
theorem dX10_tick_105 : decode cX10_tick 105 = .ok (.aload_n 0, 1) := by decide +kernel
theorem dX10_tick_106 : decode cX10_tick 106 = .ok (.getfield 132, 3) := by decide +kernel
theorem dX10_tick_109 : decode cX10_tick 109 = .ok (.bipush 7, 2) := by decide +kernel
theorem dX10_tick_111 : decode cX10_tick 111 = .ok (.if_icmp .ge 12, 3) := by decide +kernel
theorem dX10_tick_114 : decode cX10_tick 114 = .ok (.aload_n 0, 1) := by decide +kernel
theorem dX10_tick_115 : decode cX10_tick 115 = .ok (.getfield 132, 3) := by decide +kernel
theorem dX10_tick_118 : decode cX10_tick 118 = .ok (.iconst 1, 1) := by decide +kernel
theorem dX10_tick_119 : decode cX10_tick 119 = .ok (.iadd, 1) := by decide +kernel
theorem dX10_tick_120 : decode cX10_tick 120 = .ok (.goto 5, 3) := by decide +kernel
theorem dX10_tick_123 : decode cX10_tick 123 = .ok (.bipush 7, 2) := by decide +kernel
theorem dX10_tick_125 : decode cX10_tick 125 = .ok (.putfield 132, 3) := by decide +kernel
theorem dX10_tick_128 : decode cX10_tick 128 = .ok (.goto 20, 3) := by decide +kernel
theorem dX10_tick_131 : decode cX10_tick 131 = .ok (.iload 6, 2) := by decide +kernel
theorem dX10_tick_133 : decode cX10_tick 133 = .ok (.iload 7, 2) := by decide +kernel
theorem dX10_tick_135 : decode cX10_tick 135 = .ok (.if_icmp .ge 13, 3) := by decide +kernel
theorem dX10_tick_138 : decode cX10_tick 138 = .ok (.aload_n 0, 1) := by decide +kernel
theorem dX10_tick_139 : decode cX10_tick 139 = .ok (.dup, 1) := by decide +kernel
theorem dX10_tick_140 : decode cX10_tick 140 = .ok (.getfield 132, 3) := by decide +kernel
theorem dX10_tick_143 : decode cX10_tick 143 = .ok (.iconst 1, 1) := by decide +kernel
theorem dX10_tick_144 : decode cX10_tick 144 = .ok (.isub, 1) := by decide +kernel
theorem dX10_tick_145 : decode cX10_tick 145 = .ok (.putfield 132, 3) := by decide +kernel
theorem dX10_tick_148 : decode cX10_tick 148 = .ok (.aload_n 0, 1) := by decide +kernel
theorem dX10_tick_149 : decode cX10_tick 149 = .ok (.getfield 129, 3) := by decide +kernel
theorem dX10_tick_152 : decode cX10_tick 152 = .ok (.aload_n 0, 1) := by decide +kernel
theorem dX10_tick_153 : decode cX10_tick 153 = .ok (.getfield 23, 3) := by decide +kernel
theorem dX10_tick_156 : decode cX10_tick 156 = .ok (.aload_n 0, 1) := by decide +kernel
theorem dX10_tick_157 : decode cX10_tick 157 = .ok (.getfield 132, 3) := by decide +kernel
theorem dX10_tick_160 : decode cX10_tick 160 = .ok (.iaload, 1) := by decide +kernel
theorem dX10_tick_161 : decode cX10_tick 161 = .ok (.if_icmp .le 39, 3) := by decide +kernel
theorem dX10_tick_164 : decode cX10_tick 164 = .ok (.aload_n 0, 1) := by decide +kernel
theorem dX10_tick_165 : decode cX10_tick 165 = .ok (.dup, 1) := by decide +kernel
theorem dX10_tick_166 : decode cX10_tick 166 = .ok (.getfield 135, 3) := by decide +kernel
theorem dX10_tick_169 : decode cX10_tick 169 = .ok (.aload_n 0, 1) := by decide +kernel
theorem dX10_tick_170 : decode cX10_tick 170 = .ok (.getfield 129, 3) := by decide +kernel
theorem dX10_tick_173 : decode cX10_tick 173 = .ok (.aload_n 0, 1) := by decide +kernel
theorem dX10_tick_174 : decode cX10_tick 174 = .ok (.getfield 23, 3) := by decide +kernel
theorem dX10_tick_177 : decode cX10_tick 177 = .ok (.aload_n 0, 1) := by decide +kernel
theorem dX10_tick_178 : decode cX10_tick 178 = .ok (.getfield 132, 3) := by decide +kernel
theorem dX10_tick_181 : decode cX10_tick 181 = .ok (.iaload, 1) := by decide +kernel
theorem dX10_tick_182 : decode cX10_tick 182 = .ok (.isub, 1) := by decide +kernel
theorem dX10_tick_183 : decode cX10_tick 183 = .ok (.iadd, 1) := by decide +kernel
theorem dX10_tick_184 : decode cX10_tick 184 = .ok (.putfield 135, 3) := by decide +kernel
theorem dX10_tick_187 : decode cX10_tick 187 = .ok (.aload_n 0, 1) := by decide +kernel
theorem dX10_tick_188 : decode cX10_tick 188 = .ok (.aload_n 0, 1) := by decide +kernel
theorem dX10_tick_189 : decode cX10_tick 189 = .ok (.getfield 23, 3) := by decide +kernel
theorem dX10_tick_192 : decode cX10_tick 192 = .ok (.aload_n 0, 1) := by decide +kernel
theorem dX10_tick_193 : decode cX10_tick 193 = .ok (.getfield 132, 3) := by decide +kernel
theorem dX10_tick_196 : decode cX10_tick 196 = .ok (.iaload, 1) := by decide +kernel
theorem dX10_tick_197 : decode cX10_tick 197 = .ok (.putfield 129, 3) := by decide +kernel
theorem dX10_tick_200 : decode cX10_tick 200 = .ok (.aload_n 0, 1) := by decide +kernel
theorem dX10_tick_201 : decode cX10_tick 201 = .ok (.getfield 132, 3) := by decide +kernel
theorem dX10_tick_204 : decode cX10_tick 204 = .ok (.ifCond .le 41, 3) := by decide +kernel
theorem dX10_tick_207 : decode cX10_tick 207 = .ok (.aload_n 0, 1) := by decide +kernel
theorem dX10_tick_208 : decode cX10_tick 208 = .ok (.iload_n 1, 1) := by decide +kernel
theorem dX10_tick_209 : decode cX10_tick 209 = .ok (.aload_n 0, 1) := by decide +kernel
theorem dX10_tick_210 : decode cX10_tick 210 = .ok (.getfield 132, 3) := by decide +kernel
theorem dX10_tick_213 : decode cX10_tick 213 = .ok (.iload_n 2, 1) := by decide +kernel
theorem dX10_tick_214 : decode cX10_tick 214 = .ok (.aload_n 0, 1) := by decide +kernel
theorem dX10_tick_215 : decode cX10_tick 215 = .ok (.getfield 138, 3) := by decide +kernel
theorem dX10_tick_218 : decode cX10_tick 218 = .ok (.aload_n 0, 1) := by decide +kernel
theorem dX10_tick_219 : decode cX10_tick 219 = .ok (.getfield 141, 3) := by decide +kernel
theorem dX10_tick_222 : decode cX10_tick 222 = .ok (.invokevirtual 144, 3) := by decide +kernel
theorem dX10_tick_225 : decode cX10_tick 225 = .ok (.istore 8, 2) := by decide +kernel
theorem dX10_tick_227 : decode cX10_tick 227 = .ok (.aload_n 0, 1) := by decide +kernel
theorem dX10_tick_228 : decode cX10_tick 228 = .ok (.iload 8, 2) := by decide +kernel
theorem dX10_tick_230 : decode cX10_tick 230 = .ok (.bipush 24, 2) := by decide +kernel
theorem dX10_tick_232 : decode cX10_tick 232 = .ok (.irem, 1) := by decide +kernel
theorem dX10_tick_233 : decode cX10_tick 233 = .ok (.putfield 138, 3) := by decide +kernel
theorem dX10_tick_236 : decode cX10_tick 236 = .ok (.aload_n 0, 1) := by decide +kernel
theorem dX10_tick_237 : decode cX10_tick 237 = .ok (.iload 8, 2) := by decide +kernel
theorem dX10_tick_239 : decode cX10_tick 239 = .ok (.bipush 24, 2) := by decide +kernel
theorem dX10_tick_241 : decode cX10_tick 241 = .ok (.idiv, 1) := by decide +kernel
theorem dX10_tick_242 : decode cX10_tick 242 = .ok (.putfield 141, 3) := by decide +kernel
theorem dX10_tick_245 : decode cX10_tick 245 = .ok (.return_, 1) := by decide +kernel
set_option maxRecDepth 20000 in
theorem ggX10_led_X10_windAt : GoodIn wsX10_led wsX10_windAt := goodIn_r _ [6] (by decide +kernel) (by decide +kernel)
set_option maxRecDepth 20000 in
theorem gX10_led_X10_windAt : GoodIn wsX10_led (va_wsS RX10 122 yX10_windAt wsX10_windAt) := goodIn_app (goodIn_of _ (by decide +kernel)) ggX10_led_X10_windAt
set_option maxRecDepth 20000 in
theorem ggX10_led_X10_isCell : GoodIn wsX10_led wsX10_isCell := goodIn_r _ [10, 11, 12, 13, 14, 5, 15, 16, 17, 18, 19, 20, 21, 22, 23, 24, 25, 26, 27, 28, 29, 30, 31, 32, 33, 34, 35, 36, 37, 38, 39, 40, 41, 42, 43, 44, 45, 46, 47, 48, 49, 50, 51, 52, 53, 54, 55, 56, 57, 58] (by decide +kernel) (by decide +kernel)
set_option maxRecDepth 20000 in
theorem gX10_led_X10_isCell : GoodIn wsX10_led (wsV RX10 118 RX10 yX10_isCell wsX10_isCell) := goodIn_app (goodIn_of _ (by decide +kernel)) ggX10_led_X10_isCell
theorem dX10_led_0 : decode cX10_led 0 = .ok (.iload_n 1, 1) := by decide +kernel
theorem dX10_led_1 : decode cX10_led 1 = .ok (.iload_n 2, 1) := by decide +kernel
theorem dX10_led_2 : decode cX10_led 2 = .ok (.iload_n 3, 1) := by decide +kernel
theorem dX10_led_3 : decode cX10_led 3 = .ok (.invokestatic 122, 3) := by decide +kernel
theorem dX10_led_6 : decode cX10_led 6 = .ok (.istore 6, 2) := by decide +kernel
theorem dX10_led_8 : decode cX10_led 8 = .ok (.aload_n 0, 1) := by decide +kernel
theorem dX10_led_9 : decode cX10_led 9 = .ok (.iload 4, 2) := by decide +kernel
theorem dX10_led_11 : decode cX10_led 11 = .ok (.aload_n 0, 1) := by decide +kernel
theorem dX10_led_12 : decode cX10_led 12 = .ok (.getfield 29, 3) := by decide +kernel
theorem dX10_led_15 : decode cX10_led 15 = .ok (.iload 6, 2) := by decide +kernel
theorem dX10_led_17 : decode cX10_led 17 = .ok (.iaload, 1) := by decide +kernel
theorem dX10_led_18 : decode cX10_led 18 = .ok (.iadd, 1) := by decide +kernel
theorem dX10_led_19 : decode cX10_led 19 = .ok (.iload 5, 2) := by decide +kernel
theorem dX10_led_21 : decode cX10_led 21 = .ok (.aload_n 0, 1) := by decide +kernel
theorem dX10_led_22 : decode cX10_led 22 = .ok (.getfield 32, 3) := by decide +kernel
theorem dX10_led_25 : decode cX10_led 25 = .ok (.iload 6, 2) := by decide +kernel
theorem dX10_led_27 : decode cX10_led 27 = .ok (.iaload, 1) := by decide +kernel
theorem dX10_led_28 : decode cX10_led 28 = .ok (.iadd, 1) := by decide +kernel
theorem dX10_led_29 : decode cX10_led 29 = .ok (.invokevirtual 118, 3) := by decide +kernel
theorem dX10_led_32 : decode cX10_led 32 = .ok (.ifCond .eq 30, 3) := by decide +kernel
theorem dX10_led_35 : decode cX10_led 35 = .ok (.bipush 24, 2) := by decide +kernel
theorem dX10_led_37 : decode cX10_led 37 = .ok (.iload 5, 2) := by decide +kernel
theorem dX10_led_39 : decode cX10_led 39 = .ok (.aload_n 0, 1) := by decide +kernel
theorem dX10_led_40 : decode cX10_led 40 = .ok (.getfield 32, 3) := by decide +kernel
theorem dX10_led_43 : decode cX10_led 43 = .ok (.iload 6, 2) := by decide +kernel
theorem dX10_led_45 : decode cX10_led 45 = .ok (.iaload, 1) := by decide +kernel
theorem dX10_led_46 : decode cX10_led 46 = .ok (.iadd, 1) := by decide +kernel
theorem dX10_led_47 : decode cX10_led 47 = .ok (.imul, 1) := by decide +kernel
theorem dX10_led_48 : decode cX10_led 48 = .ok (.iload 4, 2) := by decide +kernel
theorem dX10_led_50 : decode cX10_led 50 = .ok (.iadd, 1) := by decide +kernel
theorem dX10_led_51 : decode cX10_led 51 = .ok (.aload_n 0, 1) := by decide +kernel
theorem dX10_led_52 : decode cX10_led 52 = .ok (.getfield 29, 3) := by decide +kernel
theorem dX10_led_55 : decode cX10_led 55 = .ok (.iload 6, 2) := by decide +kernel
theorem dX10_led_57 : decode cX10_led 57 = .ok (.iaload, 1) := by decide +kernel
theorem dX10_led_58 : decode cX10_led 58 = .ok (.iadd, 1) := by decide +kernel
theorem dX10_led_59 : decode cX10_led 59 = .ok (.goto 11, 3) := by decide +kernel
theorem dX10_led_62 : decode cX10_led 62 = .ok (.bipush 24, 2) := by decide +kernel
theorem dX10_led_64 : decode cX10_led 64 = .ok (.iload 5, 2) := by decide +kernel
theorem dX10_led_66 : decode cX10_led 66 = .ok (.imul, 1) := by decide +kernel
theorem dX10_led_67 : decode cX10_led 67 = .ok (.iload 4, 2) := by decide +kernel
theorem dX10_led_69 : decode cX10_led 69 = .ok (.iadd, 1) := by decide +kernel
theorem dX10_led_70 : decode cX10_led 70 = .ok (.ireturn, 1) := by decide +kernel
theorem dX10_begin_0 : decode cX10_begin 0 = .ok (.aload_n 0, 1) := by decide +kernel
theorem dX10_begin_1 : decode cX10_begin 1 = .ok (.aload_n 0, 1) := by decide +kernel
theorem dX10_begin_2 : decode cX10_begin 2 = .ok (.getfield 35, 3) := by decide +kernel
theorem dX10_begin_5 : decode cX10_begin 5 = .ok (.iload_n 1, 1) := by decide +kernel
theorem dX10_begin_6 : decode cX10_begin 6 = .ok (.iaload, 1) := by decide +kernel
theorem dX10_begin_7 : decode cX10_begin 7 = .ok (.putfield 138, 3) := by decide +kernel
theorem dX10_begin_10 : decode cX10_begin 10 = .ok (.aload_n 0, 1) := by decide +kernel
theorem dX10_begin_11 : decode cX10_begin 11 = .ok (.aload_n 0, 1) := by decide +kernel
theorem dX10_begin_12 : decode cX10_begin 12 = .ok (.getfield 38, 3) := by decide +kernel
theorem dX10_begin_15 : decode cX10_begin 15 = .ok (.iload_n 1, 1) := by decide +kernel
theorem dX10_begin_16 : decode cX10_begin 16 = .ok (.iaload, 1) := by decide +kernel
theorem dX10_begin_17 : decode cX10_begin 17 = .ok (.putfield 141, 3) := by decide +kernel
theorem dX10_begin_20 : decode cX10_begin 20 = .ok (.aload_n 0, 1) := by decide +kernel
theorem dX10_begin_21 : decode cX10_begin 21 = .ok (.aload_n 0, 1) := by decide +kernel
theorem dX10_begin_22 : decode cX10_begin 22 = .ok (.getfield 41, 3) := by decide +kernel
theorem dX10_begin_25 : decode cX10_begin 25 = .ok (.iload_n 1, 1) := by decide +kernel
theorem dX10_begin_26 : decode cX10_begin 26 = .ok (.iaload, 1) := by decide +kernel
theorem dX10_begin_27 : decode cX10_begin 27 = .ok (.putfield 132, 3) := by decide +kernel
theorem dX10_begin_30 : decode cX10_begin 30 = .ok (.aload_n 0, 1) := by decide +kernel
theorem dX10_begin_31 : decode cX10_begin 31 = .ok (.aload_n 0, 1) := by decide +kernel
theorem dX10_begin_32 : decode cX10_begin 32 = .ok (.getfield 50, 3) := by decide +kernel
theorem dX10_begin_35 : decode cX10_begin 35 = .ok (.iload_n 1, 1) := by decide +kernel
theorem dX10_begin_36 : decode cX10_begin 36 = .ok (.iaload, 1) := by decide +kernel
theorem dX10_begin_37 : decode cX10_begin 37 = .ok (.putfield 129, 3) := by decide +kernel
theorem dX10_begin_40 : decode cX10_begin 40 = .ok (.aload_n 0, 1) := by decide +kernel
theorem dX10_begin_41 : decode cX10_begin 41 = .ok (.aload_n 0, 1) := by decide +kernel
theorem dX10_begin_42 : decode cX10_begin 42 = .ok (.getfield 53, 3) := by decide +kernel
theorem dX10_begin_45 : decode cX10_begin 45 = .ok (.iload_n 1, 1) := by decide +kernel
theorem dX10_begin_46 : decode cX10_begin 46 = .ok (.iaload, 1) := by decide +kernel
theorem dX10_begin_47 : decode cX10_begin 47 = .ok (.putfield 126, 3) := by decide +kernel
theorem dX10_begin_50 : decode cX10_begin 50 = .ok (.aload_n 0, 1) := by decide +kernel
theorem dX10_begin_51 : decode cX10_begin 51 = .ok (.aload_n 0, 1) := by decide +kernel
theorem dX10_begin_52 : decode cX10_begin 52 = .ok (.getfield 56, 3) := by decide +kernel
theorem dX10_begin_55 : decode cX10_begin 55 = .ok (.iload_n 1, 1) := by decide +kernel
theorem dX10_begin_56 : decode cX10_begin 56 = .ok (.iaload, 1) := by decide +kernel
theorem dX10_begin_57 : decode cX10_begin 57 = .ok (.putfield 135, 3) := by decide +kernel
theorem dX10_begin_60 : decode cX10_begin 60 = .ok (.return_, 1) := by decide +kernel
theorem dX10_writes_0 : decode cX10_writes 0 = .ok (.aload_n 0, 1) := by decide +kernel
theorem dX10_writes_1 : decode cX10_writes 1 = .ok (.getfield 69, 3) := by decide +kernel
theorem dX10_writes_4 : decode cX10_writes 4 = .ok (.bipush 61, 2) := by decide +kernel
theorem dX10_writes_6 : decode cX10_writes 6 = .ok (.iload_n 1, 1) := by decide +kernel
theorem dX10_writes_7 : decode cX10_writes 7 = .ok (.imul, 1) := by decide +kernel
theorem dX10_writes_8 : decode cX10_writes 8 = .ok (.aload_n 0, 1) := by decide +kernel
theorem dX10_writes_9 : decode cX10_writes 9 = .ok (.getfield 66, 3) := by decide +kernel
theorem dX10_writes_12 : decode cX10_writes 12 = .ok (.iload_n 1, 1) := by decide +kernel
theorem dX10_writes_13 : decode cX10_writes 13 = .ok (.iaload, 1) := by decide +kernel
theorem dX10_writes_14 : decode cX10_writes 14 = .ok (.iadd, 1) := by decide +kernel
theorem dX10_writes_15 : decode cX10_writes 15 = .ok (.bipush 24, 2) := by decide +kernel
theorem dX10_writes_17 : decode cX10_writes 17 = .ok (.aload_n 0, 1) := by decide +kernel
theorem dX10_writes_18 : decode cX10_writes 18 = .ok (.getfield 38, 3) := by decide +kernel
theorem dX10_writes_21 : decode cX10_writes 21 = .ok (.iload_n 1, 1) := by decide +kernel
theorem dX10_writes_22 : decode cX10_writes 22 = .ok (.iaload, 1) := by decide +kernel
theorem dX10_writes_23 : decode cX10_writes 23 = .ok (.imul, 1) := by decide +kernel
theorem dX10_writes_24 : decode cX10_writes 24 = .ok (.aload_n 0, 1) := by decide +kernel
theorem dX10_writes_25 : decode cX10_writes 25 = .ok (.getfield 35, 3) := by decide +kernel
theorem dX10_writes_28 : decode cX10_writes 28 = .ok (.iload_n 1, 1) := by decide +kernel
theorem dX10_writes_29 : decode cX10_writes 29 = .ok (.iaload, 1) := by decide +kernel
theorem dX10_writes_30 : decode cX10_writes 30 = .ok (.iadd, 1) := by decide +kernel
theorem dX10_writes_31 : decode cX10_writes 31 = .ok (.iastore, 1) := by decide +kernel
theorem dX10_writes_32 : decode cX10_writes 32 = .ok (.aload_n 0, 1) := by decide +kernel
theorem dX10_writes_33 : decode cX10_writes 33 = .ok (.getfield 72, 3) := by decide +kernel
theorem dX10_writes_36 : decode cX10_writes 36 = .ok (.bipush 61, 2) := by decide +kernel
theorem dX10_writes_38 : decode cX10_writes 38 = .ok (.iload_n 1, 1) := by decide +kernel
theorem dX10_writes_39 : decode cX10_writes 39 = .ok (.imul, 1) := by decide +kernel
theorem dX10_writes_40 : decode cX10_writes 40 = .ok (.aload_n 0, 1) := by decide +kernel
theorem dX10_writes_41 : decode cX10_writes 41 = .ok (.getfield 66, 3) := by decide +kernel
theorem dX10_writes_44 : decode cX10_writes 44 = .ok (.iload_n 1, 1) := by decide +kernel
theorem dX10_writes_45 : decode cX10_writes 45 = .ok (.iaload, 1) := by decide +kernel
theorem dX10_writes_46 : decode cX10_writes 46 = .ok (.iadd, 1) := by decide +kernel
theorem dX10_writes_47 : decode cX10_writes 47 = .ok (.aload_n 0, 1) := by decide +kernel
theorem dX10_writes_48 : decode cX10_writes 48 = .ok (.getfield 41, 3) := by decide +kernel
theorem dX10_writes_51 : decode cX10_writes 51 = .ok (.iload_n 1, 1) := by decide +kernel
theorem dX10_writes_52 : decode cX10_writes 52 = .ok (.iaload, 1) := by decide +kernel
theorem dX10_writes_53 : decode cX10_writes 53 = .ok (.iastore, 1) := by decide +kernel
theorem dX10_writes_54 : decode cX10_writes 54 = .ok (.aload_n 0, 1) := by decide +kernel
theorem dX10_writes_55 : decode cX10_writes 55 = .ok (.getfield 75, 3) := by decide +kernel
theorem dX10_writes_58 : decode cX10_writes 58 = .ok (.bipush 61, 2) := by decide +kernel
theorem dX10_writes_60 : decode cX10_writes 60 = .ok (.iload_n 1, 1) := by decide +kernel
theorem dX10_writes_61 : decode cX10_writes 61 = .ok (.imul, 1) := by decide +kernel
theorem dX10_writes_62 : decode cX10_writes 62 = .ok (.aload_n 0, 1) := by decide +kernel
theorem dX10_writes_63 : decode cX10_writes 63 = .ok (.getfield 66, 3) := by decide +kernel
theorem dX10_writes_66 : decode cX10_writes 66 = .ok (.iload_n 1, 1) := by decide +kernel
theorem dX10_writes_67 : decode cX10_writes 67 = .ok (.iaload, 1) := by decide +kernel
theorem dX10_writes_68 : decode cX10_writes 68 = .ok (.iadd, 1) := by decide +kernel
theorem dX10_writes_69 : decode cX10_writes 69 = .ok (.iconst 0, 1) := by decide +kernel
theorem dX10_writes_70 : decode cX10_writes 70 = .ok (.bastore, 1) := by decide +kernel
theorem dX10_writes_71 : decode cX10_writes 71 = .ok (.aload_n 0, 1) := by decide +kernel
theorem dX10_writes_72 : decode cX10_writes 72 = .ok (.getfield 66, 3) := by decide +kernel
theorem dX10_writes_75 : decode cX10_writes 75 = .ok (.iload_n 1, 1) := by decide +kernel
theorem dX10_writes_76 : decode cX10_writes 76 = .ok (.dup2, 1) := by decide +kernel
theorem dX10_writes_77 : decode cX10_writes 77 = .ok (.iaload, 1) := by decide +kernel
theorem dX10_writes_78 : decode cX10_writes 78 = .ok (.iconst 1, 1) := by decide +kernel
theorem dX10_writes_79 : decode cX10_writes 79 = .ok (.iadd, 1) := by decide +kernel
theorem dX10_writes_80 : decode cX10_writes 80 = .ok (.iastore, 1) := by decide +kernel
theorem dX10_writes_81 : decode cX10_writes 81 = .ok (.return_, 1) := by decide +kernel
set_option maxRecDepth 20000 in
theorem ggX10_fly_X10_isCell : GoodIn wsX10_fly wsX10_isCell := goodIn_r _ [18, 19, 20, 21, 22, 17, 23, 31, 32, 33, 34, 35, 36, 37, 38, 39, 40, 41, 42, 43, 44, 45, 46, 47, 48, 49, 50, 51, 52, 53, 54, 55, 56, 57, 58, 59, 60, 61, 62, 63, 64, 65, 66, 67, 68, 69, 70, 71, 72, 73] (by decide +kernel) (by decide +kernel)
set_option maxRecDepth 20000 in
theorem gX10_fly_X10_isCell : GoodIn wsX10_fly (wsV RX10 118 RX10 yX10_isCell wsX10_isCell) := goodIn_app (goodIn_of _ (by decide +kernel)) ggX10_fly_X10_isCell
set_option maxRecDepth 20000 in
theorem ggX10_fly_X10_in : GoodIn wsX10_fly wsX10_in := goodIn_r _ [23] (by decide +kernel) (by decide +kernel)
set_option maxRecDepth 20000 in
theorem gX10_fly_X10_in : GoodIn wsX10_fly (va_wsS RX10 108 yX10_in wsX10_in) := goodIn_app (goodIn_of _ (by decide +kernel)) ggX10_fly_X10_in
set_option maxRecDepth 20000 in
theorem ggX10_fly_X10_writes : GoodIn wsX10_fly wsX10_writes := goodIn_r _ [27, 28, 13, 4, 3, 29, 5, 30, 31, 32, 33, 34, 35, 36, 37, 38, 39, 40, 41, 42, 43, 44, 45, 46, 47, 48, 49, 50, 51, 52, 53, 54, 55, 56, 57, 58, 59, 60, 61, 62, 63, 64, 65, 66, 67, 68, 69, 70, 71, 72, 73] (by decide +kernel) (by decide +kernel)
set_option maxRecDepth 20000 in
theorem gX10_fly_X10_writes : GoodIn wsX10_fly (wsV RX10 148 RX10 yX10_writes wsX10_writes) := goodIn_app (goodIn_of _ (by decide +kernel)) ggX10_fly_X10_writes
theorem dX10_fly_0 : decode cX10_fly 0 = .ok (.aload_n 0, 1) := by decide +kernel
theorem dX10_fly_1 : decode cX10_fly 1 = .ok (.iload_n 1, 1) := by decide +kernel
theorem dX10_fly_2 : decode cX10_fly 2 = .ok (.iload_n 2, 1) := by decide +kernel
theorem dX10_fly_3 : decode cX10_fly 3 = .ok (.invokevirtual 118, 3) := by decide +kernel
theorem dX10_fly_6 : decode cX10_fly 6 = .ok (.ifCond .eq 49, 3) := by decide +kernel
theorem dX10_fly_9 : decode cX10_fly 9 = .ok (.iload_n 3, 1) := by decide +kernel
theorem dX10_fly_10 : decode cX10_fly 10 = .ok (.iconst 0, 1) := by decide +kernel
theorem dX10_fly_11 : decode cX10_fly 11 = .ok (.bipush 23, 2) := by decide +kernel
theorem dX10_fly_13 : decode cX10_fly 13 = .ok (.invokestatic 108, 3) := by decide +kernel
theorem dX10_fly_16 : decode cX10_fly 16 = .ok (.ifCond .eq 39, 3) := by decide +kernel
theorem dX10_fly_19 : decode cX10_fly 19 = .ok (.iload 4, 2) := by decide +kernel
theorem dX10_fly_21 : decode cX10_fly 21 = .ok (.iconst 1, 1) := by decide +kernel
theorem dX10_fly_22 : decode cX10_fly 22 = .ok (.sipush 200, 3) := by decide +kernel
theorem dX10_fly_25 : decode cX10_fly 25 = .ok (.invokestatic 108, 3) := by decide +kernel
theorem dX10_fly_28 : decode cX10_fly 28 = .ok (.ifCond .eq 27, 3) := by decide +kernel
theorem dX10_fly_31 : decode cX10_fly 31 = .ok (.iload 5, 2) := by decide +kernel
theorem dX10_fly_33 : decode cX10_fly 33 = .ok (.iconst 0, 1) := by decide +kernel
theorem dX10_fly_34 : decode cX10_fly 34 = .ok (.sipush 500, 3) := by decide +kernel
theorem dX10_fly_37 : decode cX10_fly 37 = .ok (.invokestatic 108, 3) := by decide +kernel
theorem dX10_fly_40 : decode cX10_fly 40 = .ok (.ifCond .eq 15, 3) := by decide +kernel
theorem dX10_fly_43 : decode cX10_fly 43 = .ok (.iload 6, 2) := by decide +kernel
theorem dX10_fly_45 : decode cX10_fly 45 = .ok (.iconst 0, 1) := by decide +kernel
theorem dX10_fly_46 : decode cX10_fly 46 = .ok (.sipush 200, 3) := by decide +kernel
theorem dX10_fly_49 : decode cX10_fly 49 = .ok (.invokestatic 108, 3) := by decide +kernel
theorem dX10_fly_52 : decode cX10_fly 52 = .ok (.ifCond .ne 6, 3) := by decide +kernel
theorem dX10_fly_55 : decode cX10_fly 55 = .ok (.bipush (-2), 2) := by decide +kernel
theorem dX10_fly_57 : decode cX10_fly 57 = .ok (.ireturn, 1) := by decide +kernel
theorem dX10_fly_58 : decode cX10_fly 58 = .ok (.aload_n 0, 1) := by decide +kernel
theorem dX10_fly_59 : decode cX10_fly 59 = .ok (.getfield 16, 3) := by decide +kernel
theorem dX10_fly_62 : decode cX10_fly 62 = .ok (.bipush 24, 2) := by decide +kernel
theorem dX10_fly_64 : decode cX10_fly 64 = .ok (.iload_n 2, 1) := by decide +kernel
theorem dX10_fly_65 : decode cX10_fly 65 = .ok (.imul, 1) := by decide +kernel
theorem dX10_fly_66 : decode cX10_fly 66 = .ok (.iload_n 1, 1) := by decide +kernel
theorem dX10_fly_67 : decode cX10_fly 67 = .ok (.iadd, 1) := by decide +kernel
theorem dX10_fly_68 : decode cX10_fly 68 = .ok (.iaload, 1) := by decide +kernel
theorem dX10_fly_69 : decode cX10_fly 69 = .ok (.iconst 2, 1) := by decide +kernel
theorem dX10_fly_70 : decode cX10_fly 70 = .ok (.if_icmp .ne 6, 3) := by decide +kernel
theorem dX10_fly_73 : decode cX10_fly 73 = .ok (.bipush (-3), 2) := by decide +kernel
theorem dX10_fly_75 : decode cX10_fly 75 = .ok (.ireturn, 1) := by decide +kernel
theorem dX10_fly_76 : decode cX10_fly 76 = .ok (.aload_n 0, 1) := by decide +kernel
theorem dX10_fly_77 : decode cX10_fly 77 = .ok (.getfield 112, 3) := by decide +kernel
theorem dX10_fly_80 : decode cX10_fly 80 = .ok (.bipush 8, 2) := by decide +kernel
theorem dX10_fly_82 : decode cX10_fly 82 = .ok (.if_icmp .ne 6, 3) := by decide +kernel
theorem dX10_fly_85 : decode cX10_fly 85 = .ok (.bipush (-4), 2) := by decide +kernel
theorem dX10_fly_87 : decode cX10_fly 87 = .ok (.ireturn, 1) := by decide +kernel
theorem dX10_fly_88 : decode cX10_fly 88 = .ok (.aload_n 0, 1) := by decide +kernel
theorem dX10_fly_89 : decode cX10_fly 89 = .ok (.getfield 112, 3) := by decide +kernel
theorem dX10_fly_92 : decode cX10_fly 92 = .ok (.istore 7, 2) := by decide +kernel
theorem dX10_fly_94 : decode cX10_fly 94 = .ok (.aload_n 0, 1) := by decide +kernel
theorem dX10_fly_95 : decode cX10_fly 95 = .ok (.dup, 1) := by decide +kernel
theorem dX10_fly_96 : decode cX10_fly 96 = .ok (.getfield 112, 3) := by decide +kernel
theorem dX10_fly_99 : decode cX10_fly 99 = .ok (.iconst 1, 1) := by decide +kernel
theorem dX10_fly_100 : decode cX10_fly 100 = .ok (.iadd, 1) := by decide +kernel
theorem dX10_fly_101 : decode cX10_fly 101 = .ok (.putfield 112, 3) := by decide +kernel
theorem dX10_fly_104 : decode cX10_fly 104 = .ok (.aload_n 0, 1) := by decide +kernel
theorem dX10_fly_105 : decode cX10_fly 105 = .ok (.getfield 35, 3) := by decide +kernel
theorem dX10_fly_108 : decode cX10_fly 108 = .ok (.iload 7, 2) := by decide +kernel
theorem dX10_fly_110 : decode cX10_fly 110 = .ok (.iload_n 1, 1) := by decide +kernel
theorem dX10_fly_111 : decode cX10_fly 111 = .ok (.iastore, 1) := by decide +kernel
theorem dX10_fly_112 : decode cX10_fly 112 = .ok (.aload_n 0, 1) := by decide +kernel
theorem dX10_fly_113 : decode cX10_fly 113 = .ok (.getfield 38, 3) := by decide +kernel
theorem dX10_fly_116 : decode cX10_fly 116 = .ok (.iload 7, 2) := by decide +kernel
theorem dX10_fly_118 : decode cX10_fly 118 = .ok (.iload_n 2, 1) := by decide +kernel
theorem dX10_fly_119 : decode cX10_fly 119 = .ok (.iastore, 1) := by decide +kernel
theorem dX10_fly_120 : decode cX10_fly 120 = .ok (.aload_n 0, 1) := by decide +kernel
theorem dX10_fly_121 : decode cX10_fly 121 = .ok (.getfield 41, 3) := by decide +kernel
theorem dX10_fly_124 : decode cX10_fly 124 = .ok (.iload 7, 2) := by decide +kernel
theorem dX10_fly_126 : decode cX10_fly 126 = .ok (.iconst 1, 1) := by decide +kernel
theorem dX10_fly_127 : decode cX10_fly 127 = .ok (.iastore, 1) := by decide +kernel
theorem dX10_fly_128 : decode cX10_fly 128 = .ok (.aload_n 0, 1) := by decide +kernel
theorem dX10_fly_129 : decode cX10_fly 129 = .ok (.getfield 44, 3) := by decide +kernel
theorem dX10_fly_132 : decode cX10_fly 132 = .ok (.iload 7, 2) := by decide +kernel
theorem dX10_fly_134 : decode cX10_fly 134 = .ok (.iload_n 3, 1) := by decide +kernel
theorem dX10_fly_135 : decode cX10_fly 135 = .ok (.iastore, 1) := by decide +kernel
theorem dX10_fly_136 : decode cX10_fly 136 = .ok (.aload_n 0, 1) := by decide +kernel
theorem dX10_fly_137 : decode cX10_fly 137 = .ok (.getfield 63, 3) := by decide +kernel
theorem dX10_fly_140 : decode cX10_fly 140 = .ok (.iload 7, 2) := by decide +kernel
theorem dX10_fly_142 : decode cX10_fly 142 = .ok (.iload_n 3, 1) := by decide +kernel
theorem dX10_fly_143 : decode cX10_fly 143 = .ok (.iastore, 1) := by decide +kernel
theorem dX10_fly_144 : decode cX10_fly 144 = .ok (.aload_n 0, 1) := by decide +kernel
theorem dX10_fly_145 : decode cX10_fly 145 = .ok (.getfield 47, 3) := by decide +kernel
theorem dX10_fly_148 : decode cX10_fly 148 = .ok (.iload 7, 2) := by decide +kernel
theorem dX10_fly_150 : decode cX10_fly 150 = .ok (.iload 4, 2) := by decide +kernel
theorem dX10_fly_152 : decode cX10_fly 152 = .ok (.iastore, 1) := by decide +kernel
theorem dX10_fly_153 : decode cX10_fly 153 = .ok (.aload_n 0, 1) := by decide +kernel
theorem dX10_fly_154 : decode cX10_fly 154 = .ok (.getfield 50, 3) := by decide +kernel
theorem dX10_fly_157 : decode cX10_fly 157 = .ok (.iload 7, 2) := by decide +kernel
theorem dX10_fly_159 : decode cX10_fly 159 = .ok (.iload 5, 2) := by decide +kernel
theorem dX10_fly_161 : decode cX10_fly 161 = .ok (.iastore, 1) := by decide +kernel
theorem dX10_fly_162 : decode cX10_fly 162 = .ok (.aload_n 0, 1) := by decide +kernel
theorem dX10_fly_163 : decode cX10_fly 163 = .ok (.getfield 53, 3) := by decide +kernel
theorem dX10_fly_166 : decode cX10_fly 166 = .ok (.iload 7, 2) := by decide +kernel
theorem dX10_fly_168 : decode cX10_fly 168 = .ok (.iload 6, 2) := by decide +kernel
theorem dX10_fly_170 : decode cX10_fly 170 = .ok (.iastore, 1) := by decide +kernel
theorem dX10_fly_171 : decode cX10_fly 171 = .ok (.aload_n 0, 1) := by decide +kernel
theorem dX10_fly_172 : decode cX10_fly 172 = .ok (.getfield 56, 3) := by decide +kernel
theorem dX10_fly_175 : decode cX10_fly 175 = .ok (.iload 7, 2) := by decide +kernel
theorem dX10_fly_177 : decode cX10_fly 177 = .ok (.iconst 0, 1) := by decide +kernel
theorem dX10_fly_178 : decode cX10_fly 178 = .ok (.iastore, 1) := by decide +kernel
theorem dX10_fly_179 : decode cX10_fly 179 = .ok (.aload_n 0, 1) := by decide +kernel
theorem dX10_fly_180 : decode cX10_fly 180 = .ok (.getfield 59, 3) := by decide +kernel
theorem dX10_fly_183 : decode cX10_fly 183 = .ok (.iload 7, 2) := by decide +kernel
theorem dX10_fly_185 : decode cX10_fly 185 = .ok (.iconst 0, 1) := by decide +kernel
theorem dX10_fly_186 : decode cX10_fly 186 = .ok (.bastore, 1) := by decide +kernel
theorem dX10_fly_187 : decode cX10_fly 187 = .ok (.aload_n 0, 1) := by decide +kernel
theorem dX10_fly_188 : decode cX10_fly 188 = .ok (.getfield 66, 3) := by decide +kernel
theorem dX10_fly_191 : decode cX10_fly 191 = .ok (.iload 7, 2) := by decide +kernel
theorem dX10_fly_193 : decode cX10_fly 193 = .ok (.iconst 0, 1) := by decide +kernel
theorem dX10_fly_194 : decode cX10_fly 194 = .ok (.iastore, 1) := by decide +kernel
theorem dX10_fly_195 : decode cX10_fly 195 = .ok (.aload_n 0, 1) := by decide +kernel
theorem dX10_fly_196 : decode cX10_fly 196 = .ok (.iload 7, 2) := by decide +kernel
theorem dX10_fly_198 : decode cX10_fly 198 = .ok (.invokevirtual 148, 3) := by decide +kernel
theorem dX10_fly_201 : decode cX10_fly 201 = .ok (.iload 7, 2) := by decide +kernel
theorem dX10_fly_203 : decode cX10_fly 203 = .ok (.ireturn, 1) := by decide +kernel
set_option maxRecDepth 20000 in
theorem ggX10_go_X10_isFlight : GoodIn wsX10_go wsX10_isFlight := goodIn_r _ [21, 22, 23, 24, 20, 25, 59, 60, 61, 62, 63, 64, 65, 66, 67, 68, 69, 70, 71, 72, 73, 74, 75, 76, 77, 78, 79, 80, 81, 82, 83, 84, 85, 86, 87, 88, 89, 90, 91, 92, 93, 94, 95, 96, 97, 98, 99, 100, 101] (by decide +kernel) (by decide +kernel)
set_option maxRecDepth 20000 in
theorem gX10_go_X10_isFlight : GoodIn wsX10_go (wsV RX10 152 RX10 yX10_isFlight wsX10_isFlight) := goodIn_app (goodIn_of _ (by decide +kernel)) ggX10_go_X10_isFlight
set_option maxRecDepth 20000 in
theorem ggX10_go_X10_in : GoodIn wsX10_go wsX10_in := goodIn_r _ [25] (by decide +kernel) (by decide +kernel)
set_option maxRecDepth 20000 in
theorem gX10_go_X10_in : GoodIn wsX10_go (va_wsS RX10 108 yX10_in wsX10_in) := goodIn_app (goodIn_of _ (by decide +kernel)) ggX10_go_X10_in
set_option maxRecDepth 20000 in
theorem ggX10_go_X10_begin : GoodIn wsX10_go wsX10_begin := goodIn_r _ [29, 5, 6, 7, 8, 9, 10, 11, 12, 13, 14, 15, 16, 59, 60, 61, 62, 63, 64, 65, 66, 67, 68, 69, 70, 71, 72, 73, 74, 75, 76, 77, 78, 79, 80, 81, 82, 83, 84, 85, 86, 87, 88, 89, 90, 91, 92, 93, 94, 95, 96, 97, 98, 99, 100, 101] (by decide +kernel) (by decide +kernel)
set_option maxRecDepth 20000 in
theorem gX10_go_X10_begin : GoodIn wsX10_go (wsV RX10 156 RX10 yX10_begin wsX10_begin) := goodIn_app (goodIn_of _ (by decide +kernel)) ggX10_go_X10_begin
set_option maxRecDepth 20000 in
theorem ggX10_go_X10_tick : GoodIn wsX10_go wsX10_tick := goodIn_r _ [33, 14, 12, 34, 10, 35, 36, 16, 6, 8, 37, 38, 39, 20, 40, 41, 42, 43, 44, 45, 46, 47, 48, 49, 50, 51, 23, 24, 25, 59, 60, 61, 62, 63, 64, 65, 66, 67, 68, 69, 70, 71, 72, 73, 74, 75, 76, 77, 78, 79, 80, 81, 82, 83, 84, 85, 86, 87, 88, 89, 90, 91, 92, 93, 94, 95, 96, 97, 98, 99, 100, 101] (by decide +kernel) (by decide +kernel)
set_option maxRecDepth 20000 in
theorem gX10_go_X10_tick : GoodIn wsX10_go (wsV RX10 159 RX10 yX10_tick wsX10_tick) := goodIn_app (goodIn_of _ (by decide +kernel)) ggX10_go_X10_tick
set_option maxRecDepth 20000 in
theorem ggX10_go_X10_writes : GoodIn wsX10_go wsX10_writes := goodIn_r _ [55, 56, 2, 7, 5, 57, 9, 58, 59, 60, 61, 62, 63, 64, 65, 66, 67, 68, 69, 70, 71, 72, 73, 74, 75, 76, 77, 78, 79, 80, 81, 82, 83, 84, 85, 86, 87, 88, 89, 90, 91, 92, 93, 94, 95, 96, 97, 98, 99, 100, 101] (by decide +kernel) (by decide +kernel)
set_option maxRecDepth 20000 in
theorem gX10_go_X10_writes : GoodIn wsX10_go (wsV RX10 148 RX10 yX10_writes wsX10_writes) := goodIn_app (goodIn_of _ (by decide +kernel)) ggX10_go_X10_writes
theorem dX10_go_0 : decode cX10_go 0 = .ok (.aload_n 0, 1) := by decide +kernel
theorem dX10_go_1 : decode cX10_go 1 = .ok (.iload_n 1, 1) := by decide +kernel
theorem dX10_go_2 : decode cX10_go 2 = .ok (.invokevirtual 152, 3) := by decide +kernel
theorem dX10_go_5 : decode cX10_go 5 = .ok (.ifCond .eq 33, 3) := by decide +kernel
theorem dX10_go_8 : decode cX10_go 8 = .ok (.iload_n 2, 1) := by decide +kernel
theorem dX10_go_9 : decode cX10_go 9 = .ok (.iconst 0, 1) := by decide +kernel
theorem dX10_go_10 : decode cX10_go 10 = .ok (.iconst 2, 1) := by decide +kernel
theorem dX10_go_11 : decode cX10_go 11 = .ok (.invokestatic 108, 3) := by decide +kernel
theorem dX10_go_14 : decode cX10_go 14 = .ok (.ifCond .eq 24, 3) := by decide +kernel
theorem dX10_go_17 : decode cX10_go 17 = .ok (.iload_n 3, 1) := by decide +kernel
theorem dX10_go_18 : decode cX10_go 18 = .ok (.iconst 1, 1) := by decide +kernel
theorem dX10_go_19 : decode cX10_go 19 = .ok (.bipush 50, 2) := by decide +kernel
theorem dX10_go_21 : decode cX10_go 21 = .ok (.invokestatic 108, 3) := by decide +kernel
theorem dX10_go_24 : decode cX10_go 24 = .ok (.ifCond .eq 14, 3) := by decide +kernel
theorem dX10_go_27 : decode cX10_go 27 = .ok (.iload 4, 2) := by decide +kernel
theorem dX10_go_29 : decode cX10_go 29 = .ok (.iconst 1, 1) := by decide +kernel
theorem dX10_go_30 : decode cX10_go 30 = .ok (.bipush 12, 2) := by decide +kernel
theorem dX10_go_32 : decode cX10_go 32 = .ok (.invokestatic 108, 3) := by decide +kernel
theorem dX10_go_35 : decode cX10_go 35 = .ok (.ifCond .ne 6, 3) := by decide +kernel
theorem dX10_go_38 : decode cX10_go 38 = .ok (.bipush (-2), 2) := by decide +kernel
theorem dX10_go_40 : decode cX10_go 40 = .ok (.ireturn, 1) := by decide +kernel
theorem dX10_go_41 : decode cX10_go 41 = .ok (.aload_n 0, 1) := by decide +kernel
theorem dX10_go_42 : decode cX10_go 42 = .ok (.getfield 59, 3) := by decide +kernel
theorem dX10_go_45 : decode cX10_go 45 = .ok (.iload_n 1, 1) := by decide +kernel
theorem dX10_go_46 : decode cX10_go 46 = .ok (.baload, 1) := by decide +kernel
theorem dX10_go_47 : decode cX10_go 47 = .ok (.ifCond .eq 6, 3) := by decide +kernel
theorem dX10_go_50 : decode cX10_go 50 = .ok (.bipush (-3), 2) := by decide +kernel
theorem dX10_go_52 : decode cX10_go 52 = .ok (.ireturn, 1) := by decide +kernel
theorem dX10_go_53 : decode cX10_go 53 = .ok (.aload_n 0, 1) := by decide +kernel
theorem dX10_go_54 : decode cX10_go 54 = .ok (.getfield 66, 3) := by decide +kernel
theorem dX10_go_57 : decode cX10_go 57 = .ok (.iload_n 1, 1) := by decide +kernel
theorem dX10_go_58 : decode cX10_go 58 = .ok (.iaload, 1) := by decide +kernel
theorem dX10_go_59 : decode cX10_go 59 = .ok (.iload 4, 2) := by decide +kernel
theorem dX10_go_61 : decode cX10_go 61 = .ok (.iadd, 1) := by decide +kernel
theorem dX10_go_62 : decode cX10_go 62 = .ok (.bipush 60, 2) := by decide +kernel
theorem dX10_go_64 : decode cX10_go 64 = .ok (.if_icmp .le 6, 3) := by decide +kernel
theorem dX10_go_67 : decode cX10_go 67 = .ok (.bipush (-4), 2) := by decide +kernel
theorem dX10_go_69 : decode cX10_go 69 = .ok (.ireturn, 1) := by decide +kernel
theorem dX10_go_70 : decode cX10_go 70 = .ok (.iconst 0, 1) := by decide +kernel
theorem dX10_go_71 : decode cX10_go 71 = .ok (.istore 5, 2) := by decide +kernel
theorem dX10_go_73 : decode cX10_go 73 = .ok (.iload 5, 2) := by decide +kernel
theorem dX10_go_75 : decode cX10_go 75 = .ok (.iload 4, 2) := by decide +kernel
theorem dX10_go_77 : decode cX10_go 77 = .ok (.if_icmp .ge 138, 3) := by decide +kernel
theorem dX10_go_80 : decode cX10_go 80 = .ok (.aload_n 0, 1) := by decide +kernel
theorem dX10_go_81 : decode cX10_go 81 = .ok (.getfield 59, 3) := by decide +kernel
theorem dX10_go_84 : decode cX10_go 84 = .ok (.iload_n 1, 1) := by decide +kernel
theorem dX10_go_85 : decode cX10_go 85 = .ok (.baload, 1) := by decide +kernel
theorem dX10_go_86 : decode cX10_go 86 = .ok (.ifCond .ne 129, 3) := by decide +kernel
theorem dX10_go_89 : decode cX10_go 89 = .ok (.aload_n 0, 1) := by decide +kernel
theorem dX10_go_90 : decode cX10_go 90 = .ok (.iload_n 1, 1) := by decide +kernel
theorem dX10_go_91 : decode cX10_go 91 = .ok (.invokevirtual 156, 3) := by decide +kernel
theorem dX10_go_94 : decode cX10_go 94 = .ok (.aload_n 0, 1) := by decide +kernel
theorem dX10_go_95 : decode cX10_go 95 = .ok (.iconst 0, 1) := by decide +kernel
theorem dX10_go_96 : decode cX10_go 96 = .ok (.aload_n 0, 1) := by decide +kernel
theorem dX10_go_97 : decode cX10_go 97 = .ok (.getfield 44, 3) := by decide +kernel
theorem dX10_go_100 : decode cX10_go 100 = .ok (.iload_n 1, 1) := by decide +kernel
theorem dX10_go_101 : decode cX10_go 101 = .ok (.iaload, 1) := by decide +kernel
theorem dX10_go_102 : decode cX10_go 102 = .ok (.bipush 24, 2) := by decide +kernel
theorem dX10_go_104 : decode cX10_go 104 = .ok (.irem, 1) := by decide +kernel
theorem dX10_go_105 : decode cX10_go 105 = .ok (.aload_n 0, 1) := by decide +kernel
theorem dX10_go_106 : decode cX10_go 106 = .ok (.getfield 47, 3) := by decide +kernel
theorem dX10_go_109 : decode cX10_go 109 = .ok (.iload_n 1, 1) := by decide +kernel
theorem dX10_go_110 : decode cX10_go 110 = .ok (.iaload, 1) := by decide +kernel
theorem dX10_go_111 : decode cX10_go 111 = .ok (.iload_n 2, 1) := by decide +kernel
theorem dX10_go_112 : decode cX10_go 112 = .ok (.iload_n 3, 1) := by decide +kernel
theorem dX10_go_113 : decode cX10_go 113 = .ok (.invokevirtual 159, 3) := by decide +kernel
theorem dX10_go_116 : decode cX10_go 116 = .ok (.aload_n 0, 1) := by decide +kernel
theorem dX10_go_117 : decode cX10_go 117 = .ok (.getfield 35, 3) := by decide +kernel
theorem dX10_go_120 : decode cX10_go 120 = .ok (.iload_n 1, 1) := by decide +kernel
theorem dX10_go_121 : decode cX10_go 121 = .ok (.aload_n 0, 1) := by decide +kernel
theorem dX10_go_122 : decode cX10_go 122 = .ok (.getfield 138, 3) := by decide +kernel
theorem dX10_go_125 : decode cX10_go 125 = .ok (.iastore, 1) := by decide +kernel
theorem dX10_go_126 : decode cX10_go 126 = .ok (.aload_n 0, 1) := by decide +kernel
theorem dX10_go_127 : decode cX10_go 127 = .ok (.getfield 38, 3) := by decide +kernel
theorem dX10_go_130 : decode cX10_go 130 = .ok (.iload_n 1, 1) := by decide +kernel
theorem dX10_go_131 : decode cX10_go 131 = .ok (.aload_n 0, 1) := by decide +kernel
theorem dX10_go_132 : decode cX10_go 132 = .ok (.getfield 141, 3) := by decide +kernel
theorem dX10_go_135 : decode cX10_go 135 = .ok (.iastore, 1) := by decide +kernel
theorem dX10_go_136 : decode cX10_go 136 = .ok (.aload_n 0, 1) := by decide +kernel
theorem dX10_go_137 : decode cX10_go 137 = .ok (.getfield 41, 3) := by decide +kernel
theorem dX10_go_140 : decode cX10_go 140 = .ok (.iload_n 1, 1) := by decide +kernel
theorem dX10_go_141 : decode cX10_go 141 = .ok (.aload_n 0, 1) := by decide +kernel
theorem dX10_go_142 : decode cX10_go 142 = .ok (.getfield 132, 3) := by decide +kernel
theorem dX10_go_145 : decode cX10_go 145 = .ok (.iastore, 1) := by decide +kernel
theorem dX10_go_146 : decode cX10_go 146 = .ok (.aload_n 0, 1) := by decide +kernel
theorem dX10_go_147 : decode cX10_go 147 = .ok (.getfield 50, 3) := by decide +kernel
theorem dX10_go_150 : decode cX10_go 150 = .ok (.iload_n 1, 1) := by decide +kernel
theorem dX10_go_151 : decode cX10_go 151 = .ok (.aload_n 0, 1) := by decide +kernel
theorem dX10_go_152 : decode cX10_go 152 = .ok (.getfield 129, 3) := by decide +kernel
theorem dX10_go_155 : decode cX10_go 155 = .ok (.iastore, 1) := by decide +kernel
theorem dX10_go_156 : decode cX10_go 156 = .ok (.aload_n 0, 1) := by decide +kernel
theorem dX10_go_157 : decode cX10_go 157 = .ok (.getfield 53, 3) := by decide +kernel
theorem dX10_go_160 : decode cX10_go 160 = .ok (.iload_n 1, 1) := by decide +kernel
theorem dX10_go_161 : decode cX10_go 161 = .ok (.aload_n 0, 1) := by decide +kernel
theorem dX10_go_162 : decode cX10_go 162 = .ok (.getfield 126, 3) := by decide +kernel
theorem dX10_go_165 : decode cX10_go 165 = .ok (.iastore, 1) := by decide +kernel
theorem dX10_go_166 : decode cX10_go 166 = .ok (.aload_n 0, 1) := by decide +kernel
theorem dX10_go_167 : decode cX10_go 167 = .ok (.getfield 56, 3) := by decide +kernel
theorem dX10_go_170 : decode cX10_go 170 = .ok (.iload_n 1, 1) := by decide +kernel
theorem dX10_go_171 : decode cX10_go 171 = .ok (.aload_n 0, 1) := by decide +kernel
theorem dX10_go_172 : decode cX10_go 172 = .ok (.getfield 135, 3) := by decide +kernel
theorem dX10_go_175 : decode cX10_go 175 = .ok (.iastore, 1) := by decide +kernel
theorem dX10_go_176 : decode cX10_go 176 = .ok (.aload_n 0, 1) := by decide +kernel
theorem dX10_go_177 : decode cX10_go 177 = .ok (.getfield 59, 3) := by decide +kernel
theorem dX10_go_180 : decode cX10_go 180 = .ok (.iload_n 1, 1) := by decide +kernel
theorem dX10_go_181 : decode cX10_go 181 = .ok (.aload_n 0, 1) := by decide +kernel
theorem dX10_go_182 : decode cX10_go 182 = .ok (.getfield 132, 3) := by decide +kernel
theorem dX10_go_185 : decode cX10_go 185 = .ok (.ifCond .ne 7, 3) := by decide +kernel
theorem dX10_go_188 : decode cX10_go 188 = .ok (.iconst 1, 1) := by decide +kernel
theorem dX10_go_189 : decode cX10_go 189 = .ok (.goto 4, 3) := by decide +kernel
theorem dX10_go_192 : decode cX10_go 192 = .ok (.iconst 0, 1) := by decide +kernel
theorem dX10_go_193 : decode cX10_go 193 = .ok (.bastore, 1) := by decide +kernel
theorem dX10_go_194 : decode cX10_go 194 = .ok (.aload_n 0, 1) := by decide +kernel
theorem dX10_go_195 : decode cX10_go 195 = .ok (.getfield 44, 3) := by decide +kernel
end
section
theorem dX10_go_198 : decode cX10_go 198 = .ok (.iload_n 1, 1) := by decide +kernel
theorem dX10_go_199 : decode cX10_go 199 = .ok (.dup2, 1) := by decide +kernel
theorem dX10_go_200 : decode cX10_go 200 = .ok (.iaload, 1) := by decide +kernel
theorem dX10_go_201 : decode cX10_go 201 = .ok (.iconst 1, 1) := by decide +kernel
theorem dX10_go_202 : decode cX10_go 202 = .ok (.iadd, 1) := by decide +kernel
theorem dX10_go_203 : decode cX10_go 203 = .ok (.iastore, 1) := by decide +kernel
theorem dX10_go_204 : decode cX10_go 204 = .ok (.aload_n 0, 1) := by decide +kernel
theorem dX10_go_205 : decode cX10_go 205 = .ok (.iload_n 1, 1) := by decide +kernel
theorem dX10_go_206 : decode cX10_go 206 = .ok (.invokevirtual 148, 3) := by decide +kernel
theorem dX10_go_209 : decode cX10_go 209 = .ok (.iinc 5 1, 3) := by decide +kernel
theorem dX10_go_212 : decode cX10_go 212 = .ok (.goto (-139), 3) := by decide +kernel
theorem dX10_go_215 : decode cX10_go 215 = .ok (.iload 5, 2) := by decide +kernel
theorem dX10_go_217 : decode cX10_go 217 = .ok (.ireturn, 1) := by decide +kernel
set_option maxRecDepth 20000 in
theorem ggX10_about_X10_isFlight : GoodIn wsX10_about wsX10_isFlight := goodIn_r _ [18, 19, 20, 21, 17, 22, 23, 24, 25, 26, 27, 28, 29, 30, 31, 32, 33, 34, 35, 36, 37, 38, 39, 40, 41, 42, 43, 44, 45, 46, 47, 48, 49, 50, 51, 52, 53, 54, 55, 56, 57, 58, 59, 60, 61, 62, 63, 64, 65] (by decide +kernel) (by decide +kernel)
set_option maxRecDepth 20000 in
theorem gX10_about_X10_isFlight : GoodIn wsX10_about (wsV RX10 152 RX10 yX10_isFlight wsX10_isFlight) := goodIn_app (goodIn_of _ (by decide +kernel)) ggX10_about_X10_isFlight
theorem dX10_about_0 : decode cX10_about 0 = .ok (.aload_n 0, 1) := by decide +kernel
theorem dX10_about_1 : decode cX10_about 1 = .ok (.iload_n 1, 1) := by decide +kernel
theorem dX10_about_2 : decode cX10_about 2 = .ok (.invokevirtual 152, 3) := by decide +kernel
theorem dX10_about_5 : decode cX10_about 5 = .ok (.ifCond .ne 6, 3) := by decide +kernel
theorem dX10_about_8 : decode cX10_about 8 = .ok (.ldc 163, 2) := by decide +kernel
theorem dX10_about_10 : decode cX10_about 10 = .ok (.ireturn, 1) := by decide +kernel
theorem dX10_about_11 : decode cX10_about 11 = .ok (.iload_n 2, 1) := by decide +kernel
theorem dX10_about_12 : decode cX10_about 12 = .ok (.tableswitch 178 0 9 #[56, 63, 70, 77, 84, 91, 98, 113, 120, 171], 56) := by decide +kernel
theorem dX10_about_68 : decode cX10_about 68 = .ok (.aload_n 0, 1) := by decide +kernel
theorem dX10_about_69 : decode cX10_about 69 = .ok (.getfield 35, 3) := by decide +kernel
theorem dX10_about_72 : decode cX10_about 72 = .ok (.iload_n 1, 1) := by decide +kernel
theorem dX10_about_73 : decode cX10_about 73 = .ok (.iaload, 1) := by decide +kernel
theorem dX10_about_74 : decode cX10_about 74 = .ok (.ireturn, 1) := by decide +kernel
theorem dX10_about_75 : decode cX10_about 75 = .ok (.aload_n 0, 1) := by decide +kernel
theorem dX10_about_76 : decode cX10_about 76 = .ok (.getfield 38, 3) := by decide +kernel
theorem dX10_about_79 : decode cX10_about 79 = .ok (.iload_n 1, 1) := by decide +kernel
theorem dX10_about_80 : decode cX10_about 80 = .ok (.iaload, 1) := by decide +kernel
theorem dX10_about_81 : decode cX10_about 81 = .ok (.ireturn, 1) := by decide +kernel
theorem dX10_about_82 : decode cX10_about 82 = .ok (.aload_n 0, 1) := by decide +kernel
theorem dX10_about_83 : decode cX10_about 83 = .ok (.getfield 41, 3) := by decide +kernel
theorem dX10_about_86 : decode cX10_about 86 = .ok (.iload_n 1, 1) := by decide +kernel
theorem dX10_about_87 : decode cX10_about 87 = .ok (.iaload, 1) := by decide +kernel
theorem dX10_about_88 : decode cX10_about 88 = .ok (.ireturn, 1) := by decide +kernel
theorem dX10_about_89 : decode cX10_about 89 = .ok (.aload_n 0, 1) := by decide +kernel
theorem dX10_about_90 : decode cX10_about 90 = .ok (.getfield 50, 3) := by decide +kernel
theorem dX10_about_93 : decode cX10_about 93 = .ok (.iload_n 1, 1) := by decide +kernel
theorem dX10_about_94 : decode cX10_about 94 = .ok (.iaload, 1) := by decide +kernel
theorem dX10_about_95 : decode cX10_about 95 = .ok (.ireturn, 1) := by decide +kernel
theorem dX10_about_96 : decode cX10_about 96 = .ok (.aload_n 0, 1) := by decide +kernel
theorem dX10_about_97 : decode cX10_about 97 = .ok (.getfield 53, 3) := by decide +kernel
theorem dX10_about_100 : decode cX10_about 100 = .ok (.iload_n 1, 1) := by decide +kernel
theorem dX10_about_101 : decode cX10_about 101 = .ok (.iaload, 1) := by decide +kernel
theorem dX10_about_102 : decode cX10_about 102 = .ok (.ireturn, 1) := by decide +kernel
theorem dX10_about_103 : decode cX10_about 103 = .ok (.aload_n 0, 1) := by decide +kernel
theorem dX10_about_104 : decode cX10_about 104 = .ok (.getfield 44, 3) := by decide +kernel
theorem dX10_about_107 : decode cX10_about 107 = .ok (.iload_n 1, 1) := by decide +kernel
theorem dX10_about_108 : decode cX10_about 108 = .ok (.iaload, 1) := by decide +kernel
theorem dX10_about_109 : decode cX10_about 109 = .ok (.ireturn, 1) := by decide +kernel
theorem dX10_about_110 : decode cX10_about 110 = .ok (.aload_n 0, 1) := by decide +kernel
theorem dX10_about_111 : decode cX10_about 111 = .ok (.getfield 59, 3) := by decide +kernel
theorem dX10_about_114 : decode cX10_about 114 = .ok (.iload_n 1, 1) := by decide +kernel
theorem dX10_about_115 : decode cX10_about 115 = .ok (.baload, 1) := by decide +kernel
theorem dX10_about_116 : decode cX10_about 116 = .ok (.ifCond .eq 7, 3) := by decide +kernel
theorem dX10_about_119 : decode cX10_about 119 = .ok (.iconst 1, 1) := by decide +kernel
theorem dX10_about_120 : decode cX10_about 120 = .ok (.goto 4, 3) := by decide +kernel
theorem dX10_about_123 : decode cX10_about 123 = .ok (.iconst 0, 1) := by decide +kernel
theorem dX10_about_124 : decode cX10_about 124 = .ok (.ireturn, 1) := by decide +kernel
theorem dX10_about_125 : decode cX10_about 125 = .ok (.aload_n 0, 1) := by decide +kernel
theorem dX10_about_126 : decode cX10_about 126 = .ok (.getfield 66, 3) := by decide +kernel
theorem dX10_about_129 : decode cX10_about 129 = .ok (.iload_n 1, 1) := by decide +kernel
theorem dX10_about_130 : decode cX10_about 130 = .ok (.iaload, 1) := by decide +kernel
theorem dX10_about_131 : decode cX10_about 131 = .ok (.ireturn, 1) := by decide +kernel
theorem dX10_about_132 : decode cX10_about 132 = .ok (.aload_n 0, 1) := by decide +kernel
theorem dX10_about_133 : decode cX10_about 133 = .ok (.getfield 50, 3) := by decide +kernel
theorem dX10_about_136 : decode cX10_about 136 = .ok (.iload_n 1, 1) := by decide +kernel
theorem dX10_about_137 : decode cX10_about 137 = .ok (.iaload, 1) := by decide +kernel
theorem dX10_about_138 : decode cX10_about 138 = .ok (.aload_n 0, 1) := by decide +kernel
theorem dX10_about_139 : decode cX10_about 139 = .ok (.getfield 20, 3) := by decide +kernel
theorem dX10_about_142 : decode cX10_about 142 = .ok (.aload_n 0, 1) := by decide +kernel
theorem dX10_about_143 : decode cX10_about 143 = .ok (.getfield 41, 3) := by decide +kernel
theorem dX10_about_146 : decode cX10_about 146 = .ok (.iload_n 1, 1) := by decide +kernel
theorem dX10_about_147 : decode cX10_about 147 = .ok (.iaload, 1) := by decide +kernel
theorem dX10_about_148 : decode cX10_about 148 = .ok (.iaload, 1) := by decide +kernel
theorem dX10_about_149 : decode cX10_about 149 = .ok (.aload_n 0, 1) := by decide +kernel
theorem dX10_about_150 : decode cX10_about 150 = .ok (.getfield 26, 3) := by decide +kernel
theorem dX10_about_153 : decode cX10_about 153 = .ok (.aload_n 0, 1) := by decide +kernel
theorem dX10_about_154 : decode cX10_about 154 = .ok (.getfield 44, 3) := by decide +kernel
theorem dX10_about_157 : decode cX10_about 157 = .ok (.iload_n 1, 1) := by decide +kernel
theorem dX10_about_158 : decode cX10_about 158 = .ok (.iaload, 1) := by decide +kernel
theorem dX10_about_159 : decode cX10_about 159 = .ok (.bipush 24, 2) := by decide +kernel
theorem dX10_about_161 : decode cX10_about 161 = .ok (.irem, 1) := by decide +kernel
theorem dX10_about_162 : decode cX10_about 162 = .ok (.iaload, 1) := by decide +kernel
theorem dX10_about_163 : decode cX10_about 163 = .ok (.iadd, 1) := by decide +kernel
theorem dX10_about_164 : decode cX10_about 164 = .ok (.imul, 1) := by decide +kernel
theorem dX10_about_165 : decode cX10_about 165 = .ok (.bipush 10, 2) := by decide +kernel
theorem dX10_about_167 : decode cX10_about 167 = .ok (.aload_n 0, 1) := by decide +kernel
theorem dX10_about_168 : decode cX10_about 168 = .ok (.getfield 47, 3) := by decide +kernel
theorem dX10_about_171 : decode cX10_about 171 = .ok (.iload_n 1, 1) := by decide +kernel
theorem dX10_about_172 : decode cX10_about 172 = .ok (.iaload, 1) := by decide +kernel
theorem dX10_about_173 : decode cX10_about 173 = .ok (.aload_n 0, 1) := by decide +kernel
theorem dX10_about_174 : decode cX10_about 174 = .ok (.getfield 53, 3) := by decide +kernel
theorem dX10_about_177 : decode cX10_about 177 = .ok (.iload_n 1, 1) := by decide +kernel
theorem dX10_about_178 : decode cX10_about 178 = .ok (.iaload, 1) := by decide +kernel
theorem dX10_about_179 : decode cX10_about 179 = .ok (.iadd, 1) := by decide +kernel
theorem dX10_about_180 : decode cX10_about 180 = .ok (.imul, 1) := by decide +kernel
theorem dX10_about_181 : decode cX10_about 181 = .ok (.isub, 1) := by decide +kernel
theorem dX10_about_182 : decode cX10_about 182 = .ok (.ireturn, 1) := by decide +kernel
theorem dX10_about_183 : decode cX10_about 183 = .ok (.aload_n 0, 1) := by decide +kernel
theorem dX10_about_184 : decode cX10_about 184 = .ok (.getfield 56, 3) := by decide +kernel
theorem dX10_about_187 : decode cX10_about 187 = .ok (.iload_n 1, 1) := by decide +kernel
theorem dX10_about_188 : decode cX10_about 188 = .ok (.iaload, 1) := by decide +kernel
theorem dX10_about_189 : decode cX10_about 189 = .ok (.ireturn, 1) := by decide +kernel
theorem dX10_about_190 : decode cX10_about 190 = .ok (.ldc 163, 2) := by decide +kernel
theorem dX10_about_192 : decode cX10_about 192 = .ok (.ireturn, 1) := by decide +kernel
theorem dX10_distanceOf_0 : decode cX10_distanceOf 0 = .ok (.sipush 10000, 3) := by decide +kernel
theorem dX10_distanceOf_3 : decode cX10_distanceOf 3 = .ok (.iload_n 0, 1) := by decide +kernel
theorem dX10_distanceOf_4 : decode cX10_distanceOf 4 = .ok (.iload_n 0, 1) := by decide +kernel
theorem dX10_distanceOf_5 : decode cX10_distanceOf 5 = .ok (.imul, 1) := by decide +kernel
theorem dX10_distanceOf_6 : decode cX10_distanceOf 6 = .ok (.iload_n 1, 1) := by decide +kernel
theorem dX10_distanceOf_7 : decode cX10_distanceOf 7 = .ok (.iload_n 1, 1) := by decide +kernel
theorem dX10_distanceOf_8 : decode cX10_distanceOf 8 = .ok (.imul, 1) := by decide +kernel
theorem dX10_distanceOf_9 : decode cX10_distanceOf 9 = .ok (.iadd, 1) := by decide +kernel
theorem dX10_distanceOf_10 : decode cX10_distanceOf 10 = .ok (.imul, 1) := by decide +kernel
theorem dX10_distanceOf_11 : decode cX10_distanceOf 11 = .ok (.istore_n 2, 1) := by decide +kernel
theorem dX10_distanceOf_12 : decode cX10_distanceOf 12 = .ok (.iconst 0, 1) := by decide +kernel
theorem dX10_distanceOf_13 : decode cX10_distanceOf 13 = .ok (.istore_n 3, 1) := by decide +kernel
theorem dX10_distanceOf_14 : decode cX10_distanceOf 14 = .ok (.iload_n 3, 1) := by decide +kernel
theorem dX10_distanceOf_15 : decode cX10_distanceOf 15 = .ok (.iconst 1, 1) := by decide +kernel
theorem dX10_distanceOf_16 : decode cX10_distanceOf 16 = .ok (.iadd, 1) := by decide +kernel
theorem dX10_distanceOf_17 : decode cX10_distanceOf 17 = .ok (.iload_n 3, 1) := by decide +kernel
theorem dX10_distanceOf_18 : decode cX10_distanceOf 18 = .ok (.iconst 1, 1) := by decide +kernel
theorem dX10_distanceOf_19 : decode cX10_distanceOf 19 = .ok (.iadd, 1) := by decide +kernel
theorem dX10_distanceOf_20 : decode cX10_distanceOf 20 = .ok (.imul, 1) := by decide +kernel
theorem dX10_distanceOf_21 : decode cX10_distanceOf 21 = .ok (.iload_n 2, 1) := by decide +kernel
theorem dX10_distanceOf_22 : decode cX10_distanceOf 22 = .ok (.if_icmp .gt 9, 3) := by decide +kernel
theorem dX10_distanceOf_25 : decode cX10_distanceOf 25 = .ok (.iinc 3 1, 3) := by decide +kernel
theorem dX10_distanceOf_28 : decode cX10_distanceOf 28 = .ok (.goto (-14), 3) := by decide +kernel
theorem dX10_distanceOf_31 : decode cX10_distanceOf 31 = .ok (.iload_n 3, 1) := by decide +kernel
theorem dX10_distanceOf_32 : decode cX10_distanceOf 32 = .ok (.ireturn, 1) := by decide +kernel
set_option maxRecDepth 20000 in
theorem ggX10_distanceFlown_X10_distanceOf : GoodIn wsX10_distanceFlown wsX10_distanceOf := goodIn_r _ [7] (by decide +kernel) (by decide +kernel)
set_option maxRecDepth 20000 in
theorem gX10_distanceFlown_X10_distanceOf : GoodIn wsX10_distanceFlown (va_wsS RX10 164 yX10_distanceOf wsX10_distanceOf) := goodIn_app (goodIn_of _ (by decide +kernel)) ggX10_distanceFlown_X10_distanceOf
theorem dX10_distanceFlown_0 : decode cX10_distanceFlown 0 = .ok (.aload_n 0, 1) := by decide +kernel
theorem dX10_distanceFlown_1 : decode cX10_distanceFlown 1 = .ok (.getfield 35, 3) := by decide +kernel
theorem dX10_distanceFlown_4 : decode cX10_distanceFlown 4 = .ok (.iload_n 1, 1) := by decide +kernel
theorem dX10_distanceFlown_5 : decode cX10_distanceFlown 5 = .ok (.iaload, 1) := by decide +kernel
theorem dX10_distanceFlown_6 : decode cX10_distanceFlown 6 = .ok (.aload_n 0, 1) := by decide +kernel
theorem dX10_distanceFlown_7 : decode cX10_distanceFlown 7 = .ok (.getfield 69, 3) := by decide +kernel
theorem dX10_distanceFlown_10 : decode cX10_distanceFlown 10 = .ok (.bipush 61, 2) := by decide +kernel
theorem dX10_distanceFlown_12 : decode cX10_distanceFlown 12 = .ok (.iload_n 1, 1) := by decide +kernel
theorem dX10_distanceFlown_13 : decode cX10_distanceFlown 13 = .ok (.imul, 1) := by decide +kernel
theorem dX10_distanceFlown_14 : decode cX10_distanceFlown 14 = .ok (.iaload, 1) := by decide +kernel
theorem dX10_distanceFlown_15 : decode cX10_distanceFlown 15 = .ok (.bipush 24, 2) := by decide +kernel
theorem dX10_distanceFlown_17 : decode cX10_distanceFlown 17 = .ok (.irem, 1) := by decide +kernel
theorem dX10_distanceFlown_18 : decode cX10_distanceFlown 18 = .ok (.isub, 1) := by decide +kernel
theorem dX10_distanceFlown_19 : decode cX10_distanceFlown 19 = .ok (.aload_n 0, 1) := by decide +kernel
theorem dX10_distanceFlown_20 : decode cX10_distanceFlown 20 = .ok (.getfield 38, 3) := by decide +kernel
theorem dX10_distanceFlown_23 : decode cX10_distanceFlown 23 = .ok (.iload_n 1, 1) := by decide +kernel
theorem dX10_distanceFlown_24 : decode cX10_distanceFlown 24 = .ok (.iaload, 1) := by decide +kernel
theorem dX10_distanceFlown_25 : decode cX10_distanceFlown 25 = .ok (.aload_n 0, 1) := by decide +kernel
theorem dX10_distanceFlown_26 : decode cX10_distanceFlown 26 = .ok (.getfield 69, 3) := by decide +kernel
theorem dX10_distanceFlown_29 : decode cX10_distanceFlown 29 = .ok (.bipush 61, 2) := by decide +kernel
theorem dX10_distanceFlown_31 : decode cX10_distanceFlown 31 = .ok (.iload_n 1, 1) := by decide +kernel
theorem dX10_distanceFlown_32 : decode cX10_distanceFlown 32 = .ok (.imul, 1) := by decide +kernel
theorem dX10_distanceFlown_33 : decode cX10_distanceFlown 33 = .ok (.iaload, 1) := by decide +kernel
theorem dX10_distanceFlown_34 : decode cX10_distanceFlown 34 = .ok (.bipush 24, 2) := by decide +kernel
theorem dX10_distanceFlown_36 : decode cX10_distanceFlown 36 = .ok (.idiv, 1) := by decide +kernel
theorem dX10_distanceFlown_37 : decode cX10_distanceFlown 37 = .ok (.isub, 1) := by decide +kernel
theorem dX10_distanceFlown_38 : decode cX10_distanceFlown 38 = .ok (.invokestatic 164, 3) := by decide +kernel
theorem dX10_distanceFlown_41 : decode cX10_distanceFlown 41 = .ok (.ireturn, 1) := by decide +kernel
set_option maxRecDepth 20000 in
theorem ggX10_distance_X10_isFlight : GoodIn wsX10_distance wsX10_isFlight := goodIn_r _ [5, 6, 7, 8, 4, 9, 20, 21, 22, 23, 24, 25, 26, 27, 28, 29, 30, 31, 32, 33, 34, 35, 36, 37, 38, 39, 40, 41, 42, 43, 44, 45, 46, 47, 48, 49, 50, 51, 52, 53, 54, 55, 56, 57, 58, 59, 60, 61, 62] (by decide +kernel) (by decide +kernel)
set_option maxRecDepth 20000 in
theorem gX10_distance_X10_isFlight : GoodIn wsX10_distance (wsV RX10 152 RX10 yX10_isFlight wsX10_isFlight) := goodIn_app (goodIn_of _ (by decide +kernel)) ggX10_distance_X10_isFlight
set_option maxRecDepth 20000 in
theorem ggX10_distance_X10_distanceFlown : GoodIn wsX10_distance wsX10_distanceFlown := goodIn_r _ [13, 14, 15, 16, 17, 18, 4, 19, 20, 21, 22, 23, 24, 25, 26, 27, 28, 29, 30, 31, 32, 33, 34, 35, 36, 37, 38, 39, 40, 41, 42, 43, 44, 45, 46, 47, 48, 49, 50, 51, 52, 53, 54, 55, 56, 57, 58, 59, 60, 61, 62] (by decide +kernel) (by decide +kernel)
set_option maxRecDepth 20000 in
theorem gX10_distance_X10_distanceFlown : GoodIn wsX10_distance (wsV RX10 168 RX10 yX10_distanceFlown wsX10_distanceFlown) := goodIn_app (goodIn_of _ (by decide +kernel)) ggX10_distance_X10_distanceFlown
theorem dX10_distance_0 : decode cX10_distance 0 = .ok (.aload_n 0, 1) := by decide +kernel
theorem dX10_distance_1 : decode cX10_distance 1 = .ok (.iload_n 1, 1) := by decide +kernel
theorem dX10_distance_2 : decode cX10_distance 2 = .ok (.invokevirtual 152, 3) := by decide +kernel
theorem dX10_distance_5 : decode cX10_distance 5 = .ok (.ifCond .eq 11, 3) := by decide +kernel
theorem dX10_distance_8 : decode cX10_distance 8 = .ok (.aload_n 0, 1) := by decide +kernel
theorem dX10_distance_9 : decode cX10_distance 9 = .ok (.iload_n 1, 1) := by decide +kernel
theorem dX10_distance_10 : decode cX10_distance 10 = .ok (.invokevirtual 168, 3) := by decide +kernel
theorem dX10_distance_13 : decode cX10_distance 13 = .ok (.goto 5, 3) := by decide +kernel
theorem dX10_distance_16 : decode cX10_distance 16 = .ok (.bipush (-2), 2) := by decide +kernel
theorem dX10_distance_18 : decode cX10_distance 18 = .ok (.ireturn, 1) := by decide +kernel
set_option maxRecDepth 20000 in
theorem ggX10_planned_X10_flown : GoodIn wsX10_planned wsX10_flown := goodIn_r _ [7, 8, 9, 10, 11, 12, 13, 14, 15, 16, 6, 17, 18, 19, 20, 21, 22, 23, 24, 25, 26, 27, 28, 29, 30, 31, 32, 33, 34, 35, 36, 37, 38, 39, 40, 41, 42, 43, 44, 45, 46, 47, 48, 49, 50, 51, 52, 53, 54, 55, 56, 57, 58, 59, 60, 61, 62, 63, 64, 65, 66, 67, 68, 69, 70, 71, 72, 73, 74, 75, 76, 77, 78, 79, 80, 81, 82, 83, 84, 85, 86, 87, 88, 89, 90, 91, 92, 93, 94] (by decide +kernel) (by decide +kernel)
set_option maxRecDepth 20000 in
theorem gX10_planned_X10_flown : GoodIn wsX10_planned (wsV RX10 172 RX10 yX10_flown wsX10_flown) := goodIn_app (goodIn_of _ (by decide +kernel)) ggX10_planned_X10_flown
theorem dX10_planned_0 : decode cX10_planned 0 = .ok (.iconst 1, 1) := by decide +kernel
theorem dX10_planned_1 : decode cX10_planned 1 = .ok (.istore 7, 2) := by decide +kernel
theorem dX10_planned_3 : decode cX10_planned 3 = .ok (.iconst 0, 1) := by decide +kernel
theorem dX10_planned_4 : decode cX10_planned 4 = .ok (.istore 8, 2) := by decide +kernel
theorem dX10_planned_6 : decode cX10_planned 6 = .ok (.iload 8, 2) := by decide +kernel
theorem dX10_planned_8 : decode cX10_planned 8 = .ok (.iload_n 2, 1) := by decide +kernel
theorem dX10_planned_9 : decode cX10_planned 9 = .ok (.if_icmp .ge 15, 3) := by decide +kernel
theorem dX10_planned_12 : decode cX10_planned 12 = .ok (.iconst 3, 1) := by decide +kernel
theorem dX10_planned_13 : decode cX10_planned 13 = .ok (.iload 7, 2) := by decide +kernel
theorem dX10_planned_15 : decode cX10_planned 15 = .ok (.imul, 1) := by decide +kernel
theorem dX10_planned_16 : decode cX10_planned 16 = .ok (.istore 7, 2) := by decide +kernel
theorem dX10_planned_18 : decode cX10_planned 18 = .ok (.iinc 8 1, 3) := by decide +kernel
theorem dX10_planned_21 : decode cX10_planned 21 = .ok (.goto (-15), 3) := by decide +kernel
theorem dX10_planned_24 : decode cX10_planned 24 = .ok (.iconst (-1), 1) := by decide +kernel
theorem dX10_planned_25 : decode cX10_planned 25 = .ok (.istore 8, 2) := by decide +kernel
theorem dX10_planned_27 : decode cX10_planned 27 = .ok (.iconst (-1), 1) := by decide +kernel
theorem dX10_planned_28 : decode cX10_planned 28 = .ok (.istore 9, 2) := by decide +kernel
theorem dX10_planned_30 : decode cX10_planned 30 = .ok (.iconst 0, 1) := by decide +kernel
theorem dX10_planned_31 : decode cX10_planned 31 = .ok (.istore 10, 2) := by decide +kernel
theorem dX10_planned_33 : decode cX10_planned 33 = .ok (.iload 10, 2) := by decide +kernel
theorem dX10_planned_35 : decode cX10_planned 35 = .ok (.iload 7, 2) := by decide +kernel
theorem dX10_planned_37 : decode cX10_planned 37 = .ok (.if_icmp .ge 68, 3) := by decide +kernel
theorem dX10_planned_40 : decode cX10_planned 40 = .ok (.aload_n 0, 1) := by decide +kernel
theorem dX10_planned_41 : decode cX10_planned 41 = .ok (.iload_n 1, 1) := by decide +kernel
theorem dX10_planned_42 : decode cX10_planned 42 = .ok (.iload_n 2, 1) := by decide +kernel
theorem dX10_planned_43 : decode cX10_planned 43 = .ok (.iload_n 3, 1) := by decide +kernel
theorem dX10_planned_44 : decode cX10_planned 44 = .ok (.iload 10, 2) := by decide +kernel
theorem dX10_planned_46 : decode cX10_planned 46 = .ok (.iload 7, 2) := by decide +kernel
theorem dX10_planned_48 : decode cX10_planned 48 = .ok (.iload 4, 2) := by decide +kernel
theorem dX10_planned_50 : decode cX10_planned 50 = .ok (.iload 5, 2) := by decide +kernel
theorem dX10_planned_52 : decode cX10_planned 52 = .ok (.invokevirtual 172, 3) := by decide +kernel
theorem dX10_planned_55 : decode cX10_planned 55 = .ok (.istore 11, 2) := by decide +kernel
theorem dX10_planned_57 : decode cX10_planned 57 = .ok (.iload 11, 2) := by decide +kernel
theorem dX10_planned_59 : decode cX10_planned 59 = .ok (.iconst (-1), 1) := by decide +kernel
theorem dX10_planned_60 : decode cX10_planned 60 = .ok (.if_icmp .eq 39, 3) := by decide +kernel
theorem dX10_planned_63 : decode cX10_planned 63 = .ok (.iload 8, 2) := by decide +kernel
theorem dX10_planned_65 : decode cX10_planned 65 = .ok (.iconst (-1), 1) := by decide +kernel
theorem dX10_planned_66 : decode cX10_planned 66 = .ok (.if_icmp .eq 25, 3) := by decide +kernel
theorem dX10_planned_69 : decode cX10_planned 69 = .ok (.iload 6, 2) := by decide +kernel
theorem dX10_planned_71 : decode cX10_planned 71 = .ok (.ifCond .eq 13, 3) := by decide +kernel
theorem dX10_planned_74 : decode cX10_planned 74 = .ok (.iload 11, 2) := by decide +kernel
theorem dX10_planned_76 : decode cX10_planned 76 = .ok (.iload 8, 2) := by decide +kernel
theorem dX10_planned_78 : decode cX10_planned 78 = .ok (.if_icmp .le 21, 3) := by decide +kernel
theorem dX10_planned_81 : decode cX10_planned 81 = .ok (.goto 10, 3) := by decide +kernel
theorem dX10_planned_84 : decode cX10_planned 84 = .ok (.iload 11, 2) := by decide +kernel
theorem dX10_planned_86 : decode cX10_planned 86 = .ok (.iload 8, 2) := by decide +kernel
theorem dX10_planned_88 : decode cX10_planned 88 = .ok (.if_icmp .ge 11, 3) := by decide +kernel
theorem dX10_planned_91 : decode cX10_planned 91 = .ok (.iload 11, 2) := by decide +kernel
theorem dX10_planned_93 : decode cX10_planned 93 = .ok (.istore 8, 2) := by decide +kernel
theorem dX10_planned_95 : decode cX10_planned 95 = .ok (.iload 10, 2) := by decide +kernel
theorem dX10_planned_97 : decode cX10_planned 97 = .ok (.istore 9, 2) := by decide +kernel
theorem dX10_planned_99 : decode cX10_planned 99 = .ok (.iinc 10 1, 3) := by decide +kernel
theorem dX10_planned_102 : decode cX10_planned 102 = .ok (.goto (-69), 3) := by decide +kernel
theorem dX10_planned_105 : decode cX10_planned 105 = .ok (.iload 8, 2) := by decide +kernel
theorem dX10_planned_107 : decode cX10_planned 107 = .ok (.iconst (-1), 1) := by decide +kernel
theorem dX10_planned_108 : decode cX10_planned 108 = .ok (.if_icmp .ne 5, 3) := by decide +kernel
theorem dX10_planned_111 : decode cX10_planned 111 = .ok (.iconst (-1), 1) := by decide +kernel
theorem dX10_planned_112 : decode cX10_planned 112 = .ok (.ireturn, 1) := by decide +kernel
theorem dX10_planned_113 : decode cX10_planned 113 = .ok (.aload_n 0, 1) := by decide +kernel
theorem dX10_planned_114 : decode cX10_planned 114 = .ok (.iload_n 2, 1) := by decide +kernel
theorem dX10_planned_115 : decode cX10_planned 115 = .ok (.putfield 176, 3) := by decide +kernel
theorem dX10_planned_118 : decode cX10_planned 118 = .ok (.iload_n 2, 1) := by decide +kernel
theorem dX10_planned_119 : decode cX10_planned 119 = .ok (.iconst 1, 1) := by decide +kernel
theorem dX10_planned_120 : decode cX10_planned 120 = .ok (.isub, 1) := by decide +kernel
theorem dX10_planned_121 : decode cX10_planned 121 = .ok (.istore 10, 2) := by decide +kernel
theorem dX10_planned_123 : decode cX10_planned 123 = .ok (.iload 10, 2) := by decide +kernel
theorem dX10_planned_125 : decode cX10_planned 125 = .ok (.ifCond .lt 26, 3) := by decide +kernel
theorem dX10_planned_128 : decode cX10_planned 128 = .ok (.aload_n 0, 1) := by decide +kernel
theorem dX10_planned_129 : decode cX10_planned 129 = .ok (.getfield 87, 3) := by decide +kernel
theorem dX10_planned_132 : decode cX10_planned 132 = .ok (.iload 10, 2) := by decide +kernel
theorem dX10_planned_134 : decode cX10_planned 134 = .ok (.iload 9, 2) := by decide +kernel
theorem dX10_planned_136 : decode cX10_planned 136 = .ok (.iconst 3, 1) := by decide +kernel
theorem dX10_planned_137 : decode cX10_planned 137 = .ok (.irem, 1) := by decide +kernel
theorem dX10_planned_138 : decode cX10_planned 138 = .ok (.iastore, 1) := by decide +kernel
theorem dX10_planned_139 : decode cX10_planned 139 = .ok (.iload 9, 2) := by decide +kernel
theorem dX10_planned_141 : decode cX10_planned 141 = .ok (.iconst 3, 1) := by decide +kernel
theorem dX10_planned_142 : decode cX10_planned 142 = .ok (.idiv, 1) := by decide +kernel
theorem dX10_planned_143 : decode cX10_planned 143 = .ok (.istore 9, 2) := by decide +kernel
theorem dX10_planned_145 : decode cX10_planned 145 = .ok (.iinc 10 (-1), 3) := by decide +kernel
theorem dX10_planned_148 : decode cX10_planned 148 = .ok (.goto (-25), 3) := by decide +kernel
theorem dX10_planned_151 : decode cX10_planned 151 = .ok (.iload 8, 2) := by decide +kernel
theorem dX10_planned_153 : decode cX10_planned 153 = .ok (.ireturn, 1) := by decide +kernel
set_option maxRecDepth 20000 in
theorem ggX10_flown_X10_begin : GoodIn wsX10_flown wsX10_begin := goodIn_r _ [11, 12, 6, 13, 5, 14, 3, 15, 16, 17, 18, 19, 20, 46, 47, 48, 49, 50, 51, 52, 53, 54, 55, 56, 57, 58, 59, 60, 61, 62, 63, 64, 65, 66, 67, 68, 69, 70, 71, 72, 73, 74, 75, 76, 77, 78, 79, 80, 81, 82, 83, 84, 85, 86, 87, 88] (by decide +kernel) (by decide +kernel)
set_option maxRecDepth 20000 in
theorem gX10_flown_X10_begin : GoodIn wsX10_flown (wsV RX10 156 RX10 yX10_begin wsX10_begin) := goodIn_app (goodIn_of _ (by decide +kernel)) ggX10_flown_X10_begin
set_option maxRecDepth 20000 in
theorem ggX10_flown_X10_tick : GoodIn wsX10_flown wsX10_tick := goodIn_r _ [24, 18, 16, 25, 3, 26, 27, 20, 6, 5, 28, 29, 30, 10, 31, 32, 33, 34, 35, 36, 37, 38, 39, 40, 41, 42, 43, 44, 45, 46, 47, 48, 49, 50, 51, 52, 53, 54, 55, 56, 57, 58, 59, 60, 61, 62, 63, 64, 65, 66, 67, 68, 69, 70, 71, 72, 73, 74, 75, 76, 77, 78, 79, 80, 81, 82, 83, 84, 85, 86, 87, 88] (by decide +kernel) (by decide +kernel)
set_option maxRecDepth 20000 in
theorem gX10_flown_X10_tick : GoodIn wsX10_flown (wsV RX10 159 RX10 yX10_tick wsX10_tick) := goodIn_app (goodIn_of _ (by decide +kernel)) ggX10_flown_X10_tick
theorem dX10_flown_0 : decode cX10_flown 0 = .ok (.aload_n 0, 1) := by decide +kernel
theorem dX10_flown_1 : decode cX10_flown 1 = .ok (.iload_n 1, 1) := by decide +kernel
theorem dX10_flown_2 : decode cX10_flown 2 = .ok (.invokevirtual 156, 3) := by decide +kernel
theorem dX10_flown_5 : decode cX10_flown 5 = .ok (.iload 5, 2) := by decide +kernel
theorem dX10_flown_7 : decode cX10_flown 7 = .ok (.istore 8, 2) := by decide +kernel
theorem dX10_flown_9 : decode cX10_flown 9 = .ok (.iconst 0, 1) := by decide +kernel
theorem dX10_flown_10 : decode cX10_flown 10 = .ok (.istore 9, 2) := by decide +kernel
theorem dX10_flown_12 : decode cX10_flown 12 = .ok (.iconst 0, 1) := by decide +kernel
theorem dX10_flown_13 : decode cX10_flown 13 = .ok (.istore 10, 2) := by decide +kernel
theorem dX10_flown_15 : decode cX10_flown 15 = .ok (.iload 10, 2) := by decide +kernel
theorem dX10_flown_17 : decode cX10_flown 17 = .ok (.iload_n 2, 1) := by decide +kernel
theorem dX10_flown_18 : decode cX10_flown 18 = .ok (.if_icmp .ge 114, 3) := by decide +kernel
theorem dX10_flown_21 : decode cX10_flown 21 = .ok (.iload 8, 2) := by decide +kernel
theorem dX10_flown_23 : decode cX10_flown 23 = .ok (.iconst 3, 1) := by decide +kernel
theorem dX10_flown_24 : decode cX10_flown 24 = .ok (.idiv, 1) := by decide +kernel
theorem dX10_flown_25 : decode cX10_flown 25 = .ok (.istore 8, 2) := by decide +kernel
theorem dX10_flown_27 : decode cX10_flown 27 = .ok (.iload 4, 2) := by decide +kernel
theorem dX10_flown_29 : decode cX10_flown 29 = .ok (.iload 8, 2) := by decide +kernel
theorem dX10_flown_31 : decode cX10_flown 31 = .ok (.idiv, 1) := by decide +kernel
theorem dX10_flown_32 : decode cX10_flown 32 = .ok (.iconst 3, 1) := by decide +kernel
theorem dX10_flown_33 : decode cX10_flown 33 = .ok (.irem, 1) := by decide +kernel
theorem dX10_flown_34 : decode cX10_flown 34 = .ok (.istore 11, 2) := by decide +kernel
theorem dX10_flown_36 : decode cX10_flown 36 = .ok (.iload 9, 2) := by decide +kernel
theorem dX10_flown_38 : decode cX10_flown 38 = .ok (.ifCond .eq 10, 3) := by decide +kernel
theorem dX10_flown_41 : decode cX10_flown 41 = .ok (.iload 11, 2) := by decide +kernel
theorem dX10_flown_43 : decode cX10_flown 43 = .ok (.ifCond .eq 83, 3) := by decide +kernel
theorem dX10_flown_46 : decode cX10_flown 46 = .ok (.iconst (-1), 1) := by decide +kernel
theorem dX10_flown_47 : decode cX10_flown 47 = .ok (.ireturn, 1) := by decide +kernel
theorem dX10_flown_48 : decode cX10_flown 48 = .ok (.aload_n 0, 1) := by decide +kernel
theorem dX10_flown_49 : decode cX10_flown 49 = .ok (.iconst 1, 1) := by decide +kernel
theorem dX10_flown_50 : decode cX10_flown 50 = .ok (.aload_n 0, 1) := by decide +kernel
theorem dX10_flown_51 : decode cX10_flown 51 = .ok (.getfield 44, 3) := by decide +kernel
theorem dX10_flown_54 : decode cX10_flown 54 = .ok (.iload_n 1, 1) := by decide +kernel
theorem dX10_flown_55 : decode cX10_flown 55 = .ok (.iaload, 1) := by decide +kernel
theorem dX10_flown_56 : decode cX10_flown 56 = .ok (.iload 10, 2) := by decide +kernel
theorem dX10_flown_58 : decode cX10_flown 58 = .ok (.iadd, 1) := by decide +kernel
theorem dX10_flown_59 : decode cX10_flown 59 = .ok (.bipush 24, 2) := by decide +kernel
theorem dX10_flown_61 : decode cX10_flown 61 = .ok (.irem, 1) := by decide +kernel
theorem dX10_flown_62 : decode cX10_flown 62 = .ok (.aload_n 0, 1) := by decide +kernel
theorem dX10_flown_63 : decode cX10_flown 63 = .ok (.getfield 47, 3) := by decide +kernel
theorem dX10_flown_66 : decode cX10_flown 66 = .ok (.iload_n 1, 1) := by decide +kernel
theorem dX10_flown_67 : decode cX10_flown 67 = .ok (.iaload, 1) := by decide +kernel
theorem dX10_flown_68 : decode cX10_flown 68 = .ok (.iload 11, 2) := by decide +kernel
theorem dX10_flown_70 : decode cX10_flown 70 = .ok (.iload_n 3, 1) := by decide +kernel
theorem dX10_flown_71 : decode cX10_flown 71 = .ok (.invokevirtual 159, 3) := by decide +kernel
theorem dX10_flown_74 : decode cX10_flown 74 = .ok (.aload_n 0, 1) := by decide +kernel
theorem dX10_flown_75 : decode cX10_flown 75 = .ok (.getfield 132, 3) := by decide +kernel
theorem dX10_flown_78 : decode cX10_flown 78 = .ok (.ifCond .ne 7, 3) := by decide +kernel
theorem dX10_flown_81 : decode cX10_flown 81 = .ok (.iconst 1, 1) := by decide +kernel
theorem dX10_flown_82 : decode cX10_flown 82 = .ok (.goto 4, 3) := by decide +kernel
theorem dX10_flown_85 : decode cX10_flown 85 = .ok (.iconst 0, 1) := by decide +kernel
theorem dX10_flown_86 : decode cX10_flown 86 = .ok (.istore 9, 2) := by decide +kernel
theorem dX10_flown_88 : decode cX10_flown 88 = .ok (.aload_n 0, 1) := by decide +kernel
theorem dX10_flown_89 : decode cX10_flown 89 = .ok (.getfield 16, 3) := by decide +kernel
theorem dX10_flown_92 : decode cX10_flown 92 = .ok (.bipush 24, 2) := by decide +kernel
theorem dX10_flown_94 : decode cX10_flown 94 = .ok (.aload_n 0, 1) := by decide +kernel
theorem dX10_flown_95 : decode cX10_flown 95 = .ok (.getfield 141, 3) := by decide +kernel
theorem dX10_flown_98 : decode cX10_flown 98 = .ok (.imul, 1) := by decide +kernel
theorem dX10_flown_99 : decode cX10_flown 99 = .ok (.aload_n 0, 1) := by decide +kernel
theorem dX10_flown_100 : decode cX10_flown 100 = .ok (.getfield 138, 3) := by decide +kernel
theorem dX10_flown_103 : decode cX10_flown 103 = .ok (.iadd, 1) := by decide +kernel
theorem dX10_flown_104 : decode cX10_flown 104 = .ok (.iaload, 1) := by decide +kernel
theorem dX10_flown_105 : decode cX10_flown 105 = .ok (.istore 12, 2) := by decide +kernel
theorem dX10_flown_107 : decode cX10_flown 107 = .ok (.iload 12, 2) := by decide +kernel
theorem dX10_flown_109 : decode cX10_flown 109 = .ok (.iconst 2, 1) := by decide +kernel
theorem dX10_flown_110 : decode cX10_flown 110 = .ok (.if_icmp .eq 14, 3) := by decide +kernel
theorem dX10_flown_113 : decode cX10_flown 113 = .ok (.iload 9, 2) := by decide +kernel
theorem dX10_flown_115 : decode cX10_flown 115 = .ok (.ifCond .eq 11, 3) := by decide +kernel
theorem dX10_flown_118 : decode cX10_flown 118 = .ok (.iload 12, 2) := by decide +kernel
theorem dX10_flown_120 : decode cX10_flown 120 = .ok (.iconst 1, 1) := by decide +kernel
theorem dX10_flown_121 : decode cX10_flown 121 = .ok (.if_icmp .ne 5, 3) := by decide +kernel
theorem dX10_flown_124 : decode cX10_flown 124 = .ok (.iconst (-1), 1) := by decide +kernel
theorem dX10_flown_125 : decode cX10_flown 125 = .ok (.ireturn, 1) := by decide +kernel
theorem dX10_flown_126 : decode cX10_flown 126 = .ok (.iinc 10 1, 3) := by decide +kernel
theorem dX10_flown_129 : decode cX10_flown 129 = .ok (.goto (-114), 3) := by decide +kernel
theorem dX10_flown_132 : decode cX10_flown 132 = .ok (.aload_n 0, 1) := by decide +kernel
theorem dX10_flown_133 : decode cX10_flown 133 = .ok (.getfield 138, 3) := by decide +kernel
theorem dX10_flown_136 : decode cX10_flown 136 = .ok (.iload 6, 2) := by decide +kernel
theorem dX10_flown_138 : decode cX10_flown 138 = .ok (.isub, 1) := by decide +kernel
theorem dX10_flown_139 : decode cX10_flown 139 = .ok (.aload_n 0, 1) := by decide +kernel
theorem dX10_flown_140 : decode cX10_flown 140 = .ok (.getfield 138, 3) := by decide +kernel
theorem dX10_flown_143 : decode cX10_flown 143 = .ok (.iload 6, 2) := by decide +kernel
theorem dX10_flown_145 : decode cX10_flown 145 = .ok (.isub, 1) := by decide +kernel
theorem dX10_flown_146 : decode cX10_flown 146 = .ok (.imul, 1) := by decide +kernel
theorem dX10_flown_147 : decode cX10_flown 147 = .ok (.aload_n 0, 1) := by decide +kernel
theorem dX10_flown_148 : decode cX10_flown 148 = .ok (.getfield 141, 3) := by decide +kernel
theorem dX10_flown_151 : decode cX10_flown 151 = .ok (.iload 7, 2) := by decide +kernel
theorem dX10_flown_153 : decode cX10_flown 153 = .ok (.isub, 1) := by decide +kernel
theorem dX10_flown_154 : decode cX10_flown 154 = .ok (.aload_n 0, 1) := by decide +kernel
theorem dX10_flown_155 : decode cX10_flown 155 = .ok (.getfield 141, 3) := by decide +kernel
theorem dX10_flown_158 : decode cX10_flown 158 = .ok (.iload 7, 2) := by decide +kernel
theorem dX10_flown_160 : decode cX10_flown 160 = .ok (.isub, 1) := by decide +kernel
theorem dX10_flown_161 : decode cX10_flown 161 = .ok (.imul, 1) := by decide +kernel
theorem dX10_flown_162 : decode cX10_flown 162 = .ok (.iadd, 1) := by decide +kernel
theorem dX10_flown_163 : decode cX10_flown 163 = .ok (.ireturn, 1) := by decide +kernel
set_option maxRecDepth 20000 in
theorem ggX10_plan_X10_isFlight : GoodIn wsX10_plan wsX10_isFlight := goodIn_r _ [6, 7, 8, 9, 5, 10, 62, 63, 64, 65, 66, 67, 68, 69, 70, 71, 72, 73, 74, 75, 76, 77, 78, 79, 80, 81, 82, 83, 84, 85, 86, 87, 88, 89, 90, 91, 92, 93, 94, 95, 96, 97, 98, 99, 100, 101, 102, 103, 104] (by decide +kernel) (by decide +kernel)
set_option maxRecDepth 20000 in
theorem gX10_plan_X10_isFlight : GoodIn wsX10_plan (wsV RX10 152 RX10 yX10_isFlight wsX10_isFlight) := goodIn_app (goodIn_of _ (by decide +kernel)) ggX10_plan_X10_isFlight
set_option maxRecDepth 20000 in
theorem ggX10_plan_X10_in : GoodIn wsX10_plan wsX10_in := goodIn_r _ [10] (by decide +kernel) (by decide +kernel)
set_option maxRecDepth 20000 in
theorem gX10_plan_X10_in : GoodIn wsX10_plan (va_wsS RX10 108 yX10_in wsX10_in) := goodIn_app (goodIn_of _ (by decide +kernel)) ggX10_plan_X10_in
set_option maxRecDepth 20000 in
theorem ggX10_plan_X10_isCell : GoodIn wsX10_plan wsX10_isCell := goodIn_r _ [14, 15, 16, 8, 9, 5, 10, 62, 63, 64, 65, 66, 67, 68, 69, 70, 71, 72, 73, 74, 75, 76, 77, 78, 79, 80, 81, 82, 83, 84, 85, 86, 87, 88, 89, 90, 91, 92, 93, 94, 95, 96, 97, 98, 99, 100, 101, 102, 103, 104] (by decide +kernel) (by decide +kernel)
set_option maxRecDepth 20000 in
theorem gX10_plan_X10_isCell : GoodIn wsX10_plan (wsV RX10 118 RX10 yX10_isCell wsX10_isCell) := goodIn_app (goodIn_of _ (by decide +kernel)) ggX10_plan_X10_isCell
set_option maxRecDepth 20000 in
theorem ggX10_plan_X10_planned : GoodIn wsX10_plan wsX10_planned := goodIn_r _ [20, 21, 22, 23, 24, 25, 5, 26, 27, 28, 29, 30, 31, 32, 33, 34, 35, 36, 37, 38, 39, 40, 41, 42, 43, 44, 45, 46, 47, 48, 49, 50, 51, 52, 53, 54, 55, 56, 57, 58, 59, 60, 61, 11, 12, 13, 14, 15, 16, 8, 9, 10, 62, 63, 64, 65, 66, 67, 68, 69, 70, 71, 72, 73, 74, 75, 76, 77, 78, 79, 80, 81, 82, 83, 84, 85, 86, 87, 88, 89, 90, 91, 92, 93, 94, 95, 96, 97, 98, 99, 100, 101, 102, 103, 104] (by decide +kernel) (by decide +kernel)
set_option maxRecDepth 20000 in
theorem gX10_plan_X10_planned : GoodIn wsX10_plan (wsV RX10 179 RX10 yX10_planned wsX10_planned) := goodIn_app (goodIn_of _ (by decide +kernel)) ggX10_plan_X10_planned
theorem dX10_plan_0 : decode cX10_plan 0 = .ok (.aload_n 0, 1) := by decide +kernel
theorem dX10_plan_1 : decode cX10_plan 1 = .ok (.iload_n 1, 1) := by decide +kernel
theorem dX10_plan_2 : decode cX10_plan 2 = .ok (.invokevirtual 152, 3) := by decide +kernel
theorem dX10_plan_5 : decode cX10_plan 5 = .ok (.ifCond .eq 34, 3) := by decide +kernel
theorem dX10_plan_8 : decode cX10_plan 8 = .ok (.iload_n 2, 1) := by decide +kernel
theorem dX10_plan_9 : decode cX10_plan 9 = .ok (.iconst 1, 1) := by decide +kernel
theorem dX10_plan_10 : decode cX10_plan 10 = .ok (.bipush 6, 2) := by decide +kernel
theorem dX10_plan_12 : decode cX10_plan 12 = .ok (.invokestatic 108, 3) := by decide +kernel
theorem dX10_plan_15 : decode cX10_plan 15 = .ok (.ifCond .eq 24, 3) := by decide +kernel
theorem dX10_plan_18 : decode cX10_plan 18 = .ok (.iload_n 3, 1) := by decide +kernel
theorem dX10_plan_19 : decode cX10_plan 19 = .ok (.iconst 1, 1) := by decide +kernel
theorem dX10_plan_20 : decode cX10_plan 20 = .ok (.bipush 50, 2) := by decide +kernel
theorem dX10_plan_22 : decode cX10_plan 22 = .ok (.invokestatic 108, 3) := by decide +kernel
theorem dX10_plan_25 : decode cX10_plan 25 = .ok (.ifCond .eq 14, 3) := by decide +kernel
theorem dX10_plan_28 : decode cX10_plan 28 = .ok (.aload_n 0, 1) := by decide +kernel
theorem dX10_plan_29 : decode cX10_plan 29 = .ok (.iload 4, 2) := by decide +kernel
theorem dX10_plan_31 : decode cX10_plan 31 = .ok (.iload 5, 2) := by decide +kernel
theorem dX10_plan_33 : decode cX10_plan 33 = .ok (.invokevirtual 118, 3) := by decide +kernel
theorem dX10_plan_36 : decode cX10_plan 36 = .ok (.ifCond .ne 6, 3) := by decide +kernel
theorem dX10_plan_39 : decode cX10_plan 39 = .ok (.bipush (-2), 2) := by decide +kernel
theorem dX10_plan_41 : decode cX10_plan 41 = .ok (.ireturn, 1) := by decide +kernel
theorem dX10_plan_42 : decode cX10_plan 42 = .ok (.aload_n 0, 1) := by decide +kernel
theorem dX10_plan_43 : decode cX10_plan 43 = .ok (.getfield 59, 3) := by decide +kernel
theorem dX10_plan_46 : decode cX10_plan 46 = .ok (.iload_n 1, 1) := by decide +kernel
theorem dX10_plan_47 : decode cX10_plan 47 = .ok (.baload, 1) := by decide +kernel
theorem dX10_plan_48 : decode cX10_plan 48 = .ok (.ifCond .eq 8, 3) := by decide +kernel
theorem dX10_plan_51 : decode cX10_plan 51 = .ok (.bipush (-3), 2) := by decide +kernel
theorem dX10_plan_53 : decode cX10_plan 53 = .ok (.goto 15, 3) := by decide +kernel
theorem dX10_plan_56 : decode cX10_plan 56 = .ok (.aload_n 0, 1) := by decide +kernel
theorem dX10_plan_57 : decode cX10_plan 57 = .ok (.iload_n 1, 1) := by decide +kernel
theorem dX10_plan_58 : decode cX10_plan 58 = .ok (.iload_n 2, 1) := by decide +kernel
theorem dX10_plan_59 : decode cX10_plan 59 = .ok (.iload_n 3, 1) := by decide +kernel
theorem dX10_plan_60 : decode cX10_plan 60 = .ok (.iload 4, 2) := by decide +kernel
theorem dX10_plan_62 : decode cX10_plan 62 = .ok (.iload 5, 2) := by decide +kernel
theorem dX10_plan_64 : decode cX10_plan 64 = .ok (.iconst 0, 1) := by decide +kernel
theorem dX10_plan_65 : decode cX10_plan 65 = .ok (.invokevirtual 179, 3) := by decide +kernel
theorem dX10_plan_68 : decode cX10_plan 68 = .ok (.ireturn, 1) := by decide +kernel
set_option maxRecDepth 20000 in
theorem ggX10_away_X10_isFlight : GoodIn wsX10_away wsX10_isFlight := goodIn_r _ [7, 8, 9, 10, 6, 11, 63, 64, 65, 66, 67, 68, 69, 70, 71, 72, 73, 74, 75, 76, 77, 78, 79, 80, 81, 82, 83, 84, 85, 86, 87, 88, 89, 90, 91, 92, 93, 94, 95, 96, 97, 98, 99, 100, 101, 102, 103, 104, 105] (by decide +kernel) (by decide +kernel)
set_option maxRecDepth 20000 in
theorem gX10_away_X10_isFlight : GoodIn wsX10_away (wsV RX10 152 RX10 yX10_isFlight wsX10_isFlight) := goodIn_app (goodIn_of _ (by decide +kernel)) ggX10_away_X10_isFlight
set_option maxRecDepth 20000 in
theorem ggX10_away_X10_in : GoodIn wsX10_away wsX10_in := goodIn_r _ [11] (by decide +kernel) (by decide +kernel)
set_option maxRecDepth 20000 in
theorem gX10_away_X10_in : GoodIn wsX10_away (va_wsS RX10 108 yX10_in wsX10_in) := goodIn_app (goodIn_of _ (by decide +kernel)) ggX10_away_X10_in
set_option maxRecDepth 20000 in
theorem ggX10_away_X10_planned : GoodIn wsX10_away wsX10_planned := goodIn_r _ [15, 16, 17, 18, 19, 20, 6, 21, 22, 23, 24, 25, 26, 27, 28, 29, 30, 31, 32, 33, 34, 35, 36, 37, 38, 39, 40, 41, 42, 43, 44, 45, 46, 47, 48, 49, 50, 51, 52, 53, 54, 55, 56, 57, 58, 59, 60, 61, 62, 9, 10, 11, 63, 64, 65, 66, 67, 68, 69, 70, 71, 72, 73, 74, 75, 76, 77, 78, 79, 80, 81, 82, 83, 84, 85, 86, 87, 88, 89, 90, 91, 92, 93, 94, 95, 96, 97, 98, 99, 100, 101, 102, 103, 104, 105] (by decide +kernel) (by decide +kernel)
set_option maxRecDepth 20000 in
theorem gX10_away_X10_planned : GoodIn wsX10_away (wsV RX10 179 RX10 yX10_planned wsX10_planned) := goodIn_app (goodIn_of _ (by decide +kernel)) ggX10_away_X10_planned
theorem dX10_away_0 : decode cX10_away 0 = .ok (.aload_n 0, 1) := by decide +kernel
theorem dX10_away_1 : decode cX10_away 1 = .ok (.iload_n 1, 1) := by decide +kernel
theorem dX10_away_2 : decode cX10_away 2 = .ok (.invokevirtual 152, 3) := by decide +kernel
theorem dX10_away_5 : decode cX10_away 5 = .ok (.ifCond .eq 23, 3) := by decide +kernel
theorem dX10_away_8 : decode cX10_away 8 = .ok (.iload_n 2, 1) := by decide +kernel
theorem dX10_away_9 : decode cX10_away 9 = .ok (.iconst 1, 1) := by decide +kernel
theorem dX10_away_10 : decode cX10_away 10 = .ok (.bipush 6, 2) := by decide +kernel
theorem dX10_away_12 : decode cX10_away 12 = .ok (.invokestatic 108, 3) := by decide +kernel
theorem dX10_away_15 : decode cX10_away 15 = .ok (.ifCond .eq 13, 3) := by decide +kernel
theorem dX10_away_18 : decode cX10_away 18 = .ok (.iload_n 3, 1) := by decide +kernel
theorem dX10_away_19 : decode cX10_away 19 = .ok (.iconst 1, 1) := by decide +kernel
theorem dX10_away_20 : decode cX10_away 20 = .ok (.bipush 50, 2) := by decide +kernel
theorem dX10_away_22 : decode cX10_away 22 = .ok (.invokestatic 108, 3) := by decide +kernel
theorem dX10_away_25 : decode cX10_away 25 = .ok (.ifCond .ne 6, 3) := by decide +kernel
theorem dX10_away_28 : decode cX10_away 28 = .ok (.bipush (-2), 2) := by decide +kernel
theorem dX10_away_30 : decode cX10_away 30 = .ok (.ireturn, 1) := by decide +kernel
theorem dX10_away_31 : decode cX10_away 31 = .ok (.aload_n 0, 1) := by decide +kernel
theorem dX10_away_32 : decode cX10_away 32 = .ok (.getfield 59, 3) := by decide +kernel
theorem dX10_away_35 : decode cX10_away 35 = .ok (.iload_n 1, 1) := by decide +kernel
theorem dX10_away_36 : decode cX10_away 36 = .ok (.baload, 1) := by decide +kernel
theorem dX10_away_37 : decode cX10_away 37 = .ok (.ifCond .eq 8, 3) := by decide +kernel
theorem dX10_away_40 : decode cX10_away 40 = .ok (.bipush (-3), 2) := by decide +kernel
theorem dX10_away_42 : decode cX10_away 42 = .ok (.goto 35, 3) := by decide +kernel
theorem dX10_away_45 : decode cX10_away 45 = .ok (.aload_n 0, 1) := by decide +kernel
theorem dX10_away_46 : decode cX10_away 46 = .ok (.iload_n 1, 1) := by decide +kernel
theorem dX10_away_47 : decode cX10_away 47 = .ok (.iload_n 2, 1) := by decide +kernel
theorem dX10_away_48 : decode cX10_away 48 = .ok (.iload_n 3, 1) := by decide +kernel
theorem dX10_away_49 : decode cX10_away 49 = .ok (.aload_n 0, 1) := by decide +kernel
theorem dX10_away_50 : decode cX10_away 50 = .ok (.getfield 69, 3) := by decide +kernel
theorem dX10_away_53 : decode cX10_away 53 = .ok (.bipush 61, 2) := by decide +kernel
theorem dX10_away_55 : decode cX10_away 55 = .ok (.iload_n 1, 1) := by decide +kernel
theorem dX10_away_56 : decode cX10_away 56 = .ok (.imul, 1) := by decide +kernel
theorem dX10_away_57 : decode cX10_away 57 = .ok (.iaload, 1) := by decide +kernel
theorem dX10_away_58 : decode cX10_away 58 = .ok (.bipush 24, 2) := by decide +kernel
theorem dX10_away_60 : decode cX10_away 60 = .ok (.irem, 1) := by decide +kernel
theorem dX10_away_61 : decode cX10_away 61 = .ok (.aload_n 0, 1) := by decide +kernel
theorem dX10_away_62 : decode cX10_away 62 = .ok (.getfield 69, 3) := by decide +kernel
theorem dX10_away_65 : decode cX10_away 65 = .ok (.bipush 61, 2) := by decide +kernel
theorem dX10_away_67 : decode cX10_away 67 = .ok (.iload_n 1, 1) := by decide +kernel
theorem dX10_away_68 : decode cX10_away 68 = .ok (.imul, 1) := by decide +kernel
theorem dX10_away_69 : decode cX10_away 69 = .ok (.iaload, 1) := by decide +kernel
theorem dX10_away_70 : decode cX10_away 70 = .ok (.bipush 24, 2) := by decide +kernel
theorem dX10_away_72 : decode cX10_away 72 = .ok (.idiv, 1) := by decide +kernel
theorem dX10_away_73 : decode cX10_away 73 = .ok (.iconst 1, 1) := by decide +kernel
theorem dX10_away_74 : decode cX10_away 74 = .ok (.invokevirtual 179, 3) := by decide +kernel
theorem dX10_away_77 : decode cX10_away 77 = .ok (.ireturn, 1) := by decide +kernel
set_option maxRecDepth 20000 in
theorem ggX10_order_X10_in : GoodIn wsX10_order wsX10_in := goodIn_r _ [6] (by decide +kernel) (by decide +kernel)
set_option maxRecDepth 20000 in
theorem gX10_order_X10_in : GoodIn wsX10_order (va_wsS RX10 108 yX10_in wsX10_in) := goodIn_app (goodIn_of _ (by decide +kernel)) ggX10_order_X10_in
theorem dX10_order_0 : decode cX10_order 0 = .ok (.iload_n 1, 1) := by decide +kernel
theorem dX10_order_1 : decode cX10_order 1 = .ok (.iconst 0, 1) := by decide +kernel
theorem dX10_order_2 : decode cX10_order 2 = .ok (.aload_n 0, 1) := by decide +kernel
theorem dX10_order_3 : decode cX10_order 3 = .ok (.getfield 176, 3) := by decide +kernel
theorem dX10_order_6 : decode cX10_order 6 = .ok (.iconst 1, 1) := by decide +kernel
theorem dX10_order_7 : decode cX10_order 7 = .ok (.isub, 1) := by decide +kernel
theorem dX10_order_8 : decode cX10_order 8 = .ok (.invokestatic 108, 3) := by decide +kernel
theorem dX10_order_11 : decode cX10_order 11 = .ok (.ifCond .eq 12, 3) := by decide +kernel
theorem dX10_order_14 : decode cX10_order 14 = .ok (.aload_n 0, 1) := by decide +kernel
theorem dX10_order_15 : decode cX10_order 15 = .ok (.getfield 87, 3) := by decide +kernel
theorem dX10_order_18 : decode cX10_order 18 = .ok (.iload_n 1, 1) := by decide +kernel
theorem dX10_order_19 : decode cX10_order 19 = .ok (.iaload, 1) := by decide +kernel
theorem dX10_order_20 : decode cX10_order 20 = .ok (.goto 4, 3) := by decide +kernel
theorem dX10_order_23 : decode cX10_order 23 = .ok (.iconst (-1), 1) := by decide +kernel
theorem dX10_order_24 : decode cX10_order 24 = .ok (.ireturn, 1) := by decide +kernel
set_option maxRecDepth 20000 in
theorem ggX10_entry_X10_isFlight : GoodIn wsX10_entry wsX10_isFlight := goodIn_r _ [9, 10, 11, 12, 8, 13, 14, 15, 16, 17, 18, 19, 20, 21, 22, 23, 24, 25, 26, 27, 28, 29, 30, 31, 32, 33, 34, 35, 36, 37, 38, 39, 40, 41, 42, 43, 44, 45, 46, 47, 48, 49, 50, 51, 52, 53, 54, 55, 56] (by decide +kernel) (by decide +kernel)
set_option maxRecDepth 20000 in
theorem gX10_entry_X10_isFlight : GoodIn wsX10_entry (wsV RX10 152 RX10 yX10_isFlight wsX10_isFlight) := goodIn_app (goodIn_of _ (by decide +kernel)) ggX10_entry_X10_isFlight
set_option maxRecDepth 20000 in
theorem ggX10_entry_X10_in : GoodIn wsX10_entry wsX10_in := goodIn_r _ [13] (by decide +kernel) (by decide +kernel)
set_option maxRecDepth 20000 in
theorem gX10_entry_X10_in : GoodIn wsX10_entry (va_wsS RX10 108 yX10_in wsX10_in) := goodIn_app (goodIn_of _ (by decide +kernel)) ggX10_entry_X10_in
theorem dX10_entry_0 : decode cX10_entry 0 = .ok (.aload_n 0, 1) := by decide +kernel
theorem dX10_entry_1 : decode cX10_entry 1 = .ok (.iload_n 1, 1) := by decide +kernel
theorem dX10_entry_2 : decode cX10_entry 2 = .ok (.invokevirtual 152, 3) := by decide +kernel
theorem dX10_entry_5 : decode cX10_entry 5 = .ok (.ifCond .eq 12, 3) := by decide +kernel
theorem dX10_entry_8 : decode cX10_entry 8 = .ok (.iload_n 3, 1) := by decide +kernel
theorem dX10_entry_9 : decode cX10_entry 9 = .ok (.iconst 0, 1) := by decide +kernel
theorem dX10_entry_10 : decode cX10_entry 10 = .ok (.iconst 2, 1) := by decide +kernel
theorem dX10_entry_11 : decode cX10_entry 11 = .ok (.invokestatic 108, 3) := by decide +kernel
theorem dX10_entry_14 : decode cX10_entry 14 = .ok (.ifCond .ne 6, 3) := by decide +kernel
theorem dX10_entry_17 : decode cX10_entry 17 = .ok (.bipush (-2), 2) := by decide +kernel
theorem dX10_entry_19 : decode cX10_entry 19 = .ok (.ireturn, 1) := by decide +kernel
theorem dX10_entry_20 : decode cX10_entry 20 = .ok (.iload_n 2, 1) := by decide +kernel
theorem dX10_entry_21 : decode cX10_entry 21 = .ok (.iconst 0, 1) := by decide +kernel
theorem dX10_entry_22 : decode cX10_entry 22 = .ok (.aload_n 0, 1) := by decide +kernel
theorem dX10_entry_23 : decode cX10_entry 23 = .ok (.getfield 66, 3) := by decide +kernel
theorem dX10_entry_26 : decode cX10_entry 26 = .ok (.iload_n 1, 1) := by decide +kernel
theorem dX10_entry_27 : decode cX10_entry 27 = .ok (.iaload, 1) := by decide +kernel
theorem dX10_entry_28 : decode cX10_entry 28 = .ok (.iconst 1, 1) := by decide +kernel
theorem dX10_entry_29 : decode cX10_entry 29 = .ok (.isub, 1) := by decide +kernel
theorem dX10_entry_30 : decode cX10_entry 30 = .ok (.invokestatic 108, 3) := by decide +kernel
theorem dX10_entry_33 : decode cX10_entry 33 = .ok (.ifCond .eq 17, 3) := by decide +kernel
theorem dX10_entry_36 : decode cX10_entry 36 = .ok (.aload_n 0, 1) := by decide +kernel
theorem dX10_entry_37 : decode cX10_entry 37 = .ok (.getfield 75, 3) := by decide +kernel
theorem dX10_entry_40 : decode cX10_entry 40 = .ok (.bipush 61, 2) := by decide +kernel
theorem dX10_entry_42 : decode cX10_entry 42 = .ok (.iload_n 1, 1) := by decide +kernel
theorem dX10_entry_43 : decode cX10_entry 43 = .ok (.imul, 1) := by decide +kernel
theorem dX10_entry_44 : decode cX10_entry 44 = .ok (.iload_n 2, 1) := by decide +kernel
theorem dX10_entry_45 : decode cX10_entry 45 = .ok (.iadd, 1) := by decide +kernel
theorem dX10_entry_46 : decode cX10_entry 46 = .ok (.baload, 1) := by decide +kernel
theorem dX10_entry_47 : decode cX10_entry 47 = .ok (.ifCond .eq 5, 3) := by decide +kernel
theorem dX10_entry_50 : decode cX10_entry 50 = .ok (.iconst (-1), 1) := by decide +kernel
theorem dX10_entry_51 : decode cX10_entry 51 = .ok (.ireturn, 1) := by decide +kernel
theorem dX10_entry_52 : decode cX10_entry 52 = .ok (.iload_n 3, 1) := by decide +kernel
theorem dX10_entry_53 : decode cX10_entry 53 = .ok (.ifCond .ne 20, 3) := by decide +kernel
theorem dX10_entry_56 : decode cX10_entry 56 = .ok (.aload_n 0, 1) := by decide +kernel
theorem dX10_entry_57 : decode cX10_entry 57 = .ok (.getfield 69, 3) := by decide +kernel
theorem dX10_entry_60 : decode cX10_entry 60 = .ok (.bipush 61, 2) := by decide +kernel
theorem dX10_entry_62 : decode cX10_entry 62 = .ok (.iload_n 1, 1) := by decide +kernel
theorem dX10_entry_63 : decode cX10_entry 63 = .ok (.imul, 1) := by decide +kernel
theorem dX10_entry_64 : decode cX10_entry 64 = .ok (.iload_n 2, 1) := by decide +kernel
theorem dX10_entry_65 : decode cX10_entry 65 = .ok (.iadd, 1) := by decide +kernel
theorem dX10_entry_66 : decode cX10_entry 66 = .ok (.iaload, 1) := by decide +kernel
theorem dX10_entry_67 : decode cX10_entry 67 = .ok (.bipush 24, 2) := by decide +kernel
theorem dX10_entry_69 : decode cX10_entry 69 = .ok (.irem, 1) := by decide +kernel
theorem dX10_entry_70 : decode cX10_entry 70 = .ok (.goto 36, 3) := by decide +kernel
theorem dX10_entry_73 : decode cX10_entry 73 = .ok (.iload_n 3, 1) := by decide +kernel
theorem dX10_entry_74 : decode cX10_entry 74 = .ok (.iconst 1, 1) := by decide +kernel
theorem dX10_entry_75 : decode cX10_entry 75 = .ok (.if_icmp .ne 20, 3) := by decide +kernel
theorem dX10_entry_78 : decode cX10_entry 78 = .ok (.aload_n 0, 1) := by decide +kernel
theorem dX10_entry_79 : decode cX10_entry 79 = .ok (.getfield 69, 3) := by decide +kernel
theorem dX10_entry_82 : decode cX10_entry 82 = .ok (.bipush 61, 2) := by decide +kernel
theorem dX10_entry_84 : decode cX10_entry 84 = .ok (.iload_n 1, 1) := by decide +kernel
theorem dX10_entry_85 : decode cX10_entry 85 = .ok (.imul, 1) := by decide +kernel
theorem dX10_entry_86 : decode cX10_entry 86 = .ok (.iload_n 2, 1) := by decide +kernel
theorem dX10_entry_87 : decode cX10_entry 87 = .ok (.iadd, 1) := by decide +kernel
theorem dX10_entry_88 : decode cX10_entry 88 = .ok (.iaload, 1) := by decide +kernel
theorem dX10_entry_89 : decode cX10_entry 89 = .ok (.bipush 24, 2) := by decide +kernel
theorem dX10_entry_91 : decode cX10_entry 91 = .ok (.idiv, 1) := by decide +kernel
theorem dX10_entry_92 : decode cX10_entry 92 = .ok (.goto 14, 3) := by decide +kernel
theorem dX10_entry_95 : decode cX10_entry 95 = .ok (.aload_n 0, 1) := by decide +kernel
theorem dX10_entry_96 : decode cX10_entry 96 = .ok (.getfield 72, 3) := by decide +kernel
theorem dX10_entry_99 : decode cX10_entry 99 = .ok (.bipush 61, 2) := by decide +kernel
theorem dX10_entry_101 : decode cX10_entry 101 = .ok (.iload_n 1, 1) := by decide +kernel
theorem dX10_entry_102 : decode cX10_entry 102 = .ok (.imul, 1) := by decide +kernel
theorem dX10_entry_103 : decode cX10_entry 103 = .ok (.iload_n 2, 1) := by decide +kernel
theorem dX10_entry_104 : decode cX10_entry 104 = .ok (.iadd, 1) := by decide +kernel
theorem dX10_entry_105 : decode cX10_entry 105 = .ok (.iaload, 1) := by decide +kernel
theorem dX10_entry_106 : decode cX10_entry 106 = .ok (.ireturn, 1) := by decide +kernel
set_option maxRecDepth 20000 in
theorem ggX10_lose_X10_isFlight : GoodIn wsX10_lose wsX10_isFlight := goodIn_r _ [7, 8, 9, 10, 6, 11, 12, 13, 14, 15, 16, 17, 18, 19, 20, 21, 22, 23, 24, 25, 26, 27, 28, 29, 30, 31, 32, 33, 34, 35, 36, 37, 38, 39, 40, 41, 42, 43, 44, 45, 46, 47, 48, 49, 50, 51, 52, 53, 54] (by decide +kernel) (by decide +kernel)
set_option maxRecDepth 20000 in
theorem gX10_lose_X10_isFlight : GoodIn wsX10_lose (wsV RX10 152 RX10 yX10_isFlight wsX10_isFlight) := goodIn_app (goodIn_of _ (by decide +kernel)) ggX10_lose_X10_isFlight
theorem dX10_lose_0 : decode cX10_lose 0 = .ok (.aload_n 0, 1) := by decide +kernel
theorem dX10_lose_1 : decode cX10_lose 1 = .ok (.iload_n 1, 1) := by decide +kernel
theorem dX10_lose_2 : decode cX10_lose 2 = .ok (.invokevirtual 152, 3) := by decide +kernel
theorem dX10_lose_5 : decode cX10_lose 5 = .ok (.ifCond .eq 13, 3) := by decide +kernel
theorem dX10_lose_8 : decode cX10_lose 8 = .ok (.iload_n 2, 1) := by decide +kernel
theorem dX10_lose_9 : decode cX10_lose 9 = .ok (.iconst 1, 1) := by decide +kernel
theorem dX10_lose_10 : decode cX10_lose 10 = .ok (.if_icmp .lt 8, 3) := by decide +kernel
theorem dX10_lose_13 : decode cX10_lose 13 = .ok (.iload_n 3, 1) := by decide +kernel
theorem dX10_lose_14 : decode cX10_lose 14 = .ok (.iload_n 2, 1) := by decide +kernel
theorem dX10_lose_15 : decode cX10_lose 15 = .ok (.if_icmp .ge 6, 3) := by decide +kernel
theorem dX10_lose_18 : decode cX10_lose 18 = .ok (.bipush (-2), 2) := by decide +kernel
theorem dX10_lose_20 : decode cX10_lose 20 = .ok (.ireturn, 1) := by decide +kernel
theorem dX10_lose_21 : decode cX10_lose 21 = .ok (.iconst 0, 1) := by decide +kernel
theorem dX10_lose_22 : decode cX10_lose 22 = .ok (.istore 4, 2) := by decide +kernel
theorem dX10_lose_24 : decode cX10_lose 24 = .ok (.iload_n 2, 1) := by decide +kernel
theorem dX10_lose_25 : decode cX10_lose 25 = .ok (.istore 5, 2) := by decide +kernel
theorem dX10_lose_27 : decode cX10_lose 27 = .ok (.iload 5, 2) := by decide +kernel
theorem dX10_lose_29 : decode cX10_lose 29 = .ok (.iload_n 3, 1) := by decide +kernel
theorem dX10_lose_30 : decode cX10_lose 30 = .ok (.if_icmp .gt 58, 3) := by decide +kernel
theorem dX10_lose_33 : decode cX10_lose 33 = .ok (.iload 5, 2) := by decide +kernel
theorem dX10_lose_35 : decode cX10_lose 35 = .ok (.aload_n 0, 1) := by decide +kernel
theorem dX10_lose_36 : decode cX10_lose 36 = .ok (.getfield 66, 3) := by decide +kernel
theorem dX10_lose_39 : decode cX10_lose 39 = .ok (.iload_n 1, 1) := by decide +kernel
theorem dX10_lose_40 : decode cX10_lose 40 = .ok (.iaload, 1) := by decide +kernel
theorem dX10_lose_41 : decode cX10_lose 41 = .ok (.if_icmp .ge 47, 3) := by decide +kernel
theorem dX10_lose_44 : decode cX10_lose 44 = .ok (.iload 4, 2) := by decide +kernel
theorem dX10_lose_46 : decode cX10_lose 46 = .ok (.aload_n 0, 1) := by decide +kernel
theorem dX10_lose_47 : decode cX10_lose 47 = .ok (.getfield 75, 3) := by decide +kernel
theorem dX10_lose_50 : decode cX10_lose 50 = .ok (.bipush 61, 2) := by decide +kernel
theorem dX10_lose_52 : decode cX10_lose 52 = .ok (.iload_n 1, 1) := by decide +kernel
theorem dX10_lose_53 : decode cX10_lose 53 = .ok (.imul, 1) := by decide +kernel
theorem dX10_lose_54 : decode cX10_lose 54 = .ok (.iload 5, 2) := by decide +kernel
theorem dX10_lose_56 : decode cX10_lose 56 = .ok (.iadd, 1) := by decide +kernel
theorem dX10_lose_57 : decode cX10_lose 57 = .ok (.baload, 1) := by decide +kernel
theorem dX10_lose_58 : decode cX10_lose 58 = .ok (.ifCond .eq 7, 3) := by decide +kernel
theorem dX10_lose_61 : decode cX10_lose 61 = .ok (.iconst 0, 1) := by decide +kernel
theorem dX10_lose_62 : decode cX10_lose 62 = .ok (.goto 4, 3) := by decide +kernel
theorem dX10_lose_65 : decode cX10_lose 65 = .ok (.iconst 1, 1) := by decide +kernel
theorem dX10_lose_66 : decode cX10_lose 66 = .ok (.iadd, 1) := by decide +kernel
theorem dX10_lose_67 : decode cX10_lose 67 = .ok (.istore 4, 2) := by decide +kernel
theorem dX10_lose_69 : decode cX10_lose 69 = .ok (.aload_n 0, 1) := by decide +kernel
theorem dX10_lose_70 : decode cX10_lose 70 = .ok (.getfield 75, 3) := by decide +kernel
theorem dX10_lose_73 : decode cX10_lose 73 = .ok (.bipush 61, 2) := by decide +kernel
theorem dX10_lose_75 : decode cX10_lose 75 = .ok (.iload_n 1, 1) := by decide +kernel
theorem dX10_lose_76 : decode cX10_lose 76 = .ok (.imul, 1) := by decide +kernel
theorem dX10_lose_77 : decode cX10_lose 77 = .ok (.iload 5, 2) := by decide +kernel
theorem dX10_lose_79 : decode cX10_lose 79 = .ok (.iadd, 1) := by decide +kernel
theorem dX10_lose_80 : decode cX10_lose 80 = .ok (.iconst 1, 1) := by decide +kernel
theorem dX10_lose_81 : decode cX10_lose 81 = .ok (.bastore, 1) := by decide +kernel
theorem dX10_lose_82 : decode cX10_lose 82 = .ok (.iinc 5 1, 3) := by decide +kernel
theorem dX10_lose_85 : decode cX10_lose 85 = .ok (.goto (-58), 3) := by decide +kernel
theorem dX10_lose_88 : decode cX10_lose 88 = .ok (.iload 4, 2) := by decide +kernel
theorem dX10_lose_90 : decode cX10_lose 90 = .ok (.ireturn, 1) := by decide +kernel
theorem dX10_sum_0 : decode cX10_sum 0 = .ok (.iload_n 0, 1) := by decide +kernel
theorem dX10_sum_1 : decode cX10_sum 1 = .ok (.iload_n 1, 1) := by decide +kernel
theorem dX10_sum_2 : decode cX10_sum 2 = .ok (.iadd, 1) := by decide +kernel
theorem dX10_sum_3 : decode cX10_sum 3 = .ok (.ldc 183, 2) := by decide +kernel
theorem dX10_sum_5 : decode cX10_sum 5 = .ok (.if_icmp .le 8, 3) := by decide +kernel
theorem dX10_sum_8 : decode cX10_sum 8 = .ok (.ldc 183, 2) := by decide +kernel
theorem dX10_sum_10 : decode cX10_sum 10 = .ok (.goto 6, 3) := by decide +kernel
theorem dX10_sum_13 : decode cX10_sum 13 = .ok (.iload_n 0, 1) := by decide +kernel
theorem dX10_sum_14 : decode cX10_sum 14 = .ok (.iload_n 1, 1) := by decide +kernel
theorem dX10_sum_15 : decode cX10_sum 15 = .ok (.iadd, 1) := by decide +kernel
theorem dX10_sum_16 : decode cX10_sum 16 = .ok (.ireturn, 1) := by decide +kernel
set_option maxRecDepth 20000 in
theorem ggX10_findWays_X10_goOn : GoodIn wsX10_findWays wsX10_goOn := goodIn_r _ [14, 15, 16, 1, 2, 17, 3, 4, 5, 18, 19, 20, 13, 21, 22, 23, 24, 25, 26, 27, 28, 29, 30, 31, 32, 33, 34, 35, 36, 37, 38, 39, 40, 41, 42, 43, 44, 45, 46, 47, 48, 49, 50, 51, 52, 53, 54, 55, 56, 57, 58, 59, 60, 61, 62, 63, 64, 65, 66, 67, 68, 69, 70, 71, 72, 73, 74, 75, 76, 77, 78, 79, 80, 81, 82] (by decide +kernel) (by decide +kernel)
set_option maxRecDepth 20000 in
theorem gX10_findWays_X10_goOn : GoodIn wsX10_findWays (wsV RX10 184 RX10 yX10_goOn wsX10_goOn) := goodIn_app (goodIn_of _ (by decide +kernel)) ggX10_findWays_X10_goOn
set_option maxRecDepth 20000 in
theorem ggX10_findWays_X10_sum : GoodIn wsX10_findWays wsX10_sum := goodIn_r _ [38, 39] (by decide +kernel) (by decide +kernel)
set_option maxRecDepth 20000 in
theorem gX10_findWays_X10_sum : GoodIn wsX10_findWays (va_wsS RX10 194 yX10_sum wsX10_sum) := goodIn_app (goodIn_of _ (by decide +kernel)) ggX10_findWays_X10_sum
theorem dX10_findWays_0 : decode cX10_findWays 0 = .ok (.iconst 0, 1) := by decide +kernel
theorem dX10_findWays_1 : decode cX10_findWays 1 = .ok (.istore_n 2, 1) := by decide +kernel
theorem dX10_findWays_2 : decode cX10_findWays 2 = .ok (.iload_n 2, 1) := by decide +kernel
theorem dX10_findWays_3 : decode cX10_findWays 3 = .ok (.sipush 4608, 3) := by decide +kernel
theorem dX10_findWays_6 : decode cX10_findWays 6 = .ok (.if_icmp .ge 23, 3) := by decide +kernel
theorem dX10_findWays_9 : decode cX10_findWays 9 = .ok (.aload_n 0, 1) := by decide +kernel
theorem dX10_findWays_10 : decode cX10_findWays 10 = .ok (.getfield 90, 3) := by decide +kernel
theorem dX10_findWays_13 : decode cX10_findWays 13 = .ok (.iload_n 2, 1) := by decide +kernel
theorem dX10_findWays_14 : decode cX10_findWays 14 = .ok (.iconst 0, 1) := by decide +kernel
theorem dX10_findWays_15 : decode cX10_findWays 15 = .ok (.iastore, 1) := by decide +kernel
theorem dX10_findWays_16 : decode cX10_findWays 16 = .ok (.aload_n 0, 1) := by decide +kernel
theorem dX10_findWays_17 : decode cX10_findWays 17 = .ok (.getfield 93, 3) := by decide +kernel
theorem dX10_findWays_20 : decode cX10_findWays 20 = .ok (.iload_n 2, 1) := by decide +kernel
theorem dX10_findWays_21 : decode cX10_findWays 21 = .ok (.iconst 0, 1) := by decide +kernel
theorem dX10_findWays_22 : decode cX10_findWays 22 = .ok (.iastore, 1) := by decide +kernel
theorem dX10_findWays_23 : decode cX10_findWays 23 = .ok (.iinc 2 1, 3) := by decide +kernel
theorem dX10_findWays_26 : decode cX10_findWays 26 = .ok (.goto (-24), 3) := by decide +kernel
theorem dX10_findWays_29 : decode cX10_findWays 29 = .ok (.bipush 8, 2) := by decide +kernel
theorem dX10_findWays_31 : decode cX10_findWays 31 = .ok (.aload_n 0, 1) := by decide +kernel
theorem dX10_findWays_32 : decode cX10_findWays 32 = .ok (.getfield 69, 3) := by decide +kernel
theorem dX10_findWays_35 : decode cX10_findWays 35 = .ok (.bipush 61, 2) := by decide +kernel
theorem dX10_findWays_37 : decode cX10_findWays 37 = .ok (.iload_n 1, 1) := by decide +kernel
theorem dX10_findWays_38 : decode cX10_findWays 38 = .ok (.imul, 1) := by decide +kernel
theorem dX10_findWays_39 : decode cX10_findWays 39 = .ok (.iaload, 1) := by decide +kernel
theorem dX10_findWays_40 : decode cX10_findWays 40 = .ok (.imul, 1) := by decide +kernel
theorem dX10_findWays_41 : decode cX10_findWays 41 = .ok (.aload_n 0, 1) := by decide +kernel
theorem dX10_findWays_42 : decode cX10_findWays 42 = .ok (.getfield 72, 3) := by decide +kernel
theorem dX10_findWays_45 : decode cX10_findWays 45 = .ok (.bipush 61, 2) := by decide +kernel
theorem dX10_findWays_47 : decode cX10_findWays 47 = .ok (.iload_n 1, 1) := by decide +kernel
theorem dX10_findWays_48 : decode cX10_findWays 48 = .ok (.imul, 1) := by decide +kernel
theorem dX10_findWays_49 : decode cX10_findWays 49 = .ok (.iaload, 1) := by decide +kernel
theorem dX10_findWays_50 : decode cX10_findWays 50 = .ok (.iadd, 1) := by decide +kernel
theorem dX10_findWays_51 : decode cX10_findWays 51 = .ok (.istore_n 2, 1) := by decide +kernel
theorem dX10_findWays_52 : decode cX10_findWays 52 = .ok (.aload_n 0, 1) := by decide +kernel
theorem dX10_findWays_53 : decode cX10_findWays 53 = .ok (.getfield 16, 3) := by decide +kernel
theorem dX10_findWays_56 : decode cX10_findWays 56 = .ok (.aload_n 0, 1) := by decide +kernel
theorem dX10_findWays_57 : decode cX10_findWays 57 = .ok (.getfield 69, 3) := by decide +kernel
theorem dX10_findWays_60 : decode cX10_findWays 60 = .ok (.bipush 61, 2) := by decide +kernel
theorem dX10_findWays_62 : decode cX10_findWays 62 = .ok (.iload_n 1, 1) := by decide +kernel
theorem dX10_findWays_63 : decode cX10_findWays 63 = .ok (.imul, 1) := by decide +kernel
theorem dX10_findWays_64 : decode cX10_findWays 64 = .ok (.iaload, 1) := by decide +kernel
theorem dX10_findWays_65 : decode cX10_findWays 65 = .ok (.iaload, 1) := by decide +kernel
theorem dX10_findWays_66 : decode cX10_findWays 66 = .ok (.iconst 2, 1) := by decide +kernel
theorem dX10_findWays_67 : decode cX10_findWays 67 = .ok (.if_icmp .ne 13, 3) := by decide +kernel
theorem dX10_findWays_70 : decode cX10_findWays 70 = .ok (.aload_n 0, 1) := by decide +kernel
theorem dX10_findWays_71 : decode cX10_findWays 71 = .ok (.getfield 93, 3) := by decide +kernel
theorem dX10_findWays_74 : decode cX10_findWays 74 = .ok (.iload_n 2, 1) := by decide +kernel
theorem dX10_findWays_75 : decode cX10_findWays 75 = .ok (.iconst 1, 1) := by decide +kernel
theorem dX10_findWays_76 : decode cX10_findWays 76 = .ok (.iastore, 1) := by decide +kernel
theorem dX10_findWays_77 : decode cX10_findWays 77 = .ok (.goto 10, 3) := by decide +kernel
theorem dX10_findWays_80 : decode cX10_findWays 80 = .ok (.aload_n 0, 1) := by decide +kernel
theorem dX10_findWays_81 : decode cX10_findWays 81 = .ok (.getfield 90, 3) := by decide +kernel
theorem dX10_findWays_84 : decode cX10_findWays 84 = .ok (.iload_n 2, 1) := by decide +kernel
theorem dX10_findWays_85 : decode cX10_findWays 85 = .ok (.iconst 1, 1) := by decide +kernel
theorem dX10_findWays_86 : decode cX10_findWays 86 = .ok (.iastore, 1) := by decide +kernel
theorem dX10_findWays_87 : decode cX10_findWays 87 = .ok (.iconst 1, 1) := by decide +kernel
theorem dX10_findWays_88 : decode cX10_findWays 88 = .ok (.istore_n 3, 1) := by decide +kernel
theorem dX10_findWays_89 : decode cX10_findWays 89 = .ok (.iload_n 3, 1) := by decide +kernel
theorem dX10_findWays_90 : decode cX10_findWays 90 = .ok (.aload_n 0, 1) := by decide +kernel
theorem dX10_findWays_91 : decode cX10_findWays 91 = .ok (.getfield 66, 3) := by decide +kernel
theorem dX10_findWays_94 : decode cX10_findWays 94 = .ok (.iload_n 1, 1) := by decide +kernel
theorem dX10_findWays_95 : decode cX10_findWays 95 = .ok (.iaload, 1) := by decide +kernel
theorem dX10_findWays_96 : decode cX10_findWays 96 = .ok (.if_icmp .ge 28, 3) := by decide +kernel
theorem dX10_findWays_99 : decode cX10_findWays 99 = .ok (.aload_n 0, 1) := by decide +kernel
theorem dX10_findWays_100 : decode cX10_findWays 100 = .ok (.iload_n 1, 1) := by decide +kernel
theorem dX10_findWays_101 : decode cX10_findWays 101 = .ok (.iload_n 3, 1) := by decide +kernel
theorem dX10_findWays_102 : decode cX10_findWays 102 = .ok (.aload_n 0, 1) := by decide +kernel
theorem dX10_findWays_103 : decode cX10_findWays 103 = .ok (.getfield 63, 3) := by decide +kernel
theorem dX10_findWays_106 : decode cX10_findWays 106 = .ok (.iload_n 1, 1) := by decide +kernel
theorem dX10_findWays_107 : decode cX10_findWays 107 = .ok (.iaload, 1) := by decide +kernel
theorem dX10_findWays_108 : decode cX10_findWays 108 = .ok (.iload_n 3, 1) := by decide +kernel
theorem dX10_findWays_109 : decode cX10_findWays 109 = .ok (.iadd, 1) := by decide +kernel
theorem dX10_findWays_110 : decode cX10_findWays 110 = .ok (.iconst 1, 1) := by decide +kernel
theorem dX10_findWays_111 : decode cX10_findWays 111 = .ok (.isub, 1) := by decide +kernel
theorem dX10_findWays_112 : decode cX10_findWays 112 = .ok (.bipush 24, 2) := by decide +kernel
theorem dX10_findWays_114 : decode cX10_findWays 114 = .ok (.irem, 1) := by decide +kernel
theorem dX10_findWays_115 : decode cX10_findWays 115 = .ok (.invokevirtual 184, 3) := by decide +kernel
theorem dX10_findWays_118 : decode cX10_findWays 118 = .ok (.iinc 3 1, 3) := by decide +kernel
theorem dX10_findWays_121 : decode cX10_findWays 121 = .ok (.goto (-32), 3) := by decide +kernel
theorem dX10_findWays_124 : decode cX10_findWays 124 = .ok (.aload_n 0, 1) := by decide +kernel
theorem dX10_findWays_125 : decode cX10_findWays 125 = .ok (.iconst 0, 1) := by decide +kernel
theorem dX10_findWays_126 : decode cX10_findWays 126 = .ok (.putfield 188, 3) := by decide +kernel
theorem dX10_findWays_129 : decode cX10_findWays 129 = .ok (.aload_n 0, 1) := by decide +kernel
theorem dX10_findWays_130 : decode cX10_findWays 130 = .ok (.iconst 0, 1) := by decide +kernel
theorem dX10_findWays_131 : decode cX10_findWays 131 = .ok (.putfield 191, 3) := by decide +kernel
theorem dX10_findWays_134 : decode cX10_findWays 134 = .ok (.iconst 0, 1) := by decide +kernel
theorem dX10_findWays_135 : decode cX10_findWays 135 = .ok (.istore_n 3, 1) := by decide +kernel
theorem dX10_findWays_136 : decode cX10_findWays 136 = .ok (.iload_n 3, 1) := by decide +kernel
theorem dX10_findWays_137 : decode cX10_findWays 137 = .ok (.sipush 4608, 3) := by decide +kernel
theorem dX10_findWays_140 : decode cX10_findWays 140 = .ok (.if_icmp .ge 43, 3) := by decide +kernel
theorem dX10_findWays_143 : decode cX10_findWays 143 = .ok (.aload_n 0, 1) := by decide +kernel
theorem dX10_findWays_144 : decode cX10_findWays 144 = .ok (.aload_n 0, 1) := by decide +kernel
theorem dX10_findWays_145 : decode cX10_findWays 145 = .ok (.getfield 188, 3) := by decide +kernel
theorem dX10_findWays_148 : decode cX10_findWays 148 = .ok (.aload_n 0, 1) := by decide +kernel
theorem dX10_findWays_149 : decode cX10_findWays 149 = .ok (.getfield 90, 3) := by decide +kernel
theorem dX10_findWays_152 : decode cX10_findWays 152 = .ok (.iload_n 3, 1) := by decide +kernel
theorem dX10_findWays_153 : decode cX10_findWays 153 = .ok (.iaload, 1) := by decide +kernel
theorem dX10_findWays_154 : decode cX10_findWays 154 = .ok (.invokestatic 194, 3) := by decide +kernel
theorem dX10_findWays_157 : decode cX10_findWays 157 = .ok (.putfield 188, 3) := by decide +kernel
theorem dX10_findWays_160 : decode cX10_findWays 160 = .ok (.aload_n 0, 1) := by decide +kernel
theorem dX10_findWays_161 : decode cX10_findWays 161 = .ok (.aload_n 0, 1) := by decide +kernel
theorem dX10_findWays_162 : decode cX10_findWays 162 = .ok (.getfield 191, 3) := by decide +kernel
theorem dX10_findWays_165 : decode cX10_findWays 165 = .ok (.aload_n 0, 1) := by decide +kernel
theorem dX10_findWays_166 : decode cX10_findWays 166 = .ok (.getfield 93, 3) := by decide +kernel
theorem dX10_findWays_169 : decode cX10_findWays 169 = .ok (.iload_n 3, 1) := by decide +kernel
theorem dX10_findWays_170 : decode cX10_findWays 170 = .ok (.iaload, 1) := by decide +kernel
theorem dX10_findWays_171 : decode cX10_findWays 171 = .ok (.invokestatic 194, 3) := by decide +kernel
theorem dX10_findWays_174 : decode cX10_findWays 174 = .ok (.putfield 191, 3) := by decide +kernel
theorem dX10_findWays_177 : decode cX10_findWays 177 = .ok (.iinc 3 1, 3) := by decide +kernel
theorem dX10_findWays_180 : decode cX10_findWays 180 = .ok (.goto (-44), 3) := by decide +kernel
theorem dX10_findWays_183 : decode cX10_findWays 183 = .ok (.return_, 1) := by decide +kernel
set_option maxRecDepth 20000 in
theorem ggX10_goOn_X10_led : GoodIn wsX10_goOn wsX10_led := goodIn_r _ [13, 14, 15, 16, 17, 12, 18, 19, 20, 21, 22, 23, 24, 25, 26, 27, 32, 33, 34, 35, 36, 37, 38, 39, 40, 41, 42, 43, 44, 45, 46, 47, 48, 49, 50, 51, 52, 53, 54, 55, 56, 57, 58, 59, 60, 61, 62, 63, 64, 65, 66, 67, 68, 69, 70, 71, 72, 73, 74] (by decide +kernel) (by decide +kernel)
set_option maxRecDepth 20000 in
theorem gX10_goOn_X10_led : GoodIn wsX10_goOn (wsV RX10 144 RX10 yX10_led wsX10_led) := goodIn_app (goodIn_of _ (by decide +kernel)) ggX10_goOn_X10_led
set_option maxRecDepth 20000 in
theorem ggX10_goOn_X10_sum : GoodIn wsX10_goOn wsX10_sum := goodIn_r _ [30, 31] (by decide +kernel) (by decide +kernel)
set_option maxRecDepth 20000 in
theorem gX10_goOn_X10_sum : GoodIn wsX10_goOn (va_wsS RX10 194 yX10_sum wsX10_sum) := goodIn_app (goodIn_of _ (by decide +kernel)) ggX10_goOn_X10_sum
theorem dX10_goOn_0 : decode cX10_goOn 0 = .ok (.iconst 0, 1) := by decide +kernel
theorem dX10_goOn_1 : decode cX10_goOn 1 = .ok (.istore 4, 2) := by decide +kernel
theorem dX10_goOn_3 : decode cX10_goOn 3 = .ok (.iload 4, 2) := by decide +kernel
theorem dX10_goOn_5 : decode cX10_goOn 5 = .ok (.sipush 4608, 3) := by decide +kernel
theorem dX10_goOn_8 : decode cX10_goOn 8 = .ok (.if_icmp .ge 25, 3) := by decide +kernel
theorem dX10_goOn_11 : decode cX10_goOn 11 = .ok (.aload_n 0, 1) := by decide +kernel
theorem dX10_goOn_12 : decode cX10_goOn 12 = .ok (.getfield 96, 3) := by decide +kernel
theorem dX10_goOn_15 : decode cX10_goOn 15 = .ok (.iload 4, 2) := by decide +kernel
theorem dX10_goOn_17 : decode cX10_goOn 17 = .ok (.iconst 0, 1) := by decide +kernel
theorem dX10_goOn_18 : decode cX10_goOn 18 = .ok (.iastore, 1) := by decide +kernel
theorem dX10_goOn_19 : decode cX10_goOn 19 = .ok (.aload_n 0, 1) := by decide +kernel
theorem dX10_goOn_20 : decode cX10_goOn 20 = .ok (.getfield 99, 3) := by decide +kernel
theorem dX10_goOn_23 : decode cX10_goOn 23 = .ok (.iload 4, 2) := by decide +kernel
theorem dX10_goOn_25 : decode cX10_goOn 25 = .ok (.iconst 0, 1) := by decide +kernel
theorem dX10_goOn_26 : decode cX10_goOn 26 = .ok (.iastore, 1) := by decide +kernel
theorem dX10_goOn_27 : decode cX10_goOn 27 = .ok (.iinc 4 1, 3) := by decide +kernel
theorem dX10_goOn_30 : decode cX10_goOn 30 = .ok (.goto (-27), 3) := by decide +kernel
theorem dX10_goOn_33 : decode cX10_goOn 33 = .ok (.iconst 0, 1) := by decide +kernel
theorem dX10_goOn_34 : decode cX10_goOn 34 = .ok (.istore 4, 2) := by decide +kernel
theorem dX10_goOn_36 : decode cX10_goOn 36 = .ok (.iload 4, 2) := by decide +kernel
theorem dX10_goOn_38 : decode cX10_goOn 38 = .ok (.sipush 4608, 3) := by decide +kernel
theorem dX10_goOn_41 : decode cX10_goOn 41 = .ok (.if_icmp .ge 301, 3) := by decide +kernel
theorem dX10_goOn_44 : decode cX10_goOn 44 = .ok (.iload 4, 2) := by decide +kernel
theorem dX10_goOn_46 : decode cX10_goOn 46 = .ok (.bipush 8, 2) := by decide +kernel
theorem dX10_goOn_48 : decode cX10_goOn 48 = .ok (.irem, 1) := by decide +kernel
theorem dX10_goOn_49 : decode cX10_goOn 49 = .ok (.istore 5, 2) := by decide +kernel
theorem dX10_goOn_51 : decode cX10_goOn 51 = .ok (.iload 5, 2) := by decide +kernel
theorem dX10_goOn_53 : decode cX10_goOn 53 = .ok (.ifCond .le 283, 3) := by decide +kernel
theorem dX10_goOn_56 : decode cX10_goOn 56 = .ok (.aload_n 0, 1) := by decide +kernel
theorem dX10_goOn_57 : decode cX10_goOn 57 = .ok (.getfield 90, 3) := by decide +kernel
theorem dX10_goOn_60 : decode cX10_goOn 60 = .ok (.iload 4, 2) := by decide +kernel
theorem dX10_goOn_62 : decode cX10_goOn 62 = .ok (.iaload, 1) := by decide +kernel
theorem dX10_goOn_63 : decode cX10_goOn 63 = .ok (.ifCond .gt 13, 3) := by decide +kernel
theorem dX10_goOn_66 : decode cX10_goOn 66 = .ok (.aload_n 0, 1) := by decide +kernel
theorem dX10_goOn_67 : decode cX10_goOn 67 = .ok (.getfield 93, 3) := by decide +kernel
theorem dX10_goOn_70 : decode cX10_goOn 70 = .ok (.iload 4, 2) := by decide +kernel
theorem dX10_goOn_72 : decode cX10_goOn 72 = .ok (.iaload, 1) := by decide +kernel
theorem dX10_goOn_73 : decode cX10_goOn 73 = .ok (.ifCond .le 263, 3) := by decide +kernel
theorem dX10_goOn_76 : decode cX10_goOn 76 = .ok (.iload 4, 2) := by decide +kernel
theorem dX10_goOn_78 : decode cX10_goOn 78 = .ok (.bipush 8, 2) := by decide +kernel
theorem dX10_goOn_80 : decode cX10_goOn 80 = .ok (.idiv, 1) := by decide +kernel
theorem dX10_goOn_81 : decode cX10_goOn 81 = .ok (.istore 6, 2) := by decide +kernel
theorem dX10_goOn_83 : decode cX10_goOn 83 = .ok (.iload 5, 2) := by decide +kernel
theorem dX10_goOn_85 : decode cX10_goOn 85 = .ok (.iconst 1, 1) := by decide +kernel
theorem dX10_goOn_86 : decode cX10_goOn 86 = .ok (.isub, 1) := by decide +kernel
theorem dX10_goOn_87 : decode cX10_goOn 87 = .ok (.istore 7, 2) := by decide +kernel
theorem dX10_goOn_89 : decode cX10_goOn 89 = .ok (.iload 7, 2) := by decide +kernel
theorem dX10_goOn_91 : decode cX10_goOn 91 = .ok (.iload 5, 2) := by decide +kernel
theorem dX10_goOn_93 : decode cX10_goOn 93 = .ok (.iconst 1, 1) := by decide +kernel
theorem dX10_goOn_94 : decode cX10_goOn 94 = .ok (.iadd, 1) := by decide +kernel
theorem dX10_goOn_95 : decode cX10_goOn 95 = .ok (.if_icmp .gt 241, 3) := by decide +kernel
theorem dX10_goOn_98 : decode cX10_goOn 98 = .ok (.iload 7, 2) := by decide +kernel
theorem dX10_goOn_100 : decode cX10_goOn 100 = .ok (.bipush 8, 2) := by decide +kernel
theorem dX10_goOn_102 : decode cX10_goOn 102 = .ok (.if_icmp .ge 234, 3) := by decide +kernel
theorem dX10_goOn_105 : decode cX10_goOn 105 = .ok (.iload 7, 2) := by decide +kernel
theorem dX10_goOn_107 : decode cX10_goOn 107 = .ok (.ifCond .ne 8, 3) := by decide +kernel
theorem dX10_goOn_110 : decode cX10_goOn 110 = .ok (.iload 6, 2) := by decide +kernel
theorem dX10_goOn_112 : decode cX10_goOn 112 = .ok (.goto 21, 3) := by decide +kernel
theorem dX10_goOn_115 : decode cX10_goOn 115 = .ok (.aload_n 0, 1) := by decide +kernel
theorem dX10_goOn_116 : decode cX10_goOn 116 = .ok (.iconst 0, 1) := by decide +kernel
theorem dX10_goOn_117 : decode cX10_goOn 117 = .ok (.iload 7, 2) := by decide +kernel
theorem dX10_goOn_119 : decode cX10_goOn 119 = .ok (.iload_n 3, 1) := by decide +kernel
theorem dX10_goOn_120 : decode cX10_goOn 120 = .ok (.iload 6, 2) := by decide +kernel
theorem dX10_goOn_122 : decode cX10_goOn 122 = .ok (.bipush 24, 2) := by decide +kernel
theorem dX10_goOn_124 : decode cX10_goOn 124 = .ok (.irem, 1) := by decide +kernel
theorem dX10_goOn_125 : decode cX10_goOn 125 = .ok (.iload 6, 2) := by decide +kernel
theorem dX10_goOn_127 : decode cX10_goOn 127 = .ok (.bipush 24, 2) := by decide +kernel
theorem dX10_goOn_129 : decode cX10_goOn 129 = .ok (.idiv, 1) := by decide +kernel
theorem dX10_goOn_130 : decode cX10_goOn 130 = .ok (.invokevirtual 144, 3) := by decide +kernel
theorem dX10_goOn_133 : decode cX10_goOn 133 = .ok (.istore 8, 2) := by decide +kernel
theorem dX10_goOn_135 : decode cX10_goOn 135 = .ok (.aload_n 0, 1) := by decide +kernel
theorem dX10_goOn_136 : decode cX10_goOn 136 = .ok (.getfield 75, 3) := by decide +kernel
theorem dX10_goOn_139 : decode cX10_goOn 139 = .ok (.bipush 61, 2) := by decide +kernel
theorem dX10_goOn_141 : decode cX10_goOn 141 = .ok (.iload_n 1, 1) := by decide +kernel
theorem dX10_goOn_142 : decode cX10_goOn 142 = .ok (.imul, 1) := by decide +kernel
theorem dX10_goOn_143 : decode cX10_goOn 143 = .ok (.iload_n 2, 1) := by decide +kernel
theorem dX10_goOn_144 : decode cX10_goOn 144 = .ok (.iadd, 1) := by decide +kernel
theorem dX10_goOn_145 : decode cX10_goOn 145 = .ok (.baload, 1) := by decide +kernel
theorem dX10_goOn_146 : decode cX10_goOn 146 = .ok (.ifCond .ne 35, 3) := by decide +kernel
theorem dX10_goOn_149 : decode cX10_goOn 149 = .ok (.aload_n 0, 1) := by decide +kernel
theorem dX10_goOn_150 : decode cX10_goOn 150 = .ok (.getfield 69, 3) := by decide +kernel
theorem dX10_goOn_153 : decode cX10_goOn 153 = .ok (.bipush 61, 2) := by decide +kernel
theorem dX10_goOn_155 : decode cX10_goOn 155 = .ok (.iload_n 1, 1) := by decide +kernel
theorem dX10_goOn_156 : decode cX10_goOn 156 = .ok (.imul, 1) := by decide +kernel
theorem dX10_goOn_157 : decode cX10_goOn 157 = .ok (.iload_n 2, 1) := by decide +kernel
theorem dX10_goOn_158 : decode cX10_goOn 158 = .ok (.iadd, 1) := by decide +kernel
theorem dX10_goOn_159 : decode cX10_goOn 159 = .ok (.iaload, 1) := by decide +kernel
theorem dX10_goOn_160 : decode cX10_goOn 160 = .ok (.iload 8, 2) := by decide +kernel
theorem dX10_goOn_162 : decode cX10_goOn 162 = .ok (.if_icmp .ne 23, 3) := by decide +kernel
theorem dX10_goOn_165 : decode cX10_goOn 165 = .ok (.aload_n 0, 1) := by decide +kernel
theorem dX10_goOn_166 : decode cX10_goOn 166 = .ok (.getfield 72, 3) := by decide +kernel
theorem dX10_goOn_169 : decode cX10_goOn 169 = .ok (.bipush 61, 2) := by decide +kernel
theorem dX10_goOn_171 : decode cX10_goOn 171 = .ok (.iload_n 1, 1) := by decide +kernel
theorem dX10_goOn_172 : decode cX10_goOn 172 = .ok (.imul, 1) := by decide +kernel
theorem dX10_goOn_173 : decode cX10_goOn 173 = .ok (.iload_n 2, 1) := by decide +kernel
theorem dX10_goOn_174 : decode cX10_goOn 174 = .ok (.iadd, 1) := by decide +kernel
theorem dX10_goOn_175 : decode cX10_goOn 175 = .ok (.iaload, 1) := by decide +kernel
theorem dX10_goOn_176 : decode cX10_goOn 176 = .ok (.iload 7, 2) := by decide +kernel
theorem dX10_goOn_178 : decode cX10_goOn 178 = .ok (.if_icmp .ne 7, 3) := by decide +kernel
theorem dX10_goOn_181 : decode cX10_goOn 181 = .ok (.iconst 1, 1) := by decide +kernel
theorem dX10_goOn_182 : decode cX10_goOn 182 = .ok (.goto 4, 3) := by decide +kernel
theorem dX10_goOn_185 : decode cX10_goOn 185 = .ok (.iconst 0, 1) := by decide +kernel
theorem dX10_goOn_186 : decode cX10_goOn 186 = .ok (.istore 9, 2) := by decide +kernel
theorem dX10_goOn_188 : decode cX10_goOn 188 = .ok (.iload 9, 2) := by decide +kernel
theorem dX10_goOn_190 : decode cX10_goOn 190 = .ok (.ifCond .eq 63, 3) := by decide +kernel
theorem dX10_goOn_193 : decode cX10_goOn 193 = .ok (.aload_n 0, 1) := by decide +kernel
theorem dX10_goOn_194 : decode cX10_goOn 194 = .ok (.getfield 16, 3) := by decide +kernel
theorem dX10_goOn_197 : decode cX10_goOn 197 = .ok (.iload 8, 2) := by decide +kernel
theorem dX10_goOn_199 : decode cX10_goOn 199 = .ok (.iaload, 1) := by decide +kernel
theorem dX10_goOn_200 : decode cX10_goOn 200 = .ok (.iconst 2, 1) := by decide +kernel
theorem dX10_goOn_201 : decode cX10_goOn 201 = .ok (.if_icmp .ne 52, 3) := by decide +kernel
theorem dX10_goOn_204 : decode cX10_goOn 204 = .ok (.aload_n 0, 1) := by decide +kernel
theorem dX10_goOn_205 : decode cX10_goOn 205 = .ok (.getfield 99, 3) := by decide +kernel
theorem dX10_goOn_208 : decode cX10_goOn 208 = .ok (.bipush 8, 2) := by decide +kernel
theorem dX10_goOn_210 : decode cX10_goOn 210 = .ok (.iload 8, 2) := by decide +kernel
theorem dX10_goOn_212 : decode cX10_goOn 212 = .ok (.imul, 1) := by decide +kernel
theorem dX10_goOn_213 : decode cX10_goOn 213 = .ok (.iload 7, 2) := by decide +kernel
theorem dX10_goOn_215 : decode cX10_goOn 215 = .ok (.iadd, 1) := by decide +kernel
theorem dX10_goOn_216 : decode cX10_goOn 216 = .ok (.aload_n 0, 1) := by decide +kernel
theorem dX10_goOn_217 : decode cX10_goOn 217 = .ok (.getfield 99, 3) := by decide +kernel
theorem dX10_goOn_220 : decode cX10_goOn 220 = .ok (.bipush 8, 2) := by decide +kernel
theorem dX10_goOn_222 : decode cX10_goOn 222 = .ok (.iload 8, 2) := by decide +kernel
theorem dX10_goOn_224 : decode cX10_goOn 224 = .ok (.imul, 1) := by decide +kernel
theorem dX10_goOn_225 : decode cX10_goOn 225 = .ok (.iload 7, 2) := by decide +kernel
theorem dX10_goOn_227 : decode cX10_goOn 227 = .ok (.iadd, 1) := by decide +kernel
theorem dX10_goOn_228 : decode cX10_goOn 228 = .ok (.iaload, 1) := by decide +kernel
theorem dX10_goOn_229 : decode cX10_goOn 229 = .ok (.aload_n 0, 1) := by decide +kernel
theorem dX10_goOn_230 : decode cX10_goOn 230 = .ok (.getfield 90, 3) := by decide +kernel
theorem dX10_goOn_233 : decode cX10_goOn 233 = .ok (.iload 4, 2) := by decide +kernel
theorem dX10_goOn_235 : decode cX10_goOn 235 = .ok (.iaload, 1) := by decide +kernel
theorem dX10_goOn_236 : decode cX10_goOn 236 = .ok (.aload_n 0, 1) := by decide +kernel
theorem dX10_goOn_237 : decode cX10_goOn 237 = .ok (.getfield 93, 3) := by decide +kernel
theorem dX10_goOn_240 : decode cX10_goOn 240 = .ok (.iload 4, 2) := by decide +kernel
theorem dX10_goOn_242 : decode cX10_goOn 242 = .ok (.iaload, 1) := by decide +kernel
theorem dX10_goOn_243 : decode cX10_goOn 243 = .ok (.invokestatic 194, 3) := by decide +kernel
theorem dX10_goOn_246 : decode cX10_goOn 246 = .ok (.invokestatic 194, 3) := by decide +kernel
theorem dX10_goOn_249 : decode cX10_goOn 249 = .ok (.iastore, 1) := by decide +kernel
theorem dX10_goOn_250 : decode cX10_goOn 250 = .ok (.goto 80, 3) := by decide +kernel
theorem dX10_goOn_253 : decode cX10_goOn 253 = .ok (.iload 9, 2) := by decide +kernel
theorem dX10_goOn_255 : decode cX10_goOn 255 = .ok (.ifCond .eq 75, 3) := by decide +kernel
theorem dX10_goOn_258 : decode cX10_goOn 258 = .ok (.aload_n 0, 1) := by decide +kernel
theorem dX10_goOn_259 : decode cX10_goOn 259 = .ok (.getfield 96, 3) := by decide +kernel
theorem dX10_goOn_262 : decode cX10_goOn 262 = .ok (.bipush 8, 2) := by decide +kernel
theorem dX10_goOn_264 : decode cX10_goOn 264 = .ok (.iload 8, 2) := by decide +kernel
theorem dX10_goOn_266 : decode cX10_goOn 266 = .ok (.imul, 1) := by decide +kernel
theorem dX10_goOn_267 : decode cX10_goOn 267 = .ok (.iload 7, 2) := by decide +kernel
theorem dX10_goOn_269 : decode cX10_goOn 269 = .ok (.iadd, 1) := by decide +kernel
theorem dX10_goOn_270 : decode cX10_goOn 270 = .ok (.aload_n 0, 1) := by decide +kernel
theorem dX10_goOn_271 : decode cX10_goOn 271 = .ok (.getfield 96, 3) := by decide +kernel
theorem dX10_goOn_274 : decode cX10_goOn 274 = .ok (.bipush 8, 2) := by decide +kernel
theorem dX10_goOn_276 : decode cX10_goOn 276 = .ok (.iload 8, 2) := by decide +kernel
theorem dX10_goOn_278 : decode cX10_goOn 278 = .ok (.imul, 1) := by decide +kernel
theorem dX10_goOn_279 : decode cX10_goOn 279 = .ok (.iload 7, 2) := by decide +kernel
theorem dX10_goOn_281 : decode cX10_goOn 281 = .ok (.iadd, 1) := by decide +kernel
theorem dX10_goOn_282 : decode cX10_goOn 282 = .ok (.iaload, 1) := by decide +kernel
theorem dX10_goOn_283 : decode cX10_goOn 283 = .ok (.aload_n 0, 1) := by decide +kernel
theorem dX10_goOn_284 : decode cX10_goOn 284 = .ok (.getfield 90, 3) := by decide +kernel
theorem dX10_goOn_287 : decode cX10_goOn 287 = .ok (.iload 4, 2) := by decide +kernel
theorem dX10_goOn_289 : decode cX10_goOn 289 = .ok (.iaload, 1) := by decide +kernel
theorem dX10_goOn_290 : decode cX10_goOn 290 = .ok (.invokestatic 194, 3) := by decide +kernel
theorem dX10_goOn_293 : decode cX10_goOn 293 = .ok (.iastore, 1) := by decide +kernel
theorem dX10_goOn_294 : decode cX10_goOn 294 = .ok (.aload_n 0, 1) := by decide +kernel
theorem dX10_goOn_295 : decode cX10_goOn 295 = .ok (.getfield 99, 3) := by decide +kernel
theorem dX10_goOn_298 : decode cX10_goOn 298 = .ok (.bipush 8, 2) := by decide +kernel
theorem dX10_goOn_300 : decode cX10_goOn 300 = .ok (.iload 8, 2) := by decide +kernel
theorem dX10_goOn_302 : decode cX10_goOn 302 = .ok (.imul, 1) := by decide +kernel
theorem dX10_goOn_303 : decode cX10_goOn 303 = .ok (.iload 7, 2) := by decide +kernel
theorem dX10_goOn_305 : decode cX10_goOn 305 = .ok (.iadd, 1) := by decide +kernel
end
section
theorem dX10_goOn_306 : decode cX10_goOn 306 = .ok (.aload_n 0, 1) := by decide +kernel
theorem dX10_goOn_307 : decode cX10_goOn 307 = .ok (.getfield 99, 3) := by decide +kernel
theorem dX10_goOn_310 : decode cX10_goOn 310 = .ok (.bipush 8, 2) := by decide +kernel
theorem dX10_goOn_312 : decode cX10_goOn 312 = .ok (.iload 8, 2) := by decide +kernel
theorem dX10_goOn_314 : decode cX10_goOn 314 = .ok (.imul, 1) := by decide +kernel
theorem dX10_goOn_315 : decode cX10_goOn 315 = .ok (.iload 7, 2) := by decide +kernel
theorem dX10_goOn_317 : decode cX10_goOn 317 = .ok (.iadd, 1) := by decide +kernel
theorem dX10_goOn_318 : decode cX10_goOn 318 = .ok (.iaload, 1) := by decide +kernel
theorem dX10_goOn_319 : decode cX10_goOn 319 = .ok (.aload_n 0, 1) := by decide +kernel
theorem dX10_goOn_320 : decode cX10_goOn 320 = .ok (.getfield 93, 3) := by decide +kernel
theorem dX10_goOn_323 : decode cX10_goOn 323 = .ok (.iload 4, 2) := by decide +kernel
theorem dX10_goOn_325 : decode cX10_goOn 325 = .ok (.iaload, 1) := by decide +kernel
theorem dX10_goOn_326 : decode cX10_goOn 326 = .ok (.invokestatic 194, 3) := by decide +kernel
theorem dX10_goOn_329 : decode cX10_goOn 329 = .ok (.iastore, 1) := by decide +kernel
theorem dX10_goOn_330 : decode cX10_goOn 330 = .ok (.iinc 7 1, 3) := by decide +kernel
theorem dX10_goOn_333 : decode cX10_goOn 333 = .ok (.goto (-244), 3) := by decide +kernel
theorem dX10_goOn_336 : decode cX10_goOn 336 = .ok (.iinc 4 1, 3) := by decide +kernel
theorem dX10_goOn_339 : decode cX10_goOn 339 = .ok (.goto (-303), 3) := by decide +kernel
theorem dX10_goOn_342 : decode cX10_goOn 342 = .ok (.iconst 0, 1) := by decide +kernel
theorem dX10_goOn_343 : decode cX10_goOn 343 = .ok (.istore 4, 2) := by decide +kernel
theorem dX10_goOn_345 : decode cX10_goOn 345 = .ok (.iload 4, 2) := by decide +kernel
theorem dX10_goOn_347 : decode cX10_goOn 347 = .ok (.sipush 4608, 3) := by decide +kernel
theorem dX10_goOn_350 : decode cX10_goOn 350 = .ok (.if_icmp .ge 37, 3) := by decide +kernel
theorem dX10_goOn_353 : decode cX10_goOn 353 = .ok (.aload_n 0, 1) := by decide +kernel
theorem dX10_goOn_354 : decode cX10_goOn 354 = .ok (.getfield 90, 3) := by decide +kernel
theorem dX10_goOn_357 : decode cX10_goOn 357 = .ok (.iload 4, 2) := by decide +kernel
theorem dX10_goOn_359 : decode cX10_goOn 359 = .ok (.aload_n 0, 1) := by decide +kernel
theorem dX10_goOn_360 : decode cX10_goOn 360 = .ok (.getfield 96, 3) := by decide +kernel
theorem dX10_goOn_363 : decode cX10_goOn 363 = .ok (.iload 4, 2) := by decide +kernel
theorem dX10_goOn_365 : decode cX10_goOn 365 = .ok (.iaload, 1) := by decide +kernel
theorem dX10_goOn_366 : decode cX10_goOn 366 = .ok (.iastore, 1) := by decide +kernel
theorem dX10_goOn_367 : decode cX10_goOn 367 = .ok (.aload_n 0, 1) := by decide +kernel
theorem dX10_goOn_368 : decode cX10_goOn 368 = .ok (.getfield 93, 3) := by decide +kernel
theorem dX10_goOn_371 : decode cX10_goOn 371 = .ok (.iload 4, 2) := by decide +kernel
theorem dX10_goOn_373 : decode cX10_goOn 373 = .ok (.aload_n 0, 1) := by decide +kernel
theorem dX10_goOn_374 : decode cX10_goOn 374 = .ok (.getfield 99, 3) := by decide +kernel
theorem dX10_goOn_377 : decode cX10_goOn 377 = .ok (.iload 4, 2) := by decide +kernel
theorem dX10_goOn_379 : decode cX10_goOn 379 = .ok (.iaload, 1) := by decide +kernel
theorem dX10_goOn_380 : decode cX10_goOn 380 = .ok (.iastore, 1) := by decide +kernel
theorem dX10_goOn_381 : decode cX10_goOn 381 = .ok (.iinc 4 1, 3) := by decide +kernel
theorem dX10_goOn_384 : decode cX10_goOn 384 = .ok (.goto (-39), 3) := by decide +kernel
theorem dX10_goOn_387 : decode cX10_goOn 387 = .ok (.return_, 1) := by decide +kernel
set_option maxRecDepth 20000 in
theorem ggX10_judged_X10_findWays : GoodIn wsX10_judged wsX10_findWays := goodIn_r _ [7, 8, 9, 10, 11, 12, 13, 14, 1, 2, 15, 16, 17, 6, 18, 19, 20, 21, 22, 23, 24, 25, 26, 27, 28, 29, 30, 31, 32, 33, 34, 35, 36, 37, 38, 39, 40, 41, 42, 43, 44, 45, 46, 47, 48, 49, 50, 51, 52, 53, 54, 55, 56, 57, 58, 59, 60, 61, 62, 63, 64, 65, 66, 67, 68, 69, 70, 71, 72, 73, 74, 75, 76, 77, 78, 79, 80, 81, 82, 83, 84, 85, 86] (by decide +kernel) (by decide +kernel)
set_option maxRecDepth 20000 in
theorem gX10_judged_X10_findWays : GoodIn wsX10_judged (wsV RX10 197 RX10 yX10_findWays wsX10_findWays) := goodIn_app (goodIn_of _ (by decide +kernel)) ggX10_judged_X10_findWays
theorem dX10_judged_0 : decode cX10_judged 0 = .ok (.aload_n 0, 1) := by decide +kernel
theorem dX10_judged_1 : decode cX10_judged 1 = .ok (.iload_n 1, 1) := by decide +kernel
theorem dX10_judged_2 : decode cX10_judged 2 = .ok (.invokevirtual 197, 3) := by decide +kernel
theorem dX10_judged_5 : decode cX10_judged 5 = .ok (.aload_n 0, 1) := by decide +kernel
theorem dX10_judged_6 : decode cX10_judged 6 = .ok (.getfield 188, 3) := by decide +kernel
theorem dX10_judged_9 : decode cX10_judged 9 = .ok (.ifCond .le 14, 3) := by decide +kernel
theorem dX10_judged_12 : decode cX10_judged 12 = .ok (.aload_n 0, 1) := by decide +kernel
theorem dX10_judged_13 : decode cX10_judged 13 = .ok (.getfield 191, 3) := by decide +kernel
theorem dX10_judged_16 : decode cX10_judged 16 = .ok (.ifCond .ne 7, 3) := by decide +kernel
theorem dX10_judged_19 : decode cX10_judged 19 = .ok (.iconst 0, 1) := by decide +kernel
theorem dX10_judged_20 : decode cX10_judged 20 = .ok (.goto 22, 3) := by decide +kernel
theorem dX10_judged_23 : decode cX10_judged 23 = .ok (.aload_n 0, 1) := by decide +kernel
theorem dX10_judged_24 : decode cX10_judged 24 = .ok (.getfield 188, 3) := by decide +kernel
theorem dX10_judged_27 : decode cX10_judged 27 = .ok (.ifCond .ne 14, 3) := by decide +kernel
theorem dX10_judged_30 : decode cX10_judged 30 = .ok (.aload_n 0, 1) := by decide +kernel
theorem dX10_judged_31 : decode cX10_judged 31 = .ok (.getfield 191, 3) := by decide +kernel
theorem dX10_judged_34 : decode cX10_judged 34 = .ok (.ifCond .le 7, 3) := by decide +kernel
theorem dX10_judged_37 : decode cX10_judged 37 = .ok (.iconst 2, 1) := by decide +kernel
theorem dX10_judged_38 : decode cX10_judged 38 = .ok (.goto 4, 3) := by decide +kernel
theorem dX10_judged_41 : decode cX10_judged 41 = .ok (.iconst 1, 1) := by decide +kernel
theorem dX10_judged_42 : decode cX10_judged 42 = .ok (.ireturn, 1) := by decide +kernel
set_option maxRecDepth 20000 in
theorem ggX10_judge_X10_isFlight : GoodIn wsX10_judge wsX10_isFlight := goodIn_r _ [5, 6, 7, 8, 4, 9, 53, 54, 55, 56, 57, 58, 59, 60, 61, 62, 63, 64, 65, 66, 67, 68, 69, 70, 71, 72, 73, 74, 75, 76, 77, 78, 79, 80, 81, 82, 83, 84, 85, 86, 87, 88, 89, 90, 91, 92, 93, 94, 95] (by decide +kernel) (by decide +kernel)
set_option maxRecDepth 20000 in
theorem gX10_judge_X10_isFlight : GoodIn wsX10_judge (wsV RX10 152 RX10 yX10_isFlight wsX10_isFlight) := goodIn_app (goodIn_of _ (by decide +kernel)) ggX10_judge_X10_isFlight
set_option maxRecDepth 20000 in
theorem ggX10_judge_X10_judged : GoodIn wsX10_judge wsX10_judged := goodIn_r _ [13, 14, 15, 16, 17, 18, 4, 19, 20, 21, 22, 23, 24, 25, 26, 27, 28, 29, 30, 31, 32, 33, 34, 35, 36, 37, 38, 39, 40, 41, 42, 43, 44, 45, 46, 47, 48, 7, 8, 9, 49, 50, 51, 52, 53, 54, 55, 56, 57, 58, 59, 60, 61, 62, 63, 64, 65, 66, 67, 68, 69, 70, 71, 72, 73, 74, 75, 76, 77, 78, 79, 80, 81, 82, 83, 84, 85, 86, 87, 88, 89, 90, 91, 92, 93, 94, 95] (by decide +kernel) (by decide +kernel)
set_option maxRecDepth 20000 in
theorem gX10_judge_X10_judged : GoodIn wsX10_judge (wsV RX10 200 RX10 yX10_judged wsX10_judged) := goodIn_app (goodIn_of _ (by decide +kernel)) ggX10_judge_X10_judged
theorem dX10_judge_0 : decode cX10_judge 0 = .ok (.aload_n 0, 1) := by decide +kernel
theorem dX10_judge_1 : decode cX10_judge 1 = .ok (.iload_n 1, 1) := by decide +kernel
theorem dX10_judge_2 : decode cX10_judge 2 = .ok (.invokevirtual 152, 3) := by decide +kernel
theorem dX10_judge_5 : decode cX10_judge 5 = .ok (.ifCond .eq 11, 3) := by decide +kernel
theorem dX10_judge_8 : decode cX10_judge 8 = .ok (.aload_n 0, 1) := by decide +kernel
theorem dX10_judge_9 : decode cX10_judge 9 = .ok (.iload_n 1, 1) := by decide +kernel
theorem dX10_judge_10 : decode cX10_judge 10 = .ok (.invokevirtual 200, 3) := by decide +kernel
theorem dX10_judge_13 : decode cX10_judge 13 = .ok (.goto 5, 3) := by decide +kernel
theorem dX10_judge_16 : decode cX10_judge 16 = .ok (.bipush (-2), 2) := by decide +kernel
theorem dX10_judge_18 : decode cX10_judge 18 = .ok (.ireturn, 1) := by decide +kernel
set_option maxRecDepth 20000 in
theorem ggX10_ways_X10_isFlight : GoodIn wsX10_ways wsX10_isFlight := goodIn_r _ [7, 8, 9, 10, 6, 11, 49, 50, 51, 52, 53, 54, 55, 56, 57, 58, 59, 60, 61, 62, 63, 64, 65, 66, 67, 68, 69, 70, 71, 72, 73, 74, 75, 76, 77, 78, 79, 80, 81, 82, 83, 84, 85, 86, 87, 88, 89, 90, 91] (by decide +kernel) (by decide +kernel)
set_option maxRecDepth 20000 in
theorem gX10_ways_X10_isFlight : GoodIn wsX10_ways (wsV RX10 152 RX10 yX10_isFlight wsX10_isFlight) := goodIn_app (goodIn_of _ (by decide +kernel)) ggX10_ways_X10_isFlight
set_option maxRecDepth 20000 in
theorem ggX10_ways_X10_findWays : GoodIn wsX10_ways wsX10_findWays := goodIn_r _ [15, 16, 17, 18, 19, 20, 21, 22, 2, 1, 23, 24, 25, 6, 26, 27, 28, 29, 30, 31, 32, 33, 34, 35, 36, 37, 38, 39, 40, 41, 42, 43, 44, 9, 10, 11, 45, 46, 47, 48, 49, 50, 51, 52, 53, 54, 55, 56, 57, 58, 59, 60, 61, 62, 63, 64, 65, 66, 67, 68, 69, 70, 71, 72, 73, 74, 75, 76, 77, 78, 79, 80, 81, 82, 83, 84, 85, 86, 87, 88, 89, 90, 91] (by decide +kernel) (by decide +kernel)
set_option maxRecDepth 20000 in
theorem gX10_ways_X10_findWays : GoodIn wsX10_ways (wsV RX10 197 RX10 yX10_findWays wsX10_findWays) := goodIn_app (goodIn_of _ (by decide +kernel)) ggX10_ways_X10_findWays
set_option maxRecDepth 20000 in
theorem ggX10_ways_X10_sum : GoodIn wsX10_ways wsX10_sum := goodIn_r _ [47, 48] (by decide +kernel) (by decide +kernel)
set_option maxRecDepth 20000 in
theorem gX10_ways_X10_sum : GoodIn wsX10_ways (va_wsS RX10 194 yX10_sum wsX10_sum) := goodIn_app (goodIn_of _ (by decide +kernel)) ggX10_ways_X10_sum
theorem dX10_ways_0 : decode cX10_ways 0 = .ok (.aload_n 0, 1) := by decide +kernel
theorem dX10_ways_1 : decode cX10_ways 1 = .ok (.iload_n 1, 1) := by decide +kernel
theorem dX10_ways_2 : decode cX10_ways 2 = .ok (.invokevirtual 152, 3) := by decide +kernel
theorem dX10_ways_5 : decode cX10_ways 5 = .ok (.ifCond .ne 6, 3) := by decide +kernel
theorem dX10_ways_8 : decode cX10_ways 8 = .ok (.bipush (-2), 2) := by decide +kernel
theorem dX10_ways_10 : decode cX10_ways 10 = .ok (.ireturn, 1) := by decide +kernel
theorem dX10_ways_11 : decode cX10_ways 11 = .ok (.aload_n 0, 1) := by decide +kernel
theorem dX10_ways_12 : decode cX10_ways 12 = .ok (.iload_n 1, 1) := by decide +kernel
theorem dX10_ways_13 : decode cX10_ways 13 = .ok (.invokevirtual 197, 3) := by decide +kernel
theorem dX10_ways_16 : decode cX10_ways 16 = .ok (.iload_n 2, 1) := by decide +kernel
theorem dX10_ways_17 : decode cX10_ways 17 = .ok (.ifCond .eq 10, 3) := by decide +kernel
theorem dX10_ways_20 : decode cX10_ways 20 = .ok (.aload_n 0, 1) := by decide +kernel
theorem dX10_ways_21 : decode cX10_ways 21 = .ok (.getfield 191, 3) := by decide +kernel
theorem dX10_ways_24 : decode cX10_ways 24 = .ok (.goto 14, 3) := by decide +kernel
theorem dX10_ways_27 : decode cX10_ways 27 = .ok (.aload_n 0, 1) := by decide +kernel
theorem dX10_ways_28 : decode cX10_ways 28 = .ok (.getfield 188, 3) := by decide +kernel
theorem dX10_ways_31 : decode cX10_ways 31 = .ok (.aload_n 0, 1) := by decide +kernel
theorem dX10_ways_32 : decode cX10_ways 32 = .ok (.getfield 191, 3) := by decide +kernel
theorem dX10_ways_35 : decode cX10_ways 35 = .ok (.invokestatic 194, 3) := by decide +kernel
theorem dX10_ways_38 : decode cX10_ways 38 = .ok (.ireturn, 1) := by decide +kernel
set_option maxRecDepth 20000 in
theorem ggX10_chaser_X10_isCell : GoodIn wsX10_chaser wsX10_isCell := goodIn_r _ [10, 11, 12, 13, 14, 9, 15, 16, 17, 18, 19, 20, 21, 22, 23, 24, 25, 26, 27, 28, 29, 30, 31, 32, 33, 34, 35, 36, 37, 38, 39, 40, 41, 42, 43, 44, 45, 46, 47, 48, 49, 50, 51, 52, 53, 54, 55, 56, 57, 58] (by decide +kernel) (by decide +kernel)
set_option maxRecDepth 20000 in
theorem gX10_chaser_X10_isCell : GoodIn wsX10_chaser (wsV RX10 118 RX10 yX10_isCell wsX10_isCell) := goodIn_app (goodIn_of _ (by decide +kernel)) ggX10_chaser_X10_isCell
set_option maxRecDepth 20000 in
theorem ggX10_chaser_X10_in : GoodIn wsX10_chaser wsX10_in := goodIn_r _ [15] (by decide +kernel) (by decide +kernel)
set_option maxRecDepth 20000 in
theorem gX10_chaser_X10_in : GoodIn wsX10_chaser (va_wsS RX10 108 yX10_in wsX10_in) := goodIn_app (goodIn_of _ (by decide +kernel)) ggX10_chaser_X10_in
theorem dX10_chaser_0 : decode cX10_chaser 0 = .ok (.aload_n 0, 1) := by decide +kernel
theorem dX10_chaser_1 : decode cX10_chaser 1 = .ok (.iload_n 1, 1) := by decide +kernel
theorem dX10_chaser_2 : decode cX10_chaser 2 = .ok (.iload_n 2, 1) := by decide +kernel
theorem dX10_chaser_3 : decode cX10_chaser 3 = .ok (.invokevirtual 118, 3) := by decide +kernel
theorem dX10_chaser_6 : decode cX10_chaser 6 = .ok (.ifCond .eq 12, 3) := by decide +kernel
theorem dX10_chaser_9 : decode cX10_chaser 9 = .ok (.iload_n 3, 1) := by decide +kernel
theorem dX10_chaser_10 : decode cX10_chaser 10 = .ok (.iconst 1, 1) := by decide +kernel
theorem dX10_chaser_11 : decode cX10_chaser 11 = .ok (.iconst 5, 1) := by decide +kernel
theorem dX10_chaser_12 : decode cX10_chaser 12 = .ok (.invokestatic 108, 3) := by decide +kernel
theorem dX10_chaser_15 : decode cX10_chaser 15 = .ok (.ifCond .ne 6, 3) := by decide +kernel
theorem dX10_chaser_18 : decode cX10_chaser 18 = .ok (.bipush (-2), 2) := by decide +kernel
theorem dX10_chaser_20 : decode cX10_chaser 20 = .ok (.ireturn, 1) := by decide +kernel
theorem dX10_chaser_21 : decode cX10_chaser 21 = .ok (.aload_n 0, 1) := by decide +kernel
theorem dX10_chaser_22 : decode cX10_chaser 22 = .ok (.getfield 16, 3) := by decide +kernel
theorem dX10_chaser_25 : decode cX10_chaser 25 = .ok (.bipush 24, 2) := by decide +kernel
theorem dX10_chaser_27 : decode cX10_chaser 27 = .ok (.iload_n 2, 1) := by decide +kernel
theorem dX10_chaser_28 : decode cX10_chaser 28 = .ok (.imul, 1) := by decide +kernel
theorem dX10_chaser_29 : decode cX10_chaser 29 = .ok (.iload_n 1, 1) := by decide +kernel
theorem dX10_chaser_30 : decode cX10_chaser 30 = .ok (.iadd, 1) := by decide +kernel
theorem dX10_chaser_31 : decode cX10_chaser 31 = .ok (.iaload, 1) := by decide +kernel
theorem dX10_chaser_32 : decode cX10_chaser 32 = .ok (.iconst 1, 1) := by decide +kernel
theorem dX10_chaser_33 : decode cX10_chaser 33 = .ok (.if_icmp .ne 6, 3) := by decide +kernel
theorem dX10_chaser_36 : decode cX10_chaser 36 = .ok (.bipush (-3), 2) := by decide +kernel
theorem dX10_chaser_38 : decode cX10_chaser 38 = .ok (.ireturn, 1) := by decide +kernel
theorem dX10_chaser_39 : decode cX10_chaser 39 = .ok (.aload_n 0, 1) := by decide +kernel
theorem dX10_chaser_40 : decode cX10_chaser 40 = .ok (.getfield 115, 3) := by decide +kernel
theorem dX10_chaser_43 : decode cX10_chaser 43 = .ok (.iconst 4, 1) := by decide +kernel
theorem dX10_chaser_44 : decode cX10_chaser 44 = .ok (.if_icmp .ne 6, 3) := by decide +kernel
theorem dX10_chaser_47 : decode cX10_chaser 47 = .ok (.bipush (-4), 2) := by decide +kernel
theorem dX10_chaser_49 : decode cX10_chaser 49 = .ok (.ireturn, 1) := by decide +kernel
theorem dX10_chaser_50 : decode cX10_chaser 50 = .ok (.aload_n 0, 1) := by decide +kernel
theorem dX10_chaser_51 : decode cX10_chaser 51 = .ok (.getfield 78, 3) := by decide +kernel
theorem dX10_chaser_54 : decode cX10_chaser 54 = .ok (.aload_n 0, 1) := by decide +kernel
theorem dX10_chaser_55 : decode cX10_chaser 55 = .ok (.getfield 115, 3) := by decide +kernel
theorem dX10_chaser_58 : decode cX10_chaser 58 = .ok (.iload_n 1, 1) := by decide +kernel
theorem dX10_chaser_59 : decode cX10_chaser 59 = .ok (.iastore, 1) := by decide +kernel
theorem dX10_chaser_60 : decode cX10_chaser 60 = .ok (.aload_n 0, 1) := by decide +kernel
theorem dX10_chaser_61 : decode cX10_chaser 61 = .ok (.getfield 81, 3) := by decide +kernel
theorem dX10_chaser_64 : decode cX10_chaser 64 = .ok (.aload_n 0, 1) := by decide +kernel
theorem dX10_chaser_65 : decode cX10_chaser 65 = .ok (.getfield 115, 3) := by decide +kernel
theorem dX10_chaser_68 : decode cX10_chaser 68 = .ok (.iload_n 2, 1) := by decide +kernel
theorem dX10_chaser_69 : decode cX10_chaser 69 = .ok (.iastore, 1) := by decide +kernel
theorem dX10_chaser_70 : decode cX10_chaser 70 = .ok (.aload_n 0, 1) := by decide +kernel
theorem dX10_chaser_71 : decode cX10_chaser 71 = .ok (.getfield 84, 3) := by decide +kernel
theorem dX10_chaser_74 : decode cX10_chaser 74 = .ok (.aload_n 0, 1) := by decide +kernel
theorem dX10_chaser_75 : decode cX10_chaser 75 = .ok (.getfield 115, 3) := by decide +kernel
theorem dX10_chaser_78 : decode cX10_chaser 78 = .ok (.iload_n 3, 1) := by decide +kernel
theorem dX10_chaser_79 : decode cX10_chaser 79 = .ok (.iastore, 1) := by decide +kernel
theorem dX10_chaser_80 : decode cX10_chaser 80 = .ok (.aload_n 0, 1) := by decide +kernel
theorem dX10_chaser_81 : decode cX10_chaser 81 = .ok (.dup, 1) := by decide +kernel
theorem dX10_chaser_82 : decode cX10_chaser 82 = .ok (.getfield 115, 3) := by decide +kernel
theorem dX10_chaser_85 : decode cX10_chaser 85 = .ok (.iconst 1, 1) := by decide +kernel
theorem dX10_chaser_86 : decode cX10_chaser 86 = .ok (.iadd, 1) := by decide +kernel
theorem dX10_chaser_87 : decode cX10_chaser 87 = .ok (.putfield 115, 3) := by decide +kernel
theorem dX10_chaser_90 : decode cX10_chaser 90 = .ok (.aload_n 0, 1) := by decide +kernel
theorem dX10_chaser_91 : decode cX10_chaser 91 = .ok (.getfield 115, 3) := by decide +kernel
theorem dX10_chaser_94 : decode cX10_chaser 94 = .ok (.iconst 1, 1) := by decide +kernel
theorem dX10_chaser_95 : decode cX10_chaser 95 = .ok (.isub, 1) := by decide +kernel
theorem dX10_chaser_96 : decode cX10_chaser 96 = .ok (.ireturn, 1) := by decide +kernel
set_option maxRecDepth 20000 in
theorem ggX10_chased_X10_reaches : GoodIn wsX10_chased wsX10_reaches := goodIn_r _ [9, 10, 1, 11, 12, 13, 8, 14, 15, 16, 17, 18, 19, 20, 21, 22, 23, 24, 25, 26, 27, 28, 29, 30, 31, 32, 33, 34, 35, 36, 37, 38, 39, 40, 41, 42, 43, 44, 45, 46, 47, 48, 49, 50, 51, 52, 53, 54, 55, 56, 57, 58, 59, 60, 61, 62] (by decide +kernel) (by decide +kernel)
set_option maxRecDepth 20000 in
theorem gX10_chased_X10_reaches : GoodIn wsX10_chased (wsV RX10 203 RX10 yX10_reaches wsX10_reaches) := goodIn_app (goodIn_of _ (by decide +kernel)) ggX10_chased_X10_reaches
theorem dX10_chased_0 : decode cX10_chased 0 = .ok (.iconst 0, 1) := by decide +kernel
theorem dX10_chased_1 : decode cX10_chased 1 = .ok (.istore 4, 2) := by decide +kernel
theorem dX10_chased_3 : decode cX10_chased 3 = .ok (.iload 4, 2) := by decide +kernel
theorem dX10_chased_5 : decode cX10_chased 5 = .ok (.sipush 576, 3) := by decide +kernel
theorem dX10_chased_8 : decode cX10_chased 8 = .ok (.if_icmp .ge 17, 3) := by decide +kernel
theorem dX10_chased_11 : decode cX10_chased 11 = .ok (.aload_n 0, 1) := by decide +kernel
theorem dX10_chased_12 : decode cX10_chased 12 = .ok (.getfield 102, 3) := by decide +kernel
theorem dX10_chased_15 : decode cX10_chased 15 = .ok (.iload 4, 2) := by decide +kernel
theorem dX10_chased_17 : decode cX10_chased 17 = .ok (.iconst (-1), 1) := by decide +kernel
theorem dX10_chased_18 : decode cX10_chased 18 = .ok (.iastore, 1) := by decide +kernel
theorem dX10_chased_19 : decode cX10_chased 19 = .ok (.iinc 4 1, 3) := by decide +kernel
theorem dX10_chased_22 : decode cX10_chased 22 = .ok (.goto (-19), 3) := by decide +kernel
theorem dX10_chased_25 : decode cX10_chased 25 = .ok (.aload_n 0, 1) := by decide +kernel
theorem dX10_chased_26 : decode cX10_chased 26 = .ok (.getfield 102, 3) := by decide +kernel
theorem dX10_chased_29 : decode cX10_chased 29 = .ok (.bipush 24, 2) := by decide +kernel
theorem dX10_chased_31 : decode cX10_chased 31 = .ok (.aload_n 0, 1) := by decide +kernel
theorem dX10_chased_32 : decode cX10_chased 32 = .ok (.getfield 81, 3) := by decide +kernel
theorem dX10_chased_35 : decode cX10_chased 35 = .ok (.iload_n 1, 1) := by decide +kernel
theorem dX10_chased_36 : decode cX10_chased 36 = .ok (.iaload, 1) := by decide +kernel
theorem dX10_chased_37 : decode cX10_chased 37 = .ok (.imul, 1) := by decide +kernel
theorem dX10_chased_38 : decode cX10_chased 38 = .ok (.aload_n 0, 1) := by decide +kernel
theorem dX10_chased_39 : decode cX10_chased 39 = .ok (.getfield 78, 3) := by decide +kernel
theorem dX10_chased_42 : decode cX10_chased 42 = .ok (.iload_n 1, 1) := by decide +kernel
theorem dX10_chased_43 : decode cX10_chased 43 = .ok (.iaload, 1) := by decide +kernel
theorem dX10_chased_44 : decode cX10_chased 44 = .ok (.iadd, 1) := by decide +kernel
theorem dX10_chased_45 : decode cX10_chased 45 = .ok (.iconst 0, 1) := by decide +kernel
theorem dX10_chased_46 : decode cX10_chased 46 = .ok (.iastore, 1) := by decide +kernel
theorem dX10_chased_47 : decode cX10_chased 47 = .ok (.iconst 1, 1) := by decide +kernel
theorem dX10_chased_48 : decode cX10_chased 48 = .ok (.istore 4, 2) := by decide +kernel
theorem dX10_chased_50 : decode cX10_chased 50 = .ok (.iconst 0, 1) := by decide +kernel
theorem dX10_chased_51 : decode cX10_chased 51 = .ok (.istore 5, 2) := by decide +kernel
theorem dX10_chased_53 : decode cX10_chased 53 = .ok (.iload 4, 2) := by decide +kernel
theorem dX10_chased_55 : decode cX10_chased 55 = .ok (.ifCond .eq 153, 3) := by decide +kernel
theorem dX10_chased_58 : decode cX10_chased 58 = .ok (.iconst 0, 1) := by decide +kernel
theorem dX10_chased_59 : decode cX10_chased 59 = .ok (.istore 4, 2) := by decide +kernel
theorem dX10_chased_61 : decode cX10_chased 61 = .ok (.iconst 0, 1) := by decide +kernel
theorem dX10_chased_62 : decode cX10_chased 62 = .ok (.istore 6, 2) := by decide +kernel
theorem dX10_chased_64 : decode cX10_chased 64 = .ok (.iload 6, 2) := by decide +kernel
theorem dX10_chased_66 : decode cX10_chased 66 = .ok (.sipush 576, 3) := by decide +kernel
theorem dX10_chased_69 : decode cX10_chased 69 = .ok (.if_icmp .ge 133, 3) := by decide +kernel
theorem dX10_chased_72 : decode cX10_chased 72 = .ok (.aload_n 0, 1) := by decide +kernel
theorem dX10_chased_73 : decode cX10_chased 73 = .ok (.getfield 102, 3) := by decide +kernel
theorem dX10_chased_76 : decode cX10_chased 76 = .ok (.iload 6, 2) := by decide +kernel
theorem dX10_chased_78 : decode cX10_chased 78 = .ok (.iaload, 1) := by decide +kernel
theorem dX10_chased_79 : decode cX10_chased 79 = .ok (.iload 5, 2) := by decide +kernel
theorem dX10_chased_81 : decode cX10_chased 81 = .ok (.if_icmp .ne 115, 3) := by decide +kernel
theorem dX10_chased_84 : decode cX10_chased 84 = .ok (.aload_n 0, 1) := by decide +kernel
theorem dX10_chased_85 : decode cX10_chased 85 = .ok (.iload 6, 2) := by decide +kernel
theorem dX10_chased_87 : decode cX10_chased 87 = .ok (.bipush 24, 2) := by decide +kernel
theorem dX10_chased_89 : decode cX10_chased 89 = .ok (.irem, 1) := by decide +kernel
theorem dX10_chased_90 : decode cX10_chased 90 = .ok (.iconst 1, 1) := by decide +kernel
theorem dX10_chased_91 : decode cX10_chased 91 = .ok (.iadd, 1) := by decide +kernel
theorem dX10_chased_92 : decode cX10_chased 92 = .ok (.iload 6, 2) := by decide +kernel
theorem dX10_chased_94 : decode cX10_chased 94 = .ok (.bipush 24, 2) := by decide +kernel
theorem dX10_chased_96 : decode cX10_chased 96 = .ok (.idiv, 1) := by decide +kernel
theorem dX10_chased_97 : decode cX10_chased 97 = .ok (.iload 5, 2) := by decide +kernel
theorem dX10_chased_99 : decode cX10_chased 99 = .ok (.invokevirtual 203, 3) := by decide +kernel
theorem dX10_chased_102 : decode cX10_chased 102 = .ok (.istore 7, 2) := by decide +kernel
theorem dX10_chased_104 : decode cX10_chased 104 = .ok (.aload_n 0, 1) := by decide +kernel
theorem dX10_chased_105 : decode cX10_chased 105 = .ok (.iload 6, 2) := by decide +kernel
theorem dX10_chased_107 : decode cX10_chased 107 = .ok (.bipush 24, 2) := by decide +kernel
theorem dX10_chased_109 : decode cX10_chased 109 = .ok (.irem, 1) := by decide +kernel
theorem dX10_chased_110 : decode cX10_chased 110 = .ok (.iconst 1, 1) := by decide +kernel
theorem dX10_chased_111 : decode cX10_chased 111 = .ok (.isub, 1) := by decide +kernel
theorem dX10_chased_112 : decode cX10_chased 112 = .ok (.iload 6, 2) := by decide +kernel
theorem dX10_chased_114 : decode cX10_chased 114 = .ok (.bipush 24, 2) := by decide +kernel
theorem dX10_chased_116 : decode cX10_chased 116 = .ok (.idiv, 1) := by decide +kernel
theorem dX10_chased_117 : decode cX10_chased 117 = .ok (.iload 5, 2) := by decide +kernel
theorem dX10_chased_119 : decode cX10_chased 119 = .ok (.invokevirtual 203, 3) := by decide +kernel
theorem dX10_chased_122 : decode cX10_chased 122 = .ok (.istore 8, 2) := by decide +kernel
theorem dX10_chased_124 : decode cX10_chased 124 = .ok (.aload_n 0, 1) := by decide +kernel
theorem dX10_chased_125 : decode cX10_chased 125 = .ok (.iload 6, 2) := by decide +kernel
theorem dX10_chased_127 : decode cX10_chased 127 = .ok (.bipush 24, 2) := by decide +kernel
theorem dX10_chased_129 : decode cX10_chased 129 = .ok (.irem, 1) := by decide +kernel
theorem dX10_chased_130 : decode cX10_chased 130 = .ok (.iload 6, 2) := by decide +kernel
theorem dX10_chased_132 : decode cX10_chased 132 = .ok (.bipush 24, 2) := by decide +kernel
theorem dX10_chased_134 : decode cX10_chased 134 = .ok (.idiv, 1) := by decide +kernel
theorem dX10_chased_135 : decode cX10_chased 135 = .ok (.iconst 1, 1) := by decide +kernel
theorem dX10_chased_136 : decode cX10_chased 136 = .ok (.iadd, 1) := by decide +kernel
theorem dX10_chased_137 : decode cX10_chased 137 = .ok (.iload 5, 2) := by decide +kernel
theorem dX10_chased_139 : decode cX10_chased 139 = .ok (.invokevirtual 203, 3) := by decide +kernel
theorem dX10_chased_142 : decode cX10_chased 142 = .ok (.istore 9, 2) := by decide +kernel
theorem dX10_chased_144 : decode cX10_chased 144 = .ok (.aload_n 0, 1) := by decide +kernel
theorem dX10_chased_145 : decode cX10_chased 145 = .ok (.iload 6, 2) := by decide +kernel
theorem dX10_chased_147 : decode cX10_chased 147 = .ok (.bipush 24, 2) := by decide +kernel
theorem dX10_chased_149 : decode cX10_chased 149 = .ok (.irem, 1) := by decide +kernel
theorem dX10_chased_150 : decode cX10_chased 150 = .ok (.iload 6, 2) := by decide +kernel
theorem dX10_chased_152 : decode cX10_chased 152 = .ok (.bipush 24, 2) := by decide +kernel
theorem dX10_chased_154 : decode cX10_chased 154 = .ok (.idiv, 1) := by decide +kernel
theorem dX10_chased_155 : decode cX10_chased 155 = .ok (.iconst 1, 1) := by decide +kernel
theorem dX10_chased_156 : decode cX10_chased 156 = .ok (.isub, 1) := by decide +kernel
theorem dX10_chased_157 : decode cX10_chased 157 = .ok (.iload 5, 2) := by decide +kernel
theorem dX10_chased_159 : decode cX10_chased 159 = .ok (.invokevirtual 203, 3) := by decide +kernel
theorem dX10_chased_162 : decode cX10_chased 162 = .ok (.istore 10, 2) := by decide +kernel
theorem dX10_chased_164 : decode cX10_chased 164 = .ok (.iload 4, 2) := by decide +kernel
theorem dX10_chased_166 : decode cX10_chased 166 = .ok (.ifCond .ne 23, 3) := by decide +kernel
theorem dX10_chased_169 : decode cX10_chased 169 = .ok (.iload 7, 2) := by decide +kernel
theorem dX10_chased_171 : decode cX10_chased 171 = .ok (.ifCond .ne 18, 3) := by decide +kernel
theorem dX10_chased_174 : decode cX10_chased 174 = .ok (.iload 8, 2) := by decide +kernel
theorem dX10_chased_176 : decode cX10_chased 176 = .ok (.ifCond .ne 13, 3) := by decide +kernel
theorem dX10_chased_179 : decode cX10_chased 179 = .ok (.iload 9, 2) := by decide +kernel
theorem dX10_chased_181 : decode cX10_chased 181 = .ok (.ifCond .ne 8, 3) := by decide +kernel
theorem dX10_chased_184 : decode cX10_chased 184 = .ok (.iload 10, 2) := by decide +kernel
theorem dX10_chased_186 : decode cX10_chased 186 = .ok (.ifCond .eq 7, 3) := by decide +kernel
theorem dX10_chased_189 : decode cX10_chased 189 = .ok (.iconst 1, 1) := by decide +kernel
theorem dX10_chased_190 : decode cX10_chased 190 = .ok (.goto 4, 3) := by decide +kernel
theorem dX10_chased_193 : decode cX10_chased 193 = .ok (.iconst 0, 1) := by decide +kernel
theorem dX10_chased_194 : decode cX10_chased 194 = .ok (.istore 4, 2) := by decide +kernel
theorem dX10_chased_196 : decode cX10_chased 196 = .ok (.iinc 6 1, 3) := by decide +kernel
theorem dX10_chased_199 : decode cX10_chased 199 = .ok (.goto (-135), 3) := by decide +kernel
theorem dX10_chased_202 : decode cX10_chased 202 = .ok (.iinc 5 1, 3) := by decide +kernel
theorem dX10_chased_205 : decode cX10_chased 205 = .ok (.goto (-152), 3) := by decide +kernel
theorem dX10_chased_208 : decode cX10_chased 208 = .ok (.aload_n 0, 1) := by decide +kernel
theorem dX10_chased_209 : decode cX10_chased 209 = .ok (.getfield 102, 3) := by decide +kernel
theorem dX10_chased_212 : decode cX10_chased 212 = .ok (.bipush 24, 2) := by decide +kernel
theorem dX10_chased_214 : decode cX10_chased 214 = .ok (.iload_n 3, 1) := by decide +kernel
theorem dX10_chased_215 : decode cX10_chased 215 = .ok (.imul, 1) := by decide +kernel
theorem dX10_chased_216 : decode cX10_chased 216 = .ok (.iload_n 2, 1) := by decide +kernel
theorem dX10_chased_217 : decode cX10_chased 217 = .ok (.iadd, 1) := by decide +kernel
theorem dX10_chased_218 : decode cX10_chased 218 = .ok (.iaload, 1) := by decide +kernel
theorem dX10_chased_219 : decode cX10_chased 219 = .ok (.istore 5, 2) := by decide +kernel
theorem dX10_chased_221 : decode cX10_chased 221 = .ok (.iload 5, 2) := by decide +kernel
theorem dX10_chased_223 : decode cX10_chased 223 = .ok (.iconst (-1), 1) := by decide +kernel
theorem dX10_chased_224 : decode cX10_chased 224 = .ok (.if_icmp .ne 7, 3) := by decide +kernel
theorem dX10_chased_227 : decode cX10_chased 227 = .ok (.iconst (-1), 1) := by decide +kernel
theorem dX10_chased_228 : decode cX10_chased 228 = .ok (.goto 21, 3) := by decide +kernel
theorem dX10_chased_231 : decode cX10_chased 231 = .ok (.iload 5, 2) := by decide +kernel
theorem dX10_chased_233 : decode cX10_chased 233 = .ok (.aload_n 0, 1) := by decide +kernel
theorem dX10_chased_234 : decode cX10_chased 234 = .ok (.getfield 84, 3) := by decide +kernel
theorem dX10_chased_237 : decode cX10_chased 237 = .ok (.iload_n 1, 1) := by decide +kernel
theorem dX10_chased_238 : decode cX10_chased 238 = .ok (.iaload, 1) := by decide +kernel
theorem dX10_chased_239 : decode cX10_chased 239 = .ok (.iadd, 1) := by decide +kernel
theorem dX10_chased_240 : decode cX10_chased 240 = .ok (.iconst 1, 1) := by decide +kernel
theorem dX10_chased_241 : decode cX10_chased 241 = .ok (.isub, 1) := by decide +kernel
theorem dX10_chased_242 : decode cX10_chased 242 = .ok (.aload_n 0, 1) := by decide +kernel
theorem dX10_chased_243 : decode cX10_chased 243 = .ok (.getfield 84, 3) := by decide +kernel
theorem dX10_chased_246 : decode cX10_chased 246 = .ok (.iload_n 1, 1) := by decide +kernel
theorem dX10_chased_247 : decode cX10_chased 247 = .ok (.iaload, 1) := by decide +kernel
theorem dX10_chased_248 : decode cX10_chased 248 = .ok (.idiv, 1) := by decide +kernel
theorem dX10_chased_249 : decode cX10_chased 249 = .ok (.ireturn, 1) := by decide +kernel
set_option maxRecDepth 20000 in
theorem ggX10_reaches_X10_isCell : GoodIn wsX10_reaches wsX10_isCell := goodIn_r _ [7, 8, 9, 10, 11, 6, 12, 13, 14, 15, 16, 17, 18, 19, 20, 21, 22, 23, 24, 25, 26, 27, 28, 29, 30, 31, 32, 33, 34, 35, 36, 37, 38, 39, 40, 41, 42, 43, 44, 45, 46, 47, 48, 49, 50, 51, 52, 53, 54, 55] (by decide +kernel) (by decide +kernel)
set_option maxRecDepth 20000 in
theorem gX10_reaches_X10_isCell : GoodIn wsX10_reaches (wsV RX10 118 RX10 yX10_isCell wsX10_isCell) := goodIn_app (goodIn_of _ (by decide +kernel)) ggX10_reaches_X10_isCell
theorem dX10_reaches_0 : decode cX10_reaches 0 = .ok (.aload_n 0, 1) := by decide +kernel
theorem dX10_reaches_1 : decode cX10_reaches 1 = .ok (.iload_n 1, 1) := by decide +kernel
theorem dX10_reaches_2 : decode cX10_reaches 2 = .ok (.iload_n 2, 1) := by decide +kernel
theorem dX10_reaches_3 : decode cX10_reaches 3 = .ok (.invokevirtual 118, 3) := by decide +kernel
theorem dX10_reaches_6 : decode cX10_reaches 6 = .ok (.ifCond .eq 33, 3) := by decide +kernel
theorem dX10_reaches_9 : decode cX10_reaches 9 = .ok (.aload_n 0, 1) := by decide +kernel
theorem dX10_reaches_10 : decode cX10_reaches 10 = .ok (.getfield 16, 3) := by decide +kernel
theorem dX10_reaches_13 : decode cX10_reaches 13 = .ok (.bipush 24, 2) := by decide +kernel
theorem dX10_reaches_15 : decode cX10_reaches 15 = .ok (.iload_n 2, 1) := by decide +kernel
theorem dX10_reaches_16 : decode cX10_reaches 16 = .ok (.imul, 1) := by decide +kernel
theorem dX10_reaches_17 : decode cX10_reaches 17 = .ok (.iload_n 1, 1) := by decide +kernel
theorem dX10_reaches_18 : decode cX10_reaches 18 = .ok (.iadd, 1) := by decide +kernel
theorem dX10_reaches_19 : decode cX10_reaches 19 = .ok (.iaload, 1) := by decide +kernel
theorem dX10_reaches_20 : decode cX10_reaches 20 = .ok (.iconst 1, 1) := by decide +kernel
theorem dX10_reaches_21 : decode cX10_reaches 21 = .ok (.if_icmp .eq 18, 3) := by decide +kernel
theorem dX10_reaches_24 : decode cX10_reaches 24 = .ok (.aload_n 0, 1) := by decide +kernel
theorem dX10_reaches_25 : decode cX10_reaches 25 = .ok (.getfield 102, 3) := by decide +kernel
theorem dX10_reaches_28 : decode cX10_reaches 28 = .ok (.bipush 24, 2) := by decide +kernel
theorem dX10_reaches_30 : decode cX10_reaches 30 = .ok (.iload_n 2, 1) := by decide +kernel
theorem dX10_reaches_31 : decode cX10_reaches 31 = .ok (.imul, 1) := by decide +kernel
theorem dX10_reaches_32 : decode cX10_reaches 32 = .ok (.iload_n 1, 1) := by decide +kernel
theorem dX10_reaches_33 : decode cX10_reaches 33 = .ok (.iadd, 1) := by decide +kernel
theorem dX10_reaches_34 : decode cX10_reaches 34 = .ok (.iaload, 1) := by decide +kernel
theorem dX10_reaches_35 : decode cX10_reaches 35 = .ok (.iconst (-1), 1) := by decide +kernel
theorem dX10_reaches_36 : decode cX10_reaches 36 = .ok (.if_icmp .eq 5, 3) := by decide +kernel
theorem dX10_reaches_39 : decode cX10_reaches 39 = .ok (.iconst 0, 1) := by decide +kernel
theorem dX10_reaches_40 : decode cX10_reaches 40 = .ok (.ireturn, 1) := by decide +kernel
theorem dX10_reaches_41 : decode cX10_reaches 41 = .ok (.aload_n 0, 1) := by decide +kernel
theorem dX10_reaches_42 : decode cX10_reaches 42 = .ok (.getfield 102, 3) := by decide +kernel
theorem dX10_reaches_45 : decode cX10_reaches 45 = .ok (.bipush 24, 2) := by decide +kernel
theorem dX10_reaches_47 : decode cX10_reaches 47 = .ok (.iload_n 2, 1) := by decide +kernel
theorem dX10_reaches_48 : decode cX10_reaches 48 = .ok (.imul, 1) := by decide +kernel
theorem dX10_reaches_49 : decode cX10_reaches 49 = .ok (.iload_n 1, 1) := by decide +kernel
theorem dX10_reaches_50 : decode cX10_reaches 50 = .ok (.iadd, 1) := by decide +kernel
theorem dX10_reaches_51 : decode cX10_reaches 51 = .ok (.iload_n 3, 1) := by decide +kernel
theorem dX10_reaches_52 : decode cX10_reaches 52 = .ok (.iconst 1, 1) := by decide +kernel
theorem dX10_reaches_53 : decode cX10_reaches 53 = .ok (.iadd, 1) := by decide +kernel
theorem dX10_reaches_54 : decode cX10_reaches 54 = .ok (.iastore, 1) := by decide +kernel
theorem dX10_reaches_55 : decode cX10_reaches 55 = .ok (.iconst 1, 1) := by decide +kernel
theorem dX10_reaches_56 : decode cX10_reaches 56 = .ok (.ireturn, 1) := by decide +kernel
set_option maxRecDepth 20000 in
theorem ggX10_chase_X10_in : GoodIn wsX10_chase wsX10_in := goodIn_r _ [5] (by decide +kernel) (by decide +kernel)
set_option maxRecDepth 20000 in
theorem gX10_chase_X10_in : GoodIn wsX10_chase (va_wsS RX10 108 yX10_in wsX10_in) := goodIn_app (goodIn_of _ (by decide +kernel)) ggX10_chase_X10_in
set_option maxRecDepth 20000 in
theorem ggX10_chase_X10_isCell : GoodIn wsX10_chase wsX10_isCell := goodIn_r _ [9, 10, 11, 2, 3, 4, 5, 25, 26, 27, 28, 29, 30, 31, 32, 33, 34, 35, 36, 37, 38, 39, 40, 41, 42, 43, 44, 45, 46, 47, 48, 49, 50, 51, 52, 53, 54, 55, 56, 57, 58, 59, 60, 61, 62, 63, 64, 65, 66, 67] (by decide +kernel) (by decide +kernel)
set_option maxRecDepth 20000 in
theorem gX10_chase_X10_isCell : GoodIn wsX10_chase (wsV RX10 118 RX10 yX10_isCell wsX10_isCell) := goodIn_app (goodIn_of _ (by decide +kernel)) ggX10_chase_X10_isCell
set_option maxRecDepth 20000 in
theorem ggX10_chase_X10_chased : GoodIn wsX10_chase wsX10_chased := goodIn_r _ [15, 16, 17, 18, 19, 20, 21, 22, 4, 23, 24, 6, 7, 8, 9, 10, 11, 2, 3, 5, 25, 26, 27, 28, 29, 30, 31, 32, 33, 34, 35, 36, 37, 38, 39, 40, 41, 42, 43, 44, 45, 46, 47, 48, 49, 50, 51, 52, 53, 54, 55, 56, 57, 58, 59, 60, 61, 62, 63, 64, 65, 66, 67] (by decide +kernel) (by decide +kernel)
set_option maxRecDepth 20000 in
theorem gX10_chase_X10_chased : GoodIn wsX10_chase (wsV RX10 206 RX10 yX10_chased wsX10_chased) := goodIn_app (goodIn_of _ (by decide +kernel)) ggX10_chase_X10_chased
theorem dX10_chase_0 : decode cX10_chase 0 = .ok (.iload_n 1, 1) := by decide +kernel
theorem dX10_chase_1 : decode cX10_chase 1 = .ok (.iconst 0, 1) := by decide +kernel
theorem dX10_chase_2 : decode cX10_chase 2 = .ok (.aload_n 0, 1) := by decide +kernel
theorem dX10_chase_3 : decode cX10_chase 3 = .ok (.getfield 115, 3) := by decide +kernel
theorem dX10_chase_6 : decode cX10_chase 6 = .ok (.iconst 1, 1) := by decide +kernel
theorem dX10_chase_7 : decode cX10_chase 7 = .ok (.isub, 1) := by decide +kernel
theorem dX10_chase_8 : decode cX10_chase 8 = .ok (.invokestatic 108, 3) := by decide +kernel
theorem dX10_chase_11 : decode cX10_chase 11 = .ok (.ifCond .eq 22, 3) := by decide +kernel
theorem dX10_chase_14 : decode cX10_chase 14 = .ok (.aload_n 0, 1) := by decide +kernel
theorem dX10_chase_15 : decode cX10_chase 15 = .ok (.iload_n 2, 1) := by decide +kernel
theorem dX10_chase_16 : decode cX10_chase 16 = .ok (.iload_n 3, 1) := by decide +kernel
theorem dX10_chase_17 : decode cX10_chase 17 = .ok (.invokevirtual 118, 3) := by decide +kernel
theorem dX10_chase_20 : decode cX10_chase 20 = .ok (.ifCond .eq 13, 3) := by decide +kernel
theorem dX10_chase_23 : decode cX10_chase 23 = .ok (.aload_n 0, 1) := by decide +kernel
theorem dX10_chase_24 : decode cX10_chase 24 = .ok (.iload_n 1, 1) := by decide +kernel
theorem dX10_chase_25 : decode cX10_chase 25 = .ok (.iload_n 2, 1) := by decide +kernel
theorem dX10_chase_26 : decode cX10_chase 26 = .ok (.iload_n 3, 1) := by decide +kernel
theorem dX10_chase_27 : decode cX10_chase 27 = .ok (.invokevirtual 206, 3) := by decide +kernel
theorem dX10_chase_30 : decode cX10_chase 30 = .ok (.goto 5, 3) := by decide +kernel
theorem dX10_chase_33 : decode cX10_chase 33 = .ok (.bipush (-2), 2) := by decide +kernel
theorem dX10_chase_35 : decode cX10_chase 35 = .ok (.ireturn, 1) := by decide +kernel
set_option maxRecDepth 20000 in
theorem ggX10_first_X10_isFlight : GoodIn wsX10_first wsX10_isFlight := goodIn_r _ [8, 9, 10, 11, 7, 12, 32, 33, 34, 35, 36, 37, 38, 39, 40, 41, 42, 43, 44, 45, 46, 47, 48, 49, 50, 51, 52, 53, 54, 55, 56, 57, 58, 59, 60, 61, 62, 63, 64, 65, 66, 67, 68, 69, 70, 71, 72, 73, 74] (by decide +kernel) (by decide +kernel)
set_option maxRecDepth 20000 in
theorem gX10_first_X10_isFlight : GoodIn wsX10_first (wsV RX10 152 RX10 yX10_isFlight wsX10_isFlight) := goodIn_app (goodIn_of _ (by decide +kernel)) ggX10_first_X10_isFlight
set_option maxRecDepth 20000 in
theorem ggX10_first_X10_chased : GoodIn wsX10_first wsX10_chased := goodIn_r _ [16, 17, 18, 19, 20, 21, 22, 23, 7, 24, 25, 26, 27, 28, 29, 30, 31, 10, 11, 12, 32, 33, 34, 35, 36, 37, 38, 39, 40, 41, 42, 43, 44, 45, 46, 47, 48, 49, 50, 51, 52, 53, 54, 55, 56, 57, 58, 59, 60, 61, 62, 63, 64, 65, 66, 67, 68, 69, 70, 71, 72, 73, 74] (by decide +kernel) (by decide +kernel)
set_option maxRecDepth 20000 in
theorem gX10_first_X10_chased : GoodIn wsX10_first (wsV RX10 206 RX10 yX10_chased wsX10_chased) := goodIn_app (goodIn_of _ (by decide +kernel)) ggX10_first_X10_chased
theorem dX10_first_0 : decode cX10_first 0 = .ok (.aload_n 0, 1) := by decide +kernel
theorem dX10_first_1 : decode cX10_first 1 = .ok (.iload_n 1, 1) := by decide +kernel
theorem dX10_first_2 : decode cX10_first 2 = .ok (.invokevirtual 152, 3) := by decide +kernel
theorem dX10_first_5 : decode cX10_first 5 = .ok (.ifCond .ne 6, 3) := by decide +kernel
theorem dX10_first_8 : decode cX10_first 8 = .ok (.bipush (-2), 2) := by decide +kernel
theorem dX10_first_10 : decode cX10_first 10 = .ok (.ireturn, 1) := by decide +kernel
theorem dX10_first_11 : decode cX10_first 11 = .ok (.iconst (-1), 1) := by decide +kernel
theorem dX10_first_12 : decode cX10_first 12 = .ok (.istore_n 2, 1) := by decide +kernel
theorem dX10_first_13 : decode cX10_first 13 = .ok (.iconst (-1), 1) := by decide +kernel
theorem dX10_first_14 : decode cX10_first 14 = .ok (.istore_n 3, 1) := by decide +kernel
theorem dX10_first_15 : decode cX10_first 15 = .ok (.iconst 0, 1) := by decide +kernel
theorem dX10_first_16 : decode cX10_first 16 = .ok (.istore 4, 2) := by decide +kernel
theorem dX10_first_18 : decode cX10_first 18 = .ok (.iload 4, 2) := by decide +kernel
theorem dX10_first_20 : decode cX10_first 20 = .ok (.aload_n 0, 1) := by decide +kernel
theorem dX10_first_21 : decode cX10_first 21 = .ok (.getfield 115, 3) := by decide +kernel
theorem dX10_first_24 : decode cX10_first 24 = .ok (.if_icmp .ge 52, 3) := by decide +kernel
theorem dX10_first_27 : decode cX10_first 27 = .ok (.aload_n 0, 1) := by decide +kernel
theorem dX10_first_28 : decode cX10_first 28 = .ok (.iload 4, 2) := by decide +kernel
theorem dX10_first_30 : decode cX10_first 30 = .ok (.aload_n 0, 1) := by decide +kernel
theorem dX10_first_31 : decode cX10_first 31 = .ok (.getfield 35, 3) := by decide +kernel
theorem dX10_first_34 : decode cX10_first 34 = .ok (.iload_n 1, 1) := by decide +kernel
theorem dX10_first_35 : decode cX10_first 35 = .ok (.iaload, 1) := by decide +kernel
theorem dX10_first_36 : decode cX10_first 36 = .ok (.aload_n 0, 1) := by decide +kernel
theorem dX10_first_37 : decode cX10_first 37 = .ok (.getfield 38, 3) := by decide +kernel
theorem dX10_first_40 : decode cX10_first 40 = .ok (.iload_n 1, 1) := by decide +kernel
theorem dX10_first_41 : decode cX10_first 41 = .ok (.iaload, 1) := by decide +kernel
theorem dX10_first_42 : decode cX10_first 42 = .ok (.invokevirtual 206, 3) := by decide +kernel
theorem dX10_first_45 : decode cX10_first 45 = .ok (.istore 5, 2) := by decide +kernel
theorem dX10_first_47 : decode cX10_first 47 = .ok (.iload 5, 2) := by decide +kernel
theorem dX10_first_49 : decode cX10_first 49 = .ok (.iconst (-1), 1) := by decide +kernel
theorem dX10_first_50 : decode cX10_first 50 = .ok (.if_icmp .eq 20, 3) := by decide +kernel
theorem dX10_first_53 : decode cX10_first 53 = .ok (.iload_n 2, 1) := by decide +kernel
theorem dX10_first_54 : decode cX10_first 54 = .ok (.iconst (-1), 1) := by decide +kernel
theorem dX10_first_55 : decode cX10_first 55 = .ok (.if_icmp .eq 9, 3) := by decide +kernel
theorem dX10_first_58 : decode cX10_first 58 = .ok (.iload 5, 2) := by decide +kernel
theorem dX10_first_60 : decode cX10_first 60 = .ok (.iload_n 3, 1) := by decide +kernel
theorem dX10_first_61 : decode cX10_first 61 = .ok (.if_icmp .ge 9, 3) := by decide +kernel
theorem dX10_first_64 : decode cX10_first 64 = .ok (.iload 4, 2) := by decide +kernel
theorem dX10_first_66 : decode cX10_first 66 = .ok (.istore_n 2, 1) := by decide +kernel
theorem dX10_first_67 : decode cX10_first 67 = .ok (.iload 5, 2) := by decide +kernel
theorem dX10_first_69 : decode cX10_first 69 = .ok (.istore_n 3, 1) := by decide +kernel
theorem dX10_first_70 : decode cX10_first 70 = .ok (.iinc 4 1, 3) := by decide +kernel
theorem dX10_first_73 : decode cX10_first 73 = .ok (.goto (-55), 3) := by decide +kernel
theorem dX10_first_76 : decode cX10_first 76 = .ok (.iload_n 2, 1) := by decide +kernel
theorem dX10_first_77 : decode cX10_first 77 = .ok (.ireturn, 1) := by decide +kernel
set_option maxRecDepth 20000 in
theorem ggX10_isAhead_X10_distanceFlown : GoodIn wsX10_isAhead wsX10_distanceFlown := goodIn_r _ [6, 7, 8, 9, 10, 11, 5, 12, 13, 14, 15, 16, 17, 18, 19, 20, 21, 22, 23, 24, 25, 26, 27, 28, 29, 30, 31, 32, 33, 34, 35, 36, 37, 38, 39, 40, 41, 42, 43, 44, 45, 46, 47, 48, 49, 50, 51, 52, 53, 54, 55] (by decide +kernel) (by decide +kernel)
set_option maxRecDepth 20000 in
theorem gX10_isAhead_X10_distanceFlown : GoodIn wsX10_isAhead (wsV RX10 168 RX10 yX10_distanceFlown wsX10_distanceFlown) := goodIn_app (goodIn_of _ (by decide +kernel)) ggX10_isAhead_X10_distanceFlown
theorem dX10_isAhead_0 : decode cX10_isAhead 0 = .ok (.aload_n 0, 1) := by decide +kernel
theorem dX10_isAhead_1 : decode cX10_isAhead 1 = .ok (.iload_n 1, 1) := by decide +kernel
theorem dX10_isAhead_2 : decode cX10_isAhead 2 = .ok (.invokevirtual 168, 3) := by decide +kernel
theorem dX10_isAhead_5 : decode cX10_isAhead 5 = .ok (.istore_n 3, 1) := by decide +kernel
theorem dX10_isAhead_6 : decode cX10_isAhead 6 = .ok (.aload_n 0, 1) := by decide +kernel
theorem dX10_isAhead_7 : decode cX10_isAhead 7 = .ok (.iload_n 2, 1) := by decide +kernel
theorem dX10_isAhead_8 : decode cX10_isAhead 8 = .ok (.invokevirtual 168, 3) := by decide +kernel
theorem dX10_isAhead_11 : decode cX10_isAhead 11 = .ok (.istore 4, 2) := by decide +kernel
theorem dX10_isAhead_13 : decode cX10_isAhead 13 = .ok (.iload_n 3, 1) := by decide +kernel
theorem dX10_isAhead_14 : decode cX10_isAhead 14 = .ok (.iload 4, 2) := by decide +kernel
theorem dX10_isAhead_16 : decode cX10_isAhead 16 = .ok (.if_icmp .eq 15, 3) := by decide +kernel
theorem dX10_isAhead_19 : decode cX10_isAhead 19 = .ok (.iload_n 3, 1) := by decide +kernel
theorem dX10_isAhead_20 : decode cX10_isAhead 20 = .ok (.iload 4, 2) := by decide +kernel
theorem dX10_isAhead_22 : decode cX10_isAhead 22 = .ok (.if_icmp .le 7, 3) := by decide +kernel
theorem dX10_isAhead_25 : decode cX10_isAhead 25 = .ok (.iconst 1, 1) := by decide +kernel
theorem dX10_isAhead_26 : decode cX10_isAhead 26 = .ok (.goto 4, 3) := by decide +kernel
theorem dX10_isAhead_29 : decode cX10_isAhead 29 = .ok (.iconst 0, 1) := by decide +kernel
theorem dX10_isAhead_30 : decode cX10_isAhead 30 = .ok (.ireturn, 1) := by decide +kernel
theorem dX10_isAhead_31 : decode cX10_isAhead 31 = .ok (.aload_n 0, 1) := by decide +kernel
theorem dX10_isAhead_32 : decode cX10_isAhead 32 = .ok (.getfield 66, 3) := by decide +kernel
theorem dX10_isAhead_35 : decode cX10_isAhead 35 = .ok (.iload_n 1, 1) := by decide +kernel
theorem dX10_isAhead_36 : decode cX10_isAhead 36 = .ok (.iaload, 1) := by decide +kernel
theorem dX10_isAhead_37 : decode cX10_isAhead 37 = .ok (.aload_n 0, 1) := by decide +kernel
theorem dX10_isAhead_38 : decode cX10_isAhead 38 = .ok (.getfield 66, 3) := by decide +kernel
theorem dX10_isAhead_41 : decode cX10_isAhead 41 = .ok (.iload_n 2, 1) := by decide +kernel
theorem dX10_isAhead_42 : decode cX10_isAhead 42 = .ok (.iaload, 1) := by decide +kernel
theorem dX10_isAhead_43 : decode cX10_isAhead 43 = .ok (.if_icmp .eq 26, 3) := by decide +kernel
theorem dX10_isAhead_46 : decode cX10_isAhead 46 = .ok (.aload_n 0, 1) := by decide +kernel
theorem dX10_isAhead_47 : decode cX10_isAhead 47 = .ok (.getfield 66, 3) := by decide +kernel
theorem dX10_isAhead_50 : decode cX10_isAhead 50 = .ok (.iload_n 1, 1) := by decide +kernel
theorem dX10_isAhead_51 : decode cX10_isAhead 51 = .ok (.iaload, 1) := by decide +kernel
theorem dX10_isAhead_52 : decode cX10_isAhead 52 = .ok (.aload_n 0, 1) := by decide +kernel
theorem dX10_isAhead_53 : decode cX10_isAhead 53 = .ok (.getfield 66, 3) := by decide +kernel
theorem dX10_isAhead_56 : decode cX10_isAhead 56 = .ok (.iload_n 2, 1) := by decide +kernel
theorem dX10_isAhead_57 : decode cX10_isAhead 57 = .ok (.iaload, 1) := by decide +kernel
theorem dX10_isAhead_58 : decode cX10_isAhead 58 = .ok (.if_icmp .ge 7, 3) := by decide +kernel
theorem dX10_isAhead_61 : decode cX10_isAhead 61 = .ok (.iconst 1, 1) := by decide +kernel
theorem dX10_isAhead_62 : decode cX10_isAhead 62 = .ok (.goto 17, 3) := by decide +kernel
theorem dX10_isAhead_65 : decode cX10_isAhead 65 = .ok (.iconst 0, 1) := by decide +kernel
theorem dX10_isAhead_66 : decode cX10_isAhead 66 = .ok (.goto 13, 3) := by decide +kernel
theorem dX10_isAhead_69 : decode cX10_isAhead 69 = .ok (.iload_n 1, 1) := by decide +kernel
theorem dX10_isAhead_70 : decode cX10_isAhead 70 = .ok (.iload_n 2, 1) := by decide +kernel
theorem dX10_isAhead_71 : decode cX10_isAhead 71 = .ok (.if_icmp .ge 7, 3) := by decide +kernel
theorem dX10_isAhead_74 : decode cX10_isAhead 74 = .ok (.iconst 1, 1) := by decide +kernel
theorem dX10_isAhead_75 : decode cX10_isAhead 75 = .ok (.goto 4, 3) := by decide +kernel
theorem dX10_isAhead_78 : decode cX10_isAhead 78 = .ok (.iconst 0, 1) := by decide +kernel
theorem dX10_isAhead_79 : decode cX10_isAhead 79 = .ok (.ireturn, 1) := by decide +kernel
set_option maxRecDepth 20000 in
theorem ggX10_record_X10_judged : GoodIn wsX10_record wsX10_judged := goodIn_r _ [8, 9, 10, 11, 12, 13, 7, 14, 15, 16, 17, 18, 19, 20, 21, 22, 23, 24, 25, 26, 27, 28, 29, 30, 31, 32, 33, 34, 35, 36, 37, 38, 39, 40, 41, 42, 43, 44, 45, 46, 47, 48, 49, 50, 64, 65, 66, 67, 68, 69, 70, 71, 72, 73, 74, 75, 76, 77, 78, 79, 80, 81, 82, 83, 84, 85, 86, 87, 88, 89, 90, 91, 92, 93, 94, 95, 96, 97, 98, 99, 100, 101, 102, 103, 104, 105, 106] (by decide +kernel) (by decide +kernel)
set_option maxRecDepth 20000 in
theorem gX10_record_X10_judged : GoodIn wsX10_record (wsV RX10 200 RX10 yX10_judged wsX10_judged) := goodIn_app (goodIn_of _ (by decide +kernel)) ggX10_record_X10_judged
set_option maxRecDepth 20000 in
theorem ggX10_record_X10_isAhead : GoodIn wsX10_record wsX10_isAhead := goodIn_r _ [54, 20, 55, 56, 57, 7, 58, 59, 17, 60, 61, 62, 63, 64, 65, 66, 67, 68, 69, 70, 71, 72, 73, 74, 75, 76, 77, 78, 79, 80, 81, 82, 83, 84, 85, 86, 87, 88, 89, 90, 91, 92, 93, 94, 95, 96, 97, 98, 99, 100, 101, 102, 103, 104, 105, 106] (by decide +kernel) (by decide +kernel)
set_option maxRecDepth 20000 in
theorem gX10_record_X10_isAhead : GoodIn wsX10_record (wsV RX10 209 RX10 yX10_isAhead wsX10_isAhead) := goodIn_app (goodIn_of _ (by decide +kernel)) ggX10_record_X10_isAhead
theorem dX10_record_0 : decode cX10_record 0 = .ok (.iload_n 1, 1) := by decide +kernel
theorem dX10_record_1 : decode cX10_record 1 = .ok (.ifCond .ge 6, 3) := by decide +kernel
theorem dX10_record_4 : decode cX10_record 4 = .ok (.bipush (-2), 2) := by decide +kernel
theorem dX10_record_6 : decode cX10_record 6 = .ok (.ireturn, 1) := by decide +kernel
theorem dX10_record_7 : decode cX10_record 7 = .ok (.iconst 0, 1) := by decide +kernel
theorem dX10_record_8 : decode cX10_record 8 = .ok (.istore_n 2, 1) := by decide +kernel
theorem dX10_record_9 : decode cX10_record 9 = .ok (.iload_n 2, 1) := by decide +kernel
theorem dX10_record_10 : decode cX10_record 10 = .ok (.aload_n 0, 1) := by decide +kernel
theorem dX10_record_11 : decode cX10_record 11 = .ok (.getfield 112, 3) := by decide +kernel
theorem dX10_record_14 : decode cX10_record 14 = .ok (.if_icmp .ge 37, 3) := by decide +kernel
theorem dX10_record_17 : decode cX10_record 17 = .ok (.aload_n 0, 1) := by decide +kernel
theorem dX10_record_18 : decode cX10_record 18 = .ok (.getfield 105, 3) := by decide +kernel
theorem dX10_record_21 : decode cX10_record 21 = .ok (.iload_n 2, 1) := by decide +kernel
theorem dX10_record_22 : decode cX10_record 22 = .ok (.aload_n 0, 1) := by decide +kernel
theorem dX10_record_23 : decode cX10_record 23 = .ok (.getfield 59, 3) := by decide +kernel
theorem dX10_record_26 : decode cX10_record 26 = .ok (.iload_n 2, 1) := by decide +kernel
theorem dX10_record_27 : decode cX10_record 27 = .ok (.baload, 1) := by decide +kernel
theorem dX10_record_28 : decode cX10_record 28 = .ok (.ifCond .eq 15, 3) := by decide +kernel
theorem dX10_record_31 : decode cX10_record 31 = .ok (.aload_n 0, 1) := by decide +kernel
theorem dX10_record_32 : decode cX10_record 32 = .ok (.iload_n 2, 1) := by decide +kernel
theorem dX10_record_33 : decode cX10_record 33 = .ok (.invokevirtual 200, 3) := by decide +kernel
theorem dX10_record_36 : decode cX10_record 36 = .ok (.ifCond .ne 7, 3) := by decide +kernel
theorem dX10_record_39 : decode cX10_record 39 = .ok (.iconst 1, 1) := by decide +kernel
theorem dX10_record_40 : decode cX10_record 40 = .ok (.goto 4, 3) := by decide +kernel
theorem dX10_record_43 : decode cX10_record 43 = .ok (.iconst 0, 1) := by decide +kernel
theorem dX10_record_44 : decode cX10_record 44 = .ok (.bastore, 1) := by decide +kernel
theorem dX10_record_45 : decode cX10_record 45 = .ok (.iinc 2 1, 3) := by decide +kernel
theorem dX10_record_48 : decode cX10_record 48 = .ok (.goto (-39), 3) := by decide +kernel
theorem dX10_record_51 : decode cX10_record 51 = .ok (.iconst 0, 1) := by decide +kernel
theorem dX10_record_52 : decode cX10_record 52 = .ok (.istore_n 2, 1) := by decide +kernel
theorem dX10_record_53 : decode cX10_record 53 = .ok (.iload_n 2, 1) := by decide +kernel
theorem dX10_record_54 : decode cX10_record 54 = .ok (.aload_n 0, 1) := by decide +kernel
theorem dX10_record_55 : decode cX10_record 55 = .ok (.getfield 112, 3) := by decide +kernel
theorem dX10_record_58 : decode cX10_record 58 = .ok (.if_icmp .ge 79, 3) := by decide +kernel
theorem dX10_record_61 : decode cX10_record 61 = .ok (.iconst 0, 1) := by decide +kernel
theorem dX10_record_62 : decode cX10_record 62 = .ok (.istore_n 3, 1) := by decide +kernel
theorem dX10_record_63 : decode cX10_record 63 = .ok (.iconst 0, 1) := by decide +kernel
theorem dX10_record_64 : decode cX10_record 64 = .ok (.istore 4, 2) := by decide +kernel
theorem dX10_record_66 : decode cX10_record 66 = .ok (.iload 4, 2) := by decide +kernel
theorem dX10_record_68 : decode cX10_record 68 = .ok (.aload_n 0, 1) := by decide +kernel
theorem dX10_record_69 : decode cX10_record 69 = .ok (.getfield 112, 3) := by decide +kernel
theorem dX10_record_72 : decode cX10_record 72 = .ok (.if_icmp .ge 43, 3) := by decide +kernel
theorem dX10_record_75 : decode cX10_record 75 = .ok (.iload_n 3, 1) := by decide +kernel
theorem dX10_record_76 : decode cX10_record 76 = .ok (.aload_n 0, 1) := by decide +kernel
theorem dX10_record_77 : decode cX10_record 77 = .ok (.getfield 105, 3) := by decide +kernel
theorem dX10_record_80 : decode cX10_record 80 = .ok (.iload 4, 2) := by decide +kernel
theorem dX10_record_82 : decode cX10_record 82 = .ok (.baload, 1) := by decide +kernel
theorem dX10_record_83 : decode cX10_record 83 = .ok (.ifCond .eq 23, 3) := by decide +kernel
theorem dX10_record_86 : decode cX10_record 86 = .ok (.iload 4, 2) := by decide +kernel
theorem dX10_record_88 : decode cX10_record 88 = .ok (.iload_n 2, 1) := by decide +kernel
theorem dX10_record_89 : decode cX10_record 89 = .ok (.if_icmp .eq 17, 3) := by decide +kernel
theorem dX10_record_92 : decode cX10_record 92 = .ok (.aload_n 0, 1) := by decide +kernel
theorem dX10_record_93 : decode cX10_record 93 = .ok (.iload 4, 2) := by decide +kernel
theorem dX10_record_95 : decode cX10_record 95 = .ok (.iload_n 2, 1) := by decide +kernel
theorem dX10_record_96 : decode cX10_record 96 = .ok (.invokevirtual 209, 3) := by decide +kernel
theorem dX10_record_99 : decode cX10_record 99 = .ok (.ifCond .eq 7, 3) := by decide +kernel
theorem dX10_record_102 : decode cX10_record 102 = .ok (.iconst 1, 1) := by decide +kernel
theorem dX10_record_103 : decode cX10_record 103 = .ok (.goto 4, 3) := by decide +kernel
theorem dX10_record_106 : decode cX10_record 106 = .ok (.iconst 0, 1) := by decide +kernel
theorem dX10_record_107 : decode cX10_record 107 = .ok (.iadd, 1) := by decide +kernel
theorem dX10_record_108 : decode cX10_record 108 = .ok (.istore_n 3, 1) := by decide +kernel
theorem dX10_record_109 : decode cX10_record 109 = .ok (.iinc 4 1, 3) := by decide +kernel
theorem dX10_record_112 : decode cX10_record 112 = .ok (.goto (-46), 3) := by decide +kernel
theorem dX10_record_115 : decode cX10_record 115 = .ok (.aload_n 0, 1) := by decide +kernel
theorem dX10_record_116 : decode cX10_record 116 = .ok (.getfield 105, 3) := by decide +kernel
theorem dX10_record_119 : decode cX10_record 119 = .ok (.iload_n 2, 1) := by decide +kernel
theorem dX10_record_120 : decode cX10_record 120 = .ok (.baload, 1) := by decide +kernel
theorem dX10_record_121 : decode cX10_record 121 = .ok (.ifCond .eq 10, 3) := by decide +kernel
theorem dX10_record_124 : decode cX10_record 124 = .ok (.iload_n 3, 1) := by decide +kernel
theorem dX10_record_125 : decode cX10_record 125 = .ok (.iload_n 1, 1) := by decide +kernel
theorem dX10_record_126 : decode cX10_record 126 = .ok (.if_icmp .ne 5, 3) := by decide +kernel
theorem dX10_record_129 : decode cX10_record 129 = .ok (.iload_n 2, 1) := by decide +kernel
theorem dX10_record_130 : decode cX10_record 130 = .ok (.ireturn, 1) := by decide +kernel
theorem dX10_record_131 : decode cX10_record 131 = .ok (.iinc 2 1, 3) := by decide +kernel
theorem dX10_record_134 : decode cX10_record 134 = .ok (.goto (-81), 3) := by decide +kernel
theorem dX10_record_137 : decode cX10_record 137 = .ok (.iconst (-1), 1) := by decide +kernel
theorem dX10_record_138 : decode cX10_record 138 = .ok (.ireturn, 1) := by decide +kernel
theorem dX10_count_0 : decode cX10_count 0 = .ok (.iconst 0, 1) := by decide +kernel
theorem dX10_count_1 : decode cX10_count 1 = .ok (.istore_n 2, 1) := by decide +kernel
theorem dX10_count_2 : decode cX10_count 2 = .ok (.iload_n 1, 1) := by decide +kernel
theorem dX10_count_3 : decode cX10_count 3 = .ok (.tableswitch 192 0 6 #[41, 46, 51, 56, 91, 96, 131], 41) := by decide +kernel
theorem dX10_count_44 : decode cX10_count 44 = .ok (.aload_n 0, 1) := by decide +kernel
theorem dX10_count_45 : decode cX10_count 45 = .ok (.getfield 7, 3) := by decide +kernel
theorem dX10_count_48 : decode cX10_count 48 = .ok (.ireturn, 1) := by decide +kernel
theorem dX10_count_49 : decode cX10_count 49 = .ok (.aload_n 0, 1) := by decide +kernel
theorem dX10_count_50 : decode cX10_count 50 = .ok (.getfield 13, 3) := by decide +kernel
theorem dX10_count_53 : decode cX10_count 53 = .ok (.ireturn, 1) := by decide +kernel
theorem dX10_count_54 : decode cX10_count 54 = .ok (.aload_n 0, 1) := by decide +kernel
theorem dX10_count_55 : decode cX10_count 55 = .ok (.getfield 112, 3) := by decide +kernel
theorem dX10_count_58 : decode cX10_count 58 = .ok (.ireturn, 1) := by decide +kernel
theorem dX10_count_59 : decode cX10_count 59 = .ok (.iconst 0, 1) := by decide +kernel
theorem dX10_count_60 : decode cX10_count 60 = .ok (.istore_n 3, 1) := by decide +kernel
theorem dX10_count_61 : decode cX10_count 61 = .ok (.iload_n 3, 1) := by decide +kernel
theorem dX10_count_62 : decode cX10_count 62 = .ok (.aload_n 0, 1) := by decide +kernel
theorem dX10_count_63 : decode cX10_count 63 = .ok (.getfield 112, 3) := by decide +kernel
theorem dX10_count_66 : decode cX10_count 66 = .ok (.if_icmp .ge 26, 3) := by decide +kernel
theorem dX10_count_69 : decode cX10_count 69 = .ok (.iload_n 2, 1) := by decide +kernel
theorem dX10_count_70 : decode cX10_count 70 = .ok (.aload_n 0, 1) := by decide +kernel
theorem dX10_count_71 : decode cX10_count 71 = .ok (.getfield 59, 3) := by decide +kernel
theorem dX10_count_74 : decode cX10_count 74 = .ok (.iload_n 3, 1) := by decide +kernel
theorem dX10_count_75 : decode cX10_count 75 = .ok (.baload, 1) := by decide +kernel
theorem dX10_count_76 : decode cX10_count 76 = .ok (.ifCond .eq 7, 3) := by decide +kernel
theorem dX10_count_79 : decode cX10_count 79 = .ok (.iconst 0, 1) := by decide +kernel
theorem dX10_count_80 : decode cX10_count 80 = .ok (.goto 4, 3) := by decide +kernel
theorem dX10_count_83 : decode cX10_count 83 = .ok (.iconst 1, 1) := by decide +kernel
theorem dX10_count_84 : decode cX10_count 84 = .ok (.iadd, 1) := by decide +kernel
theorem dX10_count_85 : decode cX10_count 85 = .ok (.istore_n 2, 1) := by decide +kernel
theorem dX10_count_86 : decode cX10_count 86 = .ok (.iinc 3 1, 3) := by decide +kernel
theorem dX10_count_89 : decode cX10_count 89 = .ok (.goto (-28), 3) := by decide +kernel
theorem dX10_count_92 : decode cX10_count 92 = .ok (.iload_n 2, 1) := by decide +kernel
theorem dX10_count_93 : decode cX10_count 93 = .ok (.ireturn, 1) := by decide +kernel
theorem dX10_count_94 : decode cX10_count 94 = .ok (.aload_n 0, 1) := by decide +kernel
theorem dX10_count_95 : decode cX10_count 95 = .ok (.getfield 115, 3) := by decide +kernel
theorem dX10_count_98 : decode cX10_count 98 = .ok (.ireturn, 1) := by decide +kernel
theorem dX10_count_99 : decode cX10_count 99 = .ok (.iconst 0, 1) := by decide +kernel
theorem dX10_count_100 : decode cX10_count 100 = .ok (.istore_n 3, 1) := by decide +kernel
theorem dX10_count_101 : decode cX10_count 101 = .ok (.iload_n 3, 1) := by decide +kernel
theorem dX10_count_102 : decode cX10_count 102 = .ok (.sipush 576, 3) := by decide +kernel
theorem dX10_count_105 : decode cX10_count 105 = .ok (.if_icmp .ge 27, 3) := by decide +kernel
theorem dX10_count_108 : decode cX10_count 108 = .ok (.iload_n 2, 1) := by decide +kernel
theorem dX10_count_109 : decode cX10_count 109 = .ok (.aload_n 0, 1) := by decide +kernel
theorem dX10_count_110 : decode cX10_count 110 = .ok (.getfield 16, 3) := by decide +kernel
theorem dX10_count_113 : decode cX10_count 113 = .ok (.iload_n 3, 1) := by decide +kernel
theorem dX10_count_114 : decode cX10_count 114 = .ok (.iaload, 1) := by decide +kernel
theorem dX10_count_115 : decode cX10_count 115 = .ok (.iconst 2, 1) := by decide +kernel
theorem dX10_count_116 : decode cX10_count 116 = .ok (.if_icmp .ne 7, 3) := by decide +kernel
theorem dX10_count_119 : decode cX10_count 119 = .ok (.iconst 1, 1) := by decide +kernel
theorem dX10_count_120 : decode cX10_count 120 = .ok (.goto 4, 3) := by decide +kernel
theorem dX10_count_123 : decode cX10_count 123 = .ok (.iconst 0, 1) := by decide +kernel
theorem dX10_count_124 : decode cX10_count 124 = .ok (.iadd, 1) := by decide +kernel
theorem dX10_count_125 : decode cX10_count 125 = .ok (.istore_n 2, 1) := by decide +kernel
theorem dX10_count_126 : decode cX10_count 126 = .ok (.iinc 3 1, 3) := by decide +kernel
theorem dX10_count_129 : decode cX10_count 129 = .ok (.goto (-28), 3) := by decide +kernel
theorem dX10_count_132 : decode cX10_count 132 = .ok (.iload_n 2, 1) := by decide +kernel
theorem dX10_count_133 : decode cX10_count 133 = .ok (.ireturn, 1) := by decide +kernel
theorem dX10_count_134 : decode cX10_count 134 = .ok (.iconst 0, 1) := by decide +kernel
theorem dX10_count_135 : decode cX10_count 135 = .ok (.istore_n 3, 1) := by decide +kernel
theorem dX10_count_136 : decode cX10_count 136 = .ok (.iload_n 3, 1) := by decide +kernel
theorem dX10_count_137 : decode cX10_count 137 = .ok (.aload_n 0, 1) := by decide +kernel
theorem dX10_count_138 : decode cX10_count 138 = .ok (.getfield 112, 3) := by decide +kernel
theorem dX10_count_141 : decode cX10_count 141 = .ok (.if_icmp .ge 52, 3) := by decide +kernel
theorem dX10_count_144 : decode cX10_count 144 = .ok (.iconst 0, 1) := by decide +kernel
theorem dX10_count_145 : decode cX10_count 145 = .ok (.istore 4, 2) := by decide +kernel
theorem dX10_count_147 : decode cX10_count 147 = .ok (.iload 4, 2) := by decide +kernel
theorem dX10_count_149 : decode cX10_count 149 = .ok (.aload_n 0, 1) := by decide +kernel
theorem dX10_count_150 : decode cX10_count 150 = .ok (.getfield 66, 3) := by decide +kernel
theorem dX10_count_153 : decode cX10_count 153 = .ok (.iload_n 3, 1) := by decide +kernel
theorem dX10_count_154 : decode cX10_count 154 = .ok (.iaload, 1) := by decide +kernel
theorem dX10_count_155 : decode cX10_count 155 = .ok (.if_icmp .ge 32, 3) := by decide +kernel
theorem dX10_count_158 : decode cX10_count 158 = .ok (.iload_n 2, 1) := by decide +kernel
theorem dX10_count_159 : decode cX10_count 159 = .ok (.aload_n 0, 1) := by decide +kernel
theorem dX10_count_160 : decode cX10_count 160 = .ok (.getfield 75, 3) := by decide +kernel
theorem dX10_count_163 : decode cX10_count 163 = .ok (.bipush 61, 2) := by decide +kernel
theorem dX10_count_165 : decode cX10_count 165 = .ok (.iload_n 3, 1) := by decide +kernel
theorem dX10_count_166 : decode cX10_count 166 = .ok (.imul, 1) := by decide +kernel
theorem dX10_count_167 : decode cX10_count 167 = .ok (.iload 4, 2) := by decide +kernel
theorem dX10_count_169 : decode cX10_count 169 = .ok (.iadd, 1) := by decide +kernel
theorem dX10_count_170 : decode cX10_count 170 = .ok (.baload, 1) := by decide +kernel
theorem dX10_count_171 : decode cX10_count 171 = .ok (.ifCond .eq 7, 3) := by decide +kernel
theorem dX10_count_174 : decode cX10_count 174 = .ok (.iconst 1, 1) := by decide +kernel
theorem dX10_count_175 : decode cX10_count 175 = .ok (.goto 4, 3) := by decide +kernel
theorem dX10_count_178 : decode cX10_count 178 = .ok (.iconst 0, 1) := by decide +kernel
theorem dX10_count_179 : decode cX10_count 179 = .ok (.iadd, 1) := by decide +kernel
theorem dX10_count_180 : decode cX10_count 180 = .ok (.istore_n 2, 1) := by decide +kernel
theorem dX10_count_181 : decode cX10_count 181 = .ok (.iinc 4 1, 3) := by decide +kernel
theorem dX10_count_184 : decode cX10_count 184 = .ok (.goto (-37), 3) := by decide +kernel
theorem dX10_count_187 : decode cX10_count 187 = .ok (.iinc 3 1, 3) := by decide +kernel
theorem dX10_count_190 : decode cX10_count 190 = .ok (.goto (-54), 3) := by decide +kernel
theorem dX10_count_193 : decode cX10_count 193 = .ok (.iload_n 2, 1) := by decide +kernel
theorem dX10_count_194 : decode cX10_count 194 = .ok (.ireturn, 1) := by decide +kernel
theorem dX10_count_195 : decode cX10_count 195 = .ok (.bipush (-2), 2) := by decide +kernel
theorem dX10_count_197 : decode cX10_count 197 = .ok (.ireturn, 1) := by decide +kernel
set_option maxRecDepth 20000 in
theorem ggX10_digest_X10_count : GoodIn wsX10_digest wsX10_count := goodIn_r _ [12, 13, 14, 3, 15, 5, 16, 4, 17, 46, 47, 48, 49, 50, 51, 52, 53, 54, 55, 56, 57, 58, 59, 60, 61, 62, 63, 64, 65, 66, 67, 68, 69, 70, 71, 72, 73, 74, 75, 76, 77, 78, 79, 80, 81, 82, 83, 84, 85, 86, 87, 88] (by decide +kernel) (by decide +kernel)
set_option maxRecDepth 20000 in
theorem gX10_digest_X10_count : GoodIn wsX10_digest (wsV RX10 216 RX10 yX10_count wsX10_count) := goodIn_app (goodIn_of _ (by decide +kernel)) ggX10_digest_X10_count
set_option maxRecDepth 20000 in
theorem ggX10_digest_X10_about : GoodIn wsX10_digest wsX10_about := goodIn_r _ [21, 22, 23, 24, 25, 26, 27, 28, 15, 4, 29, 30, 31, 32, 33, 34, 35, 11, 36, 3, 37, 38, 39, 46, 47, 48, 49, 50, 51, 52, 53, 54, 55, 56, 57, 58, 59, 60, 61, 62, 63, 64, 65, 66, 67, 68, 69, 70, 71, 72, 73, 74, 75, 76, 77, 78, 79, 80, 81, 82, 83, 84, 85, 86, 87, 88] (by decide +kernel) (by decide +kernel)
set_option maxRecDepth 20000 in
theorem gX10_digest_X10_about : GoodIn wsX10_digest (wsV RX10 219 RX10 yX10_about wsX10_about) := goodIn_app (goodIn_of _ (by decide +kernel)) ggX10_digest_X10_about
set_option maxRecDepth 20000 in
theorem ggX10_digest_X10_entry : GoodIn wsX10_digest wsX10_entry := goodIn_r _ [43, 4, 17, 44, 45, 33, 34, 35, 11, 36, 3, 37, 38, 39, 46, 47, 48, 49, 50, 51, 52, 53, 54, 55, 56, 57, 58, 59, 60, 61, 62, 63, 64, 65, 66, 67, 68, 69, 70, 71, 72, 73, 74, 75, 76, 77, 78, 79, 80, 81, 82, 83, 84, 85, 86, 87, 88] (by decide +kernel) (by decide +kernel)
set_option maxRecDepth 20000 in
theorem gX10_digest_X10_entry : GoodIn wsX10_digest (wsV RX10 222 RX10 yX10_entry wsX10_entry) := goodIn_app (goodIn_of _ (by decide +kernel)) ggX10_digest_X10_entry
theorem dX10_digest_0 : decode cX10_digest 0 = .ok (.ldc2_w 212, 3) := by decide +kernel
theorem dX10_digest_3 : decode cX10_digest 3 = .ok (.lstore_n 1, 1) := by decide +kernel
theorem dX10_digest_4 : decode cX10_digest 4 = .ok (.iconst 0, 1) := by decide +kernel
theorem dX10_digest_5 : decode cX10_digest 5 = .ok (.istore_n 3, 1) := by decide +kernel
theorem dX10_digest_6 : decode cX10_digest 6 = .ok (.iload_n 3, 1) := by decide +kernel
theorem dX10_digest_7 : decode cX10_digest 7 = .ok (.bipush 7, 2) := by decide +kernel
theorem dX10_digest_9 : decode cX10_digest 9 = .ok (.if_icmp .ge 22, 3) := by decide +kernel
theorem dX10_digest_12 : decode cX10_digest 12 = .ok (.ldc2_w 214, 3) := by decide +kernel
theorem dX10_digest_15 : decode cX10_digest 15 = .ok (.lload_n 1, 1) := by decide +kernel
theorem dX10_digest_16 : decode cX10_digest 16 = .ok (.lmul, 1) := by decide +kernel
theorem dX10_digest_17 : decode cX10_digest 17 = .ok (.aload_n 0, 1) := by decide +kernel
theorem dX10_digest_18 : decode cX10_digest 18 = .ok (.iload_n 3, 1) := by decide +kernel
theorem dX10_digest_19 : decode cX10_digest 19 = .ok (.invokevirtual 216, 3) := by decide +kernel
theorem dX10_digest_22 : decode cX10_digest 22 = .ok (.i2l, 1) := by decide +kernel
theorem dX10_digest_23 : decode cX10_digest 23 = .ok (.ladd, 1) := by decide +kernel
theorem dX10_digest_24 : decode cX10_digest 24 = .ok (.lstore_n 1, 1) := by decide +kernel
theorem dX10_digest_25 : decode cX10_digest 25 = .ok (.iinc 3 1, 3) := by decide +kernel
theorem dX10_digest_28 : decode cX10_digest 28 = .ok (.goto (-22), 3) := by decide +kernel
theorem dX10_digest_31 : decode cX10_digest 31 = .ok (.iconst 0, 1) := by decide +kernel
theorem dX10_digest_32 : decode cX10_digest 32 = .ok (.istore_n 3, 1) := by decide +kernel
theorem dX10_digest_33 : decode cX10_digest 33 = .ok (.iload_n 3, 1) := by decide +kernel
theorem dX10_digest_34 : decode cX10_digest 34 = .ok (.aload_n 0, 1) := by decide +kernel
theorem dX10_digest_35 : decode cX10_digest 35 = .ok (.getfield 112, 3) := by decide +kernel
theorem dX10_digest_38 : decode cX10_digest 38 = .ok (.if_icmp .ge 92, 3) := by decide +kernel
theorem dX10_digest_41 : decode cX10_digest 41 = .ok (.iconst 0, 1) := by decide +kernel
theorem dX10_digest_42 : decode cX10_digest 42 = .ok (.istore 4, 2) := by decide +kernel
theorem dX10_digest_44 : decode cX10_digest 44 = .ok (.iload 4, 2) := by decide +kernel
theorem dX10_digest_46 : decode cX10_digest 46 = .ok (.bipush 10, 2) := by decide +kernel
theorem dX10_digest_48 : decode cX10_digest 48 = .ok (.if_icmp .ge 24, 3) := by decide +kernel
theorem dX10_digest_51 : decode cX10_digest 51 = .ok (.ldc2_w 214, 3) := by decide +kernel
theorem dX10_digest_54 : decode cX10_digest 54 = .ok (.lload_n 1, 1) := by decide +kernel
theorem dX10_digest_55 : decode cX10_digest 55 = .ok (.lmul, 1) := by decide +kernel
theorem dX10_digest_56 : decode cX10_digest 56 = .ok (.aload_n 0, 1) := by decide +kernel
theorem dX10_digest_57 : decode cX10_digest 57 = .ok (.iload_n 3, 1) := by decide +kernel
theorem dX10_digest_58 : decode cX10_digest 58 = .ok (.iload 4, 2) := by decide +kernel
theorem dX10_digest_60 : decode cX10_digest 60 = .ok (.invokevirtual 219, 3) := by decide +kernel
theorem dX10_digest_63 : decode cX10_digest 63 = .ok (.i2l, 1) := by decide +kernel
theorem dX10_digest_64 : decode cX10_digest 64 = .ok (.ladd, 1) := by decide +kernel
theorem dX10_digest_65 : decode cX10_digest 65 = .ok (.lstore_n 1, 1) := by decide +kernel
theorem dX10_digest_66 : decode cX10_digest 66 = .ok (.iinc 4 1, 3) := by decide +kernel
theorem dX10_digest_69 : decode cX10_digest 69 = .ok (.goto (-25), 3) := by decide +kernel
theorem dX10_digest_72 : decode cX10_digest 72 = .ok (.iconst 0, 1) := by decide +kernel
theorem dX10_digest_73 : decode cX10_digest 73 = .ok (.istore 4, 2) := by decide +kernel
theorem dX10_digest_75 : decode cX10_digest 75 = .ok (.iload 4, 2) := by decide +kernel
theorem dX10_digest_77 : decode cX10_digest 77 = .ok (.aload_n 0, 1) := by decide +kernel
theorem dX10_digest_78 : decode cX10_digest 78 = .ok (.getfield 66, 3) := by decide +kernel
theorem dX10_digest_81 : decode cX10_digest 81 = .ok (.iload_n 3, 1) := by decide +kernel
theorem dX10_digest_82 : decode cX10_digest 82 = .ok (.iaload, 1) := by decide +kernel
theorem dX10_digest_83 : decode cX10_digest 83 = .ok (.if_icmp .ge 41, 3) := by decide +kernel
theorem dX10_digest_86 : decode cX10_digest 86 = .ok (.iconst 0, 1) := by decide +kernel
theorem dX10_digest_87 : decode cX10_digest 87 = .ok (.istore 5, 2) := by decide +kernel
theorem dX10_digest_89 : decode cX10_digest 89 = .ok (.iload 5, 2) := by decide +kernel
theorem dX10_digest_91 : decode cX10_digest 91 = .ok (.iconst 3, 1) := by decide +kernel
theorem dX10_digest_92 : decode cX10_digest 92 = .ok (.if_icmp .ge 26, 3) := by decide +kernel
theorem dX10_digest_95 : decode cX10_digest 95 = .ok (.ldc2_w 214, 3) := by decide +kernel
theorem dX10_digest_98 : decode cX10_digest 98 = .ok (.lload_n 1, 1) := by decide +kernel
theorem dX10_digest_99 : decode cX10_digest 99 = .ok (.lmul, 1) := by decide +kernel
theorem dX10_digest_100 : decode cX10_digest 100 = .ok (.aload_n 0, 1) := by decide +kernel
theorem dX10_digest_101 : decode cX10_digest 101 = .ok (.iload_n 3, 1) := by decide +kernel
theorem dX10_digest_102 : decode cX10_digest 102 = .ok (.iload 4, 2) := by decide +kernel
theorem dX10_digest_104 : decode cX10_digest 104 = .ok (.iload 5, 2) := by decide +kernel
theorem dX10_digest_106 : decode cX10_digest 106 = .ok (.invokevirtual 222, 3) := by decide +kernel
theorem dX10_digest_109 : decode cX10_digest 109 = .ok (.i2l, 1) := by decide +kernel
theorem dX10_digest_110 : decode cX10_digest 110 = .ok (.ladd, 1) := by decide +kernel
theorem dX10_digest_111 : decode cX10_digest 111 = .ok (.lstore_n 1, 1) := by decide +kernel
theorem dX10_digest_112 : decode cX10_digest 112 = .ok (.iinc 5 1, 3) := by decide +kernel
theorem dX10_digest_115 : decode cX10_digest 115 = .ok (.goto (-26), 3) := by decide +kernel
theorem dX10_digest_118 : decode cX10_digest 118 = .ok (.iinc 4 1, 3) := by decide +kernel
theorem dX10_digest_121 : decode cX10_digest 121 = .ok (.goto (-46), 3) := by decide +kernel
theorem dX10_digest_124 : decode cX10_digest 124 = .ok (.iinc 3 1, 3) := by decide +kernel
theorem dX10_digest_127 : decode cX10_digest 127 = .ok (.goto (-94), 3) := by decide +kernel
theorem dX10_digest_130 : decode cX10_digest 130 = .ok (.iconst 0, 1) := by decide +kernel
theorem dX10_digest_131 : decode cX10_digest 131 = .ok (.istore_n 3, 1) := by decide +kernel
theorem dX10_digest_132 : decode cX10_digest 132 = .ok (.iload_n 3, 1) := by decide +kernel
theorem dX10_digest_133 : decode cX10_digest 133 = .ok (.aload_n 0, 1) := by decide +kernel
theorem dX10_digest_134 : decode cX10_digest 134 = .ok (.getfield 115, 3) := by decide +kernel
theorem dX10_digest_137 : decode cX10_digest 137 = .ok (.if_icmp .ge 35, 3) := by decide +kernel
theorem dX10_digest_140 : decode cX10_digest 140 = .ok (.ldc2_w 214, 3) := by decide +kernel
theorem dX10_digest_143 : decode cX10_digest 143 = .ok (.ldc2_w 214, 3) := by decide +kernel
theorem dX10_digest_146 : decode cX10_digest 146 = .ok (.lload_n 1, 1) := by decide +kernel
theorem dX10_digest_147 : decode cX10_digest 147 = .ok (.lmul, 1) := by decide +kernel
theorem dX10_digest_148 : decode cX10_digest 148 = .ok (.aload_n 0, 1) := by decide +kernel
theorem dX10_digest_149 : decode cX10_digest 149 = .ok (.getfield 78, 3) := by decide +kernel
theorem dX10_digest_152 : decode cX10_digest 152 = .ok (.iload_n 3, 1) := by decide +kernel
theorem dX10_digest_153 : decode cX10_digest 153 = .ok (.iaload, 1) := by decide +kernel
theorem dX10_digest_154 : decode cX10_digest 154 = .ok (.i2l, 1) := by decide +kernel
theorem dX10_digest_155 : decode cX10_digest 155 = .ok (.ladd, 1) := by decide +kernel
theorem dX10_digest_156 : decode cX10_digest 156 = .ok (.lmul, 1) := by decide +kernel
theorem dX10_digest_157 : decode cX10_digest 157 = .ok (.aload_n 0, 1) := by decide +kernel
theorem dX10_digest_158 : decode cX10_digest 158 = .ok (.getfield 81, 3) := by decide +kernel
theorem dX10_digest_161 : decode cX10_digest 161 = .ok (.iload_n 3, 1) := by decide +kernel
theorem dX10_digest_162 : decode cX10_digest 162 = .ok (.iaload, 1) := by decide +kernel
theorem dX10_digest_163 : decode cX10_digest 163 = .ok (.i2l, 1) := by decide +kernel
theorem dX10_digest_164 : decode cX10_digest 164 = .ok (.ladd, 1) := by decide +kernel
theorem dX10_digest_165 : decode cX10_digest 165 = .ok (.lstore_n 1, 1) := by decide +kernel
theorem dX10_digest_166 : decode cX10_digest 166 = .ok (.iinc 3 1, 3) := by decide +kernel
theorem dX10_digest_169 : decode cX10_digest 169 = .ok (.goto (-37), 3) := by decide +kernel
theorem dX10_digest_172 : decode cX10_digest 172 = .ok (.lload_n 1, 1) := by decide +kernel
theorem dX10_digest_173 : decode cX10_digest 173 = .ok (.lreturn, 1) := by decide +kernel
theorem dJ9_max_7cf53_0 : decode cJ9_max_7cf53 0 = .ok (.iload_n 0, 1) := by decide +kernel
theorem dJ9_max_7cf53_1 : decode cJ9_max_7cf53 1 = .ok (.iload_n 1, 1) := by decide +kernel
theorem dJ9_max_7cf53_2 : decode cJ9_max_7cf53 2 = .ok (.if_icmp .lt 7, 3) := by decide +kernel
theorem dJ9_max_7cf53_5 : decode cJ9_max_7cf53 5 = .ok (.iload_n 0, 1) := by decide +kernel
theorem dJ9_max_7cf53_6 : decode cJ9_max_7cf53 6 = .ok (.goto 4, 3) := by decide +kernel
theorem dJ9_max_7cf53_9 : decode cJ9_max_7cf53 9 = .ok (.iload_n 1, 1) := by decide +kernel
theorem dJ9_max_7cf53_10 : decode cJ9_max_7cf53 10 = .ok (.ireturn, 1) := by decide +kernel
theorem dJ9_min_7cf53_0 : decode cJ9_min_7cf53 0 = .ok (.iload_n 0, 1) := by decide +kernel
theorem dJ9_min_7cf53_1 : decode cJ9_min_7cf53 1 = .ok (.iload_n 1, 1) := by decide +kernel
theorem dJ9_min_7cf53_2 : decode cJ9_min_7cf53 2 = .ok (.if_icmp .gt 7, 3) := by decide +kernel
theorem dJ9_min_7cf53_5 : decode cJ9_min_7cf53 5 = .ok (.iload_n 0, 1) := by decide +kernel
theorem dJ9_min_7cf53_6 : decode cJ9_min_7cf53 6 = .ok (.goto 4, 3) := by decide +kernel
theorem dJ9_min_7cf53_9 : decode cJ9_min_7cf53 9 = .ok (.iload_n 1, 1) := by decide +kernel
theorem dJ9_min_7cf53_10 : decode cJ9_min_7cf53 10 = .ok (.ireturn, 1) := by decide +kernel
theorem dJ7_fill_53178_0 : decode cJ7_fill_53178 0 = .ok (.iconst 0, 1) := by decide +kernel
theorem dJ7_fill_53178_1 : decode cJ7_fill_53178 1 = .ok (.istore_n 2, 1) := by decide +kernel
theorem dJ7_fill_53178_2 : decode cJ7_fill_53178 2 = .ok (.aload_n 0, 1) := by decide +kernel
theorem dJ7_fill_53178_3 : decode cJ7_fill_53178 3 = .ok (.arraylength, 1) := by decide +kernel
theorem dJ7_fill_53178_4 : decode cJ7_fill_53178 4 = .ok (.istore_n 3, 1) := by decide +kernel
theorem dJ7_fill_53178_5 : decode cJ7_fill_53178 5 = .ok (.iload_n 2, 1) := by decide +kernel
theorem dJ7_fill_53178_6 : decode cJ7_fill_53178 6 = .ok (.iload_n 3, 1) := by decide +kernel
theorem dJ7_fill_53178_7 : decode cJ7_fill_53178 7 = .ok (.if_icmp .ge 13, 3) := by decide +kernel
theorem dJ7_fill_53178_10 : decode cJ7_fill_53178 10 = .ok (.aload_n 0, 1) := by decide +kernel
theorem dJ7_fill_53178_11 : decode cJ7_fill_53178 11 = .ok (.iload_n 2, 1) := by decide +kernel
theorem dJ7_fill_53178_12 : decode cJ7_fill_53178 12 = .ok (.iload_n 1, 1) := by decide +kernel
theorem dJ7_fill_53178_13 : decode cJ7_fill_53178 13 = .ok (.iastore, 1) := by decide +kernel
theorem dJ7_fill_53178_14 : decode cJ7_fill_53178 14 = .ok (.iinc 2 1, 3) := by decide +kernel
theorem dJ7_fill_53178_17 : decode cJ7_fill_53178 17 = .ok (.goto (-12), 3) := by decide +kernel
theorem dJ7_fill_53178_20 : decode cJ7_fill_53178 20 = .ok (.return_, 1) := by decide +kernel
end
