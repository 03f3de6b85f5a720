section
-- ===== PART A: goes FIRST, ahead of the names: the tables' words, and 'selects' of the private methods out of them =====
/-- a private method of a class that the tables say can be made, by its rows of tables_1 -/
def lw_okq (q : MethodName × Nat) : Prop := (q.1.cls ≠ "java/lang/invoke/MethodHandle" ∧ q.1.cls ≠ "java/lang/invoke/VarHandle") ∧ Cond.instantiable q.1.cls q.2 ∈ tables_1 ∧ Cond.privateMethod q.1 ∈ tables_1 ∧ Cond.instanceMethod q.1 ∈ tables_1
theorem lw_p0 : lw_okq (⟨"DishPointer$State", "isLowWayTaken", "()Z"⟩, 11) := ⟨⟨by decide +kernel, by decide +kernel⟩, List.mem_of_getElem? (i := 19) (by decide +kernel), List.mem_of_getElem? (i := 359) (by decide +kernel), List.mem_of_getElem? (i := 360) (by decide +kernel)⟩
theorem lw_p1 : lw_okq (⟨"DishPointer$History", "dropOldest", "()V"⟩, 2) := ⟨⟨by decide +kernel, by decide +kernel⟩, List.mem_of_getElem? (i := 209) (by decide +kernel), List.mem_of_getElem? (i := 392) (by decide +kernel), List.mem_of_getElem? (i := 393) (by decide +kernel)⟩
theorem lw_p2 : lw_okq (⟨"DishPointer$State", "beginHold", "()V"⟩, 11) := ⟨⟨by decide +kernel, by decide +kernel⟩, List.mem_of_getElem? (i := 19) (by decide +kernel), List.mem_of_getElem? (i := 522) (by decide +kernel), List.mem_of_getElem? (i := 523) (by decide +kernel)⟩
theorem lw_p3 : lw_okq (⟨"DishPointer$State", "endWhatIsOver", "()V"⟩, 11) := ⟨⟨by decide +kernel, by decide +kernel⟩, List.mem_of_getElem? (i := 19) (by decide +kernel), List.mem_of_getElem? (i := 527) (by decide +kernel), List.mem_of_getElem? (i := 528) (by decide +kernel)⟩
theorem lw_p4 : lw_okq (⟨"DishPointer$State", "goOnWith", "(LDishPointer$Target;)V"⟩, 11) := ⟨⟨by decide +kernel, by decide +kernel⟩, List.mem_of_getElem? (i := 19) (by decide +kernel), List.mem_of_getElem? (i := 531) (by decide +kernel), List.mem_of_getElem? (i := 532) (by decide +kernel)⟩
theorem lw_p5 : lw_okq (⟨"DishPointer$State", "lookAtSlew", "(LDishPointer$Target;)V"⟩, 11) := ⟨⟨by decide +kernel, by decide +kernel⟩, List.mem_of_getElem? (i := 19) (by decide +kernel), List.mem_of_getElem? (i := 535) (by decide +kernel), List.mem_of_getElem? (i := 536) (by decide +kernel)⟩
theorem lw_p6 : lw_okq (⟨"DishPointer$State", "begin", "(LDishPointer$Target;)V"⟩, 11) := ⟨⟨by decide +kernel, by decide +kernel⟩, List.mem_of_getElem? (i := 19) (by decide +kernel), List.mem_of_getElem? (i := 548) (by decide +kernel), List.mem_of_getElem? (i := 549) (by decide +kernel)⟩
theorem lw_p7 : lw_okq (⟨"DishPointer$State", "nextEvent", "()I"⟩, 11) := ⟨⟨by decide +kernel, by decide +kernel⟩, List.mem_of_getElem? (i := 19) (by decide +kernel), List.mem_of_getElem? (i := 553) (by decide +kernel), List.mem_of_getElem? (i := 554) (by decide +kernel)⟩
theorem lw_p8 : lw_okq (⟨"DishPointer$State", "sooner", "(II)I"⟩, 11) := ⟨⟨by decide +kernel, by decide +kernel⟩, List.mem_of_getElem? (i := 19) (by decide +kernel), List.mem_of_getElem? (i := 557) (by decide +kernel), List.mem_of_getElem? (i := 558) (by decide +kernel)⟩
theorem lw_p9 : lw_okq (⟨"DishPointer$Target", "ifBegun", "(I)I"⟩, 14) := ⟨⟨by decide +kernel, by decide +kernel⟩, List.mem_of_getElem? (i := 107) (by decide +kernel), List.mem_of_getElem? (i := 610) (by decide +kernel), List.mem_of_getElem? (i := 611) (by decide +kernel)⟩
def lw_privs_1 : List (MethodName × Nat) := [(⟨"DishPointer$State", "isLowWayTaken", "()Z"⟩, 11), (⟨"DishPointer$History", "dropOldest", "()V"⟩, 2), (⟨"DishPointer$State", "beginHold", "()V"⟩, 11), (⟨"DishPointer$State", "endWhatIsOver", "()V"⟩, 11), (⟨"DishPointer$State", "goOnWith", "(LDishPointer$Target;)V"⟩, 11), (⟨"DishPointer$State", "lookAtSlew", "(LDishPointer$Target;)V"⟩, 11), (⟨"DishPointer$State", "begin", "(LDishPointer$Target;)V"⟩, 11), (⟨"DishPointer$State", "nextEvent", "()I"⟩, 11), (⟨"DishPointer$State", "sooner", "(II)I"⟩, 11), (⟨"DishPointer$Target", "ifBegun", "(I)I"⟩, 14)]
theorem lw_r1 : ∀ q ∈ lw_privs_1, lw_okq q := List.forall_mem_cons.mpr ⟨lw_p0, List.forall_mem_cons.mpr ⟨lw_p1, List.forall_mem_cons.mpr ⟨lw_p2, List.forall_mem_cons.mpr ⟨lw_p3, List.forall_mem_cons.mpr ⟨lw_p4, List.forall_mem_cons.mpr ⟨lw_p5, List.forall_mem_cons.mpr ⟨lw_p6, List.forall_mem_cons.mpr ⟨lw_p7, List.forall_mem_cons.mpr ⟨lw_p8, List.forall_mem_cons.mpr ⟨lw_p9, fun _ h => absurd h List.not_mem_nil⟩⟩⟩⟩⟩⟩⟩⟩⟩⟩
def lw_privs : List (MethodName × Nat) := lw_privs_1
def lw_tbl : List Cond := k2_sels lw_privs ++ tables_1
theorem lw_privs_ok : ∀ q ∈ lw_privs, lw_okq q := lw_r1
-- ===== end of PART A; then your names; then what follows =====
end
section
/-! ===== BEGIN words of one list among another's, by their places ===== -/
theorem goodIn_r {big : List Cond} (ws : List Cond) (ps : List Nat) (hp : ws = ps.filterMap (fun i => big[i]?)) (h : ws.all goodWord = true) : GoodIn big ws := by
  intro w hw
  have h1 := List.all_eq_true.mp h w hw
  rw [hp] at hw
  obtain ⟨i, -, hi⟩ := List.mem_filterMap.mp hw
  have hm : w ∈ big := by first | exact List.mem_of_getElem? hi | exact List.getElem?_mem hi
  exact ⟨hm, good_of_word h1⟩
theorem goodIn_app {big a b : List Cond} (ha : GoodIn big a) (hb : GoodIn big b) : GoodIn big (a ++ b) := fun w h => (List.mem_append.mp h).elim (ha w) (hb w)
theorem goodIn_ca {big a b : List Cond} {c : Cond} (ha : GoodIn big (c :: a)) (hb : GoodIn big b) : GoodIn big (c :: (a ++ b)) := fun w h => (List.mem_cons.mp h).elim (fun e => ha w (List.mem_cons.mpr (Or.inl e))) (fun h => (List.mem_append.mp h).elim (fun h => ha w (List.mem_cons.mpr (Or.inr h))) (hb w))
theorem goodIn_sub {big ws : List Cond} (hm : ∀ w ∈ ws, w ∈ big) (h : ws.all goodWord = true) : GoodIn big ws := fun w hw => ⟨hm w hw, good_of_word (List.all_eq_true.mp h w hw)⟩
/-! ===== END ===== -/

/-! ===== BEGIN printed: names, fields, word lists, decode rows ===== -/
def RX0 : String := "DishPointer$Axis"
def TX0 : u_T := fun k => match k with
  | 0 => ("DishPointer$Axis", "least", "I", true)
  | 1 => ("DishPointer$Axis", "most", "I", true)
  | 2 => ("DishPointer$Axis", "start", "I", true)
  | 3 => ("DishPointer$Axis", "play", "I", false)
  | 4 => ("DishPointer$Axis", "side", "I", false)
  | 5 => ("DishPointer$Axis", "speed", "I", false)
  | 6 => ("DishPointer$Axis", "motor", "I", false)
  | 7 => ("DishPointer$Axis", "slack", "I", false)
  | 8 => ("DishPointer$Axis", "wentUp", "I", false)
  | _ => ("DishPointer$Axis", "wentDown", "I", false)
def tyX0 : Nat → FieldType := fun k => match k with
  | 0 => .int
  | 1 => .int
  | 2 => .int
  | 3 => .int
  | 4 => .int
  | 5 => .int
  | 6 => .int
  | 7 => .int
  | 8 => .int
  | _ => .int
abbrev wsX00 : List Cond := u_ws RX0 TX0 10
theorem nmX0 : ∀ a, a < 10 → ∀ b, b < 10 → a ≠ b → (TX0 a).2.1 ≠ (TX0 b).2.1 := by decide +kernel
theorem tyX0_ok : ∀ k, k < 10 → parseFieldDescriptor (TX0 k).2.2.1 = some (tyX0 k) := by decide +kernel
abbrev cX0_init : ByteArray := prog_2_method_1_code
def yX0_init : MethodName := ⟨RX0, "<init>", "(IIIII)V"⟩
abbrev cX0_copyFrom : ByteArray := prog_2_method_2_code
def yX0_copyFrom : MethodName := ⟨RX0, "copyFrom", "(LDishPointer$Axis;)V"⟩
abbrev cX0_dish : ByteArray := prog_2_method_3_code
def yX0_dish : MethodName := ⟨RX0, "dish", "()I"⟩
abbrev cX0_reaches : ByteArray := prog_2_method_4_code
def yX0_reaches : MethodName := ⟨RX0, "reaches", "(I)Z"⟩
abbrev cX0_change : ByteArray := prog_2_method_5_code
def yX0_change : MethodName := ⟨RX0, "change", "(II)I"⟩
abbrev cX0_moveTo : ByteArray := prog_2_method_6_code
def yX0_moveTo : MethodName := ⟨RX0, "moveTo", "(I)V"⟩
abbrev cX0_follow : ByteArray := prog_2_method_7_code
def yX0_follow : MethodName := ⟨RX0, "follow", "(LDishPointer$Way;)V"⟩
abbrev cX0_tell : ByteArray := prog_2_method_8_code
def yX0_tell : MethodName := ⟨RX0, "tell", "(I)I"⟩
def RX1 : String := "DishPointer$History"
def TX1 : u_T := fun k => match k with
  | 0 => ("DishPointer$History", "states", "[LDishPointer$State;", true)
  | _ => ("DishPointer$History", "size", "I", false)
def tyX1 : Nat → FieldType := fun k => match k with
  | 0 => .array (.object "DishPointer$State")
  | _ => .int
abbrev wsX10 : List Cond := u_ws RX1 TX1 2
theorem nmX1 : ∀ a, a < 2 → ∀ b, b < 2 → a ≠ b → (TX1 a).2.1 ≠ (TX1 b).2.1 := by decide +kernel
theorem tyX1_ok : ∀ k, k < 2 → parseFieldDescriptor (TX1 k).2.2.1 = some (tyX1 k) := by decide +kernel
abbrev cX1_init : ByteArray := prog_3_method_1_code
def yX1_init : MethodName := ⟨RX1, "<init>", "()V"⟩
abbrev cX1_record : ByteArray := prog_3_method_2_code
def yX1_record : MethodName := ⟨RX1, "record", "(LDishPointer$State;)V"⟩
abbrev cX1_dropOldest : ByteArray := prog_3_method_3_code
def yX1_dropOldest : MethodName := ⟨RX1, "dropOldest", "()V"⟩
def RX2 : String := "DishPointer$State"
def TX2 : u_T := fun k => match k with
  | 0 => ("DishPointer$State", "time", "I", false)
  | 1 => ("DishPointer$State", "slews", "I", false)
  | 2 => ("DishPointer$State", "holds", "I", false)
  | 3 => ("DishPointer$State", "settings", "[I", true)
  | 4 => ("DishPointer$State", "gusts", "[I", true)
  | 5 => ("DishPointer$State", "azimuth", "LDishPointer$Axis;", true)
  | 6 => ("DishPointer$State", "elevation", "LDishPointer$Axis;", true)
  | 7 => ("DishPointer$State", "targets", "[LDishPointer$Target;", true)
  | 8 => ("DishPointer$State", "lowWay", "LDishPointer$Way;", true)
  | 9 => ("DishPointer$State", "highWay", "LDishPointer$Way;", true)
  | _ => ("DishPointer$State", "riseWay", "LDishPointer$Way;", true)
def tyX2 : Nat → FieldType := fun k => match k with
  | 0 => .int
  | 1 => .int
  | 2 => .int
  | 3 => .array .int
  | 4 => .array .int
  | 5 => .object "DishPointer$Axis"
  | 6 => .object "DishPointer$Axis"
  | 7 => .array (.object "DishPointer$Target")
  | 8 => .object "DishPointer$Way"
  | 9 => .object "DishPointer$Way"
  | _ => .object "DishPointer$Way"
abbrev wsX20 : List Cond := u_ws RX2 TX2 11
theorem nmX2 : ∀ a, a < 11 → ∀ b, b < 11 → a ≠ b → (TX2 a).2.1 ≠ (TX2 b).2.1 := by decide +kernel
theorem tyX2_ok : ∀ k, k < 11 → parseFieldDescriptor (TX2 k).2.2.1 = some (tyX2 k) := by decide +kernel
abbrev cX2_init : ByteArray := prog_4_method_1_code
def yX2_init : MethodName := ⟨RX2, "<init>", "()V"⟩
abbrev cX2_copyFrom : ByteArray := prog_4_method_2_code
def yX2_copyFrom : MethodName := ⟨RX2, "copyFrom", "(LDishPointer$State;)V"⟩
abbrev cX2_changeSetting : ByteArray := prog_4_method_3_code
def yX2_changeSetting : MethodName := ⟨RX2, "changeSetting", "(II)I"⟩
abbrev cX2_changeGust : ByteArray := prog_4_method_4_code
def yX2_changeGust : MethodName := ⟨RX2, "changeGust", "(II)I"⟩
abbrev cX2_axisNumber : ByteArray := prog_4_method_5_code
def yX2_axisNumber : MethodName := ⟨RX2, "axisNumber", "(I)LDishPointer$Axis;"⟩
abbrev cX2_day : ByteArray := prog_4_method_6_code
def yX2_day : MethodName := ⟨RX2, "day", "()I"⟩
abbrev cX2_gustToday : ByteArray := prog_4_method_7_code
def yX2_gustToday : MethodName := ⟨RX2, "gustToday", "()I"⟩
abbrev cX2_kindOfDay : ByteArray := prog_4_method_8_code
def yX2_kindOfDay : MethodName := ⟨RX2, "kindOfDay", "()I"⟩
abbrev cX2_tell : ByteArray := prog_4_method_9_code
def yX2_tell : MethodName := ⟨RX2, "tell", "(I)I"⟩
abbrev cX2_wayRise : ByteArray := prog_4_method_11_code
def yX2_wayRise : MethodName := ⟨RX2, "wayRise", "(I)LDishPointer$Way;"⟩
abbrev cX2_wayAround : ByteArray := prog_4_method_12_code
def yX2_wayAround : MethodName := ⟨RX2, "wayAround", "(I)LDishPointer$Way;"⟩
abbrev cX2_isLowWayTaken : ByteArray := prog_4_method_13_code
def yX2_isLowWayTaken : MethodName := ⟨RX2, "isLowWayTaken", "()Z"⟩
abbrev cX2_followWays : ByteArray := prog_4_method_14_code
def yX2_followWays : MethodName := ⟨RX2, "followWays", "(LDishPointer$Way;LDishPointer$Way;)I"⟩
abbrev cX2_hasTarget : ByteArray := prog_4_method_15_code
def yX2_hasTarget : MethodName := ⟨RX2, "hasTarget", "(I)Z"⟩
abbrev cX2_targetsIn : ByteArray := prog_4_method_16_code
def yX2_targetsIn : MethodName := ⟨RX2, "targetsIn", "(I)I"⟩
abbrev cX2_numberUnderWay : ByteArray := prog_4_method_17_code
def yX2_numberUnderWay : MethodName := ⟨RX2, "numberUnderWay", "()I"⟩
abbrev cX2_minutesUntilDone : ByteArray := prog_4_method_18_code
def yX2_minutesUntilDone : MethodName := ⟨RX2, "minutesUntilDone", "()I"⟩
abbrev cX2_append : ByteArray := prog_4_method_19_code
def yX2_append : MethodName := ⟨RX2, "append", "(IIIIII)I"⟩
abbrev cX2_remove : ByteArray := prog_4_method_20_code
def yX2_remove : MethodName := ⟨RX2, "remove", "(I)V"⟩
abbrev cX2_reasonAgainst : ByteArray := prog_4_method_21_code
def yX2_reasonAgainst : MethodName := ⟨RX2, "reasonAgainst", "(LDishPointer$Target;)I"⟩
abbrev cX2_bestToBegin : ByteArray := prog_4_method_22_code
def yX2_bestToBegin : MethodName := ⟨RX2, "bestToBegin", "()I"⟩
abbrev cX2_letPass : ByteArray := prog_4_method_23_code
def yX2_letPass : MethodName := ⟨RX2, "letPass", "(I)V"⟩
abbrev cX2_nextEvent : ByteArray := prog_4_method_24_code
def yX2_nextEvent : MethodName := ⟨RX2, "nextEvent", "()I"⟩
abbrev cX2_sooner : ByteArray := prog_4_method_25_code
def yX2_sooner : MethodName := ⟨RX2, "sooner", "(II)I"⟩
abbrev cX2_beginHold : ByteArray := prog_4_method_26_code
def yX2_beginHold : MethodName := ⟨RX2, "beginHold", "()V"⟩
abbrev cX2_endWhatIsOver : ByteArray := prog_4_method_27_code
def yX2_endWhatIsOver : MethodName := ⟨RX2, "endWhatIsOver", "()V"⟩
abbrev cX2_goOnWith : ByteArray := prog_4_method_28_code
def yX2_goOnWith : MethodName := ⟨RX2, "goOnWith", "(LDishPointer$Target;)V"⟩
abbrev cX2_lookAtSlew : ByteArray := prog_4_method_29_code
def yX2_lookAtSlew : MethodName := ⟨RX2, "lookAtSlew", "(LDishPointer$Target;)V"⟩
abbrev cX2_begin : ByteArray := prog_4_method_30_code
def yX2_begin : MethodName := ⟨RX2, "begin", "(LDishPointer$Target;)V"⟩
def RX3 : String := "DishPointer$Target"
def TX3 : u_T := fun k => match k with
  | 0 => ("DishPointer$Target", "azimuth", "I", false)
  | 1 => ("DishPointer$Target", "elevation", "I", false)
  | 2 => ("DishPointer$Target", "from", "I", false)
  | 3 => ("DishPointer$Target", "to", "I", false)
  | 4 => ("DishPointer$Target", "dwell", "I", false)
  | 5 => ("DishPointer$Target", "priority", "I", false)
  | 6 => ("DishPointer$Target", "state", "I", false)
  | 7 => ("DishPointer$Target", "begunAt", "I", false)
  | 8 => ("DishPointer$Target", "slewedAt", "I", false)
  | 9 => ("DishPointer$Target", "doneAt", "I", false)
  | 10 => ("DishPointer$Target", "error", "I", false)
  | 11 => ("DishPointer$Target", "breaks", "I", false)
  | 12 => ("DishPointer$Target", "place", "I", false)
  | _ => ("DishPointer$Target", "slewLookedAt", "Z", false)
def tyX3 : Nat → FieldType := fun k => match k with
  | 0 => .int
  | 1 => .int
  | 2 => .int
  | 3 => .int
  | 4 => .int
  | 5 => .int
  | 6 => .int
  | 7 => .int
  | 8 => .int
  | 9 => .int
  | 10 => .int
  | 11 => .int
  | 12 => .int
  | _ => .boolean
abbrev wsX30 : List Cond := u_ws RX3 TX3 14
theorem nmX3 : ∀ a, a < 14 → ∀ b, b < 14 → a ≠ b → (TX3 a).2.1 ≠ (TX3 b).2.1 := by decide +kernel
theorem tyX3_ok : ∀ k, k < 14 → parseFieldDescriptor (TX3 k).2.2.1 = some (tyX3 k) := by decide +kernel
abbrev cX3_init : ByteArray := prog_5_method_1_code
def yX3_init : MethodName := ⟨RX3, "<init>", "()V"⟩
abbrev cX3_copyFrom : ByteArray := prog_5_method_2_code
def yX3_copyFrom : MethodName := ⟨RX3, "copyFrom", "(LDishPointer$Target;)V"⟩
abbrev cX3_tell : ByteArray := prog_5_method_3_code
def yX3_tell : MethodName := ⟨RX3, "tell", "(I)I"⟩
abbrev cX3_ifBegun : ByteArray := prog_5_method_4_code
def yX3_ifBegun : MethodName := ⟨RX3, "ifBegun", "(I)I"⟩
abbrev cX3_isBetterThan : ByteArray := prog_5_method_5_code
def yX3_isBetterThan : MethodName := ⟨RX3, "isBetterThan", "(LDishPointer$Target;)Z"⟩
def RX4 : String := "DishPointer$TargetText"
def TX4 : u_T := fun k => match k with
  | 0 => ("DishPointer$TargetText", "signs", "[C", true)
  | 1 => ("DishPointer$TargetText", "length", "I", false)
  | 2 => ("DishPointer$TargetText", "numbers", "[I", true)
  | 3 => ("DishPointer$TargetText", "entries", "I", false)
  | 4 => ("DishPointer$TargetText", "faultPlace", "I", false)
  | _ => ("DishPointer$TargetText", "faultReason", "I", false)
def tyX4 : Nat → FieldType := fun k => match k with
  | 0 => .array .char
  | 1 => .int
  | 2 => .array .int
  | 3 => .int
  | 4 => .int
  | _ => .int
abbrev wsX40 : List Cond := u_ws RX4 TX4 6
theorem nmX4 : ∀ a, a < 6 → ∀ b, b < 6 → a ≠ b → (TX4 a).2.1 ≠ (TX4 b).2.1 := by decide +kernel
theorem tyX4_ok : ∀ k, k < 6 → parseFieldDescriptor (TX4 k).2.2.1 = some (tyX4 k) := by decide +kernel
abbrev cX4_init : ByteArray := prog_6_method_1_code
def yX4_init : MethodName := ⟨RX4, "<init>", "()V"⟩
def RX5 : String := "DishPointer$Way"
def TX5 : u_T := fun k => match k with
  | 0 => ("DishPointer$Way", "place", "I", false)
  | 1 => ("DishPointer$Way", "turn", "I", false)
  | 2 => ("DishPointer$Way", "end", "I", false)
  | 3 => ("DishPointer$Way", "length", "I", false)
  | 4 => ("DishPointer$Way", "time", "I", false)
  | 5 => ("DishPointer$Way", "turns", "Z", false)
  | _ => ("DishPointer$Way", "possible", "Z", false)
def tyX5 : Nat → FieldType := fun k => match k with
  | 0 => .int
  | 1 => .int
  | 2 => .int
  | 3 => .int
  | 4 => .int
  | 5 => .boolean
  | _ => .boolean
abbrev wsX50 : List Cond := u_ws RX5 TX5 7
theorem nmX5 : ∀ a, a < 7 → ∀ b, b < 7 → a ≠ b → (TX5 a).2.1 ≠ (TX5 b).2.1 := by decide +kernel
theorem tyX5_ok : ∀ k, k < 7 → parseFieldDescriptor (TX5 k).2.2.1 = some (tyX5 k) := by decide +kernel
abbrev cX5_init : ByteArray := prog_7_method_1_code
def yX5_init : MethodName := ⟨RX5, "<init>", "()V"⟩
abbrev cX5_plan : ByteArray := prog_7_method_2_code
def yX5_plan : MethodName := ⟨RX5, "plan", "(LDishPointer$Axis;II)V"⟩
def RX6 : String := "DishPointer"
def TX6 : u_T := fun k => match k with
  | 0 => ("DishPointer", "now", "LDishPointer$State;", true)
  | 1 => ("DishPointer", "trial", "LDishPointer$State;", true)
  | 2 => ("DishPointer", "history", "LDishPointer$History;", true)
  | _ => ("DishPointer", "text", "LDishPointer$TargetText;", true)
def tyX6 : Nat → FieldType := fun k => match k with
  | 0 => .object "DishPointer$State"
  | 1 => .object "DishPointer$State"
  | 2 => .object "DishPointer$History"
  | _ => .object "DishPointer$TargetText"
abbrev wsX60 : List Cond := u_ws RX6 TX6 4
theorem nmX6 : ∀ a, a < 4 → ∀ b, b < 4 → a ≠ b → (TX6 a).2.1 ≠ (TX6 b).2.1 := by decide +kernel
theorem tyX6_ok : ∀ k, k < 4 → parseFieldDescriptor (TX6 k).2.2.1 = some (tyX6 k) := by decide +kernel
abbrev cX6_init : ByteArray := prog_1_method_1_code
def yX6_init : MethodName := ⟨RX6, "<init>", "()V"⟩
abbrev cX6_set : ByteArray := prog_1_method_2_code
def yX6_set : MethodName := ⟨RX6, "set", "(II)I"⟩
abbrev cX6_setAxis : ByteArray := prog_1_method_3_code
def yX6_setAxis : MethodName := ⟨RX6, "setAxis", "(III)I"⟩
abbrev cX6_gust : ByteArray := prog_1_method_4_code
def yX6_gust : MethodName := ⟨RX6, "gust", "(II)I"⟩
abbrev cX6_count : ByteArray := prog_1_method_5_code
def yX6_count : MethodName := ⟨RX6, "count", "(I)I"⟩
abbrev cX6_axis : ByteArray := prog_1_method_6_code
def yX6_axis : MethodName := ⟨RX6, "axis", "(II)I"⟩
abbrev cX6_slew : ByteArray := prog_1_method_9_code
def yX6_slew : MethodName := ⟨RX6, "slew", "(II)I"⟩
abbrev cX6_isWound : ByteArray := prog_1_method_10_code
def yX6_isWound : MethodName := ⟨RX6, "isWound", "()I"⟩
abbrev cX6_add : ByteArray := prog_1_method_11_code
def yX6_add : MethodName := ⟨RX6, "add", "(IIIIII)I"⟩
abbrev cX6_drop : ByteArray := prog_1_method_12_code
def yX6_drop : MethodName := ⟨RX6, "drop", "(I)I"⟩
abbrev cX6_target : ByteArray := prog_1_method_13_code
def yX6_target : MethodName := ⟨RX6, "target", "(II)I"⟩
abbrev cX6_why : ByteArray := prog_1_method_14_code
def yX6_why : MethodName := ⟨RX6, "why", "(I)I"⟩
abbrev cX6_next : ByteArray := prog_1_method_15_code
def yX6_next : MethodName := ⟨RX6, "next", "()I"⟩
abbrev cX6_run : ByteArray := prog_1_method_16_code
def yX6_run : MethodName := ⟨RX6, "run", "(I)I"⟩
abbrev cX6_isBetween : ByteArray := prog_1_method_23_code
def yX6_isBetween : MethodName := ⟨RX6, "isBetween", "(III)Z"⟩
abbrev cX6_foundTarget : ByteArray := prog_1_method_24_code
def yX6_foundTarget : MethodName := ⟨RX6, "foundTarget", "(I)I"⟩
abbrev cX6_isTargetInRange : ByteArray := prog_1_method_25_code
def yX6_isTargetInRange : MethodName := ⟨RX6, "isTargetInRange", "(IIIIII)Z"⟩
def RX7 : String := "DishPointerModel"
def TX7 : u_T := fun k => match k with
  | _ => ("", "", "", false)
def tyX7 : Nat → FieldType := fun k => match k with
  | _ => .int
abbrev wsX70 : List Cond := u_ws RX7 TX7 0
theorem nmX7 : ∀ a, a < 0 → ∀ b, b < 0 → a ≠ b → (TX7 a).2.1 ≠ (TX7 b).2.1 := by decide +kernel
theorem tyX7_ok : ∀ k, k < 0 → parseFieldDescriptor (TX7 k).2.2.1 = some (tyX7 k) := by decide +kernel
def RJ9 : String := "java/lang/Math"
def TJ9 : u_T := fun k => match k with
  | _ => ("", "", "", false)
def tyJ9 : Nat → FieldType := fun k => match k with
  | _ => .int
abbrev wsJ90 : List Cond := u_ws RJ9 TJ9 0
theorem nmJ9 : ∀ a, a < 0 → ∀ b, b < 0 → a ≠ b → (TJ9 a).2.1 ≠ (TJ9 b).2.1 := by decide +kernel
theorem tyJ9_ok : ∀ k, k < 0 → parseFieldDescriptor (TJ9 k).2.2.1 = some (tyJ9 k) := by decide +kernel
abbrev cJ9_floorMod_7cf53 : ByteArray := prog_10_method_50_code
def yJ9_floorMod_7cf53 : MethodName := ⟨RJ9, "floorMod", "(II)I"⟩
abbrev cJ9_abs_0f7a4 : ByteArray := prog_10_method_59_code
def yJ9_abs_0f7a4 : MethodName := ⟨RJ9, "abs", "(I)I"⟩
abbrev cJ9_max_7cf53 : ByteArray := prog_10_method_65_code
def yJ9_max_7cf53 : MethodName := ⟨RJ9, "max", "(II)I"⟩
abbrev cJ9_min_7cf53 : ByteArray := prog_10_method_69_code
def yJ9_min_7cf53 : MethodName := ⟨RJ9, "min", "(II)I"⟩
def RJ10 : String := "java/lang/System"
def TJ10 : u_T := fun k => match k with
  | _ => ("", "", "", false)
def tyJ10 : Nat → FieldType := fun k => match k with
  | _ => .int
abbrev wsJ100 : List Cond := u_ws RJ10 TJ10 0
theorem nmJ10 : ∀ a, a < 0 → ∀ b, b < 0 → a ≠ b → (TJ10 a).2.1 ≠ (TJ10 b).2.1 := by decide +kernel
theorem tyJ10_ok : ∀ k, k < 0 → parseFieldDescriptor (TJ10 k).2.2.1 = some (tyJ10 k) := by decide +kernel
def RL : String := "DishPointerLaw"
abbrev cL_cell : ByteArray := method_2_code
def yL_cell : MethodName := ⟨RL, "cell", "([II)I"⟩
abbrev cL_low : ByteArray := method_3_code
def yL_low : MethodName := ⟨RL, "low", "(II)I"⟩
abbrev cL_dish : ByteArray := method_4_code
def yL_dish : MethodName := ⟨RL, "dish", "([II)I"⟩
abbrev cL_within : ByteArray := method_5_code
def yL_within : MethodName := ⟨RL, "within", "(II)Z"⟩
abbrev cL_plan : ByteArray := method_6_code
def yL_plan : MethodName := ⟨RL, "plan", "([III)I"⟩
abbrev cL_size : ByteArray := method_7_code
def yL_size : MethodName := ⟨RL, "size", "(I)I"⟩
abbrev cL_length : ByteArray := method_8_code
def yL_length : MethodName := ⟨RL, "length", "([III)I"⟩
abbrev cL_time : ByteArray := method_9_code
def yL_time : MethodName := ⟨RL, "time", "([III)I"⟩
abbrev cL_pick : ByteArray := method_10_code
def yL_pick : MethodName := ⟨RL, "pick", "([II)I"⟩
abbrev cL_goes : ByteArray := method_11_code
def yL_goes : MethodName := ⟨RL, "goes", "([III)V"⟩
abbrev cL_slews : ByteArray := method_12_code
def yL_slews : MethodName := ⟨RL, "slews", "([III)I"⟩
abbrev cL_day : ByteArray := method_13_code
def yL_day : MethodName := ⟨RL, "day", "([I)I"⟩
abbrev cL_under : ByteArray := method_14_code
def yL_under : MethodName := ⟨RL, "under", "([I[I)I"⟩
abbrev cL_why : ByteArray := method_15_code
def yL_why : MethodName := ⟨RL, "why", "([I[II)I"⟩
abbrev cL_next : ByteArray := method_16_code
def yL_next : MethodName := ⟨RL, "next", "([I[I)I"⟩
abbrev cL_push : ByteArray := method_17_code
def yL_push : MethodName := ⟨RL, "push", "([I[II)V"⟩
abbrev cL_minute : ByteArray := method_18_code
def yL_minute : MethodName := ⟨RL, "minute", "([I[I)I"⟩
abbrev cL_runs : ByteArray := method_19_code
def yL_runs : MethodName := ⟨RL, "runs", "([I[II)I"⟩
abbrev cL_begins : ByteArray := method_20_code
def yL_begins : MethodName := ⟨RL, "begins", "([I)V"⟩
abbrev cL_acts : ByteArray := method_21_code
def yL_acts : MethodName := ⟨RL, "acts", "(LDishPointer;[I[II)Z"⟩
abbrev cL_isSo : ByteArray := method_22_code
def yL_isSo : MethodName := ⟨RL, "isSo", "(LDishPointer;[I[I)Z"⟩
abbrev cL_law : ByteArray := code
def yL_law : MethodName := ⟨RL, "law", "([I)Z"⟩
def wsX0_init : List Cond := .code yX0_init cX0_init 6 none :: ([.methodLink RX0 3 objectInit, .instanceMethod objectInit, .code objectInit ⟨#[0xb1]⟩ 1 none, .fieldLink RX0 9 "DishPointer$Axis" "least" "I", .fieldLink RX0 15 "DishPointer$Axis" "most" "I", .fieldLink RX0 18 "DishPointer$Axis" "start" "I", .fieldLink RX0 21 "DishPointer$Axis" "motor" "I", .fieldLink RX0 24 "DishPointer$Axis" "play" "I", .fieldLink RX0 27 "DishPointer$Axis" "speed" "I"] ++ wsX00)
def wsX0_copyFrom : List Cond := .code yX0_copyFrom cX0_copyFrom 2 none :: ([.fieldLink RX0 24 "DishPointer$Axis" "play" "I", .fieldLink RX0 30 "DishPointer$Axis" "side" "I", .fieldLink RX0 27 "DishPointer$Axis" "speed" "I", .fieldLink RX0 21 "DishPointer$Axis" "motor" "I", .fieldLink RX0 33 "DishPointer$Axis" "slack" "I", .fieldLink RX0 36 "DishPointer$Axis" "wentUp" "I", .fieldLink RX0 39 "DishPointer$Axis" "wentDown" "I"] ++ wsX00)
def wsX0_dish : List Cond := .code yX0_dish cX0_dish 1 (some .int) :: ([.fieldLink RX0 21 "DishPointer$Axis" "motor" "I", .fieldLink RX0 33 "DishPointer$Axis" "slack" "I"] ++ wsX00)
def wsX0_reaches : List Cond := .code yX0_reaches cX0_reaches 2 (some .boolean) :: ([.fieldLink RX0 9 "DishPointer$Axis" "least" "I", .fieldLink RX0 15 "DishPointer$Axis" "most" "I"] ++ wsX00)
def wsX0_tell : List Cond := .code yX0_tell cX0_tell 2 (some .int) :: ([.fieldLink RX0 24 "DishPointer$Axis" "play" "I", .fieldLink RX0 30 "DishPointer$Axis" "side" "I", .fieldLink RX0 27 "DishPointer$Axis" "speed" "I", .fieldLink RX0 21 "DishPointer$Axis" "motor" "I", .fieldLink RX0 33 "DishPointer$Axis" "slack" "I", .fieldLink RX0 36 "DishPointer$Axis" "wentUp" "I", .fieldLink RX0 39 "DishPointer$Axis" "wentDown" "I", .fieldLink RX0 18 "DishPointer$Axis" "start" "I", .constant RX0 71 (-100001), .methodLink RX0 67 yX0_dish, .instanceMethod yX0_dish, .selects RX0 yX0_dish yX0_dish, .initialized RX0, .code yX0_dish cX0_dish 1 (some .int)] ++ wsX00)
def wsX0_change : List Cond := .code yX0_change cX0_change 4 (some .int) :: ([.fieldLink RX0 24 "DishPointer$Axis" "play" "I", .fieldLink RX0 33 "DishPointer$Axis" "slack" "I", .methodLink RX0 46 Lib.Math.min.name, .static Lib.Math.min.name, .initialized "java/lang/Math", .code Lib.Math.min.name Lib.Math.min.code 2 (some .int), .fieldLink RX0 30 "DishPointer$Axis" "side" "I", .fieldLink RX0 27 "DishPointer$Axis" "speed" "I", .methodLink RX0 42 yX0_tell, .instanceMethod yX0_tell, .selects RX0 yX0_tell yX0_tell, .initialized RX0, .code yX0_tell cX0_tell 2 (some .int), .fieldLink RX0 21 "DishPointer$Axis" "motor" "I", .fieldLink RX0 36 "DishPointer$Axis" "wentUp" "I", .fieldLink RX0 39 "DishPointer$Axis" "wentDown" "I", .fieldLink RX0 18 "DishPointer$Axis" "start" "I", .constant RX0 71 (-100001), .methodLink RX0 67 yX0_dish, .instanceMethod yX0_dish, .selects RX0 yX0_dish yX0_dish, .code yX0_dish cX0_dish 1 (some .int)] ++ wsX00)
def wsX0_moveTo : List Cond := .code yX0_moveTo cX0_moveTo 3 none :: ([.fieldLink RX0 21 "DishPointer$Axis" "motor" "I", .fieldLink RX0 36 "DishPointer$Axis" "wentUp" "I", .fieldLink RX0 33 "DishPointer$Axis" "slack" "I", .fieldLink RX0 24 "DishPointer$Axis" "play" "I", .methodLink RX0 46 Lib.Math.min.name, .static Lib.Math.min.name, .initialized "java/lang/Math", .code Lib.Math.min.name Lib.Math.min.code 2 (some .int), .fieldLink RX0 39 "DishPointer$Axis" "wentDown" "I", .methodLink RX0 52 Lib.Math.max.name, .static Lib.Math.max.name, .code Lib.Math.max.name Lib.Math.max.code 2 (some .int)] ++ wsX00)
def wsX0_follow : List Cond := .code yX0_follow cX0_follow 2 none :: ([.fieldLink RX0 55 "DishPointer$Way" "turn" "I", .fieldLink RX0 64 "DishPointer$Way" "end" "I", .methodLink RX0 60 yX0_moveTo, .instanceMethod yX0_moveTo, .selects RX0 yX0_moveTo yX0_moveTo, .initialized RX0, .code yX0_moveTo cX0_moveTo 3 none, .fieldLink RX0 21 "DishPointer$Axis" "motor" "I", .fieldLink RX0 36 "DishPointer$Axis" "wentUp" "I", .fieldLink RX0 33 "DishPointer$Axis" "slack" "I", .fieldLink RX0 24 "DishPointer$Axis" "play" "I", .methodLink RX0 46 Lib.Math.min.name, .static Lib.Math.min.name, .initialized "java/lang/Math", .code Lib.Math.min.name Lib.Math.min.code 2 (some .int), .fieldLink RX0 39 "DishPointer$Axis" "wentDown" "I", .methodLink RX0 52 Lib.Math.max.name, .static Lib.Math.max.name, .code Lib.Math.max.name Lib.Math.max.code 2 (some .int)] ++ wsX50 ++ wsX00)
def wsX5_init : List Cond := .code yX5_init cX5_init 1 none :: ([.methodLink RX5 3 objectInit, .instanceMethod objectInit, .code objectInit ⟨#[0xb1]⟩ 1 none])
def wsX3_init : List Cond := .code yX3_init cX3_init 1 none :: ([.methodLink RX3 3 objectInit, .instanceMethod objectInit, .code objectInit ⟨#[0xb1]⟩ 1 none, .fieldLink RX3 9 "DishPointer$Target" "state" "I"] ++ wsX30)
def wsX2_init_r1 : List Cond := [Cond.methodLink RX2 3 objectInit, Cond.instanceMethod objectInit, Cond.code objectInit ⟨#[0xb1]⟩ 1 none, Cond.arrayClass .int, Cond.fieldLink RX2 9 "DishPointer$State" "settings" "[I", Cond.fieldLink RX2 15 "DishPointer$State" "gusts" "[I", Cond.classLink RX2 18 RX0, Cond.instantiable RX0 10, Cond.initialized RX0, Cond.fieldLink RX2 23 "DishPointer$State" "azimuth" "LDishPointer$Axis;", Cond.fieldLink RX2 27 "DishPointer$State" "elevation" "LDishPointer$Axis;", Cond.classLink RX2 30 RX3, Cond.fieldLink RX2 32 "DishPointer$State" "targets" "[LDishPointer$Target;", Cond.classLink RX2 36 RX5, Cond.instantiable RX5 7, Cond.initialized RX5, Cond.fieldLink RX2 39 "DishPointer$State" "lowWay" "LDishPointer$Way;", Cond.fieldLink RX2 43 "DishPointer$State" "highWay" "LDishPointer$Way;", Cond.fieldLink RX2 46 "DishPointer$State" "riseWay" "LDishPointer$Way;", Cond.instantiable RX3 14, Cond.initialized RX3, Cond.methodLink RX2 20 yX0_init, Cond.instanceMethod yX0_init, Cond.code yX0_init cX0_init 6 none]
def wsX2_init_r2 : List Cond := [Cond.methodLink RX0 3 objectInit, Cond.fieldLink RX0 9 "DishPointer$Axis" "least" "I", Cond.fieldLink RX0 15 "DishPointer$Axis" "most" "I", Cond.fieldLink RX0 18 "DishPointer$Axis" "start" "I", Cond.fieldLink RX0 21 "DishPointer$Axis" "motor" "I", Cond.fieldLink RX0 24 "DishPointer$Axis" "play" "I", Cond.fieldLink RX0 27 "DishPointer$Axis" "speed" "I", Cond.instanceMethod yX5_init, Cond.code yX5_init cX5_init 1 none, Cond.methodLink RX5 3 objectInit, Cond.instanceMethod yX3_init, Cond.code yX3_init cX3_init 1 none, Cond.methodLink RX3 3 objectInit, Cond.fieldLink RX3 9 "DishPointer$Target" "state" "I"]
def wsX2_init : List Cond := .code yX2_init cX2_init 2 none :: ((wsX2_init_r1 ++ wsX2_init_r2) ++ wsX20 ++ wsX00 ++ wsX50 ++ wsX30)
def wsX1_init_r1 : List Cond := [Cond.methodLink RX1 3 objectInit, Cond.instanceMethod objectInit, Cond.code objectInit ⟨#[0xb1]⟩ 1 none, Cond.classLink RX1 9 RX2, Cond.fieldLink RX1 11 "DishPointer$History" "states" "[LDishPointer$State;", Cond.instantiable RX2 11, Cond.initialized RX2, Cond.methodLink RX1 17 yX2_init, Cond.instanceMethod yX2_init, Cond.code yX2_init cX2_init 2 none, Cond.methodLink RX2 3 objectInit, Cond.arrayClass .int, Cond.fieldLink RX2 9 "DishPointer$State" "settings" "[I", Cond.fieldLink RX2 15 "DishPointer$State" "gusts" "[I", Cond.classLink RX2 18 RX0, Cond.instantiable RX0 10, Cond.initialized RX0, Cond.fieldLink RX2 23 "DishPointer$State" "azimuth" "LDishPointer$Axis;", Cond.fieldLink RX2 27 "DishPointer$State" "elevation" "LDishPointer$Axis;", Cond.classLink RX2 30 RX3, Cond.fieldLink RX2 32 "DishPointer$State" "targets" "[LDishPointer$Target;", Cond.classLink RX2 36 RX5, Cond.instantiable RX5 7, Cond.initialized RX5]
def wsX1_init_r2 : List Cond := [Cond.fieldLink RX2 39 "DishPointer$State" "lowWay" "LDishPointer$Way;", Cond.fieldLink RX2 43 "DishPointer$State" "highWay" "LDishPointer$Way;", Cond.fieldLink RX2 46 "DishPointer$State" "riseWay" "LDishPointer$Way;", Cond.instantiable RX3 14, Cond.initialized RX3, Cond.methodLink RX2 20 yX0_init, Cond.instanceMethod yX0_init, Cond.code yX0_init cX0_init 6 none, Cond.methodLink RX0 3 objectInit, Cond.fieldLink RX0 9 "DishPointer$Axis" "least" "I", Cond.fieldLink RX0 15 "DishPointer$Axis" "most" "I", Cond.fieldLink RX0 18 "DishPointer$Axis" "start" "I", Cond.fieldLink RX0 21 "DishPointer$Axis" "motor" "I", Cond.fieldLink RX0 24 "DishPointer$Axis" "play" "I", Cond.fieldLink RX0 27 "DishPointer$Axis" "speed" "I", Cond.instanceMethod yX5_init, Cond.code yX5_init cX5_init 1 none, Cond.methodLink RX5 3 objectInit, Cond.instanceMethod yX3_init, Cond.code yX3_init cX3_init 1 none, Cond.methodLink RX3 3 objectInit, Cond.fieldLink RX3 9 "DishPointer$Target" "state" "I"]
def wsX1_init : List Cond := .code yX1_init cX1_init 2 none :: ((wsX1_init_r1 ++ wsX1_init_r2) ++ wsX10 ++ wsX20 ++ wsX00 ++ wsX50 ++ wsX30)
def wsX1_dropOldest : List Cond := .code yX1_dropOldest cX1_dropOldest 3 none :: ([.fieldLink RX1 11 "DishPointer$History" "states" "[LDishPointer$State;", .fieldLink RX1 18 "DishPointer$History" "size" "I"] ++ wsX10)
def wsX3_copyFrom : List Cond := .code yX3_copyFrom cX3_copyFrom 2 none :: ([.fieldLink RX3 15 "DishPointer$Target" "azimuth" "I", .fieldLink RX3 18 "DishPointer$Target" "elevation" "I", .fieldLink RX3 21 "DishPointer$Target" "from" "I", .fieldLink RX3 24 "DishPointer$Target" "to" "I", .fieldLink RX3 27 "DishPointer$Target" "dwell" "I", .fieldLink RX3 30 "DishPointer$Target" "priority" "I", .fieldLink RX3 9 "DishPointer$Target" "state" "I", .fieldLink RX3 33 "DishPointer$Target" "begunAt" "I", .fieldLink RX3 36 "DishPointer$Target" "slewedAt" "I", .fieldLink RX3 39 "DishPointer$Target" "doneAt" "I", .fieldLink RX3 42 "DishPointer$Target" "error" "I", .fieldLink RX3 45 "DishPointer$Target" "breaks" "I", .fieldLink RX3 48 "DishPointer$Target" "place" "I", .fieldLink RX3 51 "DishPointer$Target" "slewLookedAt" "Z"] ++ wsX30)
def wsX2_copyFrom_r1 : List Cond := [Cond.fieldLink RX2 50 "DishPointer$State" "time" "I", Cond.fieldLink RX2 54 "DishPointer$State" "slews" "I", Cond.fieldLink RX2 57 "DishPointer$State" "holds" "I", Cond.fieldLink RX2 9 "DishPointer$State" "settings" "[I", Cond.methodLink RX2 60 arraycopyName, Cond.native arraycopyName, Cond.static arraycopyName, Cond.initialized "java/lang/System", Cond.fieldLink RX2 15 "DishPointer$State" "gusts" "[I", Cond.fieldLink RX2 23 "DishPointer$State" "azimuth" "LDishPointer$Axis;", Cond.fieldLink RX2 27 "DishPointer$State" "elevation" "LDishPointer$Axis;", Cond.fieldLink RX2 32 "DishPointer$State" "targets" "[LDishPointer$Target;", Cond.methodLink RX2 66 yX0_copyFrom, Cond.instanceMethod yX0_copyFrom, Cond.selects RX0 yX0_copyFrom yX0_copyFrom, Cond.initialized RX0, Cond.code yX0_copyFrom cX0_copyFrom 2 none, Cond.fieldLink RX0 24 "DishPointer$Axis" "play" "I", Cond.fieldLink RX0 30 "DishPointer$Axis" "side" "I", Cond.fieldLink RX0 27 "DishPointer$Axis" "speed" "I", Cond.fieldLink RX0 21 "DishPointer$Axis" "motor" "I", Cond.fieldLink RX0 33 "DishPointer$Axis" "slack" "I", Cond.fieldLink RX0 36 "DishPointer$Axis" "wentUp" "I", Cond.fieldLink RX0 39 "DishPointer$Axis" "wentDown" "I"]
def wsX2_copyFrom_r2 : List Cond := [Cond.methodLink RX2 70 yX3_copyFrom, Cond.instanceMethod yX3_copyFrom, Cond.selects RX3 yX3_copyFrom yX3_copyFrom, Cond.initialized RX3, Cond.code yX3_copyFrom cX3_copyFrom 2 none, Cond.fieldLink RX3 15 "DishPointer$Target" "azimuth" "I", Cond.fieldLink RX3 18 "DishPointer$Target" "elevation" "I", Cond.fieldLink RX3 21 "DishPointer$Target" "from" "I", Cond.fieldLink RX3 24 "DishPointer$Target" "to" "I", Cond.fieldLink RX3 27 "DishPointer$Target" "dwell" "I", Cond.fieldLink RX3 30 "DishPointer$Target" "priority" "I", Cond.fieldLink RX3 9 "DishPointer$Target" "state" "I", Cond.fieldLink RX3 33 "DishPointer$Target" "begunAt" "I", Cond.fieldLink RX3 36 "DishPointer$Target" "slewedAt" "I", Cond.fieldLink RX3 39 "DishPointer$Target" "doneAt" "I", Cond.fieldLink RX3 42 "DishPointer$Target" "error" "I", Cond.fieldLink RX3 45 "DishPointer$Target" "breaks" "I", Cond.fieldLink RX3 48 "DishPointer$Target" "place" "I", Cond.fieldLink RX3 51 "DishPointer$Target" "slewLookedAt" "Z"]
def wsX2_copyFrom : List Cond := .code yX2_copyFrom cX2_copyFrom 3 none :: ((wsX2_copyFrom_r1 ++ wsX2_copyFrom_r2) ++ wsX20 ++ wsX00 ++ wsX30)
def wsX1_record_r1 : List Cond := [Cond.fieldLink RX1 18 "DishPointer$History" "size" "I", Cond.fieldLink RX1 11 "DishPointer$History" "states" "[LDishPointer$State;", Cond.methodLink RX1 22 yX1_dropOldest, Cond.instanceMethod yX1_dropOldest, Cond.selects RX1 yX1_dropOldest yX1_dropOldest, Cond.initialized RX1, Cond.code yX1_dropOldest cX1_dropOldest 3 none, Cond.methodLink RX1 25 yX2_copyFrom, Cond.instanceMethod yX2_copyFrom, Cond.selects RX2 yX2_copyFrom yX2_copyFrom, Cond.initialized RX2, Cond.code yX2_copyFrom cX2_copyFrom 3 none, Cond.fieldLink RX2 50 "DishPointer$State" "time" "I", Cond.fieldLink RX2 54 "DishPointer$State" "slews" "I", Cond.fieldLink RX2 57 "DishPointer$State" "holds" "I", Cond.fieldLink RX2 9 "DishPointer$State" "settings" "[I", Cond.methodLink RX2 60 arraycopyName, Cond.native arraycopyName, Cond.static arraycopyName, Cond.initialized "java/lang/System", Cond.fieldLink RX2 15 "DishPointer$State" "gusts" "[I", Cond.fieldLink RX2 23 "DishPointer$State" "azimuth" "LDishPointer$Axis;", Cond.fieldLink RX2 27 "DishPointer$State" "elevation" "LDishPointer$Axis;", Cond.fieldLink RX2 32 "DishPointer$State" "targets" "[LDishPointer$Target;"]
def wsX1_record_r2 : List Cond := [Cond.methodLink RX2 66 yX0_copyFrom, Cond.instanceMethod yX0_copyFrom, Cond.selects RX0 yX0_copyFrom yX0_copyFrom, Cond.initialized RX0, Cond.code yX0_copyFrom cX0_copyFrom 2 none, Cond.fieldLink RX0 24 "DishPointer$Axis" "play" "I", Cond.fieldLink RX0 30 "DishPointer$Axis" "side" "I", Cond.fieldLink RX0 27 "DishPointer$Axis" "speed" "I", Cond.fieldLink RX0 21 "DishPointer$Axis" "motor" "I", Cond.fieldLink RX0 33 "DishPointer$Axis" "slack" "I", Cond.fieldLink RX0 36 "DishPointer$Axis" "wentUp" "I", Cond.fieldLink RX0 39 "DishPointer$Axis" "wentDown" "I", Cond.methodLink RX2 70 yX3_copyFrom, Cond.instanceMethod yX3_copyFrom, Cond.selects RX3 yX3_copyFrom yX3_copyFrom, Cond.initialized RX3, Cond.code yX3_copyFrom cX3_copyFrom 2 none, Cond.fieldLink RX3 15 "DishPointer$Target" "azimuth" "I", Cond.fieldLink RX3 18 "DishPointer$Target" "elevation" "I", Cond.fieldLink RX3 21 "DishPointer$Target" "from" "I", Cond.fieldLink RX3 24 "DishPointer$Target" "to" "I", Cond.fieldLink RX3 27 "DishPointer$Target" "dwell" "I", Cond.fieldLink RX3 30 "DishPointer$Target" "priority" "I", Cond.fieldLink RX3 9 "DishPointer$Target" "state" "I"]
def wsX1_record_r3 : List Cond := [Cond.fieldLink RX3 33 "DishPointer$Target" "begunAt" "I", Cond.fieldLink RX3 36 "DishPointer$Target" "slewedAt" "I", Cond.fieldLink RX3 39 "DishPointer$Target" "doneAt" "I", Cond.fieldLink RX3 42 "DishPointer$Target" "error" "I", Cond.fieldLink RX3 45 "DishPointer$Target" "breaks" "I", Cond.fieldLink RX3 48 "DishPointer$Target" "place" "I", Cond.fieldLink RX3 51 "DishPointer$Target" "slewLookedAt" "Z"]
def wsX1_record : List Cond := .code yX1_record cX1_record 2 none :: ((wsX1_record_r1 ++ (wsX1_record_r2 ++ wsX1_record_r3)) ++ wsX10 ++ wsX20 ++ wsX00 ++ wsX30)
def wsX2_changeSetting : List Cond := .code yX2_changeSetting cX2_changeSetting 4 (some .int) :: ([.fieldLink RX2 9 "DishPointer$State" "settings" "[I"] ++ wsX20)
def wsX2_changeGust : List Cond := .code yX2_changeGust cX2_changeGust 4 (some .int) :: ([.fieldLink RX2 15 "DishPointer$State" "gusts" "[I"] ++ wsX20)
def wsX2_axisNumber : List Cond := .code yX2_axisNumber cX2_axisNumber 2 (some (.object "DishPointer$Axis")) :: ([.fieldLink RX2 23 "DishPointer$State" "azimuth" "LDishPointer$Axis;", .fieldLink RX2 27 "DishPointer$State" "elevation" "LDishPointer$Axis;"] ++ wsX20)
def wsX2_day : List Cond := .code yX2_day cX2_day 1 (some .int) :: ([.fieldLink RX2 50 "DishPointer$State" "time" "I"] ++ wsX20)
def wsX2_gustToday : List Cond := .code yX2_gustToday cX2_gustToday 2 (some .int) :: ([.fieldLink RX2 15 "DishPointer$State" "gusts" "[I", .methodLink RX2 73 yX2_day, .instanceMethod yX2_day, .selects RX2 yX2_day yX2_day, .initialized RX2, .code yX2_day cX2_day 1 (some .int), .fieldLink RX2 50 "DishPointer$State" "time" "I"] ++ wsX20)
def wsX2_kindOfDay : List Cond := .code yX2_kindOfDay cX2_kindOfDay 2 (some .int) :: ([.fieldLink RX2 9 "DishPointer$State" "settings" "[I", .methodLink RX2 77 yX2_gustToday, .instanceMethod yX2_gustToday, .selects RX2 yX2_gustToday yX2_gustToday, .initialized RX2, .code yX2_gustToday cX2_gustToday 2 (some .int), .fieldLink RX2 15 "DishPointer$State" "gusts" "[I", .methodLink RX2 73 yX2_day, .instanceMethod yX2_day, .selects RX2 yX2_day yX2_day, .code yX2_day cX2_day 1 (some .int), .fieldLink RX2 50 "DishPointer$State" "time" "I"] ++ wsX20)
def wsJ9_floorMod_7cf53 : List Cond := .code yJ9_floorMod_7cf53 cJ9_floorMod_7cf53 3 (some .int) :: ([])
def wsX2_tell_r1 : List Cond := [Cond.fieldLink RX2 50 "DishPointer$State" "time" "I", Cond.fieldLink RX2 9 "DishPointer$State" "settings" "[I", Cond.fieldLink RX2 54 "DishPointer$State" "slews" "I", Cond.fieldLink RX2 57 "DishPointer$State" "holds" "I", Cond.fieldLink RX2 23 "DishPointer$State" "azimuth" "LDishPointer$Axis;", Cond.constant RX2 86 (36000), Cond.constant RX2 93 (-100001), Cond.methodLink RX2 73 yX2_day, Cond.instanceMethod yX2_day, Cond.selects RX2 yX2_day yX2_day, Cond.initialized RX2, Cond.code yX2_day cX2_day 1 (some .int), Cond.methodLink RX2 77 yX2_gustToday, Cond.instanceMethod yX2_gustToday, Cond.selects RX2 yX2_gustToday yX2_gustToday, Cond.code yX2_gustToday cX2_gustToday 2 (some .int), Cond.fieldLink RX2 15 "DishPointer$State" "gusts" "[I", Cond.methodLink RX2 80 yX2_kindOfDay, Cond.instanceMethod yX2_kindOfDay, Cond.selects RX2 yX2_kindOfDay yX2_kindOfDay, Cond.code yX2_kindOfDay cX2_kindOfDay 2 (some .int), Cond.methodLink RX2 83 yX0_dish, Cond.instanceMethod yX0_dish, Cond.selects RX0 yX0_dish yX0_dish]
def wsX2_tell_r2 : List Cond := [Cond.initialized RX0, Cond.code yX0_dish cX0_dish 1 (some .int), Cond.fieldLink RX0 21 "DishPointer$Axis" "motor" "I", Cond.fieldLink RX0 33 "DishPointer$Axis" "slack" "I", Cond.methodLink RX2 87 yJ9_floorMod_7cf53, Cond.static yJ9_floorMod_7cf53, Cond.initialized RJ9, Cond.code yJ9_floorMod_7cf53 cJ9_floorMod_7cf53 3 (some .int)]
def wsX2_tell : List Cond := .code yX2_tell cX2_tell 2 (some .int) :: ((wsX2_tell_r1 ++ wsX2_tell_r2) ++ wsX20 ++ wsX00)
def wsX5_plan_r1 : List Cond := [Cond.fieldLink RX5 15 "DishPointer$Way" "place" "I", Cond.fieldLink RX5 21 "DishPointer$Axis" "side" "I", Cond.fieldLink RX5 24 "DishPointer$Axis" "slack" "I", Cond.fieldLink RX5 27 "DishPointer$Axis" "play" "I", Cond.fieldLink RX5 30 "DishPointer$Way" "turns" "Z", Cond.fieldLink RX5 34 "DishPointer$Way" "turn" "I", Cond.fieldLink RX5 37 "DishPointer$Way" "end" "I", Cond.fieldLink RX5 40 "DishPointer$Axis" "motor" "I", Cond.fieldLink RX5 47 "DishPointer$Way" "possible" "Z", Cond.methodLink RX5 50 Lib.Math.abs.name, Cond.static Lib.Math.abs.name, Cond.initialized "java/lang/Math", Cond.code Lib.Math.abs.name Lib.Math.abs.code 1 (some .int), Cond.fieldLink RX5 56 "DishPointer$Way" "length" "I", Cond.fieldLink RX5 59 "DishPointer$Axis" "speed" "I", Cond.fieldLink RX5 62 "DishPointer$Way" "time" "I", Cond.methodLink RX5 9 yX0_dish, Cond.instanceMethod yX0_dish, Cond.selects RX0 yX0_dish yX0_dish, Cond.initialized RX0, Cond.code yX0_dish cX0_dish 1 (some .int), Cond.fieldLink RX0 21 "DishPointer$Axis" "motor" "I", Cond.fieldLink RX0 33 "DishPointer$Axis" "slack" "I", Cond.methodLink RX5 43 yX0_reaches]
def wsX5_plan_r2 : List Cond := [Cond.instanceMethod yX0_reaches, Cond.selects RX0 yX0_reaches yX0_reaches, Cond.code yX0_reaches cX0_reaches 2 (some .boolean), Cond.fieldLink RX0 9 "DishPointer$Axis" "least" "I", Cond.fieldLink RX0 15 "DishPointer$Axis" "most" "I"]
def wsX5_plan : List Cond := .code yX5_plan cX5_plan 6 none :: ((wsX5_plan_r1 ++ wsX5_plan_r2) ++ wsX50 ++ wsX00)
def wsX2_wayRise_r1 : List Cond := [Cond.fieldLink RX2 46 "DishPointer$State" "riseWay" "LDishPointer$Way;", Cond.fieldLink RX2 27 "DishPointer$State" "elevation" "LDishPointer$Axis;", Cond.fieldLink RX2 9 "DishPointer$State" "settings" "[I", Cond.methodLink RX2 98 yX5_plan, Cond.instanceMethod yX5_plan, Cond.selects RX5 yX5_plan yX5_plan, Cond.initialized RX5, Cond.code yX5_plan cX5_plan 6 none, Cond.fieldLink RX5 15 "DishPointer$Way" "place" "I", Cond.fieldLink RX5 21 "DishPointer$Axis" "side" "I", Cond.fieldLink RX5 24 "DishPointer$Axis" "slack" "I", Cond.fieldLink RX5 27 "DishPointer$Axis" "play" "I", Cond.fieldLink RX5 30 "DishPointer$Way" "turns" "Z", Cond.fieldLink RX5 34 "DishPointer$Way" "turn" "I", Cond.fieldLink RX5 37 "DishPointer$Way" "end" "I", Cond.fieldLink RX5 40 "DishPointer$Axis" "motor" "I", Cond.fieldLink RX5 47 "DishPointer$Way" "possible" "Z", Cond.methodLink RX5 50 Lib.Math.abs.name, Cond.static Lib.Math.abs.name, Cond.initialized "java/lang/Math", Cond.code Lib.Math.abs.name Lib.Math.abs.code 1 (some .int), Cond.fieldLink RX5 56 "DishPointer$Way" "length" "I", Cond.fieldLink RX5 59 "DishPointer$Axis" "speed" "I", Cond.fieldLink RX5 62 "DishPointer$Way" "time" "I"]
def wsX2_wayRise_r2 : List Cond := [Cond.methodLink RX5 9 yX0_dish, Cond.instanceMethod yX0_dish, Cond.selects RX0 yX0_dish yX0_dish, Cond.initialized RX0, Cond.code yX0_dish cX0_dish 1 (some .int), Cond.fieldLink RX0 21 "DishPointer$Axis" "motor" "I", Cond.fieldLink RX0 33 "DishPointer$Axis" "slack" "I", Cond.methodLink RX5 43 yX0_reaches, Cond.instanceMethod yX0_reaches, Cond.selects RX0 yX0_reaches yX0_reaches, Cond.code yX0_reaches cX0_reaches 2 (some .boolean), Cond.fieldLink RX0 9 "DishPointer$Axis" "least" "I", Cond.fieldLink RX0 15 "DishPointer$Axis" "most" "I"]
def wsX2_wayRise : List Cond := .code yX2_wayRise cX2_wayRise 2 (some (.object "DishPointer$Way")) :: ((wsX2_wayRise_r1 ++ wsX2_wayRise_r2) ++ wsX20 ++ wsX50 ++ wsX00)
def wsX2_isLowWayTaken : List Cond := .code yX2_isLowWayTaken cX2_isLowWayTaken 5 (some .boolean) :: ([.fieldLink RX2 39 "DishPointer$State" "lowWay" "LDishPointer$Way;", .fieldLink RX2 110 "DishPointer$Way" "place" "I", .methodLink RX2 113 Lib.Math.abs.name, .static Lib.Math.abs.name, .initialized "java/lang/Math", .code Lib.Math.abs.name Lib.Math.abs.code 1 (some .int), .fieldLink RX2 43 "DishPointer$State" "highWay" "LDishPointer$Way;", .fieldLink RX2 9 "DishPointer$State" "settings" "[I", .fieldLink RX2 117 "DishPointer$Way" "length" "I"] ++ wsX20 ++ wsX50)
def wsX2_wayAround_r1 : List Cond := [Cond.fieldLink RX2 39 "DishPointer$State" "lowWay" "LDishPointer$Way;", Cond.fieldLink RX2 23 "DishPointer$State" "azimuth" "LDishPointer$Axis;", Cond.constant RX2 86 (36000), Cond.fieldLink RX2 9 "DishPointer$State" "settings" "[I", Cond.fieldLink RX2 43 "DishPointer$State" "highWay" "LDishPointer$Way;", Cond.fieldLink RX2 102 "DishPointer$Way" "possible" "Z", Cond.methodLink RX2 98 yX5_plan, Cond.instanceMethod yX5_plan, Cond.selects RX5 yX5_plan yX5_plan, Cond.initialized RX5, Cond.code yX5_plan cX5_plan 6 none, Cond.fieldLink RX5 15 "DishPointer$Way" "place" "I", Cond.fieldLink RX5 21 "DishPointer$Axis" "side" "I", Cond.fieldLink RX5 24 "DishPointer$Axis" "slack" "I", Cond.fieldLink RX5 27 "DishPointer$Axis" "play" "I", Cond.fieldLink RX5 30 "DishPointer$Way" "turns" "Z", Cond.fieldLink RX5 34 "DishPointer$Way" "turn" "I", Cond.fieldLink RX5 37 "DishPointer$Way" "end" "I", Cond.fieldLink RX5 40 "DishPointer$Axis" "motor" "I", Cond.fieldLink RX5 47 "DishPointer$Way" "possible" "Z", Cond.methodLink RX5 50 Lib.Math.abs.name, Cond.static Lib.Math.abs.name, Cond.initialized "java/lang/Math", Cond.code Lib.Math.abs.name Lib.Math.abs.code 1 (some .int)]
def wsX2_wayAround_r2 : List Cond := [Cond.fieldLink RX5 56 "DishPointer$Way" "length" "I", Cond.fieldLink RX5 59 "DishPointer$Axis" "speed" "I", Cond.fieldLink RX5 62 "DishPointer$Way" "time" "I", Cond.methodLink RX5 9 yX0_dish, Cond.instanceMethod yX0_dish, Cond.selects RX0 yX0_dish yX0_dish, Cond.initialized RX0, Cond.code yX0_dish cX0_dish 1 (some .int), Cond.fieldLink RX0 21 "DishPointer$Axis" "motor" "I", Cond.fieldLink RX0 33 "DishPointer$Axis" "slack" "I", Cond.methodLink RX5 43 yX0_reaches, Cond.instanceMethod yX0_reaches, Cond.selects RX0 yX0_reaches yX0_reaches, Cond.code yX0_reaches cX0_reaches 2 (some .boolean), Cond.fieldLink RX0 9 "DishPointer$Axis" "least" "I", Cond.fieldLink RX0 15 "DishPointer$Axis" "most" "I", Cond.methodLink RX2 106 yX2_isLowWayTaken, Cond.instanceMethod yX2_isLowWayTaken, Cond.selects RX2 yX2_isLowWayTaken yX2_isLowWayTaken, Cond.initialized RX2, Cond.code yX2_isLowWayTaken cX2_isLowWayTaken 5 (some .boolean), Cond.fieldLink RX2 110 "DishPointer$Way" "place" "I", Cond.methodLink RX2 113 Lib.Math.abs.name, Cond.fieldLink RX2 117 "DishPointer$Way" "length" "I"]
def wsX2_wayAround : List Cond := .code yX2_wayAround cX2_wayAround 2 (some (.object "DishPointer$Way")) :: ((wsX2_wayAround_r1 ++ wsX2_wayAround_r2) ++ wsX20 ++ wsX50 ++ wsX00)
def wsX2_followWays_r1 : List Cond := [Cond.fieldLink RX2 23 "DishPointer$State" "azimuth" "LDishPointer$Axis;", Cond.fieldLink RX2 27 "DishPointer$State" "elevation" "LDishPointer$Axis;", Cond.fieldLink RX2 54 "DishPointer$State" "slews" "I", Cond.fieldLink RX2 124 "DishPointer$Way" "time" "I", Cond.methodLink RX2 125 Lib.Math.max.name, Cond.static Lib.Math.max.name, Cond.initialized "java/lang/Math", Cond.code Lib.Math.max.name Lib.Math.max.code 2 (some .int), Cond.methodLink RX2 120 yX0_follow, Cond.instanceMethod yX0_follow, Cond.selects RX0 yX0_follow yX0_follow, Cond.initialized RX0, Cond.code yX0_follow cX0_follow 2 none, Cond.fieldLink RX0 55 "DishPointer$Way" "turn" "I", Cond.fieldLink RX0 64 "DishPointer$Way" "end" "I", Cond.methodLink RX0 60 yX0_moveTo, Cond.instanceMethod yX0_moveTo, Cond.selects RX0 yX0_moveTo yX0_moveTo, Cond.code yX0_moveTo cX0_moveTo 3 none, Cond.fieldLink RX0 21 "DishPointer$Axis" "motor" "I", Cond.fieldLink RX0 36 "DishPointer$Axis" "wentUp" "I", Cond.fieldLink RX0 33 "DishPointer$Axis" "slack" "I", Cond.fieldLink RX0 24 "DishPointer$Axis" "play" "I", Cond.methodLink RX0 46 Lib.Math.min.name]
def wsX2_followWays_r2 : List Cond := [Cond.static Lib.Math.min.name, Cond.code Lib.Math.min.name Lib.Math.min.code 2 (some .int), Cond.fieldLink RX0 39 "DishPointer$Axis" "wentDown" "I", Cond.methodLink RX0 52 Lib.Math.max.name]
def wsX2_followWays : List Cond := .code yX2_followWays cX2_followWays 3 (some .int) :: ((wsX2_followWays_r1 ++ wsX2_followWays_r2) ++ wsX20 ++ wsX50 ++ wsX00)
def wsX2_hasTarget : List Cond := .code yX2_hasTarget cX2_hasTarget 2 (some .boolean) :: ([.fieldLink RX2 32 "DishPointer$State" "targets" "[LDishPointer$Target;", .fieldLink RX2 128 "DishPointer$Target" "state" "I"] ++ wsX20 ++ wsX30)
def wsX2_targetsIn : List Cond := .code yX2_targetsIn cX2_targetsIn 7 (some .int) :: ([.fieldLink RX2 32 "DishPointer$State" "targets" "[LDishPointer$Target;", .fieldLink RX2 128 "DishPointer$Target" "state" "I"] ++ wsX20 ++ wsX30)
def wsX2_numberUnderWay : List Cond := .code yX2_numberUnderWay cX2_numberUnderWay 2 (some .int) :: ([.fieldLink RX2 32 "DishPointer$State" "targets" "[LDishPointer$Target;", .fieldLink RX2 128 "DishPointer$Target" "state" "I"] ++ wsX20 ++ wsX30)
def wsX2_minutesUntilDone : List Cond := .code yX2_minutesUntilDone cX2_minutesUntilDone 5 (some .int) :: ([.fieldLink RX2 32 "DishPointer$State" "targets" "[LDishPointer$Target;", .fieldLink RX2 128 "DishPointer$Target" "state" "I", .fieldLink RX2 131 "DishPointer$Target" "doneAt" "I", .fieldLink RX2 50 "DishPointer$State" "time" "I", .constant RX2 134 (-100004)] ++ wsX20 ++ wsX30)
def wsX2_append : List Cond := .code yX2_append cX2_append 9 (some .int) :: ([.fieldLink RX2 32 "DishPointer$State" "targets" "[LDishPointer$Target;", .fieldLink RX2 138 "DishPointer$Target" "azimuth" "I", .fieldLink RX2 140 "DishPointer$Target" "elevation" "I", .fieldLink RX2 142 "DishPointer$Target" "from" "I", .fieldLink RX2 145 "DishPointer$Target" "to" "I", .fieldLink RX2 148 "DishPointer$Target" "dwell" "I", .fieldLink RX2 151 "DishPointer$Target" "priority" "I", .fieldLink RX2 128 "DishPointer$Target" "state" "I", .fieldLink RX2 154 "DishPointer$Target" "breaks" "I", .methodLink RX2 135 yX2_targetsIn, .instanceMethod yX2_targetsIn, .selects RX2 yX2_targetsIn yX2_targetsIn, .initialized RX2, .code yX2_targetsIn cX2_targetsIn 7 (some .int)] ++ wsX20 ++ wsX30)
def wsX2_remove_r1 : List Cond := [Cond.methodLink RX2 125 Lib.Math.max.name, Cond.static Lib.Math.max.name, Cond.initialized "java/lang/Math", Cond.code Lib.Math.max.name Lib.Math.max.code 2 (some .int), Cond.fieldLink RX2 32 "DishPointer$State" "targets" "[LDishPointer$Target;", Cond.fieldLink RX2 128 "DishPointer$Target" "state" "I", Cond.methodLink RX2 70 yX3_copyFrom, Cond.instanceMethod yX3_copyFrom, Cond.selects RX3 yX3_copyFrom yX3_copyFrom, Cond.initialized RX3, Cond.code yX3_copyFrom cX3_copyFrom 2 none, Cond.fieldLink RX3 15 "DishPointer$Target" "azimuth" "I", Cond.fieldLink RX3 18 "DishPointer$Target" "elevation" "I", Cond.fieldLink RX3 21 "DishPointer$Target" "from" "I", Cond.fieldLink RX3 24 "DishPointer$Target" "to" "I", Cond.fieldLink RX3 27 "DishPointer$Target" "dwell" "I", Cond.fieldLink RX3 30 "DishPointer$Target" "priority" "I", Cond.fieldLink RX3 9 "DishPointer$Target" "state" "I", Cond.fieldLink RX3 33 "DishPointer$Target" "begunAt" "I", Cond.fieldLink RX3 36 "DishPointer$Target" "slewedAt" "I", Cond.fieldLink RX3 39 "DishPointer$Target" "doneAt" "I", Cond.fieldLink RX3 42 "DishPointer$Target" "error" "I", Cond.fieldLink RX3 45 "DishPointer$Target" "breaks" "I", Cond.fieldLink RX3 48 "DishPointer$Target" "place" "I"]
def wsX2_remove_r2 : List Cond := [Cond.fieldLink RX3 51 "DishPointer$Target" "slewLookedAt" "Z"]
def wsX2_remove : List Cond := .code yX2_remove cX2_remove 3 none :: ((wsX2_remove_r1 ++ wsX2_remove_r2) ++ wsX20 ++ wsX30)
def wsX2_reasonAgainst_r1 : List Cond := [Cond.fieldLink RX2 128 "DishPointer$Target" "state" "I", Cond.fieldLink RX2 50 "DishPointer$State" "time" "I", Cond.fieldLink RX2 142 "DishPointer$Target" "from" "I", Cond.fieldLink RX2 140 "DishPointer$Target" "elevation" "I", Cond.fieldLink RX2 102 "DishPointer$Way" "possible" "Z", Cond.fieldLink RX2 138 "DishPointer$Target" "azimuth" "I", Cond.fieldLink RX2 124 "DishPointer$Way" "time" "I", Cond.methodLink RX2 125 Lib.Math.max.name, Cond.static Lib.Math.max.name, Cond.initialized "java/lang/Math", Cond.code Lib.Math.max.name Lib.Math.max.code 2 (some .int), Cond.fieldLink RX2 148 "DishPointer$Target" "dwell" "I", Cond.fieldLink RX2 145 "DishPointer$Target" "to" "I", Cond.methodLink RX2 157 yX2_numberUnderWay, Cond.instanceMethod yX2_numberUnderWay, Cond.selects RX2 yX2_numberUnderWay yX2_numberUnderWay, Cond.initialized RX2, Cond.code yX2_numberUnderWay cX2_numberUnderWay 2 (some .int), Cond.fieldLink RX2 32 "DishPointer$State" "targets" "[LDishPointer$Target;", Cond.methodLink RX2 80 yX2_kindOfDay, Cond.instanceMethod yX2_kindOfDay, Cond.selects RX2 yX2_kindOfDay yX2_kindOfDay, Cond.code yX2_kindOfDay cX2_kindOfDay 2 (some .int), Cond.fieldLink RX2 9 "DishPointer$State" "settings" "[I"]
def wsX2_reasonAgainst_r2 : List Cond := [Cond.methodLink RX2 77 yX2_gustToday, Cond.instanceMethod yX2_gustToday, Cond.selects RX2 yX2_gustToday yX2_gustToday, Cond.code yX2_gustToday cX2_gustToday 2 (some .int), Cond.fieldLink RX2 15 "DishPointer$State" "gusts" "[I", Cond.methodLink RX2 73 yX2_day, Cond.instanceMethod yX2_day, Cond.selects RX2 yX2_day yX2_day, Cond.code yX2_day cX2_day 1 (some .int), Cond.methodLink RX2 160 yX2_wayRise, Cond.instanceMethod yX2_wayRise, Cond.selects RX2 yX2_wayRise yX2_wayRise, Cond.code yX2_wayRise cX2_wayRise 2 (some (.object "DishPointer$Way")), Cond.fieldLink RX2 46 "DishPointer$State" "riseWay" "LDishPointer$Way;", Cond.fieldLink RX2 27 "DishPointer$State" "elevation" "LDishPointer$Axis;", Cond.methodLink RX2 98 yX5_plan, Cond.instanceMethod yX5_plan, Cond.selects RX5 yX5_plan yX5_plan, Cond.initialized RX5, Cond.code yX5_plan cX5_plan 6 none, Cond.fieldLink RX5 15 "DishPointer$Way" "place" "I", Cond.fieldLink RX5 21 "DishPointer$Axis" "side" "I", Cond.fieldLink RX5 24 "DishPointer$Axis" "slack" "I", Cond.fieldLink RX5 27 "DishPointer$Axis" "play" "I"]
def wsX2_reasonAgainst_r3 : List Cond := [Cond.fieldLink RX5 30 "DishPointer$Way" "turns" "Z", Cond.fieldLink RX5 34 "DishPointer$Way" "turn" "I", Cond.fieldLink RX5 37 "DishPointer$Way" "end" "I", Cond.fieldLink RX5 40 "DishPointer$Axis" "motor" "I", Cond.fieldLink RX5 47 "DishPointer$Way" "possible" "Z", Cond.methodLink RX5 50 Lib.Math.abs.name, Cond.static Lib.Math.abs.name, Cond.code Lib.Math.abs.name Lib.Math.abs.code 1 (some .int), Cond.fieldLink RX5 56 "DishPointer$Way" "length" "I", Cond.fieldLink RX5 59 "DishPointer$Axis" "speed" "I", Cond.fieldLink RX5 62 "DishPointer$Way" "time" "I", Cond.methodLink RX5 9 yX0_dish, Cond.instanceMethod yX0_dish, Cond.selects RX0 yX0_dish yX0_dish, Cond.initialized RX0, Cond.code yX0_dish cX0_dish 1 (some .int), Cond.fieldLink RX0 21 "DishPointer$Axis" "motor" "I", Cond.fieldLink RX0 33 "DishPointer$Axis" "slack" "I", Cond.methodLink RX5 43 yX0_reaches, Cond.instanceMethod yX0_reaches, Cond.selects RX0 yX0_reaches yX0_reaches, Cond.code yX0_reaches cX0_reaches 2 (some .boolean), Cond.fieldLink RX0 9 "DishPointer$Axis" "least" "I", Cond.fieldLink RX0 15 "DishPointer$Axis" "most" "I"]
def wsX2_reasonAgainst_r4 : List Cond := [Cond.methodLink RX2 164 yX2_wayAround, Cond.instanceMethod yX2_wayAround, Cond.selects RX2 yX2_wayAround yX2_wayAround, Cond.code yX2_wayAround cX2_wayAround 2 (some (.object "DishPointer$Way")), Cond.fieldLink RX2 39 "DishPointer$State" "lowWay" "LDishPointer$Way;", Cond.fieldLink RX2 23 "DishPointer$State" "azimuth" "LDishPointer$Axis;", Cond.constant RX2 86 (36000), Cond.fieldLink RX2 43 "DishPointer$State" "highWay" "LDishPointer$Way;", Cond.methodLink RX2 106 yX2_isLowWayTaken, Cond.instanceMethod yX2_isLowWayTaken, Cond.selects RX2 yX2_isLowWayTaken yX2_isLowWayTaken, Cond.code yX2_isLowWayTaken cX2_isLowWayTaken 5 (some .boolean), Cond.fieldLink RX2 110 "DishPointer$Way" "place" "I", Cond.methodLink RX2 113 Lib.Math.abs.name, Cond.fieldLink RX2 117 "DishPointer$Way" "length" "I"]
def wsX2_reasonAgainst : List Cond := .code yX2_reasonAgainst cX2_reasonAgainst 4 (some .int) :: ((wsX2_reasonAgainst_r1 ++ (wsX2_reasonAgainst_r2 ++ (wsX2_reasonAgainst_r3 ++ wsX2_reasonAgainst_r4))) ++ wsX30 ++ wsX20 ++ wsX50 ++ wsX00)
def wsX3_isBetterThan : List Cond := .code yX3_isBetterThan cX3_isBetterThan 2 (some .boolean) :: ([.fieldLink RX3 30 "DishPointer$Target" "priority" "I", .fieldLink RX3 24 "DishPointer$Target" "to" "I"] ++ wsX30)
def wsX2_bestToBegin_r1 : List Cond := [Cond.fieldLink RX2 32 "DishPointer$State" "targets" "[LDishPointer$Target;", Cond.methodLink RX2 167 yX2_reasonAgainst, Cond.instanceMethod yX2_reasonAgainst, Cond.selects RX2 yX2_reasonAgainst yX2_reasonAgainst, Cond.initialized RX2, Cond.code yX2_reasonAgainst cX2_reasonAgainst 4 (some .int), Cond.fieldLink RX2 128 "DishPointer$Target" "state" "I", Cond.fieldLink RX2 50 "DishPointer$State" "time" "I", Cond.fieldLink RX2 142 "DishPointer$Target" "from" "I", Cond.fieldLink RX2 140 "DishPointer$Target" "elevation" "I", Cond.fieldLink RX2 102 "DishPointer$Way" "possible" "Z", Cond.fieldLink RX2 138 "DishPointer$Target" "azimuth" "I", Cond.fieldLink RX2 124 "DishPointer$Way" "time" "I", Cond.methodLink RX2 125 Lib.Math.max.name, Cond.static Lib.Math.max.name, Cond.initialized "java/lang/Math", Cond.code Lib.Math.max.name Lib.Math.max.code 2 (some .int), Cond.fieldLink RX2 148 "DishPointer$Target" "dwell" "I", Cond.fieldLink RX2 145 "DishPointer$Target" "to" "I", Cond.methodLink RX2 157 yX2_numberUnderWay, Cond.instanceMethod yX2_numberUnderWay, Cond.selects RX2 yX2_numberUnderWay yX2_numberUnderWay, Cond.code yX2_numberUnderWay cX2_numberUnderWay 2 (some .int), Cond.methodLink RX2 80 yX2_kindOfDay]
def wsX2_bestToBegin_r2 : List Cond := [Cond.instanceMethod yX2_kindOfDay, Cond.selects RX2 yX2_kindOfDay yX2_kindOfDay, Cond.code yX2_kindOfDay cX2_kindOfDay 2 (some .int), Cond.fieldLink RX2 9 "DishPointer$State" "settings" "[I", Cond.methodLink RX2 77 yX2_gustToday, Cond.instanceMethod yX2_gustToday, Cond.selects RX2 yX2_gustToday yX2_gustToday, Cond.code yX2_gustToday cX2_gustToday 2 (some .int), Cond.fieldLink RX2 15 "DishPointer$State" "gusts" "[I", Cond.methodLink RX2 73 yX2_day, Cond.instanceMethod yX2_day, Cond.selects RX2 yX2_day yX2_day, Cond.code yX2_day cX2_day 1 (some .int), Cond.methodLink RX2 160 yX2_wayRise, Cond.instanceMethod yX2_wayRise, Cond.selects RX2 yX2_wayRise yX2_wayRise, Cond.code yX2_wayRise cX2_wayRise 2 (some (.object "DishPointer$Way")), Cond.fieldLink RX2 46 "DishPointer$State" "riseWay" "LDishPointer$Way;", Cond.fieldLink RX2 27 "DishPointer$State" "elevation" "LDishPointer$Axis;", Cond.methodLink RX2 98 yX5_plan, Cond.instanceMethod yX5_plan, Cond.selects RX5 yX5_plan yX5_plan, Cond.initialized RX5, Cond.code yX5_plan cX5_plan 6 none]
def wsX2_bestToBegin_r3 : List Cond := [Cond.fieldLink RX5 15 "DishPointer$Way" "place" "I", Cond.fieldLink RX5 21 "DishPointer$Axis" "side" "I", Cond.fieldLink RX5 24 "DishPointer$Axis" "slack" "I", Cond.fieldLink RX5 27 "DishPointer$Axis" "play" "I", Cond.fieldLink RX5 30 "DishPointer$Way" "turns" "Z", Cond.fieldLink RX5 34 "DishPointer$Way" "turn" "I", Cond.fieldLink RX5 37 "DishPointer$Way" "end" "I", Cond.fieldLink RX5 40 "DishPointer$Axis" "motor" "I", Cond.fieldLink RX5 47 "DishPointer$Way" "possible" "Z", Cond.methodLink RX5 50 Lib.Math.abs.name, Cond.static Lib.Math.abs.name, Cond.code Lib.Math.abs.name Lib.Math.abs.code 1 (some .int), Cond.fieldLink RX5 56 "DishPointer$Way" "length" "I", Cond.fieldLink RX5 59 "DishPointer$Axis" "speed" "I", Cond.fieldLink RX5 62 "DishPointer$Way" "time" "I", Cond.methodLink RX5 9 yX0_dish, Cond.instanceMethod yX0_dish, Cond.selects RX0 yX0_dish yX0_dish, Cond.initialized RX0, Cond.code yX0_dish cX0_dish 1 (some .int), Cond.fieldLink RX0 21 "DishPointer$Axis" "motor" "I", Cond.fieldLink RX0 33 "DishPointer$Axis" "slack" "I", Cond.methodLink RX5 43 yX0_reaches, Cond.instanceMethod yX0_reaches]
def wsX2_bestToBegin_r4 : List Cond := [Cond.selects RX0 yX0_reaches yX0_reaches, Cond.code yX0_reaches cX0_reaches 2 (some .boolean), Cond.fieldLink RX0 9 "DishPointer$Axis" "least" "I", Cond.fieldLink RX0 15 "DishPointer$Axis" "most" "I", Cond.methodLink RX2 164 yX2_wayAround, Cond.instanceMethod yX2_wayAround, Cond.selects RX2 yX2_wayAround yX2_wayAround, Cond.code yX2_wayAround cX2_wayAround 2 (some (.object "DishPointer$Way")), Cond.fieldLink RX2 39 "DishPointer$State" "lowWay" "LDishPointer$Way;", Cond.fieldLink RX2 23 "DishPointer$State" "azimuth" "LDishPointer$Axis;", Cond.constant RX2 86 (36000), Cond.fieldLink RX2 43 "DishPointer$State" "highWay" "LDishPointer$Way;", Cond.methodLink RX2 106 yX2_isLowWayTaken, Cond.instanceMethod yX2_isLowWayTaken, Cond.selects RX2 yX2_isLowWayTaken yX2_isLowWayTaken, Cond.code yX2_isLowWayTaken cX2_isLowWayTaken 5 (some .boolean), Cond.fieldLink RX2 110 "DishPointer$Way" "place" "I", Cond.methodLink RX2 113 Lib.Math.abs.name, Cond.fieldLink RX2 117 "DishPointer$Way" "length" "I", Cond.methodLink RX2 171 yX3_isBetterThan, Cond.instanceMethod yX3_isBetterThan, Cond.selects RX3 yX3_isBetterThan yX3_isBetterThan, Cond.initialized RX3, Cond.code yX3_isBetterThan cX3_isBetterThan 2 (some .boolean)]
def wsX2_bestToBegin_r5 : List Cond := [Cond.fieldLink RX3 30 "DishPointer$Target" "priority" "I", Cond.fieldLink RX3 24 "DishPointer$Target" "to" "I"]
def wsX2_bestToBegin : List Cond := .code yX2_bestToBegin cX2_bestToBegin 3 (some .int) :: ((wsX2_bestToBegin_r1 ++ (wsX2_bestToBegin_r2 ++ (wsX2_bestToBegin_r3 ++ (wsX2_bestToBegin_r4 ++ wsX2_bestToBegin_r5)))) ++ wsX20 ++ wsX30 ++ wsX50 ++ wsX00)
def wsX2_beginHold : List Cond := .code yX2_beginHold cX2_beginHold 5 none :: ([.fieldLink RX2 57 "DishPointer$State" "holds" "I", .fieldLink RX2 32 "DishPointer$State" "targets" "[LDishPointer$Target;", .fieldLink RX2 128 "DishPointer$Target" "state" "I", .fieldLink RX2 154 "DishPointer$Target" "breaks" "I", .fieldLink RX2 27 "DishPointer$State" "elevation" "LDishPointer$Axis;", .methodLink RX2 196 yX0_moveTo, .instanceMethod yX0_moveTo, .selects RX0 yX0_moveTo yX0_moveTo, .initialized RX0, .code yX0_moveTo cX0_moveTo 3 none, .fieldLink RX0 21 "DishPointer$Axis" "motor" "I", .fieldLink RX0 36 "DishPointer$Axis" "wentUp" "I", .fieldLink RX0 33 "DishPointer$Axis" "slack" "I", .fieldLink RX0 24 "DishPointer$Axis" "play" "I", .methodLink RX0 46 Lib.Math.min.name, .static Lib.Math.min.name, .initialized "java/lang/Math", .code Lib.Math.min.name Lib.Math.min.code 2 (some .int), .fieldLink RX0 39 "DishPointer$Axis" "wentDown" "I", .methodLink RX0 52 Lib.Math.max.name, .static Lib.Math.max.name, .code Lib.Math.max.name Lib.Math.max.code 2 (some .int)] ++ wsX20 ++ wsX30 ++ wsX00)
def wsX2_lookAtSlew : List Cond := .code yX2_lookAtSlew cX2_lookAtSlew 2 none :: ([.fieldLink RX2 210 "DishPointer$Target" "slewLookedAt" "Z", .fieldLink RX2 50 "DishPointer$State" "time" "I", .fieldLink RX2 190 "DishPointer$Target" "slewedAt" "I", .fieldLink RX2 23 "DishPointer$State" "azimuth" "LDishPointer$Axis;", .fieldLink RX2 213 "DishPointer$Axis" "play" "I", .fieldLink RX2 216 "DishPointer$Axis" "slack" "I", .methodLink RX2 80 yX2_kindOfDay, .instanceMethod yX2_kindOfDay, .selects RX2 yX2_kindOfDay yX2_kindOfDay, .initialized RX2, .code yX2_kindOfDay cX2_kindOfDay 2 (some .int), .fieldLink RX2 9 "DishPointer$State" "settings" "[I", .methodLink RX2 77 yX2_gustToday, .instanceMethod yX2_gustToday, .selects RX2 yX2_gustToday yX2_gustToday, .code yX2_gustToday cX2_gustToday 2 (some .int), .fieldLink RX2 15 "DishPointer$State" "gusts" "[I", .methodLink RX2 73 yX2_day, .instanceMethod yX2_day, .selects RX2 yX2_day yX2_day, .code yX2_day cX2_day 1 (some .int)] ++ wsX30 ++ wsX20 ++ wsX00)
def wsX2_goOnWith_r1 : List Cond := [Cond.fieldLink RX2 50 "DishPointer$State" "time" "I", Cond.fieldLink RX2 131 "DishPointer$Target" "doneAt" "I", Cond.fieldLink RX2 128 "DishPointer$Target" "state" "I", Cond.fieldLink RX2 23 "DishPointer$State" "azimuth" "LDishPointer$Axis;", Cond.fieldLink RX2 206 "DishPointer$Target" "place" "I", Cond.fieldLink RX2 207 "DishPointer$Target" "error" "I", Cond.methodLink RX2 203 yX2_lookAtSlew, Cond.instanceMethod yX2_lookAtSlew, Cond.selects RX2 yX2_lookAtSlew yX2_lookAtSlew, Cond.initialized RX2, Cond.code yX2_lookAtSlew cX2_lookAtSlew 2 none, Cond.fieldLink RX2 210 "DishPointer$Target" "slewLookedAt" "Z", Cond.fieldLink RX2 190 "DishPointer$Target" "slewedAt" "I", Cond.fieldLink RX2 213 "DishPointer$Axis" "play" "I", Cond.fieldLink RX2 216 "DishPointer$Axis" "slack" "I", Cond.methodLink RX2 80 yX2_kindOfDay, Cond.instanceMethod yX2_kindOfDay, Cond.selects RX2 yX2_kindOfDay yX2_kindOfDay, Cond.code yX2_kindOfDay cX2_kindOfDay 2 (some .int), Cond.fieldLink RX2 9 "DishPointer$State" "settings" "[I", Cond.methodLink RX2 77 yX2_gustToday, Cond.instanceMethod yX2_gustToday, Cond.selects RX2 yX2_gustToday yX2_gustToday, Cond.code yX2_gustToday cX2_gustToday 2 (some .int)]
def wsX2_goOnWith_r2 : List Cond := [Cond.fieldLink RX2 15 "DishPointer$State" "gusts" "[I", Cond.methodLink RX2 73 yX2_day, Cond.instanceMethod yX2_day, Cond.selects RX2 yX2_day yX2_day, Cond.code yX2_day cX2_day 1 (some .int), Cond.methodLink RX2 83 yX0_dish, Cond.instanceMethod yX0_dish, Cond.selects RX0 yX0_dish yX0_dish, Cond.initialized RX0, Cond.code yX0_dish cX0_dish 1 (some .int), Cond.fieldLink RX0 21 "DishPointer$Axis" "motor" "I", Cond.fieldLink RX0 33 "DishPointer$Axis" "slack" "I"]
def wsX2_goOnWith : List Cond := .code yX2_goOnWith cX2_goOnWith 2 none :: ((wsX2_goOnWith_r1 ++ wsX2_goOnWith_r2) ++ wsX20 ++ wsX30 ++ wsX00)
def wsX2_endWhatIsOver_r1 : List Cond := [Cond.fieldLink RX2 32 "DishPointer$State" "targets" "[LDishPointer$Target;", Cond.fieldLink RX2 128 "DishPointer$Target" "state" "I", Cond.fieldLink RX2 145 "DishPointer$Target" "to" "I", Cond.fieldLink RX2 50 "DishPointer$State" "time" "I", Cond.methodLink RX2 200 yX2_goOnWith, Cond.instanceMethod yX2_goOnWith, Cond.selects RX2 yX2_goOnWith yX2_goOnWith, Cond.initialized RX2, Cond.code yX2_goOnWith cX2_goOnWith 2 none, Cond.fieldLink RX2 131 "DishPointer$Target" "doneAt" "I", Cond.fieldLink RX2 23 "DishPointer$State" "azimuth" "LDishPointer$Axis;", Cond.fieldLink RX2 206 "DishPointer$Target" "place" "I", Cond.fieldLink RX2 207 "DishPointer$Target" "error" "I", Cond.methodLink RX2 203 yX2_lookAtSlew, Cond.instanceMethod yX2_lookAtSlew, Cond.selects RX2 yX2_lookAtSlew yX2_lookAtSlew, Cond.code yX2_lookAtSlew cX2_lookAtSlew 2 none, Cond.fieldLink RX2 210 "DishPointer$Target" "slewLookedAt" "Z", Cond.fieldLink RX2 190 "DishPointer$Target" "slewedAt" "I", Cond.fieldLink RX2 213 "DishPointer$Axis" "play" "I", Cond.fieldLink RX2 216 "DishPointer$Axis" "slack" "I", Cond.methodLink RX2 80 yX2_kindOfDay, Cond.instanceMethod yX2_kindOfDay, Cond.selects RX2 yX2_kindOfDay yX2_kindOfDay]
def wsX2_endWhatIsOver_r2 : List Cond := [Cond.code yX2_kindOfDay cX2_kindOfDay 2 (some .int), Cond.fieldLink RX2 9 "DishPointer$State" "settings" "[I", Cond.methodLink RX2 77 yX2_gustToday, Cond.instanceMethod yX2_gustToday, Cond.selects RX2 yX2_gustToday yX2_gustToday, Cond.code yX2_gustToday cX2_gustToday 2 (some .int), Cond.fieldLink RX2 15 "DishPointer$State" "gusts" "[I", Cond.methodLink RX2 73 yX2_day, Cond.instanceMethod yX2_day, Cond.selects RX2 yX2_day yX2_day, Cond.code yX2_day cX2_day 1 (some .int), Cond.methodLink RX2 83 yX0_dish, Cond.instanceMethod yX0_dish, Cond.selects RX0 yX0_dish yX0_dish, Cond.initialized RX0, Cond.code yX0_dish cX0_dish 1 (some .int), Cond.fieldLink RX0 21 "DishPointer$Axis" "motor" "I", Cond.fieldLink RX0 33 "DishPointer$Axis" "slack" "I"]
def wsX2_endWhatIsOver : List Cond := .code yX2_endWhatIsOver cX2_endWhatIsOver 5 none :: ((wsX2_endWhatIsOver_r1 ++ wsX2_endWhatIsOver_r2) ++ wsX20 ++ wsX30 ++ wsX00)
def wsX2_begin_r1 : List Cond := [Cond.fieldLink RX2 138 "DishPointer$Target" "azimuth" "I", Cond.fieldLink RX2 140 "DishPointer$Target" "elevation" "I", Cond.fieldLink RX2 128 "DishPointer$Target" "state" "I", Cond.fieldLink RX2 110 "DishPointer$Way" "place" "I", Cond.fieldLink RX2 206 "DishPointer$Target" "place" "I", Cond.fieldLink RX2 50 "DishPointer$State" "time" "I", Cond.fieldLink RX2 219 "DishPointer$Target" "begunAt" "I", Cond.fieldLink RX2 190 "DishPointer$Target" "slewedAt" "I", Cond.fieldLink RX2 148 "DishPointer$Target" "dwell" "I", Cond.fieldLink RX2 131 "DishPointer$Target" "doneAt" "I", Cond.fieldLink RX2 210 "DishPointer$Target" "slewLookedAt" "Z", Cond.methodLink RX2 164 yX2_wayAround, Cond.instanceMethod yX2_wayAround, Cond.selects RX2 yX2_wayAround yX2_wayAround, Cond.initialized RX2, Cond.code yX2_wayAround cX2_wayAround 2 (some (.object "DishPointer$Way")), Cond.fieldLink RX2 39 "DishPointer$State" "lowWay" "LDishPointer$Way;", Cond.fieldLink RX2 23 "DishPointer$State" "azimuth" "LDishPointer$Axis;", Cond.constant RX2 86 (36000), Cond.fieldLink RX2 9 "DishPointer$State" "settings" "[I", Cond.fieldLink RX2 43 "DishPointer$State" "highWay" "LDishPointer$Way;", Cond.fieldLink RX2 102 "DishPointer$Way" "possible" "Z", Cond.methodLink RX2 98 yX5_plan, Cond.instanceMethod yX5_plan]
def wsX2_begin_r2 : List Cond := [Cond.selects RX5 yX5_plan yX5_plan, Cond.initialized RX5, Cond.code yX5_plan cX5_plan 6 none, Cond.fieldLink RX5 15 "DishPointer$Way" "place" "I", Cond.fieldLink RX5 21 "DishPointer$Axis" "side" "I", Cond.fieldLink RX5 24 "DishPointer$Axis" "slack" "I", Cond.fieldLink RX5 27 "DishPointer$Axis" "play" "I", Cond.fieldLink RX5 30 "DishPointer$Way" "turns" "Z", Cond.fieldLink RX5 34 "DishPointer$Way" "turn" "I", Cond.fieldLink RX5 37 "DishPointer$Way" "end" "I", Cond.fieldLink RX5 40 "DishPointer$Axis" "motor" "I", Cond.fieldLink RX5 47 "DishPointer$Way" "possible" "Z", Cond.methodLink RX5 50 Lib.Math.abs.name, Cond.static Lib.Math.abs.name, Cond.initialized "java/lang/Math", Cond.code Lib.Math.abs.name Lib.Math.abs.code 1 (some .int), Cond.fieldLink RX5 56 "DishPointer$Way" "length" "I", Cond.fieldLink RX5 59 "DishPointer$Axis" "speed" "I", Cond.fieldLink RX5 62 "DishPointer$Way" "time" "I", Cond.methodLink RX5 9 yX0_dish, Cond.instanceMethod yX0_dish, Cond.selects RX0 yX0_dish yX0_dish, Cond.initialized RX0, Cond.code yX0_dish cX0_dish 1 (some .int)]
def wsX2_begin_r3 : List Cond := [Cond.fieldLink RX0 21 "DishPointer$Axis" "motor" "I", Cond.fieldLink RX0 33 "DishPointer$Axis" "slack" "I", Cond.methodLink RX5 43 yX0_reaches, Cond.instanceMethod yX0_reaches, Cond.selects RX0 yX0_reaches yX0_reaches, Cond.code yX0_reaches cX0_reaches 2 (some .boolean), Cond.fieldLink RX0 9 "DishPointer$Axis" "least" "I", Cond.fieldLink RX0 15 "DishPointer$Axis" "most" "I", Cond.methodLink RX2 106 yX2_isLowWayTaken, Cond.instanceMethod yX2_isLowWayTaken, Cond.selects RX2 yX2_isLowWayTaken yX2_isLowWayTaken, Cond.code yX2_isLowWayTaken cX2_isLowWayTaken 5 (some .boolean), Cond.methodLink RX2 113 Lib.Math.abs.name, Cond.fieldLink RX2 117 "DishPointer$Way" "length" "I", Cond.methodLink RX2 160 yX2_wayRise, Cond.instanceMethod yX2_wayRise, Cond.selects RX2 yX2_wayRise yX2_wayRise, Cond.code yX2_wayRise cX2_wayRise 2 (some (.object "DishPointer$Way")), Cond.fieldLink RX2 46 "DishPointer$State" "riseWay" "LDishPointer$Way;", Cond.fieldLink RX2 27 "DishPointer$State" "elevation" "LDishPointer$Axis;", Cond.methodLink RX2 222 yX2_followWays, Cond.instanceMethod yX2_followWays, Cond.selects RX2 yX2_followWays yX2_followWays, Cond.code yX2_followWays cX2_followWays 3 (some .int)]
def wsX2_begin_r4 : List Cond := [Cond.fieldLink RX2 54 "DishPointer$State" "slews" "I", Cond.fieldLink RX2 124 "DishPointer$Way" "time" "I", Cond.methodLink RX2 125 Lib.Math.max.name, Cond.static Lib.Math.max.name, Cond.code Lib.Math.max.name Lib.Math.max.code 2 (some .int), Cond.methodLink RX2 120 yX0_follow, Cond.instanceMethod yX0_follow, Cond.selects RX0 yX0_follow yX0_follow, Cond.code yX0_follow cX0_follow 2 none, Cond.fieldLink RX0 55 "DishPointer$Way" "turn" "I", Cond.fieldLink RX0 64 "DishPointer$Way" "end" "I", Cond.methodLink RX0 60 yX0_moveTo, Cond.instanceMethod yX0_moveTo, Cond.selects RX0 yX0_moveTo yX0_moveTo, Cond.code yX0_moveTo cX0_moveTo 3 none, Cond.fieldLink RX0 36 "DishPointer$Axis" "wentUp" "I", Cond.fieldLink RX0 24 "DishPointer$Axis" "play" "I", Cond.methodLink RX0 46 Lib.Math.min.name, Cond.static Lib.Math.min.name, Cond.code Lib.Math.min.name Lib.Math.min.code 2 (some .int), Cond.fieldLink RX0 39 "DishPointer$Axis" "wentDown" "I", Cond.methodLink RX0 52 Lib.Math.max.name, Cond.methodLink RX2 203 yX2_lookAtSlew, Cond.instanceMethod yX2_lookAtSlew]
def wsX2_begin_r5 : List Cond := [Cond.selects RX2 yX2_lookAtSlew yX2_lookAtSlew, Cond.code yX2_lookAtSlew cX2_lookAtSlew 2 none, Cond.fieldLink RX2 213 "DishPointer$Axis" "play" "I", Cond.fieldLink RX2 216 "DishPointer$Axis" "slack" "I", Cond.methodLink RX2 80 yX2_kindOfDay, Cond.instanceMethod yX2_kindOfDay, Cond.selects RX2 yX2_kindOfDay yX2_kindOfDay, Cond.code yX2_kindOfDay cX2_kindOfDay 2 (some .int), Cond.methodLink RX2 77 yX2_gustToday, Cond.instanceMethod yX2_gustToday, Cond.selects RX2 yX2_gustToday yX2_gustToday, Cond.code yX2_gustToday cX2_gustToday 2 (some .int), Cond.fieldLink RX2 15 "DishPointer$State" "gusts" "[I", Cond.methodLink RX2 73 yX2_day, Cond.instanceMethod yX2_day, Cond.selects RX2 yX2_day yX2_day, Cond.code yX2_day cX2_day 1 (some .int)]
def wsX2_begin : List Cond := .code yX2_begin cX2_begin 4 none :: ((wsX2_begin_r1 ++ (wsX2_begin_r2 ++ (wsX2_begin_r3 ++ (wsX2_begin_r4 ++ wsX2_begin_r5)))) ++ wsX30 ++ wsX50 ++ wsX20 ++ wsX00)
def wsX2_sooner : List Cond := .code yX2_sooner cX2_sooner 3 (some .int) :: ([.fieldLink RX2 50 "DishPointer$State" "time" "I"] ++ wsX20)
def wsX2_nextEvent : List Cond := .code yX2_nextEvent cX2_nextEvent 6 (some .int) :: ([.fieldLink RX2 32 "DishPointer$State" "targets" "[LDishPointer$Target;", .fieldLink RX2 128 "DishPointer$Target" "state" "I", .fieldLink RX2 190 "DishPointer$Target" "slewedAt" "I", .fieldLink RX2 131 "DishPointer$Target" "doneAt" "I", .fieldLink RX2 142 "DishPointer$Target" "from" "I", .fieldLink RX2 145 "DishPointer$Target" "to" "I", .methodLink RX2 73 yX2_day, .instanceMethod yX2_day, .selects RX2 yX2_day yX2_day, .initialized RX2, .code yX2_day cX2_day 1 (some .int), .fieldLink RX2 50 "DishPointer$State" "time" "I", .methodLink RX2 193 yX2_sooner, .instanceMethod yX2_sooner, .selects RX2 yX2_sooner yX2_sooner, .code yX2_sooner cX2_sooner 3 (some .int)] ++ wsX20 ++ wsX30)
def wsX2_letPass_r1 : List Cond := [Cond.fieldLink RX2 50 "DishPointer$State" "time" "I", Cond.fieldLink RX2 32 "DishPointer$State" "targets" "[LDishPointer$Target;", Cond.methodLink RX2 80 yX2_kindOfDay, Cond.instanceMethod yX2_kindOfDay, Cond.selects RX2 yX2_kindOfDay yX2_kindOfDay, Cond.initialized RX2, Cond.code yX2_kindOfDay cX2_kindOfDay 2 (some .int), Cond.fieldLink RX2 9 "DishPointer$State" "settings" "[I", Cond.methodLink RX2 77 yX2_gustToday, Cond.instanceMethod yX2_gustToday, Cond.selects RX2 yX2_gustToday yX2_gustToday, Cond.code yX2_gustToday cX2_gustToday 2 (some .int), Cond.fieldLink RX2 15 "DishPointer$State" "gusts" "[I", Cond.methodLink RX2 73 yX2_day, Cond.instanceMethod yX2_day, Cond.selects RX2 yX2_day yX2_day, Cond.code yX2_day cX2_day 1 (some .int), Cond.methodLink RX2 175 yX2_beginHold, Cond.instanceMethod yX2_beginHold, Cond.selects RX2 yX2_beginHold yX2_beginHold, Cond.code yX2_beginHold cX2_beginHold 5 none, Cond.fieldLink RX2 57 "DishPointer$State" "holds" "I", Cond.fieldLink RX2 128 "DishPointer$Target" "state" "I", Cond.fieldLink RX2 154 "DishPointer$Target" "breaks" "I"]
def wsX2_letPass_r2 : List Cond := [Cond.fieldLink RX2 27 "DishPointer$State" "elevation" "LDishPointer$Axis;", Cond.methodLink RX2 196 yX0_moveTo, Cond.instanceMethod yX0_moveTo, Cond.selects RX0 yX0_moveTo yX0_moveTo, Cond.initialized RX0, Cond.code yX0_moveTo cX0_moveTo 3 none, Cond.fieldLink RX0 21 "DishPointer$Axis" "motor" "I", Cond.fieldLink RX0 36 "DishPointer$Axis" "wentUp" "I", Cond.fieldLink RX0 33 "DishPointer$Axis" "slack" "I", Cond.fieldLink RX0 24 "DishPointer$Axis" "play" "I", Cond.methodLink RX0 46 Lib.Math.min.name, Cond.static Lib.Math.min.name, Cond.initialized "java/lang/Math", Cond.code Lib.Math.min.name Lib.Math.min.code 2 (some .int), Cond.fieldLink RX0 39 "DishPointer$Axis" "wentDown" "I", Cond.methodLink RX0 52 Lib.Math.max.name, Cond.static Lib.Math.max.name, Cond.code Lib.Math.max.name Lib.Math.max.code 2 (some .int), Cond.methodLink RX2 178 yX2_endWhatIsOver, Cond.instanceMethod yX2_endWhatIsOver, Cond.selects RX2 yX2_endWhatIsOver yX2_endWhatIsOver, Cond.code yX2_endWhatIsOver cX2_endWhatIsOver 5 none, Cond.fieldLink RX2 145 "DishPointer$Target" "to" "I", Cond.methodLink RX2 200 yX2_goOnWith]
def wsX2_letPass_r3 : List Cond := [Cond.instanceMethod yX2_goOnWith, Cond.selects RX2 yX2_goOnWith yX2_goOnWith, Cond.code yX2_goOnWith cX2_goOnWith 2 none, Cond.fieldLink RX2 131 "DishPointer$Target" "doneAt" "I", Cond.fieldLink RX2 23 "DishPointer$State" "azimuth" "LDishPointer$Axis;", Cond.fieldLink RX2 206 "DishPointer$Target" "place" "I", Cond.fieldLink RX2 207 "DishPointer$Target" "error" "I", Cond.methodLink RX2 203 yX2_lookAtSlew, Cond.instanceMethod yX2_lookAtSlew, Cond.selects RX2 yX2_lookAtSlew yX2_lookAtSlew, Cond.code yX2_lookAtSlew cX2_lookAtSlew 2 none, Cond.fieldLink RX2 210 "DishPointer$Target" "slewLookedAt" "Z", Cond.fieldLink RX2 190 "DishPointer$Target" "slewedAt" "I", Cond.fieldLink RX2 213 "DishPointer$Axis" "play" "I", Cond.fieldLink RX2 216 "DishPointer$Axis" "slack" "I", Cond.methodLink RX2 83 yX0_dish, Cond.instanceMethod yX0_dish, Cond.selects RX0 yX0_dish yX0_dish, Cond.code yX0_dish cX0_dish 1 (some .int), Cond.methodLink RX2 181 yX2_bestToBegin, Cond.instanceMethod yX2_bestToBegin, Cond.selects RX2 yX2_bestToBegin yX2_bestToBegin, Cond.code yX2_bestToBegin cX2_bestToBegin 3 (some .int), Cond.methodLink RX2 167 yX2_reasonAgainst]
def wsX2_letPass_r4 : List Cond := [Cond.instanceMethod yX2_reasonAgainst, Cond.selects RX2 yX2_reasonAgainst yX2_reasonAgainst, Cond.code yX2_reasonAgainst cX2_reasonAgainst 4 (some .int), Cond.fieldLink RX2 142 "DishPointer$Target" "from" "I", Cond.fieldLink RX2 140 "DishPointer$Target" "elevation" "I", Cond.fieldLink RX2 102 "DishPointer$Way" "possible" "Z", Cond.fieldLink RX2 138 "DishPointer$Target" "azimuth" "I", Cond.fieldLink RX2 124 "DishPointer$Way" "time" "I", Cond.methodLink RX2 125 Lib.Math.max.name, Cond.fieldLink RX2 148 "DishPointer$Target" "dwell" "I", Cond.methodLink RX2 157 yX2_numberUnderWay, Cond.instanceMethod yX2_numberUnderWay, Cond.selects RX2 yX2_numberUnderWay yX2_numberUnderWay, Cond.code yX2_numberUnderWay cX2_numberUnderWay 2 (some .int), Cond.methodLink RX2 160 yX2_wayRise, Cond.instanceMethod yX2_wayRise, Cond.selects RX2 yX2_wayRise yX2_wayRise, Cond.code yX2_wayRise cX2_wayRise 2 (some (.object "DishPointer$Way")), Cond.fieldLink RX2 46 "DishPointer$State" "riseWay" "LDishPointer$Way;", Cond.methodLink RX2 98 yX5_plan, Cond.instanceMethod yX5_plan, Cond.selects RX5 yX5_plan yX5_plan, Cond.initialized RX5, Cond.code yX5_plan cX5_plan 6 none]
def wsX2_letPass_r5 : List Cond := [Cond.fieldLink RX5 15 "DishPointer$Way" "place" "I", Cond.fieldLink RX5 21 "DishPointer$Axis" "side" "I", Cond.fieldLink RX5 24 "DishPointer$Axis" "slack" "I", Cond.fieldLink RX5 27 "DishPointer$Axis" "play" "I", Cond.fieldLink RX5 30 "DishPointer$Way" "turns" "Z", Cond.fieldLink RX5 34 "DishPointer$Way" "turn" "I", Cond.fieldLink RX5 37 "DishPointer$Way" "end" "I", Cond.fieldLink RX5 40 "DishPointer$Axis" "motor" "I", Cond.fieldLink RX5 47 "DishPointer$Way" "possible" "Z", Cond.methodLink RX5 50 Lib.Math.abs.name, Cond.static Lib.Math.abs.name, Cond.code Lib.Math.abs.name Lib.Math.abs.code 1 (some .int), Cond.fieldLink RX5 56 "DishPointer$Way" "length" "I", Cond.fieldLink RX5 59 "DishPointer$Axis" "speed" "I", Cond.fieldLink RX5 62 "DishPointer$Way" "time" "I", Cond.methodLink RX5 9 yX0_dish, Cond.methodLink RX5 43 yX0_reaches, Cond.instanceMethod yX0_reaches, Cond.selects RX0 yX0_reaches yX0_reaches, Cond.code yX0_reaches cX0_reaches 2 (some .boolean), Cond.fieldLink RX0 9 "DishPointer$Axis" "least" "I", Cond.fieldLink RX0 15 "DishPointer$Axis" "most" "I", Cond.methodLink RX2 164 yX2_wayAround, Cond.instanceMethod yX2_wayAround]
def wsX2_letPass_r6 : List Cond := [Cond.selects RX2 yX2_wayAround yX2_wayAround, Cond.code yX2_wayAround cX2_wayAround 2 (some (.object "DishPointer$Way")), Cond.fieldLink RX2 39 "DishPointer$State" "lowWay" "LDishPointer$Way;", Cond.constant RX2 86 (36000), Cond.fieldLink RX2 43 "DishPointer$State" "highWay" "LDishPointer$Way;", Cond.methodLink RX2 106 yX2_isLowWayTaken, Cond.instanceMethod yX2_isLowWayTaken, Cond.selects RX2 yX2_isLowWayTaken yX2_isLowWayTaken, Cond.code yX2_isLowWayTaken cX2_isLowWayTaken 5 (some .boolean), Cond.fieldLink RX2 110 "DishPointer$Way" "place" "I", Cond.methodLink RX2 113 Lib.Math.abs.name, Cond.fieldLink RX2 117 "DishPointer$Way" "length" "I", Cond.methodLink RX2 171 yX3_isBetterThan, Cond.instanceMethod yX3_isBetterThan, Cond.selects RX3 yX3_isBetterThan yX3_isBetterThan, Cond.initialized RX3, Cond.code yX3_isBetterThan cX3_isBetterThan 2 (some .boolean), Cond.fieldLink RX3 30 "DishPointer$Target" "priority" "I", Cond.fieldLink RX3 24 "DishPointer$Target" "to" "I", Cond.methodLink RX2 184 yX2_begin, Cond.instanceMethod yX2_begin, Cond.selects RX2 yX2_begin yX2_begin, Cond.code yX2_begin cX2_begin 4 none, Cond.fieldLink RX2 219 "DishPointer$Target" "begunAt" "I"]
def wsX2_letPass_r7 : List Cond := [Cond.methodLink RX2 222 yX2_followWays, Cond.instanceMethod yX2_followWays, Cond.selects RX2 yX2_followWays yX2_followWays, Cond.code yX2_followWays cX2_followWays 3 (some .int), Cond.fieldLink RX2 54 "DishPointer$State" "slews" "I", Cond.methodLink RX2 120 yX0_follow, Cond.instanceMethod yX0_follow, Cond.selects RX0 yX0_follow yX0_follow, Cond.code yX0_follow cX0_follow 2 none, Cond.fieldLink RX0 55 "DishPointer$Way" "turn" "I", Cond.fieldLink RX0 64 "DishPointer$Way" "end" "I", Cond.methodLink RX0 60 yX0_moveTo, Cond.methodLink RX2 187 yX2_nextEvent, Cond.instanceMethod yX2_nextEvent, Cond.selects RX2 yX2_nextEvent yX2_nextEvent, Cond.code yX2_nextEvent cX2_nextEvent 6 (some .int), Cond.methodLink RX2 193 yX2_sooner, Cond.instanceMethod yX2_sooner, Cond.selects RX2 yX2_sooner yX2_sooner, Cond.code yX2_sooner cX2_sooner 3 (some .int)]
def wsX2_letPass : List Cond := .code yX2_letPass cX2_letPass 7 none :: ((wsX2_letPass_r1 ++ (wsX2_letPass_r2 ++ (wsX2_letPass_r3 ++ (wsX2_letPass_r4 ++ (wsX2_letPass_r5 ++ (wsX2_letPass_r6 ++ wsX2_letPass_r7)))))) ++ wsX20 ++ wsX30 ++ wsX00 ++ wsX50)
def wsX3_ifBegun : List Cond := .code yX3_ifBegun cX3_ifBegun 2 (some .int) :: ([.fieldLink RX3 9 "DishPointer$Target" "state" "I", .constant RX3 59 (-100004)] ++ wsX30)
def wsX3_tell : List Cond := .code yX3_tell cX3_tell 2 (some .int) :: ([.fieldLink RX3 15 "DishPointer$Target" "azimuth" "I", .fieldLink RX3 18 "DishPointer$Target" "elevation" "I", .fieldLink RX3 21 "DishPointer$Target" "from" "I", .fieldLink RX3 24 "DishPointer$Target" "to" "I", .fieldLink RX3 27 "DishPointer$Target" "dwell" "I", .fieldLink RX3 30 "DishPointer$Target" "priority" "I", .fieldLink RX3 9 "DishPointer$Target" "state" "I", .fieldLink RX3 33 "DishPointer$Target" "begunAt" "I", .fieldLink RX3 36 "DishPointer$Target" "slewedAt" "I", .fieldLink RX3 39 "DishPointer$Target" "doneAt" "I", .fieldLink RX3 42 "DishPointer$Target" "error" "I", .constant RX3 59 (-100004), .fieldLink RX3 45 "DishPointer$Target" "breaks" "I", .fieldLink RX3 48 "DishPointer$Target" "place" "I", .constant RX3 60 (-100001), .methodLink RX3 55 yX3_ifBegun, .instanceMethod yX3_ifBegun, .selects RX3 yX3_ifBegun yX3_ifBegun, .initialized RX3, .code yX3_ifBegun cX3_ifBegun 2 (some .int)] ++ wsX30)
def wsX4_init : List Cond := .code yX4_init cX4_init 1 none :: ([.methodLink RX4 3 objectInit, .instanceMethod objectInit, .code objectInit ⟨#[0xb1]⟩ 1 none, .arrayClass .char, .fieldLink RX4 9 "DishPointer$TargetText" "signs" "[C", .arrayClass .int, .fieldLink RX4 15 "DishPointer$TargetText" "numbers" "[I"] ++ wsX40)
def wsX6_init_r1 : List Cond := [Cond.methodLink RX6 1 objectInit, Cond.instanceMethod objectInit, Cond.code objectInit ⟨#[0xb1]⟩ 1 none, Cond.classLink RX6 7 RX2, Cond.instantiable RX2 11, Cond.initialized RX2, Cond.fieldLink RX6 10 "DishPointer" "now" "LDishPointer$State;", Cond.fieldLink RX6 16 "DishPointer" "trial" "LDishPointer$State;", Cond.classLink RX6 19 RX1, Cond.instantiable RX1 2, Cond.initialized RX1, Cond.fieldLink RX6 22 "DishPointer" "history" "LDishPointer$History;", Cond.classLink RX6 26 RX4, Cond.instantiable RX4 6, Cond.initialized RX4, Cond.fieldLink RX6 29 "DishPointer" "text" "LDishPointer$TargetText;", Cond.methodLink RX6 9 yX2_init, Cond.instanceMethod yX2_init, Cond.code yX2_init cX2_init 2 none, Cond.methodLink RX2 3 objectInit, Cond.arrayClass .int, Cond.fieldLink RX2 9 "DishPointer$State" "settings" "[I", Cond.fieldLink RX2 15 "DishPointer$State" "gusts" "[I", Cond.classLink RX2 18 RX0]
def wsX6_init_r2 : List Cond := [Cond.instantiable RX0 10, Cond.initialized RX0, Cond.fieldLink RX2 23 "DishPointer$State" "azimuth" "LDishPointer$Axis;", Cond.fieldLink RX2 27 "DishPointer$State" "elevation" "LDishPointer$Axis;", Cond.classLink RX2 30 RX3, Cond.fieldLink RX2 32 "DishPointer$State" "targets" "[LDishPointer$Target;", Cond.classLink RX2 36 RX5, Cond.instantiable RX5 7, Cond.initialized RX5, Cond.fieldLink RX2 39 "DishPointer$State" "lowWay" "LDishPointer$Way;", Cond.fieldLink RX2 43 "DishPointer$State" "highWay" "LDishPointer$Way;", Cond.fieldLink RX2 46 "DishPointer$State" "riseWay" "LDishPointer$Way;", Cond.instantiable RX3 14, Cond.initialized RX3, Cond.methodLink RX2 20 yX0_init, Cond.instanceMethod yX0_init, Cond.code yX0_init cX0_init 6 none, Cond.methodLink RX0 3 objectInit, Cond.fieldLink RX0 9 "DishPointer$Axis" "least" "I", Cond.fieldLink RX0 15 "DishPointer$Axis" "most" "I", Cond.fieldLink RX0 18 "DishPointer$Axis" "start" "I", Cond.fieldLink RX0 21 "DishPointer$Axis" "motor" "I", Cond.fieldLink RX0 24 "DishPointer$Axis" "play" "I", Cond.fieldLink RX0 27 "DishPointer$Axis" "speed" "I"]
def wsX6_init_r3 : List Cond := [Cond.instanceMethod yX5_init, Cond.code yX5_init cX5_init 1 none, Cond.methodLink RX5 3 objectInit, Cond.instanceMethod yX3_init, Cond.code yX3_init cX3_init 1 none, Cond.methodLink RX3 3 objectInit, Cond.fieldLink RX3 9 "DishPointer$Target" "state" "I", Cond.methodLink RX6 21 yX1_init, Cond.instanceMethod yX1_init, Cond.code yX1_init cX1_init 2 none, Cond.methodLink RX1 3 objectInit, Cond.classLink RX1 9 RX2, Cond.fieldLink RX1 11 "DishPointer$History" "states" "[LDishPointer$State;", Cond.methodLink RX1 17 yX2_init, Cond.instanceMethod yX4_init, Cond.code yX4_init cX4_init 1 none, Cond.methodLink RX4 3 objectInit, Cond.arrayClass .char, Cond.fieldLink RX4 9 "DishPointer$TargetText" "signs" "[C", Cond.fieldLink RX4 15 "DishPointer$TargetText" "numbers" "[I"]
def wsX6_init : List Cond := .code yX6_init cX6_init 1 none :: ((wsX6_init_r1 ++ (wsX6_init_r2 ++ wsX6_init_r3)) ++ wsX20 ++ wsX60 ++ wsX10 ++ wsX40 ++ wsX00 ++ wsX50 ++ wsX30)
def wsX6_isBetween : List Cond := .code yX6_isBetween cX6_isBetween 3 (some .boolean) :: ([])
def wsX6_set_r1 : List Cond := [Cond.fieldLink RX6 33 "DishPointer" "SETTING_MOST" "[I", Cond.constant RX6 41 (-100001), Cond.fieldLink RX6 22 "DishPointer" "history" "LDishPointer$History;", Cond.fieldLink RX6 10 "DishPointer" "now" "LDishPointer$State;", Cond.methodLink RX6 37 yX6_isBetween, Cond.static yX6_isBetween, Cond.initialized RX6, Cond.code yX6_isBetween cX6_isBetween 3 (some .boolean), Cond.methodLink RX6 42 yX1_record, Cond.instanceMethod yX1_record, Cond.selects RX1 yX1_record yX1_record, Cond.initialized RX1, Cond.code yX1_record cX1_record 2 none, Cond.fieldLink RX1 18 "DishPointer$History" "size" "I", Cond.fieldLink RX1 11 "DishPointer$History" "states" "[LDishPointer$State;", Cond.methodLink RX1 22 yX1_dropOldest, Cond.instanceMethod yX1_dropOldest, Cond.selects RX1 yX1_dropOldest yX1_dropOldest, Cond.code yX1_dropOldest cX1_dropOldest 3 none, Cond.methodLink RX1 25 yX2_copyFrom, Cond.instanceMethod yX2_copyFrom, Cond.selects RX2 yX2_copyFrom yX2_copyFrom, Cond.initialized RX2, Cond.code yX2_copyFrom cX2_copyFrom 3 none]
def wsX6_set_r2 : List Cond := [Cond.fieldLink RX2 50 "DishPointer$State" "time" "I", Cond.fieldLink RX2 54 "DishPointer$State" "slews" "I", Cond.fieldLink RX2 57 "DishPointer$State" "holds" "I", Cond.fieldLink RX2 9 "DishPointer$State" "settings" "[I", Cond.methodLink RX2 60 arraycopyName, Cond.native arraycopyName, Cond.static arraycopyName, Cond.initialized "java/lang/System", Cond.fieldLink RX2 15 "DishPointer$State" "gusts" "[I", Cond.fieldLink RX2 23 "DishPointer$State" "azimuth" "LDishPointer$Axis;", Cond.fieldLink RX2 27 "DishPointer$State" "elevation" "LDishPointer$Axis;", Cond.fieldLink RX2 32 "DishPointer$State" "targets" "[LDishPointer$Target;", Cond.methodLink RX2 66 yX0_copyFrom, Cond.instanceMethod yX0_copyFrom, Cond.selects RX0 yX0_copyFrom yX0_copyFrom, Cond.initialized RX0, Cond.code yX0_copyFrom cX0_copyFrom 2 none, Cond.fieldLink RX0 24 "DishPointer$Axis" "play" "I", Cond.fieldLink RX0 30 "DishPointer$Axis" "side" "I", Cond.fieldLink RX0 27 "DishPointer$Axis" "speed" "I", Cond.fieldLink RX0 21 "DishPointer$Axis" "motor" "I", Cond.fieldLink RX0 33 "DishPointer$Axis" "slack" "I", Cond.fieldLink RX0 36 "DishPointer$Axis" "wentUp" "I", Cond.fieldLink RX0 39 "DishPointer$Axis" "wentDown" "I"]
def wsX6_set_r3 : List Cond := [Cond.methodLink RX2 70 yX3_copyFrom, Cond.instanceMethod yX3_copyFrom, Cond.selects RX3 yX3_copyFrom yX3_copyFrom, Cond.initialized RX3, Cond.code yX3_copyFrom cX3_copyFrom 2 none, Cond.fieldLink RX3 15 "DishPointer$Target" "azimuth" "I", Cond.fieldLink RX3 18 "DishPointer$Target" "elevation" "I", Cond.fieldLink RX3 21 "DishPointer$Target" "from" "I", Cond.fieldLink RX3 24 "DishPointer$Target" "to" "I", Cond.fieldLink RX3 27 "DishPointer$Target" "dwell" "I", Cond.fieldLink RX3 30 "DishPointer$Target" "priority" "I", Cond.fieldLink RX3 9 "DishPointer$Target" "state" "I", Cond.fieldLink RX3 33 "DishPointer$Target" "begunAt" "I", Cond.fieldLink RX3 36 "DishPointer$Target" "slewedAt" "I", Cond.fieldLink RX3 39 "DishPointer$Target" "doneAt" "I", Cond.fieldLink RX3 42 "DishPointer$Target" "error" "I", Cond.fieldLink RX3 45 "DishPointer$Target" "breaks" "I", Cond.fieldLink RX3 48 "DishPointer$Target" "place" "I", Cond.fieldLink RX3 51 "DishPointer$Target" "slewLookedAt" "Z", Cond.methodLink RX6 46 yX2_changeSetting, Cond.instanceMethod yX2_changeSetting, Cond.selects RX2 yX2_changeSetting yX2_changeSetting, Cond.code yX2_changeSetting cX2_changeSetting 4 (some .int)]
def wsX6_set : List Cond := .code yX6_set cX6_set 3 (some .int) :: ((wsX6_set_r1 ++ (wsX6_set_r2 ++ wsX6_set_r3)) ++ wsX60 ++ wsX10 ++ wsX20 ++ wsX00 ++ wsX30)
def wsX6_setAxis_r1 : List Cond := [Cond.fieldLink RX6 50 "DishPointer" "AXIS_MOST" "[I", Cond.fieldLink RX6 53 "DishPointer" "AXIS_LEAST" "[I", Cond.constant RX6 41 (-100001), Cond.fieldLink RX6 22 "DishPointer" "history" "LDishPointer$History;", Cond.fieldLink RX6 10 "DishPointer" "now" "LDishPointer$State;", Cond.methodLink RX6 37 yX6_isBetween, Cond.static yX6_isBetween, Cond.initialized RX6, Cond.code yX6_isBetween cX6_isBetween 3 (some .boolean), Cond.methodLink RX6 42 yX1_record, Cond.instanceMethod yX1_record, Cond.selects RX1 yX1_record yX1_record, Cond.initialized RX1, Cond.code yX1_record cX1_record 2 none, Cond.fieldLink RX1 18 "DishPointer$History" "size" "I", Cond.fieldLink RX1 11 "DishPointer$History" "states" "[LDishPointer$State;", Cond.methodLink RX1 22 yX1_dropOldest, Cond.instanceMethod yX1_dropOldest, Cond.selects RX1 yX1_dropOldest yX1_dropOldest, Cond.code yX1_dropOldest cX1_dropOldest 3 none, Cond.methodLink RX1 25 yX2_copyFrom, Cond.instanceMethod yX2_copyFrom, Cond.selects RX2 yX2_copyFrom yX2_copyFrom, Cond.initialized RX2]
def wsX6_setAxis_r2 : List Cond := [Cond.code yX2_copyFrom cX2_copyFrom 3 none, Cond.fieldLink RX2 50 "DishPointer$State" "time" "I", Cond.fieldLink RX2 54 "DishPointer$State" "slews" "I", Cond.fieldLink RX2 57 "DishPointer$State" "holds" "I", Cond.fieldLink RX2 9 "DishPointer$State" "settings" "[I", Cond.methodLink RX2 60 arraycopyName, Cond.native arraycopyName, Cond.static arraycopyName, Cond.initialized "java/lang/System", Cond.fieldLink RX2 15 "DishPointer$State" "gusts" "[I", Cond.fieldLink RX2 23 "DishPointer$State" "azimuth" "LDishPointer$Axis;", Cond.fieldLink RX2 27 "DishPointer$State" "elevation" "LDishPointer$Axis;", Cond.fieldLink RX2 32 "DishPointer$State" "targets" "[LDishPointer$Target;", Cond.methodLink RX2 66 yX0_copyFrom, Cond.instanceMethod yX0_copyFrom, Cond.selects RX0 yX0_copyFrom yX0_copyFrom, Cond.initialized RX0, Cond.code yX0_copyFrom cX0_copyFrom 2 none, Cond.fieldLink RX0 24 "DishPointer$Axis" "play" "I", Cond.fieldLink RX0 30 "DishPointer$Axis" "side" "I", Cond.fieldLink RX0 27 "DishPointer$Axis" "speed" "I", Cond.fieldLink RX0 21 "DishPointer$Axis" "motor" "I", Cond.fieldLink RX0 33 "DishPointer$Axis" "slack" "I", Cond.fieldLink RX0 36 "DishPointer$Axis" "wentUp" "I"]
def wsX6_setAxis_r3 : List Cond := [Cond.fieldLink RX0 39 "DishPointer$Axis" "wentDown" "I", Cond.methodLink RX2 70 yX3_copyFrom, Cond.instanceMethod yX3_copyFrom, Cond.selects RX3 yX3_copyFrom yX3_copyFrom, Cond.initialized RX3, Cond.code yX3_copyFrom cX3_copyFrom 2 none, Cond.fieldLink RX3 15 "DishPointer$Target" "azimuth" "I", Cond.fieldLink RX3 18 "DishPointer$Target" "elevation" "I", Cond.fieldLink RX3 21 "DishPointer$Target" "from" "I", Cond.fieldLink RX3 24 "DishPointer$Target" "to" "I", Cond.fieldLink RX3 27 "DishPointer$Target" "dwell" "I", Cond.fieldLink RX3 30 "DishPointer$Target" "priority" "I", Cond.fieldLink RX3 9 "DishPointer$Target" "state" "I", Cond.fieldLink RX3 33 "DishPointer$Target" "begunAt" "I", Cond.fieldLink RX3 36 "DishPointer$Target" "slewedAt" "I", Cond.fieldLink RX3 39 "DishPointer$Target" "doneAt" "I", Cond.fieldLink RX3 42 "DishPointer$Target" "error" "I", Cond.fieldLink RX3 45 "DishPointer$Target" "breaks" "I", Cond.fieldLink RX3 48 "DishPointer$Target" "place" "I", Cond.fieldLink RX3 51 "DishPointer$Target" "slewLookedAt" "Z", Cond.methodLink RX6 56 yX2_axisNumber, Cond.instanceMethod yX2_axisNumber, Cond.selects RX2 yX2_axisNumber yX2_axisNumber, Cond.code yX2_axisNumber cX2_axisNumber 2 (some (.object "DishPointer$Axis"))]
def wsX6_setAxis_r4 : List Cond := [Cond.methodLink RX6 60 yX0_change, Cond.instanceMethod yX0_change, Cond.selects RX0 yX0_change yX0_change, Cond.code yX0_change cX0_change 4 (some .int), Cond.methodLink RX0 46 Lib.Math.min.name, Cond.static Lib.Math.min.name, Cond.initialized "java/lang/Math", Cond.code Lib.Math.min.name Lib.Math.min.code 2 (some .int), Cond.methodLink RX0 42 yX0_tell, Cond.instanceMethod yX0_tell, Cond.selects RX0 yX0_tell yX0_tell, Cond.code yX0_tell cX0_tell 2 (some .int), Cond.fieldLink RX0 18 "DishPointer$Axis" "start" "I", Cond.constant RX0 71 (-100001), Cond.methodLink RX0 67 yX0_dish, Cond.instanceMethod yX0_dish, Cond.selects RX0 yX0_dish yX0_dish, Cond.code yX0_dish cX0_dish 1 (some .int)]
def wsX6_setAxis : List Cond := .code yX6_setAxis cX6_setAxis 4 (some .int) :: ((wsX6_setAxis_r1 ++ (wsX6_setAxis_r2 ++ (wsX6_setAxis_r3 ++ wsX6_setAxis_r4))) ++ wsX60 ++ wsX10 ++ wsX20 ++ wsX00 ++ wsX30)
def wsX6_gust_r1 : List Cond := [Cond.constant RX6 41 (-100001), Cond.fieldLink RX6 10 "DishPointer" "now" "LDishPointer$State;", Cond.fieldLink RX6 65 "DishPointer$State" "time" "I", Cond.constant RX6 69 (-100002), Cond.fieldLink RX6 22 "DishPointer" "history" "LDishPointer$History;", Cond.methodLink RX6 37 yX6_isBetween, Cond.static yX6_isBetween, Cond.initialized RX6, Cond.code yX6_isBetween cX6_isBetween 3 (some .boolean), Cond.methodLink RX6 42 yX1_record, Cond.instanceMethod yX1_record, Cond.selects RX1 yX1_record yX1_record, Cond.initialized RX1, Cond.code yX1_record cX1_record 2 none, Cond.fieldLink RX1 18 "DishPointer$History" "size" "I", Cond.fieldLink RX1 11 "DishPointer$History" "states" "[LDishPointer$State;", Cond.methodLink RX1 22 yX1_dropOldest, Cond.instanceMethod yX1_dropOldest, Cond.selects RX1 yX1_dropOldest yX1_dropOldest, Cond.code yX1_dropOldest cX1_dropOldest 3 none, Cond.methodLink RX1 25 yX2_copyFrom, Cond.instanceMethod yX2_copyFrom, Cond.selects RX2 yX2_copyFrom yX2_copyFrom, Cond.initialized RX2]
def wsX6_gust_r2 : List Cond := [Cond.code yX2_copyFrom cX2_copyFrom 3 none, Cond.fieldLink RX2 50 "DishPointer$State" "time" "I", Cond.fieldLink RX2 54 "DishPointer$State" "slews" "I", Cond.fieldLink RX2 57 "DishPointer$State" "holds" "I", Cond.fieldLink RX2 9 "DishPointer$State" "settings" "[I", Cond.methodLink RX2 60 arraycopyName, Cond.native arraycopyName, Cond.static arraycopyName, Cond.initialized "java/lang/System", Cond.fieldLink RX2 15 "DishPointer$State" "gusts" "[I", Cond.fieldLink RX2 23 "DishPointer$State" "azimuth" "LDishPointer$Axis;", Cond.fieldLink RX2 27 "DishPointer$State" "elevation" "LDishPointer$Axis;", Cond.fieldLink RX2 32 "DishPointer$State" "targets" "[LDishPointer$Target;", Cond.methodLink RX2 66 yX0_copyFrom, Cond.instanceMethod yX0_copyFrom, Cond.selects RX0 yX0_copyFrom yX0_copyFrom, Cond.initialized RX0, Cond.code yX0_copyFrom cX0_copyFrom 2 none, Cond.fieldLink RX0 24 "DishPointer$Axis" "play" "I", Cond.fieldLink RX0 30 "DishPointer$Axis" "side" "I", Cond.fieldLink RX0 27 "DishPointer$Axis" "speed" "I", Cond.fieldLink RX0 21 "DishPointer$Axis" "motor" "I", Cond.fieldLink RX0 33 "DishPointer$Axis" "slack" "I", Cond.fieldLink RX0 36 "DishPointer$Axis" "wentUp" "I"]
def wsX6_gust_r3 : List Cond := [Cond.fieldLink RX0 39 "DishPointer$Axis" "wentDown" "I", Cond.methodLink RX2 70 yX3_copyFrom, Cond.instanceMethod yX3_copyFrom, Cond.selects RX3 yX3_copyFrom yX3_copyFrom, Cond.initialized RX3, Cond.code yX3_copyFrom cX3_copyFrom 2 none, Cond.fieldLink RX3 15 "DishPointer$Target" "azimuth" "I", Cond.fieldLink RX3 18 "DishPointer$Target" "elevation" "I", Cond.fieldLink RX3 21 "DishPointer$Target" "from" "I", Cond.fieldLink RX3 24 "DishPointer$Target" "to" "I", Cond.fieldLink RX3 27 "DishPointer$Target" "dwell" "I", Cond.fieldLink RX3 30 "DishPointer$Target" "priority" "I", Cond.fieldLink RX3 9 "DishPointer$Target" "state" "I", Cond.fieldLink RX3 33 "DishPointer$Target" "begunAt" "I", Cond.fieldLink RX3 36 "DishPointer$Target" "slewedAt" "I", Cond.fieldLink RX3 39 "DishPointer$Target" "doneAt" "I", Cond.fieldLink RX3 42 "DishPointer$Target" "error" "I", Cond.fieldLink RX3 45 "DishPointer$Target" "breaks" "I", Cond.fieldLink RX3 48 "DishPointer$Target" "place" "I", Cond.fieldLink RX3 51 "DishPointer$Target" "slewLookedAt" "Z", Cond.methodLink RX6 70 yX2_changeGust, Cond.instanceMethod yX2_changeGust, Cond.selects RX2 yX2_changeGust yX2_changeGust, Cond.code yX2_changeGust cX2_changeGust 4 (some .int)]
def wsX6_gust : List Cond := .code yX6_gust cX6_gust 3 (some .int) :: ((wsX6_gust_r1 ++ (wsX6_gust_r2 ++ wsX6_gust_r3)) ++ wsX60 ++ wsX20 ++ wsX10 ++ wsX00 ++ wsX30)
def wsX6_foundTarget : List Cond := .code yX6_foundTarget cX6_foundTarget 1 (some .int) :: ([.constant RX6 116 (-100004)])
def wsX6_count_r1 : List Cond := [Cond.fieldLink RX6 10 "DishPointer" "now" "LDishPointer$State;", Cond.fieldLink RX6 22 "DishPointer" "history" "LDishPointer$History;", Cond.fieldLink RX6 87 "DishPointer$History" "size" "I", Cond.fieldLink RX6 29 "DishPointer" "text" "LDishPointer$TargetText;", Cond.fieldLink RX6 90 "DishPointer$TargetText" "length" "I", Cond.methodLink RX6 73 yX2_targetsIn, Cond.instanceMethod yX2_targetsIn, Cond.selects RX2 yX2_targetsIn yX2_targetsIn, Cond.initialized RX2, Cond.code yX2_targetsIn cX2_targetsIn 7 (some .int), Cond.fieldLink RX2 32 "DishPointer$State" "targets" "[LDishPointer$Target;", Cond.fieldLink RX2 128 "DishPointer$Target" "state" "I", Cond.methodLink RX6 77 yX2_numberUnderWay, Cond.instanceMethod yX2_numberUnderWay, Cond.selects RX2 yX2_numberUnderWay yX2_numberUnderWay, Cond.code yX2_numberUnderWay cX2_numberUnderWay 2 (some .int), Cond.methodLink RX6 81 yX6_foundTarget, Cond.static yX6_foundTarget, Cond.initialized RX6, Cond.code yX6_foundTarget cX6_foundTarget 1 (some .int), Cond.constant RX6 116 (-100004), Cond.methodLink RX6 84 yX2_minutesUntilDone, Cond.instanceMethod yX2_minutesUntilDone, Cond.selects RX2 yX2_minutesUntilDone yX2_minutesUntilDone]
def wsX6_count_r2 : List Cond := [Cond.code yX2_minutesUntilDone cX2_minutesUntilDone 5 (some .int), Cond.fieldLink RX2 131 "DishPointer$Target" "doneAt" "I", Cond.fieldLink RX2 50 "DishPointer$State" "time" "I", Cond.constant RX2 134 (-100004), Cond.methodLink RX6 93 yX2_tell, Cond.instanceMethod yX2_tell, Cond.selects RX2 yX2_tell yX2_tell, Cond.code yX2_tell cX2_tell 2 (some .int), Cond.fieldLink RX2 9 "DishPointer$State" "settings" "[I", Cond.fieldLink RX2 54 "DishPointer$State" "slews" "I", Cond.fieldLink RX2 57 "DishPointer$State" "holds" "I", Cond.fieldLink RX2 23 "DishPointer$State" "azimuth" "LDishPointer$Axis;", Cond.constant RX2 86 (36000), Cond.constant RX2 93 (-100001), Cond.methodLink RX2 73 yX2_day, Cond.instanceMethod yX2_day, Cond.selects RX2 yX2_day yX2_day, Cond.code yX2_day cX2_day 1 (some .int), Cond.methodLink RX2 77 yX2_gustToday, Cond.instanceMethod yX2_gustToday, Cond.selects RX2 yX2_gustToday yX2_gustToday, Cond.code yX2_gustToday cX2_gustToday 2 (some .int), Cond.fieldLink RX2 15 "DishPointer$State" "gusts" "[I", Cond.methodLink RX2 80 yX2_kindOfDay]
def wsX6_count_r3 : List Cond := [Cond.instanceMethod yX2_kindOfDay, Cond.selects RX2 yX2_kindOfDay yX2_kindOfDay, Cond.code yX2_kindOfDay cX2_kindOfDay 2 (some .int), Cond.methodLink RX2 83 yX0_dish, Cond.instanceMethod yX0_dish, Cond.selects RX0 yX0_dish yX0_dish, Cond.initialized RX0, Cond.code yX0_dish cX0_dish 1 (some .int), Cond.fieldLink RX0 21 "DishPointer$Axis" "motor" "I", Cond.fieldLink RX0 33 "DishPointer$Axis" "slack" "I", Cond.methodLink RX2 87 yJ9_floorMod_7cf53, Cond.static yJ9_floorMod_7cf53, Cond.initialized RJ9, Cond.code yJ9_floorMod_7cf53 cJ9_floorMod_7cf53 3 (some .int)]
def wsX6_count : List Cond := .code yX6_count cX6_count 2 (some .int) :: ((wsX6_count_r1 ++ (wsX6_count_r2 ++ wsX6_count_r3)) ++ wsX60 ++ wsX10 ++ wsX40 ++ wsX20 ++ wsX30 ++ wsX00)
def wsX6_axis_r1 : List Cond := [Cond.constant RX6 41 (-100001), Cond.fieldLink RX6 10 "DishPointer" "now" "LDishPointer$State;", Cond.methodLink RX6 37 yX6_isBetween, Cond.static yX6_isBetween, Cond.initialized RX6, Cond.code yX6_isBetween cX6_isBetween 3 (some .boolean), Cond.methodLink RX6 56 yX2_axisNumber, Cond.instanceMethod yX2_axisNumber, Cond.selects RX2 yX2_axisNumber yX2_axisNumber, Cond.initialized RX2, Cond.code yX2_axisNumber cX2_axisNumber 2 (some (.object "DishPointer$Axis")), Cond.fieldLink RX2 23 "DishPointer$State" "azimuth" "LDishPointer$Axis;", Cond.fieldLink RX2 27 "DishPointer$State" "elevation" "LDishPointer$Axis;", Cond.methodLink RX6 96 yX0_tell, Cond.instanceMethod yX0_tell, Cond.selects RX0 yX0_tell yX0_tell, Cond.initialized RX0, Cond.code yX0_tell cX0_tell 2 (some .int), Cond.fieldLink RX0 24 "DishPointer$Axis" "play" "I", Cond.fieldLink RX0 30 "DishPointer$Axis" "side" "I", Cond.fieldLink RX0 27 "DishPointer$Axis" "speed" "I", Cond.fieldLink RX0 21 "DishPointer$Axis" "motor" "I", Cond.fieldLink RX0 33 "DishPointer$Axis" "slack" "I", Cond.fieldLink RX0 36 "DishPointer$Axis" "wentUp" "I"]
def wsX6_axis_r2 : List Cond := [Cond.fieldLink RX0 39 "DishPointer$Axis" "wentDown" "I", Cond.fieldLink RX0 18 "DishPointer$Axis" "start" "I", Cond.constant RX0 71 (-100001), Cond.methodLink RX0 67 yX0_dish, Cond.instanceMethod yX0_dish, Cond.selects RX0 yX0_dish yX0_dish, Cond.code yX0_dish cX0_dish 1 (some .int)]
def wsX6_axis : List Cond := .code yX6_axis cX6_axis 3 (some .int) :: ((wsX6_axis_r1 ++ wsX6_axis_r2) ++ wsX60 ++ wsX20 ++ wsX00)
def wsX6_slew_r1 : List Cond := [Cond.constant RX6 104 (35999), Cond.constant RX6 41 (-100001), Cond.fieldLink RX6 10 "DishPointer" "now" "LDishPointer$State;", Cond.constant RX6 69 (-100002), Cond.fieldLink RX6 109 "DishPointer$Way" "possible" "Z", Cond.fieldLink RX6 22 "DishPointer" "history" "LDishPointer$History;", Cond.methodLink RX6 37 yX6_isBetween, Cond.static yX6_isBetween, Cond.initialized RX6, Cond.code yX6_isBetween cX6_isBetween 3 (some .boolean), Cond.methodLink RX6 77 yX2_numberUnderWay, Cond.instanceMethod yX2_numberUnderWay, Cond.selects RX2 yX2_numberUnderWay yX2_numberUnderWay, Cond.initialized RX2, Cond.code yX2_numberUnderWay cX2_numberUnderWay 2 (some .int), Cond.fieldLink RX2 32 "DishPointer$State" "targets" "[LDishPointer$Target;", Cond.fieldLink RX2 128 "DishPointer$Target" "state" "I", Cond.methodLink RX6 117 yX2_kindOfDay, Cond.instanceMethod yX2_kindOfDay, Cond.selects RX2 yX2_kindOfDay yX2_kindOfDay, Cond.code yX2_kindOfDay cX2_kindOfDay 2 (some .int), Cond.fieldLink RX2 9 "DishPointer$State" "settings" "[I", Cond.methodLink RX2 77 yX2_gustToday, Cond.instanceMethod yX2_gustToday]
def wsX6_slew_r2 : List Cond := [Cond.selects RX2 yX2_gustToday yX2_gustToday, Cond.code yX2_gustToday cX2_gustToday 2 (some .int), Cond.fieldLink RX2 15 "DishPointer$State" "gusts" "[I", Cond.methodLink RX2 73 yX2_day, Cond.instanceMethod yX2_day, Cond.selects RX2 yX2_day yX2_day, Cond.code yX2_day cX2_day 1 (some .int), Cond.fieldLink RX2 50 "DishPointer$State" "time" "I", Cond.methodLink RX6 105 yX2_wayAround, Cond.instanceMethod yX2_wayAround, Cond.selects RX2 yX2_wayAround yX2_wayAround, Cond.code yX2_wayAround cX2_wayAround 2 (some (.object "DishPointer$Way")), Cond.fieldLink RX2 39 "DishPointer$State" "lowWay" "LDishPointer$Way;", Cond.fieldLink RX2 23 "DishPointer$State" "azimuth" "LDishPointer$Axis;", Cond.constant RX2 86 (36000), Cond.fieldLink RX2 43 "DishPointer$State" "highWay" "LDishPointer$Way;", Cond.fieldLink RX2 102 "DishPointer$Way" "possible" "Z", Cond.methodLink RX2 98 yX5_plan, Cond.instanceMethod yX5_plan, Cond.selects RX5 yX5_plan yX5_plan, Cond.initialized RX5, Cond.code yX5_plan cX5_plan 6 none, Cond.fieldLink RX5 15 "DishPointer$Way" "place" "I", Cond.fieldLink RX5 21 "DishPointer$Axis" "side" "I"]
def wsX6_slew_r3 : List Cond := [Cond.fieldLink RX5 24 "DishPointer$Axis" "slack" "I", Cond.fieldLink RX5 27 "DishPointer$Axis" "play" "I", Cond.fieldLink RX5 30 "DishPointer$Way" "turns" "Z", Cond.fieldLink RX5 34 "DishPointer$Way" "turn" "I", Cond.fieldLink RX5 37 "DishPointer$Way" "end" "I", Cond.fieldLink RX5 40 "DishPointer$Axis" "motor" "I", Cond.fieldLink RX5 47 "DishPointer$Way" "possible" "Z", Cond.methodLink RX5 50 Lib.Math.abs.name, Cond.static Lib.Math.abs.name, Cond.initialized "java/lang/Math", Cond.code Lib.Math.abs.name Lib.Math.abs.code 1 (some .int), Cond.fieldLink RX5 56 "DishPointer$Way" "length" "I", Cond.fieldLink RX5 59 "DishPointer$Axis" "speed" "I", Cond.fieldLink RX5 62 "DishPointer$Way" "time" "I", Cond.methodLink RX5 9 yX0_dish, Cond.instanceMethod yX0_dish, Cond.selects RX0 yX0_dish yX0_dish, Cond.initialized RX0, Cond.code yX0_dish cX0_dish 1 (some .int), Cond.fieldLink RX0 21 "DishPointer$Axis" "motor" "I", Cond.fieldLink RX0 33 "DishPointer$Axis" "slack" "I", Cond.methodLink RX5 43 yX0_reaches, Cond.instanceMethod yX0_reaches, Cond.selects RX0 yX0_reaches yX0_reaches]
def wsX6_slew_r4 : List Cond := [Cond.code yX0_reaches cX0_reaches 2 (some .boolean), Cond.fieldLink RX0 9 "DishPointer$Axis" "least" "I", Cond.fieldLink RX0 15 "DishPointer$Axis" "most" "I", Cond.methodLink RX2 106 yX2_isLowWayTaken, Cond.instanceMethod yX2_isLowWayTaken, Cond.selects RX2 yX2_isLowWayTaken yX2_isLowWayTaken, Cond.code yX2_isLowWayTaken cX2_isLowWayTaken 5 (some .boolean), Cond.fieldLink RX2 110 "DishPointer$Way" "place" "I", Cond.methodLink RX2 113 Lib.Math.abs.name, Cond.fieldLink RX2 117 "DishPointer$Way" "length" "I", Cond.methodLink RX6 120 yX2_wayRise, Cond.instanceMethod yX2_wayRise, Cond.selects RX2 yX2_wayRise yX2_wayRise, Cond.code yX2_wayRise cX2_wayRise 2 (some (.object "DishPointer$Way")), Cond.fieldLink RX2 46 "DishPointer$State" "riseWay" "LDishPointer$Way;", Cond.fieldLink RX2 27 "DishPointer$State" "elevation" "LDishPointer$Axis;", Cond.methodLink RX6 42 yX1_record, Cond.instanceMethod yX1_record, Cond.selects RX1 yX1_record yX1_record, Cond.initialized RX1, Cond.code yX1_record cX1_record 2 none, Cond.fieldLink RX1 18 "DishPointer$History" "size" "I", Cond.fieldLink RX1 11 "DishPointer$History" "states" "[LDishPointer$State;", Cond.methodLink RX1 22 yX1_dropOldest]
def wsX6_slew_r5 : List Cond := [Cond.instanceMethod yX1_dropOldest, Cond.selects RX1 yX1_dropOldest yX1_dropOldest, Cond.code yX1_dropOldest cX1_dropOldest 3 none, Cond.methodLink RX1 25 yX2_copyFrom, Cond.instanceMethod yX2_copyFrom, Cond.selects RX2 yX2_copyFrom yX2_copyFrom, Cond.code yX2_copyFrom cX2_copyFrom 3 none, Cond.fieldLink RX2 54 "DishPointer$State" "slews" "I", Cond.fieldLink RX2 57 "DishPointer$State" "holds" "I", Cond.methodLink RX2 60 arraycopyName, Cond.native arraycopyName, Cond.static arraycopyName, Cond.initialized "java/lang/System", Cond.methodLink RX2 66 yX0_copyFrom, Cond.instanceMethod yX0_copyFrom, Cond.selects RX0 yX0_copyFrom yX0_copyFrom, Cond.code yX0_copyFrom cX0_copyFrom 2 none, Cond.fieldLink RX0 24 "DishPointer$Axis" "play" "I", Cond.fieldLink RX0 30 "DishPointer$Axis" "side" "I", Cond.fieldLink RX0 27 "DishPointer$Axis" "speed" "I", Cond.fieldLink RX0 36 "DishPointer$Axis" "wentUp" "I", Cond.fieldLink RX0 39 "DishPointer$Axis" "wentDown" "I", Cond.methodLink RX2 70 yX3_copyFrom, Cond.instanceMethod yX3_copyFrom]
def wsX6_slew_r6 : List Cond := [Cond.selects RX3 yX3_copyFrom yX3_copyFrom, Cond.initialized RX3, Cond.code yX3_copyFrom cX3_copyFrom 2 none, Cond.fieldLink RX3 15 "DishPointer$Target" "azimuth" "I", Cond.fieldLink RX3 18 "DishPointer$Target" "elevation" "I", Cond.fieldLink RX3 21 "DishPointer$Target" "from" "I", Cond.fieldLink RX3 24 "DishPointer$Target" "to" "I", Cond.fieldLink RX3 27 "DishPointer$Target" "dwell" "I", Cond.fieldLink RX3 30 "DishPointer$Target" "priority" "I", Cond.fieldLink RX3 9 "DishPointer$Target" "state" "I", Cond.fieldLink RX3 33 "DishPointer$Target" "begunAt" "I", Cond.fieldLink RX3 36 "DishPointer$Target" "slewedAt" "I", Cond.fieldLink RX3 39 "DishPointer$Target" "doneAt" "I", Cond.fieldLink RX3 42 "DishPointer$Target" "error" "I", Cond.fieldLink RX3 45 "DishPointer$Target" "breaks" "I", Cond.fieldLink RX3 48 "DishPointer$Target" "place" "I", Cond.fieldLink RX3 51 "DishPointer$Target" "slewLookedAt" "Z", Cond.methodLink RX6 123 yX2_followWays, Cond.instanceMethod yX2_followWays, Cond.selects RX2 yX2_followWays yX2_followWays, Cond.code yX2_followWays cX2_followWays 3 (some .int), Cond.fieldLink RX2 124 "DishPointer$Way" "time" "I", Cond.methodLink RX2 125 Lib.Math.max.name, Cond.static Lib.Math.max.name]
def wsX6_slew_r7 : List Cond := [Cond.code Lib.Math.max.name Lib.Math.max.code 2 (some .int), Cond.methodLink RX2 120 yX0_follow, Cond.instanceMethod yX0_follow, Cond.selects RX0 yX0_follow yX0_follow, Cond.code yX0_follow cX0_follow 2 none, Cond.fieldLink RX0 55 "DishPointer$Way" "turn" "I", Cond.fieldLink RX0 64 "DishPointer$Way" "end" "I", Cond.methodLink RX0 60 yX0_moveTo, Cond.instanceMethod yX0_moveTo, Cond.selects RX0 yX0_moveTo yX0_moveTo, Cond.code yX0_moveTo cX0_moveTo 3 none, Cond.methodLink RX0 46 Lib.Math.min.name, Cond.static Lib.Math.min.name, Cond.code Lib.Math.min.name Lib.Math.min.code 2 (some .int), Cond.methodLink RX0 52 Lib.Math.max.name]
def wsX6_slew : List Cond := .code yX6_slew cX6_slew 5 (some .int) :: ((wsX6_slew_r1 ++ (wsX6_slew_r2 ++ (wsX6_slew_r3 ++ (wsX6_slew_r4 ++ (wsX6_slew_r5 ++ (wsX6_slew_r6 ++ wsX6_slew_r7)))))) ++ wsX60 ++ wsX50 ++ wsX20 ++ wsX30 ++ wsX00 ++ wsX10)
def wsX6_isWound : List Cond := .code yX6_isWound cX6_isWound 1 (some .int) :: ([.fieldLink RX6 10 "DishPointer" "now" "LDishPointer$State;", .fieldLink RX6 127 "DishPointer$State" "azimuth" "LDishPointer$Axis;", .fieldLink RX6 131 "DishPointer$Axis" "motor" "I", .methodLink RX6 134 Lib.Math.abs.name, .static Lib.Math.abs.name, .initialized "java/lang/Math", .code Lib.Math.abs.name Lib.Math.abs.code 1 (some .int), .fieldLink RX6 139 "DishPointer$State" "settings" "[I"] ++ wsX60 ++ wsX20 ++ wsX00)
def wsX6_isTargetInRange : List Cond := .code yX6_isTargetInRange cX6_isTargetInRange 6 (some .boolean) :: ([.constant RX6 104 (35999), .constant RX6 176 (43200), .methodLink RX6 37 yX6_isBetween, .static yX6_isBetween, .initialized RX6, .code yX6_isBetween cX6_isBetween 3 (some .boolean)])
def wsX6_add_r1 : List Cond := [Cond.constant RX6 41 (-100001), Cond.fieldLink RX6 10 "DishPointer" "now" "LDishPointer$State;", Cond.constant RX6 146 (-100003), Cond.fieldLink RX6 22 "DishPointer" "history" "LDishPointer$History;", Cond.methodLink RX6 142 yX6_isTargetInRange, Cond.static yX6_isTargetInRange, Cond.initialized RX6, Cond.code yX6_isTargetInRange cX6_isTargetInRange 6 (some .boolean), Cond.constant RX6 104 (35999), Cond.constant RX6 176 (43200), Cond.methodLink RX6 37 yX6_isBetween, Cond.static yX6_isBetween, Cond.code yX6_isBetween cX6_isBetween 3 (some .boolean), Cond.methodLink RX6 73 yX2_targetsIn, Cond.instanceMethod yX2_targetsIn, Cond.selects RX2 yX2_targetsIn yX2_targetsIn, Cond.initialized RX2, Cond.code yX2_targetsIn cX2_targetsIn 7 (some .int), Cond.fieldLink RX2 32 "DishPointer$State" "targets" "[LDishPointer$Target;", Cond.fieldLink RX2 128 "DishPointer$Target" "state" "I", Cond.methodLink RX6 42 yX1_record, Cond.instanceMethod yX1_record, Cond.selects RX1 yX1_record yX1_record, Cond.initialized RX1]
def wsX6_add_r2 : List Cond := [Cond.code yX1_record cX1_record 2 none, Cond.fieldLink RX1 18 "DishPointer$History" "size" "I", Cond.fieldLink RX1 11 "DishPointer$History" "states" "[LDishPointer$State;", Cond.methodLink RX1 22 yX1_dropOldest, Cond.instanceMethod yX1_dropOldest, Cond.selects RX1 yX1_dropOldest yX1_dropOldest, Cond.code yX1_dropOldest cX1_dropOldest 3 none, Cond.methodLink RX1 25 yX2_copyFrom, Cond.instanceMethod yX2_copyFrom, Cond.selects RX2 yX2_copyFrom yX2_copyFrom, Cond.code yX2_copyFrom cX2_copyFrom 3 none, Cond.fieldLink RX2 50 "DishPointer$State" "time" "I", Cond.fieldLink RX2 54 "DishPointer$State" "slews" "I", Cond.fieldLink RX2 57 "DishPointer$State" "holds" "I", Cond.fieldLink RX2 9 "DishPointer$State" "settings" "[I", Cond.methodLink RX2 60 arraycopyName, Cond.native arraycopyName, Cond.static arraycopyName, Cond.initialized "java/lang/System", Cond.fieldLink RX2 15 "DishPointer$State" "gusts" "[I", Cond.fieldLink RX2 23 "DishPointer$State" "azimuth" "LDishPointer$Axis;", Cond.fieldLink RX2 27 "DishPointer$State" "elevation" "LDishPointer$Axis;", Cond.methodLink RX2 66 yX0_copyFrom, Cond.instanceMethod yX0_copyFrom]
def wsX6_add_r3 : List Cond := [Cond.selects RX0 yX0_copyFrom yX0_copyFrom, Cond.initialized RX0, Cond.code yX0_copyFrom cX0_copyFrom 2 none, Cond.fieldLink RX0 24 "DishPointer$Axis" "play" "I", Cond.fieldLink RX0 30 "DishPointer$Axis" "side" "I", Cond.fieldLink RX0 27 "DishPointer$Axis" "speed" "I", Cond.fieldLink RX0 21 "DishPointer$Axis" "motor" "I", Cond.fieldLink RX0 33 "DishPointer$Axis" "slack" "I", Cond.fieldLink RX0 36 "DishPointer$Axis" "wentUp" "I", Cond.fieldLink RX0 39 "DishPointer$Axis" "wentDown" "I", Cond.methodLink RX2 70 yX3_copyFrom, Cond.instanceMethod yX3_copyFrom, Cond.selects RX3 yX3_copyFrom yX3_copyFrom, Cond.initialized RX3, Cond.code yX3_copyFrom cX3_copyFrom 2 none, Cond.fieldLink RX3 15 "DishPointer$Target" "azimuth" "I", Cond.fieldLink RX3 18 "DishPointer$Target" "elevation" "I", Cond.fieldLink RX3 21 "DishPointer$Target" "from" "I", Cond.fieldLink RX3 24 "DishPointer$Target" "to" "I", Cond.fieldLink RX3 27 "DishPointer$Target" "dwell" "I", Cond.fieldLink RX3 30 "DishPointer$Target" "priority" "I", Cond.fieldLink RX3 9 "DishPointer$Target" "state" "I", Cond.fieldLink RX3 33 "DishPointer$Target" "begunAt" "I", Cond.fieldLink RX3 36 "DishPointer$Target" "slewedAt" "I"]
def wsX6_add_r4 : List Cond := [Cond.fieldLink RX3 39 "DishPointer$Target" "doneAt" "I", Cond.fieldLink RX3 42 "DishPointer$Target" "error" "I", Cond.fieldLink RX3 45 "DishPointer$Target" "breaks" "I", Cond.fieldLink RX3 48 "DishPointer$Target" "place" "I", Cond.fieldLink RX3 51 "DishPointer$Target" "slewLookedAt" "Z", Cond.methodLink RX6 147 yX2_append, Cond.instanceMethod yX2_append, Cond.selects RX2 yX2_append yX2_append, Cond.code yX2_append cX2_append 9 (some .int), Cond.fieldLink RX2 138 "DishPointer$Target" "azimuth" "I", Cond.fieldLink RX2 140 "DishPointer$Target" "elevation" "I", Cond.fieldLink RX2 142 "DishPointer$Target" "from" "I", Cond.fieldLink RX2 145 "DishPointer$Target" "to" "I", Cond.fieldLink RX2 148 "DishPointer$Target" "dwell" "I", Cond.fieldLink RX2 151 "DishPointer$Target" "priority" "I", Cond.fieldLink RX2 154 "DishPointer$Target" "breaks" "I", Cond.methodLink RX2 135 yX2_targetsIn]
def wsX6_add : List Cond := .code yX6_add cX6_add 7 (some .int) :: ((wsX6_add_r1 ++ (wsX6_add_r2 ++ (wsX6_add_r3 ++ wsX6_add_r4))) ++ wsX60 ++ wsX20 ++ wsX30 ++ wsX10 ++ wsX00)
def wsX6_drop_r1 : List Cond := [Cond.fieldLink RX6 10 "DishPointer" "now" "LDishPointer$State;", Cond.constant RX6 41 (-100001), Cond.fieldLink RX6 155 "DishPointer$State" "targets" "[LDishPointer$Target;", Cond.fieldLink RX6 159 "DishPointer$Target" "state" "I", Cond.constant RX6 69 (-100002), Cond.fieldLink RX6 22 "DishPointer" "history" "LDishPointer$History;", Cond.methodLink RX6 151 yX2_hasTarget, Cond.instanceMethod yX2_hasTarget, Cond.selects RX2 yX2_hasTarget yX2_hasTarget, Cond.initialized RX2, Cond.code yX2_hasTarget cX2_hasTarget 2 (some .boolean), Cond.fieldLink RX2 32 "DishPointer$State" "targets" "[LDishPointer$Target;", Cond.fieldLink RX2 128 "DishPointer$Target" "state" "I", Cond.methodLink RX6 42 yX1_record, Cond.instanceMethod yX1_record, Cond.selects RX1 yX1_record yX1_record, Cond.initialized RX1, Cond.code yX1_record cX1_record 2 none, Cond.fieldLink RX1 18 "DishPointer$History" "size" "I", Cond.fieldLink RX1 11 "DishPointer$History" "states" "[LDishPointer$State;", Cond.methodLink RX1 22 yX1_dropOldest, Cond.instanceMethod yX1_dropOldest, Cond.selects RX1 yX1_dropOldest yX1_dropOldest, Cond.code yX1_dropOldest cX1_dropOldest 3 none]
def wsX6_drop_r2 : List Cond := [Cond.methodLink RX1 25 yX2_copyFrom, Cond.instanceMethod yX2_copyFrom, Cond.selects RX2 yX2_copyFrom yX2_copyFrom, Cond.code yX2_copyFrom cX2_copyFrom 3 none, Cond.fieldLink RX2 50 "DishPointer$State" "time" "I", Cond.fieldLink RX2 54 "DishPointer$State" "slews" "I", Cond.fieldLink RX2 57 "DishPointer$State" "holds" "I", Cond.fieldLink RX2 9 "DishPointer$State" "settings" "[I", Cond.methodLink RX2 60 arraycopyName, Cond.native arraycopyName, Cond.static arraycopyName, Cond.initialized "java/lang/System", Cond.fieldLink RX2 15 "DishPointer$State" "gusts" "[I", Cond.fieldLink RX2 23 "DishPointer$State" "azimuth" "LDishPointer$Axis;", Cond.fieldLink RX2 27 "DishPointer$State" "elevation" "LDishPointer$Axis;", Cond.methodLink RX2 66 yX0_copyFrom, Cond.instanceMethod yX0_copyFrom, Cond.selects RX0 yX0_copyFrom yX0_copyFrom, Cond.initialized RX0, Cond.code yX0_copyFrom cX0_copyFrom 2 none, Cond.fieldLink RX0 24 "DishPointer$Axis" "play" "I", Cond.fieldLink RX0 30 "DishPointer$Axis" "side" "I", Cond.fieldLink RX0 27 "DishPointer$Axis" "speed" "I", Cond.fieldLink RX0 21 "DishPointer$Axis" "motor" "I"]
def wsX6_drop_r3 : List Cond := [Cond.fieldLink RX0 33 "DishPointer$Axis" "slack" "I", Cond.fieldLink RX0 36 "DishPointer$Axis" "wentUp" "I", Cond.fieldLink RX0 39 "DishPointer$Axis" "wentDown" "I", Cond.methodLink RX2 70 yX3_copyFrom, Cond.instanceMethod yX3_copyFrom, Cond.selects RX3 yX3_copyFrom yX3_copyFrom, Cond.initialized RX3, Cond.code yX3_copyFrom cX3_copyFrom 2 none, Cond.fieldLink RX3 15 "DishPointer$Target" "azimuth" "I", Cond.fieldLink RX3 18 "DishPointer$Target" "elevation" "I", Cond.fieldLink RX3 21 "DishPointer$Target" "from" "I", Cond.fieldLink RX3 24 "DishPointer$Target" "to" "I", Cond.fieldLink RX3 27 "DishPointer$Target" "dwell" "I", Cond.fieldLink RX3 30 "DishPointer$Target" "priority" "I", Cond.fieldLink RX3 9 "DishPointer$Target" "state" "I", Cond.fieldLink RX3 33 "DishPointer$Target" "begunAt" "I", Cond.fieldLink RX3 36 "DishPointer$Target" "slewedAt" "I", Cond.fieldLink RX3 39 "DishPointer$Target" "doneAt" "I", Cond.fieldLink RX3 42 "DishPointer$Target" "error" "I", Cond.fieldLink RX3 45 "DishPointer$Target" "breaks" "I", Cond.fieldLink RX3 48 "DishPointer$Target" "place" "I", Cond.fieldLink RX3 51 "DishPointer$Target" "slewLookedAt" "Z", Cond.methodLink RX6 164 yX2_remove, Cond.instanceMethod yX2_remove]
def wsX6_drop_r4 : List Cond := [Cond.selects RX2 yX2_remove yX2_remove, Cond.code yX2_remove cX2_remove 3 none, Cond.methodLink RX2 125 Lib.Math.max.name, Cond.static Lib.Math.max.name, Cond.initialized "java/lang/Math", Cond.code Lib.Math.max.name Lib.Math.max.code 2 (some .int), Cond.methodLink RX6 73 yX2_targetsIn, Cond.instanceMethod yX2_targetsIn, Cond.selects RX2 yX2_targetsIn yX2_targetsIn, Cond.code yX2_targetsIn cX2_targetsIn 7 (some .int)]
def wsX6_drop : List Cond := .code yX6_drop cX6_drop 2 (some .int) :: ((wsX6_drop_r1 ++ (wsX6_drop_r2 ++ (wsX6_drop_r3 ++ wsX6_drop_r4))) ++ wsX60 ++ wsX20 ++ wsX30 ++ wsX10 ++ wsX00)
def wsX6_target_r1 : List Cond := [Cond.fieldLink RX6 10 "DishPointer" "now" "LDishPointer$State;", Cond.constant RX6 41 (-100001), Cond.fieldLink RX6 155 "DishPointer$State" "targets" "[LDishPointer$Target;", Cond.methodLink RX6 151 yX2_hasTarget, Cond.instanceMethod yX2_hasTarget, Cond.selects RX2 yX2_hasTarget yX2_hasTarget, Cond.initialized RX2, Cond.code yX2_hasTarget cX2_hasTarget 2 (some .boolean), Cond.fieldLink RX2 32 "DishPointer$State" "targets" "[LDishPointer$Target;", Cond.fieldLink RX2 128 "DishPointer$Target" "state" "I", Cond.methodLink RX6 168 yX3_tell, Cond.instanceMethod yX3_tell, Cond.selects RX3 yX3_tell yX3_tell, Cond.initialized RX3, Cond.code yX3_tell cX3_tell 2 (some .int), Cond.fieldLink RX3 15 "DishPointer$Target" "azimuth" "I", Cond.fieldLink RX3 18 "DishPointer$Target" "elevation" "I", Cond.fieldLink RX3 21 "DishPointer$Target" "from" "I", Cond.fieldLink RX3 24 "DishPointer$Target" "to" "I", Cond.fieldLink RX3 27 "DishPointer$Target" "dwell" "I", Cond.fieldLink RX3 30 "DishPointer$Target" "priority" "I", Cond.fieldLink RX3 9 "DishPointer$Target" "state" "I", Cond.fieldLink RX3 33 "DishPointer$Target" "begunAt" "I", Cond.fieldLink RX3 36 "DishPointer$Target" "slewedAt" "I"]
def wsX6_target_r2 : List Cond := [Cond.fieldLink RX3 39 "DishPointer$Target" "doneAt" "I", Cond.fieldLink RX3 42 "DishPointer$Target" "error" "I", Cond.constant RX3 59 (-100004), Cond.fieldLink RX3 45 "DishPointer$Target" "breaks" "I", Cond.fieldLink RX3 48 "DishPointer$Target" "place" "I", Cond.constant RX3 60 (-100001), Cond.methodLink RX3 55 yX3_ifBegun, Cond.instanceMethod yX3_ifBegun, Cond.selects RX3 yX3_ifBegun yX3_ifBegun, Cond.code yX3_ifBegun cX3_ifBegun 2 (some .int)]
def wsX6_target : List Cond := .code yX6_target cX6_target 3 (some .int) :: ((wsX6_target_r1 ++ wsX6_target_r2) ++ wsX60 ++ wsX20 ++ wsX30)
def wsX6_why_r1 : List Cond := [Cond.fieldLink RX6 10 "DishPointer" "now" "LDishPointer$State;", Cond.constant RX6 41 (-100001), Cond.fieldLink RX6 155 "DishPointer$State" "targets" "[LDishPointer$Target;", Cond.methodLink RX6 151 yX2_hasTarget, Cond.instanceMethod yX2_hasTarget, Cond.selects RX2 yX2_hasTarget yX2_hasTarget, Cond.initialized RX2, Cond.code yX2_hasTarget cX2_hasTarget 2 (some .boolean), Cond.fieldLink RX2 32 "DishPointer$State" "targets" "[LDishPointer$Target;", Cond.fieldLink RX2 128 "DishPointer$Target" "state" "I", Cond.methodLink RX6 169 yX2_reasonAgainst, Cond.instanceMethod yX2_reasonAgainst, Cond.selects RX2 yX2_reasonAgainst yX2_reasonAgainst, Cond.code yX2_reasonAgainst cX2_reasonAgainst 4 (some .int), Cond.fieldLink RX2 50 "DishPointer$State" "time" "I", Cond.fieldLink RX2 142 "DishPointer$Target" "from" "I", Cond.fieldLink RX2 140 "DishPointer$Target" "elevation" "I", Cond.fieldLink RX2 102 "DishPointer$Way" "possible" "Z", Cond.fieldLink RX2 138 "DishPointer$Target" "azimuth" "I", Cond.fieldLink RX2 124 "DishPointer$Way" "time" "I", Cond.methodLink RX2 125 Lib.Math.max.name, Cond.static Lib.Math.max.name, Cond.initialized "java/lang/Math", Cond.code Lib.Math.max.name Lib.Math.max.code 2 (some .int)]
def wsX6_why_r2 : List Cond := [Cond.fieldLink RX2 148 "DishPointer$Target" "dwell" "I", Cond.fieldLink RX2 145 "DishPointer$Target" "to" "I", Cond.methodLink RX2 157 yX2_numberUnderWay, Cond.instanceMethod yX2_numberUnderWay, Cond.selects RX2 yX2_numberUnderWay yX2_numberUnderWay, Cond.code yX2_numberUnderWay cX2_numberUnderWay 2 (some .int), Cond.methodLink RX2 80 yX2_kindOfDay, Cond.instanceMethod yX2_kindOfDay, Cond.selects RX2 yX2_kindOfDay yX2_kindOfDay, Cond.code yX2_kindOfDay cX2_kindOfDay 2 (some .int), Cond.fieldLink RX2 9 "DishPointer$State" "settings" "[I", Cond.methodLink RX2 77 yX2_gustToday, Cond.instanceMethod yX2_gustToday, Cond.selects RX2 yX2_gustToday yX2_gustToday, Cond.code yX2_gustToday cX2_gustToday 2 (some .int), Cond.fieldLink RX2 15 "DishPointer$State" "gusts" "[I", Cond.methodLink RX2 73 yX2_day, Cond.instanceMethod yX2_day, Cond.selects RX2 yX2_day yX2_day, Cond.code yX2_day cX2_day 1 (some .int), Cond.methodLink RX2 160 yX2_wayRise, Cond.instanceMethod yX2_wayRise, Cond.selects RX2 yX2_wayRise yX2_wayRise, Cond.code yX2_wayRise cX2_wayRise 2 (some (.object "DishPointer$Way"))]
def wsX6_why_r3 : List Cond := [Cond.fieldLink RX2 46 "DishPointer$State" "riseWay" "LDishPointer$Way;", Cond.fieldLink RX2 27 "DishPointer$State" "elevation" "LDishPointer$Axis;", Cond.methodLink RX2 98 yX5_plan, Cond.instanceMethod yX5_plan, Cond.selects RX5 yX5_plan yX5_plan, Cond.initialized RX5, Cond.code yX5_plan cX5_plan 6 none, Cond.fieldLink RX5 15 "DishPointer$Way" "place" "I", Cond.fieldLink RX5 21 "DishPointer$Axis" "side" "I", Cond.fieldLink RX5 24 "DishPointer$Axis" "slack" "I", Cond.fieldLink RX5 27 "DishPointer$Axis" "play" "I", Cond.fieldLink RX5 30 "DishPointer$Way" "turns" "Z", Cond.fieldLink RX5 34 "DishPointer$Way" "turn" "I", Cond.fieldLink RX5 37 "DishPointer$Way" "end" "I", Cond.fieldLink RX5 40 "DishPointer$Axis" "motor" "I", Cond.fieldLink RX5 47 "DishPointer$Way" "possible" "Z", Cond.methodLink RX5 50 Lib.Math.abs.name, Cond.static Lib.Math.abs.name, Cond.code Lib.Math.abs.name Lib.Math.abs.code 1 (some .int), Cond.fieldLink RX5 56 "DishPointer$Way" "length" "I", Cond.fieldLink RX5 59 "DishPointer$Axis" "speed" "I", Cond.fieldLink RX5 62 "DishPointer$Way" "time" "I", Cond.methodLink RX5 9 yX0_dish, Cond.instanceMethod yX0_dish]
def wsX6_why_r4 : List Cond := [Cond.selects RX0 yX0_dish yX0_dish, Cond.initialized RX0, Cond.code yX0_dish cX0_dish 1 (some .int), Cond.fieldLink RX0 21 "DishPointer$Axis" "motor" "I", Cond.fieldLink RX0 33 "DishPointer$Axis" "slack" "I", Cond.methodLink RX5 43 yX0_reaches, Cond.instanceMethod yX0_reaches, Cond.selects RX0 yX0_reaches yX0_reaches, Cond.code yX0_reaches cX0_reaches 2 (some .boolean), Cond.fieldLink RX0 9 "DishPointer$Axis" "least" "I", Cond.fieldLink RX0 15 "DishPointer$Axis" "most" "I", Cond.methodLink RX2 164 yX2_wayAround, Cond.instanceMethod yX2_wayAround, Cond.selects RX2 yX2_wayAround yX2_wayAround, Cond.code yX2_wayAround cX2_wayAround 2 (some (.object "DishPointer$Way")), Cond.fieldLink RX2 39 "DishPointer$State" "lowWay" "LDishPointer$Way;", Cond.fieldLink RX2 23 "DishPointer$State" "azimuth" "LDishPointer$Axis;", Cond.constant RX2 86 (36000), Cond.fieldLink RX2 43 "DishPointer$State" "highWay" "LDishPointer$Way;", Cond.methodLink RX2 106 yX2_isLowWayTaken, Cond.instanceMethod yX2_isLowWayTaken, Cond.selects RX2 yX2_isLowWayTaken yX2_isLowWayTaken, Cond.code yX2_isLowWayTaken cX2_isLowWayTaken 5 (some .boolean), Cond.fieldLink RX2 110 "DishPointer$Way" "place" "I"]
def wsX6_why_r5 : List Cond := [Cond.methodLink RX2 113 Lib.Math.abs.name, Cond.fieldLink RX2 117 "DishPointer$Way" "length" "I"]
def wsX6_why : List Cond := .code yX6_why cX6_why 2 (some .int) :: ((wsX6_why_r1 ++ (wsX6_why_r2 ++ (wsX6_why_r3 ++ (wsX6_why_r4 ++ wsX6_why_r5)))) ++ wsX60 ++ wsX20 ++ wsX30 ++ wsX50 ++ wsX00)
def wsX6_next_r1 : List Cond := [Cond.fieldLink RX6 10 "DishPointer" "now" "LDishPointer$State;", Cond.methodLink RX6 173 yX2_bestToBegin, Cond.instanceMethod yX2_bestToBegin, Cond.selects RX2 yX2_bestToBegin yX2_bestToBegin, Cond.initialized RX2, Cond.code yX2_bestToBegin cX2_bestToBegin 3 (some .int), Cond.fieldLink RX2 32 "DishPointer$State" "targets" "[LDishPointer$Target;", Cond.methodLink RX2 167 yX2_reasonAgainst, Cond.instanceMethod yX2_reasonAgainst, Cond.selects RX2 yX2_reasonAgainst yX2_reasonAgainst, Cond.code yX2_reasonAgainst cX2_reasonAgainst 4 (some .int), Cond.fieldLink RX2 128 "DishPointer$Target" "state" "I", Cond.fieldLink RX2 50 "DishPointer$State" "time" "I", Cond.fieldLink RX2 142 "DishPointer$Target" "from" "I", Cond.fieldLink RX2 140 "DishPointer$Target" "elevation" "I", Cond.fieldLink RX2 102 "DishPointer$Way" "possible" "Z", Cond.fieldLink RX2 138 "DishPointer$Target" "azimuth" "I", Cond.fieldLink RX2 124 "DishPointer$Way" "time" "I", Cond.methodLink RX2 125 Lib.Math.max.name, Cond.static Lib.Math.max.name, Cond.initialized "java/lang/Math", Cond.code Lib.Math.max.name Lib.Math.max.code 2 (some .int), Cond.fieldLink RX2 148 "DishPointer$Target" "dwell" "I", Cond.fieldLink RX2 145 "DishPointer$Target" "to" "I"]
def wsX6_next_r2 : List Cond := [Cond.methodLink RX2 157 yX2_numberUnderWay, Cond.instanceMethod yX2_numberUnderWay, Cond.selects RX2 yX2_numberUnderWay yX2_numberUnderWay, Cond.code yX2_numberUnderWay cX2_numberUnderWay 2 (some .int), Cond.methodLink RX2 80 yX2_kindOfDay, Cond.instanceMethod yX2_kindOfDay, Cond.selects RX2 yX2_kindOfDay yX2_kindOfDay, Cond.code yX2_kindOfDay cX2_kindOfDay 2 (some .int), Cond.fieldLink RX2 9 "DishPointer$State" "settings" "[I", Cond.methodLink RX2 77 yX2_gustToday, Cond.instanceMethod yX2_gustToday, Cond.selects RX2 yX2_gustToday yX2_gustToday, Cond.code yX2_gustToday cX2_gustToday 2 (some .int), Cond.fieldLink RX2 15 "DishPointer$State" "gusts" "[I", Cond.methodLink RX2 73 yX2_day, Cond.instanceMethod yX2_day, Cond.selects RX2 yX2_day yX2_day, Cond.code yX2_day cX2_day 1 (some .int), Cond.methodLink RX2 160 yX2_wayRise, Cond.instanceMethod yX2_wayRise, Cond.selects RX2 yX2_wayRise yX2_wayRise, Cond.code yX2_wayRise cX2_wayRise 2 (some (.object "DishPointer$Way")), Cond.fieldLink RX2 46 "DishPointer$State" "riseWay" "LDishPointer$Way;", Cond.fieldLink RX2 27 "DishPointer$State" "elevation" "LDishPointer$Axis;"]
def wsX6_next_r3 : List Cond := [Cond.methodLink RX2 98 yX5_plan, Cond.instanceMethod yX5_plan, Cond.selects RX5 yX5_plan yX5_plan, Cond.initialized RX5, Cond.code yX5_plan cX5_plan 6 none, Cond.fieldLink RX5 15 "DishPointer$Way" "place" "I", Cond.fieldLink RX5 21 "DishPointer$Axis" "side" "I", Cond.fieldLink RX5 24 "DishPointer$Axis" "slack" "I", Cond.fieldLink RX5 27 "DishPointer$Axis" "play" "I", Cond.fieldLink RX5 30 "DishPointer$Way" "turns" "Z", Cond.fieldLink RX5 34 "DishPointer$Way" "turn" "I", Cond.fieldLink RX5 37 "DishPointer$Way" "end" "I", Cond.fieldLink RX5 40 "DishPointer$Axis" "motor" "I", Cond.fieldLink RX5 47 "DishPointer$Way" "possible" "Z", Cond.methodLink RX5 50 Lib.Math.abs.name, Cond.static Lib.Math.abs.name, Cond.code Lib.Math.abs.name Lib.Math.abs.code 1 (some .int), Cond.fieldLink RX5 56 "DishPointer$Way" "length" "I", Cond.fieldLink RX5 59 "DishPointer$Axis" "speed" "I", Cond.fieldLink RX5 62 "DishPointer$Way" "time" "I", Cond.methodLink RX5 9 yX0_dish, Cond.instanceMethod yX0_dish, Cond.selects RX0 yX0_dish yX0_dish, Cond.initialized RX0]
def wsX6_next_r4 : List Cond := [Cond.code yX0_dish cX0_dish 1 (some .int), Cond.fieldLink RX0 21 "DishPointer$Axis" "motor" "I", Cond.fieldLink RX0 33 "DishPointer$Axis" "slack" "I", Cond.methodLink RX5 43 yX0_reaches, Cond.instanceMethod yX0_reaches, Cond.selects RX0 yX0_reaches yX0_reaches, Cond.code yX0_reaches cX0_reaches 2 (some .boolean), Cond.fieldLink RX0 9 "DishPointer$Axis" "least" "I", Cond.fieldLink RX0 15 "DishPointer$Axis" "most" "I", Cond.methodLink RX2 164 yX2_wayAround, Cond.instanceMethod yX2_wayAround, Cond.selects RX2 yX2_wayAround yX2_wayAround, Cond.code yX2_wayAround cX2_wayAround 2 (some (.object "DishPointer$Way")), Cond.fieldLink RX2 39 "DishPointer$State" "lowWay" "LDishPointer$Way;", Cond.fieldLink RX2 23 "DishPointer$State" "azimuth" "LDishPointer$Axis;", Cond.constant RX2 86 (36000), Cond.fieldLink RX2 43 "DishPointer$State" "highWay" "LDishPointer$Way;", Cond.methodLink RX2 106 yX2_isLowWayTaken, Cond.instanceMethod yX2_isLowWayTaken, Cond.selects RX2 yX2_isLowWayTaken yX2_isLowWayTaken, Cond.code yX2_isLowWayTaken cX2_isLowWayTaken 5 (some .boolean), Cond.fieldLink RX2 110 "DishPointer$Way" "place" "I", Cond.methodLink RX2 113 Lib.Math.abs.name, Cond.fieldLink RX2 117 "DishPointer$Way" "length" "I"]
def wsX6_next_r5 : List Cond := [Cond.methodLink RX2 171 yX3_isBetterThan, Cond.instanceMethod yX3_isBetterThan, Cond.selects RX3 yX3_isBetterThan yX3_isBetterThan, Cond.initialized RX3, Cond.code yX3_isBetterThan cX3_isBetterThan 2 (some .boolean), Cond.fieldLink RX3 30 "DishPointer$Target" "priority" "I", Cond.fieldLink RX3 24 "DishPointer$Target" "to" "I", Cond.methodLink RX6 81 yX6_foundTarget, Cond.static yX6_foundTarget, Cond.initialized RX6, Cond.code yX6_foundTarget cX6_foundTarget 1 (some .int), Cond.constant RX6 116 (-100004)]
def wsX6_next : List Cond := .code yX6_next cX6_next 1 (some .int) :: ((wsX6_next_r1 ++ (wsX6_next_r2 ++ (wsX6_next_r3 ++ (wsX6_next_r4 ++ wsX6_next_r5)))) ++ wsX60 ++ wsX20 ++ wsX30 ++ wsX50 ++ wsX00)
def wsX6_run_r1 : List Cond := [Cond.constant RX6 41 (-100001), Cond.fieldLink RX6 10 "DishPointer" "now" "LDishPointer$State;", Cond.fieldLink RX6 65 "DishPointer$State" "time" "I", Cond.constant RX6 176 (43200), Cond.constant RX6 146 (-100003), Cond.fieldLink RX6 22 "DishPointer" "history" "LDishPointer$History;", Cond.methodLink RX6 37 yX6_isBetween, Cond.static yX6_isBetween, Cond.initialized RX6, Cond.code yX6_isBetween cX6_isBetween 3 (some .boolean), Cond.methodLink RX6 42 yX1_record, Cond.instanceMethod yX1_record, Cond.selects RX1 yX1_record yX1_record, Cond.initialized RX1, Cond.code yX1_record cX1_record 2 none, Cond.fieldLink RX1 18 "DishPointer$History" "size" "I", Cond.fieldLink RX1 11 "DishPointer$History" "states" "[LDishPointer$State;", Cond.methodLink RX1 22 yX1_dropOldest, Cond.instanceMethod yX1_dropOldest, Cond.selects RX1 yX1_dropOldest yX1_dropOldest, Cond.code yX1_dropOldest cX1_dropOldest 3 none, Cond.methodLink RX1 25 yX2_copyFrom, Cond.instanceMethod yX2_copyFrom, Cond.selects RX2 yX2_copyFrom yX2_copyFrom]
def wsX6_run_r2 : List Cond := [Cond.initialized RX2, Cond.code yX2_copyFrom cX2_copyFrom 3 none, Cond.fieldLink RX2 50 "DishPointer$State" "time" "I", Cond.fieldLink RX2 54 "DishPointer$State" "slews" "I", Cond.fieldLink RX2 57 "DishPointer$State" "holds" "I", Cond.fieldLink RX2 9 "DishPointer$State" "settings" "[I", Cond.methodLink RX2 60 arraycopyName, Cond.native arraycopyName, Cond.static arraycopyName, Cond.initialized "java/lang/System", Cond.fieldLink RX2 15 "DishPointer$State" "gusts" "[I", Cond.fieldLink RX2 23 "DishPointer$State" "azimuth" "LDishPointer$Axis;", Cond.fieldLink RX2 27 "DishPointer$State" "elevation" "LDishPointer$Axis;", Cond.fieldLink RX2 32 "DishPointer$State" "targets" "[LDishPointer$Target;", Cond.methodLink RX2 66 yX0_copyFrom, Cond.instanceMethod yX0_copyFrom, Cond.selects RX0 yX0_copyFrom yX0_copyFrom, Cond.initialized RX0, Cond.code yX0_copyFrom cX0_copyFrom 2 none, Cond.fieldLink RX0 24 "DishPointer$Axis" "play" "I", Cond.fieldLink RX0 30 "DishPointer$Axis" "side" "I", Cond.fieldLink RX0 27 "DishPointer$Axis" "speed" "I", Cond.fieldLink RX0 21 "DishPointer$Axis" "motor" "I", Cond.fieldLink RX0 33 "DishPointer$Axis" "slack" "I"]
def wsX6_run_r3 : List Cond := [Cond.fieldLink RX0 36 "DishPointer$Axis" "wentUp" "I", Cond.fieldLink RX0 39 "DishPointer$Axis" "wentDown" "I", Cond.methodLink RX2 70 yX3_copyFrom, Cond.instanceMethod yX3_copyFrom, Cond.selects RX3 yX3_copyFrom yX3_copyFrom, Cond.initialized RX3, Cond.code yX3_copyFrom cX3_copyFrom 2 none, Cond.fieldLink RX3 15 "DishPointer$Target" "azimuth" "I", Cond.fieldLink RX3 18 "DishPointer$Target" "elevation" "I", Cond.fieldLink RX3 21 "DishPointer$Target" "from" "I", Cond.fieldLink RX3 24 "DishPointer$Target" "to" "I", Cond.fieldLink RX3 27 "DishPointer$Target" "dwell" "I", Cond.fieldLink RX3 30 "DishPointer$Target" "priority" "I", Cond.fieldLink RX3 9 "DishPointer$Target" "state" "I", Cond.fieldLink RX3 33 "DishPointer$Target" "begunAt" "I", Cond.fieldLink RX3 36 "DishPointer$Target" "slewedAt" "I", Cond.fieldLink RX3 39 "DishPointer$Target" "doneAt" "I", Cond.fieldLink RX3 42 "DishPointer$Target" "error" "I", Cond.fieldLink RX3 45 "DishPointer$Target" "breaks" "I", Cond.fieldLink RX3 48 "DishPointer$Target" "place" "I", Cond.fieldLink RX3 51 "DishPointer$Target" "slewLookedAt" "Z", Cond.methodLink RX6 73 yX2_targetsIn, Cond.instanceMethod yX2_targetsIn, Cond.selects RX2 yX2_targetsIn yX2_targetsIn]
def wsX6_run_r4 : List Cond := [Cond.code yX2_targetsIn cX2_targetsIn 7 (some .int), Cond.fieldLink RX2 128 "DishPointer$Target" "state" "I", Cond.methodLink RX6 177 yX2_letPass, Cond.instanceMethod yX2_letPass, Cond.selects RX2 yX2_letPass yX2_letPass, Cond.code yX2_letPass cX2_letPass 7 none, Cond.methodLink RX2 80 yX2_kindOfDay, Cond.instanceMethod yX2_kindOfDay, Cond.selects RX2 yX2_kindOfDay yX2_kindOfDay, Cond.code yX2_kindOfDay cX2_kindOfDay 2 (some .int), Cond.methodLink RX2 77 yX2_gustToday, Cond.instanceMethod yX2_gustToday, Cond.selects RX2 yX2_gustToday yX2_gustToday, Cond.code yX2_gustToday cX2_gustToday 2 (some .int), Cond.methodLink RX2 73 yX2_day, Cond.instanceMethod yX2_day, Cond.selects RX2 yX2_day yX2_day, Cond.code yX2_day cX2_day 1 (some .int), Cond.methodLink RX2 175 yX2_beginHold, Cond.instanceMethod yX2_beginHold, Cond.selects RX2 yX2_beginHold yX2_beginHold, Cond.code yX2_beginHold cX2_beginHold 5 none, Cond.fieldLink RX2 154 "DishPointer$Target" "breaks" "I", Cond.methodLink RX2 196 yX0_moveTo]
def wsX6_run_r5 : List Cond := [Cond.instanceMethod yX0_moveTo, Cond.selects RX0 yX0_moveTo yX0_moveTo, Cond.code yX0_moveTo cX0_moveTo 3 none, Cond.methodLink RX0 46 Lib.Math.min.name, Cond.static Lib.Math.min.name, Cond.initialized "java/lang/Math", Cond.code Lib.Math.min.name Lib.Math.min.code 2 (some .int), Cond.methodLink RX0 52 Lib.Math.max.name, Cond.static Lib.Math.max.name, Cond.code Lib.Math.max.name Lib.Math.max.code 2 (some .int), Cond.methodLink RX2 178 yX2_endWhatIsOver, Cond.instanceMethod yX2_endWhatIsOver, Cond.selects RX2 yX2_endWhatIsOver yX2_endWhatIsOver, Cond.code yX2_endWhatIsOver cX2_endWhatIsOver 5 none, Cond.fieldLink RX2 145 "DishPointer$Target" "to" "I", Cond.methodLink RX2 200 yX2_goOnWith, Cond.instanceMethod yX2_goOnWith, Cond.selects RX2 yX2_goOnWith yX2_goOnWith, Cond.code yX2_goOnWith cX2_goOnWith 2 none, Cond.fieldLink RX2 131 "DishPointer$Target" "doneAt" "I", Cond.fieldLink RX2 206 "DishPointer$Target" "place" "I", Cond.fieldLink RX2 207 "DishPointer$Target" "error" "I", Cond.methodLink RX2 203 yX2_lookAtSlew, Cond.instanceMethod yX2_lookAtSlew]
def wsX6_run_r6 : List Cond := [Cond.selects RX2 yX2_lookAtSlew yX2_lookAtSlew, Cond.code yX2_lookAtSlew cX2_lookAtSlew 2 none, Cond.fieldLink RX2 210 "DishPointer$Target" "slewLookedAt" "Z", Cond.fieldLink RX2 190 "DishPointer$Target" "slewedAt" "I", Cond.fieldLink RX2 213 "DishPointer$Axis" "play" "I", Cond.fieldLink RX2 216 "DishPointer$Axis" "slack" "I", Cond.methodLink RX2 83 yX0_dish, Cond.instanceMethod yX0_dish, Cond.selects RX0 yX0_dish yX0_dish, Cond.code yX0_dish cX0_dish 1 (some .int), Cond.methodLink RX2 181 yX2_bestToBegin, Cond.instanceMethod yX2_bestToBegin, Cond.selects RX2 yX2_bestToBegin yX2_bestToBegin, Cond.code yX2_bestToBegin cX2_bestToBegin 3 (some .int), Cond.methodLink RX2 167 yX2_reasonAgainst, Cond.instanceMethod yX2_reasonAgainst, Cond.selects RX2 yX2_reasonAgainst yX2_reasonAgainst, Cond.code yX2_reasonAgainst cX2_reasonAgainst 4 (some .int), Cond.fieldLink RX2 142 "DishPointer$Target" "from" "I", Cond.fieldLink RX2 140 "DishPointer$Target" "elevation" "I", Cond.fieldLink RX2 102 "DishPointer$Way" "possible" "Z", Cond.fieldLink RX2 138 "DishPointer$Target" "azimuth" "I", Cond.fieldLink RX2 124 "DishPointer$Way" "time" "I", Cond.methodLink RX2 125 Lib.Math.max.name]
def wsX6_run_r7 : List Cond := [Cond.fieldLink RX2 148 "DishPointer$Target" "dwell" "I", Cond.methodLink RX2 157 yX2_numberUnderWay, Cond.instanceMethod yX2_numberUnderWay, Cond.selects RX2 yX2_numberUnderWay yX2_numberUnderWay, Cond.code yX2_numberUnderWay cX2_numberUnderWay 2 (some .int), Cond.methodLink RX2 160 yX2_wayRise, Cond.instanceMethod yX2_wayRise, Cond.selects RX2 yX2_wayRise yX2_wayRise, Cond.code yX2_wayRise cX2_wayRise 2 (some (.object "DishPointer$Way")), Cond.fieldLink RX2 46 "DishPointer$State" "riseWay" "LDishPointer$Way;", Cond.methodLink RX2 98 yX5_plan, Cond.instanceMethod yX5_plan, Cond.selects RX5 yX5_plan yX5_plan, Cond.initialized RX5, Cond.code yX5_plan cX5_plan 6 none, Cond.fieldLink RX5 15 "DishPointer$Way" "place" "I", Cond.fieldLink RX5 21 "DishPointer$Axis" "side" "I", Cond.fieldLink RX5 24 "DishPointer$Axis" "slack" "I", Cond.fieldLink RX5 27 "DishPointer$Axis" "play" "I", Cond.fieldLink RX5 30 "DishPointer$Way" "turns" "Z", Cond.fieldLink RX5 34 "DishPointer$Way" "turn" "I", Cond.fieldLink RX5 37 "DishPointer$Way" "end" "I", Cond.fieldLink RX5 40 "DishPointer$Axis" "motor" "I", Cond.fieldLink RX5 47 "DishPointer$Way" "possible" "Z"]
def wsX6_run_r8 : List Cond := [Cond.methodLink RX5 50 Lib.Math.abs.name, Cond.static Lib.Math.abs.name, Cond.code Lib.Math.abs.name Lib.Math.abs.code 1 (some .int), Cond.fieldLink RX5 56 "DishPointer$Way" "length" "I", Cond.fieldLink RX5 59 "DishPointer$Axis" "speed" "I", Cond.fieldLink RX5 62 "DishPointer$Way" "time" "I", Cond.methodLink RX5 9 yX0_dish, Cond.methodLink RX5 43 yX0_reaches, Cond.instanceMethod yX0_reaches, Cond.selects RX0 yX0_reaches yX0_reaches, Cond.code yX0_reaches cX0_reaches 2 (some .boolean), Cond.fieldLink RX0 9 "DishPointer$Axis" "least" "I", Cond.fieldLink RX0 15 "DishPointer$Axis" "most" "I", Cond.methodLink RX2 164 yX2_wayAround, Cond.instanceMethod yX2_wayAround, Cond.selects RX2 yX2_wayAround yX2_wayAround, Cond.code yX2_wayAround cX2_wayAround 2 (some (.object "DishPointer$Way")), Cond.fieldLink RX2 39 "DishPointer$State" "lowWay" "LDishPointer$Way;", Cond.constant RX2 86 (36000), Cond.fieldLink RX2 43 "DishPointer$State" "highWay" "LDishPointer$Way;", Cond.methodLink RX2 106 yX2_isLowWayTaken, Cond.instanceMethod yX2_isLowWayTaken, Cond.selects RX2 yX2_isLowWayTaken yX2_isLowWayTaken, Cond.code yX2_isLowWayTaken cX2_isLowWayTaken 5 (some .boolean)]
def wsX6_run_r9 : List Cond := [Cond.fieldLink RX2 110 "DishPointer$Way" "place" "I", Cond.methodLink RX2 113 Lib.Math.abs.name, Cond.fieldLink RX2 117 "DishPointer$Way" "length" "I", Cond.methodLink RX2 171 yX3_isBetterThan, Cond.instanceMethod yX3_isBetterThan, Cond.selects RX3 yX3_isBetterThan yX3_isBetterThan, Cond.code yX3_isBetterThan cX3_isBetterThan 2 (some .boolean), Cond.methodLink RX2 184 yX2_begin, Cond.instanceMethod yX2_begin, Cond.selects RX2 yX2_begin yX2_begin, Cond.code yX2_begin cX2_begin 4 none, Cond.fieldLink RX2 219 "DishPointer$Target" "begunAt" "I", Cond.methodLink RX2 222 yX2_followWays, Cond.instanceMethod yX2_followWays, Cond.selects RX2 yX2_followWays yX2_followWays, Cond.code yX2_followWays cX2_followWays 3 (some .int), Cond.methodLink RX2 120 yX0_follow, Cond.instanceMethod yX0_follow, Cond.selects RX0 yX0_follow yX0_follow, Cond.code yX0_follow cX0_follow 2 none, Cond.fieldLink RX0 55 "DishPointer$Way" "turn" "I", Cond.fieldLink RX0 64 "DishPointer$Way" "end" "I", Cond.methodLink RX0 60 yX0_moveTo, Cond.methodLink RX2 187 yX2_nextEvent]
def wsX6_run_r10 : List Cond := [Cond.instanceMethod yX2_nextEvent, Cond.selects RX2 yX2_nextEvent yX2_nextEvent, Cond.code yX2_nextEvent cX2_nextEvent 6 (some .int), Cond.methodLink RX2 193 yX2_sooner, Cond.instanceMethod yX2_sooner, Cond.selects RX2 yX2_sooner yX2_sooner, Cond.code yX2_sooner cX2_sooner 3 (some .int)]
def wsX6_run : List Cond := .code yX6_run cX6_run 3 (some .int) :: ((wsX6_run_r1 ++ (wsX6_run_r2 ++ (wsX6_run_r3 ++ (wsX6_run_r4 ++ (wsX6_run_r5 ++ (wsX6_run_r6 ++ (wsX6_run_r7 ++ (wsX6_run_r8 ++ (wsX6_run_r9 ++ wsX6_run_r10))))))))) ++ wsX60 ++ wsX20 ++ wsX10 ++ wsX00 ++ wsX30 ++ wsX50)
def wsJ9_abs_0f7a4 : List Cond := .code yJ9_abs_0f7a4 cJ9_abs_0f7a4 1 (some .int) :: ([])
def wsJ9_max_7cf53 : List Cond := .code yJ9_max_7cf53 cJ9_max_7cf53 2 (some .int) :: ([])
def wsJ9_min_7cf53 : List Cond := .code yJ9_min_7cf53 cJ9_min_7cf53 2 (some .int) :: ([])
def wsL_cell : List Cond := .code yL_cell cL_cell 2 (some .int) :: ([.constant RL 7 (40503)])
def wsL_low : List Cond := .code yL_low cL_low 2 (some .int) :: ([.constant RL 8 (2147483647)])
def wsL_dish : List Cond := .code yL_dish cL_dish 2 (some .int) :: ([])
def wsL_within : List Cond := .code yL_within cL_within 2 (some .boolean) :: ([])
def wsL_plan : List Cond := .code yL_plan cL_plan 10 (some .int) :: ([.methodLink RL 9 yL_dish, .static yL_dish, .initialized RL, .code yL_dish cL_dish 2 (some .int), .methodLink RL 15 yL_within, .static yL_within, .code yL_within cL_within 2 (some .boolean)])
def wsL_size : List Cond := .code yL_size cL_size 1 (some .int) :: ([])
def wsL_length : List Cond := .code yL_length cL_length 7 (some .int) :: ([.methodLink RL 19 yL_plan, .static yL_plan, .initialized RL, .code yL_plan cL_plan 10 (some .int), .methodLink RL 9 yL_dish, .static yL_dish, .code yL_dish cL_dish 2 (some .int), .methodLink RL 15 yL_within, .static yL_within, .code yL_within cL_within 2 (some .boolean), .methodLink RL 23 yL_size, .static yL_size, .code yL_size cL_size 1 (some .int)])
def wsL_time : List Cond := .code yL_time cL_time 5 (some .int) :: ([.methodLink RL 27 yL_length, .static yL_length, .initialized RL, .code yL_length cL_length 7 (some .int), .methodLink RL 19 yL_plan, .static yL_plan, .code yL_plan cL_plan 10 (some .int), .methodLink RL 9 yL_dish, .static yL_dish, .code yL_dish cL_dish 2 (some .int), .methodLink RL 15 yL_within, .static yL_within, .code yL_within cL_within 2 (some .boolean), .methodLink RL 23 yL_size, .static yL_size, .code yL_size cL_size 1 (some .int)])
def wsL_pick : List Cond := .code yL_pick cL_pick 10 (some .int) :: ([.constantLong RL 30 (-1), .constant RL 32 (-100004), .constant RL 33 (36000), .constantLong RL 34 (100000000000000), .constantLong RL 36 (100000000), .constantLong RL 38 (100), .methodLink RL 27 yL_length, .static yL_length, .initialized RL, .code yL_length cL_length 7 (some .int), .methodLink RL 19 yL_plan, .static yL_plan, .code yL_plan cL_plan 10 (some .int), .methodLink RL 9 yL_dish, .static yL_dish, .code yL_dish cL_dish 2 (some .int), .methodLink RL 15 yL_within, .static yL_within, .code yL_within cL_within 2 (some .boolean), .methodLink RL 23 yL_size, .static yL_size, .code yL_size cL_size 1 (some .int)])
def wsL_goes : List Cond := .code yL_goes cL_goes 4 none :: ([])
def wsL_slews : List Cond := .code yL_slews cL_slews 8 (some .int) :: ([.methodLink RL 40 yL_time, .static yL_time, .initialized RL, .code yL_time cL_time 5 (some .int), .methodLink RL 27 yL_length, .static yL_length, .code yL_length cL_length 7 (some .int), .methodLink RL 19 yL_plan, .static yL_plan, .code yL_plan cL_plan 10 (some .int), .methodLink RL 9 yL_dish, .static yL_dish, .code yL_dish cL_dish 2 (some .int), .methodLink RL 15 yL_within, .static yL_within, .code yL_within cL_within 2 (some .boolean), .methodLink RL 23 yL_size, .static yL_size, .code yL_size cL_size 1 (some .int), .methodLink RL 43 yL_goes, .static yL_goes, .code yL_goes cL_goes 4 none])
def wsL_day : List Cond := .code yL_day cL_day 2 (some .int) :: ([])
def wsL_under : List Cond := .code yL_under cL_under 4 (some .int) :: ([.constant RL 32 (-100004)])
def wsL_why_r1 : List Cond := [Cond.constant RL 50 (-100000), Cond.methodLink RL 27 yL_length, Cond.static yL_length, Cond.initialized RL, Cond.code yL_length cL_length 7 (some .int), Cond.methodLink RL 19 yL_plan, Cond.static yL_plan, Cond.code yL_plan cL_plan 10 (some .int), Cond.methodLink RL 9 yL_dish, Cond.static yL_dish, Cond.code yL_dish cL_dish 2 (some .int), Cond.methodLink RL 15 yL_within, Cond.static yL_within, Cond.code yL_within cL_within 2 (some .boolean), Cond.methodLink RL 23 yL_size, Cond.static yL_size, Cond.code yL_size cL_size 1 (some .int), Cond.methodLink RL 47 yL_pick, Cond.static yL_pick, Cond.code yL_pick cL_pick 10 (some .int), Cond.constantLong RL 30 (-1), Cond.constant RL 32 (-100004), Cond.constant RL 33 (36000), Cond.constantLong RL 34 (100000000000000)]
def wsL_why_r2 : List Cond := [Cond.constantLong RL 36 (100000000), Cond.constantLong RL 38 (100), Cond.methodLink RL 40 yL_time, Cond.static yL_time, Cond.code yL_time cL_time 5 (some .int), Cond.methodLink RL 51 yL_under, Cond.static yL_under, Cond.code yL_under cL_under 4 (some .int), Cond.methodLink RL 55 yL_day, Cond.static yL_day, Cond.code yL_day cL_day 2 (some .int)]
def wsL_why : List Cond := .code yL_why cL_why 9 (some .int) :: ((wsL_why_r1 ++ wsL_why_r2))
def wsL_next_r1 : List Cond := [Cond.constant RL 32 (-100004), Cond.methodLink RL 59 yL_why, Cond.static yL_why, Cond.initialized RL, Cond.code yL_why cL_why 9 (some .int), Cond.constant RL 50 (-100000), Cond.methodLink RL 27 yL_length, Cond.static yL_length, Cond.code yL_length cL_length 7 (some .int), Cond.methodLink RL 19 yL_plan, Cond.static yL_plan, Cond.code yL_plan cL_plan 10 (some .int), Cond.methodLink RL 9 yL_dish, Cond.static yL_dish, Cond.code yL_dish cL_dish 2 (some .int), Cond.methodLink RL 15 yL_within, Cond.static yL_within, Cond.code yL_within cL_within 2 (some .boolean), Cond.methodLink RL 23 yL_size, Cond.static yL_size, Cond.code yL_size cL_size 1 (some .int), Cond.methodLink RL 47 yL_pick, Cond.static yL_pick, Cond.code yL_pick cL_pick 10 (some .int)]
def wsL_next_r2 : List Cond := [Cond.constantLong RL 30 (-1), Cond.constant RL 33 (36000), Cond.constantLong RL 34 (100000000000000), Cond.constantLong RL 36 (100000000), Cond.constantLong RL 38 (100), Cond.methodLink RL 40 yL_time, Cond.static yL_time, Cond.code yL_time cL_time 5 (some .int), Cond.methodLink RL 51 yL_under, Cond.static yL_under, Cond.code yL_under cL_under 4 (some .int), Cond.methodLink RL 55 yL_day, Cond.static yL_day, Cond.code yL_day cL_day 2 (some .int)]
def wsL_next : List Cond := .code yL_next cL_next 5 (some .int) :: ((wsL_next_r1 ++ wsL_next_r2))
def wsL_push : List Cond := .code yL_push cL_push 4 none :: ([.methodLink RL 55 yL_day, .static yL_day, .initialized RL, .code yL_day cL_day 2 (some .int)])
def wsL_minute_r1 : List Cond := [Cond.methodLink RL 51 yL_under, Cond.static yL_under, Cond.initialized RL, Cond.code yL_under cL_under 4 (some .int), Cond.constant RL 32 (-100004), Cond.methodLink RL 63 yL_push, Cond.static yL_push, Cond.code yL_push cL_push 4 none, Cond.methodLink RL 55 yL_day, Cond.static yL_day, Cond.code yL_day cL_day 2 (some .int), Cond.methodLink RL 9 yL_dish, Cond.static yL_dish, Cond.code yL_dish cL_dish 2 (some .int), Cond.methodLink RL 67 yL_next, Cond.static yL_next, Cond.code yL_next cL_next 5 (some .int), Cond.methodLink RL 59 yL_why, Cond.static yL_why, Cond.code yL_why cL_why 9 (some .int), Cond.constant RL 50 (-100000), Cond.methodLink RL 27 yL_length, Cond.static yL_length, Cond.code yL_length cL_length 7 (some .int)]
def wsL_minute_r2 : List Cond := [Cond.methodLink RL 19 yL_plan, Cond.static yL_plan, Cond.code yL_plan cL_plan 10 (some .int), Cond.methodLink RL 15 yL_within, Cond.static yL_within, Cond.code yL_within cL_within 2 (some .boolean), Cond.methodLink RL 23 yL_size, Cond.static yL_size, Cond.code yL_size cL_size 1 (some .int), Cond.methodLink RL 47 yL_pick, Cond.static yL_pick, Cond.code yL_pick cL_pick 10 (some .int), Cond.constantLong RL 30 (-1), Cond.constant RL 33 (36000), Cond.constantLong RL 34 (100000000000000), Cond.constantLong RL 36 (100000000), Cond.constantLong RL 38 (100), Cond.methodLink RL 40 yL_time, Cond.static yL_time, Cond.code yL_time cL_time 5 (some .int), Cond.methodLink RL 70 yL_slews, Cond.static yL_slews, Cond.code yL_slews cL_slews 8 (some .int), Cond.methodLink RL 43 yL_goes]
def wsL_minute_r3 : List Cond := [Cond.static yL_goes, Cond.code yL_goes cL_goes 4 none]
def wsL_minute : List Cond := .code yL_minute cL_minute 6 (some .int) :: ((wsL_minute_r1 ++ (wsL_minute_r2 ++ wsL_minute_r3)))
def wsL_runs_r1 : List Cond := [Cond.methodLink RL 73 yL_minute, Cond.static yL_minute, Cond.initialized RL, Cond.code yL_minute cL_minute 6 (some .int), Cond.methodLink RL 51 yL_under, Cond.static yL_under, Cond.code yL_under cL_under 4 (some .int), Cond.constant RL 32 (-100004), Cond.methodLink RL 63 yL_push, Cond.static yL_push, Cond.code yL_push cL_push 4 none, Cond.methodLink RL 55 yL_day, Cond.static yL_day, Cond.code yL_day cL_day 2 (some .int), Cond.methodLink RL 9 yL_dish, Cond.static yL_dish, Cond.code yL_dish cL_dish 2 (some .int), Cond.methodLink RL 67 yL_next, Cond.static yL_next, Cond.code yL_next cL_next 5 (some .int), Cond.methodLink RL 59 yL_why, Cond.static yL_why, Cond.code yL_why cL_why 9 (some .int), Cond.constant RL 50 (-100000)]
def wsL_runs_r2 : List Cond := [Cond.methodLink RL 27 yL_length, Cond.static yL_length, Cond.code yL_length cL_length 7 (some .int), Cond.methodLink RL 19 yL_plan, Cond.static yL_plan, Cond.code yL_plan cL_plan 10 (some .int), Cond.methodLink RL 15 yL_within, Cond.static yL_within, Cond.code yL_within cL_within 2 (some .boolean), Cond.methodLink RL 23 yL_size, Cond.static yL_size, Cond.code yL_size cL_size 1 (some .int), Cond.methodLink RL 47 yL_pick, Cond.static yL_pick, Cond.code yL_pick cL_pick 10 (some .int), Cond.constantLong RL 30 (-1), Cond.constant RL 33 (36000), Cond.constantLong RL 34 (100000000000000), Cond.constantLong RL 36 (100000000), Cond.constantLong RL 38 (100), Cond.methodLink RL 40 yL_time, Cond.static yL_time, Cond.code yL_time cL_time 5 (some .int), Cond.methodLink RL 70 yL_slews]
def wsL_runs_r3 : List Cond := [Cond.static yL_slews, Cond.code yL_slews cL_slews 8 (some .int), Cond.methodLink RL 43 yL_goes, Cond.static yL_goes, Cond.code yL_goes cL_goes 4 none]
def wsL_runs : List Cond := .code yL_runs cL_runs 6 (some .int) :: ((wsL_runs_r1 ++ (wsL_runs_r2 ++ wsL_runs_r3)))
def wsL_begins : List Cond := .code yL_begins cL_begins 1 none :: ([])
def wsL_acts_r1 : List Cond := [Cond.constant RL 76 (10000000), Cond.constant RL 93 (-100002), Cond.constant RL 33 (36000), Cond.constant RL 50 (-100000), Cond.constant RL 100 (-100001), Cond.constant RL 101 (43200), Cond.constant RL 105 (-100003), Cond.methodLink RL 77 yL_low, Cond.static yL_low, Cond.initialized RL, Cond.code yL_low cL_low 2 (some .int), Cond.constant RL 8 (2147483647), Cond.methodLink RL 81 yX6_set, Cond.instanceMethod yX6_set, Cond.selects RX6 yX6_set yX6_set, Cond.initialized RX6, Cond.code yX6_set cX6_set 3 (some .int), Cond.fieldLink RX6 33 "DishPointer" "SETTING_MOST" "[I", Cond.constant RX6 41 (-100001), Cond.fieldLink RX6 22 "DishPointer" "history" "LDishPointer$History;", Cond.fieldLink RX6 10 "DishPointer" "now" "LDishPointer$State;", Cond.methodLink RX6 37 yX6_isBetween, Cond.static yX6_isBetween, Cond.code yX6_isBetween cX6_isBetween 3 (some .boolean)]
def wsL_acts_r2 : List Cond := [Cond.methodLink RX6 42 yX1_record, Cond.instanceMethod yX1_record, Cond.selects RX1 yX1_record yX1_record, Cond.initialized RX1, Cond.code yX1_record cX1_record 2 none, Cond.fieldLink RX1 18 "DishPointer$History" "size" "I", Cond.fieldLink RX1 11 "DishPointer$History" "states" "[LDishPointer$State;", Cond.methodLink RX1 22 yX1_dropOldest, Cond.instanceMethod yX1_dropOldest, Cond.selects RX1 yX1_dropOldest yX1_dropOldest, Cond.code yX1_dropOldest cX1_dropOldest 3 none, Cond.methodLink RX1 25 yX2_copyFrom, Cond.instanceMethod yX2_copyFrom, Cond.selects RX2 yX2_copyFrom yX2_copyFrom, Cond.initialized RX2, Cond.code yX2_copyFrom cX2_copyFrom 3 none, Cond.fieldLink RX2 50 "DishPointer$State" "time" "I", Cond.fieldLink RX2 54 "DishPointer$State" "slews" "I", Cond.fieldLink RX2 57 "DishPointer$State" "holds" "I", Cond.fieldLink RX2 9 "DishPointer$State" "settings" "[I", Cond.methodLink RX2 60 arraycopyName, Cond.native arraycopyName, Cond.static arraycopyName, Cond.initialized "java/lang/System"]
def wsL_acts_r3 : List Cond := [Cond.fieldLink RX2 15 "DishPointer$State" "gusts" "[I", Cond.fieldLink RX2 23 "DishPointer$State" "azimuth" "LDishPointer$Axis;", Cond.fieldLink RX2 27 "DishPointer$State" "elevation" "LDishPointer$Axis;", Cond.fieldLink RX2 32 "DishPointer$State" "targets" "[LDishPointer$Target;", Cond.methodLink RX2 66 yX0_copyFrom, Cond.instanceMethod yX0_copyFrom, Cond.selects RX0 yX0_copyFrom yX0_copyFrom, Cond.initialized RX0, Cond.code yX0_copyFrom cX0_copyFrom 2 none, Cond.fieldLink RX0 24 "DishPointer$Axis" "play" "I", Cond.fieldLink RX0 30 "DishPointer$Axis" "side" "I", Cond.fieldLink RX0 27 "DishPointer$Axis" "speed" "I", Cond.fieldLink RX0 21 "DishPointer$Axis" "motor" "I", Cond.fieldLink RX0 33 "DishPointer$Axis" "slack" "I", Cond.fieldLink RX0 36 "DishPointer$Axis" "wentUp" "I", Cond.fieldLink RX0 39 "DishPointer$Axis" "wentDown" "I", Cond.methodLink RX2 70 yX3_copyFrom, Cond.instanceMethod yX3_copyFrom, Cond.selects RX3 yX3_copyFrom yX3_copyFrom, Cond.initialized RX3, Cond.code yX3_copyFrom cX3_copyFrom 2 none, Cond.fieldLink RX3 15 "DishPointer$Target" "azimuth" "I", Cond.fieldLink RX3 18 "DishPointer$Target" "elevation" "I", Cond.fieldLink RX3 21 "DishPointer$Target" "from" "I"]
def wsL_acts_r4 : List Cond := [Cond.fieldLink RX3 24 "DishPointer$Target" "to" "I", Cond.fieldLink RX3 27 "DishPointer$Target" "dwell" "I", Cond.fieldLink RX3 30 "DishPointer$Target" "priority" "I", Cond.fieldLink RX3 9 "DishPointer$Target" "state" "I", Cond.fieldLink RX3 33 "DishPointer$Target" "begunAt" "I", Cond.fieldLink RX3 36 "DishPointer$Target" "slewedAt" "I", Cond.fieldLink RX3 39 "DishPointer$Target" "doneAt" "I", Cond.fieldLink RX3 42 "DishPointer$Target" "error" "I", Cond.fieldLink RX3 45 "DishPointer$Target" "breaks" "I", Cond.fieldLink RX3 48 "DishPointer$Target" "place" "I", Cond.fieldLink RX3 51 "DishPointer$Target" "slewLookedAt" "Z", Cond.methodLink RX6 46 yX2_changeSetting, Cond.instanceMethod yX2_changeSetting, Cond.selects RX2 yX2_changeSetting yX2_changeSetting, Cond.code yX2_changeSetting cX2_changeSetting 4 (some .int), Cond.methodLink RL 86 yX6_setAxis, Cond.instanceMethod yX6_setAxis, Cond.selects RX6 yX6_setAxis yX6_setAxis, Cond.code yX6_setAxis cX6_setAxis 4 (some .int), Cond.fieldLink RX6 50 "DishPointer" "AXIS_MOST" "[I", Cond.fieldLink RX6 53 "DishPointer" "AXIS_LEAST" "[I", Cond.methodLink RX6 56 yX2_axisNumber, Cond.instanceMethod yX2_axisNumber, Cond.selects RX2 yX2_axisNumber yX2_axisNumber]
def wsL_acts_r5 : List Cond := [Cond.code yX2_axisNumber cX2_axisNumber 2 (some (.object "DishPointer$Axis")), Cond.methodLink RX6 60 yX0_change, Cond.instanceMethod yX0_change, Cond.selects RX0 yX0_change yX0_change, Cond.code yX0_change cX0_change 4 (some .int), Cond.methodLink RX0 46 Lib.Math.min.name, Cond.static Lib.Math.min.name, Cond.initialized "java/lang/Math", Cond.code Lib.Math.min.name Lib.Math.min.code 2 (some .int), Cond.methodLink RX0 42 yX0_tell, Cond.instanceMethod yX0_tell, Cond.selects RX0 yX0_tell yX0_tell, Cond.code yX0_tell cX0_tell 2 (some .int), Cond.fieldLink RX0 18 "DishPointer$Axis" "start" "I", Cond.constant RX0 71 (-100001), Cond.methodLink RX0 67 yX0_dish, Cond.instanceMethod yX0_dish, Cond.selects RX0 yX0_dish yX0_dish, Cond.code yX0_dish cX0_dish 1 (some .int), Cond.methodLink RL 90 yX6_gust, Cond.instanceMethod yX6_gust, Cond.selects RX6 yX6_gust yX6_gust, Cond.code yX6_gust cX6_gust 3 (some .int), Cond.fieldLink RX6 65 "DishPointer$State" "time" "I"]
def wsL_acts_r6 : List Cond := [Cond.constant RX6 69 (-100002), Cond.methodLink RX6 70 yX2_changeGust, Cond.instanceMethod yX2_changeGust, Cond.selects RX2 yX2_changeGust yX2_changeGust, Cond.code yX2_changeGust cX2_changeGust 4 (some .int), Cond.methodLink RL 47 yL_pick, Cond.static yL_pick, Cond.code yL_pick cL_pick 10 (some .int), Cond.constantLong RL 30 (-1), Cond.constant RL 32 (-100004), Cond.constantLong RL 34 (100000000000000), Cond.constantLong RL 36 (100000000), Cond.constantLong RL 38 (100), Cond.methodLink RL 27 yL_length, Cond.static yL_length, Cond.code yL_length cL_length 7 (some .int), Cond.methodLink RL 19 yL_plan, Cond.static yL_plan, Cond.code yL_plan cL_plan 10 (some .int), Cond.methodLink RL 9 yL_dish, Cond.static yL_dish, Cond.code yL_dish cL_dish 2 (some .int), Cond.methodLink RL 15 yL_within, Cond.static yL_within]
def wsL_acts_r7 : List Cond := [Cond.code yL_within cL_within 2 (some .boolean), Cond.methodLink RL 23 yL_size, Cond.static yL_size, Cond.code yL_size cL_size 1 (some .int), Cond.methodLink RL 51 yL_under, Cond.static yL_under, Cond.code yL_under cL_under 4 (some .int), Cond.methodLink RL 55 yL_day, Cond.static yL_day, Cond.code yL_day cL_day 2 (some .int), Cond.methodLink RL 94 yX6_slew, Cond.instanceMethod yX6_slew, Cond.selects RX6 yX6_slew yX6_slew, Cond.code yX6_slew cX6_slew 5 (some .int), Cond.constant RX6 104 (35999), Cond.fieldLink RX6 109 "DishPointer$Way" "possible" "Z", Cond.methodLink RX6 77 yX2_numberUnderWay, Cond.instanceMethod yX2_numberUnderWay, Cond.selects RX2 yX2_numberUnderWay yX2_numberUnderWay, Cond.code yX2_numberUnderWay cX2_numberUnderWay 2 (some .int), Cond.fieldLink RX2 128 "DishPointer$Target" "state" "I", Cond.methodLink RX6 117 yX2_kindOfDay, Cond.instanceMethod yX2_kindOfDay, Cond.selects RX2 yX2_kindOfDay yX2_kindOfDay]
def wsL_acts_r8 : List Cond := [Cond.code yX2_kindOfDay cX2_kindOfDay 2 (some .int), Cond.methodLink RX2 77 yX2_gustToday, Cond.instanceMethod yX2_gustToday, Cond.selects RX2 yX2_gustToday yX2_gustToday, Cond.code yX2_gustToday cX2_gustToday 2 (some .int), Cond.methodLink RX2 73 yX2_day, Cond.instanceMethod yX2_day, Cond.selects RX2 yX2_day yX2_day, Cond.code yX2_day cX2_day 1 (some .int), Cond.methodLink RX6 105 yX2_wayAround, Cond.instanceMethod yX2_wayAround, Cond.selects RX2 yX2_wayAround yX2_wayAround, Cond.code yX2_wayAround cX2_wayAround 2 (some (.object "DishPointer$Way")), Cond.fieldLink RX2 39 "DishPointer$State" "lowWay" "LDishPointer$Way;", Cond.constant RX2 86 (36000), Cond.fieldLink RX2 43 "DishPointer$State" "highWay" "LDishPointer$Way;", Cond.fieldLink RX2 102 "DishPointer$Way" "possible" "Z", Cond.methodLink RX2 98 yX5_plan, Cond.instanceMethod yX5_plan, Cond.selects RX5 yX5_plan yX5_plan, Cond.initialized RX5, Cond.code yX5_plan cX5_plan 6 none, Cond.fieldLink RX5 15 "DishPointer$Way" "place" "I", Cond.fieldLink RX5 21 "DishPointer$Axis" "side" "I"]
def wsL_acts_r9 : List Cond := [Cond.fieldLink RX5 24 "DishPointer$Axis" "slack" "I", Cond.fieldLink RX5 27 "DishPointer$Axis" "play" "I", Cond.fieldLink RX5 30 "DishPointer$Way" "turns" "Z", Cond.fieldLink RX5 34 "DishPointer$Way" "turn" "I", Cond.fieldLink RX5 37 "DishPointer$Way" "end" "I", Cond.fieldLink RX5 40 "DishPointer$Axis" "motor" "I", Cond.fieldLink RX5 47 "DishPointer$Way" "possible" "Z", Cond.methodLink RX5 50 Lib.Math.abs.name, Cond.static Lib.Math.abs.name, Cond.code Lib.Math.abs.name Lib.Math.abs.code 1 (some .int), Cond.fieldLink RX5 56 "DishPointer$Way" "length" "I", Cond.fieldLink RX5 59 "DishPointer$Axis" "speed" "I", Cond.fieldLink RX5 62 "DishPointer$Way" "time" "I", Cond.methodLink RX5 9 yX0_dish, Cond.methodLink RX5 43 yX0_reaches, Cond.instanceMethod yX0_reaches, Cond.selects RX0 yX0_reaches yX0_reaches, Cond.code yX0_reaches cX0_reaches 2 (some .boolean), Cond.fieldLink RX0 9 "DishPointer$Axis" "least" "I", Cond.fieldLink RX0 15 "DishPointer$Axis" "most" "I", Cond.methodLink RX2 106 yX2_isLowWayTaken, Cond.instanceMethod yX2_isLowWayTaken, Cond.selects RX2 yX2_isLowWayTaken yX2_isLowWayTaken, Cond.code yX2_isLowWayTaken cX2_isLowWayTaken 5 (some .boolean)]
def wsL_acts_r10 : List Cond := [Cond.fieldLink RX2 110 "DishPointer$Way" "place" "I", Cond.methodLink RX2 113 Lib.Math.abs.name, Cond.fieldLink RX2 117 "DishPointer$Way" "length" "I", Cond.methodLink RX6 120 yX2_wayRise, Cond.instanceMethod yX2_wayRise, Cond.selects RX2 yX2_wayRise yX2_wayRise, Cond.code yX2_wayRise cX2_wayRise 2 (some (.object "DishPointer$Way")), Cond.fieldLink RX2 46 "DishPointer$State" "riseWay" "LDishPointer$Way;", Cond.methodLink RX6 123 yX2_followWays, Cond.instanceMethod yX2_followWays, Cond.selects RX2 yX2_followWays yX2_followWays, Cond.code yX2_followWays cX2_followWays 3 (some .int), Cond.fieldLink RX2 124 "DishPointer$Way" "time" "I", Cond.methodLink RX2 125 Lib.Math.max.name, Cond.static Lib.Math.max.name, Cond.code Lib.Math.max.name Lib.Math.max.code 2 (some .int), Cond.methodLink RX2 120 yX0_follow, Cond.instanceMethod yX0_follow, Cond.selects RX0 yX0_follow yX0_follow, Cond.code yX0_follow cX0_follow 2 none, Cond.fieldLink RX0 55 "DishPointer$Way" "turn" "I", Cond.fieldLink RX0 64 "DishPointer$Way" "end" "I", Cond.methodLink RX0 60 yX0_moveTo, Cond.instanceMethod yX0_moveTo]
def wsL_acts_r11 : List Cond := [Cond.selects RX0 yX0_moveTo yX0_moveTo, Cond.code yX0_moveTo cX0_moveTo 3 none, Cond.methodLink RX0 52 Lib.Math.max.name, Cond.methodLink RL 70 yL_slews, Cond.static yL_slews, Cond.code yL_slews cL_slews 8 (some .int), Cond.methodLink RL 40 yL_time, Cond.static yL_time, Cond.code yL_time cL_time 5 (some .int), Cond.methodLink RL 43 yL_goes, Cond.static yL_goes, Cond.code yL_goes cL_goes 4 none, Cond.methodLink RL 97 yX6_drop, Cond.instanceMethod yX6_drop, Cond.selects RX6 yX6_drop yX6_drop, Cond.code yX6_drop cX6_drop 2 (some .int), Cond.fieldLink RX6 155 "DishPointer$State" "targets" "[LDishPointer$Target;", Cond.fieldLink RX6 159 "DishPointer$Target" "state" "I", Cond.methodLink RX6 151 yX2_hasTarget, Cond.instanceMethod yX2_hasTarget, Cond.selects RX2 yX2_hasTarget yX2_hasTarget, Cond.code yX2_hasTarget cX2_hasTarget 2 (some .boolean), Cond.methodLink RX6 164 yX2_remove, Cond.instanceMethod yX2_remove]
def wsL_acts_r12 : List Cond := [Cond.selects RX2 yX2_remove yX2_remove, Cond.code yX2_remove cX2_remove 3 none, Cond.methodLink RX6 73 yX2_targetsIn, Cond.instanceMethod yX2_targetsIn, Cond.selects RX2 yX2_targetsIn yX2_targetsIn, Cond.code yX2_targetsIn cX2_targetsIn 7 (some .int), Cond.methodLink RL 102 yX6_run, Cond.instanceMethod yX6_run, Cond.selects RX6 yX6_run yX6_run, Cond.code yX6_run cX6_run 3 (some .int), Cond.constant RX6 176 (43200), Cond.constant RX6 146 (-100003), Cond.methodLink RX6 177 yX2_letPass, Cond.instanceMethod yX2_letPass, Cond.selects RX2 yX2_letPass yX2_letPass, Cond.code yX2_letPass cX2_letPass 7 none, Cond.methodLink RX2 80 yX2_kindOfDay, Cond.methodLink RX2 175 yX2_beginHold, Cond.instanceMethod yX2_beginHold, Cond.selects RX2 yX2_beginHold yX2_beginHold, Cond.code yX2_beginHold cX2_beginHold 5 none, Cond.fieldLink RX2 154 "DishPointer$Target" "breaks" "I", Cond.methodLink RX2 196 yX0_moveTo, Cond.methodLink RX2 178 yX2_endWhatIsOver]
def wsL_acts_r13 : List Cond := [Cond.instanceMethod yX2_endWhatIsOver, Cond.selects RX2 yX2_endWhatIsOver yX2_endWhatIsOver, Cond.code yX2_endWhatIsOver cX2_endWhatIsOver 5 none, Cond.fieldLink RX2 145 "DishPointer$Target" "to" "I", Cond.methodLink RX2 200 yX2_goOnWith, Cond.instanceMethod yX2_goOnWith, Cond.selects RX2 yX2_goOnWith yX2_goOnWith, Cond.code yX2_goOnWith cX2_goOnWith 2 none, Cond.fieldLink RX2 131 "DishPointer$Target" "doneAt" "I", Cond.fieldLink RX2 206 "DishPointer$Target" "place" "I", Cond.fieldLink RX2 207 "DishPointer$Target" "error" "I", Cond.methodLink RX2 203 yX2_lookAtSlew, Cond.instanceMethod yX2_lookAtSlew, Cond.selects RX2 yX2_lookAtSlew yX2_lookAtSlew, Cond.code yX2_lookAtSlew cX2_lookAtSlew 2 none, Cond.fieldLink RX2 210 "DishPointer$Target" "slewLookedAt" "Z", Cond.fieldLink RX2 190 "DishPointer$Target" "slewedAt" "I", Cond.fieldLink RX2 213 "DishPointer$Axis" "play" "I", Cond.fieldLink RX2 216 "DishPointer$Axis" "slack" "I", Cond.methodLink RX2 83 yX0_dish, Cond.methodLink RX2 181 yX2_bestToBegin, Cond.instanceMethod yX2_bestToBegin, Cond.selects RX2 yX2_bestToBegin yX2_bestToBegin, Cond.code yX2_bestToBegin cX2_bestToBegin 3 (some .int)]
def wsL_acts_r14 : List Cond := [Cond.methodLink RX2 167 yX2_reasonAgainst, Cond.instanceMethod yX2_reasonAgainst, Cond.selects RX2 yX2_reasonAgainst yX2_reasonAgainst, Cond.code yX2_reasonAgainst cX2_reasonAgainst 4 (some .int), Cond.fieldLink RX2 142 "DishPointer$Target" "from" "I", Cond.fieldLink RX2 140 "DishPointer$Target" "elevation" "I", Cond.fieldLink RX2 138 "DishPointer$Target" "azimuth" "I", Cond.fieldLink RX2 148 "DishPointer$Target" "dwell" "I", Cond.methodLink RX2 157 yX2_numberUnderWay, Cond.methodLink RX2 160 yX2_wayRise, Cond.methodLink RX2 164 yX2_wayAround, Cond.methodLink RX2 171 yX3_isBetterThan, Cond.instanceMethod yX3_isBetterThan, Cond.selects RX3 yX3_isBetterThan yX3_isBetterThan, Cond.code yX3_isBetterThan cX3_isBetterThan 2 (some .boolean), Cond.methodLink RX2 184 yX2_begin, Cond.instanceMethod yX2_begin, Cond.selects RX2 yX2_begin yX2_begin, Cond.code yX2_begin cX2_begin 4 none, Cond.fieldLink RX2 219 "DishPointer$Target" "begunAt" "I", Cond.methodLink RX2 222 yX2_followWays, Cond.methodLink RX2 187 yX2_nextEvent, Cond.instanceMethod yX2_nextEvent, Cond.selects RX2 yX2_nextEvent yX2_nextEvent]
def wsL_acts_r15 : List Cond := [Cond.code yX2_nextEvent cX2_nextEvent 6 (some .int), Cond.methodLink RX2 193 yX2_sooner, Cond.instanceMethod yX2_sooner, Cond.selects RX2 yX2_sooner yX2_sooner, Cond.code yX2_sooner cX2_sooner 3 (some .int), Cond.methodLink RL 106 yL_runs, Cond.static yL_runs, Cond.code yL_runs cL_runs 6 (some .int), Cond.methodLink RL 73 yL_minute, Cond.static yL_minute, Cond.code yL_minute cL_minute 6 (some .int), Cond.methodLink RL 63 yL_push, Cond.static yL_push, Cond.code yL_push cL_push 4 none, Cond.methodLink RL 67 yL_next, Cond.static yL_next, Cond.code yL_next cL_next 5 (some .int), Cond.methodLink RL 59 yL_why, Cond.static yL_why, Cond.code yL_why cL_why 9 (some .int), Cond.methodLink RL 109 yX6_add, Cond.instanceMethod yX6_add, Cond.selects RX6 yX6_add yX6_add, Cond.code yX6_add cX6_add 7 (some .int)]
def wsL_acts_r16 : List Cond := [Cond.methodLink RX6 142 yX6_isTargetInRange, Cond.static yX6_isTargetInRange, Cond.code yX6_isTargetInRange cX6_isTargetInRange 6 (some .boolean), Cond.methodLink RX6 147 yX2_append, Cond.instanceMethod yX2_append, Cond.selects RX2 yX2_append yX2_append, Cond.code yX2_append cX2_append 9 (some .int), Cond.fieldLink RX2 151 "DishPointer$Target" "priority" "I", Cond.methodLink RX2 135 yX2_targetsIn]
def wsL_acts : List Cond := .code yL_acts cL_acts 23 (some .boolean) :: ((wsL_acts_r1 ++ (wsL_acts_r2 ++ (wsL_acts_r3 ++ (wsL_acts_r4 ++ (wsL_acts_r5 ++ (wsL_acts_r6 ++ (wsL_acts_r7 ++ (wsL_acts_r8 ++ (wsL_acts_r9 ++ (wsL_acts_r10 ++ (wsL_acts_r11 ++ (wsL_acts_r12 ++ (wsL_acts_r13 ++ (wsL_acts_r14 ++ (wsL_acts_r15 ++ wsL_acts_r16))))))))))))))) ++ wsX60 ++ wsX10 ++ wsX20 ++ wsX00 ++ wsX30 ++ wsX50)
def wsL_isSo_r1 : List Cond := [Cond.arrayClass .int, Cond.constant RL 33 (36000), Cond.constant RL 32 (-100004), Cond.constant RL 100 (-100001), Cond.methodLink RL 51 yL_under, Cond.static yL_under, Cond.initialized RL, Cond.code yL_under cL_under 4 (some .int), Cond.methodLink RL 9 yL_dish, Cond.static yL_dish, Cond.code yL_dish cL_dish 2 (some .int), Cond.methodLink RL 113 yX6_count, Cond.instanceMethod yX6_count, Cond.selects RX6 yX6_count yX6_count, Cond.initialized RX6, Cond.code yX6_count cX6_count 2 (some .int), Cond.fieldLink RX6 10 "DishPointer" "now" "LDishPointer$State;", Cond.fieldLink RX6 22 "DishPointer" "history" "LDishPointer$History;", Cond.fieldLink RX6 87 "DishPointer$History" "size" "I", Cond.fieldLink RX6 29 "DishPointer" "text" "LDishPointer$TargetText;", Cond.fieldLink RX6 90 "DishPointer$TargetText" "length" "I", Cond.methodLink RX6 73 yX2_targetsIn, Cond.instanceMethod yX2_targetsIn, Cond.selects RX2 yX2_targetsIn yX2_targetsIn]
def wsL_isSo_r2 : List Cond := [Cond.initialized RX2, Cond.code yX2_targetsIn cX2_targetsIn 7 (some .int), Cond.fieldLink RX2 32 "DishPointer$State" "targets" "[LDishPointer$Target;", Cond.fieldLink RX2 128 "DishPointer$Target" "state" "I", Cond.methodLink RX6 77 yX2_numberUnderWay, Cond.instanceMethod yX2_numberUnderWay, Cond.selects RX2 yX2_numberUnderWay yX2_numberUnderWay, Cond.code yX2_numberUnderWay cX2_numberUnderWay 2 (some .int), Cond.methodLink RX6 81 yX6_foundTarget, Cond.static yX6_foundTarget, Cond.code yX6_foundTarget cX6_foundTarget 1 (some .int), Cond.constant RX6 116 (-100004), Cond.methodLink RX6 84 yX2_minutesUntilDone, Cond.instanceMethod yX2_minutesUntilDone, Cond.selects RX2 yX2_minutesUntilDone yX2_minutesUntilDone, Cond.code yX2_minutesUntilDone cX2_minutesUntilDone 5 (some .int), Cond.fieldLink RX2 131 "DishPointer$Target" "doneAt" "I", Cond.fieldLink RX2 50 "DishPointer$State" "time" "I", Cond.constant RX2 134 (-100004), Cond.methodLink RX6 93 yX2_tell, Cond.instanceMethod yX2_tell, Cond.selects RX2 yX2_tell yX2_tell, Cond.code yX2_tell cX2_tell 2 (some .int), Cond.fieldLink RX2 9 "DishPointer$State" "settings" "[I"]
def wsL_isSo_r3 : List Cond := [Cond.fieldLink RX2 54 "DishPointer$State" "slews" "I", Cond.fieldLink RX2 57 "DishPointer$State" "holds" "I", Cond.fieldLink RX2 23 "DishPointer$State" "azimuth" "LDishPointer$Axis;", Cond.constant RX2 86 (36000), Cond.constant RX2 93 (-100001), Cond.methodLink RX2 73 yX2_day, Cond.instanceMethod yX2_day, Cond.selects RX2 yX2_day yX2_day, Cond.code yX2_day cX2_day 1 (some .int), Cond.methodLink RX2 77 yX2_gustToday, Cond.instanceMethod yX2_gustToday, Cond.selects RX2 yX2_gustToday yX2_gustToday, Cond.code yX2_gustToday cX2_gustToday 2 (some .int), Cond.fieldLink RX2 15 "DishPointer$State" "gusts" "[I", Cond.methodLink RX2 80 yX2_kindOfDay, Cond.instanceMethod yX2_kindOfDay, Cond.selects RX2 yX2_kindOfDay yX2_kindOfDay, Cond.code yX2_kindOfDay cX2_kindOfDay 2 (some .int), Cond.methodLink RX2 83 yX0_dish, Cond.instanceMethod yX0_dish, Cond.selects RX0 yX0_dish yX0_dish, Cond.initialized RX0, Cond.code yX0_dish cX0_dish 1 (some .int), Cond.fieldLink RX0 21 "DishPointer$Axis" "motor" "I"]
def wsL_isSo_r4 : List Cond := [Cond.fieldLink RX0 33 "DishPointer$Axis" "slack" "I", Cond.methodLink RX2 87 yJ9_floorMod_7cf53, Cond.static yJ9_floorMod_7cf53, Cond.initialized RJ9, Cond.code yJ9_floorMod_7cf53 cJ9_floorMod_7cf53 3 (some .int), Cond.methodLink RL 55 yL_day, Cond.static yL_day, Cond.code yL_day cL_day 2 (some .int), Cond.methodLink RL 116 yX6_next, Cond.instanceMethod yX6_next, Cond.selects RX6 yX6_next yX6_next, Cond.code yX6_next cX6_next 1 (some .int), Cond.methodLink RX6 173 yX2_bestToBegin, Cond.instanceMethod yX2_bestToBegin, Cond.selects RX2 yX2_bestToBegin yX2_bestToBegin, Cond.code yX2_bestToBegin cX2_bestToBegin 3 (some .int), Cond.methodLink RX2 167 yX2_reasonAgainst, Cond.instanceMethod yX2_reasonAgainst, Cond.selects RX2 yX2_reasonAgainst yX2_reasonAgainst, Cond.code yX2_reasonAgainst cX2_reasonAgainst 4 (some .int), Cond.fieldLink RX2 142 "DishPointer$Target" "from" "I", Cond.fieldLink RX2 140 "DishPointer$Target" "elevation" "I", Cond.fieldLink RX2 102 "DishPointer$Way" "possible" "Z", Cond.fieldLink RX2 138 "DishPointer$Target" "azimuth" "I"]
def wsL_isSo_r5 : List Cond := [Cond.fieldLink RX2 124 "DishPointer$Way" "time" "I", Cond.methodLink RX2 125 Lib.Math.max.name, Cond.static Lib.Math.max.name, Cond.initialized "java/lang/Math", Cond.code Lib.Math.max.name Lib.Math.max.code 2 (some .int), Cond.fieldLink RX2 148 "DishPointer$Target" "dwell" "I", Cond.fieldLink RX2 145 "DishPointer$Target" "to" "I", Cond.methodLink RX2 157 yX2_numberUnderWay, Cond.methodLink RX2 160 yX2_wayRise, Cond.instanceMethod yX2_wayRise, Cond.selects RX2 yX2_wayRise yX2_wayRise, Cond.code yX2_wayRise cX2_wayRise 2 (some (.object "DishPointer$Way")), Cond.fieldLink RX2 46 "DishPointer$State" "riseWay" "LDishPointer$Way;", Cond.fieldLink RX2 27 "DishPointer$State" "elevation" "LDishPointer$Axis;", Cond.methodLink RX2 98 yX5_plan, Cond.instanceMethod yX5_plan, Cond.selects RX5 yX5_plan yX5_plan, Cond.initialized RX5, Cond.code yX5_plan cX5_plan 6 none, Cond.fieldLink RX5 15 "DishPointer$Way" "place" "I", Cond.fieldLink RX5 21 "DishPointer$Axis" "side" "I", Cond.fieldLink RX5 24 "DishPointer$Axis" "slack" "I", Cond.fieldLink RX5 27 "DishPointer$Axis" "play" "I", Cond.fieldLink RX5 30 "DishPointer$Way" "turns" "Z"]
def wsL_isSo_r6 : List Cond := [Cond.fieldLink RX5 34 "DishPointer$Way" "turn" "I", Cond.fieldLink RX5 37 "DishPointer$Way" "end" "I", Cond.fieldLink RX5 40 "DishPointer$Axis" "motor" "I", Cond.fieldLink RX5 47 "DishPointer$Way" "possible" "Z", Cond.methodLink RX5 50 Lib.Math.abs.name, Cond.static Lib.Math.abs.name, Cond.code Lib.Math.abs.name Lib.Math.abs.code 1 (some .int), Cond.fieldLink RX5 56 "DishPointer$Way" "length" "I", Cond.fieldLink RX5 59 "DishPointer$Axis" "speed" "I", Cond.fieldLink RX5 62 "DishPointer$Way" "time" "I", Cond.methodLink RX5 9 yX0_dish, Cond.methodLink RX5 43 yX0_reaches, Cond.instanceMethod yX0_reaches, Cond.selects RX0 yX0_reaches yX0_reaches, Cond.code yX0_reaches cX0_reaches 2 (some .boolean), Cond.fieldLink RX0 9 "DishPointer$Axis" "least" "I", Cond.fieldLink RX0 15 "DishPointer$Axis" "most" "I", Cond.methodLink RX2 164 yX2_wayAround, Cond.instanceMethod yX2_wayAround, Cond.selects RX2 yX2_wayAround yX2_wayAround, Cond.code yX2_wayAround cX2_wayAround 2 (some (.object "DishPointer$Way")), Cond.fieldLink RX2 39 "DishPointer$State" "lowWay" "LDishPointer$Way;", Cond.fieldLink RX2 43 "DishPointer$State" "highWay" "LDishPointer$Way;", Cond.methodLink RX2 106 yX2_isLowWayTaken]
def wsL_isSo_r7 : List Cond := [Cond.instanceMethod yX2_isLowWayTaken, Cond.selects RX2 yX2_isLowWayTaken yX2_isLowWayTaken, Cond.code yX2_isLowWayTaken cX2_isLowWayTaken 5 (some .boolean), Cond.fieldLink RX2 110 "DishPointer$Way" "place" "I", Cond.methodLink RX2 113 Lib.Math.abs.name, Cond.fieldLink RX2 117 "DishPointer$Way" "length" "I", Cond.methodLink RX2 171 yX3_isBetterThan, Cond.instanceMethod yX3_isBetterThan, Cond.selects RX3 yX3_isBetterThan yX3_isBetterThan, Cond.initialized RX3, Cond.code yX3_isBetterThan cX3_isBetterThan 2 (some .boolean), Cond.fieldLink RX3 30 "DishPointer$Target" "priority" "I", Cond.fieldLink RX3 24 "DishPointer$Target" "to" "I", Cond.methodLink RL 67 yL_next, Cond.static yL_next, Cond.code yL_next cL_next 5 (some .int), Cond.methodLink RL 59 yL_why, Cond.static yL_why, Cond.code yL_why cL_why 9 (some .int), Cond.constant RL 50 (-100000), Cond.methodLink RL 27 yL_length, Cond.static yL_length, Cond.code yL_length cL_length 7 (some .int), Cond.methodLink RL 19 yL_plan]
def wsL_isSo_r8 : List Cond := [Cond.static yL_plan, Cond.code yL_plan cL_plan 10 (some .int), Cond.methodLink RL 15 yL_within, Cond.static yL_within, Cond.code yL_within cL_within 2 (some .boolean), Cond.methodLink RL 23 yL_size, Cond.static yL_size, Cond.code yL_size cL_size 1 (some .int), Cond.methodLink RL 47 yL_pick, Cond.static yL_pick, Cond.code yL_pick cL_pick 10 (some .int), Cond.constantLong RL 30 (-1), Cond.constantLong RL 34 (100000000000000), Cond.constantLong RL 36 (100000000), Cond.constantLong RL 38 (100), Cond.methodLink RL 40 yL_time, Cond.static yL_time, Cond.code yL_time cL_time 5 (some .int), Cond.methodLink RL 119 yX6_isWound, Cond.instanceMethod yX6_isWound, Cond.selects RX6 yX6_isWound yX6_isWound, Cond.code yX6_isWound cX6_isWound 1 (some .int), Cond.fieldLink RX6 127 "DishPointer$State" "azimuth" "LDishPointer$Axis;", Cond.fieldLink RX6 131 "DishPointer$Axis" "motor" "I"]
def wsL_isSo_r9 : List Cond := [Cond.methodLink RX6 134 Lib.Math.abs.name, Cond.fieldLink RX6 139 "DishPointer$State" "settings" "[I", Cond.methodLink RL 122 yX6_axis, Cond.instanceMethod yX6_axis, Cond.selects RX6 yX6_axis yX6_axis, Cond.code yX6_axis cX6_axis 3 (some .int), Cond.constant RX6 41 (-100001), Cond.methodLink RX6 37 yX6_isBetween, Cond.static yX6_isBetween, Cond.code yX6_isBetween cX6_isBetween 3 (some .boolean), Cond.methodLink RX6 56 yX2_axisNumber, Cond.instanceMethod yX2_axisNumber, Cond.selects RX2 yX2_axisNumber yX2_axisNumber, Cond.code yX2_axisNumber cX2_axisNumber 2 (some (.object "DishPointer$Axis")), Cond.methodLink RX6 96 yX0_tell, Cond.instanceMethod yX0_tell, Cond.selects RX0 yX0_tell yX0_tell, Cond.code yX0_tell cX0_tell 2 (some .int), Cond.fieldLink RX0 24 "DishPointer$Axis" "play" "I", Cond.fieldLink RX0 30 "DishPointer$Axis" "side" "I", Cond.fieldLink RX0 27 "DishPointer$Axis" "speed" "I", Cond.fieldLink RX0 36 "DishPointer$Axis" "wentUp" "I", Cond.fieldLink RX0 39 "DishPointer$Axis" "wentDown" "I", Cond.fieldLink RX0 18 "DishPointer$Axis" "start" "I"]
def wsL_isSo_r10 : List Cond := [Cond.constant RX0 71 (-100001), Cond.methodLink RX0 67 yX0_dish, Cond.methodLink RL 125 yX6_target, Cond.instanceMethod yX6_target, Cond.selects RX6 yX6_target yX6_target, Cond.code yX6_target cX6_target 3 (some .int), Cond.fieldLink RX6 155 "DishPointer$State" "targets" "[LDishPointer$Target;", Cond.methodLink RX6 151 yX2_hasTarget, Cond.instanceMethod yX2_hasTarget, Cond.selects RX2 yX2_hasTarget yX2_hasTarget, Cond.code yX2_hasTarget cX2_hasTarget 2 (some .boolean), Cond.methodLink RX6 168 yX3_tell, Cond.instanceMethod yX3_tell, Cond.selects RX3 yX3_tell yX3_tell, Cond.code yX3_tell cX3_tell 2 (some .int), Cond.fieldLink RX3 15 "DishPointer$Target" "azimuth" "I", Cond.fieldLink RX3 18 "DishPointer$Target" "elevation" "I", Cond.fieldLink RX3 21 "DishPointer$Target" "from" "I", Cond.fieldLink RX3 27 "DishPointer$Target" "dwell" "I", Cond.fieldLink RX3 9 "DishPointer$Target" "state" "I", Cond.fieldLink RX3 33 "DishPointer$Target" "begunAt" "I", Cond.fieldLink RX3 36 "DishPointer$Target" "slewedAt" "I", Cond.fieldLink RX3 39 "DishPointer$Target" "doneAt" "I", Cond.fieldLink RX3 42 "DishPointer$Target" "error" "I"]
def wsL_isSo_r11 : List Cond := [Cond.constant RX3 59 (-100004), Cond.fieldLink RX3 45 "DishPointer$Target" "breaks" "I", Cond.fieldLink RX3 48 "DishPointer$Target" "place" "I", Cond.constant RX3 60 (-100001), Cond.methodLink RX3 55 yX3_ifBegun, Cond.instanceMethod yX3_ifBegun, Cond.selects RX3 yX3_ifBegun yX3_ifBegun, Cond.code yX3_ifBegun cX3_ifBegun 2 (some .int), Cond.methodLink RL 128 yX6_why, Cond.instanceMethod yX6_why, Cond.selects RX6 yX6_why yX6_why, Cond.code yX6_why cX6_why 2 (some .int), Cond.methodLink RX6 169 yX2_reasonAgainst]
def wsL_isSo : List Cond := .code yL_isSo cL_isSo 11 (some .boolean) :: ((wsL_isSo_r1 ++ (wsL_isSo_r2 ++ (wsL_isSo_r3 ++ (wsL_isSo_r4 ++ (wsL_isSo_r5 ++ (wsL_isSo_r6 ++ (wsL_isSo_r7 ++ (wsL_isSo_r8 ++ (wsL_isSo_r9 ++ (wsL_isSo_r10 ++ wsL_isSo_r11)))))))))) ++ wsX60 ++ wsX10 ++ wsX40 ++ wsX20 ++ wsX30 ++ wsX00 ++ wsX50)
def wsL_law_r1 : List Cond := [Cond.classLink RL 82 RX6, Cond.instantiable RX6 4, Cond.initialized RX6, Cond.arrayClass .int, Cond.constant RL 100 (-100001), Cond.methodLink RL 130 yX6_init, Cond.instanceMethod yX6_init, Cond.code yX6_init cX6_init 1 none, Cond.methodLink RX6 1 objectInit, Cond.instanceMethod objectInit, Cond.code objectInit ⟨#[0xb1]⟩ 1 none, Cond.classLink RX6 7 RX2, Cond.instantiable RX2 11, Cond.initialized RX2, Cond.fieldLink RX6 10 "DishPointer" "now" "LDishPointer$State;", Cond.fieldLink RX6 16 "DishPointer" "trial" "LDishPointer$State;", Cond.classLink RX6 19 RX1, Cond.instantiable RX1 2, Cond.initialized RX1, Cond.fieldLink RX6 22 "DishPointer" "history" "LDishPointer$History;", Cond.classLink RX6 26 RX4, Cond.instantiable RX4 6, Cond.initialized RX4, Cond.fieldLink RX6 29 "DishPointer" "text" "LDishPointer$TargetText;"]
def wsL_law_r2 : List Cond := [Cond.methodLink RX6 9 yX2_init, Cond.instanceMethod yX2_init, Cond.code yX2_init cX2_init 2 none, Cond.methodLink RX2 3 objectInit, Cond.fieldLink RX2 9 "DishPointer$State" "settings" "[I", Cond.fieldLink RX2 15 "DishPointer$State" "gusts" "[I", Cond.classLink RX2 18 RX0, Cond.instantiable RX0 10, Cond.initialized RX0, Cond.fieldLink RX2 23 "DishPointer$State" "azimuth" "LDishPointer$Axis;", Cond.fieldLink RX2 27 "DishPointer$State" "elevation" "LDishPointer$Axis;", Cond.classLink RX2 30 RX3, Cond.fieldLink RX2 32 "DishPointer$State" "targets" "[LDishPointer$Target;", Cond.classLink RX2 36 RX5, Cond.instantiable RX5 7, Cond.initialized RX5, Cond.fieldLink RX2 39 "DishPointer$State" "lowWay" "LDishPointer$Way;", Cond.fieldLink RX2 43 "DishPointer$State" "highWay" "LDishPointer$Way;", Cond.fieldLink RX2 46 "DishPointer$State" "riseWay" "LDishPointer$Way;", Cond.instantiable RX3 14, Cond.initialized RX3, Cond.methodLink RX2 20 yX0_init, Cond.instanceMethod yX0_init, Cond.code yX0_init cX0_init 6 none]
def wsL_law_r3 : List Cond := [Cond.methodLink RX0 3 objectInit, Cond.fieldLink RX0 9 "DishPointer$Axis" "least" "I", Cond.fieldLink RX0 15 "DishPointer$Axis" "most" "I", Cond.fieldLink RX0 18 "DishPointer$Axis" "start" "I", Cond.fieldLink RX0 21 "DishPointer$Axis" "motor" "I", Cond.fieldLink RX0 24 "DishPointer$Axis" "play" "I", Cond.fieldLink RX0 27 "DishPointer$Axis" "speed" "I", Cond.instanceMethod yX5_init, Cond.code yX5_init cX5_init 1 none, Cond.methodLink RX5 3 objectInit, Cond.instanceMethod yX3_init, Cond.code yX3_init cX3_init 1 none, Cond.methodLink RX3 3 objectInit, Cond.fieldLink RX3 9 "DishPointer$Target" "state" "I", Cond.methodLink RX6 21 yX1_init, Cond.instanceMethod yX1_init, Cond.code yX1_init cX1_init 2 none, Cond.methodLink RX1 3 objectInit, Cond.classLink RX1 9 RX2, Cond.fieldLink RX1 11 "DishPointer$History" "states" "[LDishPointer$State;", Cond.methodLink RX1 17 yX2_init, Cond.instanceMethod yX4_init, Cond.code yX4_init cX4_init 1 none, Cond.methodLink RX4 3 objectInit]
def wsL_law_r4 : List Cond := [Cond.arrayClass .char, Cond.fieldLink RX4 9 "DishPointer$TargetText" "signs" "[C", Cond.fieldLink RX4 15 "DishPointer$TargetText" "numbers" "[I", Cond.methodLink RL 131 yL_begins, Cond.static yL_begins, Cond.initialized RL, Cond.code yL_begins cL_begins 1 none, Cond.methodLink RL 135 yL_isSo, Cond.static yL_isSo, Cond.code yL_isSo cL_isSo 11 (some .boolean), Cond.constant RL 33 (36000), Cond.constant RL 32 (-100004), Cond.methodLink RL 51 yL_under, Cond.static yL_under, Cond.code yL_under cL_under 4 (some .int), Cond.methodLink RL 9 yL_dish, Cond.static yL_dish, Cond.code yL_dish cL_dish 2 (some .int), Cond.methodLink RL 113 yX6_count, Cond.instanceMethod yX6_count, Cond.selects RX6 yX6_count yX6_count, Cond.code yX6_count cX6_count 2 (some .int), Cond.fieldLink RX6 87 "DishPointer$History" "size" "I", Cond.fieldLink RX6 90 "DishPointer$TargetText" "length" "I"]
def wsL_law_r5 : List Cond := [Cond.methodLink RX6 73 yX2_targetsIn, Cond.instanceMethod yX2_targetsIn, Cond.selects RX2 yX2_targetsIn yX2_targetsIn, Cond.code yX2_targetsIn cX2_targetsIn 7 (some .int), Cond.fieldLink RX2 128 "DishPointer$Target" "state" "I", Cond.methodLink RX6 77 yX2_numberUnderWay, Cond.instanceMethod yX2_numberUnderWay, Cond.selects RX2 yX2_numberUnderWay yX2_numberUnderWay, Cond.code yX2_numberUnderWay cX2_numberUnderWay 2 (some .int), Cond.methodLink RX6 81 yX6_foundTarget, Cond.static yX6_foundTarget, Cond.code yX6_foundTarget cX6_foundTarget 1 (some .int), Cond.constant RX6 116 (-100004), Cond.methodLink RX6 84 yX2_minutesUntilDone, Cond.instanceMethod yX2_minutesUntilDone, Cond.selects RX2 yX2_minutesUntilDone yX2_minutesUntilDone, Cond.code yX2_minutesUntilDone cX2_minutesUntilDone 5 (some .int), Cond.fieldLink RX2 131 "DishPointer$Target" "doneAt" "I", Cond.fieldLink RX2 50 "DishPointer$State" "time" "I", Cond.constant RX2 134 (-100004), Cond.methodLink RX6 93 yX2_tell, Cond.instanceMethod yX2_tell, Cond.selects RX2 yX2_tell yX2_tell, Cond.code yX2_tell cX2_tell 2 (some .int)]
def wsL_law_r6 : List Cond := [Cond.fieldLink RX2 54 "DishPointer$State" "slews" "I", Cond.fieldLink RX2 57 "DishPointer$State" "holds" "I", Cond.constant RX2 86 (36000), Cond.constant RX2 93 (-100001), Cond.methodLink RX2 73 yX2_day, Cond.instanceMethod yX2_day, Cond.selects RX2 yX2_day yX2_day, Cond.code yX2_day cX2_day 1 (some .int), Cond.methodLink RX2 77 yX2_gustToday, Cond.instanceMethod yX2_gustToday, Cond.selects RX2 yX2_gustToday yX2_gustToday, Cond.code yX2_gustToday cX2_gustToday 2 (some .int), Cond.methodLink RX2 80 yX2_kindOfDay, Cond.instanceMethod yX2_kindOfDay, Cond.selects RX2 yX2_kindOfDay yX2_kindOfDay, Cond.code yX2_kindOfDay cX2_kindOfDay 2 (some .int), Cond.methodLink RX2 83 yX0_dish, Cond.instanceMethod yX0_dish, Cond.selects RX0 yX0_dish yX0_dish, Cond.code yX0_dish cX0_dish 1 (some .int), Cond.fieldLink RX0 33 "DishPointer$Axis" "slack" "I", Cond.methodLink RX2 87 yJ9_floorMod_7cf53, Cond.static yJ9_floorMod_7cf53, Cond.initialized RJ9]
def wsL_law_r7 : List Cond := [Cond.code yJ9_floorMod_7cf53 cJ9_floorMod_7cf53 3 (some .int), Cond.methodLink RL 55 yL_day, Cond.static yL_day, Cond.code yL_day cL_day 2 (some .int), Cond.methodLink RL 116 yX6_next, Cond.instanceMethod yX6_next, Cond.selects RX6 yX6_next yX6_next, Cond.code yX6_next cX6_next 1 (some .int), Cond.methodLink RX6 173 yX2_bestToBegin, Cond.instanceMethod yX2_bestToBegin, Cond.selects RX2 yX2_bestToBegin yX2_bestToBegin, Cond.code yX2_bestToBegin cX2_bestToBegin 3 (some .int), Cond.methodLink RX2 167 yX2_reasonAgainst, Cond.instanceMethod yX2_reasonAgainst, Cond.selects RX2 yX2_reasonAgainst yX2_reasonAgainst, Cond.code yX2_reasonAgainst cX2_reasonAgainst 4 (some .int), Cond.fieldLink RX2 142 "DishPointer$Target" "from" "I", Cond.fieldLink RX2 140 "DishPointer$Target" "elevation" "I", Cond.fieldLink RX2 102 "DishPointer$Way" "possible" "Z", Cond.fieldLink RX2 138 "DishPointer$Target" "azimuth" "I", Cond.fieldLink RX2 124 "DishPointer$Way" "time" "I", Cond.methodLink RX2 125 Lib.Math.max.name, Cond.static Lib.Math.max.name, Cond.initialized "java/lang/Math"]
def wsL_law_r8 : List Cond := [Cond.code Lib.Math.max.name Lib.Math.max.code 2 (some .int), Cond.fieldLink RX2 148 "DishPointer$Target" "dwell" "I", Cond.fieldLink RX2 145 "DishPointer$Target" "to" "I", Cond.methodLink RX2 157 yX2_numberUnderWay, Cond.methodLink RX2 160 yX2_wayRise, Cond.instanceMethod yX2_wayRise, Cond.selects RX2 yX2_wayRise yX2_wayRise, Cond.code yX2_wayRise cX2_wayRise 2 (some (.object "DishPointer$Way")), Cond.methodLink RX2 98 yX5_plan, Cond.instanceMethod yX5_plan, Cond.selects RX5 yX5_plan yX5_plan, Cond.code yX5_plan cX5_plan 6 none, Cond.fieldLink RX5 15 "DishPointer$Way" "place" "I", Cond.fieldLink RX5 21 "DishPointer$Axis" "side" "I", Cond.fieldLink RX5 24 "DishPointer$Axis" "slack" "I", Cond.fieldLink RX5 27 "DishPointer$Axis" "play" "I", Cond.fieldLink RX5 30 "DishPointer$Way" "turns" "Z", Cond.fieldLink RX5 34 "DishPointer$Way" "turn" "I", Cond.fieldLink RX5 37 "DishPointer$Way" "end" "I", Cond.fieldLink RX5 40 "DishPointer$Axis" "motor" "I", Cond.fieldLink RX5 47 "DishPointer$Way" "possible" "Z", Cond.methodLink RX5 50 Lib.Math.abs.name, Cond.static Lib.Math.abs.name, Cond.code Lib.Math.abs.name Lib.Math.abs.code 1 (some .int)]
def wsL_law_r9 : List Cond := [Cond.fieldLink RX5 56 "DishPointer$Way" "length" "I", Cond.fieldLink RX5 59 "DishPointer$Axis" "speed" "I", Cond.fieldLink RX5 62 "DishPointer$Way" "time" "I", Cond.methodLink RX5 9 yX0_dish, Cond.methodLink RX5 43 yX0_reaches, Cond.instanceMethod yX0_reaches, Cond.selects RX0 yX0_reaches yX0_reaches, Cond.code yX0_reaches cX0_reaches 2 (some .boolean), Cond.methodLink RX2 164 yX2_wayAround, Cond.instanceMethod yX2_wayAround, Cond.selects RX2 yX2_wayAround yX2_wayAround, Cond.code yX2_wayAround cX2_wayAround 2 (some (.object "DishPointer$Way")), Cond.methodLink RX2 106 yX2_isLowWayTaken, Cond.instanceMethod yX2_isLowWayTaken, Cond.selects RX2 yX2_isLowWayTaken yX2_isLowWayTaken, Cond.code yX2_isLowWayTaken cX2_isLowWayTaken 5 (some .boolean), Cond.fieldLink RX2 110 "DishPointer$Way" "place" "I", Cond.methodLink RX2 113 Lib.Math.abs.name, Cond.fieldLink RX2 117 "DishPointer$Way" "length" "I", Cond.methodLink RX2 171 yX3_isBetterThan, Cond.instanceMethod yX3_isBetterThan, Cond.selects RX3 yX3_isBetterThan yX3_isBetterThan, Cond.code yX3_isBetterThan cX3_isBetterThan 2 (some .boolean), Cond.fieldLink RX3 30 "DishPointer$Target" "priority" "I"]
def wsL_law_r10 : List Cond := [Cond.fieldLink RX3 24 "DishPointer$Target" "to" "I", Cond.methodLink RL 67 yL_next, Cond.static yL_next, Cond.code yL_next cL_next 5 (some .int), Cond.methodLink RL 59 yL_why, Cond.static yL_why, Cond.code yL_why cL_why 9 (some .int), Cond.constant RL 50 (-100000), Cond.methodLink RL 27 yL_length, Cond.static yL_length, Cond.code yL_length cL_length 7 (some .int), Cond.methodLink RL 19 yL_plan, Cond.static yL_plan, Cond.code yL_plan cL_plan 10 (some .int), Cond.methodLink RL 15 yL_within, Cond.static yL_within, Cond.code yL_within cL_within 2 (some .boolean), Cond.methodLink RL 23 yL_size, Cond.static yL_size, Cond.code yL_size cL_size 1 (some .int), Cond.methodLink RL 47 yL_pick, Cond.static yL_pick, Cond.code yL_pick cL_pick 10 (some .int), Cond.constantLong RL 30 (-1)]
def wsL_law_r11 : List Cond := [Cond.constantLong RL 34 (100000000000000), Cond.constantLong RL 36 (100000000), Cond.constantLong RL 38 (100), Cond.methodLink RL 40 yL_time, Cond.static yL_time, Cond.code yL_time cL_time 5 (some .int), Cond.methodLink RL 119 yX6_isWound, Cond.instanceMethod yX6_isWound, Cond.selects RX6 yX6_isWound yX6_isWound, Cond.code yX6_isWound cX6_isWound 1 (some .int), Cond.fieldLink RX6 127 "DishPointer$State" "azimuth" "LDishPointer$Axis;", Cond.fieldLink RX6 131 "DishPointer$Axis" "motor" "I", Cond.methodLink RX6 134 Lib.Math.abs.name, Cond.fieldLink RX6 139 "DishPointer$State" "settings" "[I", Cond.methodLink RL 122 yX6_axis, Cond.instanceMethod yX6_axis, Cond.selects RX6 yX6_axis yX6_axis, Cond.code yX6_axis cX6_axis 3 (some .int), Cond.constant RX6 41 (-100001), Cond.methodLink RX6 37 yX6_isBetween, Cond.static yX6_isBetween, Cond.code yX6_isBetween cX6_isBetween 3 (some .boolean), Cond.methodLink RX6 56 yX2_axisNumber, Cond.instanceMethod yX2_axisNumber]
def wsL_law_r12 : List Cond := [Cond.selects RX2 yX2_axisNumber yX2_axisNumber, Cond.code yX2_axisNumber cX2_axisNumber 2 (some (.object "DishPointer$Axis")), Cond.methodLink RX6 96 yX0_tell, Cond.instanceMethod yX0_tell, Cond.selects RX0 yX0_tell yX0_tell, Cond.code yX0_tell cX0_tell 2 (some .int), Cond.fieldLink RX0 30 "DishPointer$Axis" "side" "I", Cond.fieldLink RX0 36 "DishPointer$Axis" "wentUp" "I", Cond.fieldLink RX0 39 "DishPointer$Axis" "wentDown" "I", Cond.constant RX0 71 (-100001), Cond.methodLink RX0 67 yX0_dish, Cond.methodLink RL 125 yX6_target, Cond.instanceMethod yX6_target, Cond.selects RX6 yX6_target yX6_target, Cond.code yX6_target cX6_target 3 (some .int), Cond.fieldLink RX6 155 "DishPointer$State" "targets" "[LDishPointer$Target;", Cond.methodLink RX6 151 yX2_hasTarget, Cond.instanceMethod yX2_hasTarget, Cond.selects RX2 yX2_hasTarget yX2_hasTarget, Cond.code yX2_hasTarget cX2_hasTarget 2 (some .boolean), Cond.methodLink RX6 168 yX3_tell, Cond.instanceMethod yX3_tell, Cond.selects RX3 yX3_tell yX3_tell, Cond.code yX3_tell cX3_tell 2 (some .int)]
def wsL_law_r13 : List Cond := [Cond.fieldLink RX3 15 "DishPointer$Target" "azimuth" "I", Cond.fieldLink RX3 18 "DishPointer$Target" "elevation" "I", Cond.fieldLink RX3 21 "DishPointer$Target" "from" "I", Cond.fieldLink RX3 27 "DishPointer$Target" "dwell" "I", Cond.fieldLink RX3 33 "DishPointer$Target" "begunAt" "I", Cond.fieldLink RX3 36 "DishPointer$Target" "slewedAt" "I", Cond.fieldLink RX3 39 "DishPointer$Target" "doneAt" "I", Cond.fieldLink RX3 42 "DishPointer$Target" "error" "I", Cond.constant RX3 59 (-100004), Cond.fieldLink RX3 45 "DishPointer$Target" "breaks" "I", Cond.fieldLink RX3 48 "DishPointer$Target" "place" "I", Cond.constant RX3 60 (-100001), Cond.methodLink RX3 55 yX3_ifBegun, Cond.instanceMethod yX3_ifBegun, Cond.selects RX3 yX3_ifBegun yX3_ifBegun, Cond.code yX3_ifBegun cX3_ifBegun 2 (some .int), Cond.methodLink RL 128 yX6_why, Cond.instanceMethod yX6_why, Cond.selects RX6 yX6_why yX6_why, Cond.code yX6_why cX6_why 2 (some .int), Cond.methodLink RX6 169 yX2_reasonAgainst, Cond.methodLink RL 139 yL_cell, Cond.static yL_cell, Cond.code yL_cell cL_cell 2 (some .int)]
def wsL_law_r14 : List Cond := [Cond.constant RL 7 (40503), Cond.methodLink RL 77 yL_low, Cond.static yL_low, Cond.code yL_low cL_low 2 (some .int), Cond.constant RL 8 (2147483647), Cond.methodLink RL 142 yL_acts, Cond.static yL_acts, Cond.code yL_acts cL_acts 23 (some .boolean), Cond.constant RL 76 (10000000), Cond.constant RL 93 (-100002), Cond.constant RL 101 (43200), Cond.constant RL 105 (-100003), Cond.methodLink RL 81 yX6_set, Cond.instanceMethod yX6_set, Cond.selects RX6 yX6_set yX6_set, Cond.code yX6_set cX6_set 3 (some .int), Cond.fieldLink RX6 33 "DishPointer" "SETTING_MOST" "[I", Cond.methodLink RX6 42 yX1_record, Cond.instanceMethod yX1_record, Cond.selects RX1 yX1_record yX1_record, Cond.code yX1_record cX1_record 2 none, Cond.fieldLink RX1 18 "DishPointer$History" "size" "I", Cond.methodLink RX1 22 yX1_dropOldest, Cond.instanceMethod yX1_dropOldest]
def wsL_law_r15 : List Cond := [Cond.selects RX1 yX1_dropOldest yX1_dropOldest, Cond.code yX1_dropOldest cX1_dropOldest 3 none, Cond.methodLink RX1 25 yX2_copyFrom, Cond.instanceMethod yX2_copyFrom, Cond.selects RX2 yX2_copyFrom yX2_copyFrom, Cond.code yX2_copyFrom cX2_copyFrom 3 none, Cond.methodLink RX2 60 arraycopyName, Cond.native arraycopyName, Cond.static arraycopyName, Cond.initialized "java/lang/System", Cond.methodLink RX2 66 yX0_copyFrom, Cond.instanceMethod yX0_copyFrom, Cond.selects RX0 yX0_copyFrom yX0_copyFrom, Cond.code yX0_copyFrom cX0_copyFrom 2 none, Cond.methodLink RX2 70 yX3_copyFrom, Cond.instanceMethod yX3_copyFrom, Cond.selects RX3 yX3_copyFrom yX3_copyFrom, Cond.code yX3_copyFrom cX3_copyFrom 2 none, Cond.fieldLink RX3 51 "DishPointer$Target" "slewLookedAt" "Z", Cond.methodLink RX6 46 yX2_changeSetting, Cond.instanceMethod yX2_changeSetting, Cond.selects RX2 yX2_changeSetting yX2_changeSetting, Cond.code yX2_changeSetting cX2_changeSetting 4 (some .int), Cond.methodLink RL 86 yX6_setAxis]
def wsL_law_r16 : List Cond := [Cond.instanceMethod yX6_setAxis, Cond.selects RX6 yX6_setAxis yX6_setAxis, Cond.code yX6_setAxis cX6_setAxis 4 (some .int), Cond.fieldLink RX6 50 "DishPointer" "AXIS_MOST" "[I", Cond.fieldLink RX6 53 "DishPointer" "AXIS_LEAST" "[I", Cond.methodLink RX6 60 yX0_change, Cond.instanceMethod yX0_change, Cond.selects RX0 yX0_change yX0_change, Cond.code yX0_change cX0_change 4 (some .int), Cond.methodLink RX0 46 Lib.Math.min.name, Cond.static Lib.Math.min.name, Cond.code Lib.Math.min.name Lib.Math.min.code 2 (some .int), Cond.methodLink RX0 42 yX0_tell, Cond.methodLink RL 90 yX6_gust, Cond.instanceMethod yX6_gust, Cond.selects RX6 yX6_gust yX6_gust, Cond.code yX6_gust cX6_gust 3 (some .int), Cond.fieldLink RX6 65 "DishPointer$State" "time" "I", Cond.constant RX6 69 (-100002), Cond.methodLink RX6 70 yX2_changeGust, Cond.instanceMethod yX2_changeGust, Cond.selects RX2 yX2_changeGust yX2_changeGust, Cond.code yX2_changeGust cX2_changeGust 4 (some .int), Cond.methodLink RL 94 yX6_slew]
def wsL_law_r17 : List Cond := [Cond.instanceMethod yX6_slew, Cond.selects RX6 yX6_slew yX6_slew, Cond.code yX6_slew cX6_slew 5 (some .int), Cond.constant RX6 104 (35999), Cond.fieldLink RX6 109 "DishPointer$Way" "possible" "Z", Cond.methodLink RX6 117 yX2_kindOfDay, Cond.methodLink RX6 105 yX2_wayAround, Cond.methodLink RX6 120 yX2_wayRise, Cond.methodLink RX6 123 yX2_followWays, Cond.instanceMethod yX2_followWays, Cond.selects RX2 yX2_followWays yX2_followWays, Cond.code yX2_followWays cX2_followWays 3 (some .int), Cond.methodLink RX2 120 yX0_follow, Cond.instanceMethod yX0_follow, Cond.selects RX0 yX0_follow yX0_follow, Cond.code yX0_follow cX0_follow 2 none, Cond.fieldLink RX0 55 "DishPointer$Way" "turn" "I", Cond.fieldLink RX0 64 "DishPointer$Way" "end" "I", Cond.methodLink RX0 60 yX0_moveTo, Cond.instanceMethod yX0_moveTo, Cond.selects RX0 yX0_moveTo yX0_moveTo, Cond.code yX0_moveTo cX0_moveTo 3 none, Cond.methodLink RX0 52 Lib.Math.max.name, Cond.methodLink RL 70 yL_slews]
def wsL_law_r18 : List Cond := [Cond.static yL_slews, Cond.code yL_slews cL_slews 8 (some .int), Cond.methodLink RL 43 yL_goes, Cond.static yL_goes, Cond.code yL_goes cL_goes 4 none, Cond.methodLink RL 97 yX6_drop, Cond.instanceMethod yX6_drop, Cond.selects RX6 yX6_drop yX6_drop, Cond.code yX6_drop cX6_drop 2 (some .int), Cond.fieldLink RX6 159 "DishPointer$Target" "state" "I", Cond.methodLink RX6 164 yX2_remove, Cond.instanceMethod yX2_remove, Cond.selects RX2 yX2_remove yX2_remove, Cond.code yX2_remove cX2_remove 3 none, Cond.methodLink RL 102 yX6_run, Cond.instanceMethod yX6_run, Cond.selects RX6 yX6_run yX6_run, Cond.code yX6_run cX6_run 3 (some .int), Cond.constant RX6 176 (43200), Cond.constant RX6 146 (-100003), Cond.methodLink RX6 177 yX2_letPass, Cond.instanceMethod yX2_letPass, Cond.selects RX2 yX2_letPass yX2_letPass, Cond.code yX2_letPass cX2_letPass 7 none]
def wsL_law_r19 : List Cond := [Cond.methodLink RX2 175 yX2_beginHold, Cond.instanceMethod yX2_beginHold, Cond.selects RX2 yX2_beginHold yX2_beginHold, Cond.code yX2_beginHold cX2_beginHold 5 none, Cond.fieldLink RX2 154 "DishPointer$Target" "breaks" "I", Cond.methodLink RX2 196 yX0_moveTo, Cond.methodLink RX2 178 yX2_endWhatIsOver, Cond.instanceMethod yX2_endWhatIsOver, Cond.selects RX2 yX2_endWhatIsOver yX2_endWhatIsOver, Cond.code yX2_endWhatIsOver cX2_endWhatIsOver 5 none, Cond.methodLink RX2 200 yX2_goOnWith, Cond.instanceMethod yX2_goOnWith, Cond.selects RX2 yX2_goOnWith yX2_goOnWith, Cond.code yX2_goOnWith cX2_goOnWith 2 none, Cond.fieldLink RX2 206 "DishPointer$Target" "place" "I", Cond.fieldLink RX2 207 "DishPointer$Target" "error" "I", Cond.methodLink RX2 203 yX2_lookAtSlew, Cond.instanceMethod yX2_lookAtSlew, Cond.selects RX2 yX2_lookAtSlew yX2_lookAtSlew, Cond.code yX2_lookAtSlew cX2_lookAtSlew 2 none, Cond.fieldLink RX2 210 "DishPointer$Target" "slewLookedAt" "Z", Cond.fieldLink RX2 190 "DishPointer$Target" "slewedAt" "I", Cond.fieldLink RX2 213 "DishPointer$Axis" "play" "I", Cond.fieldLink RX2 216 "DishPointer$Axis" "slack" "I"]
def wsL_law_r20 : List Cond := [Cond.methodLink RX2 181 yX2_bestToBegin, Cond.methodLink RX2 184 yX2_begin, Cond.instanceMethod yX2_begin, Cond.selects RX2 yX2_begin yX2_begin, Cond.code yX2_begin cX2_begin 4 none, Cond.fieldLink RX2 219 "DishPointer$Target" "begunAt" "I", Cond.methodLink RX2 222 yX2_followWays, Cond.methodLink RX2 187 yX2_nextEvent, Cond.instanceMethod yX2_nextEvent, Cond.selects RX2 yX2_nextEvent yX2_nextEvent, Cond.code yX2_nextEvent cX2_nextEvent 6 (some .int), Cond.methodLink RX2 193 yX2_sooner, Cond.instanceMethod yX2_sooner, Cond.selects RX2 yX2_sooner yX2_sooner, Cond.code yX2_sooner cX2_sooner 3 (some .int), Cond.methodLink RL 106 yL_runs, Cond.static yL_runs, Cond.code yL_runs cL_runs 6 (some .int), Cond.methodLink RL 73 yL_minute, Cond.static yL_minute, Cond.code yL_minute cL_minute 6 (some .int), Cond.methodLink RL 63 yL_push, Cond.static yL_push, Cond.code yL_push cL_push 4 none]
def wsL_law_r21 : List Cond := [Cond.methodLink RL 109 yX6_add, Cond.instanceMethod yX6_add, Cond.selects RX6 yX6_add yX6_add, Cond.code yX6_add cX6_add 7 (some .int), Cond.methodLink RX6 142 yX6_isTargetInRange, Cond.static yX6_isTargetInRange, Cond.code yX6_isTargetInRange cX6_isTargetInRange 6 (some .boolean), Cond.methodLink RX6 147 yX2_append, Cond.instanceMethod yX2_append, Cond.selects RX2 yX2_append yX2_append, Cond.code yX2_append cX2_append 9 (some .int), Cond.fieldLink RX2 151 "DishPointer$Target" "priority" "I", Cond.methodLink RX2 135 yX2_targetsIn]
def wsL_law : List Cond := (wsL_law_r1 ++ (wsL_law_r2 ++ (wsL_law_r3 ++ (wsL_law_r4 ++ (wsL_law_r5 ++ (wsL_law_r6 ++ (wsL_law_r7 ++ (wsL_law_r8 ++ (wsL_law_r9 ++ (wsL_law_r10 ++ (wsL_law_r11 ++ (wsL_law_r12 ++ (wsL_law_r13 ++ (wsL_law_r14 ++ (wsL_law_r15 ++ (wsL_law_r16 ++ (wsL_law_r17 ++ (wsL_law_r18 ++ (wsL_law_r19 ++ (wsL_law_r20 ++ wsL_law_r21)))))))))))))))))))) ++ wsX60 ++ wsX20 ++ wsX10 ++ wsX40 ++ wsX00 ++ wsX50 ++ wsX30 ++ ([] : List Cond)
theorem inlX0 : ∀ w ∈ wsX00, w ∈ wsL_law := fun _ h => List.mem_append_left _ (List.mem_append_left _ (List.mem_append_left _ (List.mem_append_right _ h)))
theorem inlX1 : ∀ w ∈ wsX10, w ∈ wsL_law := fun _ h => List.mem_append_left _ (List.mem_append_left _ (List.mem_append_left _ (List.mem_append_left _ (List.mem_append_left _ (List.mem_append_right _ h)))))
theorem inlX2 : ∀ w ∈ wsX20, w ∈ wsL_law := fun _ h => List.mem_append_left _ (List.mem_append_left _ (List.mem_append_left _ (List.mem_append_left _ (List.mem_append_left _ (List.mem_append_left _ (List.mem_append_right _ h))))))
theorem inlX3 : ∀ w ∈ wsX30, w ∈ wsL_law := fun _ h => List.mem_append_left _ (List.mem_append_right _ h)
theorem inlX4 : ∀ w ∈ wsX40, w ∈ wsL_law := fun _ h => List.mem_append_left _ (List.mem_append_left _ (List.mem_append_left _ (List.mem_append_left _ (List.mem_append_right _ h))))
theorem inlX5 : ∀ w ∈ wsX50, w ∈ wsL_law := fun _ h => List.mem_append_left _ (List.mem_append_left _ (List.mem_append_right _ h))
theorem inlX6 : ∀ w ∈ wsX60, w ∈ wsL_law := fun _ h => List.mem_append_left _ (List.mem_append_left _ (List.mem_append_left _ (List.mem_append_left _ (List.mem_append_left _ (List.mem_append_left _ (List.mem_append_left _ (List.mem_append_right _ h)))))))
abbrev vwCl : List vw_C := [(RX0, TX0, 10), (RX1, TX1, 2), (RX2, TX2, 11), (RX3, TX3, 14), (RX4, TX4, 6), (RX5, TX5, 7), (RX6, TX6, 4)]
end
section
theorem dX0_init_0 : decode cX0_init 0 = .ok (.aload_n 0, 1) := by decide +kernel
theorem dX0_init_1 : decode cX0_init 1 = .ok (.invokespecial 3, 3) := by decide +kernel
theorem dX0_init_4 : decode cX0_init 4 = .ok (.aload_n 0, 1) := by decide +kernel
theorem dX0_init_5 : decode cX0_init 5 = .ok (.iload_n 1, 1) := by decide +kernel
theorem dX0_init_6 : decode cX0_init 6 = .ok (.putfield 9, 3) := by decide +kernel
theorem dX0_init_9 : decode cX0_init 9 = .ok (.aload_n 0, 1) := by decide +kernel
theorem dX0_init_10 : decode cX0_init 10 = .ok (.iload_n 2, 1) := by decide +kernel
theorem dX0_init_11 : decode cX0_init 11 = .ok (.putfield 15, 3) := by decide +kernel
theorem dX0_init_14 : decode cX0_init 14 = .ok (.aload_n 0, 1) := by decide +kernel
theorem dX0_init_15 : decode cX0_init 15 = .ok (.iload_n 3, 1) := by decide +kernel
theorem dX0_init_16 : decode cX0_init 16 = .ok (.putfield 18, 3) := by decide +kernel
theorem dX0_init_19 : decode cX0_init 19 = .ok (.aload_n 0, 1) := by decide +kernel
theorem dX0_init_20 : decode cX0_init 20 = .ok (.iload_n 3, 1) := by decide +kernel
theorem dX0_init_21 : decode cX0_init 21 = .ok (.putfield 21, 3) := by decide +kernel
theorem dX0_init_24 : decode cX0_init 24 = .ok (.aload_n 0, 1) := by decide +kernel
theorem dX0_init_25 : decode cX0_init 25 = .ok (.iload 4, 2) := by decide +kernel
theorem dX0_init_27 : decode cX0_init 27 = .ok (.putfield 24, 3) := by decide +kernel
theorem dX0_init_30 : decode cX0_init 30 = .ok (.aload_n 0, 1) := by decide +kernel
theorem dX0_init_31 : decode cX0_init 31 = .ok (.iload 5, 2) := by decide +kernel
theorem dX0_init_33 : decode cX0_init 33 = .ok (.putfield 27, 3) := by decide +kernel
theorem dX0_init_36 : decode cX0_init 36 = .ok (.return_, 1) := by decide +kernel
theorem dX0_copyFrom_0 : decode cX0_copyFrom 0 = .ok (.aload_n 0, 1) := by decide +kernel
theorem dX0_copyFrom_1 : decode cX0_copyFrom 1 = .ok (.aload_n 1, 1) := by decide +kernel
theorem dX0_copyFrom_2 : decode cX0_copyFrom 2 = .ok (.getfield 24, 3) := by decide +kernel
theorem dX0_copyFrom_5 : decode cX0_copyFrom 5 = .ok (.putfield 24, 3) := by decide +kernel
theorem dX0_copyFrom_8 : decode cX0_copyFrom 8 = .ok (.aload_n 0, 1) := by decide +kernel
theorem dX0_copyFrom_9 : decode cX0_copyFrom 9 = .ok (.aload_n 1, 1) := by decide +kernel
theorem dX0_copyFrom_10 : decode cX0_copyFrom 10 = .ok (.getfield 30, 3) := by decide +kernel
theorem dX0_copyFrom_13 : decode cX0_copyFrom 13 = .ok (.putfield 30, 3) := by decide +kernel
theorem dX0_copyFrom_16 : decode cX0_copyFrom 16 = .ok (.aload_n 0, 1) := by decide +kernel
theorem dX0_copyFrom_17 : decode cX0_copyFrom 17 = .ok (.aload_n 1, 1) := by decide +kernel
theorem dX0_copyFrom_18 : decode cX0_copyFrom 18 = .ok (.getfield 27, 3) := by decide +kernel
theorem dX0_copyFrom_21 : decode cX0_copyFrom 21 = .ok (.putfield 27, 3) := by decide +kernel
theorem dX0_copyFrom_24 : decode cX0_copyFrom 24 = .ok (.aload_n 0, 1) := by decide +kernel
theorem dX0_copyFrom_25 : decode cX0_copyFrom 25 = .ok (.aload_n 1, 1) := by decide +kernel
theorem dX0_copyFrom_26 : decode cX0_copyFrom 26 = .ok (.getfield 21, 3) := by decide +kernel
theorem dX0_copyFrom_29 : decode cX0_copyFrom 29 = .ok (.putfield 21, 3) := by decide +kernel
theorem dX0_copyFrom_32 : decode cX0_copyFrom 32 = .ok (.aload_n 0, 1) := by decide +kernel
theorem dX0_copyFrom_33 : decode cX0_copyFrom 33 = .ok (.aload_n 1, 1) := by decide +kernel
theorem dX0_copyFrom_34 : decode cX0_copyFrom 34 = .ok (.getfield 33, 3) := by decide +kernel
theorem dX0_copyFrom_37 : decode cX0_copyFrom 37 = .ok (.putfield 33, 3) := by decide +kernel
theorem dX0_copyFrom_40 : decode cX0_copyFrom 40 = .ok (.aload_n 0, 1) := by decide +kernel
theorem dX0_copyFrom_41 : decode cX0_copyFrom 41 = .ok (.aload_n 1, 1) := by decide +kernel
theorem dX0_copyFrom_42 : decode cX0_copyFrom 42 = .ok (.getfield 36, 3) := by decide +kernel
theorem dX0_copyFrom_45 : decode cX0_copyFrom 45 = .ok (.putfield 36, 3) := by decide +kernel
theorem dX0_copyFrom_48 : decode cX0_copyFrom 48 = .ok (.aload_n 0, 1) := by decide +kernel
theorem dX0_copyFrom_49 : decode cX0_copyFrom 49 = .ok (.aload_n 1, 1) := by decide +kernel
theorem dX0_copyFrom_50 : decode cX0_copyFrom 50 = .ok (.getfield 39, 3) := by decide +kernel
theorem dX0_copyFrom_53 : decode cX0_copyFrom 53 = .ok (.putfield 39, 3) := by decide +kernel
theorem dX0_copyFrom_56 : decode cX0_copyFrom 56 = .ok (.return_, 1) := by decide +kernel
theorem dX0_dish_0 : decode cX0_dish 0 = .ok (.aload_n 0, 1) := by decide +kernel
theorem dX0_dish_1 : decode cX0_dish 1 = .ok (.getfield 21, 3) := by decide +kernel
theorem dX0_dish_4 : decode cX0_dish 4 = .ok (.aload_n 0, 1) := by decide +kernel
theorem dX0_dish_5 : decode cX0_dish 5 = .ok (.getfield 33, 3) := by decide +kernel
theorem dX0_dish_8 : decode cX0_dish 8 = .ok (.isub, 1) := by decide +kernel
theorem dX0_dish_9 : decode cX0_dish 9 = .ok (.ireturn, 1) := by decide +kernel
theorem dX0_reaches_0 : decode cX0_reaches 0 = .ok (.iload_n 1, 1) := by decide +kernel
theorem dX0_reaches_1 : decode cX0_reaches 1 = .ok (.aload_n 0, 1) := by decide +kernel
theorem dX0_reaches_2 : decode cX0_reaches 2 = .ok (.getfield 9, 3) := by decide +kernel
theorem dX0_reaches_5 : decode cX0_reaches 5 = .ok (.if_icmp .lt 15, 3) := by decide +kernel
theorem dX0_reaches_8 : decode cX0_reaches 8 = .ok (.iload_n 1, 1) := by decide +kernel
theorem dX0_reaches_9 : decode cX0_reaches 9 = .ok (.aload_n 0, 1) := by decide +kernel
theorem dX0_reaches_10 : decode cX0_reaches 10 = .ok (.getfield 15, 3) := by decide +kernel
theorem dX0_reaches_13 : decode cX0_reaches 13 = .ok (.if_icmp .gt 7, 3) := by decide +kernel
theorem dX0_reaches_16 : decode cX0_reaches 16 = .ok (.iconst 1, 1) := by decide +kernel
theorem dX0_reaches_17 : decode cX0_reaches 17 = .ok (.goto 4, 3) := by decide +kernel
theorem dX0_reaches_20 : decode cX0_reaches 20 = .ok (.iconst 0, 1) := by decide +kernel
theorem dX0_reaches_21 : decode cX0_reaches 21 = .ok (.ireturn, 1) := by decide +kernel
set_option maxRecDepth 20000 in
theorem ggX0_change_X0_tell : GoodIn wsX0_change wsX0_tell := goodIn_r _ [13, 1, 7, 8, 14, 2, 15, 16, 17, 18, 19, 20, 21, 12, 22, 23, 24, 25, 26, 27, 28, 29, 30, 31, 32] (by decide +kernel) (by decide +kernel)
set_option maxRecDepth 20000 in
theorem gX0_change_X0_tell : GoodIn wsX0_change (wsV RX0 42 RX0 yX0_tell wsX0_tell) := goodIn_app (goodIn_of _ (by decide +kernel)) ggX0_change_X0_tell
theorem dX0_change_0 : decode cX0_change 0 = .ok (.aload_n 0, 1) := by decide +kernel
theorem dX0_change_1 : decode cX0_change 1 = .ok (.iload_n 1, 1) := by decide +kernel
theorem dX0_change_2 : decode cX0_change 2 = .ok (.invokevirtual 42, 3) := by decide +kernel
theorem dX0_change_5 : decode cX0_change 5 = .ok (.istore_n 3, 1) := by decide +kernel
theorem dX0_change_6 : decode cX0_change 6 = .ok (.iload_n 1, 1) := by decide +kernel
theorem dX0_change_7 : decode cX0_change 7 = .ok (.tableswitch 64 0 2 #[25, 48, 56], 25) := by decide +kernel
theorem dX0_change_32 : decode cX0_change 32 = .ok (.aload_n 0, 1) := by decide +kernel
theorem dX0_change_33 : decode cX0_change 33 = .ok (.iload_n 2, 1) := by decide +kernel
theorem dX0_change_34 : decode cX0_change 34 = .ok (.putfield 24, 3) := by decide +kernel
theorem dX0_change_37 : decode cX0_change 37 = .ok (.aload_n 0, 1) := by decide +kernel
theorem dX0_change_38 : decode cX0_change 38 = .ok (.aload_n 0, 1) := by decide +kernel
theorem dX0_change_39 : decode cX0_change 39 = .ok (.getfield 33, 3) := by decide +kernel
theorem dX0_change_42 : decode cX0_change 42 = .ok (.aload_n 0, 1) := by decide +kernel
theorem dX0_change_43 : decode cX0_change 43 = .ok (.getfield 24, 3) := by decide +kernel
theorem dX0_change_46 : decode cX0_change 46 = .ok (.invokestatic 46, 3) := by decide +kernel
theorem dX0_change_49 : decode cX0_change 49 = .ok (.putfield 33, 3) := by decide +kernel
theorem dX0_change_52 : decode cX0_change 52 = .ok (.goto 19, 3) := by decide +kernel
theorem dX0_change_55 : decode cX0_change 55 = .ok (.aload_n 0, 1) := by decide +kernel
theorem dX0_change_56 : decode cX0_change 56 = .ok (.iload_n 2, 1) := by decide +kernel
theorem dX0_change_57 : decode cX0_change 57 = .ok (.putfield 30, 3) := by decide +kernel
theorem dX0_change_60 : decode cX0_change 60 = .ok (.goto 11, 3) := by decide +kernel
theorem dX0_change_63 : decode cX0_change 63 = .ok (.aload_n 0, 1) := by decide +kernel
theorem dX0_change_64 : decode cX0_change 64 = .ok (.iload_n 2, 1) := by decide +kernel
theorem dX0_change_65 : decode cX0_change 65 = .ok (.putfield 27, 3) := by decide +kernel
theorem dX0_change_68 : decode cX0_change 68 = .ok (.goto 3, 3) := by decide +kernel
theorem dX0_change_71 : decode cX0_change 71 = .ok (.iload_n 3, 1) := by decide +kernel
theorem dX0_change_72 : decode cX0_change 72 = .ok (.ireturn, 1) := by decide +kernel
theorem dX0_moveTo_0 : decode cX0_moveTo 0 = .ok (.iload_n 1, 1) := by decide +kernel
theorem dX0_moveTo_1 : decode cX0_moveTo 1 = .ok (.aload_n 0, 1) := by decide +kernel
theorem dX0_moveTo_2 : decode cX0_moveTo 2 = .ok (.getfield 21, 3) := by decide +kernel
theorem dX0_moveTo_5 : decode cX0_moveTo 5 = .ok (.isub, 1) := by decide +kernel
theorem dX0_moveTo_6 : decode cX0_moveTo 6 = .ok (.istore_n 2, 1) := by decide +kernel
theorem dX0_moveTo_7 : decode cX0_moveTo 7 = .ok (.aload_n 0, 1) := by decide +kernel
theorem dX0_moveTo_8 : decode cX0_moveTo 8 = .ok (.iload_n 1, 1) := by decide +kernel
theorem dX0_moveTo_9 : decode cX0_moveTo 9 = .ok (.putfield 21, 3) := by decide +kernel
theorem dX0_moveTo_12 : decode cX0_moveTo 12 = .ok (.iload_n 2, 1) := by decide +kernel
theorem dX0_moveTo_13 : decode cX0_moveTo 13 = .ok (.ifCond .lt 33, 3) := by decide +kernel
theorem dX0_moveTo_16 : decode cX0_moveTo 16 = .ok (.aload_n 0, 1) := by decide +kernel
theorem dX0_moveTo_17 : decode cX0_moveTo 17 = .ok (.dup, 1) := by decide +kernel
theorem dX0_moveTo_18 : decode cX0_moveTo 18 = .ok (.getfield 36, 3) := by decide +kernel
theorem dX0_moveTo_21 : decode cX0_moveTo 21 = .ok (.iload_n 2, 1) := by decide +kernel
theorem dX0_moveTo_22 : decode cX0_moveTo 22 = .ok (.iadd, 1) := by decide +kernel
theorem dX0_moveTo_23 : decode cX0_moveTo 23 = .ok (.putfield 36, 3) := by decide +kernel
theorem dX0_moveTo_26 : decode cX0_moveTo 26 = .ok (.aload_n 0, 1) := by decide +kernel
theorem dX0_moveTo_27 : decode cX0_moveTo 27 = .ok (.aload_n 0, 1) := by decide +kernel
theorem dX0_moveTo_28 : decode cX0_moveTo 28 = .ok (.getfield 33, 3) := by decide +kernel
theorem dX0_moveTo_31 : decode cX0_moveTo 31 = .ok (.iload_n 2, 1) := by decide +kernel
theorem dX0_moveTo_32 : decode cX0_moveTo 32 = .ok (.iadd, 1) := by decide +kernel
theorem dX0_moveTo_33 : decode cX0_moveTo 33 = .ok (.aload_n 0, 1) := by decide +kernel
theorem dX0_moveTo_34 : decode cX0_moveTo 34 = .ok (.getfield 24, 3) := by decide +kernel
theorem dX0_moveTo_37 : decode cX0_moveTo 37 = .ok (.invokestatic 46, 3) := by decide +kernel
theorem dX0_moveTo_40 : decode cX0_moveTo 40 = .ok (.putfield 33, 3) := by decide +kernel
theorem dX0_moveTo_43 : decode cX0_moveTo 43 = .ok (.goto 27, 3) := by decide +kernel
theorem dX0_moveTo_46 : decode cX0_moveTo 46 = .ok (.aload_n 0, 1) := by decide +kernel
theorem dX0_moveTo_47 : decode cX0_moveTo 47 = .ok (.dup, 1) := by decide +kernel
theorem dX0_moveTo_48 : decode cX0_moveTo 48 = .ok (.getfield 39, 3) := by decide +kernel
theorem dX0_moveTo_51 : decode cX0_moveTo 51 = .ok (.iload_n 2, 1) := by decide +kernel
theorem dX0_moveTo_52 : decode cX0_moveTo 52 = .ok (.isub, 1) := by decide +kernel
theorem dX0_moveTo_53 : decode cX0_moveTo 53 = .ok (.putfield 39, 3) := by decide +kernel
theorem dX0_moveTo_56 : decode cX0_moveTo 56 = .ok (.aload_n 0, 1) := by decide +kernel
theorem dX0_moveTo_57 : decode cX0_moveTo 57 = .ok (.aload_n 0, 1) := by decide +kernel
theorem dX0_moveTo_58 : decode cX0_moveTo 58 = .ok (.getfield 33, 3) := by decide +kernel
theorem dX0_moveTo_61 : decode cX0_moveTo 61 = .ok (.iload_n 2, 1) := by decide +kernel
theorem dX0_moveTo_62 : decode cX0_moveTo 62 = .ok (.iadd, 1) := by decide +kernel
theorem dX0_moveTo_63 : decode cX0_moveTo 63 = .ok (.iconst 0, 1) := by decide +kernel
theorem dX0_moveTo_64 : decode cX0_moveTo 64 = .ok (.invokestatic 52, 3) := by decide +kernel
theorem dX0_moveTo_67 : decode cX0_moveTo 67 = .ok (.putfield 33, 3) := by decide +kernel
theorem dX0_moveTo_70 : decode cX0_moveTo 70 = .ok (.return_, 1) := by decide +kernel
set_option maxRecDepth 20000 in
theorem ggX0_follow_X0_moveTo : GoodIn wsX0_follow wsX0_moveTo := goodIn_r _ [7, 8, 9, 10, 11, 12, 13, 14, 15, 16, 17, 18, 19, 27, 28, 29, 30, 31, 32, 33, 34, 35, 36] (by decide +kernel) (by decide +kernel)
set_option maxRecDepth 20000 in
theorem gX0_follow_X0_moveTo : GoodIn wsX0_follow (wsV RX0 60 RX0 yX0_moveTo wsX0_moveTo) := goodIn_app (goodIn_of _ (by decide +kernel)) ggX0_follow_X0_moveTo
theorem dX0_follow_0 : decode cX0_follow 0 = .ok (.aload_n 0, 1) := by decide +kernel
theorem dX0_follow_1 : decode cX0_follow 1 = .ok (.aload_n 1, 1) := by decide +kernel
theorem dX0_follow_2 : decode cX0_follow 2 = .ok (.getfield 55, 3) := by decide +kernel
theorem dX0_follow_5 : decode cX0_follow 5 = .ok (.invokevirtual 60, 3) := by decide +kernel
theorem dX0_follow_8 : decode cX0_follow 8 = .ok (.aload_n 0, 1) := by decide +kernel
theorem dX0_follow_9 : decode cX0_follow 9 = .ok (.aload_n 1, 1) := by decide +kernel
theorem dX0_follow_10 : decode cX0_follow 10 = .ok (.getfield 64, 3) := by decide +kernel
theorem dX0_follow_13 : decode cX0_follow 13 = .ok (.invokevirtual 60, 3) := by decide +kernel
theorem dX0_follow_16 : decode cX0_follow 16 = .ok (.return_, 1) := by decide +kernel
set_option maxRecDepth 20000 in
theorem ggX0_tell_X0_dish : GoodIn wsX0_tell wsX0_dish := goodIn_r _ [14, 4, 5, 15, 16, 17, 18, 19, 20, 21, 22, 23, 24] (by decide +kernel) (by decide +kernel)
set_option maxRecDepth 20000 in
theorem gX0_tell_X0_dish : GoodIn wsX0_tell (wsV RX0 67 RX0 yX0_dish wsX0_dish) := goodIn_app (goodIn_of _ (by decide +kernel)) ggX0_tell_X0_dish
theorem dX0_tell_0 : decode cX0_tell 0 = .ok (.iload_n 1, 1) := by decide +kernel
theorem dX0_tell_1 : decode cX0_tell 1 = .ok (.tableswitch 106 0 8 #[51, 56, 61, 66, 71, 76, 81, 86, 91], 51) := by decide +kernel
theorem dX0_tell_52 : decode cX0_tell 52 = .ok (.aload_n 0, 1) := by decide +kernel
theorem dX0_tell_53 : decode cX0_tell 53 = .ok (.getfield 24, 3) := by decide +kernel
theorem dX0_tell_56 : decode cX0_tell 56 = .ok (.ireturn, 1) := by decide +kernel
theorem dX0_tell_57 : decode cX0_tell 57 = .ok (.aload_n 0, 1) := by decide +kernel
theorem dX0_tell_58 : decode cX0_tell 58 = .ok (.getfield 30, 3) := by decide +kernel
theorem dX0_tell_61 : decode cX0_tell 61 = .ok (.ireturn, 1) := by decide +kernel
theorem dX0_tell_62 : decode cX0_tell 62 = .ok (.aload_n 0, 1) := by decide +kernel
theorem dX0_tell_63 : decode cX0_tell 63 = .ok (.getfield 27, 3) := by decide +kernel
theorem dX0_tell_66 : decode cX0_tell 66 = .ok (.ireturn, 1) := by decide +kernel
theorem dX0_tell_67 : decode cX0_tell 67 = .ok (.aload_n 0, 1) := by decide +kernel
theorem dX0_tell_68 : decode cX0_tell 68 = .ok (.getfield 21, 3) := by decide +kernel
theorem dX0_tell_71 : decode cX0_tell 71 = .ok (.ireturn, 1) := by decide +kernel
theorem dX0_tell_72 : decode cX0_tell 72 = .ok (.aload_n 0, 1) := by decide +kernel
theorem dX0_tell_73 : decode cX0_tell 73 = .ok (.getfield 33, 3) := by decide +kernel
theorem dX0_tell_76 : decode cX0_tell 76 = .ok (.ireturn, 1) := by decide +kernel
theorem dX0_tell_77 : decode cX0_tell 77 = .ok (.aload_n 0, 1) := by decide +kernel
theorem dX0_tell_78 : decode cX0_tell 78 = .ok (.invokevirtual 67, 3) := by decide +kernel
theorem dX0_tell_81 : decode cX0_tell 81 = .ok (.ireturn, 1) := by decide +kernel
theorem dX0_tell_82 : decode cX0_tell 82 = .ok (.aload_n 0, 1) := by decide +kernel
theorem dX0_tell_83 : decode cX0_tell 83 = .ok (.getfield 36, 3) := by decide +kernel
theorem dX0_tell_86 : decode cX0_tell 86 = .ok (.ireturn, 1) := by decide +kernel
theorem dX0_tell_87 : decode cX0_tell 87 = .ok (.aload_n 0, 1) := by decide +kernel
theorem dX0_tell_88 : decode cX0_tell 88 = .ok (.getfield 39, 3) := by decide +kernel
theorem dX0_tell_91 : decode cX0_tell 91 = .ok (.ireturn, 1) := by decide +kernel
theorem dX0_tell_92 : decode cX0_tell 92 = .ok (.aload_n 0, 1) := by decide +kernel
theorem dX0_tell_93 : decode cX0_tell 93 = .ok (.getfield 18, 3) := by decide +kernel
theorem dX0_tell_96 : decode cX0_tell 96 = .ok (.aload_n 0, 1) := by decide +kernel
theorem dX0_tell_97 : decode cX0_tell 97 = .ok (.getfield 36, 3) := by decide +kernel
theorem dX0_tell_100 : decode cX0_tell 100 = .ok (.iadd, 1) := by decide +kernel
theorem dX0_tell_101 : decode cX0_tell 101 = .ok (.aload_n 0, 1) := by decide +kernel
theorem dX0_tell_102 : decode cX0_tell 102 = .ok (.getfield 39, 3) := by decide +kernel
theorem dX0_tell_105 : decode cX0_tell 105 = .ok (.isub, 1) := by decide +kernel
theorem dX0_tell_106 : decode cX0_tell 106 = .ok (.ireturn, 1) := by decide +kernel
theorem dX0_tell_107 : decode cX0_tell 107 = .ok (.ldc 71, 2) := by decide +kernel
theorem dX0_tell_109 : decode cX0_tell 109 = .ok (.ireturn, 1) := by decide +kernel
set_option maxRecDepth 20000 in
theorem ggX1_init_X2_init : GoodIn wsX1_init wsX2_init := goodIn_r _ [10, 11, 2, 3, 12, 13, 14, 15, 16, 17, 18, 19, 20, 21, 22, 23, 24, 25, 26, 27, 28, 29, 30, 31, 32, 33, 34, 35, 36, 37, 38, 39, 40, 41, 42, 43, 44, 45, 46, 49, 50, 51, 52, 53, 54, 55, 56, 57, 58, 59, 60, 61, 62, 63, 64, 65, 66, 67, 68, 69, 70, 71, 72, 73, 74, 75, 76, 77, 78, 79, 80, 81, 82, 83, 84, 85, 86, 87, 88, 89, 90] (by decide +kernel) (by decide +kernel)
set_option maxRecDepth 20000 in
theorem gX1_init_X2_init : GoodIn wsX1_init (wsX2_init) := ggX1_init_X2_init
theorem dX1_init_0 : decode cX1_init 0 = .ok (.aload_n 0, 1) := by decide +kernel
theorem dX1_init_1 : decode cX1_init 1 = .ok (.invokespecial 3, 3) := by decide +kernel
theorem dX1_init_4 : decode cX1_init 4 = .ok (.aload_n 0, 1) := by decide +kernel
theorem dX1_init_5 : decode cX1_init 5 = .ok (.iconst 5, 1) := by decide +kernel
theorem dX1_init_6 : decode cX1_init 6 = .ok (.anewarray 9, 3) := by decide +kernel
theorem dX1_init_9 : decode cX1_init 9 = .ok (.putfield 11, 3) := by decide +kernel
theorem dX1_init_12 : decode cX1_init 12 = .ok (.iconst 0, 1) := by decide +kernel
theorem dX1_init_13 : decode cX1_init 13 = .ok (.istore_n 1, 1) := by decide +kernel
theorem dX1_init_14 : decode cX1_init 14 = .ok (.iload_n 1, 1) := by decide +kernel
theorem dX1_init_15 : decode cX1_init 15 = .ok (.aload_n 0, 1) := by decide +kernel
theorem dX1_init_16 : decode cX1_init 16 = .ok (.getfield 11, 3) := by decide +kernel
theorem dX1_init_19 : decode cX1_init 19 = .ok (.arraylength, 1) := by decide +kernel
theorem dX1_init_20 : decode cX1_init 20 = .ok (.if_icmp .ge 22, 3) := by decide +kernel
theorem dX1_init_23 : decode cX1_init 23 = .ok (.aload_n 0, 1) := by decide +kernel
theorem dX1_init_24 : decode cX1_init 24 = .ok (.getfield 11, 3) := by decide +kernel
theorem dX1_init_27 : decode cX1_init 27 = .ok (.iload_n 1, 1) := by decide +kernel
theorem dX1_init_28 : decode cX1_init 28 = .ok (.new 9, 3) := by decide +kernel
theorem dX1_init_31 : decode cX1_init 31 = .ok (.dup, 1) := by decide +kernel
theorem dX1_init_32 : decode cX1_init 32 = .ok (.invokespecial 17, 3) := by decide +kernel
theorem dX1_init_35 : decode cX1_init 35 = .ok (.aastore, 1) := by decide +kernel
theorem dX1_init_36 : decode cX1_init 36 = .ok (.iinc 1 1, 3) := by decide +kernel
theorem dX1_init_39 : decode cX1_init 39 = .ok (.goto (-25), 3) := by decide +kernel
theorem dX1_init_42 : decode cX1_init 42 = .ok (.return_, 1) := by decide +kernel
set_option maxRecDepth 20000 in
theorem ggX1_record_X1_dropOldest : GoodIn wsX1_record wsX1_dropOldest := goodIn_r _ [7, 2, 1, 56, 57] (by decide +kernel) (by decide +kernel)
set_option maxRecDepth 20000 in
theorem gX1_record_X1_dropOldest : GoodIn wsX1_record (wsV RX1 22 RX1 yX1_dropOldest wsX1_dropOldest) := goodIn_app (goodIn_of _ (by decide +kernel)) ggX1_record_X1_dropOldest
set_option maxRecDepth 20000 in
theorem ggX1_record_X2_copyFrom : GoodIn wsX1_record wsX2_copyFrom := goodIn_r _ [12, 13, 14, 15, 16, 17, 18, 19, 20, 21, 22, 23, 24, 25, 26, 27, 28, 29, 30, 31, 32, 33, 34, 35, 36, 37, 38, 39, 40, 41, 42, 43, 44, 45, 46, 47, 48, 49, 50, 51, 52, 53, 54, 55, 58, 59, 60, 61, 62, 63, 64, 65, 66, 67, 68, 69, 70, 71, 72, 73, 74, 75, 76, 77, 78, 79, 80, 81, 82, 83, 84, 85, 86, 87, 88, 89, 90, 91, 92] (by decide +kernel) (by decide +kernel)
set_option maxRecDepth 20000 in
theorem gX1_record_X2_copyFrom : GoodIn wsX1_record (wsV RX1 25 RX2 yX2_copyFrom wsX2_copyFrom) := goodIn_app (goodIn_of _ (by decide +kernel)) ggX1_record_X2_copyFrom
theorem dX1_record_0 : decode cX1_record 0 = .ok (.aload_n 0, 1) := by decide +kernel
theorem dX1_record_1 : decode cX1_record 1 = .ok (.getfield 18, 3) := by decide +kernel
theorem dX1_record_4 : decode cX1_record 4 = .ok (.aload_n 0, 1) := by decide +kernel
theorem dX1_record_5 : decode cX1_record 5 = .ok (.getfield 11, 3) := by decide +kernel
theorem dX1_record_8 : decode cX1_record 8 = .ok (.arraylength, 1) := by decide +kernel
theorem dX1_record_9 : decode cX1_record 9 = .ok (.if_icmp .lt 7, 3) := by decide +kernel
theorem dX1_record_12 : decode cX1_record 12 = .ok (.aload_n 0, 1) := by decide +kernel
theorem dX1_record_13 : decode cX1_record 13 = .ok (.invokevirtual 22, 3) := by decide +kernel
theorem dX1_record_16 : decode cX1_record 16 = .ok (.aload_n 0, 1) := by decide +kernel
theorem dX1_record_17 : decode cX1_record 17 = .ok (.getfield 11, 3) := by decide +kernel
theorem dX1_record_20 : decode cX1_record 20 = .ok (.aload_n 0, 1) := by decide +kernel
theorem dX1_record_21 : decode cX1_record 21 = .ok (.getfield 18, 3) := by decide +kernel
theorem dX1_record_24 : decode cX1_record 24 = .ok (.aaload, 1) := by decide +kernel
theorem dX1_record_25 : decode cX1_record 25 = .ok (.aload_n 1, 1) := by decide +kernel
theorem dX1_record_26 : decode cX1_record 26 = .ok (.invokevirtual 25, 3) := by decide +kernel
theorem dX1_record_29 : decode cX1_record 29 = .ok (.aload_n 0, 1) := by decide +kernel
theorem dX1_record_30 : decode cX1_record 30 = .ok (.dup, 1) := by decide +kernel
theorem dX1_record_31 : decode cX1_record 31 = .ok (.getfield 18, 3) := by decide +kernel
theorem dX1_record_34 : decode cX1_record 34 = .ok (.iconst 1, 1) := by decide +kernel
theorem dX1_record_35 : decode cX1_record 35 = .ok (.iadd, 1) := by decide +kernel
theorem dX1_record_36 : decode cX1_record 36 = .ok (.putfield 18, 3) := by decide +kernel
theorem dX1_record_39 : decode cX1_record 39 = .ok (.return_, 1) := by decide +kernel
theorem dX1_dropOldest_0 : decode cX1_dropOldest 0 = .ok (.aload_n 0, 1) := by decide +kernel
theorem dX1_dropOldest_1 : decode cX1_dropOldest 1 = .ok (.getfield 11, 3) := by decide +kernel
theorem dX1_dropOldest_4 : decode cX1_dropOldest 4 = .ok (.iconst 0, 1) := by decide +kernel
theorem dX1_dropOldest_5 : decode cX1_dropOldest 5 = .ok (.aaload, 1) := by decide +kernel
theorem dX1_dropOldest_6 : decode cX1_dropOldest 6 = .ok (.astore_n 1, 1) := by decide +kernel
theorem dX1_dropOldest_7 : decode cX1_dropOldest 7 = .ok (.iconst 0, 1) := by decide +kernel
theorem dX1_dropOldest_8 : decode cX1_dropOldest 8 = .ok (.istore_n 2, 1) := by decide +kernel
theorem dX1_dropOldest_9 : decode cX1_dropOldest 9 = .ok (.iload_n 2, 1) := by decide +kernel
theorem dX1_dropOldest_10 : decode cX1_dropOldest 10 = .ok (.aload_n 0, 1) := by decide +kernel
theorem dX1_dropOldest_11 : decode cX1_dropOldest 11 = .ok (.getfield 11, 3) := by decide +kernel
theorem dX1_dropOldest_14 : decode cX1_dropOldest 14 = .ok (.arraylength, 1) := by decide +kernel
theorem dX1_dropOldest_15 : decode cX1_dropOldest 15 = .ok (.iconst 1, 1) := by decide +kernel
theorem dX1_dropOldest_16 : decode cX1_dropOldest 16 = .ok (.isub, 1) := by decide +kernel
theorem dX1_dropOldest_17 : decode cX1_dropOldest 17 = .ok (.if_icmp .ge 23, 3) := by decide +kernel
theorem dX1_dropOldest_20 : decode cX1_dropOldest 20 = .ok (.aload_n 0, 1) := by decide +kernel
theorem dX1_dropOldest_21 : decode cX1_dropOldest 21 = .ok (.getfield 11, 3) := by decide +kernel
theorem dX1_dropOldest_24 : decode cX1_dropOldest 24 = .ok (.iload_n 2, 1) := by decide +kernel
theorem dX1_dropOldest_25 : decode cX1_dropOldest 25 = .ok (.aload_n 0, 1) := by decide +kernel
theorem dX1_dropOldest_26 : decode cX1_dropOldest 26 = .ok (.getfield 11, 3) := by decide +kernel
theorem dX1_dropOldest_29 : decode cX1_dropOldest 29 = .ok (.iload_n 2, 1) := by decide +kernel
theorem dX1_dropOldest_30 : decode cX1_dropOldest 30 = .ok (.iconst 1, 1) := by decide +kernel
theorem dX1_dropOldest_31 : decode cX1_dropOldest 31 = .ok (.iadd, 1) := by decide +kernel
theorem dX1_dropOldest_32 : decode cX1_dropOldest 32 = .ok (.aaload, 1) := by decide +kernel
theorem dX1_dropOldest_33 : decode cX1_dropOldest 33 = .ok (.aastore, 1) := by decide +kernel
theorem dX1_dropOldest_34 : decode cX1_dropOldest 34 = .ok (.iinc 2 1, 3) := by decide +kernel
theorem dX1_dropOldest_37 : decode cX1_dropOldest 37 = .ok (.goto (-28), 3) := by decide +kernel
theorem dX1_dropOldest_40 : decode cX1_dropOldest 40 = .ok (.aload_n 0, 1) := by decide +kernel
theorem dX1_dropOldest_41 : decode cX1_dropOldest 41 = .ok (.getfield 11, 3) := by decide +kernel
theorem dX1_dropOldest_44 : decode cX1_dropOldest 44 = .ok (.aload_n 0, 1) := by decide +kernel
theorem dX1_dropOldest_45 : decode cX1_dropOldest 45 = .ok (.getfield 11, 3) := by decide +kernel
theorem dX1_dropOldest_48 : decode cX1_dropOldest 48 = .ok (.arraylength, 1) := by decide +kernel
theorem dX1_dropOldest_49 : decode cX1_dropOldest 49 = .ok (.iconst 1, 1) := by decide +kernel
theorem dX1_dropOldest_50 : decode cX1_dropOldest 50 = .ok (.isub, 1) := by decide +kernel
theorem dX1_dropOldest_51 : decode cX1_dropOldest 51 = .ok (.aload_n 1, 1) := by decide +kernel
theorem dX1_dropOldest_52 : decode cX1_dropOldest 52 = .ok (.aastore, 1) := by decide +kernel
theorem dX1_dropOldest_53 : decode cX1_dropOldest 53 = .ok (.aload_n 0, 1) := by decide +kernel
theorem dX1_dropOldest_54 : decode cX1_dropOldest 54 = .ok (.aload_n 0, 1) := by decide +kernel
theorem dX1_dropOldest_55 : decode cX1_dropOldest 55 = .ok (.getfield 11, 3) := by decide +kernel
theorem dX1_dropOldest_58 : decode cX1_dropOldest 58 = .ok (.arraylength, 1) := by decide +kernel
theorem dX1_dropOldest_59 : decode cX1_dropOldest 59 = .ok (.iconst 1, 1) := by decide +kernel
theorem dX1_dropOldest_60 : decode cX1_dropOldest 60 = .ok (.isub, 1) := by decide +kernel
theorem dX1_dropOldest_61 : decode cX1_dropOldest 61 = .ok (.putfield 18, 3) := by decide +kernel
theorem dX1_dropOldest_64 : decode cX1_dropOldest 64 = .ok (.return_, 1) := by decide +kernel
set_option maxRecDepth 20000 in
theorem ggX2_init_X0_init : GoodIn wsX2_init wsX0_init := goodIn_r _ [24, 25, 2, 3, 26, 27, 28, 29, 30, 31, 50, 51, 52, 53, 54, 55, 56, 57, 58, 59] (by decide +kernel) (by decide +kernel)
set_option maxRecDepth 20000 in
theorem gX2_init_X0_init : GoodIn wsX2_init (wsX0_init) := ggX2_init_X0_init
set_option maxRecDepth 20000 in
theorem ggX2_init_X5_init : GoodIn wsX2_init wsX5_init := goodIn_r _ [33, 34, 2, 3] (by decide +kernel) (by decide +kernel)
set_option maxRecDepth 20000 in
theorem gX2_init_X5_init_n38 : GoodIn wsX2_init (wsX5_init) := ggX2_init_X5_init
set_option maxRecDepth 20000 in
theorem ggX2_init_X3_init : GoodIn wsX2_init wsX3_init := goodIn_r _ [36, 37, 2, 3, 38, 67, 68, 69, 70, 71, 72, 73, 74, 75, 76, 77, 78, 79, 80] (by decide +kernel) (by decide +kernel)
set_option maxRecDepth 20000 in
theorem gX2_init_X3_init_n49 : GoodIn wsX2_init (wsX3_init) := ggX2_init_X3_init
theorem dX2_init_0 : decode cX2_init 0 = .ok (.aload_n 0, 1) := by decide +kernel
theorem dX2_init_1 : decode cX2_init 1 = .ok (.invokespecial 3, 3) := by decide +kernel
theorem dX2_init_4 : decode cX2_init 4 = .ok (.aload_n 0, 1) := by decide +kernel
theorem dX2_init_5 : decode cX2_init 5 = .ok (.iconst 4, 1) := by decide +kernel
theorem dX2_init_6 : decode cX2_init 6 = .ok (.newarray .int, 2) := by decide +kernel
theorem dX2_init_8 : decode cX2_init 8 = .ok (.dup, 1) := by decide +kernel
theorem dX2_init_9 : decode cX2_init 9 = .ok (.iconst 0, 1) := by decide +kernel
theorem dX2_init_10 : decode cX2_init 10 = .ok (.bipush 100, 2) := by decide +kernel
theorem dX2_init_12 : decode cX2_init 12 = .ok (.iastore, 1) := by decide +kernel
theorem dX2_init_13 : decode cX2_init 13 = .ok (.dup, 1) := by decide +kernel
theorem dX2_init_14 : decode cX2_init 14 = .ok (.iconst 1, 1) := by decide +kernel
theorem dX2_init_15 : decode cX2_init 15 = .ok (.sipush 18000, 3) := by decide +kernel
theorem dX2_init_18 : decode cX2_init 18 = .ok (.iastore, 1) := by decide +kernel
theorem dX2_init_19 : decode cX2_init 19 = .ok (.dup, 1) := by decide +kernel
theorem dX2_init_20 : decode cX2_init 20 = .ok (.iconst 2, 1) := by decide +kernel
theorem dX2_init_21 : decode cX2_init 21 = .ok (.bipush 30, 2) := by decide +kernel
theorem dX2_init_23 : decode cX2_init 23 = .ok (.iastore, 1) := by decide +kernel
theorem dX2_init_24 : decode cX2_init 24 = .ok (.dup, 1) := by decide +kernel
theorem dX2_init_25 : decode cX2_init 25 = .ok (.iconst 3, 1) := by decide +kernel
theorem dX2_init_26 : decode cX2_init 26 = .ok (.bipush 60, 2) := by decide +kernel
theorem dX2_init_28 : decode cX2_init 28 = .ok (.iastore, 1) := by decide +kernel
theorem dX2_init_29 : decode cX2_init 29 = .ok (.putfield 9, 3) := by decide +kernel
theorem dX2_init_32 : decode cX2_init 32 = .ok (.aload_n 0, 1) := by decide +kernel
theorem dX2_init_33 : decode cX2_init 33 = .ok (.bipush 31, 2) := by decide +kernel
theorem dX2_init_35 : decode cX2_init 35 = .ok (.newarray .int, 2) := by decide +kernel
theorem dX2_init_37 : decode cX2_init 37 = .ok (.putfield 15, 3) := by decide +kernel
theorem dX2_init_40 : decode cX2_init 40 = .ok (.aload_n 0, 1) := by decide +kernel
theorem dX2_init_41 : decode cX2_init 41 = .ok (.new 18, 3) := by decide +kernel
theorem dX2_init_44 : decode cX2_init 44 = .ok (.dup, 1) := by decide +kernel
theorem dX2_init_45 : decode cX2_init 45 = .ok (.sipush (-27000), 3) := by decide +kernel
theorem dX2_init_48 : decode cX2_init 48 = .ok (.sipush 27000, 3) := by decide +kernel
theorem dX2_init_51 : decode cX2_init 51 = .ok (.iconst 0, 1) := by decide +kernel
theorem dX2_init_52 : decode cX2_init 52 = .ok (.bipush 40, 2) := by decide +kernel
theorem dX2_init_54 : decode cX2_init 54 = .ok (.sipush 600, 3) := by decide +kernel
theorem dX2_init_57 : decode cX2_init 57 = .ok (.invokespecial 20, 3) := by decide +kernel
theorem dX2_init_60 : decode cX2_init 60 = .ok (.putfield 23, 3) := by decide +kernel
theorem dX2_init_63 : decode cX2_init 63 = .ok (.aload_n 0, 1) := by decide +kernel
theorem dX2_init_64 : decode cX2_init 64 = .ok (.new 18, 3) := by decide +kernel
theorem dX2_init_67 : decode cX2_init 67 = .ok (.dup, 1) := by decide +kernel
theorem dX2_init_68 : decode cX2_init 68 = .ok (.sipush 500, 3) := by decide +kernel
theorem dX2_init_71 : decode cX2_init 71 = .ok (.sipush 9000, 3) := by decide +kernel
theorem dX2_init_74 : decode cX2_init 74 = .ok (.sipush 9000, 3) := by decide +kernel
theorem dX2_init_77 : decode cX2_init 77 = .ok (.bipush 20, 2) := by decide +kernel
theorem dX2_init_79 : decode cX2_init 79 = .ok (.sipush 300, 3) := by decide +kernel
theorem dX2_init_82 : decode cX2_init 82 = .ok (.invokespecial 20, 3) := by decide +kernel
theorem dX2_init_85 : decode cX2_init 85 = .ok (.putfield 27, 3) := by decide +kernel
theorem dX2_init_88 : decode cX2_init 88 = .ok (.aload_n 0, 1) := by decide +kernel
theorem dX2_init_89 : decode cX2_init 89 = .ok (.bipush 10, 2) := by decide +kernel
theorem dX2_init_91 : decode cX2_init 91 = .ok (.anewarray 30, 3) := by decide +kernel
theorem dX2_init_94 : decode cX2_init 94 = .ok (.putfield 32, 3) := by decide +kernel
theorem dX2_init_97 : decode cX2_init 97 = .ok (.aload_n 0, 1) := by decide +kernel
theorem dX2_init_98 : decode cX2_init 98 = .ok (.new 36, 3) := by decide +kernel
theorem dX2_init_101 : decode cX2_init 101 = .ok (.dup, 1) := by decide +kernel
theorem dX2_init_102 : decode cX2_init 102 = .ok (.invokespecial 38, 3) := by decide +kernel
theorem dX2_init_105 : decode cX2_init 105 = .ok (.putfield 39, 3) := by decide +kernel
theorem dX2_init_108 : decode cX2_init 108 = .ok (.aload_n 0, 1) := by decide +kernel
theorem dX2_init_109 : decode cX2_init 109 = .ok (.new 36, 3) := by decide +kernel
theorem dX2_init_112 : decode cX2_init 112 = .ok (.dup, 1) := by decide +kernel
theorem dX2_init_113 : decode cX2_init 113 = .ok (.invokespecial 38, 3) := by decide +kernel
theorem dX2_init_116 : decode cX2_init 116 = .ok (.putfield 43, 3) := by decide +kernel
theorem dX2_init_119 : decode cX2_init 119 = .ok (.aload_n 0, 1) := by decide +kernel
theorem dX2_init_120 : decode cX2_init 120 = .ok (.new 36, 3) := by decide +kernel
theorem dX2_init_123 : decode cX2_init 123 = .ok (.dup, 1) := by decide +kernel
theorem dX2_init_124 : decode cX2_init 124 = .ok (.invokespecial 38, 3) := by decide +kernel
theorem dX2_init_127 : decode cX2_init 127 = .ok (.putfield 46, 3) := by decide +kernel
theorem dX2_init_130 : decode cX2_init 130 = .ok (.iconst 0, 1) := by decide +kernel
theorem dX2_init_131 : decode cX2_init 131 = .ok (.istore_n 1, 1) := by decide +kernel
theorem dX2_init_132 : decode cX2_init 132 = .ok (.iload_n 1, 1) := by decide +kernel
theorem dX2_init_133 : decode cX2_init 133 = .ok (.aload_n 0, 1) := by decide +kernel
theorem dX2_init_134 : decode cX2_init 134 = .ok (.getfield 32, 3) := by decide +kernel
theorem dX2_init_137 : decode cX2_init 137 = .ok (.arraylength, 1) := by decide +kernel
theorem dX2_init_138 : decode cX2_init 138 = .ok (.if_icmp .ge 22, 3) := by decide +kernel
theorem dX2_init_141 : decode cX2_init 141 = .ok (.aload_n 0, 1) := by decide +kernel
theorem dX2_init_142 : decode cX2_init 142 = .ok (.getfield 32, 3) := by decide +kernel
theorem dX2_init_145 : decode cX2_init 145 = .ok (.iload_n 1, 1) := by decide +kernel
theorem dX2_init_146 : decode cX2_init 146 = .ok (.new 30, 3) := by decide +kernel
theorem dX2_init_149 : decode cX2_init 149 = .ok (.dup, 1) := by decide +kernel
theorem dX2_init_150 : decode cX2_init 150 = .ok (.invokespecial 49, 3) := by decide +kernel
theorem dX2_init_153 : decode cX2_init 153 = .ok (.aastore, 1) := by decide +kernel
theorem dX2_init_154 : decode cX2_init 154 = .ok (.iinc 1 1, 3) := by decide +kernel
theorem dX2_init_157 : decode cX2_init 157 = .ok (.goto (-25), 3) := by decide +kernel
theorem dX2_init_160 : decode cX2_init 160 = .ok (.return_, 1) := by decide +kernel
set_option maxRecDepth 20000 in
theorem ggX2_copyFrom_X0_copyFrom : GoodIn wsX2_copyFrom wsX0_copyFrom := goodIn_r _ [17, 18, 19, 20, 21, 22, 23, 24, 55, 56, 57, 58, 59, 60, 61, 62, 63, 64] (by decide +kernel) (by decide +kernel)
set_option maxRecDepth 20000 in
theorem gX2_copyFrom_X0_copyFrom : GoodIn wsX2_copyFrom (wsV RX2 66 RX0 yX0_copyFrom wsX0_copyFrom) := goodIn_app (goodIn_of _ (by decide +kernel)) ggX2_copyFrom_X0_copyFrom
set_option maxRecDepth 20000 in
theorem ggX2_copyFrom_X3_copyFrom : GoodIn wsX2_copyFrom wsX3_copyFrom := goodIn_r _ [29, 30, 31, 32, 33, 34, 35, 36, 37, 38, 39, 40, 41, 42, 43, 65, 66, 67, 68, 69, 70, 71, 72, 73, 74, 75, 76, 77, 78] (by decide +kernel) (by decide +kernel)
set_option maxRecDepth 20000 in
theorem gX2_copyFrom_X3_copyFrom : GoodIn wsX2_copyFrom (wsV RX2 70 RX3 yX3_copyFrom wsX3_copyFrom) := goodIn_app (goodIn_of _ (by decide +kernel)) ggX2_copyFrom_X3_copyFrom
theorem dX2_copyFrom_0 : decode cX2_copyFrom 0 = .ok (.aload_n 0, 1) := by decide +kernel
theorem dX2_copyFrom_1 : decode cX2_copyFrom 1 = .ok (.aload_n 1, 1) := by decide +kernel
theorem dX2_copyFrom_2 : decode cX2_copyFrom 2 = .ok (.getfield 50, 3) := by decide +kernel
theorem dX2_copyFrom_5 : decode cX2_copyFrom 5 = .ok (.putfield 50, 3) := by decide +kernel
theorem dX2_copyFrom_8 : decode cX2_copyFrom 8 = .ok (.aload_n 0, 1) := by decide +kernel
theorem dX2_copyFrom_9 : decode cX2_copyFrom 9 = .ok (.aload_n 1, 1) := by decide +kernel
theorem dX2_copyFrom_10 : decode cX2_copyFrom 10 = .ok (.getfield 54, 3) := by decide +kernel
theorem dX2_copyFrom_13 : decode cX2_copyFrom 13 = .ok (.putfield 54, 3) := by decide +kernel
theorem dX2_copyFrom_16 : decode cX2_copyFrom 16 = .ok (.aload_n 0, 1) := by decide +kernel
theorem dX2_copyFrom_17 : decode cX2_copyFrom 17 = .ok (.aload_n 1, 1) := by decide +kernel
theorem dX2_copyFrom_18 : decode cX2_copyFrom 18 = .ok (.getfield 57, 3) := by decide +kernel
theorem dX2_copyFrom_21 : decode cX2_copyFrom 21 = .ok (.putfield 57, 3) := by decide +kernel
theorem dX2_copyFrom_24 : decode cX2_copyFrom 24 = .ok (.aload_n 1, 1) := by decide +kernel
theorem dX2_copyFrom_25 : decode cX2_copyFrom 25 = .ok (.getfield 9, 3) := by decide +kernel
theorem dX2_copyFrom_28 : decode cX2_copyFrom 28 = .ok (.iconst 0, 1) := by decide +kernel
theorem dX2_copyFrom_29 : decode cX2_copyFrom 29 = .ok (.aload_n 0, 1) := by decide +kernel
theorem dX2_copyFrom_30 : decode cX2_copyFrom 30 = .ok (.getfield 9, 3) := by decide +kernel
theorem dX2_copyFrom_33 : decode cX2_copyFrom 33 = .ok (.iconst 0, 1) := by decide +kernel
theorem dX2_copyFrom_34 : decode cX2_copyFrom 34 = .ok (.aload_n 0, 1) := by decide +kernel
theorem dX2_copyFrom_35 : decode cX2_copyFrom 35 = .ok (.getfield 9, 3) := by decide +kernel
theorem dX2_copyFrom_38 : decode cX2_copyFrom 38 = .ok (.arraylength, 1) := by decide +kernel
theorem dX2_copyFrom_39 : decode cX2_copyFrom 39 = .ok (.invokestatic 60, 3) := by decide +kernel
theorem dX2_copyFrom_42 : decode cX2_copyFrom 42 = .ok (.aload_n 1, 1) := by decide +kernel
theorem dX2_copyFrom_43 : decode cX2_copyFrom 43 = .ok (.getfield 15, 3) := by decide +kernel
theorem dX2_copyFrom_46 : decode cX2_copyFrom 46 = .ok (.iconst 0, 1) := by decide +kernel
theorem dX2_copyFrom_47 : decode cX2_copyFrom 47 = .ok (.aload_n 0, 1) := by decide +kernel
theorem dX2_copyFrom_48 : decode cX2_copyFrom 48 = .ok (.getfield 15, 3) := by decide +kernel
theorem dX2_copyFrom_51 : decode cX2_copyFrom 51 = .ok (.iconst 0, 1) := by decide +kernel
theorem dX2_copyFrom_52 : decode cX2_copyFrom 52 = .ok (.aload_n 0, 1) := by decide +kernel
theorem dX2_copyFrom_53 : decode cX2_copyFrom 53 = .ok (.getfield 15, 3) := by decide +kernel
theorem dX2_copyFrom_56 : decode cX2_copyFrom 56 = .ok (.arraylength, 1) := by decide +kernel
theorem dX2_copyFrom_57 : decode cX2_copyFrom 57 = .ok (.invokestatic 60, 3) := by decide +kernel
theorem dX2_copyFrom_60 : decode cX2_copyFrom 60 = .ok (.aload_n 0, 1) := by decide +kernel
theorem dX2_copyFrom_61 : decode cX2_copyFrom 61 = .ok (.getfield 23, 3) := by decide +kernel
theorem dX2_copyFrom_64 : decode cX2_copyFrom 64 = .ok (.aload_n 1, 1) := by decide +kernel
theorem dX2_copyFrom_65 : decode cX2_copyFrom 65 = .ok (.getfield 23, 3) := by decide +kernel
theorem dX2_copyFrom_68 : decode cX2_copyFrom 68 = .ok (.invokevirtual 66, 3) := by decide +kernel
theorem dX2_copyFrom_71 : decode cX2_copyFrom 71 = .ok (.aload_n 0, 1) := by decide +kernel
theorem dX2_copyFrom_72 : decode cX2_copyFrom 72 = .ok (.getfield 27, 3) := by decide +kernel
theorem dX2_copyFrom_75 : decode cX2_copyFrom 75 = .ok (.aload_n 1, 1) := by decide +kernel
theorem dX2_copyFrom_76 : decode cX2_copyFrom 76 = .ok (.getfield 27, 3) := by decide +kernel
theorem dX2_copyFrom_79 : decode cX2_copyFrom 79 = .ok (.invokevirtual 66, 3) := by decide +kernel
theorem dX2_copyFrom_82 : decode cX2_copyFrom 82 = .ok (.iconst 0, 1) := by decide +kernel
theorem dX2_copyFrom_83 : decode cX2_copyFrom 83 = .ok (.istore_n 2, 1) := by decide +kernel
theorem dX2_copyFrom_84 : decode cX2_copyFrom 84 = .ok (.iload_n 2, 1) := by decide +kernel
theorem dX2_copyFrom_85 : decode cX2_copyFrom 85 = .ok (.aload_n 0, 1) := by decide +kernel
theorem dX2_copyFrom_86 : decode cX2_copyFrom 86 = .ok (.getfield 32, 3) := by decide +kernel
theorem dX2_copyFrom_89 : decode cX2_copyFrom 89 = .ok (.arraylength, 1) := by decide +kernel
theorem dX2_copyFrom_90 : decode cX2_copyFrom 90 = .ok (.if_icmp .ge 24, 3) := by decide +kernel
theorem dX2_copyFrom_93 : decode cX2_copyFrom 93 = .ok (.aload_n 0, 1) := by decide +kernel
theorem dX2_copyFrom_94 : decode cX2_copyFrom 94 = .ok (.getfield 32, 3) := by decide +kernel
theorem dX2_copyFrom_97 : decode cX2_copyFrom 97 = .ok (.iload_n 2, 1) := by decide +kernel
theorem dX2_copyFrom_98 : decode cX2_copyFrom 98 = .ok (.aaload, 1) := by decide +kernel
theorem dX2_copyFrom_99 : decode cX2_copyFrom 99 = .ok (.aload_n 1, 1) := by decide +kernel
theorem dX2_copyFrom_100 : decode cX2_copyFrom 100 = .ok (.getfield 32, 3) := by decide +kernel
theorem dX2_copyFrom_103 : decode cX2_copyFrom 103 = .ok (.iload_n 2, 1) := by decide +kernel
theorem dX2_copyFrom_104 : decode cX2_copyFrom 104 = .ok (.aaload, 1) := by decide +kernel
theorem dX2_copyFrom_105 : decode cX2_copyFrom 105 = .ok (.invokevirtual 70, 3) := by decide +kernel
theorem dX2_copyFrom_108 : decode cX2_copyFrom 108 = .ok (.iinc 2 1, 3) := by decide +kernel
theorem dX2_copyFrom_111 : decode cX2_copyFrom 111 = .ok (.goto (-27), 3) := by decide +kernel
theorem dX2_copyFrom_114 : decode cX2_copyFrom 114 = .ok (.return_, 1) := by decide +kernel
theorem dX2_changeSetting_0 : decode cX2_changeSetting 0 = .ok (.aload_n 0, 1) := by decide +kernel
theorem dX2_changeSetting_1 : decode cX2_changeSetting 1 = .ok (.getfield 9, 3) := by decide +kernel
theorem dX2_changeSetting_4 : decode cX2_changeSetting 4 = .ok (.iload_n 1, 1) := by decide +kernel
theorem dX2_changeSetting_5 : decode cX2_changeSetting 5 = .ok (.iaload, 1) := by decide +kernel
theorem dX2_changeSetting_6 : decode cX2_changeSetting 6 = .ok (.istore_n 3, 1) := by decide +kernel
theorem dX2_changeSetting_7 : decode cX2_changeSetting 7 = .ok (.aload_n 0, 1) := by decide +kernel
theorem dX2_changeSetting_8 : decode cX2_changeSetting 8 = .ok (.getfield 9, 3) := by decide +kernel
theorem dX2_changeSetting_11 : decode cX2_changeSetting 11 = .ok (.iload_n 1, 1) := by decide +kernel
theorem dX2_changeSetting_12 : decode cX2_changeSetting 12 = .ok (.iload_n 2, 1) := by decide +kernel
theorem dX2_changeSetting_13 : decode cX2_changeSetting 13 = .ok (.iastore, 1) := by decide +kernel
theorem dX2_changeSetting_14 : decode cX2_changeSetting 14 = .ok (.iload_n 3, 1) := by decide +kernel
theorem dX2_changeSetting_15 : decode cX2_changeSetting 15 = .ok (.ireturn, 1) := by decide +kernel
theorem dX2_changeGust_0 : decode cX2_changeGust 0 = .ok (.aload_n 0, 1) := by decide +kernel
theorem dX2_changeGust_1 : decode cX2_changeGust 1 = .ok (.getfield 15, 3) := by decide +kernel
theorem dX2_changeGust_4 : decode cX2_changeGust 4 = .ok (.iload_n 1, 1) := by decide +kernel
theorem dX2_changeGust_5 : decode cX2_changeGust 5 = .ok (.iaload, 1) := by decide +kernel
theorem dX2_changeGust_6 : decode cX2_changeGust 6 = .ok (.istore_n 3, 1) := by decide +kernel
theorem dX2_changeGust_7 : decode cX2_changeGust 7 = .ok (.aload_n 0, 1) := by decide +kernel
theorem dX2_changeGust_8 : decode cX2_changeGust 8 = .ok (.getfield 15, 3) := by decide +kernel
theorem dX2_changeGust_11 : decode cX2_changeGust 11 = .ok (.iload_n 1, 1) := by decide +kernel
theorem dX2_changeGust_12 : decode cX2_changeGust 12 = .ok (.iload_n 2, 1) := by decide +kernel
theorem dX2_changeGust_13 : decode cX2_changeGust 13 = .ok (.iastore, 1) := by decide +kernel
theorem dX2_changeGust_14 : decode cX2_changeGust 14 = .ok (.iload_n 3, 1) := by decide +kernel
theorem dX2_changeGust_15 : decode cX2_changeGust 15 = .ok (.ireturn, 1) := by decide +kernel
theorem dX2_axisNumber_0 : decode cX2_axisNumber 0 = .ok (.iload_n 1, 1) := by decide +kernel
theorem dX2_axisNumber_1 : decode cX2_axisNumber 1 = .ok (.ifCond .ne 10, 3) := by decide +kernel
theorem dX2_axisNumber_4 : decode cX2_axisNumber 4 = .ok (.aload_n 0, 1) := by decide +kernel
theorem dX2_axisNumber_5 : decode cX2_axisNumber 5 = .ok (.getfield 23, 3) := by decide +kernel
theorem dX2_axisNumber_8 : decode cX2_axisNumber 8 = .ok (.goto 7, 3) := by decide +kernel
theorem dX2_axisNumber_11 : decode cX2_axisNumber 11 = .ok (.aload_n 0, 1) := by decide +kernel
theorem dX2_axisNumber_12 : decode cX2_axisNumber 12 = .ok (.getfield 27, 3) := by decide +kernel
theorem dX2_axisNumber_15 : decode cX2_axisNumber 15 = .ok (.areturn, 1) := by decide +kernel
theorem dX2_day_0 : decode cX2_day 0 = .ok (.aload_n 0, 1) := by decide +kernel
theorem dX2_day_1 : decode cX2_day 1 = .ok (.getfield 50, 3) := by decide +kernel
theorem dX2_day_4 : decode cX2_day 4 = .ok (.sipush 1440, 3) := by decide +kernel
theorem dX2_day_7 : decode cX2_day 7 = .ok (.idiv, 1) := by decide +kernel
theorem dX2_day_8 : decode cX2_day 8 = .ok (.ireturn, 1) := by decide +kernel
set_option maxRecDepth 20000 in
theorem ggX2_gustToday_X2_day : GoodIn wsX2_gustToday wsX2_day := goodIn_r _ [6, 7, 8, 9, 10, 11, 12, 13, 14, 15, 16, 17, 18] (by decide +kernel) (by decide +kernel)
set_option maxRecDepth 20000 in
theorem gX2_gustToday_X2_day : GoodIn wsX2_gustToday (wsV RX2 73 RX2 yX2_day wsX2_day) := goodIn_app (goodIn_of _ (by decide +kernel)) ggX2_gustToday_X2_day
theorem dX2_gustToday_0 : decode cX2_gustToday 0 = .ok (.aload_n 0, 1) := by decide +kernel
theorem dX2_gustToday_1 : decode cX2_gustToday 1 = .ok (.invokevirtual 73, 3) := by decide +kernel
theorem dX2_gustToday_4 : decode cX2_gustToday 4 = .ok (.istore_n 1, 1) := by decide +kernel
theorem dX2_gustToday_5 : decode cX2_gustToday 5 = .ok (.iload_n 1, 1) := by decide +kernel
theorem dX2_gustToday_6 : decode cX2_gustToday 6 = .ok (.ifCond .lt 21, 3) := by decide +kernel
theorem dX2_gustToday_9 : decode cX2_gustToday 9 = .ok (.iload_n 1, 1) := by decide +kernel
theorem dX2_gustToday_10 : decode cX2_gustToday 10 = .ok (.aload_n 0, 1) := by decide +kernel
theorem dX2_gustToday_11 : decode cX2_gustToday 11 = .ok (.getfield 15, 3) := by decide +kernel
theorem dX2_gustToday_14 : decode cX2_gustToday 14 = .ok (.arraylength, 1) := by decide +kernel
theorem dX2_gustToday_15 : decode cX2_gustToday 15 = .ok (.if_icmp .ge 12, 3) := by decide +kernel
theorem dX2_gustToday_18 : decode cX2_gustToday 18 = .ok (.aload_n 0, 1) := by decide +kernel
theorem dX2_gustToday_19 : decode cX2_gustToday 19 = .ok (.getfield 15, 3) := by decide +kernel
theorem dX2_gustToday_22 : decode cX2_gustToday 22 = .ok (.iload_n 1, 1) := by decide +kernel
theorem dX2_gustToday_23 : decode cX2_gustToday 23 = .ok (.iaload, 1) := by decide +kernel
theorem dX2_gustToday_24 : decode cX2_gustToday 24 = .ok (.goto 4, 3) := by decide +kernel
theorem dX2_gustToday_27 : decode cX2_gustToday 27 = .ok (.iconst 0, 1) := by decide +kernel
theorem dX2_gustToday_28 : decode cX2_gustToday 28 = .ok (.ireturn, 1) := by decide +kernel
set_option maxRecDepth 20000 in
theorem ggX2_kindOfDay_X2_gustToday : GoodIn wsX2_kindOfDay wsX2_gustToday := goodIn_r _ [6, 7, 8, 9, 10, 5, 11, 12, 13, 14, 15, 16, 17, 18, 19, 20, 21, 22, 23] (by decide +kernel) (by decide +kernel)
set_option maxRecDepth 20000 in
theorem gX2_kindOfDay_X2_gustToday : GoodIn wsX2_kindOfDay (wsV RX2 77 RX2 yX2_gustToday wsX2_gustToday) := goodIn_app (goodIn_of _ (by decide +kernel)) ggX2_kindOfDay_X2_gustToday
theorem dX2_kindOfDay_0 : decode cX2_kindOfDay 0 = .ok (.aload_n 0, 1) := by decide +kernel
theorem dX2_kindOfDay_1 : decode cX2_kindOfDay 1 = .ok (.invokevirtual 77, 3) := by decide +kernel
theorem dX2_kindOfDay_4 : decode cX2_kindOfDay 4 = .ok (.istore_n 1, 1) := by decide +kernel
theorem dX2_kindOfDay_5 : decode cX2_kindOfDay 5 = .ok (.iload_n 1, 1) := by decide +kernel
theorem dX2_kindOfDay_6 : decode cX2_kindOfDay 6 = .ok (.aload_n 0, 1) := by decide +kernel
theorem dX2_kindOfDay_7 : decode cX2_kindOfDay 7 = .ok (.getfield 9, 3) := by decide +kernel
theorem dX2_kindOfDay_10 : decode cX2_kindOfDay 10 = .ok (.iconst 3, 1) := by decide +kernel
theorem dX2_kindOfDay_11 : decode cX2_kindOfDay 11 = .ok (.iaload, 1) := by decide +kernel
theorem dX2_kindOfDay_12 : decode cX2_kindOfDay 12 = .ok (.if_icmp .lt 5, 3) := by decide +kernel
theorem dX2_kindOfDay_15 : decode cX2_kindOfDay 15 = .ok (.iconst 0, 1) := by decide +kernel
theorem dX2_kindOfDay_16 : decode cX2_kindOfDay 16 = .ok (.ireturn, 1) := by decide +kernel
theorem dX2_kindOfDay_17 : decode cX2_kindOfDay 17 = .ok (.iload_n 1, 1) := by decide +kernel
theorem dX2_kindOfDay_18 : decode cX2_kindOfDay 18 = .ok (.aload_n 0, 1) := by decide +kernel
theorem dX2_kindOfDay_19 : decode cX2_kindOfDay 19 = .ok (.getfield 9, 3) := by decide +kernel
theorem dX2_kindOfDay_22 : decode cX2_kindOfDay 22 = .ok (.iconst 2, 1) := by decide +kernel
theorem dX2_kindOfDay_23 : decode cX2_kindOfDay 23 = .ok (.iaload, 1) := by decide +kernel
theorem dX2_kindOfDay_24 : decode cX2_kindOfDay 24 = .ok (.if_icmp .lt 7, 3) := by decide +kernel
theorem dX2_kindOfDay_27 : decode cX2_kindOfDay 27 = .ok (.iconst 1, 1) := by decide +kernel
theorem dX2_kindOfDay_28 : decode cX2_kindOfDay 28 = .ok (.goto 4, 3) := by decide +kernel
theorem dX2_kindOfDay_31 : decode cX2_kindOfDay 31 = .ok (.iconst 2, 1) := by decide +kernel
theorem dX2_kindOfDay_32 : decode cX2_kindOfDay 32 = .ok (.ireturn, 1) := by decide +kernel
set_option maxRecDepth 20000 in
theorem ggX2_tell_X2_day : GoodIn wsX2_tell wsX2_day := goodIn_r _ [12, 1, 33, 34, 35, 36, 37, 38, 39, 40, 41, 42, 43] (by decide +kernel) (by decide +kernel)
set_option maxRecDepth 20000 in
theorem gX2_tell_X2_day : GoodIn wsX2_tell (wsV RX2 73 RX2 yX2_day wsX2_day) := goodIn_app (goodIn_of _ (by decide +kernel)) ggX2_tell_X2_day
set_option maxRecDepth 20000 in
theorem ggX2_tell_X2_gustToday : GoodIn wsX2_tell wsX2_gustToday := goodIn_r _ [16, 17, 8, 9, 10, 11, 12, 1, 33, 34, 35, 36, 37, 38, 39, 40, 41, 42, 43] (by decide +kernel) (by decide +kernel)
set_option maxRecDepth 20000 in
theorem gX2_tell_X2_gustToday : GoodIn wsX2_tell (wsV RX2 77 RX2 yX2_gustToday wsX2_gustToday) := goodIn_app (goodIn_of _ (by decide +kernel)) ggX2_tell_X2_gustToday
set_option maxRecDepth 20000 in
theorem ggX2_tell_X2_kindOfDay : GoodIn wsX2_tell wsX2_kindOfDay := goodIn_r _ [21, 2, 13, 14, 15, 11, 16, 17, 8, 9, 10, 12, 1, 33, 34, 35, 36, 37, 38, 39, 40, 41, 42, 43] (by decide +kernel) (by decide +kernel)
set_option maxRecDepth 20000 in
theorem gX2_tell_X2_kindOfDay : GoodIn wsX2_tell (wsV RX2 80 RX2 yX2_kindOfDay wsX2_kindOfDay) := goodIn_app (goodIn_of _ (by decide +kernel)) ggX2_tell_X2_kindOfDay
set_option maxRecDepth 20000 in
theorem ggX2_tell_X0_dish : GoodIn wsX2_tell wsX0_dish := goodIn_r _ [26, 27, 28, 44, 45, 46, 47, 48, 49, 50, 51, 52, 53] (by decide +kernel) (by decide +kernel)
set_option maxRecDepth 20000 in
theorem gX2_tell_X0_dish : GoodIn wsX2_tell (wsV RX2 83 RX0 yX0_dish wsX0_dish) := goodIn_app (goodIn_of _ (by decide +kernel)) ggX2_tell_X0_dish
set_option maxRecDepth 20000 in
theorem ggX2_tell_J9_floorMod_7cf53 : GoodIn wsX2_tell wsJ9_floorMod_7cf53 := goodIn_r _ [32] (by decide +kernel) (by decide +kernel)
set_option maxRecDepth 20000 in
theorem gX2_tell_J9_floorMod_7cf53 : GoodIn wsX2_tell (va_wsS RX2 87 yJ9_floorMod_7cf53 wsJ9_floorMod_7cf53) := goodIn_app (goodIn_of _ (by decide +kernel)) ggX2_tell_J9_floorMod_7cf53
theorem dX2_tell_0 : decode cX2_tell 0 = .ok (.iload_n 1, 1) := by decide +kernel
theorem dX2_tell_1 : decode cX2_tell 1 = .ok (.tableswitch 162 0 18 #[91, 96, 101, 106, 162, 162, 162, 162, 162, 162, 162, 162, 111, 118, 125, 132, 139, 144, 149], 91) := by decide +kernel
theorem dX2_tell_92 : decode cX2_tell 92 = .ok (.aload_n 0, 1) := by decide +kernel
theorem dX2_tell_93 : decode cX2_tell 93 = .ok (.getfield 50, 3) := by decide +kernel
theorem dX2_tell_96 : decode cX2_tell 96 = .ok (.ireturn, 1) := by decide +kernel
theorem dX2_tell_97 : decode cX2_tell 97 = .ok (.aload_n 0, 1) := by decide +kernel
theorem dX2_tell_98 : decode cX2_tell 98 = .ok (.invokevirtual 73, 3) := by decide +kernel
theorem dX2_tell_101 : decode cX2_tell 101 = .ok (.ireturn, 1) := by decide +kernel
theorem dX2_tell_102 : decode cX2_tell 102 = .ok (.aload_n 0, 1) := by decide +kernel
theorem dX2_tell_103 : decode cX2_tell 103 = .ok (.invokevirtual 77, 3) := by decide +kernel
theorem dX2_tell_106 : decode cX2_tell 106 = .ok (.ireturn, 1) := by decide +kernel
theorem dX2_tell_107 : decode cX2_tell 107 = .ok (.aload_n 0, 1) := by decide +kernel
theorem dX2_tell_108 : decode cX2_tell 108 = .ok (.invokevirtual 80, 3) := by decide +kernel
theorem dX2_tell_111 : decode cX2_tell 111 = .ok (.ireturn, 1) := by decide +kernel
theorem dX2_tell_112 : decode cX2_tell 112 = .ok (.aload_n 0, 1) := by decide +kernel
theorem dX2_tell_113 : decode cX2_tell 113 = .ok (.getfield 9, 3) := by decide +kernel
theorem dX2_tell_116 : decode cX2_tell 116 = .ok (.iconst 0, 1) := by decide +kernel
theorem dX2_tell_117 : decode cX2_tell 117 = .ok (.iaload, 1) := by decide +kernel
theorem dX2_tell_118 : decode cX2_tell 118 = .ok (.ireturn, 1) := by decide +kernel
theorem dX2_tell_119 : decode cX2_tell 119 = .ok (.aload_n 0, 1) := by decide +kernel
theorem dX2_tell_120 : decode cX2_tell 120 = .ok (.getfield 9, 3) := by decide +kernel
theorem dX2_tell_123 : decode cX2_tell 123 = .ok (.iconst 1, 1) := by decide +kernel
theorem dX2_tell_124 : decode cX2_tell 124 = .ok (.iaload, 1) := by decide +kernel
theorem dX2_tell_125 : decode cX2_tell 125 = .ok (.ireturn, 1) := by decide +kernel
theorem dX2_tell_126 : decode cX2_tell 126 = .ok (.aload_n 0, 1) := by decide +kernel
theorem dX2_tell_127 : decode cX2_tell 127 = .ok (.getfield 9, 3) := by decide +kernel
theorem dX2_tell_130 : decode cX2_tell 130 = .ok (.iconst 2, 1) := by decide +kernel
theorem dX2_tell_131 : decode cX2_tell 131 = .ok (.iaload, 1) := by decide +kernel
theorem dX2_tell_132 : decode cX2_tell 132 = .ok (.ireturn, 1) := by decide +kernel
theorem dX2_tell_133 : decode cX2_tell 133 = .ok (.aload_n 0, 1) := by decide +kernel
theorem dX2_tell_134 : decode cX2_tell 134 = .ok (.getfield 9, 3) := by decide +kernel
theorem dX2_tell_137 : decode cX2_tell 137 = .ok (.iconst 3, 1) := by decide +kernel
theorem dX2_tell_138 : decode cX2_tell 138 = .ok (.iaload, 1) := by decide +kernel
theorem dX2_tell_139 : decode cX2_tell 139 = .ok (.ireturn, 1) := by decide +kernel
theorem dX2_tell_140 : decode cX2_tell 140 = .ok (.aload_n 0, 1) := by decide +kernel
theorem dX2_tell_141 : decode cX2_tell 141 = .ok (.getfield 54, 3) := by decide +kernel
theorem dX2_tell_144 : decode cX2_tell 144 = .ok (.ireturn, 1) := by decide +kernel
theorem dX2_tell_145 : decode cX2_tell 145 = .ok (.aload_n 0, 1) := by decide +kernel
theorem dX2_tell_146 : decode cX2_tell 146 = .ok (.getfield 57, 3) := by decide +kernel
theorem dX2_tell_149 : decode cX2_tell 149 = .ok (.ireturn, 1) := by decide +kernel
theorem dX2_tell_150 : decode cX2_tell 150 = .ok (.aload_n 0, 1) := by decide +kernel
theorem dX2_tell_151 : decode cX2_tell 151 = .ok (.getfield 23, 3) := by decide +kernel
theorem dX2_tell_154 : decode cX2_tell 154 = .ok (.invokevirtual 83, 3) := by decide +kernel
theorem dX2_tell_157 : decode cX2_tell 157 = .ok (.ldc 86, 2) := by decide +kernel
theorem dX2_tell_159 : decode cX2_tell 159 = .ok (.invokestatic 87, 3) := by decide +kernel
theorem dX2_tell_162 : decode cX2_tell 162 = .ok (.ireturn, 1) := by decide +kernel
theorem dX2_tell_163 : decode cX2_tell 163 = .ok (.ldc 93, 2) := by decide +kernel
theorem dX2_tell_165 : decode cX2_tell 165 = .ok (.ireturn, 1) := by decide +kernel
set_option maxRecDepth 20000 in
theorem ggX2_wayRise_X5_plan : GoodIn wsX2_wayRise wsX5_plan := goodIn_r _ [8, 9, 10, 11, 12, 13, 14, 15, 16, 17, 18, 19, 20, 21, 22, 23, 24, 25, 26, 27, 28, 29, 30, 31, 32, 33, 34, 35, 36, 37, 49, 50, 51, 52, 53, 54, 55, 56, 57, 58, 59, 60, 61, 62, 63, 64, 65] (by decide +kernel) (by decide +kernel)
set_option maxRecDepth 20000 in
theorem gX2_wayRise_X5_plan : GoodIn wsX2_wayRise (wsV RX2 98 RX5 yX5_plan wsX5_plan) := goodIn_app (goodIn_of _ (by decide +kernel)) ggX2_wayRise_X5_plan
theorem dX2_wayRise_0 : decode cX2_wayRise 0 = .ok (.aload_n 0, 1) := by decide +kernel
theorem dX2_wayRise_1 : decode cX2_wayRise 1 = .ok (.getfield 46, 3) := by decide +kernel
theorem dX2_wayRise_4 : decode cX2_wayRise 4 = .ok (.aload_n 0, 1) := by decide +kernel
theorem dX2_wayRise_5 : decode cX2_wayRise 5 = .ok (.getfield 27, 3) := by decide +kernel
theorem dX2_wayRise_8 : decode cX2_wayRise 8 = .ok (.iload_n 1, 1) := by decide +kernel
theorem dX2_wayRise_9 : decode cX2_wayRise 9 = .ok (.aload_n 0, 1) := by decide +kernel
theorem dX2_wayRise_10 : decode cX2_wayRise 10 = .ok (.getfield 9, 3) := by decide +kernel
theorem dX2_wayRise_13 : decode cX2_wayRise 13 = .ok (.iconst 0, 1) := by decide +kernel
theorem dX2_wayRise_14 : decode cX2_wayRise 14 = .ok (.iaload, 1) := by decide +kernel
theorem dX2_wayRise_15 : decode cX2_wayRise 15 = .ok (.invokevirtual 98, 3) := by decide +kernel
theorem dX2_wayRise_18 : decode cX2_wayRise 18 = .ok (.aload_n 0, 1) := by decide +kernel
theorem dX2_wayRise_19 : decode cX2_wayRise 19 = .ok (.getfield 46, 3) := by decide +kernel
theorem dX2_wayRise_22 : decode cX2_wayRise 22 = .ok (.areturn, 1) := by decide +kernel
set_option maxRecDepth 20000 in
theorem ggX2_wayAround_X5_plan : GoodIn wsX2_wayAround wsX5_plan := goodIn_r _ [11, 12, 13, 14, 15, 16, 17, 18, 19, 20, 21, 22, 23, 24, 25, 26, 27, 28, 29, 30, 31, 32, 33, 34, 35, 36, 37, 38, 39, 40, 60, 61, 62, 63, 64, 65, 66, 67, 68, 69, 70, 71, 72, 73, 74, 75, 76] (by decide +kernel) (by decide +kernel)
set_option maxRecDepth 20000 in
theorem gX2_wayAround_X5_plan : GoodIn wsX2_wayAround (wsV RX2 98 RX5 yX5_plan wsX5_plan) := goodIn_app (goodIn_of _ (by decide +kernel)) ggX2_wayAround_X5_plan
set_option maxRecDepth 20000 in
theorem ggX2_wayAround_X2_isLowWayTaken : GoodIn wsX2_wayAround wsX2_isLowWayTaken := goodIn_r _ [45, 1, 46, 47, 22, 23, 24, 5, 4, 48, 49, 50, 51, 52, 53, 54, 55, 56, 57, 58, 59, 60, 61, 62, 63, 64, 65, 66] (by decide +kernel) (by decide +kernel)
set_option maxRecDepth 20000 in
theorem gX2_wayAround_X2_isLowWayTaken : GoodIn wsX2_wayAround (wsV RX2 106 RX2 yX2_isLowWayTaken wsX2_isLowWayTaken) := goodIn_app (goodIn_of _ (by decide +kernel)) ggX2_wayAround_X2_isLowWayTaken
theorem dX2_wayAround_0 : decode cX2_wayAround 0 = .ok (.aload_n 0, 1) := by decide +kernel
theorem dX2_wayAround_1 : decode cX2_wayAround 1 = .ok (.getfield 39, 3) := by decide +kernel
theorem dX2_wayAround_4 : decode cX2_wayAround 4 = .ok (.aload_n 0, 1) := by decide +kernel
theorem dX2_wayAround_5 : decode cX2_wayAround 5 = .ok (.getfield 23, 3) := by decide +kernel
theorem dX2_wayAround_8 : decode cX2_wayAround 8 = .ok (.iload_n 1, 1) := by decide +kernel
theorem dX2_wayAround_9 : decode cX2_wayAround 9 = .ok (.ldc 86, 2) := by decide +kernel
theorem dX2_wayAround_11 : decode cX2_wayAround 11 = .ok (.isub, 1) := by decide +kernel
theorem dX2_wayAround_12 : decode cX2_wayAround 12 = .ok (.aload_n 0, 1) := by decide +kernel
theorem dX2_wayAround_13 : decode cX2_wayAround 13 = .ok (.getfield 9, 3) := by decide +kernel
theorem dX2_wayAround_16 : decode cX2_wayAround 16 = .ok (.iconst 0, 1) := by decide +kernel
theorem dX2_wayAround_17 : decode cX2_wayAround 17 = .ok (.iaload, 1) := by decide +kernel
theorem dX2_wayAround_18 : decode cX2_wayAround 18 = .ok (.invokevirtual 98, 3) := by decide +kernel
theorem dX2_wayAround_21 : decode cX2_wayAround 21 = .ok (.aload_n 0, 1) := by decide +kernel
theorem dX2_wayAround_22 : decode cX2_wayAround 22 = .ok (.getfield 43, 3) := by decide +kernel
theorem dX2_wayAround_25 : decode cX2_wayAround 25 = .ok (.aload_n 0, 1) := by decide +kernel
theorem dX2_wayAround_26 : decode cX2_wayAround 26 = .ok (.getfield 23, 3) := by decide +kernel
theorem dX2_wayAround_29 : decode cX2_wayAround 29 = .ok (.iload_n 1, 1) := by decide +kernel
theorem dX2_wayAround_30 : decode cX2_wayAround 30 = .ok (.aload_n 0, 1) := by decide +kernel
theorem dX2_wayAround_31 : decode cX2_wayAround 31 = .ok (.getfield 9, 3) := by decide +kernel
theorem dX2_wayAround_34 : decode cX2_wayAround 34 = .ok (.iconst 0, 1) := by decide +kernel
theorem dX2_wayAround_35 : decode cX2_wayAround 35 = .ok (.iaload, 1) := by decide +kernel
theorem dX2_wayAround_36 : decode cX2_wayAround 36 = .ok (.invokevirtual 98, 3) := by decide +kernel
theorem dX2_wayAround_39 : decode cX2_wayAround 39 = .ok (.aload_n 0, 1) := by decide +kernel
theorem dX2_wayAround_40 : decode cX2_wayAround 40 = .ok (.getfield 39, 3) := by decide +kernel
theorem dX2_wayAround_43 : decode cX2_wayAround 43 = .ok (.getfield 102, 3) := by decide +kernel
theorem dX2_wayAround_46 : decode cX2_wayAround 46 = .ok (.ifCond .eq 13, 3) := by decide +kernel
theorem dX2_wayAround_49 : decode cX2_wayAround 49 = .ok (.aload_n 0, 1) := by decide +kernel
theorem dX2_wayAround_50 : decode cX2_wayAround 50 = .ok (.getfield 43, 3) := by decide +kernel
theorem dX2_wayAround_53 : decode cX2_wayAround 53 = .ok (.getfield 102, 3) := by decide +kernel
theorem dX2_wayAround_56 : decode cX2_wayAround 56 = .ok (.ifCond .ne 25, 3) := by decide +kernel
theorem dX2_wayAround_59 : decode cX2_wayAround 59 = .ok (.aload_n 0, 1) := by decide +kernel
theorem dX2_wayAround_60 : decode cX2_wayAround 60 = .ok (.getfield 39, 3) := by decide +kernel
theorem dX2_wayAround_63 : decode cX2_wayAround 63 = .ok (.getfield 102, 3) := by decide +kernel
theorem dX2_wayAround_66 : decode cX2_wayAround 66 = .ok (.ifCond .eq 10, 3) := by decide +kernel
theorem dX2_wayAround_69 : decode cX2_wayAround 69 = .ok (.aload_n 0, 1) := by decide +kernel
theorem dX2_wayAround_70 : decode cX2_wayAround 70 = .ok (.getfield 39, 3) := by decide +kernel
theorem dX2_wayAround_73 : decode cX2_wayAround 73 = .ok (.goto 7, 3) := by decide +kernel
theorem dX2_wayAround_76 : decode cX2_wayAround 76 = .ok (.aload_n 0, 1) := by decide +kernel
theorem dX2_wayAround_77 : decode cX2_wayAround 77 = .ok (.getfield 43, 3) := by decide +kernel
theorem dX2_wayAround_80 : decode cX2_wayAround 80 = .ok (.areturn, 1) := by decide +kernel
theorem dX2_wayAround_81 : decode cX2_wayAround 81 = .ok (.aload_n 0, 1) := by decide +kernel
theorem dX2_wayAround_82 : decode cX2_wayAround 82 = .ok (.invokevirtual 106, 3) := by decide +kernel
theorem dX2_wayAround_85 : decode cX2_wayAround 85 = .ok (.ifCond .eq 10, 3) := by decide +kernel
theorem dX2_wayAround_88 : decode cX2_wayAround 88 = .ok (.aload_n 0, 1) := by decide +kernel
theorem dX2_wayAround_89 : decode cX2_wayAround 89 = .ok (.getfield 39, 3) := by decide +kernel
theorem dX2_wayAround_92 : decode cX2_wayAround 92 = .ok (.goto 7, 3) := by decide +kernel
theorem dX2_wayAround_95 : decode cX2_wayAround 95 = .ok (.aload_n 0, 1) := by decide +kernel
theorem dX2_wayAround_96 : decode cX2_wayAround 96 = .ok (.getfield 43, 3) := by decide +kernel
theorem dX2_wayAround_99 : decode cX2_wayAround 99 = .ok (.areturn, 1) := by decide +kernel
theorem dX2_isLowWayTaken_0 : decode cX2_isLowWayTaken 0 = .ok (.aload_n 0, 1) := by decide +kernel
theorem dX2_isLowWayTaken_1 : decode cX2_isLowWayTaken 1 = .ok (.getfield 39, 3) := by decide +kernel
theorem dX2_isLowWayTaken_4 : decode cX2_isLowWayTaken 4 = .ok (.getfield 110, 3) := by decide +kernel
theorem dX2_isLowWayTaken_7 : decode cX2_isLowWayTaken 7 = .ok (.invokestatic 113, 3) := by decide +kernel
theorem dX2_isLowWayTaken_10 : decode cX2_isLowWayTaken 10 = .ok (.istore_n 1, 1) := by decide +kernel
theorem dX2_isLowWayTaken_11 : decode cX2_isLowWayTaken 11 = .ok (.aload_n 0, 1) := by decide +kernel
theorem dX2_isLowWayTaken_12 : decode cX2_isLowWayTaken 12 = .ok (.getfield 43, 3) := by decide +kernel
theorem dX2_isLowWayTaken_15 : decode cX2_isLowWayTaken 15 = .ok (.getfield 110, 3) := by decide +kernel
theorem dX2_isLowWayTaken_18 : decode cX2_isLowWayTaken 18 = .ok (.invokestatic 113, 3) := by decide +kernel
theorem dX2_isLowWayTaken_21 : decode cX2_isLowWayTaken 21 = .ok (.istore_n 2, 1) := by decide +kernel
theorem dX2_isLowWayTaken_22 : decode cX2_isLowWayTaken 22 = .ok (.iload_n 1, 1) := by decide +kernel
theorem dX2_isLowWayTaken_23 : decode cX2_isLowWayTaken 23 = .ok (.aload_n 0, 1) := by decide +kernel
theorem dX2_isLowWayTaken_24 : decode cX2_isLowWayTaken 24 = .ok (.getfield 9, 3) := by decide +kernel
theorem dX2_isLowWayTaken_27 : decode cX2_isLowWayTaken 27 = .ok (.iconst 1, 1) := by decide +kernel
theorem dX2_isLowWayTaken_28 : decode cX2_isLowWayTaken 28 = .ok (.iaload, 1) := by decide +kernel
theorem dX2_isLowWayTaken_29 : decode cX2_isLowWayTaken 29 = .ok (.if_icmp .gt 7, 3) := by decide +kernel
theorem dX2_isLowWayTaken_32 : decode cX2_isLowWayTaken 32 = .ok (.iconst 1, 1) := by decide +kernel
theorem dX2_isLowWayTaken_33 : decode cX2_isLowWayTaken 33 = .ok (.goto 4, 3) := by decide +kernel
theorem dX2_isLowWayTaken_36 : decode cX2_isLowWayTaken 36 = .ok (.iconst 0, 1) := by decide +kernel
theorem dX2_isLowWayTaken_37 : decode cX2_isLowWayTaken 37 = .ok (.istore_n 3, 1) := by decide +kernel
theorem dX2_isLowWayTaken_38 : decode cX2_isLowWayTaken 38 = .ok (.iload_n 2, 1) := by decide +kernel
theorem dX2_isLowWayTaken_39 : decode cX2_isLowWayTaken 39 = .ok (.aload_n 0, 1) := by decide +kernel
theorem dX2_isLowWayTaken_40 : decode cX2_isLowWayTaken 40 = .ok (.getfield 9, 3) := by decide +kernel
theorem dX2_isLowWayTaken_43 : decode cX2_isLowWayTaken 43 = .ok (.iconst 1, 1) := by decide +kernel
theorem dX2_isLowWayTaken_44 : decode cX2_isLowWayTaken 44 = .ok (.iaload, 1) := by decide +kernel
theorem dX2_isLowWayTaken_45 : decode cX2_isLowWayTaken 45 = .ok (.if_icmp .gt 7, 3) := by decide +kernel
theorem dX2_isLowWayTaken_48 : decode cX2_isLowWayTaken 48 = .ok (.iconst 1, 1) := by decide +kernel
theorem dX2_isLowWayTaken_49 : decode cX2_isLowWayTaken 49 = .ok (.goto 4, 3) := by decide +kernel
theorem dX2_isLowWayTaken_52 : decode cX2_isLowWayTaken 52 = .ok (.iconst 0, 1) := by decide +kernel
theorem dX2_isLowWayTaken_53 : decode cX2_isLowWayTaken 53 = .ok (.istore 4, 2) := by decide +kernel
theorem dX2_isLowWayTaken_55 : decode cX2_isLowWayTaken 55 = .ok (.iload_n 3, 1) := by decide +kernel
theorem dX2_isLowWayTaken_56 : decode cX2_isLowWayTaken 56 = .ok (.iload 4, 2) := by decide +kernel
theorem dX2_isLowWayTaken_58 : decode cX2_isLowWayTaken 58 = .ok (.if_icmp .eq 5, 3) := by decide +kernel
theorem dX2_isLowWayTaken_61 : decode cX2_isLowWayTaken 61 = .ok (.iload_n 3, 1) := by decide +kernel
theorem dX2_isLowWayTaken_62 : decode cX2_isLowWayTaken 62 = .ok (.ireturn, 1) := by decide +kernel
theorem dX2_isLowWayTaken_63 : decode cX2_isLowWayTaken 63 = .ok (.aload_n 0, 1) := by decide +kernel
theorem dX2_isLowWayTaken_64 : decode cX2_isLowWayTaken 64 = .ok (.getfield 39, 3) := by decide +kernel
theorem dX2_isLowWayTaken_67 : decode cX2_isLowWayTaken 67 = .ok (.getfield 117, 3) := by decide +kernel
theorem dX2_isLowWayTaken_70 : decode cX2_isLowWayTaken 70 = .ok (.aload_n 0, 1) := by decide +kernel
theorem dX2_isLowWayTaken_71 : decode cX2_isLowWayTaken 71 = .ok (.getfield 43, 3) := by decide +kernel
theorem dX2_isLowWayTaken_74 : decode cX2_isLowWayTaken 74 = .ok (.getfield 117, 3) := by decide +kernel
theorem dX2_isLowWayTaken_77 : decode cX2_isLowWayTaken 77 = .ok (.if_icmp .eq 26, 3) := by decide +kernel
theorem dX2_isLowWayTaken_80 : decode cX2_isLowWayTaken 80 = .ok (.aload_n 0, 1) := by decide +kernel
theorem dX2_isLowWayTaken_81 : decode cX2_isLowWayTaken 81 = .ok (.getfield 39, 3) := by decide +kernel
theorem dX2_isLowWayTaken_84 : decode cX2_isLowWayTaken 84 = .ok (.getfield 117, 3) := by decide +kernel
theorem dX2_isLowWayTaken_87 : decode cX2_isLowWayTaken 87 = .ok (.aload_n 0, 1) := by decide +kernel
theorem dX2_isLowWayTaken_88 : decode cX2_isLowWayTaken 88 = .ok (.getfield 43, 3) := by decide +kernel
theorem dX2_isLowWayTaken_91 : decode cX2_isLowWayTaken 91 = .ok (.getfield 117, 3) := by decide +kernel
theorem dX2_isLowWayTaken_94 : decode cX2_isLowWayTaken 94 = .ok (.if_icmp .ge 7, 3) := by decide +kernel
theorem dX2_isLowWayTaken_97 : decode cX2_isLowWayTaken 97 = .ok (.iconst 1, 1) := by decide +kernel
theorem dX2_isLowWayTaken_98 : decode cX2_isLowWayTaken 98 = .ok (.goto 4, 3) := by decide +kernel
theorem dX2_isLowWayTaken_101 : decode cX2_isLowWayTaken 101 = .ok (.iconst 0, 1) := by decide +kernel
theorem dX2_isLowWayTaken_102 : decode cX2_isLowWayTaken 102 = .ok (.ireturn, 1) := by decide +kernel
theorem dX2_isLowWayTaken_103 : decode cX2_isLowWayTaken 103 = .ok (.iload_n 1, 1) := by decide +kernel
theorem dX2_isLowWayTaken_104 : decode cX2_isLowWayTaken 104 = .ok (.iload_n 2, 1) := by decide +kernel
theorem dX2_isLowWayTaken_105 : decode cX2_isLowWayTaken 105 = .ok (.if_icmp .gt 7, 3) := by decide +kernel
theorem dX2_isLowWayTaken_108 : decode cX2_isLowWayTaken 108 = .ok (.iconst 1, 1) := by decide +kernel
theorem dX2_isLowWayTaken_109 : decode cX2_isLowWayTaken 109 = .ok (.goto 4, 3) := by decide +kernel
theorem dX2_isLowWayTaken_112 : decode cX2_isLowWayTaken 112 = .ok (.iconst 0, 1) := by decide +kernel
theorem dX2_isLowWayTaken_113 : decode cX2_isLowWayTaken 113 = .ok (.ireturn, 1) := by decide +kernel
set_option maxRecDepth 20000 in
theorem ggX2_followWays_X0_follow : GoodIn wsX2_followWays wsX0_follow := goodIn_r _ [13, 14, 15, 16, 17, 18, 12, 19, 20, 21, 22, 23, 24, 25, 7, 26, 27, 28, 6, 8, 40, 41, 42, 43, 44, 45, 46, 47, 48, 49, 50, 51, 52, 53, 54, 55, 56] (by decide +kernel) (by decide +kernel)
set_option maxRecDepth 20000 in
theorem gX2_followWays_X0_follow : GoodIn wsX2_followWays (wsV RX2 120 RX0 yX0_follow wsX0_follow) := goodIn_app (goodIn_of _ (by decide +kernel)) ggX2_followWays_X0_follow
theorem dX2_followWays_0 : decode cX2_followWays 0 = .ok (.aload_n 0, 1) := by decide +kernel
theorem dX2_followWays_1 : decode cX2_followWays 1 = .ok (.getfield 23, 3) := by decide +kernel
theorem dX2_followWays_4 : decode cX2_followWays 4 = .ok (.aload_n 1, 1) := by decide +kernel
theorem dX2_followWays_5 : decode cX2_followWays 5 = .ok (.invokevirtual 120, 3) := by decide +kernel
theorem dX2_followWays_8 : decode cX2_followWays 8 = .ok (.aload_n 0, 1) := by decide +kernel
theorem dX2_followWays_9 : decode cX2_followWays 9 = .ok (.getfield 27, 3) := by decide +kernel
theorem dX2_followWays_12 : decode cX2_followWays 12 = .ok (.aload_n 2, 1) := by decide +kernel
theorem dX2_followWays_13 : decode cX2_followWays 13 = .ok (.invokevirtual 120, 3) := by decide +kernel
theorem dX2_followWays_16 : decode cX2_followWays 16 = .ok (.aload_n 0, 1) := by decide +kernel
theorem dX2_followWays_17 : decode cX2_followWays 17 = .ok (.dup, 1) := by decide +kernel
theorem dX2_followWays_18 : decode cX2_followWays 18 = .ok (.getfield 54, 3) := by decide +kernel
theorem dX2_followWays_21 : decode cX2_followWays 21 = .ok (.iconst 1, 1) := by decide +kernel
theorem dX2_followWays_22 : decode cX2_followWays 22 = .ok (.iadd, 1) := by decide +kernel
theorem dX2_followWays_23 : decode cX2_followWays 23 = .ok (.putfield 54, 3) := by decide +kernel
theorem dX2_followWays_26 : decode cX2_followWays 26 = .ok (.aload_n 1, 1) := by decide +kernel
theorem dX2_followWays_27 : decode cX2_followWays 27 = .ok (.getfield 124, 3) := by decide +kernel
theorem dX2_followWays_30 : decode cX2_followWays 30 = .ok (.aload_n 2, 1) := by decide +kernel
theorem dX2_followWays_31 : decode cX2_followWays 31 = .ok (.getfield 124, 3) := by decide +kernel
theorem dX2_followWays_34 : decode cX2_followWays 34 = .ok (.invokestatic 125, 3) := by decide +kernel
theorem dX2_followWays_37 : decode cX2_followWays 37 = .ok (.ireturn, 1) := by decide +kernel
theorem dX2_hasTarget_0 : decode cX2_hasTarget 0 = .ok (.iload_n 1, 1) := by decide +kernel
theorem dX2_hasTarget_1 : decode cX2_hasTarget 1 = .ok (.ifCond .lt 29, 3) := by decide +kernel
theorem dX2_hasTarget_4 : decode cX2_hasTarget 4 = .ok (.iload_n 1, 1) := by decide +kernel
theorem dX2_hasTarget_5 : decode cX2_hasTarget 5 = .ok (.aload_n 0, 1) := by decide +kernel
theorem dX2_hasTarget_6 : decode cX2_hasTarget 6 = .ok (.getfield 32, 3) := by decide +kernel
theorem dX2_hasTarget_9 : decode cX2_hasTarget 9 = .ok (.arraylength, 1) := by decide +kernel
theorem dX2_hasTarget_10 : decode cX2_hasTarget 10 = .ok (.if_icmp .ge 20, 3) := by decide +kernel
theorem dX2_hasTarget_13 : decode cX2_hasTarget 13 = .ok (.aload_n 0, 1) := by decide +kernel
theorem dX2_hasTarget_14 : decode cX2_hasTarget 14 = .ok (.getfield 32, 3) := by decide +kernel
theorem dX2_hasTarget_17 : decode cX2_hasTarget 17 = .ok (.iload_n 1, 1) := by decide +kernel
theorem dX2_hasTarget_18 : decode cX2_hasTarget 18 = .ok (.aaload, 1) := by decide +kernel
theorem dX2_hasTarget_19 : decode cX2_hasTarget 19 = .ok (.getfield 128, 3) := by decide +kernel
theorem dX2_hasTarget_22 : decode cX2_hasTarget 22 = .ok (.iconst 4, 1) := by decide +kernel
theorem dX2_hasTarget_23 : decode cX2_hasTarget 23 = .ok (.if_icmp .eq 7, 3) := by decide +kernel
theorem dX2_hasTarget_26 : decode cX2_hasTarget 26 = .ok (.iconst 1, 1) := by decide +kernel
theorem dX2_hasTarget_27 : decode cX2_hasTarget 27 = .ok (.goto 4, 3) := by decide +kernel
theorem dX2_hasTarget_30 : decode cX2_hasTarget 30 = .ok (.iconst 0, 1) := by decide +kernel
theorem dX2_hasTarget_31 : decode cX2_hasTarget 31 = .ok (.ireturn, 1) := by decide +kernel
theorem dX2_targetsIn_0 : decode cX2_targetsIn 0 = .ok (.iconst 0, 1) := by decide +kernel
theorem dX2_targetsIn_1 : decode cX2_targetsIn 1 = .ok (.istore_n 2, 1) := by decide +kernel
theorem dX2_targetsIn_2 : decode cX2_targetsIn 2 = .ok (.aload_n 0, 1) := by decide +kernel
theorem dX2_targetsIn_3 : decode cX2_targetsIn 3 = .ok (.getfield 32, 3) := by decide +kernel
theorem dX2_targetsIn_6 : decode cX2_targetsIn 6 = .ok (.astore_n 3, 1) := by decide +kernel
theorem dX2_targetsIn_7 : decode cX2_targetsIn 7 = .ok (.aload_n 3, 1) := by decide +kernel
theorem dX2_targetsIn_8 : decode cX2_targetsIn 8 = .ok (.arraylength, 1) := by decide +kernel
theorem dX2_targetsIn_9 : decode cX2_targetsIn 9 = .ok (.istore 4, 2) := by decide +kernel
theorem dX2_targetsIn_11 : decode cX2_targetsIn 11 = .ok (.iconst 0, 1) := by decide +kernel
theorem dX2_targetsIn_12 : decode cX2_targetsIn 12 = .ok (.istore 5, 2) := by decide +kernel
theorem dX2_targetsIn_14 : decode cX2_targetsIn 14 = .ok (.iload 5, 2) := by decide +kernel
theorem dX2_targetsIn_16 : decode cX2_targetsIn 16 = .ok (.iload 4, 2) := by decide +kernel
theorem dX2_targetsIn_18 : decode cX2_targetsIn 18 = .ok (.if_icmp .ge 27, 3) := by decide +kernel
theorem dX2_targetsIn_21 : decode cX2_targetsIn 21 = .ok (.aload_n 3, 1) := by decide +kernel
theorem dX2_targetsIn_22 : decode cX2_targetsIn 22 = .ok (.iload 5, 2) := by decide +kernel
theorem dX2_targetsIn_24 : decode cX2_targetsIn 24 = .ok (.aaload, 1) := by decide +kernel
theorem dX2_targetsIn_25 : decode cX2_targetsIn 25 = .ok (.astore 6, 2) := by decide +kernel
theorem dX2_targetsIn_27 : decode cX2_targetsIn 27 = .ok (.aload 6, 2) := by decide +kernel
theorem dX2_targetsIn_29 : decode cX2_targetsIn 29 = .ok (.getfield 128, 3) := by decide +kernel
theorem dX2_targetsIn_32 : decode cX2_targetsIn 32 = .ok (.iload_n 1, 1) := by decide +kernel
theorem dX2_targetsIn_33 : decode cX2_targetsIn 33 = .ok (.if_icmp .ne 6, 3) := by decide +kernel
theorem dX2_targetsIn_36 : decode cX2_targetsIn 36 = .ok (.iinc 2 1, 3) := by decide +kernel
theorem dX2_targetsIn_39 : decode cX2_targetsIn 39 = .ok (.iinc 5 1, 3) := by decide +kernel
theorem dX2_targetsIn_42 : decode cX2_targetsIn 42 = .ok (.goto (-28), 3) := by decide +kernel
theorem dX2_targetsIn_45 : decode cX2_targetsIn 45 = .ok (.iload_n 2, 1) := by decide +kernel
theorem dX2_targetsIn_46 : decode cX2_targetsIn 46 = .ok (.ireturn, 1) := by decide +kernel
theorem dX2_numberUnderWay_0 : decode cX2_numberUnderWay 0 = .ok (.iconst 0, 1) := by decide +kernel
theorem dX2_numberUnderWay_1 : decode cX2_numberUnderWay 1 = .ok (.istore_n 1, 1) := by decide +kernel
theorem dX2_numberUnderWay_2 : decode cX2_numberUnderWay 2 = .ok (.iload_n 1, 1) := by decide +kernel
theorem dX2_numberUnderWay_3 : decode cX2_numberUnderWay 3 = .ok (.aload_n 0, 1) := by decide +kernel
theorem dX2_numberUnderWay_4 : decode cX2_numberUnderWay 4 = .ok (.getfield 32, 3) := by decide +kernel
theorem dX2_numberUnderWay_7 : decode cX2_numberUnderWay 7 = .ok (.arraylength, 1) := by decide +kernel
theorem dX2_numberUnderWay_8 : decode cX2_numberUnderWay 8 = .ok (.if_icmp .ge 24, 3) := by decide +kernel
theorem dX2_numberUnderWay_11 : decode cX2_numberUnderWay 11 = .ok (.aload_n 0, 1) := by decide +kernel
theorem dX2_numberUnderWay_12 : decode cX2_numberUnderWay 12 = .ok (.getfield 32, 3) := by decide +kernel
theorem dX2_numberUnderWay_15 : decode cX2_numberUnderWay 15 = .ok (.iload_n 1, 1) := by decide +kernel
theorem dX2_numberUnderWay_16 : decode cX2_numberUnderWay 16 = .ok (.aaload, 1) := by decide +kernel
theorem dX2_numberUnderWay_17 : decode cX2_numberUnderWay 17 = .ok (.getfield 128, 3) := by decide +kernel
theorem dX2_numberUnderWay_20 : decode cX2_numberUnderWay 20 = .ok (.iconst 1, 1) := by decide +kernel
theorem dX2_numberUnderWay_21 : decode cX2_numberUnderWay 21 = .ok (.if_icmp .ne 5, 3) := by decide +kernel
theorem dX2_numberUnderWay_24 : decode cX2_numberUnderWay 24 = .ok (.iload_n 1, 1) := by decide +kernel
theorem dX2_numberUnderWay_25 : decode cX2_numberUnderWay 25 = .ok (.ireturn, 1) := by decide +kernel
theorem dX2_numberUnderWay_26 : decode cX2_numberUnderWay 26 = .ok (.iinc 1 1, 3) := by decide +kernel
theorem dX2_numberUnderWay_29 : decode cX2_numberUnderWay 29 = .ok (.goto (-27), 3) := by decide +kernel
theorem dX2_numberUnderWay_32 : decode cX2_numberUnderWay 32 = .ok (.iconst (-1), 1) := by decide +kernel
theorem dX2_numberUnderWay_33 : decode cX2_numberUnderWay 33 = .ok (.ireturn, 1) := by decide +kernel
theorem dX2_minutesUntilDone_0 : decode cX2_minutesUntilDone 0 = .ok (.aload_n 0, 1) := by decide +kernel
theorem dX2_minutesUntilDone_1 : decode cX2_minutesUntilDone 1 = .ok (.getfield 32, 3) := by decide +kernel
theorem dX2_minutesUntilDone_4 : decode cX2_minutesUntilDone 4 = .ok (.astore_n 1, 1) := by decide +kernel
theorem dX2_minutesUntilDone_5 : decode cX2_minutesUntilDone 5 = .ok (.aload_n 1, 1) := by decide +kernel
theorem dX2_minutesUntilDone_6 : decode cX2_minutesUntilDone 6 = .ok (.arraylength, 1) := by decide +kernel
theorem dX2_minutesUntilDone_7 : decode cX2_minutesUntilDone 7 = .ok (.istore_n 2, 1) := by decide +kernel
theorem dX2_minutesUntilDone_8 : decode cX2_minutesUntilDone 8 = .ok (.iconst 0, 1) := by decide +kernel
theorem dX2_minutesUntilDone_9 : decode cX2_minutesUntilDone 9 = .ok (.istore_n 3, 1) := by decide +kernel
theorem dX2_minutesUntilDone_10 : decode cX2_minutesUntilDone 10 = .ok (.iload_n 3, 1) := by decide +kernel
theorem dX2_minutesUntilDone_11 : decode cX2_minutesUntilDone 11 = .ok (.iload_n 2, 1) := by decide +kernel
theorem dX2_minutesUntilDone_12 : decode cX2_minutesUntilDone 12 = .ok (.if_icmp .ge 34, 3) := by decide +kernel
theorem dX2_minutesUntilDone_15 : decode cX2_minutesUntilDone 15 = .ok (.aload_n 1, 1) := by decide +kernel
theorem dX2_minutesUntilDone_16 : decode cX2_minutesUntilDone 16 = .ok (.iload_n 3, 1) := by decide +kernel
theorem dX2_minutesUntilDone_17 : decode cX2_minutesUntilDone 17 = .ok (.aaload, 1) := by decide +kernel
theorem dX2_minutesUntilDone_18 : decode cX2_minutesUntilDone 18 = .ok (.astore 4, 2) := by decide +kernel
theorem dX2_minutesUntilDone_20 : decode cX2_minutesUntilDone 20 = .ok (.aload 4, 2) := by decide +kernel
theorem dX2_minutesUntilDone_22 : decode cX2_minutesUntilDone 22 = .ok (.getfield 128, 3) := by decide +kernel
theorem dX2_minutesUntilDone_25 : decode cX2_minutesUntilDone 25 = .ok (.iconst 1, 1) := by decide +kernel
theorem dX2_minutesUntilDone_26 : decode cX2_minutesUntilDone 26 = .ok (.if_icmp .ne 14, 3) := by decide +kernel
theorem dX2_minutesUntilDone_29 : decode cX2_minutesUntilDone 29 = .ok (.aload 4, 2) := by decide +kernel
theorem dX2_minutesUntilDone_31 : decode cX2_minutesUntilDone 31 = .ok (.getfield 131, 3) := by decide +kernel
theorem dX2_minutesUntilDone_34 : decode cX2_minutesUntilDone 34 = .ok (.aload_n 0, 1) := by decide +kernel
theorem dX2_minutesUntilDone_35 : decode cX2_minutesUntilDone 35 = .ok (.getfield 50, 3) := by decide +kernel
theorem dX2_minutesUntilDone_38 : decode cX2_minutesUntilDone 38 = .ok (.isub, 1) := by decide +kernel
theorem dX2_minutesUntilDone_39 : decode cX2_minutesUntilDone 39 = .ok (.ireturn, 1) := by decide +kernel
theorem dX2_minutesUntilDone_40 : decode cX2_minutesUntilDone 40 = .ok (.iinc 3 1, 3) := by decide +kernel
theorem dX2_minutesUntilDone_43 : decode cX2_minutesUntilDone 43 = .ok (.goto (-33), 3) := by decide +kernel
theorem dX2_minutesUntilDone_46 : decode cX2_minutesUntilDone 46 = .ok (.ldc 134, 2) := by decide +kernel
theorem dX2_minutesUntilDone_48 : decode cX2_minutesUntilDone 48 = .ok (.ireturn, 1) := by decide +kernel
set_option maxRecDepth 20000 in
theorem ggX2_append_X2_targetsIn : GoodIn wsX2_append wsX2_targetsIn := goodIn_r _ [14, 1, 8, 15, 16, 17, 18, 19, 20, 21, 22, 23, 24, 25, 26, 27, 28, 29, 30, 31, 32, 33, 34, 35, 36, 37, 38, 39] (by decide +kernel) (by decide +kernel)
set_option maxRecDepth 20000 in
theorem gX2_append_X2_targetsIn : GoodIn wsX2_append (wsV RX2 135 RX2 yX2_targetsIn wsX2_targetsIn) := goodIn_app (goodIn_of _ (by decide +kernel)) ggX2_append_X2_targetsIn
theorem dX2_append_0 : decode cX2_append 0 = .ok (.aload_n 0, 1) := by decide +kernel
theorem dX2_append_1 : decode cX2_append 1 = .ok (.getfield 32, 3) := by decide +kernel
theorem dX2_append_4 : decode cX2_append 4 = .ok (.arraylength, 1) := by decide +kernel
theorem dX2_append_5 : decode cX2_append 5 = .ok (.aload_n 0, 1) := by decide +kernel
theorem dX2_append_6 : decode cX2_append 6 = .ok (.iconst 4, 1) := by decide +kernel
theorem dX2_append_7 : decode cX2_append 7 = .ok (.invokevirtual 135, 3) := by decide +kernel
theorem dX2_append_10 : decode cX2_append 10 = .ok (.isub, 1) := by decide +kernel
theorem dX2_append_11 : decode cX2_append 11 = .ok (.istore 7, 2) := by decide +kernel
theorem dX2_append_13 : decode cX2_append 13 = .ok (.iload 7, 2) := by decide +kernel
theorem dX2_append_15 : decode cX2_append 15 = .ok (.aload_n 0, 1) := by decide +kernel
theorem dX2_append_16 : decode cX2_append 16 = .ok (.getfield 32, 3) := by decide +kernel
theorem dX2_append_19 : decode cX2_append 19 = .ok (.arraylength, 1) := by decide +kernel
theorem dX2_append_20 : decode cX2_append 20 = .ok (.if_icmp .lt 5, 3) := by decide +kernel
theorem dX2_append_23 : decode cX2_append 23 = .ok (.iconst (-1), 1) := by decide +kernel
theorem dX2_append_24 : decode cX2_append 24 = .ok (.ireturn, 1) := by decide +kernel
theorem dX2_append_25 : decode cX2_append 25 = .ok (.aload_n 0, 1) := by decide +kernel
theorem dX2_append_26 : decode cX2_append 26 = .ok (.getfield 32, 3) := by decide +kernel
theorem dX2_append_29 : decode cX2_append 29 = .ok (.iload 7, 2) := by decide +kernel
theorem dX2_append_31 : decode cX2_append 31 = .ok (.aaload, 1) := by decide +kernel
theorem dX2_append_32 : decode cX2_append 32 = .ok (.astore 8, 2) := by decide +kernel
theorem dX2_append_34 : decode cX2_append 34 = .ok (.aload 8, 2) := by decide +kernel
theorem dX2_append_36 : decode cX2_append 36 = .ok (.iload_n 1, 1) := by decide +kernel
theorem dX2_append_37 : decode cX2_append 37 = .ok (.putfield 138, 3) := by decide +kernel
theorem dX2_append_40 : decode cX2_append 40 = .ok (.aload 8, 2) := by decide +kernel
theorem dX2_append_42 : decode cX2_append 42 = .ok (.iload_n 2, 1) := by decide +kernel
theorem dX2_append_43 : decode cX2_append 43 = .ok (.putfield 140, 3) := by decide +kernel
theorem dX2_append_46 : decode cX2_append 46 = .ok (.aload 8, 2) := by decide +kernel
theorem dX2_append_48 : decode cX2_append 48 = .ok (.iload_n 3, 1) := by decide +kernel
theorem dX2_append_49 : decode cX2_append 49 = .ok (.putfield 142, 3) := by decide +kernel
theorem dX2_append_52 : decode cX2_append 52 = .ok (.aload 8, 2) := by decide +kernel
theorem dX2_append_54 : decode cX2_append 54 = .ok (.iload 4, 2) := by decide +kernel
theorem dX2_append_56 : decode cX2_append 56 = .ok (.putfield 145, 3) := by decide +kernel
theorem dX2_append_59 : decode cX2_append 59 = .ok (.aload 8, 2) := by decide +kernel
theorem dX2_append_61 : decode cX2_append 61 = .ok (.iload 5, 2) := by decide +kernel
theorem dX2_append_63 : decode cX2_append 63 = .ok (.putfield 148, 3) := by decide +kernel
theorem dX2_append_66 : decode cX2_append 66 = .ok (.aload 8, 2) := by decide +kernel
theorem dX2_append_68 : decode cX2_append 68 = .ok (.iload 6, 2) := by decide +kernel
theorem dX2_append_70 : decode cX2_append 70 = .ok (.putfield 151, 3) := by decide +kernel
theorem dX2_append_73 : decode cX2_append 73 = .ok (.aload 8, 2) := by decide +kernel
theorem dX2_append_75 : decode cX2_append 75 = .ok (.iconst 0, 1) := by decide +kernel
theorem dX2_append_76 : decode cX2_append 76 = .ok (.putfield 128, 3) := by decide +kernel
theorem dX2_append_79 : decode cX2_append 79 = .ok (.aload 8, 2) := by decide +kernel
theorem dX2_append_81 : decode cX2_append 81 = .ok (.iconst 0, 1) := by decide +kernel
theorem dX2_append_82 : decode cX2_append 82 = .ok (.putfield 154, 3) := by decide +kernel
theorem dX2_append_85 : decode cX2_append 85 = .ok (.iload 7, 2) := by decide +kernel
theorem dX2_append_87 : decode cX2_append 87 = .ok (.ireturn, 1) := by decide +kernel
set_option maxRecDepth 20000 in
theorem ggX2_remove_X3_copyFrom : GoodIn wsX2_remove wsX3_copyFrom := goodIn_r _ [11, 12, 13, 14, 15, 16, 17, 18, 19, 20, 21, 22, 23, 24, 25, 37, 38, 39, 40, 41, 42, 43, 44, 45, 46, 47, 48, 49, 50] (by decide +kernel) (by decide +kernel)
set_option maxRecDepth 20000 in
theorem gX2_remove_X3_copyFrom : GoodIn wsX2_remove (wsV RX2 70 RX3 yX3_copyFrom wsX3_copyFrom) := goodIn_app (goodIn_of _ (by decide +kernel)) ggX2_remove_X3_copyFrom
theorem dX2_remove_0 : decode cX2_remove 0 = .ok (.iload_n 1, 1) := by decide +kernel
theorem dX2_remove_1 : decode cX2_remove 1 = .ok (.iconst 0, 1) := by decide +kernel
theorem dX2_remove_2 : decode cX2_remove 2 = .ok (.invokestatic 125, 3) := by decide +kernel
theorem dX2_remove_5 : decode cX2_remove 5 = .ok (.istore_n 2, 1) := by decide +kernel
theorem dX2_remove_6 : decode cX2_remove 6 = .ok (.iload_n 2, 1) := by decide +kernel
theorem dX2_remove_7 : decode cX2_remove 7 = .ok (.aload_n 0, 1) := by decide +kernel
theorem dX2_remove_8 : decode cX2_remove 8 = .ok (.getfield 32, 3) := by decide +kernel
theorem dX2_remove_11 : decode cX2_remove 11 = .ok (.arraylength, 1) := by decide +kernel
theorem dX2_remove_12 : decode cX2_remove 12 = .ok (.iconst 1, 1) := by decide +kernel
theorem dX2_remove_13 : decode cX2_remove 13 = .ok (.isub, 1) := by decide +kernel
theorem dX2_remove_14 : decode cX2_remove 14 = .ok (.if_icmp .ge 26, 3) := by decide +kernel
theorem dX2_remove_17 : decode cX2_remove 17 = .ok (.aload_n 0, 1) := by decide +kernel
theorem dX2_remove_18 : decode cX2_remove 18 = .ok (.getfield 32, 3) := by decide +kernel
theorem dX2_remove_21 : decode cX2_remove 21 = .ok (.iload_n 2, 1) := by decide +kernel
theorem dX2_remove_22 : decode cX2_remove 22 = .ok (.aaload, 1) := by decide +kernel
theorem dX2_remove_23 : decode cX2_remove 23 = .ok (.aload_n 0, 1) := by decide +kernel
theorem dX2_remove_24 : decode cX2_remove 24 = .ok (.getfield 32, 3) := by decide +kernel
theorem dX2_remove_27 : decode cX2_remove 27 = .ok (.iload_n 2, 1) := by decide +kernel
theorem dX2_remove_28 : decode cX2_remove 28 = .ok (.iconst 1, 1) := by decide +kernel
theorem dX2_remove_29 : decode cX2_remove 29 = .ok (.iadd, 1) := by decide +kernel
theorem dX2_remove_30 : decode cX2_remove 30 = .ok (.aaload, 1) := by decide +kernel
theorem dX2_remove_31 : decode cX2_remove 31 = .ok (.invokevirtual 70, 3) := by decide +kernel
theorem dX2_remove_34 : decode cX2_remove 34 = .ok (.iinc 2 1, 3) := by decide +kernel
theorem dX2_remove_37 : decode cX2_remove 37 = .ok (.goto (-31), 3) := by decide +kernel
theorem dX2_remove_40 : decode cX2_remove 40 = .ok (.aload_n 0, 1) := by decide +kernel
theorem dX2_remove_41 : decode cX2_remove 41 = .ok (.getfield 32, 3) := by decide +kernel
theorem dX2_remove_44 : decode cX2_remove 44 = .ok (.aload_n 0, 1) := by decide +kernel
theorem dX2_remove_45 : decode cX2_remove 45 = .ok (.getfield 32, 3) := by decide +kernel
theorem dX2_remove_48 : decode cX2_remove 48 = .ok (.arraylength, 1) := by decide +kernel
theorem dX2_remove_49 : decode cX2_remove 49 = .ok (.iconst 1, 1) := by decide +kernel
theorem dX2_remove_50 : decode cX2_remove 50 = .ok (.isub, 1) := by decide +kernel
theorem dX2_remove_51 : decode cX2_remove 51 = .ok (.aaload, 1) := by decide +kernel
theorem dX2_remove_52 : decode cX2_remove 52 = .ok (.iconst 4, 1) := by decide +kernel
theorem dX2_remove_53 : decode cX2_remove 53 = .ok (.putfield 128, 3) := by decide +kernel
theorem dX2_remove_56 : decode cX2_remove 56 = .ok (.return_, 1) := by decide +kernel
set_option maxRecDepth 20000 in
theorem ggX2_reasonAgainst_X2_numberUnderWay : GoodIn wsX2_reasonAgainst wsX2_numberUnderWay := goodIn_r _ [18, 19, 1, 102, 103, 104, 105, 106, 107, 108, 109, 110, 111, 112, 88, 89, 90, 91, 92, 93, 94, 95, 96, 97, 98, 99, 100, 101] (by decide +kernel) (by decide +kernel)
set_option maxRecDepth 20000 in
theorem gX2_reasonAgainst_X2_numberUnderWay : GoodIn wsX2_reasonAgainst (wsV RX2 157 RX2 yX2_numberUnderWay wsX2_numberUnderWay) := goodIn_app (goodIn_of _ (by decide +kernel)) ggX2_reasonAgainst_X2_numberUnderWay
set_option maxRecDepth 20000 in
theorem ggX2_reasonAgainst_X2_kindOfDay : GoodIn wsX2_reasonAgainst wsX2_kindOfDay := goodIn_r _ [23, 24, 25, 26, 27, 17, 28, 29, 30, 31, 32, 33, 2, 102, 103, 104, 105, 106, 107, 108, 109, 110, 111, 112] (by decide +kernel) (by decide +kernel)
set_option maxRecDepth 20000 in
theorem gX2_reasonAgainst_X2_kindOfDay : GoodIn wsX2_reasonAgainst (wsV RX2 80 RX2 yX2_kindOfDay wsX2_kindOfDay) := goodIn_app (goodIn_of _ (by decide +kernel)) ggX2_reasonAgainst_X2_kindOfDay
set_option maxRecDepth 20000 in
theorem ggX2_reasonAgainst_X2_wayRise : GoodIn wsX2_reasonAgainst wsX2_wayRise := goodIn_r _ [37, 38, 39, 24, 40, 41, 42, 43, 44, 45, 46, 47, 48, 49, 50, 51, 52, 53, 54, 55, 10, 56, 57, 58, 59, 60, 61, 62, 63, 64, 65, 66, 67, 68, 69, 70, 71, 72, 102, 103, 104, 105, 106, 107, 108, 109, 110, 111, 112, 113, 114, 115, 116, 117, 118, 119, 120, 121, 122, 123, 124, 125, 126, 127, 128, 129] (by decide +kernel) (by decide +kernel)
set_option maxRecDepth 20000 in
theorem gX2_reasonAgainst_X2_wayRise : GoodIn wsX2_reasonAgainst (wsV RX2 160 RX2 yX2_wayRise wsX2_wayRise) := goodIn_app (goodIn_of _ (by decide +kernel)) ggX2_reasonAgainst_X2_wayRise
set_option maxRecDepth 20000 in
theorem ggX2_reasonAgainst_X2_wayAround : GoodIn wsX2_reasonAgainst wsX2_wayAround := goodIn_r _ [76, 77, 78, 79, 24, 80, 5, 40, 41, 42, 43, 44, 45, 46, 47, 48, 49, 50, 51, 52, 53, 54, 55, 10, 56, 57, 58, 59, 60, 61, 62, 63, 64, 65, 66, 67, 68, 69, 70, 71, 72, 81, 82, 83, 17, 84, 85, 86, 87, 102, 103, 104, 105, 106, 107, 108, 109, 110, 111, 112, 113, 114, 115, 116, 117, 118, 119, 120, 121, 122, 123, 124, 125, 126, 127, 128, 129] (by decide +kernel) (by decide +kernel)
set_option maxRecDepth 20000 in
theorem gX2_reasonAgainst_X2_wayAround : GoodIn wsX2_reasonAgainst (wsV RX2 164 RX2 yX2_wayAround wsX2_wayAround) := goodIn_app (goodIn_of _ (by decide +kernel)) ggX2_reasonAgainst_X2_wayAround
theorem dX2_reasonAgainst_0 : decode cX2_reasonAgainst 0 = .ok (.aload_n 1, 1) := by decide +kernel
theorem dX2_reasonAgainst_1 : decode cX2_reasonAgainst 1 = .ok (.getfield 128, 3) := by decide +kernel
theorem dX2_reasonAgainst_4 : decode cX2_reasonAgainst 4 = .ok (.ifCond .eq 5, 3) := by decide +kernel
theorem dX2_reasonAgainst_7 : decode cX2_reasonAgainst 7 = .ok (.iconst 1, 1) := by decide +kernel
theorem dX2_reasonAgainst_8 : decode cX2_reasonAgainst 8 = .ok (.ireturn, 1) := by decide +kernel
theorem dX2_reasonAgainst_9 : decode cX2_reasonAgainst 9 = .ok (.aload_n 0, 1) := by decide +kernel
theorem dX2_reasonAgainst_10 : decode cX2_reasonAgainst 10 = .ok (.invokevirtual 157, 3) := by decide +kernel
theorem dX2_reasonAgainst_13 : decode cX2_reasonAgainst 13 = .ok (.iconst (-1), 1) := by decide +kernel
theorem dX2_reasonAgainst_14 : decode cX2_reasonAgainst 14 = .ok (.if_icmp .eq 5, 3) := by decide +kernel
theorem dX2_reasonAgainst_17 : decode cX2_reasonAgainst 17 = .ok (.iconst 2, 1) := by decide +kernel
theorem dX2_reasonAgainst_18 : decode cX2_reasonAgainst 18 = .ok (.ireturn, 1) := by decide +kernel
theorem dX2_reasonAgainst_19 : decode cX2_reasonAgainst 19 = .ok (.aload_n 0, 1) := by decide +kernel
theorem dX2_reasonAgainst_20 : decode cX2_reasonAgainst 20 = .ok (.invokevirtual 80, 3) := by decide +kernel
theorem dX2_reasonAgainst_23 : decode cX2_reasonAgainst 23 = .ok (.ifCond .ne 5, 3) := by decide +kernel
theorem dX2_reasonAgainst_26 : decode cX2_reasonAgainst 26 = .ok (.iconst 3, 1) := by decide +kernel
theorem dX2_reasonAgainst_27 : decode cX2_reasonAgainst 27 = .ok (.ireturn, 1) := by decide +kernel
theorem dX2_reasonAgainst_28 : decode cX2_reasonAgainst 28 = .ok (.aload_n 0, 1) := by decide +kernel
theorem dX2_reasonAgainst_29 : decode cX2_reasonAgainst 29 = .ok (.getfield 50, 3) := by decide +kernel
theorem dX2_reasonAgainst_32 : decode cX2_reasonAgainst 32 = .ok (.aload_n 1, 1) := by decide +kernel
theorem dX2_reasonAgainst_33 : decode cX2_reasonAgainst 33 = .ok (.getfield 142, 3) := by decide +kernel
theorem dX2_reasonAgainst_36 : decode cX2_reasonAgainst 36 = .ok (.if_icmp .ge 5, 3) := by decide +kernel
theorem dX2_reasonAgainst_39 : decode cX2_reasonAgainst 39 = .ok (.iconst 4, 1) := by decide +kernel
theorem dX2_reasonAgainst_40 : decode cX2_reasonAgainst 40 = .ok (.ireturn, 1) := by decide +kernel
theorem dX2_reasonAgainst_41 : decode cX2_reasonAgainst 41 = .ok (.aload_n 0, 1) := by decide +kernel
theorem dX2_reasonAgainst_42 : decode cX2_reasonAgainst 42 = .ok (.aload_n 1, 1) := by decide +kernel
theorem dX2_reasonAgainst_43 : decode cX2_reasonAgainst 43 = .ok (.getfield 140, 3) := by decide +kernel
theorem dX2_reasonAgainst_46 : decode cX2_reasonAgainst 46 = .ok (.invokevirtual 160, 3) := by decide +kernel
theorem dX2_reasonAgainst_49 : decode cX2_reasonAgainst 49 = .ok (.astore_n 2, 1) := by decide +kernel
theorem dX2_reasonAgainst_50 : decode cX2_reasonAgainst 50 = .ok (.aload_n 2, 1) := by decide +kernel
theorem dX2_reasonAgainst_51 : decode cX2_reasonAgainst 51 = .ok (.getfield 102, 3) := by decide +kernel
theorem dX2_reasonAgainst_54 : decode cX2_reasonAgainst 54 = .ok (.ifCond .ne 5, 3) := by decide +kernel
theorem dX2_reasonAgainst_57 : decode cX2_reasonAgainst 57 = .ok (.iconst 5, 1) := by decide +kernel
theorem dX2_reasonAgainst_58 : decode cX2_reasonAgainst 58 = .ok (.ireturn, 1) := by decide +kernel
theorem dX2_reasonAgainst_59 : decode cX2_reasonAgainst 59 = .ok (.aload_n 0, 1) := by decide +kernel
theorem dX2_reasonAgainst_60 : decode cX2_reasonAgainst 60 = .ok (.aload_n 1, 1) := by decide +kernel
theorem dX2_reasonAgainst_61 : decode cX2_reasonAgainst 61 = .ok (.getfield 138, 3) := by decide +kernel
theorem dX2_reasonAgainst_64 : decode cX2_reasonAgainst 64 = .ok (.invokevirtual 164, 3) := by decide +kernel
theorem dX2_reasonAgainst_67 : decode cX2_reasonAgainst 67 = .ok (.astore_n 3, 1) := by decide +kernel
theorem dX2_reasonAgainst_68 : decode cX2_reasonAgainst 68 = .ok (.aload_n 3, 1) := by decide +kernel
theorem dX2_reasonAgainst_69 : decode cX2_reasonAgainst 69 = .ok (.getfield 102, 3) := by decide +kernel
theorem dX2_reasonAgainst_72 : decode cX2_reasonAgainst 72 = .ok (.ifCond .ne 6, 3) := by decide +kernel
theorem dX2_reasonAgainst_75 : decode cX2_reasonAgainst 75 = .ok (.bipush 6, 2) := by decide +kernel
theorem dX2_reasonAgainst_77 : decode cX2_reasonAgainst 77 = .ok (.ireturn, 1) := by decide +kernel
theorem dX2_reasonAgainst_78 : decode cX2_reasonAgainst 78 = .ok (.aload_n 0, 1) := by decide +kernel
theorem dX2_reasonAgainst_79 : decode cX2_reasonAgainst 79 = .ok (.getfield 50, 3) := by decide +kernel
theorem dX2_reasonAgainst_82 : decode cX2_reasonAgainst 82 = .ok (.aload_n 3, 1) := by decide +kernel
theorem dX2_reasonAgainst_83 : decode cX2_reasonAgainst 83 = .ok (.getfield 124, 3) := by decide +kernel
theorem dX2_reasonAgainst_86 : decode cX2_reasonAgainst 86 = .ok (.aload_n 2, 1) := by decide +kernel
theorem dX2_reasonAgainst_87 : decode cX2_reasonAgainst 87 = .ok (.getfield 124, 3) := by decide +kernel
theorem dX2_reasonAgainst_90 : decode cX2_reasonAgainst 90 = .ok (.invokestatic 125, 3) := by decide +kernel
theorem dX2_reasonAgainst_93 : decode cX2_reasonAgainst 93 = .ok (.iadd, 1) := by decide +kernel
theorem dX2_reasonAgainst_94 : decode cX2_reasonAgainst 94 = .ok (.aload_n 1, 1) := by decide +kernel
theorem dX2_reasonAgainst_95 : decode cX2_reasonAgainst 95 = .ok (.getfield 148, 3) := by decide +kernel
theorem dX2_reasonAgainst_98 : decode cX2_reasonAgainst 98 = .ok (.iadd, 1) := by decide +kernel
theorem dX2_reasonAgainst_99 : decode cX2_reasonAgainst 99 = .ok (.aload_n 1, 1) := by decide +kernel
theorem dX2_reasonAgainst_100 : decode cX2_reasonAgainst 100 = .ok (.getfield 145, 3) := by decide +kernel
theorem dX2_reasonAgainst_103 : decode cX2_reasonAgainst 103 = .ok (.if_icmp .le 8, 3) := by decide +kernel
theorem dX2_reasonAgainst_106 : decode cX2_reasonAgainst 106 = .ok (.bipush 7, 2) := by decide +kernel
theorem dX2_reasonAgainst_108 : decode cX2_reasonAgainst 108 = .ok (.goto 4, 3) := by decide +kernel
theorem dX2_reasonAgainst_111 : decode cX2_reasonAgainst 111 = .ok (.iconst 0, 1) := by decide +kernel
theorem dX2_reasonAgainst_112 : decode cX2_reasonAgainst 112 = .ok (.ireturn, 1) := by decide +kernel
set_option maxRecDepth 20000 in
theorem ggX2_bestToBegin_X2_reasonAgainst : GoodIn wsX2_bestToBegin wsX2_reasonAgainst := goodIn_r _ [6, 7, 8, 9, 10, 11, 12, 13, 14, 15, 16, 17, 18, 19, 20, 21, 22, 5, 23, 1, 24, 25, 26, 27, 28, 29, 30, 31, 32, 33, 34, 35, 36, 37, 38, 39, 40, 41, 42, 43, 44, 45, 46, 47, 48, 49, 50, 51, 52, 53, 54, 55, 56, 57, 58, 59, 60, 61, 62, 63, 64, 65, 66, 67, 68, 69, 70, 71, 72, 73, 74, 75, 76, 77, 78, 79, 80, 81, 82, 83, 84, 85, 86, 87, 88, 89, 90, 91, 110, 111, 112, 113, 114, 115, 116, 117, 118, 119, 120, 121, 122, 123, 99, 100, 101, 102, 103, 104, 105, 106, 107, 108, 109, 124, 125, 126, 127, 128, 129, 130, 131, 132, 133, 134, 135, 136, 137, 138, 139, 140] (by decide +kernel) (by decide +kernel)
set_option maxRecDepth 20000 in
theorem gX2_bestToBegin_X2_reasonAgainst : GoodIn wsX2_bestToBegin (wsV RX2 167 RX2 yX2_reasonAgainst wsX2_reasonAgainst) := goodIn_app (goodIn_of _ (by decide +kernel)) ggX2_bestToBegin_X2_reasonAgainst
set_option maxRecDepth 20000 in
theorem ggX2_bestToBegin_X3_isBetterThan : GoodIn wsX2_bestToBegin wsX3_isBetterThan := goodIn_r _ [96, 97, 98, 110, 111, 112, 113, 114, 115, 116, 117, 118, 119, 120, 121, 122, 123] (by decide +kernel) (by decide +kernel)
set_option maxRecDepth 20000 in
theorem gX2_bestToBegin_X3_isBetterThan : GoodIn wsX2_bestToBegin (wsV RX2 171 RX3 yX3_isBetterThan wsX3_isBetterThan) := goodIn_app (goodIn_of _ (by decide +kernel)) ggX2_bestToBegin_X3_isBetterThan
theorem dX2_bestToBegin_0 : decode cX2_bestToBegin 0 = .ok (.iconst (-1), 1) := by decide +kernel
theorem dX2_bestToBegin_1 : decode cX2_bestToBegin 1 = .ok (.istore_n 1, 1) := by decide +kernel
theorem dX2_bestToBegin_2 : decode cX2_bestToBegin 2 = .ok (.iconst 0, 1) := by decide +kernel
theorem dX2_bestToBegin_3 : decode cX2_bestToBegin 3 = .ok (.istore_n 2, 1) := by decide +kernel
theorem dX2_bestToBegin_4 : decode cX2_bestToBegin 4 = .ok (.iload_n 2, 1) := by decide +kernel
theorem dX2_bestToBegin_5 : decode cX2_bestToBegin 5 = .ok (.aload_n 0, 1) := by decide +kernel
theorem dX2_bestToBegin_6 : decode cX2_bestToBegin 6 = .ok (.getfield 32, 3) := by decide +kernel
theorem dX2_bestToBegin_9 : decode cX2_bestToBegin 9 = .ok (.arraylength, 1) := by decide +kernel
theorem dX2_bestToBegin_10 : decode cX2_bestToBegin 10 = .ok (.if_icmp .ge 47, 3) := by decide +kernel
theorem dX2_bestToBegin_13 : decode cX2_bestToBegin 13 = .ok (.aload_n 0, 1) := by decide +kernel
theorem dX2_bestToBegin_14 : decode cX2_bestToBegin 14 = .ok (.aload_n 0, 1) := by decide +kernel
theorem dX2_bestToBegin_15 : decode cX2_bestToBegin 15 = .ok (.getfield 32, 3) := by decide +kernel
theorem dX2_bestToBegin_18 : decode cX2_bestToBegin 18 = .ok (.iload_n 2, 1) := by decide +kernel
theorem dX2_bestToBegin_19 : decode cX2_bestToBegin 19 = .ok (.aaload, 1) := by decide +kernel
theorem dX2_bestToBegin_20 : decode cX2_bestToBegin 20 = .ok (.invokevirtual 167, 3) := by decide +kernel
theorem dX2_bestToBegin_23 : decode cX2_bestToBegin 23 = .ok (.ifCond .ne 28, 3) := by decide +kernel
theorem dX2_bestToBegin_26 : decode cX2_bestToBegin 26 = .ok (.iload_n 1, 1) := by decide +kernel
theorem dX2_bestToBegin_27 : decode cX2_bestToBegin 27 = .ok (.iconst (-1), 1) := by decide +kernel
theorem dX2_bestToBegin_28 : decode cX2_bestToBegin 28 = .ok (.if_icmp .eq 21, 3) := by decide +kernel
theorem dX2_bestToBegin_31 : decode cX2_bestToBegin 31 = .ok (.aload_n 0, 1) := by decide +kernel
theorem dX2_bestToBegin_32 : decode cX2_bestToBegin 32 = .ok (.getfield 32, 3) := by decide +kernel
theorem dX2_bestToBegin_35 : decode cX2_bestToBegin 35 = .ok (.iload_n 2, 1) := by decide +kernel
theorem dX2_bestToBegin_36 : decode cX2_bestToBegin 36 = .ok (.aaload, 1) := by decide +kernel
theorem dX2_bestToBegin_37 : decode cX2_bestToBegin 37 = .ok (.aload_n 0, 1) := by decide +kernel
theorem dX2_bestToBegin_38 : decode cX2_bestToBegin 38 = .ok (.getfield 32, 3) := by decide +kernel
theorem dX2_bestToBegin_41 : decode cX2_bestToBegin 41 = .ok (.iload_n 1, 1) := by decide +kernel
theorem dX2_bestToBegin_42 : decode cX2_bestToBegin 42 = .ok (.aaload, 1) := by decide +kernel
theorem dX2_bestToBegin_43 : decode cX2_bestToBegin 43 = .ok (.invokevirtual 171, 3) := by decide +kernel
theorem dX2_bestToBegin_46 : decode cX2_bestToBegin 46 = .ok (.ifCond .eq 5, 3) := by decide +kernel
theorem dX2_bestToBegin_49 : decode cX2_bestToBegin 49 = .ok (.iload_n 2, 1) := by decide +kernel
theorem dX2_bestToBegin_50 : decode cX2_bestToBegin 50 = .ok (.istore_n 1, 1) := by decide +kernel
theorem dX2_bestToBegin_51 : decode cX2_bestToBegin 51 = .ok (.iinc 2 1, 3) := by decide +kernel
theorem dX2_bestToBegin_54 : decode cX2_bestToBegin 54 = .ok (.goto (-50), 3) := by decide +kernel
theorem dX2_bestToBegin_57 : decode cX2_bestToBegin 57 = .ok (.iload_n 1, 1) := by decide +kernel
theorem dX2_bestToBegin_58 : decode cX2_bestToBegin 58 = .ok (.ireturn, 1) := by decide +kernel
set_option maxRecDepth 20000 in
theorem ggX2_letPass_X2_kindOfDay : GoodIn wsX2_letPass wsX2_kindOfDay := goodIn_r _ [7, 8, 9, 10, 11, 6, 12, 13, 14, 15, 16, 17, 1, 165, 166, 167, 168, 169, 170, 171, 172, 173, 174, 175] (by decide +kernel) (by decide +kernel)
set_option maxRecDepth 20000 in
theorem gX2_letPass_X2_kindOfDay : GoodIn wsX2_letPass (wsV RX2 80 RX2 yX2_kindOfDay wsX2_kindOfDay) := goodIn_app (goodIn_of _ (by decide +kernel)) ggX2_letPass_X2_kindOfDay
set_option maxRecDepth 20000 in
theorem ggX2_letPass_X2_beginHold : GoodIn wsX2_letPass wsX2_beginHold := goodIn_r _ [21, 22, 2, 23, 24, 25, 26, 27, 28, 29, 30, 31, 32, 33, 34, 35, 36, 37, 38, 39, 40, 41, 42, 165, 166, 167, 168, 169, 170, 171, 172, 173, 174, 175, 176, 177, 178, 179, 180, 181, 182, 183, 184, 185, 186, 187, 188, 189, 190, 191, 192, 193, 194, 195, 196, 197, 198, 199] (by decide +kernel) (by decide +kernel)
set_option maxRecDepth 20000 in
theorem gX2_letPass_X2_beginHold : GoodIn wsX2_letPass (wsV RX2 175 RX2 yX2_beginHold wsX2_beginHold) := goodIn_app (goodIn_of _ (by decide +kernel)) ggX2_letPass_X2_beginHold
set_option maxRecDepth 20000 in
theorem ggX2_letPass_X2_endWhatIsOver : GoodIn wsX2_letPass wsX2_endWhatIsOver := goodIn_r _ [46, 2, 23, 47, 1, 48, 49, 50, 6, 51, 52, 53, 54, 55, 56, 57, 58, 59, 60, 61, 62, 63, 3, 4, 5, 7, 8, 9, 10, 11, 12, 13, 14, 15, 16, 17, 64, 65, 66, 29, 67, 31, 33, 165, 166, 167, 168, 169, 170, 171, 172, 173, 174, 175, 176, 177, 178, 179, 180, 181, 182, 183, 184, 185, 186, 187, 188, 189, 190, 191, 192, 193, 194, 195, 196, 197, 198, 199] (by decide +kernel) (by decide +kernel)
set_option maxRecDepth 20000 in
theorem gX2_letPass_X2_endWhatIsOver : GoodIn wsX2_letPass (wsV RX2 178 RX2 yX2_endWhatIsOver wsX2_endWhatIsOver) := goodIn_app (goodIn_of _ (by decide +kernel)) ggX2_letPass_X2_endWhatIsOver
set_option maxRecDepth 20000 in
theorem ggX2_letPass_X2_bestToBegin : GoodIn wsX2_letPass wsX2_bestToBegin := goodIn_r _ [71, 2, 72, 73, 74, 6, 75, 23, 1, 76, 77, 78, 79, 80, 81, 41, 37, 42, 82, 47, 83, 84, 85, 86, 3, 4, 5, 7, 8, 9, 10, 11, 12, 13, 14, 15, 16, 17, 87, 88, 89, 90, 91, 25, 92, 93, 94, 95, 96, 97, 98, 99, 100, 101, 102, 103, 104, 105, 106, 107, 108, 109, 110, 111, 112, 65, 66, 29, 67, 31, 33, 113, 114, 115, 116, 117, 118, 119, 120, 121, 122, 123, 53, 124, 125, 126, 127, 128, 129, 130, 131, 132, 133, 134, 135, 136, 137, 138, 139, 165, 166, 167, 168, 169, 170, 171, 172, 173, 174, 175, 176, 177, 178, 179, 180, 181, 182, 183, 184, 185, 186, 187, 188, 189, 200, 201, 202, 203, 204, 205, 206, 190, 191, 192, 193, 194, 195, 196, 197, 198, 199] (by decide +kernel) (by decide +kernel)
set_option maxRecDepth 20000 in
theorem gX2_letPass_X2_bestToBegin : GoodIn wsX2_letPass (wsV RX2 181 RX2 yX2_bestToBegin wsX2_bestToBegin) := goodIn_app (goodIn_of _ (by decide +kernel)) ggX2_letPass_X2_bestToBegin
set_option maxRecDepth 20000 in
theorem ggX2_letPass_X2_begin : GoodIn wsX2_letPass wsX2_begin := goodIn_r _ [143, 79, 77, 23, 130, 54, 1, 144, 61, 82, 52, 60, 119, 120, 121, 6, 122, 123, 53, 124, 8, 125, 78, 92, 93, 94, 95, 96, 97, 98, 99, 100, 101, 102, 103, 104, 105, 106, 107, 37, 108, 109, 110, 111, 112, 65, 66, 29, 67, 31, 33, 113, 114, 115, 116, 117, 118, 126, 127, 128, 129, 131, 132, 87, 88, 89, 90, 91, 25, 145, 146, 147, 148, 149, 80, 81, 41, 42, 150, 151, 152, 153, 154, 155, 156, 27, 28, 30, 32, 34, 35, 36, 38, 39, 40, 56, 57, 58, 59, 62, 63, 3, 4, 5, 7, 9, 10, 11, 12, 13, 14, 15, 16, 17, 176, 177, 178, 179, 180, 181, 182, 183, 184, 185, 186, 187, 188, 189, 200, 201, 202, 203, 204, 205, 206, 165, 166, 167, 168, 169, 170, 171, 172, 173, 174, 175, 190, 191, 192, 193, 194, 195, 196, 197, 198, 199] (by decide +kernel) (by decide +kernel)
set_option maxRecDepth 20000 in
theorem gX2_letPass_X2_begin : GoodIn wsX2_letPass (wsV RX2 184 RX2 yX2_begin wsX2_begin) := goodIn_app (goodIn_of _ (by decide +kernel)) ggX2_letPass_X2_begin
set_option maxRecDepth 20000 in
theorem ggX2_letPass_X2_nextEvent : GoodIn wsX2_letPass wsX2_nextEvent := goodIn_r _ [160, 2, 23, 61, 52, 76, 47, 14, 15, 16, 6, 17, 1, 161, 162, 163, 164, 165, 166, 167, 168, 169, 170, 171, 172, 173, 174, 175, 176, 177, 178, 179, 180, 181, 182, 183, 184, 185, 186, 187, 188, 189] (by decide +kernel) (by decide +kernel)
set_option maxRecDepth 20000 in
theorem gX2_letPass_X2_nextEvent : GoodIn wsX2_letPass (wsV RX2 187 RX2 yX2_nextEvent wsX2_nextEvent) := goodIn_app (goodIn_of _ (by decide +kernel)) ggX2_letPass_X2_nextEvent
theorem dX2_letPass_0 : decode cX2_letPass 0 = .ok (.aload_n 0, 1) := by decide +kernel
theorem dX2_letPass_1 : decode cX2_letPass 1 = .ok (.getfield 50, 3) := by decide +kernel
theorem dX2_letPass_4 : decode cX2_letPass 4 = .ok (.istore_n 2, 1) := by decide +kernel
theorem dX2_letPass_5 : decode cX2_letPass 5 = .ok (.iload_n 2, 1) := by decide +kernel
theorem dX2_letPass_6 : decode cX2_letPass 6 = .ok (.iload_n 1, 1) := by decide +kernel
theorem dX2_letPass_7 : decode cX2_letPass 7 = .ok (.iadd, 1) := by decide +kernel
theorem dX2_letPass_8 : decode cX2_letPass 8 = .ok (.istore_n 3, 1) := by decide +kernel
theorem dX2_letPass_9 : decode cX2_letPass 9 = .ok (.iload_n 2, 1) := by decide +kernel
theorem dX2_letPass_10 : decode cX2_letPass 10 = .ok (.istore 4, 2) := by decide +kernel
theorem dX2_letPass_12 : decode cX2_letPass 12 = .ok (.iload_n 2, 1) := by decide +kernel
theorem dX2_letPass_13 : decode cX2_letPass 13 = .ok (.istore 5, 2) := by decide +kernel
theorem dX2_letPass_15 : decode cX2_letPass 15 = .ok (.iload 5, 2) := by decide +kernel
theorem dX2_letPass_17 : decode cX2_letPass 17 = .ok (.iload_n 3, 1) := by decide +kernel
theorem dX2_letPass_18 : decode cX2_letPass 18 = .ok (.if_icmp .gt 81, 3) := by decide +kernel
theorem dX2_letPass_21 : decode cX2_letPass 21 = .ok (.iload 5, 2) := by decide +kernel
theorem dX2_letPass_23 : decode cX2_letPass 23 = .ok (.iload 4, 2) := by decide +kernel
theorem dX2_letPass_25 : decode cX2_letPass 25 = .ok (.if_icmp .lt 68, 3) := by decide +kernel
theorem dX2_letPass_28 : decode cX2_letPass 28 = .ok (.aload_n 0, 1) := by decide +kernel
theorem dX2_letPass_29 : decode cX2_letPass 29 = .ok (.iload 5, 2) := by decide +kernel
theorem dX2_letPass_31 : decode cX2_letPass 31 = .ok (.putfield 50, 3) := by decide +kernel
theorem dX2_letPass_34 : decode cX2_letPass 34 = .ok (.iload 5, 2) := by decide +kernel
theorem dX2_letPass_36 : decode cX2_letPass 36 = .ok (.iload_n 2, 1) := by decide +kernel
theorem dX2_letPass_37 : decode cX2_letPass 37 = .ok (.if_icmp .le 23, 3) := by decide +kernel
theorem dX2_letPass_40 : decode cX2_letPass 40 = .ok (.iload 5, 2) := by decide +kernel
theorem dX2_letPass_42 : decode cX2_letPass 42 = .ok (.sipush 1440, 3) := by decide +kernel
theorem dX2_letPass_45 : decode cX2_letPass 45 = .ok (.irem, 1) := by decide +kernel
theorem dX2_letPass_46 : decode cX2_letPass 46 = .ok (.ifCond .ne 14, 3) := by decide +kernel
theorem dX2_letPass_49 : decode cX2_letPass 49 = .ok (.aload_n 0, 1) := by decide +kernel
theorem dX2_letPass_50 : decode cX2_letPass 50 = .ok (.invokevirtual 80, 3) := by decide +kernel
theorem dX2_letPass_53 : decode cX2_letPass 53 = .ok (.ifCond .ne 7, 3) := by decide +kernel
theorem dX2_letPass_56 : decode cX2_letPass 56 = .ok (.aload_n 0, 1) := by decide +kernel
theorem dX2_letPass_57 : decode cX2_letPass 57 = .ok (.invokevirtual 175, 3) := by decide +kernel
theorem dX2_letPass_60 : decode cX2_letPass 60 = .ok (.aload_n 0, 1) := by decide +kernel
theorem dX2_letPass_61 : decode cX2_letPass 61 = .ok (.invokevirtual 178, 3) := by decide +kernel
theorem dX2_letPass_64 : decode cX2_letPass 64 = .ok (.aload_n 0, 1) := by decide +kernel
theorem dX2_letPass_65 : decode cX2_letPass 65 = .ok (.invokevirtual 181, 3) := by decide +kernel
theorem dX2_letPass_68 : decode cX2_letPass 68 = .ok (.istore 6, 2) := by decide +kernel
theorem dX2_letPass_70 : decode cX2_letPass 70 = .ok (.iload 6, 2) := by decide +kernel
theorem dX2_letPass_72 : decode cX2_letPass 72 = .ok (.iconst (-1), 1) := by decide +kernel
theorem dX2_letPass_73 : decode cX2_letPass 73 = .ok (.if_icmp .eq 14, 3) := by decide +kernel
theorem dX2_letPass_76 : decode cX2_letPass 76 = .ok (.aload_n 0, 1) := by decide +kernel
theorem dX2_letPass_77 : decode cX2_letPass 77 = .ok (.aload_n 0, 1) := by decide +kernel
theorem dX2_letPass_78 : decode cX2_letPass 78 = .ok (.getfield 32, 3) := by decide +kernel
theorem dX2_letPass_81 : decode cX2_letPass 81 = .ok (.iload 6, 2) := by decide +kernel
theorem dX2_letPass_83 : decode cX2_letPass 83 = .ok (.aaload, 1) := by decide +kernel
theorem dX2_letPass_84 : decode cX2_letPass 84 = .ok (.invokevirtual 184, 3) := by decide +kernel
theorem dX2_letPass_87 : decode cX2_letPass 87 = .ok (.aload_n 0, 1) := by decide +kernel
theorem dX2_letPass_88 : decode cX2_letPass 88 = .ok (.invokevirtual 187, 3) := by decide +kernel
theorem dX2_letPass_91 : decode cX2_letPass 91 = .ok (.istore 4, 2) := by decide +kernel
theorem dX2_letPass_93 : decode cX2_letPass 93 = .ok (.iinc 5 1, 3) := by decide +kernel
theorem dX2_letPass_96 : decode cX2_letPass 96 = .ok (.goto (-81), 3) := by decide +kernel
theorem dX2_letPass_99 : decode cX2_letPass 99 = .ok (.aload_n 0, 1) := by decide +kernel
theorem dX2_letPass_100 : decode cX2_letPass 100 = .ok (.iload_n 3, 1) := by decide +kernel
theorem dX2_letPass_101 : decode cX2_letPass 101 = .ok (.putfield 50, 3) := by decide +kernel
theorem dX2_letPass_104 : decode cX2_letPass 104 = .ok (.return_, 1) := by decide +kernel
set_option maxRecDepth 20000 in
theorem ggX2_nextEvent_X2_day : GoodIn wsX2_nextEvent wsX2_day := goodIn_r _ [11, 12, 17, 18, 19, 20, 21, 22, 23, 24, 25, 26, 27] (by decide +kernel) (by decide +kernel)
set_option maxRecDepth 20000 in
theorem gX2_nextEvent_X2_day : GoodIn wsX2_nextEvent (wsV RX2 73 RX2 yX2_day wsX2_day) := goodIn_app (goodIn_of _ (by decide +kernel)) ggX2_nextEvent_X2_day
set_option maxRecDepth 20000 in
theorem ggX2_nextEvent_X2_sooner : GoodIn wsX2_nextEvent wsX2_sooner := goodIn_r _ [16, 12, 17, 18, 19, 20, 21, 22, 23, 24, 25, 26, 27] (by decide +kernel) (by decide +kernel)
set_option maxRecDepth 20000 in
theorem gX2_nextEvent_X2_sooner : GoodIn wsX2_nextEvent (wsV RX2 193 RX2 yX2_sooner wsX2_sooner) := goodIn_app (goodIn_of _ (by decide +kernel)) ggX2_nextEvent_X2_sooner
theorem dX2_nextEvent_0 : decode cX2_nextEvent 0 = .ok (.aload_n 0, 1) := by decide +kernel
theorem dX2_nextEvent_1 : decode cX2_nextEvent 1 = .ok (.invokevirtual 73, 3) := by decide +kernel
theorem dX2_nextEvent_4 : decode cX2_nextEvent 4 = .ok (.iconst 1, 1) := by decide +kernel
theorem dX2_nextEvent_5 : decode cX2_nextEvent 5 = .ok (.iadd, 1) := by decide +kernel
theorem dX2_nextEvent_6 : decode cX2_nextEvent 6 = .ok (.sipush 1440, 3) := by decide +kernel
theorem dX2_nextEvent_9 : decode cX2_nextEvent 9 = .ok (.imul, 1) := by decide +kernel
theorem dX2_nextEvent_10 : decode cX2_nextEvent 10 = .ok (.istore_n 1, 1) := by decide +kernel
theorem dX2_nextEvent_11 : decode cX2_nextEvent 11 = .ok (.aload_n 0, 1) := by decide +kernel
theorem dX2_nextEvent_12 : decode cX2_nextEvent 12 = .ok (.getfield 32, 3) := by decide +kernel
theorem dX2_nextEvent_15 : decode cX2_nextEvent 15 = .ok (.astore_n 2, 1) := by decide +kernel
theorem dX2_nextEvent_16 : decode cX2_nextEvent 16 = .ok (.aload_n 2, 1) := by decide +kernel
theorem dX2_nextEvent_17 : decode cX2_nextEvent 17 = .ok (.arraylength, 1) := by decide +kernel
theorem dX2_nextEvent_18 : decode cX2_nextEvent 18 = .ok (.istore_n 3, 1) := by decide +kernel
theorem dX2_nextEvent_19 : decode cX2_nextEvent 19 = .ok (.iconst 0, 1) := by decide +kernel
theorem dX2_nextEvent_20 : decode cX2_nextEvent 20 = .ok (.istore 4, 2) := by decide +kernel
theorem dX2_nextEvent_22 : decode cX2_nextEvent 22 = .ok (.iload 4, 2) := by decide +kernel
theorem dX2_nextEvent_24 : decode cX2_nextEvent 24 = .ok (.iload_n 3, 1) := by decide +kernel
theorem dX2_nextEvent_25 : decode cX2_nextEvent 25 = .ok (.if_icmp .ge 79, 3) := by decide +kernel
theorem dX2_nextEvent_28 : decode cX2_nextEvent 28 = .ok (.aload_n 2, 1) := by decide +kernel
theorem dX2_nextEvent_29 : decode cX2_nextEvent 29 = .ok (.iload 4, 2) := by decide +kernel
theorem dX2_nextEvent_31 : decode cX2_nextEvent 31 = .ok (.aaload, 1) := by decide +kernel
theorem dX2_nextEvent_32 : decode cX2_nextEvent 32 = .ok (.astore 5, 2) := by decide +kernel
theorem dX2_nextEvent_34 : decode cX2_nextEvent 34 = .ok (.aload 5, 2) := by decide +kernel
theorem dX2_nextEvent_36 : decode cX2_nextEvent 36 = .ok (.getfield 128, 3) := by decide +kernel
theorem dX2_nextEvent_39 : decode cX2_nextEvent 39 = .ok (.iconst 1, 1) := by decide +kernel
theorem dX2_nextEvent_40 : decode cX2_nextEvent 40 = .ok (.if_icmp .ne 28, 3) := by decide +kernel
theorem dX2_nextEvent_43 : decode cX2_nextEvent 43 = .ok (.aload_n 0, 1) := by decide +kernel
theorem dX2_nextEvent_44 : decode cX2_nextEvent 44 = .ok (.iload_n 1, 1) := by decide +kernel
theorem dX2_nextEvent_45 : decode cX2_nextEvent 45 = .ok (.aload 5, 2) := by decide +kernel
theorem dX2_nextEvent_47 : decode cX2_nextEvent 47 = .ok (.getfield 190, 3) := by decide +kernel
theorem dX2_nextEvent_50 : decode cX2_nextEvent 50 = .ok (.invokevirtual 193, 3) := by decide +kernel
theorem dX2_nextEvent_53 : decode cX2_nextEvent 53 = .ok (.istore_n 1, 1) := by decide +kernel
theorem dX2_nextEvent_54 : decode cX2_nextEvent 54 = .ok (.aload_n 0, 1) := by decide +kernel
theorem dX2_nextEvent_55 : decode cX2_nextEvent 55 = .ok (.iload_n 1, 1) := by decide +kernel
theorem dX2_nextEvent_56 : decode cX2_nextEvent 56 = .ok (.aload 5, 2) := by decide +kernel
theorem dX2_nextEvent_58 : decode cX2_nextEvent 58 = .ok (.getfield 131, 3) := by decide +kernel
theorem dX2_nextEvent_61 : decode cX2_nextEvent 61 = .ok (.invokevirtual 193, 3) := by decide +kernel
theorem dX2_nextEvent_64 : decode cX2_nextEvent 64 = .ok (.istore_n 1, 1) := by decide +kernel
theorem dX2_nextEvent_65 : decode cX2_nextEvent 65 = .ok (.goto 33, 3) := by decide +kernel
theorem dX2_nextEvent_68 : decode cX2_nextEvent 68 = .ok (.aload 5, 2) := by decide +kernel
theorem dX2_nextEvent_70 : decode cX2_nextEvent 70 = .ok (.getfield 128, 3) := by decide +kernel
theorem dX2_nextEvent_73 : decode cX2_nextEvent 73 = .ok (.ifCond .ne 25, 3) := by decide +kernel
theorem dX2_nextEvent_76 : decode cX2_nextEvent 76 = .ok (.aload_n 0, 1) := by decide +kernel
theorem dX2_nextEvent_77 : decode cX2_nextEvent 77 = .ok (.iload_n 1, 1) := by decide +kernel
theorem dX2_nextEvent_78 : decode cX2_nextEvent 78 = .ok (.aload 5, 2) := by decide +kernel
theorem dX2_nextEvent_80 : decode cX2_nextEvent 80 = .ok (.getfield 142, 3) := by decide +kernel
theorem dX2_nextEvent_83 : decode cX2_nextEvent 83 = .ok (.invokevirtual 193, 3) := by decide +kernel
theorem dX2_nextEvent_86 : decode cX2_nextEvent 86 = .ok (.istore_n 1, 1) := by decide +kernel
theorem dX2_nextEvent_87 : decode cX2_nextEvent 87 = .ok (.aload_n 0, 1) := by decide +kernel
theorem dX2_nextEvent_88 : decode cX2_nextEvent 88 = .ok (.iload_n 1, 1) := by decide +kernel
theorem dX2_nextEvent_89 : decode cX2_nextEvent 89 = .ok (.aload 5, 2) := by decide +kernel
theorem dX2_nextEvent_91 : decode cX2_nextEvent 91 = .ok (.getfield 145, 3) := by decide +kernel
theorem dX2_nextEvent_94 : decode cX2_nextEvent 94 = .ok (.invokevirtual 193, 3) := by decide +kernel
theorem dX2_nextEvent_97 : decode cX2_nextEvent 97 = .ok (.istore_n 1, 1) := by decide +kernel
theorem dX2_nextEvent_98 : decode cX2_nextEvent 98 = .ok (.iinc 4 1, 3) := by decide +kernel
theorem dX2_nextEvent_101 : decode cX2_nextEvent 101 = .ok (.goto (-79), 3) := by decide +kernel
theorem dX2_nextEvent_104 : decode cX2_nextEvent 104 = .ok (.iload_n 1, 1) := by decide +kernel
theorem dX2_nextEvent_105 : decode cX2_nextEvent 105 = .ok (.ireturn, 1) := by decide +kernel
theorem dX2_sooner_0 : decode cX2_sooner 0 = .ok (.iload_n 2, 1) := by decide +kernel
theorem dX2_sooner_1 : decode cX2_sooner 1 = .ok (.aload_n 0, 1) := by decide +kernel
theorem dX2_sooner_2 : decode cX2_sooner 2 = .ok (.getfield 50, 3) := by decide +kernel
theorem dX2_sooner_5 : decode cX2_sooner 5 = .ok (.if_icmp .le 12, 3) := by decide +kernel
theorem dX2_sooner_8 : decode cX2_sooner 8 = .ok (.iload_n 2, 1) := by decide +kernel
theorem dX2_sooner_9 : decode cX2_sooner 9 = .ok (.iload_n 1, 1) := by decide +kernel
theorem dX2_sooner_10 : decode cX2_sooner 10 = .ok (.if_icmp .ge 7, 3) := by decide +kernel
theorem dX2_sooner_13 : decode cX2_sooner 13 = .ok (.iload_n 2, 1) := by decide +kernel
theorem dX2_sooner_14 : decode cX2_sooner 14 = .ok (.goto 4, 3) := by decide +kernel
theorem dX2_sooner_17 : decode cX2_sooner 17 = .ok (.iload_n 1, 1) := by decide +kernel
theorem dX2_sooner_18 : decode cX2_sooner 18 = .ok (.ireturn, 1) := by decide +kernel
set_option maxRecDepth 20000 in
theorem ggX2_beginHold_X0_moveTo : GoodIn wsX2_beginHold wsX0_moveTo := goodIn_r _ [10, 11, 12, 13, 14, 15, 16, 17, 18, 19, 20, 21, 22, 48, 49, 50, 51, 52, 53, 54, 55, 56, 57] (by decide +kernel) (by decide +kernel)
set_option maxRecDepth 20000 in
theorem gX2_beginHold_X0_moveTo : GoodIn wsX2_beginHold (wsV RX2 196 RX0 yX0_moveTo wsX0_moveTo) := goodIn_app (goodIn_of _ (by decide +kernel)) ggX2_beginHold_X0_moveTo
theorem dX2_beginHold_0 : decode cX2_beginHold 0 = .ok (.aload_n 0, 1) := by decide +kernel
theorem dX2_beginHold_1 : decode cX2_beginHold 1 = .ok (.dup, 1) := by decide +kernel
theorem dX2_beginHold_2 : decode cX2_beginHold 2 = .ok (.getfield 57, 3) := by decide +kernel
theorem dX2_beginHold_5 : decode cX2_beginHold 5 = .ok (.iconst 1, 1) := by decide +kernel
theorem dX2_beginHold_6 : decode cX2_beginHold 6 = .ok (.iadd, 1) := by decide +kernel
theorem dX2_beginHold_7 : decode cX2_beginHold 7 = .ok (.putfield 57, 3) := by decide +kernel
theorem dX2_beginHold_10 : decode cX2_beginHold 10 = .ok (.aload_n 0, 1) := by decide +kernel
theorem dX2_beginHold_11 : decode cX2_beginHold 11 = .ok (.getfield 32, 3) := by decide +kernel
theorem dX2_beginHold_14 : decode cX2_beginHold 14 = .ok (.astore_n 1, 1) := by decide +kernel
theorem dX2_beginHold_15 : decode cX2_beginHold 15 = .ok (.aload_n 1, 1) := by decide +kernel
theorem dX2_beginHold_16 : decode cX2_beginHold 16 = .ok (.arraylength, 1) := by decide +kernel
theorem dX2_beginHold_17 : decode cX2_beginHold 17 = .ok (.istore_n 2, 1) := by decide +kernel
theorem dX2_beginHold_18 : decode cX2_beginHold 18 = .ok (.iconst 0, 1) := by decide +kernel
theorem dX2_beginHold_19 : decode cX2_beginHold 19 = .ok (.istore_n 3, 1) := by decide +kernel
theorem dX2_beginHold_20 : decode cX2_beginHold 20 = .ok (.iload_n 3, 1) := by decide +kernel
theorem dX2_beginHold_21 : decode cX2_beginHold 21 = .ok (.iload_n 2, 1) := by decide +kernel
theorem dX2_beginHold_22 : decode cX2_beginHold 22 = .ok (.if_icmp .ge 40, 3) := by decide +kernel
theorem dX2_beginHold_25 : decode cX2_beginHold 25 = .ok (.aload_n 1, 1) := by decide +kernel
theorem dX2_beginHold_26 : decode cX2_beginHold 26 = .ok (.iload_n 3, 1) := by decide +kernel
theorem dX2_beginHold_27 : decode cX2_beginHold 27 = .ok (.aaload, 1) := by decide +kernel
theorem dX2_beginHold_28 : decode cX2_beginHold 28 = .ok (.astore 4, 2) := by decide +kernel
theorem dX2_beginHold_30 : decode cX2_beginHold 30 = .ok (.aload 4, 2) := by decide +kernel
theorem dX2_beginHold_32 : decode cX2_beginHold 32 = .ok (.getfield 128, 3) := by decide +kernel
theorem dX2_beginHold_35 : decode cX2_beginHold 35 = .ok (.iconst 1, 1) := by decide +kernel
theorem dX2_beginHold_36 : decode cX2_beginHold 36 = .ok (.if_icmp .ne 20, 3) := by decide +kernel
theorem dX2_beginHold_39 : decode cX2_beginHold 39 = .ok (.aload 4, 2) := by decide +kernel
theorem dX2_beginHold_41 : decode cX2_beginHold 41 = .ok (.iconst 0, 1) := by decide +kernel
theorem dX2_beginHold_42 : decode cX2_beginHold 42 = .ok (.putfield 128, 3) := by decide +kernel
theorem dX2_beginHold_45 : decode cX2_beginHold 45 = .ok (.aload 4, 2) := by decide +kernel
theorem dX2_beginHold_47 : decode cX2_beginHold 47 = .ok (.dup, 1) := by decide +kernel
theorem dX2_beginHold_48 : decode cX2_beginHold 48 = .ok (.getfield 154, 3) := by decide +kernel
theorem dX2_beginHold_51 : decode cX2_beginHold 51 = .ok (.iconst 1, 1) := by decide +kernel
theorem dX2_beginHold_52 : decode cX2_beginHold 52 = .ok (.iadd, 1) := by decide +kernel
theorem dX2_beginHold_53 : decode cX2_beginHold 53 = .ok (.putfield 154, 3) := by decide +kernel
theorem dX2_beginHold_56 : decode cX2_beginHold 56 = .ok (.iinc 3 1, 3) := by decide +kernel
theorem dX2_beginHold_59 : decode cX2_beginHold 59 = .ok (.goto (-39), 3) := by decide +kernel
theorem dX2_beginHold_62 : decode cX2_beginHold 62 = .ok (.aload_n 0, 1) := by decide +kernel
theorem dX2_beginHold_63 : decode cX2_beginHold 63 = .ok (.getfield 27, 3) := by decide +kernel
theorem dX2_beginHold_66 : decode cX2_beginHold 66 = .ok (.sipush 9000, 3) := by decide +kernel
theorem dX2_beginHold_69 : decode cX2_beginHold 69 = .ok (.invokevirtual 196, 3) := by decide +kernel
theorem dX2_beginHold_72 : decode cX2_beginHold 72 = .ok (.return_, 1) := by decide +kernel
set_option maxRecDepth 20000 in
theorem ggX2_endWhatIsOver_X2_goOnWith : GoodIn wsX2_endWhatIsOver wsX2_goOnWith := goodIn_r _ [9, 4, 10, 2, 11, 12, 13, 14, 15, 16, 8, 17, 18, 19, 20, 21, 22, 23, 24, 25, 26, 27, 28, 29, 30, 31, 32, 33, 34, 35, 36, 37, 38, 39, 40, 41, 42, 43, 44, 45, 46, 47, 48, 49, 50, 51, 52, 53, 54, 55, 56, 57, 58, 59, 60, 61, 62, 63, 64, 65, 66, 67, 68, 69, 70, 71, 72, 73, 74, 75, 76, 77] (by decide +kernel) (by decide +kernel)
set_option maxRecDepth 20000 in
theorem gX2_endWhatIsOver_X2_goOnWith : GoodIn wsX2_endWhatIsOver (wsV RX2 200 RX2 yX2_goOnWith wsX2_goOnWith) := goodIn_app (goodIn_of _ (by decide +kernel)) ggX2_endWhatIsOver_X2_goOnWith
theorem dX2_endWhatIsOver_0 : decode cX2_endWhatIsOver 0 = .ok (.aload_n 0, 1) := by decide +kernel
theorem dX2_endWhatIsOver_1 : decode cX2_endWhatIsOver 1 = .ok (.getfield 32, 3) := by decide +kernel
theorem dX2_endWhatIsOver_4 : decode cX2_endWhatIsOver 4 = .ok (.astore_n 1, 1) := by decide +kernel
theorem dX2_endWhatIsOver_5 : decode cX2_endWhatIsOver 5 = .ok (.aload_n 1, 1) := by decide +kernel
theorem dX2_endWhatIsOver_6 : decode cX2_endWhatIsOver 6 = .ok (.arraylength, 1) := by decide +kernel
theorem dX2_endWhatIsOver_7 : decode cX2_endWhatIsOver 7 = .ok (.istore_n 2, 1) := by decide +kernel
theorem dX2_endWhatIsOver_8 : decode cX2_endWhatIsOver 8 = .ok (.iconst 0, 1) := by decide +kernel
theorem dX2_endWhatIsOver_9 : decode cX2_endWhatIsOver 9 = .ok (.istore_n 3, 1) := by decide +kernel
theorem dX2_endWhatIsOver_10 : decode cX2_endWhatIsOver 10 = .ok (.iload_n 3, 1) := by decide +kernel
theorem dX2_endWhatIsOver_11 : decode cX2_endWhatIsOver 11 = .ok (.iload_n 2, 1) := by decide +kernel
theorem dX2_endWhatIsOver_12 : decode cX2_endWhatIsOver 12 = .ok (.if_icmp .ge 29, 3) := by decide +kernel
theorem dX2_endWhatIsOver_15 : decode cX2_endWhatIsOver 15 = .ok (.aload_n 1, 1) := by decide +kernel
theorem dX2_endWhatIsOver_16 : decode cX2_endWhatIsOver 16 = .ok (.iload_n 3, 1) := by decide +kernel
theorem dX2_endWhatIsOver_17 : decode cX2_endWhatIsOver 17 = .ok (.aaload, 1) := by decide +kernel
theorem dX2_endWhatIsOver_18 : decode cX2_endWhatIsOver 18 = .ok (.astore 4, 2) := by decide +kernel
theorem dX2_endWhatIsOver_20 : decode cX2_endWhatIsOver 20 = .ok (.aload 4, 2) := by decide +kernel
theorem dX2_endWhatIsOver_22 : decode cX2_endWhatIsOver 22 = .ok (.getfield 128, 3) := by decide +kernel
theorem dX2_endWhatIsOver_25 : decode cX2_endWhatIsOver 25 = .ok (.iconst 1, 1) := by decide +kernel
theorem dX2_endWhatIsOver_26 : decode cX2_endWhatIsOver 26 = .ok (.if_icmp .ne 9, 3) := by decide +kernel
theorem dX2_endWhatIsOver_29 : decode cX2_endWhatIsOver 29 = .ok (.aload_n 0, 1) := by decide +kernel
theorem dX2_endWhatIsOver_30 : decode cX2_endWhatIsOver 30 = .ok (.aload 4, 2) := by decide +kernel
theorem dX2_endWhatIsOver_32 : decode cX2_endWhatIsOver 32 = .ok (.invokevirtual 200, 3) := by decide +kernel
theorem dX2_endWhatIsOver_35 : decode cX2_endWhatIsOver 35 = .ok (.iinc 3 1, 3) := by decide +kernel
theorem dX2_endWhatIsOver_38 : decode cX2_endWhatIsOver 38 = .ok (.goto (-28), 3) := by decide +kernel
theorem dX2_endWhatIsOver_41 : decode cX2_endWhatIsOver 41 = .ok (.aload_n 0, 1) := by decide +kernel
theorem dX2_endWhatIsOver_42 : decode cX2_endWhatIsOver 42 = .ok (.getfield 32, 3) := by decide +kernel
theorem dX2_endWhatIsOver_45 : decode cX2_endWhatIsOver 45 = .ok (.astore_n 1, 1) := by decide +kernel
theorem dX2_endWhatIsOver_46 : decode cX2_endWhatIsOver 46 = .ok (.aload_n 1, 1) := by decide +kernel
theorem dX2_endWhatIsOver_47 : decode cX2_endWhatIsOver 47 = .ok (.arraylength, 1) := by decide +kernel
theorem dX2_endWhatIsOver_48 : decode cX2_endWhatIsOver 48 = .ok (.istore_n 2, 1) := by decide +kernel
theorem dX2_endWhatIsOver_49 : decode cX2_endWhatIsOver 49 = .ok (.iconst 0, 1) := by decide +kernel
theorem dX2_endWhatIsOver_50 : decode cX2_endWhatIsOver 50 = .ok (.istore_n 3, 1) := by decide +kernel
theorem dX2_endWhatIsOver_51 : decode cX2_endWhatIsOver 51 = .ok (.iload_n 3, 1) := by decide +kernel
theorem dX2_endWhatIsOver_52 : decode cX2_endWhatIsOver 52 = .ok (.iload_n 2, 1) := by decide +kernel
theorem dX2_endWhatIsOver_53 : decode cX2_endWhatIsOver 53 = .ok (.if_icmp .ge 40, 3) := by decide +kernel
theorem dX2_endWhatIsOver_56 : decode cX2_endWhatIsOver 56 = .ok (.aload_n 1, 1) := by decide +kernel
theorem dX2_endWhatIsOver_57 : decode cX2_endWhatIsOver 57 = .ok (.iload_n 3, 1) := by decide +kernel
theorem dX2_endWhatIsOver_58 : decode cX2_endWhatIsOver 58 = .ok (.aaload, 1) := by decide +kernel
theorem dX2_endWhatIsOver_59 : decode cX2_endWhatIsOver 59 = .ok (.astore 4, 2) := by decide +kernel
theorem dX2_endWhatIsOver_61 : decode cX2_endWhatIsOver 61 = .ok (.aload 4, 2) := by decide +kernel
theorem dX2_endWhatIsOver_63 : decode cX2_endWhatIsOver 63 = .ok (.getfield 128, 3) := by decide +kernel
theorem dX2_endWhatIsOver_66 : decode cX2_endWhatIsOver 66 = .ok (.ifCond .ne 21, 3) := by decide +kernel
theorem dX2_endWhatIsOver_69 : decode cX2_endWhatIsOver 69 = .ok (.aload 4, 2) := by decide +kernel
theorem dX2_endWhatIsOver_71 : decode cX2_endWhatIsOver 71 = .ok (.getfield 145, 3) := by decide +kernel
theorem dX2_endWhatIsOver_74 : decode cX2_endWhatIsOver 74 = .ok (.aload_n 0, 1) := by decide +kernel
theorem dX2_endWhatIsOver_75 : decode cX2_endWhatIsOver 75 = .ok (.getfield 50, 3) := by decide +kernel
theorem dX2_endWhatIsOver_78 : decode cX2_endWhatIsOver 78 = .ok (.if_icmp .gt 9, 3) := by decide +kernel
theorem dX2_endWhatIsOver_81 : decode cX2_endWhatIsOver 81 = .ok (.aload 4, 2) := by decide +kernel
theorem dX2_endWhatIsOver_83 : decode cX2_endWhatIsOver 83 = .ok (.iconst 3, 1) := by decide +kernel
theorem dX2_endWhatIsOver_84 : decode cX2_endWhatIsOver 84 = .ok (.putfield 128, 3) := by decide +kernel
theorem dX2_endWhatIsOver_87 : decode cX2_endWhatIsOver 87 = .ok (.iinc 3 1, 3) := by decide +kernel
theorem dX2_endWhatIsOver_90 : decode cX2_endWhatIsOver 90 = .ok (.goto (-39), 3) := by decide +kernel
theorem dX2_endWhatIsOver_93 : decode cX2_endWhatIsOver 93 = .ok (.return_, 1) := by decide +kernel
set_option maxRecDepth 20000 in
theorem ggX2_goOnWith_X2_lookAtSlew : GoodIn wsX2_goOnWith wsX2_lookAtSlew := goodIn_r _ [11, 12, 1, 13, 4, 14, 15, 16, 17, 18, 10, 19, 20, 21, 22, 23, 24, 25, 26, 27, 28, 29, 48, 49, 50, 51, 52, 53, 54, 55, 56, 57, 58, 59, 60, 61, 37, 38, 39, 40, 41, 42, 43, 44, 45, 46, 47, 62, 63, 64, 65, 66, 67, 68, 69, 70, 71] (by decide +kernel) (by decide +kernel)
set_option maxRecDepth 20000 in
theorem gX2_goOnWith_X2_lookAtSlew : GoodIn wsX2_goOnWith (wsV RX2 203 RX2 yX2_lookAtSlew wsX2_lookAtSlew) := goodIn_app (goodIn_of _ (by decide +kernel)) ggX2_goOnWith_X2_lookAtSlew
set_option maxRecDepth 20000 in
theorem ggX2_goOnWith_X0_dish : GoodIn wsX2_goOnWith wsX0_dish := goodIn_r _ [34, 35, 36, 62, 63, 64, 65, 66, 67, 68, 69, 70, 71] (by decide +kernel) (by decide +kernel)
set_option maxRecDepth 20000 in
theorem gX2_goOnWith_X0_dish : GoodIn wsX2_goOnWith (wsV RX2 83 RX0 yX0_dish wsX0_dish) := goodIn_app (goodIn_of _ (by decide +kernel)) ggX2_goOnWith_X0_dish
theorem dX2_goOnWith_0 : decode cX2_goOnWith 0 = .ok (.aload_n 0, 1) := by decide +kernel
theorem dX2_goOnWith_1 : decode cX2_goOnWith 1 = .ok (.aload_n 1, 1) := by decide +kernel
theorem dX2_goOnWith_2 : decode cX2_goOnWith 2 = .ok (.invokevirtual 203, 3) := by decide +kernel
theorem dX2_goOnWith_5 : decode cX2_goOnWith 5 = .ok (.aload_n 0, 1) := by decide +kernel
theorem dX2_goOnWith_6 : decode cX2_goOnWith 6 = .ok (.getfield 50, 3) := by decide +kernel
theorem dX2_goOnWith_9 : decode cX2_goOnWith 9 = .ok (.aload_n 1, 1) := by decide +kernel
theorem dX2_goOnWith_10 : decode cX2_goOnWith 10 = .ok (.getfield 131, 3) := by decide +kernel
theorem dX2_goOnWith_13 : decode cX2_goOnWith 13 = .ok (.if_icmp .lt 24, 3) := by decide +kernel
theorem dX2_goOnWith_16 : decode cX2_goOnWith 16 = .ok (.aload_n 1, 1) := by decide +kernel
theorem dX2_goOnWith_17 : decode cX2_goOnWith 17 = .ok (.iconst 2, 1) := by decide +kernel
theorem dX2_goOnWith_18 : decode cX2_goOnWith 18 = .ok (.putfield 128, 3) := by decide +kernel
theorem dX2_goOnWith_21 : decode cX2_goOnWith 21 = .ok (.aload_n 1, 1) := by decide +kernel
theorem dX2_goOnWith_22 : decode cX2_goOnWith 22 = .ok (.aload_n 0, 1) := by decide +kernel
theorem dX2_goOnWith_23 : decode cX2_goOnWith 23 = .ok (.getfield 23, 3) := by decide +kernel
theorem dX2_goOnWith_26 : decode cX2_goOnWith 26 = .ok (.invokevirtual 83, 3) := by decide +kernel
theorem dX2_goOnWith_29 : decode cX2_goOnWith 29 = .ok (.aload_n 1, 1) := by decide +kernel
theorem dX2_goOnWith_30 : decode cX2_goOnWith 30 = .ok (.getfield 206, 3) := by decide +kernel
theorem dX2_goOnWith_33 : decode cX2_goOnWith 33 = .ok (.isub, 1) := by decide +kernel
theorem dX2_goOnWith_34 : decode cX2_goOnWith 34 = .ok (.putfield 207, 3) := by decide +kernel
theorem dX2_goOnWith_37 : decode cX2_goOnWith 37 = .ok (.return_, 1) := by decide +kernel
set_option maxRecDepth 20000 in
theorem ggX2_lookAtSlew_X2_kindOfDay : GoodIn wsX2_lookAtSlew wsX2_kindOfDay := goodIn_r _ [11, 12, 13, 14, 15, 10, 16, 17, 18, 19, 20, 21, 2, 36, 37, 38, 39, 40, 41, 42, 43, 44, 45, 46] (by decide +kernel) (by decide +kernel)
set_option maxRecDepth 20000 in
theorem gX2_lookAtSlew_X2_kindOfDay : GoodIn wsX2_lookAtSlew (wsV RX2 80 RX2 yX2_kindOfDay wsX2_kindOfDay) := goodIn_app (goodIn_of _ (by decide +kernel)) ggX2_lookAtSlew_X2_kindOfDay
set_option maxRecDepth 20000 in
theorem ggX2_lookAtSlew_X2_day : GoodIn wsX2_lookAtSlew wsX2_day := goodIn_r _ [21, 2, 36, 37, 38, 39, 40, 41, 42, 43, 44, 45, 46] (by decide +kernel) (by decide +kernel)
set_option maxRecDepth 20000 in
theorem gX2_lookAtSlew_X2_day : GoodIn wsX2_lookAtSlew (wsV RX2 73 RX2 yX2_day wsX2_day) := goodIn_app (goodIn_of _ (by decide +kernel)) ggX2_lookAtSlew_X2_day
theorem dX2_lookAtSlew_0 : decode cX2_lookAtSlew 0 = .ok (.aload_n 1, 1) := by decide +kernel
theorem dX2_lookAtSlew_1 : decode cX2_lookAtSlew 1 = .ok (.getfield 210, 3) := by decide +kernel
theorem dX2_lookAtSlew_4 : decode cX2_lookAtSlew 4 = .ok (.ifCond .ne 14, 3) := by decide +kernel
theorem dX2_lookAtSlew_7 : decode cX2_lookAtSlew 7 = .ok (.aload_n 0, 1) := by decide +kernel
theorem dX2_lookAtSlew_8 : decode cX2_lookAtSlew 8 = .ok (.getfield 50, 3) := by decide +kernel
theorem dX2_lookAtSlew_11 : decode cX2_lookAtSlew 11 = .ok (.aload_n 1, 1) := by decide +kernel
theorem dX2_lookAtSlew_12 : decode cX2_lookAtSlew 12 = .ok (.getfield 190, 3) := by decide +kernel
theorem dX2_lookAtSlew_15 : decode cX2_lookAtSlew 15 = .ok (.if_icmp .ge 4, 3) := by decide +kernel
theorem dX2_lookAtSlew_18 : decode cX2_lookAtSlew 18 = .ok (.return_, 1) := by decide +kernel
theorem dX2_lookAtSlew_19 : decode cX2_lookAtSlew 19 = .ok (.aload_n 1, 1) := by decide +kernel
theorem dX2_lookAtSlew_20 : decode cX2_lookAtSlew 20 = .ok (.iconst 1, 1) := by decide +kernel
theorem dX2_lookAtSlew_21 : decode cX2_lookAtSlew 21 = .ok (.putfield 210, 3) := by decide +kernel
theorem dX2_lookAtSlew_24 : decode cX2_lookAtSlew 24 = .ok (.aload_n 0, 1) := by decide +kernel
theorem dX2_lookAtSlew_25 : decode cX2_lookAtSlew 25 = .ok (.invokevirtual 80, 3) := by decide +kernel
theorem dX2_lookAtSlew_28 : decode cX2_lookAtSlew 28 = .ok (.iconst 1, 1) := by decide +kernel
theorem dX2_lookAtSlew_29 : decode cX2_lookAtSlew 29 = .ok (.if_icmp .ne 30, 3) := by decide +kernel
theorem dX2_lookAtSlew_32 : decode cX2_lookAtSlew 32 = .ok (.aload_n 0, 1) := by decide +kernel
theorem dX2_lookAtSlew_33 : decode cX2_lookAtSlew 33 = .ok (.getfield 23, 3) := by decide +kernel
theorem dX2_lookAtSlew_36 : decode cX2_lookAtSlew 36 = .ok (.aload_n 0, 1) := by decide +kernel
theorem dX2_lookAtSlew_37 : decode cX2_lookAtSlew 37 = .ok (.invokevirtual 73, 3) := by decide +kernel
theorem dX2_lookAtSlew_40 : decode cX2_lookAtSlew 40 = .ok (.iconst 2, 1) := by decide +kernel
theorem dX2_lookAtSlew_41 : decode cX2_lookAtSlew 41 = .ok (.irem, 1) := by decide +kernel
theorem dX2_lookAtSlew_42 : decode cX2_lookAtSlew 42 = .ok (.ifCond .ne 7, 3) := by decide +kernel
theorem dX2_lookAtSlew_45 : decode cX2_lookAtSlew 45 = .ok (.iconst 0, 1) := by decide +kernel
theorem dX2_lookAtSlew_46 : decode cX2_lookAtSlew 46 = .ok (.goto 10, 3) := by decide +kernel
theorem dX2_lookAtSlew_49 : decode cX2_lookAtSlew 49 = .ok (.aload_n 0, 1) := by decide +kernel
theorem dX2_lookAtSlew_50 : decode cX2_lookAtSlew 50 = .ok (.getfield 23, 3) := by decide +kernel
theorem dX2_lookAtSlew_53 : decode cX2_lookAtSlew 53 = .ok (.getfield 213, 3) := by decide +kernel
theorem dX2_lookAtSlew_56 : decode cX2_lookAtSlew 56 = .ok (.putfield 216, 3) := by decide +kernel
theorem dX2_lookAtSlew_59 : decode cX2_lookAtSlew 59 = .ok (.return_, 1) := by decide +kernel
set_option maxRecDepth 20000 in
theorem ggX2_begin_X2_wayAround : GoodIn wsX2_begin wsX2_wayAround := goodIn_r _ [16, 17, 18, 19, 20, 21, 22, 23, 24, 25, 26, 27, 28, 29, 30, 31, 32, 33, 34, 35, 36, 37, 38, 39, 40, 41, 42, 43, 44, 45, 46, 47, 48, 49, 50, 51, 52, 53, 54, 55, 56, 57, 58, 59, 15, 60, 4, 61, 62, 135, 136, 137, 138, 139, 140, 141, 142, 143, 144, 145, 128, 129, 130, 131, 132, 133, 134, 146, 147, 148, 149, 150, 151, 152, 153, 154, 155] (by decide +kernel) (by decide +kernel)
set_option maxRecDepth 20000 in
theorem gX2_begin_X2_wayAround : GoodIn wsX2_begin (wsV RX2 164 RX2 yX2_wayAround wsX2_wayAround) := goodIn_app (goodIn_of _ (by decide +kernel)) ggX2_begin_X2_wayAround
set_option maxRecDepth 20000 in
theorem ggX2_begin_X2_wayRise : GoodIn wsX2_begin wsX2_wayRise := goodIn_r _ [66, 67, 68, 20, 23, 24, 25, 26, 27, 28, 29, 30, 31, 32, 33, 34, 35, 36, 37, 38, 39, 40, 41, 42, 43, 44, 45, 46, 47, 48, 49, 50, 51, 52, 53, 54, 55, 56, 135, 136, 137, 138, 139, 140, 141, 142, 143, 144, 145, 128, 129, 130, 131, 132, 133, 134, 146, 147, 148, 149, 150, 151, 152, 153, 154, 155] (by decide +kernel) (by decide +kernel)
set_option maxRecDepth 20000 in
theorem gX2_begin_X2_wayRise : GoodIn wsX2_begin (wsV RX2 160 RX2 yX2_wayRise wsX2_wayRise) := goodIn_app (goodIn_of _ (by decide +kernel)) ggX2_begin_X2_wayRise
set_option maxRecDepth 20000 in
theorem ggX2_begin_X2_followWays : GoodIn wsX2_begin wsX2_followWays := goodIn_r _ [72, 18, 68, 73, 74, 75, 76, 39, 77, 78, 79, 80, 47, 81, 82, 83, 84, 85, 86, 87, 49, 88, 50, 89, 90, 91, 92, 93, 94, 135, 136, 137, 138, 139, 140, 141, 142, 143, 144, 145, 128, 129, 130, 131, 132, 133, 134, 146, 147, 148, 149, 150, 151, 152, 153, 154, 155] (by decide +kernel) (by decide +kernel)
set_option maxRecDepth 20000 in
theorem gX2_begin_X2_followWays : GoodIn wsX2_begin (wsV RX2 222 RX2 yX2_followWays wsX2_followWays) := goodIn_app (goodIn_of _ (by decide +kernel)) ggX2_begin_X2_followWays
set_option maxRecDepth 20000 in
theorem ggX2_begin_X2_lookAtSlew : GoodIn wsX2_begin wsX2_lookAtSlew := goodIn_r _ [98, 11, 6, 8, 18, 99, 100, 101, 102, 103, 15, 104, 20, 105, 106, 107, 108, 109, 110, 111, 112, 113, 114, 115, 116, 117, 118, 119, 120, 121, 122, 123, 124, 125, 126, 127, 135, 136, 137, 138, 139, 140, 141, 142, 143, 144, 145, 146, 147, 148, 149, 150, 151, 152, 153, 154, 155] (by decide +kernel) (by decide +kernel)
set_option maxRecDepth 20000 in
theorem gX2_begin_X2_lookAtSlew : GoodIn wsX2_begin (wsV RX2 203 RX2 yX2_lookAtSlew wsX2_lookAtSlew) := goodIn_app (goodIn_of _ (by decide +kernel)) ggX2_begin_X2_lookAtSlew
theorem dX2_begin_0 : decode cX2_begin 0 = .ok (.aload_n 0, 1) := by decide +kernel
theorem dX2_begin_1 : decode cX2_begin 1 = .ok (.aload_n 1, 1) := by decide +kernel
theorem dX2_begin_2 : decode cX2_begin 2 = .ok (.getfield 138, 3) := by decide +kernel
theorem dX2_begin_5 : decode cX2_begin 5 = .ok (.invokevirtual 164, 3) := by decide +kernel
theorem dX2_begin_8 : decode cX2_begin 8 = .ok (.astore_n 2, 1) := by decide +kernel
theorem dX2_begin_9 : decode cX2_begin 9 = .ok (.aload_n 0, 1) := by decide +kernel
theorem dX2_begin_10 : decode cX2_begin 10 = .ok (.aload_n 1, 1) := by decide +kernel
theorem dX2_begin_11 : decode cX2_begin 11 = .ok (.getfield 140, 3) := by decide +kernel
theorem dX2_begin_14 : decode cX2_begin 14 = .ok (.invokevirtual 160, 3) := by decide +kernel
theorem dX2_begin_17 : decode cX2_begin 17 = .ok (.astore_n 3, 1) := by decide +kernel
theorem dX2_begin_18 : decode cX2_begin 18 = .ok (.aload_n 1, 1) := by decide +kernel
theorem dX2_begin_19 : decode cX2_begin 19 = .ok (.iconst 1, 1) := by decide +kernel
theorem dX2_begin_20 : decode cX2_begin 20 = .ok (.putfield 128, 3) := by decide +kernel
theorem dX2_begin_23 : decode cX2_begin 23 = .ok (.aload_n 1, 1) := by decide +kernel
theorem dX2_begin_24 : decode cX2_begin 24 = .ok (.aload_n 2, 1) := by decide +kernel
theorem dX2_begin_25 : decode cX2_begin 25 = .ok (.getfield 110, 3) := by decide +kernel
theorem dX2_begin_28 : decode cX2_begin 28 = .ok (.putfield 206, 3) := by decide +kernel
theorem dX2_begin_31 : decode cX2_begin 31 = .ok (.aload_n 1, 1) := by decide +kernel
theorem dX2_begin_32 : decode cX2_begin 32 = .ok (.aload_n 0, 1) := by decide +kernel
theorem dX2_begin_33 : decode cX2_begin 33 = .ok (.getfield 50, 3) := by decide +kernel
theorem dX2_begin_36 : decode cX2_begin 36 = .ok (.putfield 219, 3) := by decide +kernel
theorem dX2_begin_39 : decode cX2_begin 39 = .ok (.aload_n 1, 1) := by decide +kernel
theorem dX2_begin_40 : decode cX2_begin 40 = .ok (.aload_n 0, 1) := by decide +kernel
theorem dX2_begin_41 : decode cX2_begin 41 = .ok (.getfield 50, 3) := by decide +kernel
theorem dX2_begin_44 : decode cX2_begin 44 = .ok (.aload_n 0, 1) := by decide +kernel
theorem dX2_begin_45 : decode cX2_begin 45 = .ok (.aload_n 2, 1) := by decide +kernel
theorem dX2_begin_46 : decode cX2_begin 46 = .ok (.aload_n 3, 1) := by decide +kernel
theorem dX2_begin_47 : decode cX2_begin 47 = .ok (.invokevirtual 222, 3) := by decide +kernel
theorem dX2_begin_50 : decode cX2_begin 50 = .ok (.iadd, 1) := by decide +kernel
theorem dX2_begin_51 : decode cX2_begin 51 = .ok (.putfield 190, 3) := by decide +kernel
theorem dX2_begin_54 : decode cX2_begin 54 = .ok (.aload_n 1, 1) := by decide +kernel
theorem dX2_begin_55 : decode cX2_begin 55 = .ok (.aload_n 1, 1) := by decide +kernel
theorem dX2_begin_56 : decode cX2_begin 56 = .ok (.getfield 190, 3) := by decide +kernel
theorem dX2_begin_59 : decode cX2_begin 59 = .ok (.aload_n 1, 1) := by decide +kernel
theorem dX2_begin_60 : decode cX2_begin 60 = .ok (.getfield 148, 3) := by decide +kernel
theorem dX2_begin_63 : decode cX2_begin 63 = .ok (.iadd, 1) := by decide +kernel
theorem dX2_begin_64 : decode cX2_begin 64 = .ok (.putfield 131, 3) := by decide +kernel
theorem dX2_begin_67 : decode cX2_begin 67 = .ok (.aload_n 1, 1) := by decide +kernel
theorem dX2_begin_68 : decode cX2_begin 68 = .ok (.iconst 0, 1) := by decide +kernel
theorem dX2_begin_69 : decode cX2_begin 69 = .ok (.putfield 210, 3) := by decide +kernel
theorem dX2_begin_72 : decode cX2_begin 72 = .ok (.aload_n 0, 1) := by decide +kernel
theorem dX2_begin_73 : decode cX2_begin 73 = .ok (.aload_n 1, 1) := by decide +kernel
theorem dX2_begin_74 : decode cX2_begin 74 = .ok (.invokevirtual 203, 3) := by decide +kernel
theorem dX2_begin_77 : decode cX2_begin 77 = .ok (.return_, 1) := by decide +kernel
theorem dX3_init_0 : decode cX3_init 0 = .ok (.aload_n 0, 1) := by decide +kernel
theorem dX3_init_1 : decode cX3_init 1 = .ok (.invokespecial 3, 3) := by decide +kernel
theorem dX3_init_4 : decode cX3_init 4 = .ok (.aload_n 0, 1) := by decide +kernel
theorem dX3_init_5 : decode cX3_init 5 = .ok (.iconst 4, 1) := by decide +kernel
theorem dX3_init_6 : decode cX3_init 6 = .ok (.putfield 9, 3) := by decide +kernel
theorem dX3_init_9 : decode cX3_init 9 = .ok (.return_, 1) := by decide +kernel
theorem dX3_copyFrom_0 : decode cX3_copyFrom 0 = .ok (.aload_n 0, 1) := by decide +kernel
theorem dX3_copyFrom_1 : decode cX3_copyFrom 1 = .ok (.aload_n 1, 1) := by decide +kernel
theorem dX3_copyFrom_2 : decode cX3_copyFrom 2 = .ok (.getfield 15, 3) := by decide +kernel
theorem dX3_copyFrom_5 : decode cX3_copyFrom 5 = .ok (.putfield 15, 3) := by decide +kernel
theorem dX3_copyFrom_8 : decode cX3_copyFrom 8 = .ok (.aload_n 0, 1) := by decide +kernel
theorem dX3_copyFrom_9 : decode cX3_copyFrom 9 = .ok (.aload_n 1, 1) := by decide +kernel
theorem dX3_copyFrom_10 : decode cX3_copyFrom 10 = .ok (.getfield 18, 3) := by decide +kernel
theorem dX3_copyFrom_13 : decode cX3_copyFrom 13 = .ok (.putfield 18, 3) := by decide +kernel
theorem dX3_copyFrom_16 : decode cX3_copyFrom 16 = .ok (.aload_n 0, 1) := by decide +kernel
theorem dX3_copyFrom_17 : decode cX3_copyFrom 17 = .ok (.aload_n 1, 1) := by decide +kernel
theorem dX3_copyFrom_18 : decode cX3_copyFrom 18 = .ok (.getfield 21, 3) := by decide +kernel
theorem dX3_copyFrom_21 : decode cX3_copyFrom 21 = .ok (.putfield 21, 3) := by decide +kernel
theorem dX3_copyFrom_24 : decode cX3_copyFrom 24 = .ok (.aload_n 0, 1) := by decide +kernel
theorem dX3_copyFrom_25 : decode cX3_copyFrom 25 = .ok (.aload_n 1, 1) := by decide +kernel
theorem dX3_copyFrom_26 : decode cX3_copyFrom 26 = .ok (.getfield 24, 3) := by decide +kernel
theorem dX3_copyFrom_29 : decode cX3_copyFrom 29 = .ok (.putfield 24, 3) := by decide +kernel
theorem dX3_copyFrom_32 : decode cX3_copyFrom 32 = .ok (.aload_n 0, 1) := by decide +kernel
theorem dX3_copyFrom_33 : decode cX3_copyFrom 33 = .ok (.aload_n 1, 1) := by decide +kernel
theorem dX3_copyFrom_34 : decode cX3_copyFrom 34 = .ok (.getfield 27, 3) := by decide +kernel
theorem dX3_copyFrom_37 : decode cX3_copyFrom 37 = .ok (.putfield 27, 3) := by decide +kernel
theorem dX3_copyFrom_40 : decode cX3_copyFrom 40 = .ok (.aload_n 0, 1) := by decide +kernel
theorem dX3_copyFrom_41 : decode cX3_copyFrom 41 = .ok (.aload_n 1, 1) := by decide +kernel
theorem dX3_copyFrom_42 : decode cX3_copyFrom 42 = .ok (.getfield 30, 3) := by decide +kernel
theorem dX3_copyFrom_45 : decode cX3_copyFrom 45 = .ok (.putfield 30, 3) := by decide +kernel
theorem dX3_copyFrom_48 : decode cX3_copyFrom 48 = .ok (.aload_n 0, 1) := by decide +kernel
theorem dX3_copyFrom_49 : decode cX3_copyFrom 49 = .ok (.aload_n 1, 1) := by decide +kernel
theorem dX3_copyFrom_50 : decode cX3_copyFrom 50 = .ok (.getfield 9, 3) := by decide +kernel
theorem dX3_copyFrom_53 : decode cX3_copyFrom 53 = .ok (.putfield 9, 3) := by decide +kernel
theorem dX3_copyFrom_56 : decode cX3_copyFrom 56 = .ok (.aload_n 0, 1) := by decide +kernel
theorem dX3_copyFrom_57 : decode cX3_copyFrom 57 = .ok (.aload_n 1, 1) := by decide +kernel
theorem dX3_copyFrom_58 : decode cX3_copyFrom 58 = .ok (.getfield 33, 3) := by decide +kernel
theorem dX3_copyFrom_61 : decode cX3_copyFrom 61 = .ok (.putfield 33, 3) := by decide +kernel
theorem dX3_copyFrom_64 : decode cX3_copyFrom 64 = .ok (.aload_n 0, 1) := by decide +kernel
theorem dX3_copyFrom_65 : decode cX3_copyFrom 65 = .ok (.aload_n 1, 1) := by decide +kernel
theorem dX3_copyFrom_66 : decode cX3_copyFrom 66 = .ok (.getfield 36, 3) := by decide +kernel
theorem dX3_copyFrom_69 : decode cX3_copyFrom 69 = .ok (.putfield 36, 3) := by decide +kernel
theorem dX3_copyFrom_72 : decode cX3_copyFrom 72 = .ok (.aload_n 0, 1) := by decide +kernel
theorem dX3_copyFrom_73 : decode cX3_copyFrom 73 = .ok (.aload_n 1, 1) := by decide +kernel
theorem dX3_copyFrom_74 : decode cX3_copyFrom 74 = .ok (.getfield 39, 3) := by decide +kernel
theorem dX3_copyFrom_77 : decode cX3_copyFrom 77 = .ok (.putfield 39, 3) := by decide +kernel
theorem dX3_copyFrom_80 : decode cX3_copyFrom 80 = .ok (.aload_n 0, 1) := by decide +kernel
theorem dX3_copyFrom_81 : decode cX3_copyFrom 81 = .ok (.aload_n 1, 1) := by decide +kernel
theorem dX3_copyFrom_82 : decode cX3_copyFrom 82 = .ok (.getfield 42, 3) := by decide +kernel
theorem dX3_copyFrom_85 : decode cX3_copyFrom 85 = .ok (.putfield 42, 3) := by decide +kernel
theorem dX3_copyFrom_88 : decode cX3_copyFrom 88 = .ok (.aload_n 0, 1) := by decide +kernel
theorem dX3_copyFrom_89 : decode cX3_copyFrom 89 = .ok (.aload_n 1, 1) := by decide +kernel
theorem dX3_copyFrom_90 : decode cX3_copyFrom 90 = .ok (.getfield 45, 3) := by decide +kernel
theorem dX3_copyFrom_93 : decode cX3_copyFrom 93 = .ok (.putfield 45, 3) := by decide +kernel
theorem dX3_copyFrom_96 : decode cX3_copyFrom 96 = .ok (.aload_n 0, 1) := by decide +kernel
theorem dX3_copyFrom_97 : decode cX3_copyFrom 97 = .ok (.aload_n 1, 1) := by decide +kernel
theorem dX3_copyFrom_98 : decode cX3_copyFrom 98 = .ok (.getfield 48, 3) := by decide +kernel
theorem dX3_copyFrom_101 : decode cX3_copyFrom 101 = .ok (.putfield 48, 3) := by decide +kernel
theorem dX3_copyFrom_104 : decode cX3_copyFrom 104 = .ok (.aload_n 0, 1) := by decide +kernel
theorem dX3_copyFrom_105 : decode cX3_copyFrom 105 = .ok (.aload_n 1, 1) := by decide +kernel
theorem dX3_copyFrom_106 : decode cX3_copyFrom 106 = .ok (.getfield 51, 3) := by decide +kernel
theorem dX3_copyFrom_109 : decode cX3_copyFrom 109 = .ok (.putfield 51, 3) := by decide +kernel
theorem dX3_copyFrom_112 : decode cX3_copyFrom 112 = .ok (.return_, 1) := by decide +kernel
set_option maxRecDepth 20000 in
theorem ggX3_tell_X3_ifBegun : GoodIn wsX3_tell wsX3_ifBegun := goodIn_r _ [20, 7, 12, 21, 22, 23, 24, 25, 26, 27, 28, 29, 30, 31, 32, 33, 34] (by decide +kernel) (by decide +kernel)
set_option maxRecDepth 20000 in
theorem gX3_tell_X3_ifBegun : GoodIn wsX3_tell (wsV RX3 55 RX3 yX3_ifBegun wsX3_ifBegun) := goodIn_app (goodIn_of _ (by decide +kernel)) ggX3_tell_X3_ifBegun
theorem dX3_tell_0 : decode cX3_tell 0 = .ok (.iload_n 1, 1) := by decide +kernel
theorem dX3_tell_1 : decode cX3_tell 1 = .ok (.tableswitch 161 0 12 #[67, 72, 77, 82, 87, 92, 97, 102, 111, 120, 129, 147, 152], 67) := by decide +kernel
theorem dX3_tell_68 : decode cX3_tell 68 = .ok (.aload_n 0, 1) := by decide +kernel
theorem dX3_tell_69 : decode cX3_tell 69 = .ok (.getfield 15, 3) := by decide +kernel
theorem dX3_tell_72 : decode cX3_tell 72 = .ok (.ireturn, 1) := by decide +kernel
theorem dX3_tell_73 : decode cX3_tell 73 = .ok (.aload_n 0, 1) := by decide +kernel
theorem dX3_tell_74 : decode cX3_tell 74 = .ok (.getfield 18, 3) := by decide +kernel
theorem dX3_tell_77 : decode cX3_tell 77 = .ok (.ireturn, 1) := by decide +kernel
theorem dX3_tell_78 : decode cX3_tell 78 = .ok (.aload_n 0, 1) := by decide +kernel
theorem dX3_tell_79 : decode cX3_tell 79 = .ok (.getfield 21, 3) := by decide +kernel
theorem dX3_tell_82 : decode cX3_tell 82 = .ok (.ireturn, 1) := by decide +kernel
theorem dX3_tell_83 : decode cX3_tell 83 = .ok (.aload_n 0, 1) := by decide +kernel
theorem dX3_tell_84 : decode cX3_tell 84 = .ok (.getfield 24, 3) := by decide +kernel
theorem dX3_tell_87 : decode cX3_tell 87 = .ok (.ireturn, 1) := by decide +kernel
theorem dX3_tell_88 : decode cX3_tell 88 = .ok (.aload_n 0, 1) := by decide +kernel
theorem dX3_tell_89 : decode cX3_tell 89 = .ok (.getfield 27, 3) := by decide +kernel
theorem dX3_tell_92 : decode cX3_tell 92 = .ok (.ireturn, 1) := by decide +kernel
theorem dX3_tell_93 : decode cX3_tell 93 = .ok (.aload_n 0, 1) := by decide +kernel
theorem dX3_tell_94 : decode cX3_tell 94 = .ok (.getfield 30, 3) := by decide +kernel
theorem dX3_tell_97 : decode cX3_tell 97 = .ok (.ireturn, 1) := by decide +kernel
theorem dX3_tell_98 : decode cX3_tell 98 = .ok (.aload_n 0, 1) := by decide +kernel
theorem dX3_tell_99 : decode cX3_tell 99 = .ok (.getfield 9, 3) := by decide +kernel
theorem dX3_tell_102 : decode cX3_tell 102 = .ok (.ireturn, 1) := by decide +kernel
theorem dX3_tell_103 : decode cX3_tell 103 = .ok (.aload_n 0, 1) := by decide +kernel
theorem dX3_tell_104 : decode cX3_tell 104 = .ok (.aload_n 0, 1) := by decide +kernel
theorem dX3_tell_105 : decode cX3_tell 105 = .ok (.getfield 33, 3) := by decide +kernel
theorem dX3_tell_108 : decode cX3_tell 108 = .ok (.invokevirtual 55, 3) := by decide +kernel
theorem dX3_tell_111 : decode cX3_tell 111 = .ok (.ireturn, 1) := by decide +kernel
theorem dX3_tell_112 : decode cX3_tell 112 = .ok (.aload_n 0, 1) := by decide +kernel
theorem dX3_tell_113 : decode cX3_tell 113 = .ok (.aload_n 0, 1) := by decide +kernel
theorem dX3_tell_114 : decode cX3_tell 114 = .ok (.getfield 36, 3) := by decide +kernel
theorem dX3_tell_117 : decode cX3_tell 117 = .ok (.invokevirtual 55, 3) := by decide +kernel
theorem dX3_tell_120 : decode cX3_tell 120 = .ok (.ireturn, 1) := by decide +kernel
theorem dX3_tell_121 : decode cX3_tell 121 = .ok (.aload_n 0, 1) := by decide +kernel
theorem dX3_tell_122 : decode cX3_tell 122 = .ok (.aload_n 0, 1) := by decide +kernel
theorem dX3_tell_123 : decode cX3_tell 123 = .ok (.getfield 39, 3) := by decide +kernel
theorem dX3_tell_126 : decode cX3_tell 126 = .ok (.invokevirtual 55, 3) := by decide +kernel
theorem dX3_tell_129 : decode cX3_tell 129 = .ok (.ireturn, 1) := by decide +kernel
theorem dX3_tell_130 : decode cX3_tell 130 = .ok (.aload_n 0, 1) := by decide +kernel
theorem dX3_tell_131 : decode cX3_tell 131 = .ok (.getfield 9, 3) := by decide +kernel
theorem dX3_tell_134 : decode cX3_tell 134 = .ok (.iconst 2, 1) := by decide +kernel
theorem dX3_tell_135 : decode cX3_tell 135 = .ok (.if_icmp .ne 10, 3) := by decide +kernel
theorem dX3_tell_138 : decode cX3_tell 138 = .ok (.aload_n 0, 1) := by decide +kernel
theorem dX3_tell_139 : decode cX3_tell 139 = .ok (.getfield 42, 3) := by decide +kernel
theorem dX3_tell_142 : decode cX3_tell 142 = .ok (.goto 5, 3) := by decide +kernel
theorem dX3_tell_145 : decode cX3_tell 145 = .ok (.ldc 59, 2) := by decide +kernel
theorem dX3_tell_147 : decode cX3_tell 147 = .ok (.ireturn, 1) := by decide +kernel
theorem dX3_tell_148 : decode cX3_tell 148 = .ok (.aload_n 0, 1) := by decide +kernel
theorem dX3_tell_149 : decode cX3_tell 149 = .ok (.getfield 45, 3) := by decide +kernel
theorem dX3_tell_152 : decode cX3_tell 152 = .ok (.ireturn, 1) := by decide +kernel
theorem dX3_tell_153 : decode cX3_tell 153 = .ok (.aload_n 0, 1) := by decide +kernel
theorem dX3_tell_154 : decode cX3_tell 154 = .ok (.aload_n 0, 1) := by decide +kernel
theorem dX3_tell_155 : decode cX3_tell 155 = .ok (.getfield 48, 3) := by decide +kernel
theorem dX3_tell_158 : decode cX3_tell 158 = .ok (.invokevirtual 55, 3) := by decide +kernel
theorem dX3_tell_161 : decode cX3_tell 161 = .ok (.ireturn, 1) := by decide +kernel
theorem dX3_tell_162 : decode cX3_tell 162 = .ok (.ldc 60, 2) := by decide +kernel
theorem dX3_tell_164 : decode cX3_tell 164 = .ok (.ireturn, 1) := by decide +kernel
theorem dX3_ifBegun_0 : decode cX3_ifBegun 0 = .ok (.aload_n 0, 1) := by decide +kernel
theorem dX3_ifBegun_1 : decode cX3_ifBegun 1 = .ok (.getfield 9, 3) := by decide +kernel
theorem dX3_ifBegun_4 : decode cX3_ifBegun 4 = .ok (.iconst 1, 1) := by decide +kernel
theorem dX3_ifBegun_5 : decode cX3_ifBegun 5 = .ok (.if_icmp .eq 11, 3) := by decide +kernel
theorem dX3_ifBegun_8 : decode cX3_ifBegun 8 = .ok (.aload_n 0, 1) := by decide +kernel
theorem dX3_ifBegun_9 : decode cX3_ifBegun 9 = .ok (.getfield 9, 3) := by decide +kernel
theorem dX3_ifBegun_12 : decode cX3_ifBegun 12 = .ok (.iconst 2, 1) := by decide +kernel
theorem dX3_ifBegun_13 : decode cX3_ifBegun 13 = .ok (.if_icmp .ne 7, 3) := by decide +kernel
theorem dX3_ifBegun_16 : decode cX3_ifBegun 16 = .ok (.iload_n 1, 1) := by decide +kernel
theorem dX3_ifBegun_17 : decode cX3_ifBegun 17 = .ok (.goto 5, 3) := by decide +kernel
theorem dX3_ifBegun_20 : decode cX3_ifBegun 20 = .ok (.ldc 59, 2) := by decide +kernel
theorem dX3_ifBegun_22 : decode cX3_ifBegun 22 = .ok (.ireturn, 1) := by decide +kernel
theorem dX3_isBetterThan_0 : decode cX3_isBetterThan 0 = .ok (.aload_n 0, 1) := by decide +kernel
theorem dX3_isBetterThan_1 : decode cX3_isBetterThan 1 = .ok (.getfield 30, 3) := by decide +kernel
theorem dX3_isBetterThan_4 : decode cX3_isBetterThan 4 = .ok (.aload_n 1, 1) := by decide +kernel
theorem dX3_isBetterThan_5 : decode cX3_isBetterThan 5 = .ok (.getfield 30, 3) := by decide +kernel
theorem dX3_isBetterThan_8 : decode cX3_isBetterThan 8 = .ok (.if_icmp .eq 20, 3) := by decide +kernel
theorem dX3_isBetterThan_11 : decode cX3_isBetterThan 11 = .ok (.aload_n 0, 1) := by decide +kernel
theorem dX3_isBetterThan_12 : decode cX3_isBetterThan 12 = .ok (.getfield 30, 3) := by decide +kernel
theorem dX3_isBetterThan_15 : decode cX3_isBetterThan 15 = .ok (.aload_n 1, 1) := by decide +kernel
theorem dX3_isBetterThan_16 : decode cX3_isBetterThan 16 = .ok (.getfield 30, 3) := by decide +kernel
theorem dX3_isBetterThan_19 : decode cX3_isBetterThan 19 = .ok (.if_icmp .le 7, 3) := by decide +kernel
theorem dX3_isBetterThan_22 : decode cX3_isBetterThan 22 = .ok (.iconst 1, 1) := by decide +kernel
theorem dX3_isBetterThan_23 : decode cX3_isBetterThan 23 = .ok (.goto 4, 3) := by decide +kernel
theorem dX3_isBetterThan_26 : decode cX3_isBetterThan 26 = .ok (.iconst 0, 1) := by decide +kernel
theorem dX3_isBetterThan_27 : decode cX3_isBetterThan 27 = .ok (.ireturn, 1) := by decide +kernel
theorem dX3_isBetterThan_28 : decode cX3_isBetterThan 28 = .ok (.aload_n 0, 1) := by decide +kernel
theorem dX3_isBetterThan_29 : decode cX3_isBetterThan 29 = .ok (.getfield 24, 3) := by decide +kernel
theorem dX3_isBetterThan_32 : decode cX3_isBetterThan 32 = .ok (.aload_n 1, 1) := by decide +kernel
theorem dX3_isBetterThan_33 : decode cX3_isBetterThan 33 = .ok (.getfield 24, 3) := by decide +kernel
theorem dX3_isBetterThan_36 : decode cX3_isBetterThan 36 = .ok (.if_icmp .ge 7, 3) := by decide +kernel
theorem dX3_isBetterThan_39 : decode cX3_isBetterThan 39 = .ok (.iconst 1, 1) := by decide +kernel
theorem dX3_isBetterThan_40 : decode cX3_isBetterThan 40 = .ok (.goto 4, 3) := by decide +kernel
theorem dX3_isBetterThan_43 : decode cX3_isBetterThan 43 = .ok (.iconst 0, 1) := by decide +kernel
theorem dX3_isBetterThan_44 : decode cX3_isBetterThan 44 = .ok (.ireturn, 1) := by decide +kernel
theorem dX4_init_0 : decode cX4_init 0 = .ok (.aload_n 0, 1) := by decide +kernel
theorem dX4_init_1 : decode cX4_init 1 = .ok (.invokespecial 3, 3) := by decide +kernel
theorem dX4_init_4 : decode cX4_init 4 = .ok (.aload_n 0, 1) := by decide +kernel
theorem dX4_init_5 : decode cX4_init 5 = .ok (.bipush 100, 2) := by decide +kernel
theorem dX4_init_7 : decode cX4_init 7 = .ok (.newarray .char, 2) := by decide +kernel
theorem dX4_init_9 : decode cX4_init 9 = .ok (.putfield 9, 3) := by decide +kernel
theorem dX4_init_12 : decode cX4_init 12 = .ok (.aload_n 0, 1) := by decide +kernel
theorem dX4_init_13 : decode cX4_init 13 = .ok (.bipush 6, 2) := by decide +kernel
theorem dX4_init_15 : decode cX4_init 15 = .ok (.newarray .int, 2) := by decide +kernel
theorem dX4_init_17 : decode cX4_init 17 = .ok (.putfield 15, 3) := by decide +kernel
theorem dX4_init_20 : decode cX4_init 20 = .ok (.return_, 1) := by decide +kernel
theorem dX5_init_0 : decode cX5_init 0 = .ok (.aload_n 0, 1) := by decide +kernel
theorem dX5_init_1 : decode cX5_init 1 = .ok (.invokespecial 3, 3) := by decide +kernel
theorem dX5_init_4 : decode cX5_init 4 = .ok (.return_, 1) := by decide +kernel
set_option maxRecDepth 20000 in
theorem ggX5_plan_X0_dish : GoodIn wsX5_plan wsX0_dish := goodIn_r _ [21, 22, 23, 37, 38, 39, 40, 41, 42, 43, 44, 45, 46] (by decide +kernel) (by decide +kernel)
set_option maxRecDepth 20000 in
theorem gX5_plan_X0_dish : GoodIn wsX5_plan (wsV RX5 9 RX0 yX0_dish wsX0_dish) := goodIn_app (goodIn_of _ (by decide +kernel)) ggX5_plan_X0_dish
set_option maxRecDepth 20000 in
theorem ggX5_plan_X0_reaches : GoodIn wsX5_plan wsX0_reaches := goodIn_r _ [27, 28, 29, 37, 38, 39, 40, 41, 42, 43, 44, 45, 46] (by decide +kernel) (by decide +kernel)
set_option maxRecDepth 20000 in
theorem gX5_plan_X0_reaches : GoodIn wsX5_plan (wsV RX5 43 RX0 yX0_reaches wsX0_reaches) := goodIn_app (goodIn_of _ (by decide +kernel)) ggX5_plan_X0_reaches
theorem dX5_plan_0 : decode cX5_plan 0 = .ok (.aload_n 1, 1) := by decide +kernel
theorem dX5_plan_1 : decode cX5_plan 1 = .ok (.invokevirtual 9, 3) := by decide +kernel
theorem dX5_plan_4 : decode cX5_plan 4 = .ok (.istore 4, 2) := by decide +kernel
theorem dX5_plan_6 : decode cX5_plan 6 = .ok (.aload_n 0, 1) := by decide +kernel
theorem dX5_plan_7 : decode cX5_plan 7 = .ok (.iload_n 2, 1) := by decide +kernel
theorem dX5_plan_8 : decode cX5_plan 8 = .ok (.putfield 15, 3) := by decide +kernel
theorem dX5_plan_11 : decode cX5_plan 11 = .ok (.aload_n 1, 1) := by decide +kernel
theorem dX5_plan_12 : decode cX5_plan 12 = .ok (.getfield 21, 3) := by decide +kernel
theorem dX5_plan_15 : decode cX5_plan 15 = .ok (.lookupswitch 149 #[(1, 25), (2, 89)], 25) := by decide +kernel
theorem dX5_plan_40 : decode cX5_plan 40 = .ok (.iload 4, 2) := by decide +kernel
theorem dX5_plan_42 : decode cX5_plan 42 = .ok (.iload_n 2, 1) := by decide +kernel
theorem dX5_plan_43 : decode cX5_plan 43 = .ok (.if_icmp .ne 18, 3) := by decide +kernel
theorem dX5_plan_46 : decode cX5_plan 46 = .ok (.aload_n 1, 1) := by decide +kernel
theorem dX5_plan_47 : decode cX5_plan 47 = .ok (.getfield 24, 3) := by decide +kernel
theorem dX5_plan_50 : decode cX5_plan 50 = .ok (.aload_n 1, 1) := by decide +kernel
theorem dX5_plan_51 : decode cX5_plan 51 = .ok (.getfield 27, 3) := by decide +kernel
theorem dX5_plan_54 : decode cX5_plan 54 = .ok (.if_icmp .ne 7, 3) := by decide +kernel
theorem dX5_plan_57 : decode cX5_plan 57 = .ok (.iconst 1, 1) := by decide +kernel
theorem dX5_plan_58 : decode cX5_plan 58 = .ok (.goto 4, 3) := by decide +kernel
theorem dX5_plan_61 : decode cX5_plan 61 = .ok (.iconst 0, 1) := by decide +kernel
theorem dX5_plan_62 : decode cX5_plan 62 = .ok (.istore 5, 2) := by decide +kernel
theorem dX5_plan_64 : decode cX5_plan 64 = .ok (.aload_n 0, 1) := by decide +kernel
theorem dX5_plan_65 : decode cX5_plan 65 = .ok (.iload 4, 2) := by decide +kernel
theorem dX5_plan_67 : decode cX5_plan 67 = .ok (.iload_n 2, 1) := by decide +kernel
theorem dX5_plan_68 : decode cX5_plan 68 = .ok (.if_icmp .lt 12, 3) := by decide +kernel
theorem dX5_plan_71 : decode cX5_plan 71 = .ok (.iload 5, 2) := by decide +kernel
theorem dX5_plan_73 : decode cX5_plan 73 = .ok (.ifCond .ne 7, 3) := by decide +kernel
theorem dX5_plan_76 : decode cX5_plan 76 = .ok (.iconst 1, 1) := by decide +kernel
theorem dX5_plan_77 : decode cX5_plan 77 = .ok (.goto 4, 3) := by decide +kernel
theorem dX5_plan_80 : decode cX5_plan 80 = .ok (.iconst 0, 1) := by decide +kernel
theorem dX5_plan_81 : decode cX5_plan 81 = .ok (.putfield 30, 3) := by decide +kernel
theorem dX5_plan_84 : decode cX5_plan 84 = .ok (.aload_n 0, 1) := by decide +kernel
theorem dX5_plan_85 : decode cX5_plan 85 = .ok (.iload_n 2, 1) := by decide +kernel
theorem dX5_plan_86 : decode cX5_plan 86 = .ok (.iload_n 3, 1) := by decide +kernel
theorem dX5_plan_87 : decode cX5_plan 87 = .ok (.isub, 1) := by decide +kernel
theorem dX5_plan_88 : decode cX5_plan 88 = .ok (.putfield 34, 3) := by decide +kernel
theorem dX5_plan_91 : decode cX5_plan 91 = .ok (.aload_n 0, 1) := by decide +kernel
theorem dX5_plan_92 : decode cX5_plan 92 = .ok (.iload_n 2, 1) := by decide +kernel
theorem dX5_plan_93 : decode cX5_plan 93 = .ok (.aload_n 1, 1) := by decide +kernel
theorem dX5_plan_94 : decode cX5_plan 94 = .ok (.getfield 27, 3) := by decide +kernel
theorem dX5_plan_97 : decode cX5_plan 97 = .ok (.iadd, 1) := by decide +kernel
theorem dX5_plan_98 : decode cX5_plan 98 = .ok (.putfield 37, 3) := by decide +kernel
theorem dX5_plan_101 : decode cX5_plan 101 = .ok (.goto 101, 3) := by decide +kernel
theorem dX5_plan_104 : decode cX5_plan 104 = .ok (.iload 4, 2) := by decide +kernel
theorem dX5_plan_106 : decode cX5_plan 106 = .ok (.iload_n 2, 1) := by decide +kernel
theorem dX5_plan_107 : decode cX5_plan 107 = .ok (.if_icmp .ne 14, 3) := by decide +kernel
theorem dX5_plan_110 : decode cX5_plan 110 = .ok (.aload_n 1, 1) := by decide +kernel
theorem dX5_plan_111 : decode cX5_plan 111 = .ok (.getfield 24, 3) := by decide +kernel
theorem dX5_plan_114 : decode cX5_plan 114 = .ok (.ifCond .ne 7, 3) := by decide +kernel
theorem dX5_plan_117 : decode cX5_plan 117 = .ok (.iconst 1, 1) := by decide +kernel
theorem dX5_plan_118 : decode cX5_plan 118 = .ok (.goto 4, 3) := by decide +kernel
theorem dX5_plan_121 : decode cX5_plan 121 = .ok (.iconst 0, 1) := by decide +kernel
theorem dX5_plan_122 : decode cX5_plan 122 = .ok (.istore 5, 2) := by decide +kernel
theorem dX5_plan_124 : decode cX5_plan 124 = .ok (.aload_n 0, 1) := by decide +kernel
theorem dX5_plan_125 : decode cX5_plan 125 = .ok (.iload 4, 2) := by decide +kernel
theorem dX5_plan_127 : decode cX5_plan 127 = .ok (.iload_n 2, 1) := by decide +kernel
theorem dX5_plan_128 : decode cX5_plan 128 = .ok (.if_icmp .gt 12, 3) := by decide +kernel
theorem dX5_plan_131 : decode cX5_plan 131 = .ok (.iload 5, 2) := by decide +kernel
theorem dX5_plan_133 : decode cX5_plan 133 = .ok (.ifCond .ne 7, 3) := by decide +kernel
theorem dX5_plan_136 : decode cX5_plan 136 = .ok (.iconst 1, 1) := by decide +kernel
theorem dX5_plan_137 : decode cX5_plan 137 = .ok (.goto 4, 3) := by decide +kernel
theorem dX5_plan_140 : decode cX5_plan 140 = .ok (.iconst 0, 1) := by decide +kernel
theorem dX5_plan_141 : decode cX5_plan 141 = .ok (.putfield 30, 3) := by decide +kernel
theorem dX5_plan_144 : decode cX5_plan 144 = .ok (.aload_n 0, 1) := by decide +kernel
theorem dX5_plan_145 : decode cX5_plan 145 = .ok (.iload_n 2, 1) := by decide +kernel
theorem dX5_plan_146 : decode cX5_plan 146 = .ok (.aload_n 1, 1) := by decide +kernel
theorem dX5_plan_147 : decode cX5_plan 147 = .ok (.getfield 27, 3) := by decide +kernel
theorem dX5_plan_150 : decode cX5_plan 150 = .ok (.iadd, 1) := by decide +kernel
theorem dX5_plan_151 : decode cX5_plan 151 = .ok (.iload_n 3, 1) := by decide +kernel
theorem dX5_plan_152 : decode cX5_plan 152 = .ok (.iadd, 1) := by decide +kernel
theorem dX5_plan_153 : decode cX5_plan 153 = .ok (.putfield 34, 3) := by decide +kernel
theorem dX5_plan_156 : decode cX5_plan 156 = .ok (.aload_n 0, 1) := by decide +kernel
theorem dX5_plan_157 : decode cX5_plan 157 = .ok (.iload_n 2, 1) := by decide +kernel
theorem dX5_plan_158 : decode cX5_plan 158 = .ok (.putfield 37, 3) := by decide +kernel
theorem dX5_plan_161 : decode cX5_plan 161 = .ok (.goto 41, 3) := by decide +kernel
theorem dX5_plan_164 : decode cX5_plan 164 = .ok (.iload 4, 2) := by decide +kernel
theorem dX5_plan_166 : decode cX5_plan 166 = .ok (.iload_n 2, 1) := by decide +kernel
theorem dX5_plan_167 : decode cX5_plan 167 = .ok (.if_icmp .ne 7, 3) := by decide +kernel
theorem dX5_plan_170 : decode cX5_plan 170 = .ok (.iconst 1, 1) := by decide +kernel
theorem dX5_plan_171 : decode cX5_plan 171 = .ok (.goto 4, 3) := by decide +kernel
theorem dX5_plan_174 : decode cX5_plan 174 = .ok (.iconst 0, 1) := by decide +kernel
theorem dX5_plan_175 : decode cX5_plan 175 = .ok (.istore 5, 2) := by decide +kernel
theorem dX5_plan_177 : decode cX5_plan 177 = .ok (.aload_n 0, 1) := by decide +kernel
theorem dX5_plan_178 : decode cX5_plan 178 = .ok (.iconst 0, 1) := by decide +kernel
theorem dX5_plan_179 : decode cX5_plan 179 = .ok (.putfield 30, 3) := by decide +kernel
theorem dX5_plan_182 : decode cX5_plan 182 = .ok (.aload_n 0, 1) := by decide +kernel
theorem dX5_plan_183 : decode cX5_plan 183 = .ok (.iload 4, 2) := by decide +kernel
theorem dX5_plan_185 : decode cX5_plan 185 = .ok (.iload_n 2, 1) := by decide +kernel
theorem dX5_plan_186 : decode cX5_plan 186 = .ok (.if_icmp .ge 12, 3) := by decide +kernel
theorem dX5_plan_189 : decode cX5_plan 189 = .ok (.iload_n 2, 1) := by decide +kernel
theorem dX5_plan_190 : decode cX5_plan 190 = .ok (.aload_n 1, 1) := by decide +kernel
theorem dX5_plan_191 : decode cX5_plan 191 = .ok (.getfield 27, 3) := by decide +kernel
theorem dX5_plan_194 : decode cX5_plan 194 = .ok (.iadd, 1) := by decide +kernel
theorem dX5_plan_195 : decode cX5_plan 195 = .ok (.goto 4, 3) := by decide +kernel
theorem dX5_plan_198 : decode cX5_plan 198 = .ok (.iload_n 2, 1) := by decide +kernel
theorem dX5_plan_199 : decode cX5_plan 199 = .ok (.putfield 37, 3) := by decide +kernel
theorem dX5_plan_202 : decode cX5_plan 202 = .ok (.iload 5, 2) := by decide +kernel
theorem dX5_plan_204 : decode cX5_plan 204 = .ok (.ifCond .eq 11, 3) := by decide +kernel
theorem dX5_plan_207 : decode cX5_plan 207 = .ok (.aload_n 0, 1) := by decide +kernel
theorem dX5_plan_208 : decode cX5_plan 208 = .ok (.aload_n 1, 1) := by decide +kernel
theorem dX5_plan_209 : decode cX5_plan 209 = .ok (.getfield 40, 3) := by decide +kernel
theorem dX5_plan_212 : decode cX5_plan 212 = .ok (.putfield 37, 3) := by decide +kernel
theorem dX5_plan_215 : decode cX5_plan 215 = .ok (.aload_n 0, 1) := by decide +kernel
theorem dX5_plan_216 : decode cX5_plan 216 = .ok (.getfield 30, 3) := by decide +kernel
theorem dX5_plan_219 : decode cX5_plan 219 = .ok (.ifCond .ne 11, 3) := by decide +kernel
theorem dX5_plan_222 : decode cX5_plan 222 = .ok (.aload_n 0, 1) := by decide +kernel
theorem dX5_plan_223 : decode cX5_plan 223 = .ok (.aload_n 1, 1) := by decide +kernel
theorem dX5_plan_224 : decode cX5_plan 224 = .ok (.getfield 40, 3) := by decide +kernel
theorem dX5_plan_227 : decode cX5_plan 227 = .ok (.putfield 34, 3) := by decide +kernel
theorem dX5_plan_230 : decode cX5_plan 230 = .ok (.aload_n 0, 1) := by decide +kernel
theorem dX5_plan_231 : decode cX5_plan 231 = .ok (.aload_n 1, 1) := by decide +kernel
theorem dX5_plan_232 : decode cX5_plan 232 = .ok (.aload_n 0, 1) := by decide +kernel
theorem dX5_plan_233 : decode cX5_plan 233 = .ok (.getfield 34, 3) := by decide +kernel
theorem dX5_plan_236 : decode cX5_plan 236 = .ok (.invokevirtual 43, 3) := by decide +kernel
theorem dX5_plan_239 : decode cX5_plan 239 = .ok (.ifCond .eq 18, 3) := by decide +kernel
theorem dX5_plan_242 : decode cX5_plan 242 = .ok (.aload_n 1, 1) := by decide +kernel
theorem dX5_plan_243 : decode cX5_plan 243 = .ok (.aload_n 0, 1) := by decide +kernel
theorem dX5_plan_244 : decode cX5_plan 244 = .ok (.getfield 37, 3) := by decide +kernel
theorem dX5_plan_247 : decode cX5_plan 247 = .ok (.invokevirtual 43, 3) := by decide +kernel
theorem dX5_plan_250 : decode cX5_plan 250 = .ok (.ifCond .eq 7, 3) := by decide +kernel
theorem dX5_plan_253 : decode cX5_plan 253 = .ok (.iconst 1, 1) := by decide +kernel
theorem dX5_plan_254 : decode cX5_plan 254 = .ok (.goto 4, 3) := by decide +kernel
theorem dX5_plan_257 : decode cX5_plan 257 = .ok (.iconst 0, 1) := by decide +kernel
theorem dX5_plan_258 : decode cX5_plan 258 = .ok (.putfield 47, 3) := by decide +kernel
theorem dX5_plan_261 : decode cX5_plan 261 = .ok (.aload_n 0, 1) := by decide +kernel
theorem dX5_plan_262 : decode cX5_plan 262 = .ok (.aload_n 0, 1) := by decide +kernel
theorem dX5_plan_263 : decode cX5_plan 263 = .ok (.getfield 34, 3) := by decide +kernel
theorem dX5_plan_266 : decode cX5_plan 266 = .ok (.aload_n 1, 1) := by decide +kernel
theorem dX5_plan_267 : decode cX5_plan 267 = .ok (.getfield 40, 3) := by decide +kernel
theorem dX5_plan_270 : decode cX5_plan 270 = .ok (.isub, 1) := by decide +kernel
theorem dX5_plan_271 : decode cX5_plan 271 = .ok (.invokestatic 50, 3) := by decide +kernel
theorem dX5_plan_274 : decode cX5_plan 274 = .ok (.aload_n 0, 1) := by decide +kernel
theorem dX5_plan_275 : decode cX5_plan 275 = .ok (.getfield 37, 3) := by decide +kernel
theorem dX5_plan_278 : decode cX5_plan 278 = .ok (.aload_n 0, 1) := by decide +kernel
theorem dX5_plan_279 : decode cX5_plan 279 = .ok (.getfield 34, 3) := by decide +kernel
theorem dX5_plan_282 : decode cX5_plan 282 = .ok (.isub, 1) := by decide +kernel
theorem dX5_plan_283 : decode cX5_plan 283 = .ok (.invokestatic 50, 3) := by decide +kernel
theorem dX5_plan_286 : decode cX5_plan 286 = .ok (.iadd, 1) := by decide +kernel
theorem dX5_plan_287 : decode cX5_plan 287 = .ok (.putfield 56, 3) := by decide +kernel
theorem dX5_plan_290 : decode cX5_plan 290 = .ok (.aload_n 0, 1) := by decide +kernel
theorem dX5_plan_291 : decode cX5_plan 291 = .ok (.aload_n 1, 1) := by decide +kernel
theorem dX5_plan_292 : decode cX5_plan 292 = .ok (.getfield 59, 3) := by decide +kernel
theorem dX5_plan_295 : decode cX5_plan 295 = .ok (.ifCond .le 22, 3) := by decide +kernel
theorem dX5_plan_298 : decode cX5_plan 298 = .ok (.aload_n 0, 1) := by decide +kernel
theorem dX5_plan_299 : decode cX5_plan 299 = .ok (.getfield 56, 3) := by decide +kernel
theorem dX5_plan_302 : decode cX5_plan 302 = .ok (.aload_n 1, 1) := by decide +kernel
theorem dX5_plan_303 : decode cX5_plan 303 = .ok (.getfield 59, 3) := by decide +kernel
theorem dX5_plan_306 : decode cX5_plan 306 = .ok (.iadd, 1) := by decide +kernel
theorem dX5_plan_307 : decode cX5_plan 307 = .ok (.iconst 1, 1) := by decide +kernel
theorem dX5_plan_308 : decode cX5_plan 308 = .ok (.isub, 1) := by decide +kernel
theorem dX5_plan_309 : decode cX5_plan 309 = .ok (.aload_n 1, 1) := by decide +kernel
theorem dX5_plan_310 : decode cX5_plan 310 = .ok (.getfield 59, 3) := by decide +kernel
theorem dX5_plan_313 : decode cX5_plan 313 = .ok (.idiv, 1) := by decide +kernel
theorem dX5_plan_314 : decode cX5_plan 314 = .ok (.goto 4, 3) := by decide +kernel
theorem dX5_plan_317 : decode cX5_plan 317 = .ok (.iconst 0, 1) := by decide +kernel
theorem dX5_plan_318 : decode cX5_plan 318 = .ok (.putfield 62, 3) := by decide +kernel
theorem dX5_plan_321 : decode cX5_plan 321 = .ok (.return_, 1) := by decide +kernel
end
section
set_option maxRecDepth 20000 in
theorem ggX6_init_X2_init : GoodIn wsX6_init wsX2_init := goodIn_r _ [19, 20, 2, 3, 21, 22, 23, 24, 25, 26, 27, 28, 29, 30, 31, 32, 33, 34, 35, 36, 37, 38, 39, 40, 41, 42, 43, 44, 45, 46, 47, 48, 49, 50, 51, 52, 53, 54, 55, 69, 70, 71, 72, 73, 74, 75, 76, 77, 78, 79, 92, 93, 94, 95, 96, 97, 98, 99, 100, 101, 102, 103, 104, 105, 106, 107, 108, 109, 110, 111, 112, 113, 114, 115, 116, 117, 118, 119, 120, 121, 122] (by decide +kernel) (by decide +kernel)
set_option maxRecDepth 20000 in
theorem gX6_init_X2_init : GoodIn wsX6_init (wsX2_init) := ggX6_init_X2_init
set_option maxRecDepth 20000 in
theorem ggX6_init_X1_init : GoodIn wsX6_init wsX1_init := goodIn_r _ [58, 59, 2, 3, 60, 61, 5, 6, 62, 18, 19, 20, 21, 22, 23, 24, 25, 26, 27, 28, 29, 30, 31, 32, 33, 34, 35, 36, 37, 38, 39, 40, 41, 42, 43, 44, 45, 46, 47, 48, 49, 50, 51, 52, 53, 54, 55, 84, 85, 69, 70, 71, 72, 73, 74, 75, 76, 77, 78, 79, 92, 93, 94, 95, 96, 97, 98, 99, 100, 101, 102, 103, 104, 105, 106, 107, 108, 109, 110, 111, 112, 113, 114, 115, 116, 117, 118, 119, 120, 121, 122] (by decide +kernel) (by decide +kernel)
set_option maxRecDepth 20000 in
theorem gX6_init_X1_init : GoodIn wsX6_init (wsX1_init) := ggX6_init_X1_init
set_option maxRecDepth 20000 in
theorem ggX6_init_X4_init : GoodIn wsX6_init wsX4_init := goodIn_r _ [64, 65, 2, 3, 66, 67, 21, 68, 86, 87, 88, 89, 90, 91] (by decide +kernel) (by decide +kernel)
set_option maxRecDepth 20000 in
theorem gX6_init_X4_init_n28 : GoodIn wsX6_init (wsX4_init) := ggX6_init_X4_init
theorem dX6_init_0 : decode cX6_init 0 = .ok (.aload_n 0, 1) := by decide +kernel
theorem dX6_init_1 : decode cX6_init 1 = .ok (.invokespecial 1, 3) := by decide +kernel
theorem dX6_init_4 : decode cX6_init 4 = .ok (.aload_n 0, 1) := by decide +kernel
theorem dX6_init_5 : decode cX6_init 5 = .ok (.new 7, 3) := by decide +kernel
theorem dX6_init_8 : decode cX6_init 8 = .ok (.dup, 1) := by decide +kernel
theorem dX6_init_9 : decode cX6_init 9 = .ok (.invokespecial 9, 3) := by decide +kernel
theorem dX6_init_12 : decode cX6_init 12 = .ok (.putfield 10, 3) := by decide +kernel
theorem dX6_init_15 : decode cX6_init 15 = .ok (.aload_n 0, 1) := by decide +kernel
theorem dX6_init_16 : decode cX6_init 16 = .ok (.new 7, 3) := by decide +kernel
theorem dX6_init_19 : decode cX6_init 19 = .ok (.dup, 1) := by decide +kernel
theorem dX6_init_20 : decode cX6_init 20 = .ok (.invokespecial 9, 3) := by decide +kernel
theorem dX6_init_23 : decode cX6_init 23 = .ok (.putfield 16, 3) := by decide +kernel
theorem dX6_init_26 : decode cX6_init 26 = .ok (.aload_n 0, 1) := by decide +kernel
theorem dX6_init_27 : decode cX6_init 27 = .ok (.new 19, 3) := by decide +kernel
theorem dX6_init_30 : decode cX6_init 30 = .ok (.dup, 1) := by decide +kernel
theorem dX6_init_31 : decode cX6_init 31 = .ok (.invokespecial 21, 3) := by decide +kernel
theorem dX6_init_34 : decode cX6_init 34 = .ok (.putfield 22, 3) := by decide +kernel
theorem dX6_init_37 : decode cX6_init 37 = .ok (.aload_n 0, 1) := by decide +kernel
theorem dX6_init_38 : decode cX6_init 38 = .ok (.new 26, 3) := by decide +kernel
theorem dX6_init_41 : decode cX6_init 41 = .ok (.dup, 1) := by decide +kernel
theorem dX6_init_42 : decode cX6_init 42 = .ok (.invokespecial 28, 3) := by decide +kernel
theorem dX6_init_45 : decode cX6_init 45 = .ok (.putfield 29, 3) := by decide +kernel
theorem dX6_init_48 : decode cX6_init 48 = .ok (.return_, 1) := by decide +kernel
set_option maxRecDepth 20000 in
theorem ggX6_set_X6_isBetween : GoodIn wsX6_set wsX6_isBetween := goodIn_r _ [8] (by decide +kernel) (by decide +kernel)
set_option maxRecDepth 20000 in
theorem gX6_set_X6_isBetween : GoodIn wsX6_set (va_wsS RX6 37 yX6_isBetween wsX6_isBetween) := goodIn_app (goodIn_of _ (by decide +kernel)) ggX6_set_X6_isBetween
set_option maxRecDepth 20000 in
theorem ggX6_set_X1_record : GoodIn wsX6_set wsX1_record := goodIn_r _ [13, 14, 15, 16, 17, 18, 12, 19, 20, 21, 22, 23, 24, 25, 26, 27, 28, 29, 30, 31, 32, 33, 34, 35, 36, 37, 38, 39, 40, 41, 42, 43, 44, 45, 46, 47, 48, 49, 50, 51, 52, 53, 54, 55, 56, 57, 58, 59, 60, 61, 62, 63, 64, 65, 66, 67, 76, 77, 78, 79, 80, 81, 82, 83, 84, 85, 86, 87, 88, 89, 90, 91, 92, 93, 94, 95, 96, 97, 98, 99, 100, 101, 102, 103, 104, 105, 106, 107, 108, 109, 110, 111, 112] (by decide +kernel) (by decide +kernel)
set_option maxRecDepth 20000 in
theorem gX6_set_X1_record : GoodIn wsX6_set (wsV RX6 42 RX1 yX1_record wsX1_record) := goodIn_app (goodIn_of _ (by decide +kernel)) ggX6_set_X1_record
set_option maxRecDepth 20000 in
theorem ggX6_set_X2_changeSetting : GoodIn wsX6_set wsX2_changeSetting := goodIn_r _ [71, 28, 78, 79, 80, 81, 82, 83, 84, 85, 86, 87, 88] (by decide +kernel) (by decide +kernel)
set_option maxRecDepth 20000 in
theorem gX6_set_X2_changeSetting : GoodIn wsX6_set (wsV RX6 46 RX2 yX2_changeSetting wsX2_changeSetting) := goodIn_app (goodIn_of _ (by decide +kernel)) ggX6_set_X2_changeSetting
theorem dX6_set_0 : decode cX6_set 0 = .ok (.iload_n 1, 1) := by decide +kernel
theorem dX6_set_1 : decode cX6_set 1 = .ok (.iconst 0, 1) := by decide +kernel
theorem dX6_set_2 : decode cX6_set 2 = .ok (.getstatic 33, 3) := by decide +kernel
theorem dX6_set_5 : decode cX6_set 5 = .ok (.arraylength, 1) := by decide +kernel
theorem dX6_set_6 : decode cX6_set 6 = .ok (.iconst 1, 1) := by decide +kernel
theorem dX6_set_7 : decode cX6_set 7 = .ok (.isub, 1) := by decide +kernel
theorem dX6_set_8 : decode cX6_set 8 = .ok (.invokestatic 37, 3) := by decide +kernel
theorem dX6_set_11 : decode cX6_set 11 = .ok (.ifCond .eq 16, 3) := by decide +kernel
theorem dX6_set_14 : decode cX6_set 14 = .ok (.iload_n 2, 1) := by decide +kernel
theorem dX6_set_15 : decode cX6_set 15 = .ok (.iconst 0, 1) := by decide +kernel
theorem dX6_set_16 : decode cX6_set 16 = .ok (.getstatic 33, 3) := by decide +kernel
theorem dX6_set_19 : decode cX6_set 19 = .ok (.iload_n 1, 1) := by decide +kernel
theorem dX6_set_20 : decode cX6_set 20 = .ok (.iaload, 1) := by decide +kernel
theorem dX6_set_21 : decode cX6_set 21 = .ok (.invokestatic 37, 3) := by decide +kernel
theorem dX6_set_24 : decode cX6_set 24 = .ok (.ifCond .ne 6, 3) := by decide +kernel
theorem dX6_set_27 : decode cX6_set 27 = .ok (.ldc 41, 2) := by decide +kernel
theorem dX6_set_29 : decode cX6_set 29 = .ok (.ireturn, 1) := by decide +kernel
theorem dX6_set_30 : decode cX6_set 30 = .ok (.aload_n 0, 1) := by decide +kernel
theorem dX6_set_31 : decode cX6_set 31 = .ok (.getfield 22, 3) := by decide +kernel
theorem dX6_set_34 : decode cX6_set 34 = .ok (.aload_n 0, 1) := by decide +kernel
theorem dX6_set_35 : decode cX6_set 35 = .ok (.getfield 10, 3) := by decide +kernel
theorem dX6_set_38 : decode cX6_set 38 = .ok (.invokevirtual 42, 3) := by decide +kernel
theorem dX6_set_41 : decode cX6_set 41 = .ok (.aload_n 0, 1) := by decide +kernel
theorem dX6_set_42 : decode cX6_set 42 = .ok (.getfield 10, 3) := by decide +kernel
theorem dX6_set_45 : decode cX6_set 45 = .ok (.iload_n 1, 1) := by decide +kernel
theorem dX6_set_46 : decode cX6_set 46 = .ok (.iload_n 2, 1) := by decide +kernel
theorem dX6_set_47 : decode cX6_set 47 = .ok (.invokevirtual 46, 3) := by decide +kernel
theorem dX6_set_50 : decode cX6_set 50 = .ok (.ireturn, 1) := by decide +kernel
set_option maxRecDepth 20000 in
theorem ggX6_setAxis_X6_isBetween : GoodIn wsX6_setAxis wsX6_isBetween := goodIn_r _ [9] (by decide +kernel) (by decide +kernel)
set_option maxRecDepth 20000 in
theorem gX6_setAxis_X6_isBetween : GoodIn wsX6_setAxis (va_wsS RX6 37 yX6_isBetween wsX6_isBetween) := goodIn_app (goodIn_of _ (by decide +kernel)) ggX6_setAxis_X6_isBetween
set_option maxRecDepth 20000 in
theorem ggX6_setAxis_X1_record : GoodIn wsX6_setAxis wsX1_record := goodIn_r _ [14, 15, 16, 17, 18, 19, 13, 20, 21, 22, 23, 24, 25, 26, 27, 28, 29, 30, 31, 32, 33, 34, 35, 36, 37, 38, 39, 40, 41, 42, 43, 44, 45, 46, 47, 48, 49, 50, 51, 52, 53, 54, 55, 56, 57, 58, 59, 60, 61, 62, 63, 64, 65, 66, 67, 68, 95, 96, 97, 98, 99, 100, 101, 102, 103, 104, 105, 106, 107, 108, 109, 110, 111, 112, 113, 114, 115, 116, 117, 118, 119, 120, 121, 122, 123, 124, 125, 126, 127, 128, 129, 130, 131] (by decide +kernel) (by decide +kernel)
set_option maxRecDepth 20000 in
theorem gX6_setAxis_X1_record : GoodIn wsX6_setAxis (wsV RX6 42 RX1 yX1_record wsX1_record) := goodIn_app (goodIn_of _ (by decide +kernel)) ggX6_setAxis_X1_record
set_option maxRecDepth 20000 in
theorem ggX6_setAxis_X2_axisNumber : GoodIn wsX6_setAxis wsX2_axisNumber := goodIn_r _ [72, 35, 36, 97, 98, 99, 100, 101, 102, 103, 104, 105, 106, 107] (by decide +kernel) (by decide +kernel)
set_option maxRecDepth 20000 in
theorem gX6_setAxis_X2_axisNumber : GoodIn wsX6_setAxis (wsV RX6 56 RX2 yX2_axisNumber wsX2_axisNumber) := goodIn_app (goodIn_of _ (by decide +kernel)) ggX6_setAxis_X2_axisNumber
set_option maxRecDepth 20000 in
theorem ggX6_setAxis_X0_change : GoodIn wsX6_setAxis wsX0_change := goodIn_r _ [76, 43, 47, 77, 78, 79, 80, 44, 45, 81, 82, 83, 41, 84, 46, 48, 49, 85, 86, 87, 88, 89, 90, 108, 109, 110, 111, 112, 113, 114, 115, 116, 117] (by decide +kernel) (by decide +kernel)
set_option maxRecDepth 20000 in
theorem gX6_setAxis_X0_change : GoodIn wsX6_setAxis (wsV RX6 60 RX0 yX0_change wsX0_change) := goodIn_app (goodIn_of _ (by decide +kernel)) ggX6_setAxis_X0_change
theorem dX6_setAxis_0 : decode cX6_setAxis 0 = .ok (.iload_n 1, 1) := by decide +kernel
theorem dX6_setAxis_1 : decode cX6_setAxis 1 = .ok (.iconst 0, 1) := by decide +kernel
theorem dX6_setAxis_2 : decode cX6_setAxis 2 = .ok (.iconst 1, 1) := by decide +kernel
theorem dX6_setAxis_3 : decode cX6_setAxis 3 = .ok (.invokestatic 37, 3) := by decide +kernel
theorem dX6_setAxis_6 : decode cX6_setAxis 6 = .ok (.ifCond .eq 34, 3) := by decide +kernel
theorem dX6_setAxis_9 : decode cX6_setAxis 9 = .ok (.iload_n 2, 1) := by decide +kernel
theorem dX6_setAxis_10 : decode cX6_setAxis 10 = .ok (.iconst 0, 1) := by decide +kernel
theorem dX6_setAxis_11 : decode cX6_setAxis 11 = .ok (.getstatic 50, 3) := by decide +kernel
theorem dX6_setAxis_14 : decode cX6_setAxis 14 = .ok (.arraylength, 1) := by decide +kernel
theorem dX6_setAxis_15 : decode cX6_setAxis 15 = .ok (.iconst 1, 1) := by decide +kernel
theorem dX6_setAxis_16 : decode cX6_setAxis 16 = .ok (.isub, 1) := by decide +kernel
theorem dX6_setAxis_17 : decode cX6_setAxis 17 = .ok (.invokestatic 37, 3) := by decide +kernel
theorem dX6_setAxis_20 : decode cX6_setAxis 20 = .ok (.ifCond .eq 20, 3) := by decide +kernel
theorem dX6_setAxis_23 : decode cX6_setAxis 23 = .ok (.iload_n 3, 1) := by decide +kernel
theorem dX6_setAxis_24 : decode cX6_setAxis 24 = .ok (.getstatic 53, 3) := by decide +kernel
theorem dX6_setAxis_27 : decode cX6_setAxis 27 = .ok (.iload_n 2, 1) := by decide +kernel
theorem dX6_setAxis_28 : decode cX6_setAxis 28 = .ok (.iaload, 1) := by decide +kernel
theorem dX6_setAxis_29 : decode cX6_setAxis 29 = .ok (.getstatic 50, 3) := by decide +kernel
theorem dX6_setAxis_32 : decode cX6_setAxis 32 = .ok (.iload_n 2, 1) := by decide +kernel
theorem dX6_setAxis_33 : decode cX6_setAxis 33 = .ok (.iaload, 1) := by decide +kernel
theorem dX6_setAxis_34 : decode cX6_setAxis 34 = .ok (.invokestatic 37, 3) := by decide +kernel
theorem dX6_setAxis_37 : decode cX6_setAxis 37 = .ok (.ifCond .ne 6, 3) := by decide +kernel
theorem dX6_setAxis_40 : decode cX6_setAxis 40 = .ok (.ldc 41, 2) := by decide +kernel
theorem dX6_setAxis_42 : decode cX6_setAxis 42 = .ok (.ireturn, 1) := by decide +kernel
theorem dX6_setAxis_43 : decode cX6_setAxis 43 = .ok (.aload_n 0, 1) := by decide +kernel
theorem dX6_setAxis_44 : decode cX6_setAxis 44 = .ok (.getfield 22, 3) := by decide +kernel
theorem dX6_setAxis_47 : decode cX6_setAxis 47 = .ok (.aload_n 0, 1) := by decide +kernel
theorem dX6_setAxis_48 : decode cX6_setAxis 48 = .ok (.getfield 10, 3) := by decide +kernel
theorem dX6_setAxis_51 : decode cX6_setAxis 51 = .ok (.invokevirtual 42, 3) := by decide +kernel
theorem dX6_setAxis_54 : decode cX6_setAxis 54 = .ok (.aload_n 0, 1) := by decide +kernel
theorem dX6_setAxis_55 : decode cX6_setAxis 55 = .ok (.getfield 10, 3) := by decide +kernel
theorem dX6_setAxis_58 : decode cX6_setAxis 58 = .ok (.iload_n 1, 1) := by decide +kernel
theorem dX6_setAxis_59 : decode cX6_setAxis 59 = .ok (.invokevirtual 56, 3) := by decide +kernel
theorem dX6_setAxis_62 : decode cX6_setAxis 62 = .ok (.iload_n 2, 1) := by decide +kernel
theorem dX6_setAxis_63 : decode cX6_setAxis 63 = .ok (.iload_n 3, 1) := by decide +kernel
theorem dX6_setAxis_64 : decode cX6_setAxis 64 = .ok (.invokevirtual 60, 3) := by decide +kernel
theorem dX6_setAxis_67 : decode cX6_setAxis 67 = .ok (.ireturn, 1) := by decide +kernel
set_option maxRecDepth 20000 in
theorem ggX6_gust_X6_isBetween : GoodIn wsX6_gust wsX6_isBetween := goodIn_r _ [9] (by decide +kernel) (by decide +kernel)
set_option maxRecDepth 20000 in
theorem gX6_gust_X6_isBetween : GoodIn wsX6_gust (va_wsS RX6 37 yX6_isBetween wsX6_isBetween) := goodIn_app (goodIn_of _ (by decide +kernel)) ggX6_gust_X6_isBetween
set_option maxRecDepth 20000 in
theorem ggX6_gust_X1_record : GoodIn wsX6_gust wsX1_record := goodIn_r _ [14, 15, 16, 17, 18, 19, 13, 20, 21, 22, 23, 24, 25, 26, 27, 28, 29, 30, 31, 32, 33, 34, 35, 36, 37, 38, 39, 40, 41, 42, 43, 44, 45, 46, 47, 48, 49, 50, 51, 52, 53, 54, 55, 56, 57, 58, 59, 60, 61, 62, 63, 64, 65, 66, 67, 68, 88, 89, 77, 78, 79, 80, 81, 82, 83, 84, 85, 86, 87, 90, 91, 92, 93, 94, 95, 96, 97, 98, 99, 100, 101, 102, 103, 104, 105, 106, 107, 108, 109, 110, 111, 112, 113] (by decide +kernel) (by decide +kernel)
set_option maxRecDepth 20000 in
theorem gX6_gust_X1_record : GoodIn wsX6_gust (wsV RX6 42 RX1 yX1_record wsX1_record) := goodIn_app (goodIn_of _ (by decide +kernel)) ggX6_gust_X1_record
set_option maxRecDepth 20000 in
theorem ggX6_gust_X2_changeGust : GoodIn wsX6_gust wsX2_changeGust := goodIn_r _ [72, 34, 77, 78, 79, 80, 81, 82, 83, 84, 85, 86, 87] (by decide +kernel) (by decide +kernel)
set_option maxRecDepth 20000 in
theorem gX6_gust_X2_changeGust : GoodIn wsX6_gust (wsV RX6 70 RX2 yX2_changeGust wsX2_changeGust) := goodIn_app (goodIn_of _ (by decide +kernel)) ggX6_gust_X2_changeGust
theorem dX6_gust_0 : decode cX6_gust 0 = .ok (.iload_n 1, 1) := by decide +kernel
theorem dX6_gust_1 : decode cX6_gust 1 = .ok (.iconst 0, 1) := by decide +kernel
theorem dX6_gust_2 : decode cX6_gust 2 = .ok (.bipush 29, 2) := by decide +kernel
theorem dX6_gust_4 : decode cX6_gust 4 = .ok (.invokestatic 37, 3) := by decide +kernel
theorem dX6_gust_7 : decode cX6_gust 7 = .ok (.ifCond .eq 13, 3) := by decide +kernel
theorem dX6_gust_10 : decode cX6_gust 10 = .ok (.iload_n 2, 1) := by decide +kernel
theorem dX6_gust_11 : decode cX6_gust 11 = .ok (.iconst 0, 1) := by decide +kernel
theorem dX6_gust_12 : decode cX6_gust 12 = .ok (.bipush 99, 2) := by decide +kernel
theorem dX6_gust_14 : decode cX6_gust 14 = .ok (.invokestatic 37, 3) := by decide +kernel
theorem dX6_gust_17 : decode cX6_gust 17 = .ok (.ifCond .ne 6, 3) := by decide +kernel
theorem dX6_gust_20 : decode cX6_gust 20 = .ok (.ldc 41, 2) := by decide +kernel
theorem dX6_gust_22 : decode cX6_gust 22 = .ok (.ireturn, 1) := by decide +kernel
theorem dX6_gust_23 : decode cX6_gust 23 = .ok (.iload_n 1, 1) := by decide +kernel
theorem dX6_gust_24 : decode cX6_gust 24 = .ok (.sipush 1440, 3) := by decide +kernel
theorem dX6_gust_27 : decode cX6_gust 27 = .ok (.imul, 1) := by decide +kernel
theorem dX6_gust_28 : decode cX6_gust 28 = .ok (.aload_n 0, 1) := by decide +kernel
theorem dX6_gust_29 : decode cX6_gust 29 = .ok (.getfield 10, 3) := by decide +kernel
theorem dX6_gust_32 : decode cX6_gust 32 = .ok (.getfield 65, 3) := by decide +kernel
theorem dX6_gust_35 : decode cX6_gust 35 = .ok (.if_icmp .ge 6, 3) := by decide +kernel
theorem dX6_gust_38 : decode cX6_gust 38 = .ok (.ldc 69, 2) := by decide +kernel
theorem dX6_gust_40 : decode cX6_gust 40 = .ok (.ireturn, 1) := by decide +kernel
theorem dX6_gust_41 : decode cX6_gust 41 = .ok (.aload_n 0, 1) := by decide +kernel
theorem dX6_gust_42 : decode cX6_gust 42 = .ok (.getfield 22, 3) := by decide +kernel
theorem dX6_gust_45 : decode cX6_gust 45 = .ok (.aload_n 0, 1) := by decide +kernel
theorem dX6_gust_46 : decode cX6_gust 46 = .ok (.getfield 10, 3) := by decide +kernel
theorem dX6_gust_49 : decode cX6_gust 49 = .ok (.invokevirtual 42, 3) := by decide +kernel
theorem dX6_gust_52 : decode cX6_gust 52 = .ok (.aload_n 0, 1) := by decide +kernel
theorem dX6_gust_53 : decode cX6_gust 53 = .ok (.getfield 10, 3) := by decide +kernel
theorem dX6_gust_56 : decode cX6_gust 56 = .ok (.iload_n 1, 1) := by decide +kernel
theorem dX6_gust_57 : decode cX6_gust 57 = .ok (.iload_n 2, 1) := by decide +kernel
theorem dX6_gust_58 : decode cX6_gust 58 = .ok (.invokevirtual 70, 3) := by decide +kernel
theorem dX6_gust_61 : decode cX6_gust 61 = .ok (.ireturn, 1) := by decide +kernel
set_option maxRecDepth 20000 in
theorem ggX6_count_X2_targetsIn : GoodIn wsX6_count wsX2_targetsIn := goodIn_r _ [10, 11, 12, 75, 76, 77, 78, 79, 80, 81, 82, 83, 84, 85, 86, 87, 88, 89, 90, 91, 92, 93, 94, 95, 96, 97, 98, 99] (by decide +kernel) (by decide +kernel)
set_option maxRecDepth 20000 in
theorem gX6_count_X2_targetsIn : GoodIn wsX6_count (wsV RX6 73 RX2 yX2_targetsIn wsX2_targetsIn) := goodIn_app (goodIn_of _ (by decide +kernel)) ggX6_count_X2_targetsIn
set_option maxRecDepth 20000 in
theorem ggX6_count_X2_numberUnderWay : GoodIn wsX6_count wsX2_numberUnderWay := goodIn_r _ [16, 11, 12, 75, 76, 77, 78, 79, 80, 81, 82, 83, 84, 85, 86, 87, 88, 89, 90, 91, 92, 93, 94, 95, 96, 97, 98, 99] (by decide +kernel) (by decide +kernel)
set_option maxRecDepth 20000 in
theorem gX6_count_X2_numberUnderWay : GoodIn wsX6_count (wsV RX6 77 RX2 yX2_numberUnderWay wsX2_numberUnderWay) := goodIn_app (goodIn_of _ (by decide +kernel)) ggX6_count_X2_numberUnderWay
set_option maxRecDepth 20000 in
theorem ggX6_count_X6_foundTarget : GoodIn wsX6_count wsX6_foundTarget := goodIn_r _ [20, 21] (by decide +kernel) (by decide +kernel)
set_option maxRecDepth 20000 in
theorem gX6_count_X6_foundTarget : GoodIn wsX6_count (va_wsS RX6 81 yX6_foundTarget wsX6_foundTarget) := goodIn_app (goodIn_of _ (by decide +kernel)) ggX6_count_X6_foundTarget
set_option maxRecDepth 20000 in
theorem ggX6_count_X2_minutesUntilDone : GoodIn wsX6_count wsX2_minutesUntilDone := goodIn_r _ [25, 11, 12, 26, 27, 28, 75, 76, 77, 78, 79, 80, 81, 82, 83, 84, 85, 86, 87, 88, 89, 90, 91, 92, 93, 94, 95, 96, 97, 98, 99] (by decide +kernel) (by decide +kernel)
set_option maxRecDepth 20000 in
theorem gX6_count_X2_minutesUntilDone : GoodIn wsX6_count (wsV RX6 84 RX2 yX2_minutesUntilDone wsX2_minutesUntilDone) := goodIn_app (goodIn_of _ (by decide +kernel)) ggX6_count_X2_minutesUntilDone
set_option maxRecDepth 20000 in
theorem ggX6_count_X2_tell : GoodIn wsX6_count wsX2_tell := goodIn_r _ [32, 27, 33, 34, 35, 36, 37, 38, 39, 40, 41, 9, 42, 43, 44, 45, 46, 47, 48, 49, 50, 51, 52, 53, 54, 55, 56, 57, 58, 59, 60, 61, 62, 75, 76, 77, 78, 79, 80, 81, 82, 83, 84, 85, 100, 101, 102, 103, 104, 105, 106, 107, 108, 109] (by decide +kernel) (by decide +kernel)
set_option maxRecDepth 20000 in
theorem gX6_count_X2_tell : GoodIn wsX6_count (wsV RX6 93 RX2 yX2_tell wsX2_tell) := goodIn_app (goodIn_of _ (by decide +kernel)) ggX6_count_X2_tell
theorem dX6_count_0 : decode cX6_count 0 = .ok (.iload_n 1, 1) := by decide +kernel
theorem dX6_count_1 : decode cX6_count 1 = .ok (.tableswitch 121 4 11 #[47, 59, 68, 77, 86, 97, 105, 113], 47) := by decide +kernel
theorem dX6_count_48 : decode cX6_count 48 = .ok (.bipush 10, 2) := by decide +kernel
theorem dX6_count_50 : decode cX6_count 50 = .ok (.aload_n 0, 1) := by decide +kernel
theorem dX6_count_51 : decode cX6_count 51 = .ok (.getfield 10, 3) := by decide +kernel
theorem dX6_count_54 : decode cX6_count 54 = .ok (.iconst 4, 1) := by decide +kernel
theorem dX6_count_55 : decode cX6_count 55 = .ok (.invokevirtual 73, 3) := by decide +kernel
theorem dX6_count_58 : decode cX6_count 58 = .ok (.isub, 1) := by decide +kernel
theorem dX6_count_59 : decode cX6_count 59 = .ok (.ireturn, 1) := by decide +kernel
theorem dX6_count_60 : decode cX6_count 60 = .ok (.aload_n 0, 1) := by decide +kernel
theorem dX6_count_61 : decode cX6_count 61 = .ok (.getfield 10, 3) := by decide +kernel
theorem dX6_count_64 : decode cX6_count 64 = .ok (.iconst 0, 1) := by decide +kernel
theorem dX6_count_65 : decode cX6_count 65 = .ok (.invokevirtual 73, 3) := by decide +kernel
theorem dX6_count_68 : decode cX6_count 68 = .ok (.ireturn, 1) := by decide +kernel
theorem dX6_count_69 : decode cX6_count 69 = .ok (.aload_n 0, 1) := by decide +kernel
theorem dX6_count_70 : decode cX6_count 70 = .ok (.getfield 10, 3) := by decide +kernel
theorem dX6_count_73 : decode cX6_count 73 = .ok (.iconst 2, 1) := by decide +kernel
theorem dX6_count_74 : decode cX6_count 74 = .ok (.invokevirtual 73, 3) := by decide +kernel
theorem dX6_count_77 : decode cX6_count 77 = .ok (.ireturn, 1) := by decide +kernel
theorem dX6_count_78 : decode cX6_count 78 = .ok (.aload_n 0, 1) := by decide +kernel
theorem dX6_count_79 : decode cX6_count 79 = .ok (.getfield 10, 3) := by decide +kernel
theorem dX6_count_82 : decode cX6_count 82 = .ok (.iconst 3, 1) := by decide +kernel
theorem dX6_count_83 : decode cX6_count 83 = .ok (.invokevirtual 73, 3) := by decide +kernel
theorem dX6_count_86 : decode cX6_count 86 = .ok (.ireturn, 1) := by decide +kernel
theorem dX6_count_87 : decode cX6_count 87 = .ok (.aload_n 0, 1) := by decide +kernel
theorem dX6_count_88 : decode cX6_count 88 = .ok (.getfield 10, 3) := by decide +kernel
theorem dX6_count_91 : decode cX6_count 91 = .ok (.invokevirtual 77, 3) := by decide +kernel
theorem dX6_count_94 : decode cX6_count 94 = .ok (.invokestatic 81, 3) := by decide +kernel
theorem dX6_count_97 : decode cX6_count 97 = .ok (.ireturn, 1) := by decide +kernel
theorem dX6_count_98 : decode cX6_count 98 = .ok (.aload_n 0, 1) := by decide +kernel
theorem dX6_count_99 : decode cX6_count 99 = .ok (.getfield 10, 3) := by decide +kernel
theorem dX6_count_102 : decode cX6_count 102 = .ok (.invokevirtual 84, 3) := by decide +kernel
theorem dX6_count_105 : decode cX6_count 105 = .ok (.ireturn, 1) := by decide +kernel
theorem dX6_count_106 : decode cX6_count 106 = .ok (.aload_n 0, 1) := by decide +kernel
theorem dX6_count_107 : decode cX6_count 107 = .ok (.getfield 22, 3) := by decide +kernel
theorem dX6_count_110 : decode cX6_count 110 = .ok (.getfield 87, 3) := by decide +kernel
theorem dX6_count_113 : decode cX6_count 113 = .ok (.ireturn, 1) := by decide +kernel
theorem dX6_count_114 : decode cX6_count 114 = .ok (.aload_n 0, 1) := by decide +kernel
theorem dX6_count_115 : decode cX6_count 115 = .ok (.getfield 29, 3) := by decide +kernel
theorem dX6_count_118 : decode cX6_count 118 = .ok (.getfield 90, 3) := by decide +kernel
theorem dX6_count_121 : decode cX6_count 121 = .ok (.ireturn, 1) := by decide +kernel
theorem dX6_count_122 : decode cX6_count 122 = .ok (.aload_n 0, 1) := by decide +kernel
theorem dX6_count_123 : decode cX6_count 123 = .ok (.getfield 10, 3) := by decide +kernel
theorem dX6_count_126 : decode cX6_count 126 = .ok (.iload_n 1, 1) := by decide +kernel
theorem dX6_count_127 : decode cX6_count 127 = .ok (.invokevirtual 93, 3) := by decide +kernel
theorem dX6_count_130 : decode cX6_count 130 = .ok (.ireturn, 1) := by decide +kernel
set_option maxRecDepth 20000 in
theorem ggX6_axis_X6_isBetween : GoodIn wsX6_axis wsX6_isBetween := goodIn_r _ [6] (by decide +kernel) (by decide +kernel)
set_option maxRecDepth 20000 in
theorem gX6_axis_X6_isBetween : GoodIn wsX6_axis (va_wsS RX6 37 yX6_isBetween wsX6_isBetween) := goodIn_app (goodIn_of _ (by decide +kernel)) ggX6_axis_X6_isBetween
set_option maxRecDepth 20000 in
theorem ggX6_axis_X2_axisNumber : GoodIn wsX6_axis wsX2_axisNumber := goodIn_r _ [11, 12, 13, 36, 37, 38, 39, 40, 41, 42, 43, 44, 45, 46] (by decide +kernel) (by decide +kernel)
set_option maxRecDepth 20000 in
theorem gX6_axis_X2_axisNumber : GoodIn wsX6_axis (wsV RX6 56 RX2 yX2_axisNumber wsX2_axisNumber) := goodIn_app (goodIn_of _ (by decide +kernel)) ggX6_axis_X2_axisNumber
set_option maxRecDepth 20000 in
theorem ggX6_axis_X0_tell : GoodIn wsX6_axis wsX0_tell := goodIn_r _ [18, 19, 20, 21, 22, 23, 24, 25, 26, 27, 28, 29, 30, 17, 31, 47, 48, 49, 50, 51, 52, 53, 54, 55, 56] (by decide +kernel) (by decide +kernel)
set_option maxRecDepth 20000 in
theorem gX6_axis_X0_tell : GoodIn wsX6_axis (wsV RX6 96 RX0 yX0_tell wsX0_tell) := goodIn_app (goodIn_of _ (by decide +kernel)) ggX6_axis_X0_tell
theorem dX6_axis_0 : decode cX6_axis 0 = .ok (.iload_n 1, 1) := by decide +kernel
theorem dX6_axis_1 : decode cX6_axis 1 = .ok (.iconst 0, 1) := by decide +kernel
theorem dX6_axis_2 : decode cX6_axis 2 = .ok (.iconst 1, 1) := by decide +kernel
theorem dX6_axis_3 : decode cX6_axis 3 = .ok (.invokestatic 37, 3) := by decide +kernel
theorem dX6_axis_6 : decode cX6_axis 6 = .ok (.ifCond .ne 6, 3) := by decide +kernel
theorem dX6_axis_9 : decode cX6_axis 9 = .ok (.ldc 41, 2) := by decide +kernel
theorem dX6_axis_11 : decode cX6_axis 11 = .ok (.ireturn, 1) := by decide +kernel
theorem dX6_axis_12 : decode cX6_axis 12 = .ok (.aload_n 0, 1) := by decide +kernel
theorem dX6_axis_13 : decode cX6_axis 13 = .ok (.getfield 10, 3) := by decide +kernel
theorem dX6_axis_16 : decode cX6_axis 16 = .ok (.iload_n 1, 1) := by decide +kernel
theorem dX6_axis_17 : decode cX6_axis 17 = .ok (.invokevirtual 56, 3) := by decide +kernel
theorem dX6_axis_20 : decode cX6_axis 20 = .ok (.iload_n 2, 1) := by decide +kernel
theorem dX6_axis_21 : decode cX6_axis 21 = .ok (.invokevirtual 96, 3) := by decide +kernel
theorem dX6_axis_24 : decode cX6_axis 24 = .ok (.ireturn, 1) := by decide +kernel
set_option maxRecDepth 20000 in
theorem ggX6_slew_X6_isBetween : GoodIn wsX6_slew wsX6_isBetween := goodIn_r _ [10] (by decide +kernel) (by decide +kernel)
set_option maxRecDepth 20000 in
theorem gX6_slew_X6_isBetween : GoodIn wsX6_slew (va_wsS RX6 37 yX6_isBetween wsX6_isBetween) := goodIn_app (goodIn_of _ (by decide +kernel)) ggX6_slew_X6_isBetween
set_option maxRecDepth 20000 in
theorem ggX6_slew_X2_numberUnderWay : GoodIn wsX6_slew wsX2_numberUnderWay := goodIn_r _ [15, 16, 17, 171, 172, 173, 174, 175, 176, 177, 178, 179, 180, 181, 182, 183, 184, 185, 186, 187, 188, 189, 190, 191, 192, 193, 194, 195] (by decide +kernel) (by decide +kernel)
set_option maxRecDepth 20000 in
theorem gX6_slew_X2_numberUnderWay : GoodIn wsX6_slew (wsV RX6 77 RX2 yX2_numberUnderWay wsX2_numberUnderWay) := goodIn_app (goodIn_of _ (by decide +kernel)) ggX6_slew_X2_numberUnderWay
set_option maxRecDepth 20000 in
theorem ggX6_slew_X2_kindOfDay : GoodIn wsX6_slew wsX2_kindOfDay := goodIn_r _ [21, 22, 23, 24, 25, 14, 26, 27, 28, 29, 30, 31, 32, 171, 172, 173, 174, 175, 176, 177, 178, 179, 180, 181] (by decide +kernel) (by decide +kernel)
set_option maxRecDepth 20000 in
theorem gX6_slew_X2_kindOfDay : GoodIn wsX6_slew (wsV RX6 117 RX2 yX2_kindOfDay wsX2_kindOfDay) := goodIn_app (goodIn_of _ (by decide +kernel)) ggX6_slew_X2_kindOfDay
set_option maxRecDepth 20000 in
theorem ggX6_slew_X2_wayAround : GoodIn wsX6_slew wsX2_wayAround := goodIn_r _ [36, 37, 38, 39, 22, 40, 41, 42, 43, 44, 45, 46, 47, 48, 49, 50, 51, 52, 53, 54, 55, 56, 57, 58, 59, 60, 61, 62, 63, 64, 65, 66, 67, 68, 69, 70, 71, 72, 73, 74, 75, 76, 77, 78, 14, 79, 80, 81, 82, 171, 172, 173, 174, 175, 176, 177, 178, 179, 180, 181, 164, 165, 166, 167, 168, 169, 170, 196, 197, 198, 199, 200, 201, 202, 203, 204, 205] (by decide +kernel) (by decide +kernel)
set_option maxRecDepth 20000 in
theorem gX6_slew_X2_wayAround : GoodIn wsX6_slew (wsV RX6 105 RX2 yX2_wayAround wsX2_wayAround) := goodIn_app (goodIn_of _ (by decide +kernel)) ggX6_slew_X2_wayAround
set_option maxRecDepth 20000 in
theorem ggX6_slew_X2_wayRise : GoodIn wsX6_slew wsX2_wayRise := goodIn_r _ [86, 87, 88, 22, 42, 43, 44, 45, 46, 47, 48, 49, 50, 51, 52, 53, 54, 55, 56, 57, 58, 59, 60, 61, 62, 63, 64, 65, 66, 67, 68, 69, 70, 71, 72, 73, 74, 75, 171, 172, 173, 174, 175, 176, 177, 178, 179, 180, 181, 164, 165, 166, 167, 168, 169, 170, 196, 197, 198, 199, 200, 201, 202, 203, 204, 205] (by decide +kernel) (by decide +kernel)
set_option maxRecDepth 20000 in
theorem gX6_slew_X2_wayRise : GoodIn wsX6_slew (wsV RX6 120 RX2 yX2_wayRise wsX2_wayRise) := goodIn_app (goodIn_of _ (by decide +kernel)) ggX6_slew_X2_wayRise
set_option maxRecDepth 20000 in
theorem ggX6_slew_X1_record : GoodIn wsX6_slew wsX1_record := goodIn_r _ [93, 94, 95, 96, 97, 98, 92, 99, 100, 101, 102, 14, 103, 32, 104, 105, 22, 106, 107, 108, 109, 27, 38, 88, 16, 110, 111, 112, 66, 113, 114, 115, 116, 68, 69, 117, 118, 119, 120, 121, 122, 123, 124, 125, 126, 127, 128, 129, 130, 131, 132, 133, 134, 135, 136, 137, 206, 207, 171, 172, 173, 174, 175, 176, 177, 178, 179, 180, 181, 196, 197, 198, 199, 200, 201, 202, 203, 204, 205, 182, 183, 184, 185, 186, 187, 188, 189, 190, 191, 192, 193, 194, 195] (by decide +kernel) (by decide +kernel)
set_option maxRecDepth 20000 in
theorem gX6_slew_X1_record : GoodIn wsX6_slew (wsV RX6 42 RX1 yX1_record wsX1_record) := goodIn_app (goodIn_of _ (by decide +kernel)) ggX6_slew_X1_record
set_option maxRecDepth 20000 in
theorem ggX6_slew_X2_followWays : GoodIn wsX6_slew wsX2_followWays := goodIn_r _ [141, 38, 88, 104, 142, 143, 144, 58, 145, 146, 147, 148, 66, 149, 150, 151, 152, 153, 154, 155, 68, 117, 69, 114, 156, 157, 158, 118, 159, 171, 172, 173, 174, 175, 176, 177, 178, 179, 180, 181, 164, 165, 166, 167, 168, 169, 170, 196, 197, 198, 199, 200, 201, 202, 203, 204, 205] (by decide +kernel) (by decide +kernel)
set_option maxRecDepth 20000 in
theorem gX6_slew_X2_followWays : GoodIn wsX6_slew (wsV RX6 123 RX2 yX2_followWays wsX2_followWays) := goodIn_app (goodIn_of _ (by decide +kernel)) ggX6_slew_X2_followWays
theorem dX6_slew_0 : decode cX6_slew 0 = .ok (.iload_n 1, 1) := by decide +kernel
theorem dX6_slew_1 : decode cX6_slew 1 = .ok (.iconst 0, 1) := by decide +kernel
theorem dX6_slew_2 : decode cX6_slew 2 = .ok (.ldc 104, 2) := by decide +kernel
theorem dX6_slew_4 : decode cX6_slew 4 = .ok (.invokestatic 37, 3) := by decide +kernel
theorem dX6_slew_7 : decode cX6_slew 7 = .ok (.ifCond .eq 16, 3) := by decide +kernel
theorem dX6_slew_10 : decode cX6_slew 10 = .ok (.iload_n 2, 1) := by decide +kernel
theorem dX6_slew_11 : decode cX6_slew 11 = .ok (.sipush 500, 3) := by decide +kernel
theorem dX6_slew_14 : decode cX6_slew 14 = .ok (.sipush 9000, 3) := by decide +kernel
theorem dX6_slew_17 : decode cX6_slew 17 = .ok (.invokestatic 37, 3) := by decide +kernel
theorem dX6_slew_20 : decode cX6_slew 20 = .ok (.ifCond .ne 6, 3) := by decide +kernel
theorem dX6_slew_23 : decode cX6_slew 23 = .ok (.ldc 41, 2) := by decide +kernel
theorem dX6_slew_25 : decode cX6_slew 25 = .ok (.ireturn, 1) := by decide +kernel
theorem dX6_slew_26 : decode cX6_slew 26 = .ok (.aload_n 0, 1) := by decide +kernel
theorem dX6_slew_27 : decode cX6_slew 27 = .ok (.getfield 10, 3) := by decide +kernel
theorem dX6_slew_30 : decode cX6_slew 30 = .ok (.invokevirtual 77, 3) := by decide +kernel
theorem dX6_slew_33 : decode cX6_slew 33 = .ok (.iconst (-1), 1) := by decide +kernel
theorem dX6_slew_34 : decode cX6_slew 34 = .ok (.if_icmp .ne 13, 3) := by decide +kernel
theorem dX6_slew_37 : decode cX6_slew 37 = .ok (.aload_n 0, 1) := by decide +kernel
theorem dX6_slew_38 : decode cX6_slew 38 = .ok (.getfield 10, 3) := by decide +kernel
theorem dX6_slew_41 : decode cX6_slew 41 = .ok (.invokevirtual 117, 3) := by decide +kernel
theorem dX6_slew_44 : decode cX6_slew 44 = .ok (.ifCond .ne 6, 3) := by decide +kernel
theorem dX6_slew_47 : decode cX6_slew 47 = .ok (.ldc 69, 2) := by decide +kernel
theorem dX6_slew_49 : decode cX6_slew 49 = .ok (.ireturn, 1) := by decide +kernel
theorem dX6_slew_50 : decode cX6_slew 50 = .ok (.aload_n 0, 1) := by decide +kernel
theorem dX6_slew_51 : decode cX6_slew 51 = .ok (.getfield 10, 3) := by decide +kernel
theorem dX6_slew_54 : decode cX6_slew 54 = .ok (.iload_n 1, 1) := by decide +kernel
theorem dX6_slew_55 : decode cX6_slew 55 = .ok (.invokevirtual 105, 3) := by decide +kernel
theorem dX6_slew_58 : decode cX6_slew 58 = .ok (.astore_n 3, 1) := by decide +kernel
theorem dX6_slew_59 : decode cX6_slew 59 = .ok (.aload_n 0, 1) := by decide +kernel
theorem dX6_slew_60 : decode cX6_slew 60 = .ok (.getfield 10, 3) := by decide +kernel
theorem dX6_slew_63 : decode cX6_slew 63 = .ok (.iload_n 2, 1) := by decide +kernel
theorem dX6_slew_64 : decode cX6_slew 64 = .ok (.invokevirtual 120, 3) := by decide +kernel
theorem dX6_slew_67 : decode cX6_slew 67 = .ok (.astore 4, 2) := by decide +kernel
theorem dX6_slew_69 : decode cX6_slew 69 = .ok (.aload_n 3, 1) := by decide +kernel
theorem dX6_slew_70 : decode cX6_slew 70 = .ok (.getfield 109, 3) := by decide +kernel
theorem dX6_slew_73 : decode cX6_slew 73 = .ok (.ifCond .eq 11, 3) := by decide +kernel
theorem dX6_slew_76 : decode cX6_slew 76 = .ok (.aload 4, 2) := by decide +kernel
theorem dX6_slew_78 : decode cX6_slew 78 = .ok (.getfield 109, 3) := by decide +kernel
theorem dX6_slew_81 : decode cX6_slew 81 = .ok (.ifCond .ne 6, 3) := by decide +kernel
theorem dX6_slew_84 : decode cX6_slew 84 = .ok (.ldc 69, 2) := by decide +kernel
theorem dX6_slew_86 : decode cX6_slew 86 = .ok (.ireturn, 1) := by decide +kernel
theorem dX6_slew_87 : decode cX6_slew 87 = .ok (.aload_n 0, 1) := by decide +kernel
theorem dX6_slew_88 : decode cX6_slew 88 = .ok (.getfield 22, 3) := by decide +kernel
theorem dX6_slew_91 : decode cX6_slew 91 = .ok (.aload_n 0, 1) := by decide +kernel
theorem dX6_slew_92 : decode cX6_slew 92 = .ok (.getfield 10, 3) := by decide +kernel
theorem dX6_slew_95 : decode cX6_slew 95 = .ok (.invokevirtual 42, 3) := by decide +kernel
theorem dX6_slew_98 : decode cX6_slew 98 = .ok (.aload_n 0, 1) := by decide +kernel
theorem dX6_slew_99 : decode cX6_slew 99 = .ok (.getfield 10, 3) := by decide +kernel
theorem dX6_slew_102 : decode cX6_slew 102 = .ok (.aload_n 3, 1) := by decide +kernel
theorem dX6_slew_103 : decode cX6_slew 103 = .ok (.aload 4, 2) := by decide +kernel
theorem dX6_slew_105 : decode cX6_slew 105 = .ok (.invokevirtual 123, 3) := by decide +kernel
theorem dX6_slew_108 : decode cX6_slew 108 = .ok (.ireturn, 1) := by decide +kernel
theorem dX6_isWound_0 : decode cX6_isWound 0 = .ok (.aload_n 0, 1) := by decide +kernel
theorem dX6_isWound_1 : decode cX6_isWound 1 = .ok (.getfield 10, 3) := by decide +kernel
theorem dX6_isWound_4 : decode cX6_isWound 4 = .ok (.getfield 127, 3) := by decide +kernel
theorem dX6_isWound_7 : decode cX6_isWound 7 = .ok (.getfield 131, 3) := by decide +kernel
theorem dX6_isWound_10 : decode cX6_isWound 10 = .ok (.invokestatic 134, 3) := by decide +kernel
theorem dX6_isWound_13 : decode cX6_isWound 13 = .ok (.aload_n 0, 1) := by decide +kernel
theorem dX6_isWound_14 : decode cX6_isWound 14 = .ok (.getfield 10, 3) := by decide +kernel
theorem dX6_isWound_17 : decode cX6_isWound 17 = .ok (.getfield 139, 3) := by decide +kernel
theorem dX6_isWound_20 : decode cX6_isWound 20 = .ok (.iconst 1, 1) := by decide +kernel
theorem dX6_isWound_21 : decode cX6_isWound 21 = .ok (.iaload, 1) := by decide +kernel
theorem dX6_isWound_22 : decode cX6_isWound 22 = .ok (.if_icmp .le 7, 3) := by decide +kernel
theorem dX6_isWound_25 : decode cX6_isWound 25 = .ok (.iconst 1, 1) := by decide +kernel
theorem dX6_isWound_26 : decode cX6_isWound 26 = .ok (.goto 4, 3) := by decide +kernel
theorem dX6_isWound_29 : decode cX6_isWound 29 = .ok (.iconst 0, 1) := by decide +kernel
theorem dX6_isWound_30 : decode cX6_isWound 30 = .ok (.ireturn, 1) := by decide +kernel
set_option maxRecDepth 20000 in
theorem ggX6_add_X6_isTargetInRange : GoodIn wsX6_add wsX6_isTargetInRange := goodIn_r _ [8, 9, 10, 11, 12, 7, 13] (by decide +kernel) (by decide +kernel)
set_option maxRecDepth 20000 in
theorem gX6_add_X6_isTargetInRange : GoodIn wsX6_add (va_wsS RX6 142 yX6_isTargetInRange wsX6_isTargetInRange) := goodIn_app (goodIn_of _ (by decide +kernel)) ggX6_add_X6_isTargetInRange
set_option maxRecDepth 20000 in
theorem ggX6_add_X2_targetsIn : GoodIn wsX6_add wsX2_targetsIn := goodIn_r _ [18, 19, 20, 94, 95, 96, 97, 98, 99, 100, 101, 102, 103, 104, 105, 106, 107, 108, 109, 110, 111, 112, 113, 114, 115, 116, 117, 118] (by decide +kernel) (by decide +kernel)
set_option maxRecDepth 20000 in
theorem gX6_add_X2_targetsIn : GoodIn wsX6_add (wsV RX6 73 RX2 yX2_targetsIn wsX2_targetsIn) := goodIn_app (goodIn_of _ (by decide +kernel)) ggX6_add_X2_targetsIn
set_option maxRecDepth 20000 in
theorem ggX6_add_X1_record : GoodIn wsX6_add wsX1_record := goodIn_r _ [25, 26, 27, 28, 29, 30, 24, 31, 32, 33, 34, 17, 35, 36, 37, 38, 39, 40, 41, 42, 43, 44, 45, 46, 19, 47, 48, 49, 50, 51, 52, 53, 54, 55, 56, 57, 58, 59, 60, 61, 62, 63, 64, 65, 66, 67, 68, 69, 70, 71, 72, 73, 74, 75, 76, 77, 119, 120, 94, 95, 96, 97, 98, 99, 100, 101, 102, 103, 104, 121, 122, 123, 124, 125, 126, 127, 128, 129, 130, 105, 106, 107, 108, 109, 110, 111, 112, 113, 114, 115, 116, 117, 118] (by decide +kernel) (by decide +kernel)
set_option maxRecDepth 20000 in
theorem gX6_add_X1_record : GoodIn wsX6_add (wsV RX6 42 RX1 yX1_record wsX1_record) := goodIn_app (goodIn_of _ (by decide +kernel)) ggX6_add_X1_record
set_option maxRecDepth 20000 in
theorem ggX6_add_X2_append : GoodIn wsX6_add wsX2_append := goodIn_r _ [81, 19, 82, 83, 84, 85, 86, 87, 20, 88, 89, 15, 16, 17, 18, 94, 95, 96, 97, 98, 99, 100, 101, 102, 103, 104, 105, 106, 107, 108, 109, 110, 111, 112, 113, 114, 115, 116, 117, 118] (by decide +kernel) (by decide +kernel)
set_option maxRecDepth 20000 in
theorem gX6_add_X2_append : GoodIn wsX6_add (wsV RX6 147 RX2 yX2_append wsX2_append) := goodIn_app (goodIn_of _ (by decide +kernel)) ggX6_add_X2_append
theorem dX6_add_0 : decode cX6_add 0 = .ok (.iload_n 1, 1) := by decide +kernel
theorem dX6_add_1 : decode cX6_add 1 = .ok (.iload_n 2, 1) := by decide +kernel
theorem dX6_add_2 : decode cX6_add 2 = .ok (.iload_n 3, 1) := by decide +kernel
theorem dX6_add_3 : decode cX6_add 3 = .ok (.iload 4, 2) := by decide +kernel
theorem dX6_add_5 : decode cX6_add 5 = .ok (.iload 5, 2) := by decide +kernel
theorem dX6_add_7 : decode cX6_add 7 = .ok (.iload 6, 2) := by decide +kernel
theorem dX6_add_9 : decode cX6_add 9 = .ok (.invokestatic 142, 3) := by decide +kernel
theorem dX6_add_12 : decode cX6_add 12 = .ok (.ifCond .ne 6, 3) := by decide +kernel
theorem dX6_add_15 : decode cX6_add 15 = .ok (.ldc 41, 2) := by decide +kernel
theorem dX6_add_17 : decode cX6_add 17 = .ok (.ireturn, 1) := by decide +kernel
theorem dX6_add_18 : decode cX6_add 18 = .ok (.aload_n 0, 1) := by decide +kernel
theorem dX6_add_19 : decode cX6_add 19 = .ok (.getfield 10, 3) := by decide +kernel
theorem dX6_add_22 : decode cX6_add 22 = .ok (.iconst 4, 1) := by decide +kernel
theorem dX6_add_23 : decode cX6_add 23 = .ok (.invokevirtual 73, 3) := by decide +kernel
theorem dX6_add_26 : decode cX6_add 26 = .ok (.ifCond .ne 6, 3) := by decide +kernel
theorem dX6_add_29 : decode cX6_add 29 = .ok (.ldc 146, 2) := by decide +kernel
theorem dX6_add_31 : decode cX6_add 31 = .ok (.ireturn, 1) := by decide +kernel
theorem dX6_add_32 : decode cX6_add 32 = .ok (.aload_n 0, 1) := by decide +kernel
theorem dX6_add_33 : decode cX6_add 33 = .ok (.getfield 22, 3) := by decide +kernel
theorem dX6_add_36 : decode cX6_add 36 = .ok (.aload_n 0, 1) := by decide +kernel
theorem dX6_add_37 : decode cX6_add 37 = .ok (.getfield 10, 3) := by decide +kernel
theorem dX6_add_40 : decode cX6_add 40 = .ok (.invokevirtual 42, 3) := by decide +kernel
theorem dX6_add_43 : decode cX6_add 43 = .ok (.aload_n 0, 1) := by decide +kernel
theorem dX6_add_44 : decode cX6_add 44 = .ok (.getfield 10, 3) := by decide +kernel
theorem dX6_add_47 : decode cX6_add 47 = .ok (.iload_n 1, 1) := by decide +kernel
theorem dX6_add_48 : decode cX6_add 48 = .ok (.iload_n 2, 1) := by decide +kernel
theorem dX6_add_49 : decode cX6_add 49 = .ok (.iload_n 3, 1) := by decide +kernel
theorem dX6_add_50 : decode cX6_add 50 = .ok (.iload 4, 2) := by decide +kernel
theorem dX6_add_52 : decode cX6_add 52 = .ok (.iload 5, 2) := by decide +kernel
theorem dX6_add_54 : decode cX6_add 54 = .ok (.iload 6, 2) := by decide +kernel
theorem dX6_add_56 : decode cX6_add 56 = .ok (.invokevirtual 147, 3) := by decide +kernel
theorem dX6_add_59 : decode cX6_add 59 = .ok (.ireturn, 1) := by decide +kernel
set_option maxRecDepth 20000 in
theorem ggX6_drop_X2_hasTarget : GoodIn wsX6_drop wsX2_hasTarget := goodIn_r _ [11, 12, 13, 87, 88, 89, 90, 91, 92, 93, 94, 95, 96, 97, 98, 99, 100, 101, 102, 103, 104, 105, 106, 107, 108, 109, 110, 111] (by decide +kernel) (by decide +kernel)
set_option maxRecDepth 20000 in
theorem gX6_drop_X2_hasTarget : GoodIn wsX6_drop (wsV RX6 151 RX2 yX2_hasTarget wsX2_hasTarget) := goodIn_app (goodIn_of _ (by decide +kernel)) ggX6_drop_X2_hasTarget
set_option maxRecDepth 20000 in
theorem ggX6_drop_X1_record : GoodIn wsX6_drop wsX1_record := goodIn_r _ [18, 19, 20, 21, 22, 23, 17, 24, 25, 26, 27, 10, 28, 29, 30, 31, 32, 33, 34, 35, 36, 37, 38, 39, 12, 40, 41, 42, 43, 44, 45, 46, 47, 48, 49, 50, 51, 52, 53, 54, 55, 56, 57, 58, 59, 60, 61, 62, 63, 64, 65, 66, 67, 68, 69, 70, 112, 113, 87, 88, 89, 90, 91, 92, 93, 94, 95, 96, 97, 114, 115, 116, 117, 118, 119, 120, 121, 122, 123, 98, 99, 100, 101, 102, 103, 104, 105, 106, 107, 108, 109, 110, 111] (by decide +kernel) (by decide +kernel)
set_option maxRecDepth 20000 in
theorem gX6_drop_X1_record : GoodIn wsX6_drop (wsV RX6 42 RX1 yX1_record wsX1_record) := goodIn_app (goodIn_of _ (by decide +kernel)) ggX6_drop_X1_record
set_option maxRecDepth 20000 in
theorem ggX6_drop_X2_remove : GoodIn wsX6_drop wsX2_remove := goodIn_r _ [74, 75, 76, 77, 78, 12, 13, 52, 53, 54, 55, 56, 57, 58, 59, 60, 61, 62, 63, 64, 65, 66, 67, 68, 69, 70, 87, 88, 89, 90, 91, 92, 93, 94, 95, 96, 97, 98, 99, 100, 101, 102, 103, 104, 105, 106, 107, 108, 109, 110, 111] (by decide +kernel) (by decide +kernel)
set_option maxRecDepth 20000 in
theorem gX6_drop_X2_remove : GoodIn wsX6_drop (wsV RX6 164 RX2 yX2_remove wsX2_remove) := goodIn_app (goodIn_of _ (by decide +kernel)) ggX6_drop_X2_remove
set_option maxRecDepth 20000 in
theorem ggX6_drop_X2_targetsIn : GoodIn wsX6_drop wsX2_targetsIn := goodIn_r _ [82, 12, 13, 87, 88, 89, 90, 91, 92, 93, 94, 95, 96, 97, 98, 99, 100, 101, 102, 103, 104, 105, 106, 107, 108, 109, 110, 111] (by decide +kernel) (by decide +kernel)
set_option maxRecDepth 20000 in
theorem gX6_drop_X2_targetsIn : GoodIn wsX6_drop (wsV RX6 73 RX2 yX2_targetsIn wsX2_targetsIn) := goodIn_app (goodIn_of _ (by decide +kernel)) ggX6_drop_X2_targetsIn
theorem dX6_drop_0 : decode cX6_drop 0 = .ok (.aload_n 0, 1) := by decide +kernel
theorem dX6_drop_1 : decode cX6_drop 1 = .ok (.getfield 10, 3) := by decide +kernel
theorem dX6_drop_4 : decode cX6_drop 4 = .ok (.iload_n 1, 1) := by decide +kernel
theorem dX6_drop_5 : decode cX6_drop 5 = .ok (.invokevirtual 151, 3) := by decide +kernel
theorem dX6_drop_8 : decode cX6_drop 8 = .ok (.ifCond .ne 6, 3) := by decide +kernel
theorem dX6_drop_11 : decode cX6_drop 11 = .ok (.ldc 41, 2) := by decide +kernel
theorem dX6_drop_13 : decode cX6_drop 13 = .ok (.ireturn, 1) := by decide +kernel
theorem dX6_drop_14 : decode cX6_drop 14 = .ok (.aload_n 0, 1) := by decide +kernel
theorem dX6_drop_15 : decode cX6_drop 15 = .ok (.getfield 10, 3) := by decide +kernel
theorem dX6_drop_18 : decode cX6_drop 18 = .ok (.getfield 155, 3) := by decide +kernel
theorem dX6_drop_21 : decode cX6_drop 21 = .ok (.iload_n 1, 1) := by decide +kernel
theorem dX6_drop_22 : decode cX6_drop 22 = .ok (.aaload, 1) := by decide +kernel
theorem dX6_drop_23 : decode cX6_drop 23 = .ok (.getfield 159, 3) := by decide +kernel
theorem dX6_drop_26 : decode cX6_drop 26 = .ok (.iconst 1, 1) := by decide +kernel
theorem dX6_drop_27 : decode cX6_drop 27 = .ok (.if_icmp .ne 6, 3) := by decide +kernel
theorem dX6_drop_30 : decode cX6_drop 30 = .ok (.ldc 69, 2) := by decide +kernel
theorem dX6_drop_32 : decode cX6_drop 32 = .ok (.ireturn, 1) := by decide +kernel
theorem dX6_drop_33 : decode cX6_drop 33 = .ok (.aload_n 0, 1) := by decide +kernel
theorem dX6_drop_34 : decode cX6_drop 34 = .ok (.getfield 22, 3) := by decide +kernel
theorem dX6_drop_37 : decode cX6_drop 37 = .ok (.aload_n 0, 1) := by decide +kernel
theorem dX6_drop_38 : decode cX6_drop 38 = .ok (.getfield 10, 3) := by decide +kernel
theorem dX6_drop_41 : decode cX6_drop 41 = .ok (.invokevirtual 42, 3) := by decide +kernel
theorem dX6_drop_44 : decode cX6_drop 44 = .ok (.aload_n 0, 1) := by decide +kernel
theorem dX6_drop_45 : decode cX6_drop 45 = .ok (.getfield 10, 3) := by decide +kernel
theorem dX6_drop_48 : decode cX6_drop 48 = .ok (.iload_n 1, 1) := by decide +kernel
theorem dX6_drop_49 : decode cX6_drop 49 = .ok (.invokevirtual 164, 3) := by decide +kernel
theorem dX6_drop_52 : decode cX6_drop 52 = .ok (.bipush 10, 2) := by decide +kernel
theorem dX6_drop_54 : decode cX6_drop 54 = .ok (.aload_n 0, 1) := by decide +kernel
theorem dX6_drop_55 : decode cX6_drop 55 = .ok (.getfield 10, 3) := by decide +kernel
theorem dX6_drop_58 : decode cX6_drop 58 = .ok (.iconst 4, 1) := by decide +kernel
theorem dX6_drop_59 : decode cX6_drop 59 = .ok (.invokevirtual 73, 3) := by decide +kernel
theorem dX6_drop_62 : decode cX6_drop 62 = .ok (.isub, 1) := by decide +kernel
theorem dX6_drop_63 : decode cX6_drop 63 = .ok (.ireturn, 1) := by decide +kernel
set_option maxRecDepth 20000 in
theorem ggX6_target_X2_hasTarget : GoodIn wsX6_target wsX2_hasTarget := goodIn_r _ [8, 9, 10, 39, 40, 41, 42, 43, 44, 45, 46, 47, 48, 49, 50, 51, 52, 53, 54, 55, 56, 57, 58, 59, 60, 61, 62, 63] (by decide +kernel) (by decide +kernel)
set_option maxRecDepth 20000 in
theorem gX6_target_X2_hasTarget : GoodIn wsX6_target (wsV RX6 151 RX2 yX2_hasTarget wsX2_hasTarget) := goodIn_app (goodIn_of _ (by decide +kernel)) ggX6_target_X2_hasTarget
set_option maxRecDepth 20000 in
theorem ggX6_target_X3_tell : GoodIn wsX6_target wsX3_tell := goodIn_r _ [15, 16, 17, 18, 19, 20, 21, 22, 23, 24, 25, 26, 27, 28, 29, 30, 31, 32, 33, 14, 34, 50, 51, 52, 53, 54, 55, 56, 57, 58, 59, 60, 61, 62, 63] (by decide +kernel) (by decide +kernel)
set_option maxRecDepth 20000 in
theorem gX6_target_X3_tell : GoodIn wsX6_target (wsV RX6 168 RX3 yX3_tell wsX3_tell) := goodIn_app (goodIn_of _ (by decide +kernel)) ggX6_target_X3_tell
theorem dX6_target_0 : decode cX6_target 0 = .ok (.aload_n 0, 1) := by decide +kernel
theorem dX6_target_1 : decode cX6_target 1 = .ok (.getfield 10, 3) := by decide +kernel
theorem dX6_target_4 : decode cX6_target 4 = .ok (.iload_n 1, 1) := by decide +kernel
theorem dX6_target_5 : decode cX6_target 5 = .ok (.invokevirtual 151, 3) := by decide +kernel
theorem dX6_target_8 : decode cX6_target 8 = .ok (.ifCond .ne 6, 3) := by decide +kernel
theorem dX6_target_11 : decode cX6_target 11 = .ok (.ldc 41, 2) := by decide +kernel
theorem dX6_target_13 : decode cX6_target 13 = .ok (.ireturn, 1) := by decide +kernel
theorem dX6_target_14 : decode cX6_target 14 = .ok (.aload_n 0, 1) := by decide +kernel
theorem dX6_target_15 : decode cX6_target 15 = .ok (.getfield 10, 3) := by decide +kernel
theorem dX6_target_18 : decode cX6_target 18 = .ok (.getfield 155, 3) := by decide +kernel
theorem dX6_target_21 : decode cX6_target 21 = .ok (.iload_n 1, 1) := by decide +kernel
theorem dX6_target_22 : decode cX6_target 22 = .ok (.aaload, 1) := by decide +kernel
theorem dX6_target_23 : decode cX6_target 23 = .ok (.iload_n 2, 1) := by decide +kernel
theorem dX6_target_24 : decode cX6_target 24 = .ok (.invokevirtual 168, 3) := by decide +kernel
theorem dX6_target_27 : decode cX6_target 27 = .ok (.ireturn, 1) := by decide +kernel
set_option maxRecDepth 20000 in
theorem ggX6_why_X2_hasTarget : GoodIn wsX6_why wsX2_hasTarget := goodIn_r _ [8, 9, 10, 103, 104, 105, 106, 107, 108, 109, 110, 111, 112, 113, 114, 115, 116, 117, 118, 119, 120, 121, 122, 123, 124, 125, 126, 127] (by decide +kernel) (by decide +kernel)
set_option maxRecDepth 20000 in
theorem gX6_why_X2_hasTarget : GoodIn wsX6_why (wsV RX6 151 RX2 yX2_hasTarget wsX2_hasTarget) := goodIn_app (goodIn_of _ (by decide +kernel)) ggX6_why_X2_hasTarget
set_option maxRecDepth 20000 in
theorem ggX6_why_X2_reasonAgainst : GoodIn wsX6_why wsX2_reasonAgainst := goodIn_r _ [14, 10, 15, 16, 17, 18, 19, 20, 21, 22, 23, 24, 25, 26, 27, 28, 29, 7, 30, 9, 31, 32, 33, 34, 35, 36, 37, 38, 39, 40, 41, 42, 43, 44, 45, 46, 47, 48, 49, 50, 51, 52, 53, 54, 55, 56, 57, 58, 59, 60, 61, 62, 63, 64, 65, 66, 67, 68, 69, 70, 71, 72, 73, 74, 75, 76, 77, 78, 79, 80, 81, 82, 83, 84, 85, 86, 87, 88, 89, 90, 91, 92, 93, 94, 95, 96, 97, 98, 114, 115, 116, 117, 118, 119, 120, 121, 122, 123, 124, 125, 126, 127, 103, 104, 105, 106, 107, 108, 109, 110, 111, 112, 113, 128, 129, 130, 131, 132, 133, 134, 135, 136, 137, 138, 139, 140, 141, 142, 143, 144] (by decide +kernel) (by decide +kernel)
set_option maxRecDepth 20000 in
theorem gX6_why_X2_reasonAgainst : GoodIn wsX6_why (wsV RX6 169 RX2 yX2_reasonAgainst wsX2_reasonAgainst) := goodIn_app (goodIn_of _ (by decide +kernel)) ggX6_why_X2_reasonAgainst
theorem dX6_why_0 : decode cX6_why 0 = .ok (.aload_n 0, 1) := by decide +kernel
theorem dX6_why_1 : decode cX6_why 1 = .ok (.getfield 10, 3) := by decide +kernel
theorem dX6_why_4 : decode cX6_why 4 = .ok (.iload_n 1, 1) := by decide +kernel
theorem dX6_why_5 : decode cX6_why 5 = .ok (.invokevirtual 151, 3) := by decide +kernel
theorem dX6_why_8 : decode cX6_why 8 = .ok (.ifCond .ne 6, 3) := by decide +kernel
theorem dX6_why_11 : decode cX6_why 11 = .ok (.ldc 41, 2) := by decide +kernel
theorem dX6_why_13 : decode cX6_why 13 = .ok (.ireturn, 1) := by decide +kernel
theorem dX6_why_14 : decode cX6_why 14 = .ok (.aload_n 0, 1) := by decide +kernel
theorem dX6_why_15 : decode cX6_why 15 = .ok (.getfield 10, 3) := by decide +kernel
theorem dX6_why_18 : decode cX6_why 18 = .ok (.aload_n 0, 1) := by decide +kernel
theorem dX6_why_19 : decode cX6_why 19 = .ok (.getfield 10, 3) := by decide +kernel
theorem dX6_why_22 : decode cX6_why 22 = .ok (.getfield 155, 3) := by decide +kernel
theorem dX6_why_25 : decode cX6_why 25 = .ok (.iload_n 1, 1) := by decide +kernel
theorem dX6_why_26 : decode cX6_why 26 = .ok (.aaload, 1) := by decide +kernel
theorem dX6_why_27 : decode cX6_why 27 = .ok (.invokevirtual 169, 3) := by decide +kernel
theorem dX6_why_30 : decode cX6_why 30 = .ok (.ireturn, 1) := by decide +kernel
set_option maxRecDepth 20000 in
theorem ggX6_next_X2_bestToBegin : GoodIn wsX6_next wsX2_bestToBegin := goodIn_r _ [6, 7, 8, 9, 10, 5, 11, 12, 13, 14, 15, 16, 17, 18, 19, 20, 21, 22, 23, 24, 25, 26, 27, 28, 29, 30, 31, 32, 33, 34, 35, 36, 37, 38, 39, 40, 41, 42, 43, 44, 45, 46, 47, 48, 49, 50, 51, 52, 53, 54, 55, 56, 57, 58, 59, 60, 61, 62, 63, 64, 65, 66, 67, 68, 69, 70, 71, 72, 73, 74, 75, 76, 77, 78, 79, 80, 81, 82, 83, 84, 85, 86, 87, 88, 89, 90, 91, 92, 93, 94, 95, 96, 97, 98, 99, 100, 101, 102, 103, 113, 114, 115, 116, 117, 118, 119, 120, 121, 122, 123, 124, 125, 126, 127, 128, 129, 130, 131, 132, 133, 134, 135, 136, 137, 138, 139, 140, 141, 142, 143, 144, 145, 146, 147, 148, 149, 150, 151, 152, 153, 154] (by decide +kernel) (by decide +kernel)
set_option maxRecDepth 20000 in
theorem gX6_next_X2_bestToBegin : GoodIn wsX6_next (wsV RX6 173 RX2 yX2_bestToBegin wsX2_bestToBegin) := goodIn_app (goodIn_of _ (by decide +kernel)) ggX6_next_X2_bestToBegin
set_option maxRecDepth 20000 in
theorem ggX6_next_X6_foundTarget : GoodIn wsX6_next wsX6_foundTarget := goodIn_r _ [107, 108] (by decide +kernel) (by decide +kernel)
set_option maxRecDepth 20000 in
theorem gX6_next_X6_foundTarget : GoodIn wsX6_next (va_wsS RX6 81 yX6_foundTarget wsX6_foundTarget) := goodIn_app (goodIn_of _ (by decide +kernel)) ggX6_next_X6_foundTarget
theorem dX6_next_0 : decode cX6_next 0 = .ok (.aload_n 0, 1) := by decide +kernel
theorem dX6_next_1 : decode cX6_next 1 = .ok (.getfield 10, 3) := by decide +kernel
theorem dX6_next_4 : decode cX6_next 4 = .ok (.invokevirtual 173, 3) := by decide +kernel
theorem dX6_next_7 : decode cX6_next 7 = .ok (.invokestatic 81, 3) := by decide +kernel
theorem dX6_next_10 : decode cX6_next 10 = .ok (.ireturn, 1) := by decide +kernel
set_option maxRecDepth 20000 in
theorem ggX6_run_X6_isBetween : GoodIn wsX6_run wsX6_isBetween := goodIn_r _ [10] (by decide +kernel) (by decide +kernel)
set_option maxRecDepth 20000 in
theorem gX6_run_X6_isBetween : GoodIn wsX6_run (va_wsS RX6 37 yX6_isBetween wsX6_isBetween) := goodIn_app (goodIn_of _ (by decide +kernel)) ggX6_run_X6_isBetween
set_option maxRecDepth 20000 in
theorem ggX6_run_X1_record : GoodIn wsX6_run wsX1_record := goodIn_r _ [15, 16, 17, 18, 19, 20, 14, 21, 22, 23, 24, 25, 26, 27, 28, 29, 30, 31, 32, 33, 34, 35, 36, 37, 38, 39, 40, 41, 42, 43, 44, 45, 46, 47, 48, 49, 50, 51, 52, 53, 54, 55, 56, 57, 58, 59, 60, 61, 62, 63, 64, 65, 66, 67, 68, 69, 239, 240, 228, 229, 230, 231, 232, 233, 234, 235, 236, 237, 238, 241, 242, 243, 244, 245, 246, 247, 248, 249, 250, 251, 252, 253, 254, 255, 256, 257, 258, 259, 260, 261, 262, 263, 264] (by decide +kernel) (by decide +kernel)
set_option maxRecDepth 20000 in
theorem gX6_run_X1_record : GoodIn wsX6_run (wsV RX6 42 RX1 yX1_record wsX1_record) := goodIn_app (goodIn_of _ (by decide +kernel)) ggX6_run_X1_record
set_option maxRecDepth 20000 in
theorem ggX6_run_X2_targetsIn : GoodIn wsX6_run wsX2_targetsIn := goodIn_r _ [73, 38, 74, 228, 229, 230, 231, 232, 233, 234, 235, 236, 237, 238, 251, 252, 253, 254, 255, 256, 257, 258, 259, 260, 261, 262, 263, 264] (by decide +kernel) (by decide +kernel)
set_option maxRecDepth 20000 in
theorem gX6_run_X2_targetsIn : GoodIn wsX6_run (wsV RX6 73 RX2 yX2_targetsIn wsX2_targetsIn) := goodIn_app (goodIn_of _ (by decide +kernel)) ggX6_run_X2_targetsIn
set_option maxRecDepth 20000 in
theorem ggX6_run_X2_letPass : GoodIn wsX6_run wsX2_letPass := goodIn_r _ [78, 27, 38, 79, 80, 81, 25, 82, 30, 83, 84, 85, 86, 35, 87, 88, 89, 90, 91, 92, 93, 94, 29, 74, 95, 37, 96, 97, 98, 42, 99, 47, 49, 48, 44, 100, 101, 102, 103, 50, 104, 105, 106, 107, 108, 109, 110, 111, 112, 113, 114, 115, 116, 36, 117, 118, 119, 120, 121, 122, 123, 124, 125, 126, 127, 128, 129, 130, 131, 132, 133, 134, 135, 136, 137, 138, 139, 140, 141, 142, 143, 144, 145, 146, 147, 148, 149, 150, 151, 152, 153, 154, 155, 156, 157, 158, 159, 160, 161, 162, 163, 164, 165, 166, 167, 168, 169, 170, 171, 172, 173, 174, 175, 176, 177, 178, 179, 180, 181, 182, 183, 184, 185, 186, 187, 188, 189, 190, 191, 192, 193, 194, 195, 196, 197, 198, 54, 199, 61, 59, 200, 201, 202, 203, 204, 205, 206, 207, 208, 28, 209, 210, 211, 212, 213, 214, 215, 216, 217, 218, 219, 220, 221, 222, 223, 228, 229, 230, 231, 232, 233, 234, 235, 236, 237, 238, 251, 252, 253, 254, 255, 256, 257, 258, 259, 260, 261, 262, 263, 264, 241, 242, 243, 244, 245, 246, 247, 248, 249, 250, 265, 266, 267, 268, 269, 270, 271] (by decide +kernel) (by decide +kernel)
set_option maxRecDepth 20000 in
theorem gX6_run_X2_letPass : GoodIn wsX6_run (wsV RX6 177 RX2 yX2_letPass wsX2_letPass) := goodIn_app (goodIn_of _ (by decide +kernel)) ggX6_run_X2_letPass
theorem dX6_run_0 : decode cX6_run 0 = .ok (.iload_n 1, 1) := by decide +kernel
theorem dX6_run_1 : decode cX6_run 1 = .ok (.iconst 0, 1) := by decide +kernel
theorem dX6_run_2 : decode cX6_run 2 = .ok (.sipush 2000, 3) := by decide +kernel
theorem dX6_run_5 : decode cX6_run 5 = .ok (.invokestatic 37, 3) := by decide +kernel
theorem dX6_run_8 : decode cX6_run 8 = .ok (.ifCond .ne 6, 3) := by decide +kernel
theorem dX6_run_11 : decode cX6_run 11 = .ok (.ldc 41, 2) := by decide +kernel
theorem dX6_run_13 : decode cX6_run 13 = .ok (.ireturn, 1) := by decide +kernel
theorem dX6_run_14 : decode cX6_run 14 = .ok (.aload_n 0, 1) := by decide +kernel
theorem dX6_run_15 : decode cX6_run 15 = .ok (.getfield 10, 3) := by decide +kernel
theorem dX6_run_18 : decode cX6_run 18 = .ok (.getfield 65, 3) := by decide +kernel
theorem dX6_run_21 : decode cX6_run 21 = .ok (.iload_n 1, 1) := by decide +kernel
theorem dX6_run_22 : decode cX6_run 22 = .ok (.iadd, 1) := by decide +kernel
theorem dX6_run_23 : decode cX6_run 23 = .ok (.ldc 176, 2) := by decide +kernel
theorem dX6_run_25 : decode cX6_run 25 = .ok (.if_icmp .le 6, 3) := by decide +kernel
theorem dX6_run_28 : decode cX6_run 28 = .ok (.ldc 146, 2) := by decide +kernel
theorem dX6_run_30 : decode cX6_run 30 = .ok (.ireturn, 1) := by decide +kernel
theorem dX6_run_31 : decode cX6_run 31 = .ok (.aload_n 0, 1) := by decide +kernel
theorem dX6_run_32 : decode cX6_run 32 = .ok (.getfield 22, 3) := by decide +kernel
theorem dX6_run_35 : decode cX6_run 35 = .ok (.aload_n 0, 1) := by decide +kernel
theorem dX6_run_36 : decode cX6_run 36 = .ok (.getfield 10, 3) := by decide +kernel
theorem dX6_run_39 : decode cX6_run 39 = .ok (.invokevirtual 42, 3) := by decide +kernel
theorem dX6_run_42 : decode cX6_run 42 = .ok (.aload_n 0, 1) := by decide +kernel
theorem dX6_run_43 : decode cX6_run 43 = .ok (.getfield 10, 3) := by decide +kernel
theorem dX6_run_46 : decode cX6_run 46 = .ok (.iconst 2, 1) := by decide +kernel
theorem dX6_run_47 : decode cX6_run 47 = .ok (.invokevirtual 73, 3) := by decide +kernel
theorem dX6_run_50 : decode cX6_run 50 = .ok (.istore_n 2, 1) := by decide +kernel
theorem dX6_run_51 : decode cX6_run 51 = .ok (.aload_n 0, 1) := by decide +kernel
theorem dX6_run_52 : decode cX6_run 52 = .ok (.getfield 10, 3) := by decide +kernel
theorem dX6_run_55 : decode cX6_run 55 = .ok (.iload_n 1, 1) := by decide +kernel
theorem dX6_run_56 : decode cX6_run 56 = .ok (.invokevirtual 177, 3) := by decide +kernel
theorem dX6_run_59 : decode cX6_run 59 = .ok (.aload_n 0, 1) := by decide +kernel
theorem dX6_run_60 : decode cX6_run 60 = .ok (.getfield 10, 3) := by decide +kernel
theorem dX6_run_63 : decode cX6_run 63 = .ok (.iconst 2, 1) := by decide +kernel
theorem dX6_run_64 : decode cX6_run 64 = .ok (.invokevirtual 73, 3) := by decide +kernel
theorem dX6_run_67 : decode cX6_run 67 = .ok (.iload_n 2, 1) := by decide +kernel
theorem dX6_run_68 : decode cX6_run 68 = .ok (.isub, 1) := by decide +kernel
theorem dX6_run_69 : decode cX6_run 69 = .ok (.ireturn, 1) := by decide +kernel
theorem dX6_isBetween_0 : decode cX6_isBetween 0 = .ok (.iload_n 0, 1) := by decide +kernel
theorem dX6_isBetween_1 : decode cX6_isBetween 1 = .ok (.iload_n 1, 1) := by decide +kernel
theorem dX6_isBetween_2 : decode cX6_isBetween 2 = .ok (.if_icmp .lt 12, 3) := by decide +kernel
theorem dX6_isBetween_5 : decode cX6_isBetween 5 = .ok (.iload_n 0, 1) := by decide +kernel
theorem dX6_isBetween_6 : decode cX6_isBetween 6 = .ok (.iload_n 2, 1) := by decide +kernel
theorem dX6_isBetween_7 : decode cX6_isBetween 7 = .ok (.if_icmp .gt 7, 3) := by decide +kernel
theorem dX6_isBetween_10 : decode cX6_isBetween 10 = .ok (.iconst 1, 1) := by decide +kernel
theorem dX6_isBetween_11 : decode cX6_isBetween 11 = .ok (.goto 4, 3) := by decide +kernel
theorem dX6_isBetween_14 : decode cX6_isBetween 14 = .ok (.iconst 0, 1) := by decide +kernel
theorem dX6_isBetween_15 : decode cX6_isBetween 15 = .ok (.ireturn, 1) := by decide +kernel
theorem dX6_foundTarget_0 : decode cX6_foundTarget 0 = .ok (.iload_n 0, 1) := by decide +kernel
theorem dX6_foundTarget_1 : decode cX6_foundTarget 1 = .ok (.iconst (-1), 1) := by decide +kernel
theorem dX6_foundTarget_2 : decode cX6_foundTarget 2 = .ok (.if_icmp .ne 8, 3) := by decide +kernel
theorem dX6_foundTarget_5 : decode cX6_foundTarget 5 = .ok (.ldc 116, 2) := by decide +kernel
theorem dX6_foundTarget_7 : decode cX6_foundTarget 7 = .ok (.goto 4, 3) := by decide +kernel
theorem dX6_foundTarget_10 : decode cX6_foundTarget 10 = .ok (.iload_n 0, 1) := by decide +kernel
theorem dX6_foundTarget_11 : decode cX6_foundTarget 11 = .ok (.ireturn, 1) := by decide +kernel
set_option maxRecDepth 20000 in
theorem ggX6_isTargetInRange_X6_isBetween : GoodIn wsX6_isTargetInRange wsX6_isBetween := goodIn_r _ [6] (by decide +kernel) (by decide +kernel)
set_option maxRecDepth 20000 in
theorem gX6_isTargetInRange_X6_isBetween : GoodIn wsX6_isTargetInRange (va_wsS RX6 37 yX6_isBetween wsX6_isBetween) := goodIn_app (goodIn_of _ (by decide +kernel)) ggX6_isTargetInRange_X6_isBetween
theorem dX6_isTargetInRange_0 : decode cX6_isTargetInRange 0 = .ok (.iload_n 0, 1) := by decide +kernel
theorem dX6_isTargetInRange_1 : decode cX6_isTargetInRange 1 = .ok (.iconst 0, 1) := by decide +kernel
theorem dX6_isTargetInRange_2 : decode cX6_isTargetInRange 2 = .ok (.ldc 104, 2) := by decide +kernel
theorem dX6_isTargetInRange_4 : decode cX6_isTargetInRange 4 = .ok (.invokestatic 37, 3) := by decide +kernel
theorem dX6_isTargetInRange_7 : decode cX6_isTargetInRange 7 = .ok (.ifCond .eq 68, 3) := by decide +kernel
theorem dX6_isTargetInRange_10 : decode cX6_isTargetInRange 10 = .ok (.iload_n 1, 1) := by decide +kernel
theorem dX6_isTargetInRange_11 : decode cX6_isTargetInRange 11 = .ok (.sipush 500, 3) := by decide +kernel
theorem dX6_isTargetInRange_14 : decode cX6_isTargetInRange 14 = .ok (.sipush 8500, 3) := by decide +kernel
theorem dX6_isTargetInRange_17 : decode cX6_isTargetInRange 17 = .ok (.invokestatic 37, 3) := by decide +kernel
theorem dX6_isTargetInRange_20 : decode cX6_isTargetInRange 20 = .ok (.ifCond .eq 55, 3) := by decide +kernel
theorem dX6_isTargetInRange_23 : decode cX6_isTargetInRange 23 = .ok (.iload_n 2, 1) := by decide +kernel
theorem dX6_isTargetInRange_24 : decode cX6_isTargetInRange 24 = .ok (.iconst 0, 1) := by decide +kernel
theorem dX6_isTargetInRange_25 : decode cX6_isTargetInRange 25 = .ok (.ldc 176, 2) := by decide +kernel
theorem dX6_isTargetInRange_27 : decode cX6_isTargetInRange 27 = .ok (.invokestatic 37, 3) := by decide +kernel
theorem dX6_isTargetInRange_30 : decode cX6_isTargetInRange 30 = .ok (.ifCond .eq 45, 3) := by decide +kernel
theorem dX6_isTargetInRange_33 : decode cX6_isTargetInRange 33 = .ok (.iload_n 3, 1) := by decide +kernel
theorem dX6_isTargetInRange_34 : decode cX6_isTargetInRange 34 = .ok (.iconst 0, 1) := by decide +kernel
theorem dX6_isTargetInRange_35 : decode cX6_isTargetInRange 35 = .ok (.ldc 176, 2) := by decide +kernel
theorem dX6_isTargetInRange_37 : decode cX6_isTargetInRange 37 = .ok (.invokestatic 37, 3) := by decide +kernel
theorem dX6_isTargetInRange_40 : decode cX6_isTargetInRange 40 = .ok (.ifCond .eq 35, 3) := by decide +kernel
theorem dX6_isTargetInRange_43 : decode cX6_isTargetInRange 43 = .ok (.iload_n 2, 1) := by decide +kernel
theorem dX6_isTargetInRange_44 : decode cX6_isTargetInRange 44 = .ok (.iload_n 3, 1) := by decide +kernel
theorem dX6_isTargetInRange_45 : decode cX6_isTargetInRange 45 = .ok (.if_icmp .ge 30, 3) := by decide +kernel
theorem dX6_isTargetInRange_48 : decode cX6_isTargetInRange 48 = .ok (.iload 4, 2) := by decide +kernel
theorem dX6_isTargetInRange_50 : decode cX6_isTargetInRange 50 = .ok (.iconst 1, 1) := by decide +kernel
theorem dX6_isTargetInRange_51 : decode cX6_isTargetInRange 51 = .ok (.sipush 600, 3) := by decide +kernel
theorem dX6_isTargetInRange_54 : decode cX6_isTargetInRange 54 = .ok (.invokestatic 37, 3) := by decide +kernel
theorem dX6_isTargetInRange_57 : decode cX6_isTargetInRange 57 = .ok (.ifCond .eq 18, 3) := by decide +kernel
theorem dX6_isTargetInRange_60 : decode cX6_isTargetInRange 60 = .ok (.iload 5, 2) := by decide +kernel
theorem dX6_isTargetInRange_62 : decode cX6_isTargetInRange 62 = .ok (.iconst 0, 1) := by decide +kernel
theorem dX6_isTargetInRange_63 : decode cX6_isTargetInRange 63 = .ok (.bipush 9, 2) := by decide +kernel
theorem dX6_isTargetInRange_65 : decode cX6_isTargetInRange 65 = .ok (.invokestatic 37, 3) := by decide +kernel
theorem dX6_isTargetInRange_68 : decode cX6_isTargetInRange 68 = .ok (.ifCond .eq 7, 3) := by decide +kernel
theorem dX6_isTargetInRange_71 : decode cX6_isTargetInRange 71 = .ok (.iconst 1, 1) := by decide +kernel
theorem dX6_isTargetInRange_72 : decode cX6_isTargetInRange 72 = .ok (.goto 4, 3) := by decide +kernel
theorem dX6_isTargetInRange_75 : decode cX6_isTargetInRange 75 = .ok (.iconst 0, 1) := by decide +kernel
theorem dX6_isTargetInRange_76 : decode cX6_isTargetInRange 76 = .ok (.ireturn, 1) := by decide +kernel
theorem dJ9_floorMod_7cf53_0 : decode cJ9_floorMod_7cf53 0 = .ok (.iload_n 0, 1) := by decide +kernel
theorem dJ9_floorMod_7cf53_1 : decode cJ9_floorMod_7cf53 1 = .ok (.iload_n 1, 1) := by decide +kernel
theorem dJ9_floorMod_7cf53_2 : decode cJ9_floorMod_7cf53 2 = .ok (.irem, 1) := by decide +kernel
theorem dJ9_floorMod_7cf53_3 : decode cJ9_floorMod_7cf53 3 = .ok (.istore_n 2, 1) := by decide +kernel
theorem dJ9_floorMod_7cf53_4 : decode cJ9_floorMod_7cf53 4 = .ok (.iload_n 0, 1) := by decide +kernel
theorem dJ9_floorMod_7cf53_5 : decode cJ9_floorMod_7cf53 5 = .ok (.iload_n 1, 1) := by decide +kernel
theorem dJ9_floorMod_7cf53_6 : decode cJ9_floorMod_7cf53 6 = .ok (.ixor, 1) := by decide +kernel
theorem dJ9_floorMod_7cf53_7 : decode cJ9_floorMod_7cf53 7 = .ok (.ifCond .ge 11, 3) := by decide +kernel
theorem dJ9_floorMod_7cf53_10 : decode cJ9_floorMod_7cf53 10 = .ok (.iload_n 2, 1) := by decide +kernel
theorem dJ9_floorMod_7cf53_11 : decode cJ9_floorMod_7cf53 11 = .ok (.ifCond .eq 7, 3) := by decide +kernel
theorem dJ9_floorMod_7cf53_14 : decode cJ9_floorMod_7cf53 14 = .ok (.iload_n 2, 1) := by decide +kernel
theorem dJ9_floorMod_7cf53_15 : decode cJ9_floorMod_7cf53 15 = .ok (.iload_n 1, 1) := by decide +kernel
theorem dJ9_floorMod_7cf53_16 : decode cJ9_floorMod_7cf53 16 = .ok (.iadd, 1) := by decide +kernel
theorem dJ9_floorMod_7cf53_17 : decode cJ9_floorMod_7cf53 17 = .ok (.ireturn, 1) := by decide +kernel
theorem dJ9_floorMod_7cf53_18 : decode cJ9_floorMod_7cf53 18 = .ok (.iload_n 2, 1) := by decide +kernel
theorem dJ9_floorMod_7cf53_19 : decode cJ9_floorMod_7cf53 19 = .ok (.ireturn, 1) := by decide +kernel
theorem dJ9_abs_0f7a4_0 : decode cJ9_abs_0f7a4 0 = .ok (.iload_n 0, 1) := by decide +kernel
theorem dJ9_abs_0f7a4_1 : decode cJ9_abs_0f7a4 1 = .ok (.ifCond .ge 8, 3) := by decide +kernel
theorem dJ9_abs_0f7a4_4 : decode cJ9_abs_0f7a4 4 = .ok (.iload_n 0, 1) := by decide +kernel
theorem dJ9_abs_0f7a4_5 : decode cJ9_abs_0f7a4 5 = .ok (.ineg, 1) := by decide +kernel
theorem dJ9_abs_0f7a4_6 : decode cJ9_abs_0f7a4 6 = .ok (.goto 4, 3) := by decide +kernel
theorem dJ9_abs_0f7a4_9 : decode cJ9_abs_0f7a4 9 = .ok (.iload_n 0, 1) := by decide +kernel
theorem dJ9_abs_0f7a4_10 : decode cJ9_abs_0f7a4 10 = .ok (.ireturn, 1) := by decide +kernel
theorem dJ9_max_7cf53_0 : decode cJ9_max_7cf53 0 = .ok (.iload_n 0, 1) := by decide +kernel
theorem dJ9_max_7cf53_1 : decode cJ9_max_7cf53 1 = .ok (.iload_n 1, 1) := by decide +kernel
theorem dJ9_max_7cf53_2 : decode cJ9_max_7cf53 2 = .ok (.if_icmp .lt 7, 3) := by decide +kernel
theorem dJ9_max_7cf53_5 : decode cJ9_max_7cf53 5 = .ok (.iload_n 0, 1) := by decide +kernel
theorem dJ9_max_7cf53_6 : decode cJ9_max_7cf53 6 = .ok (.goto 4, 3) := by decide +kernel
theorem dJ9_max_7cf53_9 : decode cJ9_max_7cf53 9 = .ok (.iload_n 1, 1) := by decide +kernel
theorem dJ9_max_7cf53_10 : decode cJ9_max_7cf53 10 = .ok (.ireturn, 1) := by decide +kernel
theorem dJ9_min_7cf53_0 : decode cJ9_min_7cf53 0 = .ok (.iload_n 0, 1) := by decide +kernel
theorem dJ9_min_7cf53_1 : decode cJ9_min_7cf53 1 = .ok (.iload_n 1, 1) := by decide +kernel
theorem dJ9_min_7cf53_2 : decode cJ9_min_7cf53 2 = .ok (.if_icmp .gt 7, 3) := by decide +kernel
theorem dJ9_min_7cf53_5 : decode cJ9_min_7cf53 5 = .ok (.iload_n 0, 1) := by decide +kernel
theorem dJ9_min_7cf53_6 : decode cJ9_min_7cf53 6 = .ok (.goto 4, 3) := by decide +kernel
theorem dJ9_min_7cf53_9 : decode cJ9_min_7cf53 9 = .ok (.iload_n 1, 1) := by decide +kernel
theorem dJ9_min_7cf53_10 : decode cJ9_min_7cf53 10 = .ok (.ireturn, 1) := by decide +kernel
end
section
theorem dL_cell_0 : decode cL_cell 0 = .ok (.iload_n 1, 1) := by decide +kernel
theorem dL_cell_1 : decode cL_cell 1 = .ok (.aload_n 0, 1) := by decide +kernel
theorem dL_cell_2 : decode cL_cell 2 = .ok (.arraylength, 1) := by decide +kernel
theorem dL_cell_3 : decode cL_cell 3 = .ok (.if_icmp .ge 9, 3) := by decide +kernel
theorem dL_cell_6 : decode cL_cell 6 = .ok (.aload_n 0, 1) := by decide +kernel
theorem dL_cell_7 : decode cL_cell 7 = .ok (.iload_n 1, 1) := by decide +kernel
theorem dL_cell_8 : decode cL_cell 8 = .ok (.iaload, 1) := by decide +kernel
theorem dL_cell_9 : decode cL_cell 9 = .ok (.goto 9, 3) := by decide +kernel
theorem dL_cell_12 : decode cL_cell 12 = .ok (.ldc 7, 2) := by decide +kernel
theorem dL_cell_14 : decode cL_cell 14 = .ok (.iload_n 1, 1) := by decide +kernel
theorem dL_cell_15 : decode cL_cell 15 = .ok (.iconst 3, 1) := by decide +kernel
theorem dL_cell_16 : decode cL_cell 16 = .ok (.iadd, 1) := by decide +kernel
theorem dL_cell_17 : decode cL_cell 17 = .ok (.imul, 1) := by decide +kernel
theorem dL_cell_18 : decode cL_cell 18 = .ok (.ireturn, 1) := by decide +kernel
theorem dL_low_0 : decode cL_low 0 = .ok (.iload_n 0, 1) := by decide +kernel
theorem dL_low_1 : decode cL_low 1 = .ok (.ldc 8, 2) := by decide +kernel
theorem dL_low_3 : decode cL_low 3 = .ok (.iand, 1) := by decide +kernel
theorem dL_low_4 : decode cL_low 4 = .ok (.iload_n 1, 1) := by decide +kernel
theorem dL_low_5 : decode cL_low 5 = .ok (.irem, 1) := by decide +kernel
theorem dL_low_6 : decode cL_low 6 = .ok (.ireturn, 1) := by decide +kernel
theorem dL_dish_0 : decode cL_dish 0 = .ok (.aload_n 0, 1) := by decide +kernel
theorem dL_dish_1 : decode cL_dish 1 = .ok (.bipush 11, 2) := by decide +kernel
theorem dL_dish_3 : decode cL_dish 3 = .ok (.bipush 7, 2) := by decide +kernel
theorem dL_dish_5 : decode cL_dish 5 = .ok (.iload_n 1, 1) := by decide +kernel
theorem dL_dish_6 : decode cL_dish 6 = .ok (.imul, 1) := by decide +kernel
theorem dL_dish_7 : decode cL_dish 7 = .ok (.iadd, 1) := by decide +kernel
theorem dL_dish_8 : decode cL_dish 8 = .ok (.iaload, 1) := by decide +kernel
theorem dL_dish_9 : decode cL_dish 9 = .ok (.aload_n 0, 1) := by decide +kernel
theorem dL_dish_10 : decode cL_dish 10 = .ok (.bipush 12, 2) := by decide +kernel
theorem dL_dish_12 : decode cL_dish 12 = .ok (.bipush 7, 2) := by decide +kernel
theorem dL_dish_14 : decode cL_dish 14 = .ok (.iload_n 1, 1) := by decide +kernel
theorem dL_dish_15 : decode cL_dish 15 = .ok (.imul, 1) := by decide +kernel
theorem dL_dish_16 : decode cL_dish 16 = .ok (.iadd, 1) := by decide +kernel
theorem dL_dish_17 : decode cL_dish 17 = .ok (.iaload, 1) := by decide +kernel
theorem dL_dish_18 : decode cL_dish 18 = .ok (.isub, 1) := by decide +kernel
theorem dL_dish_19 : decode cL_dish 19 = .ok (.ireturn, 1) := by decide +kernel
theorem dL_within_0 : decode cL_within 0 = .ok (.iload_n 0, 1) := by decide +kernel
theorem dL_within_1 : decode cL_within 1 = .ok (.ifCond .ne 25, 3) := by decide +kernel
theorem dL_within_4 : decode cL_within 4 = .ok (.iload_n 1, 1) := by decide +kernel
theorem dL_within_5 : decode cL_within 5 = .ok (.sipush (-27000), 3) := by decide +kernel
theorem dL_within_8 : decode cL_within 8 = .ok (.if_icmp .lt 14, 3) := by decide +kernel
theorem dL_within_11 : decode cL_within 11 = .ok (.iload_n 1, 1) := by decide +kernel
theorem dL_within_12 : decode cL_within 12 = .ok (.sipush 27000, 3) := by decide +kernel
theorem dL_within_15 : decode cL_within 15 = .ok (.if_icmp .gt 7, 3) := by decide +kernel
theorem dL_within_18 : decode cL_within 18 = .ok (.iconst 1, 1) := by decide +kernel
theorem dL_within_19 : decode cL_within 19 = .ok (.goto 26, 3) := by decide +kernel
theorem dL_within_22 : decode cL_within 22 = .ok (.iconst 0, 1) := by decide +kernel
theorem dL_within_23 : decode cL_within 23 = .ok (.goto 22, 3) := by decide +kernel
theorem dL_within_26 : decode cL_within 26 = .ok (.iload_n 1, 1) := by decide +kernel
theorem dL_within_27 : decode cL_within 27 = .ok (.sipush 500, 3) := by decide +kernel
theorem dL_within_30 : decode cL_within 30 = .ok (.if_icmp .lt 14, 3) := by decide +kernel
theorem dL_within_33 : decode cL_within 33 = .ok (.iload_n 1, 1) := by decide +kernel
theorem dL_within_34 : decode cL_within 34 = .ok (.sipush 9000, 3) := by decide +kernel
theorem dL_within_37 : decode cL_within 37 = .ok (.if_icmp .gt 7, 3) := by decide +kernel
theorem dL_within_40 : decode cL_within 40 = .ok (.iconst 1, 1) := by decide +kernel
theorem dL_within_41 : decode cL_within 41 = .ok (.goto 4, 3) := by decide +kernel
theorem dL_within_44 : decode cL_within 44 = .ok (.iconst 0, 1) := by decide +kernel
theorem dL_within_45 : decode cL_within 45 = .ok (.ireturn, 1) := by decide +kernel
set_option maxRecDepth 20000 in
theorem ggL_plan_L_dish : GoodIn wsL_plan wsL_dish := goodIn_r _ [4] (by decide +kernel) (by decide +kernel)
set_option maxRecDepth 20000 in
theorem gL_plan_L_dish : GoodIn wsL_plan (va_wsS RL 9 yL_dish wsL_dish) := goodIn_app (goodIn_of _ (by decide +kernel)) ggL_plan_L_dish
set_option maxRecDepth 20000 in
theorem ggL_plan_L_within : GoodIn wsL_plan wsL_within := goodIn_r _ [7] (by decide +kernel) (by decide +kernel)
set_option maxRecDepth 20000 in
theorem gL_plan_L_within : GoodIn wsL_plan (va_wsS RL 15 yL_within wsL_within) := goodIn_app (goodIn_of _ (by decide +kernel)) ggL_plan_L_within
theorem dL_plan_0 : decode cL_plan 0 = .ok (.aload_n 0, 1) := by decide +kernel
theorem dL_plan_1 : decode cL_plan 1 = .ok (.bipush 8, 2) := by decide +kernel
theorem dL_plan_3 : decode cL_plan 3 = .ok (.bipush 7, 2) := by decide +kernel
theorem dL_plan_5 : decode cL_plan 5 = .ok (.iload_n 1, 1) := by decide +kernel
theorem dL_plan_6 : decode cL_plan 6 = .ok (.imul, 1) := by decide +kernel
theorem dL_plan_7 : decode cL_plan 7 = .ok (.iadd, 1) := by decide +kernel
theorem dL_plan_8 : decode cL_plan 8 = .ok (.iaload, 1) := by decide +kernel
theorem dL_plan_9 : decode cL_plan 9 = .ok (.istore_n 3, 1) := by decide +kernel
theorem dL_plan_10 : decode cL_plan 10 = .ok (.aload_n 0, 1) := by decide +kernel
theorem dL_plan_11 : decode cL_plan 11 = .ok (.bipush 9, 2) := by decide +kernel
theorem dL_plan_13 : decode cL_plan 13 = .ok (.bipush 7, 2) := by decide +kernel
theorem dL_plan_15 : decode cL_plan 15 = .ok (.iload_n 1, 1) := by decide +kernel
theorem dL_plan_16 : decode cL_plan 16 = .ok (.imul, 1) := by decide +kernel
theorem dL_plan_17 : decode cL_plan 17 = .ok (.iadd, 1) := by decide +kernel
theorem dL_plan_18 : decode cL_plan 18 = .ok (.iaload, 1) := by decide +kernel
theorem dL_plan_19 : decode cL_plan 19 = .ok (.istore 4, 2) := by decide +kernel
theorem dL_plan_21 : decode cL_plan 21 = .ok (.aload_n 0, 1) := by decide +kernel
theorem dL_plan_22 : decode cL_plan 22 = .ok (.iload_n 1, 1) := by decide +kernel
theorem dL_plan_23 : decode cL_plan 23 = .ok (.invokestatic 9, 3) := by decide +kernel
theorem dL_plan_26 : decode cL_plan 26 = .ok (.istore 5, 2) := by decide +kernel
theorem dL_plan_28 : decode cL_plan 28 = .ok (.iload 4, 2) := by decide +kernel
theorem dL_plan_30 : decode cL_plan 30 = .ok (.iconst 2, 1) := by decide +kernel
theorem dL_plan_31 : decode cL_plan 31 = .ok (.if_icmp .eq 13, 3) := by decide +kernel
theorem dL_plan_34 : decode cL_plan 34 = .ok (.iload 5, 2) := by decide +kernel
theorem dL_plan_36 : decode cL_plan 36 = .ok (.iload_n 2, 1) := by decide +kernel
theorem dL_plan_37 : decode cL_plan 37 = .ok (.if_icmp .ge 7, 3) := by decide +kernel
theorem dL_plan_40 : decode cL_plan 40 = .ok (.iconst 1, 1) := by decide +kernel
theorem dL_plan_41 : decode cL_plan 41 = .ok (.goto 4, 3) := by decide +kernel
theorem dL_plan_44 : decode cL_plan 44 = .ok (.iconst 0, 1) := by decide +kernel
theorem dL_plan_45 : decode cL_plan 45 = .ok (.istore 6, 2) := by decide +kernel
theorem dL_plan_47 : decode cL_plan 47 = .ok (.iload 4, 2) := by decide +kernel
theorem dL_plan_49 : decode cL_plan 49 = .ok (.iconst 1, 1) := by decide +kernel
theorem dL_plan_50 : decode cL_plan 50 = .ok (.if_icmp .eq 13, 3) := by decide +kernel
theorem dL_plan_53 : decode cL_plan 53 = .ok (.iload 5, 2) := by decide +kernel
theorem dL_plan_55 : decode cL_plan 55 = .ok (.iload_n 2, 1) := by decide +kernel
theorem dL_plan_56 : decode cL_plan 56 = .ok (.if_icmp .le 7, 3) := by decide +kernel
theorem dL_plan_59 : decode cL_plan 59 = .ok (.iconst 1, 1) := by decide +kernel
theorem dL_plan_60 : decode cL_plan 60 = .ok (.goto 4, 3) := by decide +kernel
theorem dL_plan_63 : decode cL_plan 63 = .ok (.iconst 0, 1) := by decide +kernel
theorem dL_plan_64 : decode cL_plan 64 = .ok (.istore 7, 2) := by decide +kernel
theorem dL_plan_66 : decode cL_plan 66 = .ok (.iconst 0, 1) := by decide +kernel
theorem dL_plan_67 : decode cL_plan 67 = .ok (.istore 8, 2) := by decide +kernel
theorem dL_plan_69 : decode cL_plan 69 = .ok (.iload 6, 2) := by decide +kernel
theorem dL_plan_71 : decode cL_plan 71 = .ok (.ifCond .eq 19, 3) := by decide +kernel
theorem dL_plan_74 : decode cL_plan 74 = .ok (.aload_n 0, 1) := by decide +kernel
theorem dL_plan_75 : decode cL_plan 75 = .ok (.bipush 53, 2) := by decide +kernel
theorem dL_plan_77 : decode cL_plan 77 = .ok (.iload 8, 2) := by decide +kernel
theorem dL_plan_79 : decode cL_plan 79 = .ok (.iinc 8 1, 3) := by decide +kernel
theorem dL_plan_82 : decode cL_plan 82 = .ok (.iadd, 1) := by decide +kernel
theorem dL_plan_83 : decode cL_plan 83 = .ok (.iload_n 2, 1) := by decide +kernel
theorem dL_plan_84 : decode cL_plan 84 = .ok (.iload_n 3, 1) := by decide +kernel
theorem dL_plan_85 : decode cL_plan 85 = .ok (.iadd, 1) := by decide +kernel
theorem dL_plan_86 : decode cL_plan 86 = .ok (.iastore, 1) := by decide +kernel
theorem dL_plan_87 : decode cL_plan 87 = .ok (.goto 130, 3) := by decide +kernel
theorem dL_plan_90 : decode cL_plan 90 = .ok (.iload 7, 2) := by decide +kernel
theorem dL_plan_92 : decode cL_plan 92 = .ok (.ifCond .eq 17, 3) := by decide +kernel
theorem dL_plan_95 : decode cL_plan 95 = .ok (.aload_n 0, 1) := by decide +kernel
theorem dL_plan_96 : decode cL_plan 96 = .ok (.bipush 53, 2) := by decide +kernel
theorem dL_plan_98 : decode cL_plan 98 = .ok (.iload 8, 2) := by decide +kernel
theorem dL_plan_100 : decode cL_plan 100 = .ok (.iinc 8 1, 3) := by decide +kernel
theorem dL_plan_103 : decode cL_plan 103 = .ok (.iadd, 1) := by decide +kernel
theorem dL_plan_104 : decode cL_plan 104 = .ok (.iload_n 2, 1) := by decide +kernel
theorem dL_plan_105 : decode cL_plan 105 = .ok (.iastore, 1) := by decide +kernel
theorem dL_plan_106 : decode cL_plan 106 = .ok (.goto 111, 3) := by decide +kernel
theorem dL_plan_109 : decode cL_plan 109 = .ok (.iload 4, 2) := by decide +kernel
theorem dL_plan_111 : decode cL_plan 111 = .ok (.iconst 1, 1) := by decide +kernel
theorem dL_plan_112 : decode cL_plan 112 = .ok (.if_icmp .ne 53, 3) := by decide +kernel
theorem dL_plan_115 : decode cL_plan 115 = .ok (.iload 5, 2) := by decide +kernel
theorem dL_plan_117 : decode cL_plan 117 = .ok (.iload_n 2, 1) := by decide +kernel
theorem dL_plan_118 : decode cL_plan 118 = .ok (.if_icmp .ne 16, 3) := by decide +kernel
theorem dL_plan_121 : decode cL_plan 121 = .ok (.aload_n 0, 1) := by decide +kernel
theorem dL_plan_122 : decode cL_plan 122 = .ok (.bipush 12, 2) := by decide +kernel
theorem dL_plan_124 : decode cL_plan 124 = .ok (.bipush 7, 2) := by decide +kernel
theorem dL_plan_126 : decode cL_plan 126 = .ok (.iload_n 1, 1) := by decide +kernel
theorem dL_plan_127 : decode cL_plan 127 = .ok (.imul, 1) := by decide +kernel
theorem dL_plan_128 : decode cL_plan 128 = .ok (.iadd, 1) := by decide +kernel
theorem dL_plan_129 : decode cL_plan 129 = .ok (.iaload, 1) := by decide +kernel
theorem dL_plan_130 : decode cL_plan 130 = .ok (.iload_n 3, 1) := by decide +kernel
theorem dL_plan_131 : decode cL_plan 131 = .ok (.if_icmp .eq 34, 3) := by decide +kernel
theorem dL_plan_134 : decode cL_plan 134 = .ok (.aload_n 0, 1) := by decide +kernel
theorem dL_plan_135 : decode cL_plan 135 = .ok (.bipush 53, 2) := by decide +kernel
theorem dL_plan_137 : decode cL_plan 137 = .ok (.iload 8, 2) := by decide +kernel
theorem dL_plan_139 : decode cL_plan 139 = .ok (.iinc 8 1, 3) := by decide +kernel
theorem dL_plan_142 : decode cL_plan 142 = .ok (.iadd, 1) := by decide +kernel
theorem dL_plan_143 : decode cL_plan 143 = .ok (.iload_n 2, 1) := by decide +kernel
theorem dL_plan_144 : decode cL_plan 144 = .ok (.aload_n 0, 1) := by decide +kernel
theorem dL_plan_145 : decode cL_plan 145 = .ok (.iconst 0, 1) := by decide +kernel
theorem dL_plan_146 : decode cL_plan 146 = .ok (.iaload, 1) := by decide +kernel
theorem dL_plan_147 : decode cL_plan 147 = .ok (.isub, 1) := by decide +kernel
theorem dL_plan_148 : decode cL_plan 148 = .ok (.iastore, 1) := by decide +kernel
theorem dL_plan_149 : decode cL_plan 149 = .ok (.aload_n 0, 1) := by decide +kernel
theorem dL_plan_150 : decode cL_plan 150 = .ok (.bipush 53, 2) := by decide +kernel
theorem dL_plan_152 : decode cL_plan 152 = .ok (.iload 8, 2) := by decide +kernel
theorem dL_plan_154 : decode cL_plan 154 = .ok (.iinc 8 1, 3) := by decide +kernel
theorem dL_plan_157 : decode cL_plan 157 = .ok (.iadd, 1) := by decide +kernel
theorem dL_plan_158 : decode cL_plan 158 = .ok (.iload_n 2, 1) := by decide +kernel
theorem dL_plan_159 : decode cL_plan 159 = .ok (.iload_n 3, 1) := by decide +kernel
theorem dL_plan_160 : decode cL_plan 160 = .ok (.iadd, 1) := by decide +kernel
theorem dL_plan_161 : decode cL_plan 161 = .ok (.iastore, 1) := by decide +kernel
theorem dL_plan_162 : decode cL_plan 162 = .ok (.goto 55, 3) := by decide +kernel
theorem dL_plan_165 : decode cL_plan 165 = .ok (.iload 4, 2) := by decide +kernel
theorem dL_plan_167 : decode cL_plan 167 = .ok (.iconst 2, 1) := by decide +kernel
theorem dL_plan_168 : decode cL_plan 168 = .ok (.if_icmp .ne 49, 3) := by decide +kernel
theorem dL_plan_171 : decode cL_plan 171 = .ok (.iload 5, 2) := by decide +kernel
theorem dL_plan_173 : decode cL_plan 173 = .ok (.iload_n 2, 1) := by decide +kernel
theorem dL_plan_174 : decode cL_plan 174 = .ok (.if_icmp .ne 15, 3) := by decide +kernel
theorem dL_plan_177 : decode cL_plan 177 = .ok (.aload_n 0, 1) := by decide +kernel
theorem dL_plan_178 : decode cL_plan 178 = .ok (.bipush 12, 2) := by decide +kernel
theorem dL_plan_180 : decode cL_plan 180 = .ok (.bipush 7, 2) := by decide +kernel
theorem dL_plan_182 : decode cL_plan 182 = .ok (.iload_n 1, 1) := by decide +kernel
theorem dL_plan_183 : decode cL_plan 183 = .ok (.imul, 1) := by decide +kernel
theorem dL_plan_184 : decode cL_plan 184 = .ok (.iadd, 1) := by decide +kernel
theorem dL_plan_185 : decode cL_plan 185 = .ok (.iaload, 1) := by decide +kernel
theorem dL_plan_186 : decode cL_plan 186 = .ok (.ifCond .eq 31, 3) := by decide +kernel
theorem dL_plan_189 : decode cL_plan 189 = .ok (.aload_n 0, 1) := by decide +kernel
theorem dL_plan_190 : decode cL_plan 190 = .ok (.bipush 53, 2) := by decide +kernel
theorem dL_plan_192 : decode cL_plan 192 = .ok (.iload 8, 2) := by decide +kernel
theorem dL_plan_194 : decode cL_plan 194 = .ok (.iinc 8 1, 3) := by decide +kernel
theorem dL_plan_197 : decode cL_plan 197 = .ok (.iadd, 1) := by decide +kernel
theorem dL_plan_198 : decode cL_plan 198 = .ok (.iload_n 2, 1) := by decide +kernel
theorem dL_plan_199 : decode cL_plan 199 = .ok (.iload_n 3, 1) := by decide +kernel
theorem dL_plan_200 : decode cL_plan 200 = .ok (.iadd, 1) := by decide +kernel
theorem dL_plan_201 : decode cL_plan 201 = .ok (.aload_n 0, 1) := by decide +kernel
theorem dL_plan_202 : decode cL_plan 202 = .ok (.iconst 0, 1) := by decide +kernel
theorem dL_plan_203 : decode cL_plan 203 = .ok (.iaload, 1) := by decide +kernel
theorem dL_plan_204 : decode cL_plan 204 = .ok (.iadd, 1) := by decide +kernel
theorem dL_plan_205 : decode cL_plan 205 = .ok (.iastore, 1) := by decide +kernel
theorem dL_plan_206 : decode cL_plan 206 = .ok (.aload_n 0, 1) := by decide +kernel
theorem dL_plan_207 : decode cL_plan 207 = .ok (.bipush 53, 2) := by decide +kernel
theorem dL_plan_209 : decode cL_plan 209 = .ok (.iload 8, 2) := by decide +kernel
theorem dL_plan_211 : decode cL_plan 211 = .ok (.iinc 8 1, 3) := by decide +kernel
theorem dL_plan_214 : decode cL_plan 214 = .ok (.iadd, 1) := by decide +kernel
theorem dL_plan_215 : decode cL_plan 215 = .ok (.iload_n 2, 1) := by decide +kernel
theorem dL_plan_216 : decode cL_plan 216 = .ok (.iastore, 1) := by decide +kernel
theorem dL_plan_217 : decode cL_plan 217 = .ok (.iconst 0, 1) := by decide +kernel
theorem dL_plan_218 : decode cL_plan 218 = .ok (.istore 9, 2) := by decide +kernel
theorem dL_plan_220 : decode cL_plan 220 = .ok (.iload 9, 2) := by decide +kernel
theorem dL_plan_222 : decode cL_plan 222 = .ok (.iload 8, 2) := by decide +kernel
theorem dL_plan_224 : decode cL_plan 224 = .ok (.if_icmp .ge 25, 3) := by decide +kernel
theorem dL_plan_227 : decode cL_plan 227 = .ok (.iload_n 1, 1) := by decide +kernel
theorem dL_plan_228 : decode cL_plan 228 = .ok (.aload_n 0, 1) := by decide +kernel
theorem dL_plan_229 : decode cL_plan 229 = .ok (.bipush 53, 2) := by decide +kernel
theorem dL_plan_231 : decode cL_plan 231 = .ok (.iload 9, 2) := by decide +kernel
theorem dL_plan_233 : decode cL_plan 233 = .ok (.iadd, 1) := by decide +kernel
theorem dL_plan_234 : decode cL_plan 234 = .ok (.iaload, 1) := by decide +kernel
theorem dL_plan_235 : decode cL_plan 235 = .ok (.invokestatic 15, 3) := by decide +kernel
theorem dL_plan_238 : decode cL_plan 238 = .ok (.ifCond .ne 5, 3) := by decide +kernel
theorem dL_plan_241 : decode cL_plan 241 = .ok (.iconst (-1), 1) := by decide +kernel
theorem dL_plan_242 : decode cL_plan 242 = .ok (.ireturn, 1) := by decide +kernel
theorem dL_plan_243 : decode cL_plan 243 = .ok (.iinc 9 1, 3) := by decide +kernel
theorem dL_plan_246 : decode cL_plan 246 = .ok (.goto (-26), 3) := by decide +kernel
theorem dL_plan_249 : decode cL_plan 249 = .ok (.iload 8, 2) := by decide +kernel
theorem dL_plan_251 : decode cL_plan 251 = .ok (.ireturn, 1) := by decide +kernel
theorem dL_size_0 : decode cL_size 0 = .ok (.iload_n 0, 1) := by decide +kernel
theorem dL_size_1 : decode cL_size 1 = .ok (.ifCond .ge 8, 3) := by decide +kernel
theorem dL_size_4 : decode cL_size 4 = .ok (.iload_n 0, 1) := by decide +kernel
theorem dL_size_5 : decode cL_size 5 = .ok (.ineg, 1) := by decide +kernel
theorem dL_size_6 : decode cL_size 6 = .ok (.goto 4, 3) := by decide +kernel
theorem dL_size_9 : decode cL_size 9 = .ok (.iload_n 0, 1) := by decide +kernel
theorem dL_size_10 : decode cL_size 10 = .ok (.ireturn, 1) := by decide +kernel
set_option maxRecDepth 20000 in
theorem ggL_length_L_plan : GoodIn wsL_length wsL_plan := goodIn_r _ [4, 5, 6, 3, 7, 8, 9, 10] (by decide +kernel) (by decide +kernel)
set_option maxRecDepth 20000 in
theorem gL_length_L_plan : GoodIn wsL_length (va_wsS RL 19 yL_plan wsL_plan) := goodIn_app (goodIn_of _ (by decide +kernel)) ggL_length_L_plan
set_option maxRecDepth 20000 in
theorem ggL_length_L_size : GoodIn wsL_length wsL_size := goodIn_r _ [13] (by decide +kernel) (by decide +kernel)
set_option maxRecDepth 20000 in
theorem gL_length_L_size : GoodIn wsL_length (va_wsS RL 23 yL_size wsL_size) := goodIn_app (goodIn_of _ (by decide +kernel)) ggL_length_L_size
theorem dL_length_0 : decode cL_length 0 = .ok (.aload_n 0, 1) := by decide +kernel
theorem dL_length_1 : decode cL_length 1 = .ok (.iload_n 1, 1) := by decide +kernel
theorem dL_length_2 : decode cL_length 2 = .ok (.iload_n 2, 1) := by decide +kernel
theorem dL_length_3 : decode cL_length 3 = .ok (.invokestatic 19, 3) := by decide +kernel
theorem dL_length_6 : decode cL_length 6 = .ok (.istore_n 3, 1) := by decide +kernel
theorem dL_length_7 : decode cL_length 7 = .ok (.aload_n 0, 1) := by decide +kernel
theorem dL_length_8 : decode cL_length 8 = .ok (.bipush 11, 2) := by decide +kernel
theorem dL_length_10 : decode cL_length 10 = .ok (.bipush 7, 2) := by decide +kernel
theorem dL_length_12 : decode cL_length 12 = .ok (.iload_n 1, 1) := by decide +kernel
theorem dL_length_13 : decode cL_length 13 = .ok (.imul, 1) := by decide +kernel
theorem dL_length_14 : decode cL_length 14 = .ok (.iadd, 1) := by decide +kernel
theorem dL_length_15 : decode cL_length 15 = .ok (.iaload, 1) := by decide +kernel
theorem dL_length_16 : decode cL_length 16 = .ok (.istore 4, 2) := by decide +kernel
theorem dL_length_18 : decode cL_length 18 = .ok (.iconst 0, 1) := by decide +kernel
theorem dL_length_19 : decode cL_length 19 = .ok (.istore 5, 2) := by decide +kernel
theorem dL_length_21 : decode cL_length 21 = .ok (.iconst 0, 1) := by decide +kernel
theorem dL_length_22 : decode cL_length 22 = .ok (.istore 6, 2) := by decide +kernel
theorem dL_length_24 : decode cL_length 24 = .ok (.iload 6, 2) := by decide +kernel
theorem dL_length_26 : decode cL_length 26 = .ok (.iload_n 3, 1) := by decide +kernel
theorem dL_length_27 : decode cL_length 27 = .ok (.if_icmp .ge 36, 3) := by decide +kernel
theorem dL_length_30 : decode cL_length 30 = .ok (.iload 5, 2) := by decide +kernel
theorem dL_length_32 : decode cL_length 32 = .ok (.aload_n 0, 1) := by decide +kernel
theorem dL_length_33 : decode cL_length 33 = .ok (.bipush 53, 2) := by decide +kernel
theorem dL_length_35 : decode cL_length 35 = .ok (.iload 6, 2) := by decide +kernel
theorem dL_length_37 : decode cL_length 37 = .ok (.iadd, 1) := by decide +kernel
theorem dL_length_38 : decode cL_length 38 = .ok (.iaload, 1) := by decide +kernel
theorem dL_length_39 : decode cL_length 39 = .ok (.iload 4, 2) := by decide +kernel
theorem dL_length_41 : decode cL_length 41 = .ok (.isub, 1) := by decide +kernel
theorem dL_length_42 : decode cL_length 42 = .ok (.invokestatic 23, 3) := by decide +kernel
theorem dL_length_45 : decode cL_length 45 = .ok (.iadd, 1) := by decide +kernel
theorem dL_length_46 : decode cL_length 46 = .ok (.istore 5, 2) := by decide +kernel
theorem dL_length_48 : decode cL_length 48 = .ok (.aload_n 0, 1) := by decide +kernel
theorem dL_length_49 : decode cL_length 49 = .ok (.bipush 53, 2) := by decide +kernel
theorem dL_length_51 : decode cL_length 51 = .ok (.iload 6, 2) := by decide +kernel
theorem dL_length_53 : decode cL_length 53 = .ok (.iadd, 1) := by decide +kernel
theorem dL_length_54 : decode cL_length 54 = .ok (.iaload, 1) := by decide +kernel
theorem dL_length_55 : decode cL_length 55 = .ok (.istore 4, 2) := by decide +kernel
theorem dL_length_57 : decode cL_length 57 = .ok (.iinc 6 1, 3) := by decide +kernel
theorem dL_length_60 : decode cL_length 60 = .ok (.goto (-36), 3) := by decide +kernel
theorem dL_length_63 : decode cL_length 63 = .ok (.iload_n 3, 1) := by decide +kernel
theorem dL_length_64 : decode cL_length 64 = .ok (.ifCond .ge 7, 3) := by decide +kernel
theorem dL_length_67 : decode cL_length 67 = .ok (.iconst (-1), 1) := by decide +kernel
theorem dL_length_68 : decode cL_length 68 = .ok (.goto 5, 3) := by decide +kernel
theorem dL_length_71 : decode cL_length 71 = .ok (.iload 5, 2) := by decide +kernel
theorem dL_length_73 : decode cL_length 73 = .ok (.ireturn, 1) := by decide +kernel
set_option maxRecDepth 20000 in
theorem ggL_time_L_length : GoodIn wsL_time wsL_length := goodIn_r _ [4, 5, 6, 3, 7, 8, 9, 10, 11, 12, 13, 14, 15, 16] (by decide +kernel) (by decide +kernel)
set_option maxRecDepth 20000 in
theorem gL_time_L_length : GoodIn wsL_time (va_wsS RL 27 yL_length wsL_length) := goodIn_app (goodIn_of _ (by decide +kernel)) ggL_time_L_length
theorem dL_time_0 : decode cL_time 0 = .ok (.aload_n 0, 1) := by decide +kernel
theorem dL_time_1 : decode cL_time 1 = .ok (.iload_n 1, 1) := by decide +kernel
theorem dL_time_2 : decode cL_time 2 = .ok (.iload_n 2, 1) := by decide +kernel
theorem dL_time_3 : decode cL_time 3 = .ok (.invokestatic 27, 3) := by decide +kernel
theorem dL_time_6 : decode cL_time 6 = .ok (.istore_n 3, 1) := by decide +kernel
theorem dL_time_7 : decode cL_time 7 = .ok (.aload_n 0, 1) := by decide +kernel
theorem dL_time_8 : decode cL_time 8 = .ok (.bipush 10, 2) := by decide +kernel
theorem dL_time_10 : decode cL_time 10 = .ok (.bipush 7, 2) := by decide +kernel
theorem dL_time_12 : decode cL_time 12 = .ok (.iload_n 1, 1) := by decide +kernel
theorem dL_time_13 : decode cL_time 13 = .ok (.imul, 1) := by decide +kernel
theorem dL_time_14 : decode cL_time 14 = .ok (.iadd, 1) := by decide +kernel
theorem dL_time_15 : decode cL_time 15 = .ok (.iaload, 1) := by decide +kernel
theorem dL_time_16 : decode cL_time 16 = .ok (.istore 4, 2) := by decide +kernel
theorem dL_time_18 : decode cL_time 18 = .ok (.iload_n 3, 1) := by decide +kernel
theorem dL_time_19 : decode cL_time 19 = .ok (.iload 4, 2) := by decide +kernel
theorem dL_time_21 : decode cL_time 21 = .ok (.idiv, 1) := by decide +kernel
theorem dL_time_22 : decode cL_time 22 = .ok (.iload_n 3, 1) := by decide +kernel
theorem dL_time_23 : decode cL_time 23 = .ok (.iload 4, 2) := by decide +kernel
theorem dL_time_25 : decode cL_time 25 = .ok (.irem, 1) := by decide +kernel
theorem dL_time_26 : decode cL_time 26 = .ok (.ifCond .le 7, 3) := by decide +kernel
theorem dL_time_29 : decode cL_time 29 = .ok (.iconst 1, 1) := by decide +kernel
theorem dL_time_30 : decode cL_time 30 = .ok (.goto 4, 3) := by decide +kernel
theorem dL_time_33 : decode cL_time 33 = .ok (.iconst 0, 1) := by decide +kernel
theorem dL_time_34 : decode cL_time 34 = .ok (.iadd, 1) := by decide +kernel
theorem dL_time_35 : decode cL_time 35 = .ok (.ireturn, 1) := by decide +kernel
set_option maxRecDepth 20000 in
theorem ggL_pick_L_length : GoodIn wsL_pick wsL_length := goodIn_r _ [10, 11, 12, 9, 13, 14, 15, 16, 17, 18, 19, 20, 21, 22] (by decide +kernel) (by decide +kernel)
set_option maxRecDepth 20000 in
theorem gL_pick_L_length : GoodIn wsL_pick (va_wsS RL 27 yL_length wsL_length) := goodIn_app (goodIn_of _ (by decide +kernel)) ggL_pick_L_length
set_option maxRecDepth 20000 in
theorem ggL_pick_L_size : GoodIn wsL_pick wsL_size := goodIn_r _ [22] (by decide +kernel) (by decide +kernel)
set_option maxRecDepth 20000 in
theorem gL_pick_L_size : GoodIn wsL_pick (va_wsS RL 23 yL_size wsL_size) := goodIn_app (goodIn_of _ (by decide +kernel)) ggL_pick_L_size
theorem dL_pick_0 : decode cL_pick 0 = .ok (.ldc2_w 30, 3) := by decide +kernel
theorem dL_pick_3 : decode cL_pick 3 = .ok (.lstore_n 2, 1) := by decide +kernel
theorem dL_pick_4 : decode cL_pick 4 = .ok (.ldc 32, 2) := by decide +kernel
theorem dL_pick_6 : decode cL_pick 6 = .ok (.istore 4, 2) := by decide +kernel
theorem dL_pick_8 : decode cL_pick 8 = .ok (.iconst 0, 1) := by decide +kernel
theorem dL_pick_9 : decode cL_pick 9 = .ok (.istore 5, 2) := by decide +kernel
theorem dL_pick_11 : decode cL_pick 11 = .ok (.iload 5, 2) := by decide +kernel
theorem dL_pick_13 : decode cL_pick 13 = .ok (.iconst 2, 1) := by decide +kernel
theorem dL_pick_14 : decode cL_pick 14 = .ok (.if_icmp .ge 102, 3) := by decide +kernel
theorem dL_pick_17 : decode cL_pick 17 = .ok (.iload_n 1, 1) := by decide +kernel
theorem dL_pick_18 : decode cL_pick 18 = .ok (.ldc 33, 2) := by decide +kernel
theorem dL_pick_20 : decode cL_pick 20 = .ok (.iload 5, 2) := by decide +kernel
theorem dL_pick_22 : decode cL_pick 22 = .ok (.imul, 1) := by decide +kernel
theorem dL_pick_23 : decode cL_pick 23 = .ok (.isub, 1) := by decide +kernel
theorem dL_pick_24 : decode cL_pick 24 = .ok (.istore 6, 2) := by decide +kernel
theorem dL_pick_26 : decode cL_pick 26 = .ok (.aload_n 0, 1) := by decide +kernel
theorem dL_pick_27 : decode cL_pick 27 = .ok (.iconst 0, 1) := by decide +kernel
theorem dL_pick_28 : decode cL_pick 28 = .ok (.iload 6, 2) := by decide +kernel
theorem dL_pick_30 : decode cL_pick 30 = .ok (.invokestatic 27, 3) := by decide +kernel
theorem dL_pick_33 : decode cL_pick 33 = .ok (.istore 7, 2) := by decide +kernel
theorem dL_pick_35 : decode cL_pick 35 = .ok (.iload 6, 2) := by decide +kernel
theorem dL_pick_37 : decode cL_pick 37 = .ok (.invokestatic 23, 3) := by decide +kernel
theorem dL_pick_40 : decode cL_pick 40 = .ok (.aload_n 0, 1) := by decide +kernel
theorem dL_pick_41 : decode cL_pick 41 = .ok (.iconst 1, 1) := by decide +kernel
theorem dL_pick_42 : decode cL_pick 42 = .ok (.iaload, 1) := by decide +kernel
theorem dL_pick_43 : decode cL_pick 43 = .ok (.if_icmp .le 9, 3) := by decide +kernel
theorem dL_pick_46 : decode cL_pick 46 = .ok (.ldc2_w 34, 3) := by decide +kernel
theorem dL_pick_49 : decode cL_pick 49 = .ok (.goto 4, 3) := by decide +kernel
theorem dL_pick_52 : decode cL_pick 52 = .ok (.lconst 0, 1) := by decide +kernel
theorem dL_pick_53 : decode cL_pick 53 = .ok (.ldc2_w 36, 3) := by decide +kernel
theorem dL_pick_56 : decode cL_pick 56 = .ok (.iload 7, 2) := by decide +kernel
theorem dL_pick_58 : decode cL_pick 58 = .ok (.i2l, 1) := by decide +kernel
theorem dL_pick_59 : decode cL_pick 59 = .ok (.lmul, 1) := by decide +kernel
theorem dL_pick_60 : decode cL_pick 60 = .ok (.ladd, 1) := by decide +kernel
theorem dL_pick_61 : decode cL_pick 61 = .ok (.ldc2_w 38, 3) := by decide +kernel
theorem dL_pick_64 : decode cL_pick 64 = .ok (.iload 6, 2) := by decide +kernel
theorem dL_pick_66 : decode cL_pick 66 = .ok (.invokestatic 23, 3) := by decide +kernel
theorem dL_pick_69 : decode cL_pick 69 = .ok (.i2l, 1) := by decide +kernel
theorem dL_pick_70 : decode cL_pick 70 = .ok (.lmul, 1) := by decide +kernel
theorem dL_pick_71 : decode cL_pick 71 = .ok (.ladd, 1) := by decide +kernel
theorem dL_pick_72 : decode cL_pick 72 = .ok (.iload 6, 2) := by decide +kernel
theorem dL_pick_74 : decode cL_pick 74 = .ok (.ifCond .le 7, 3) := by decide +kernel
theorem dL_pick_77 : decode cL_pick 77 = .ok (.lconst 1, 1) := by decide +kernel
theorem dL_pick_78 : decode cL_pick 78 = .ok (.goto 4, 3) := by decide +kernel
theorem dL_pick_81 : decode cL_pick 81 = .ok (.lconst 0, 1) := by decide +kernel
theorem dL_pick_82 : decode cL_pick 82 = .ok (.ladd, 1) := by decide +kernel
theorem dL_pick_83 : decode cL_pick 83 = .ok (.lstore 8, 2) := by decide +kernel
theorem dL_pick_85 : decode cL_pick 85 = .ok (.iload 7, 2) := by decide +kernel
theorem dL_pick_87 : decode cL_pick 87 = .ok (.ifCond .lt 23, 3) := by decide +kernel
theorem dL_pick_90 : decode cL_pick 90 = .ok (.lload_n 2, 1) := by decide +kernel
theorem dL_pick_91 : decode cL_pick 91 = .ok (.lconst 0, 1) := by decide +kernel
theorem dL_pick_92 : decode cL_pick 92 = .ok (.lcmp, 1) := by decide +kernel
theorem dL_pick_93 : decode cL_pick 93 = .ok (.ifCond .lt 10, 3) := by decide +kernel
theorem dL_pick_96 : decode cL_pick 96 = .ok (.lload 8, 2) := by decide +kernel
theorem dL_pick_98 : decode cL_pick 98 = .ok (.lload_n 2, 1) := by decide +kernel
theorem dL_pick_99 : decode cL_pick 99 = .ok (.lcmp, 1) := by decide +kernel
theorem dL_pick_100 : decode cL_pick 100 = .ok (.ifCond .ge 10, 3) := by decide +kernel
theorem dL_pick_103 : decode cL_pick 103 = .ok (.lload 8, 2) := by decide +kernel
theorem dL_pick_105 : decode cL_pick 105 = .ok (.lstore_n 2, 1) := by decide +kernel
theorem dL_pick_106 : decode cL_pick 106 = .ok (.iload 6, 2) := by decide +kernel
theorem dL_pick_108 : decode cL_pick 108 = .ok (.istore 4, 2) := by decide +kernel
theorem dL_pick_110 : decode cL_pick 110 = .ok (.iinc 5 1, 3) := by decide +kernel
theorem dL_pick_113 : decode cL_pick 113 = .ok (.goto (-102), 3) := by decide +kernel
theorem dL_pick_116 : decode cL_pick 116 = .ok (.iload 4, 2) := by decide +kernel
theorem dL_pick_118 : decode cL_pick 118 = .ok (.ireturn, 1) := by decide +kernel
theorem dL_goes_0 : decode cL_goes 0 = .ok (.bipush 8, 2) := by decide +kernel
theorem dL_goes_2 : decode cL_goes 2 = .ok (.bipush 7, 2) := by decide +kernel
theorem dL_goes_4 : decode cL_goes 4 = .ok (.iload_n 1, 1) := by decide +kernel
theorem dL_goes_5 : decode cL_goes 5 = .ok (.imul, 1) := by decide +kernel
theorem dL_goes_6 : decode cL_goes 6 = .ok (.iadd, 1) := by decide +kernel
theorem dL_goes_7 : decode cL_goes 7 = .ok (.istore_n 3, 1) := by decide +kernel
theorem dL_goes_8 : decode cL_goes 8 = .ok (.iload_n 2, 1) := by decide +kernel
theorem dL_goes_9 : decode cL_goes 9 = .ok (.aload_n 0, 1) := by decide +kernel
theorem dL_goes_10 : decode cL_goes 10 = .ok (.iload_n 3, 1) := by decide +kernel
theorem dL_goes_11 : decode cL_goes 11 = .ok (.iconst 3, 1) := by decide +kernel
theorem dL_goes_12 : decode cL_goes 12 = .ok (.iadd, 1) := by decide +kernel
theorem dL_goes_13 : decode cL_goes 13 = .ok (.iaload, 1) := by decide +kernel
theorem dL_goes_14 : decode cL_goes 14 = .ok (.if_icmp .le 64, 3) := by decide +kernel
theorem dL_goes_17 : decode cL_goes 17 = .ok (.aload_n 0, 1) := by decide +kernel
theorem dL_goes_18 : decode cL_goes 18 = .ok (.iload_n 3, 1) := by decide +kernel
theorem dL_goes_19 : decode cL_goes 19 = .ok (.iconst 5, 1) := by decide +kernel
theorem dL_goes_20 : decode cL_goes 20 = .ok (.iadd, 1) := by decide +kernel
theorem dL_goes_21 : decode cL_goes 21 = .ok (.dup2, 1) := by decide +kernel
theorem dL_goes_22 : decode cL_goes 22 = .ok (.iaload, 1) := by decide +kernel
theorem dL_goes_23 : decode cL_goes 23 = .ok (.iload_n 2, 1) := by decide +kernel
theorem dL_goes_24 : decode cL_goes 24 = .ok (.aload_n 0, 1) := by decide +kernel
theorem dL_goes_25 : decode cL_goes 25 = .ok (.iload_n 3, 1) := by decide +kernel
theorem dL_goes_26 : decode cL_goes 26 = .ok (.iconst 3, 1) := by decide +kernel
theorem dL_goes_27 : decode cL_goes 27 = .ok (.iadd, 1) := by decide +kernel
theorem dL_goes_28 : decode cL_goes 28 = .ok (.iaload, 1) := by decide +kernel
theorem dL_goes_29 : decode cL_goes 29 = .ok (.isub, 1) := by decide +kernel
theorem dL_goes_30 : decode cL_goes 30 = .ok (.iadd, 1) := by decide +kernel
theorem dL_goes_31 : decode cL_goes 31 = .ok (.iastore, 1) := by decide +kernel
theorem dL_goes_32 : decode cL_goes 32 = .ok (.aload_n 0, 1) := by decide +kernel
theorem dL_goes_33 : decode cL_goes 33 = .ok (.iload_n 3, 1) := by decide +kernel
theorem dL_goes_34 : decode cL_goes 34 = .ok (.iconst 4, 1) := by decide +kernel
theorem dL_goes_35 : decode cL_goes 35 = .ok (.iadd, 1) := by decide +kernel
theorem dL_goes_36 : decode cL_goes 36 = .ok (.aload_n 0, 1) := by decide +kernel
theorem dL_goes_37 : decode cL_goes 37 = .ok (.iload_n 3, 1) := by decide +kernel
theorem dL_goes_38 : decode cL_goes 38 = .ok (.iconst 4, 1) := by decide +kernel
theorem dL_goes_39 : decode cL_goes 39 = .ok (.iadd, 1) := by decide +kernel
theorem dL_goes_40 : decode cL_goes 40 = .ok (.iaload, 1) := by decide +kernel
theorem dL_goes_41 : decode cL_goes 41 = .ok (.iload_n 2, 1) := by decide +kernel
theorem dL_goes_42 : decode cL_goes 42 = .ok (.iadd, 1) := by decide +kernel
theorem dL_goes_43 : decode cL_goes 43 = .ok (.aload_n 0, 1) := by decide +kernel
theorem dL_goes_44 : decode cL_goes 44 = .ok (.iload_n 3, 1) := by decide +kernel
theorem dL_goes_45 : decode cL_goes 45 = .ok (.iconst 3, 1) := by decide +kernel
theorem dL_goes_46 : decode cL_goes 46 = .ok (.iadd, 1) := by decide +kernel
theorem dL_goes_47 : decode cL_goes 47 = .ok (.iaload, 1) := by decide +kernel
theorem dL_goes_48 : decode cL_goes 48 = .ok (.isub, 1) := by decide +kernel
theorem dL_goes_49 : decode cL_goes 49 = .ok (.aload_n 0, 1) := by decide +kernel
theorem dL_goes_50 : decode cL_goes 50 = .ok (.iload_n 3, 1) := by decide +kernel
theorem dL_goes_51 : decode cL_goes 51 = .ok (.iaload, 1) := by decide +kernel
theorem dL_goes_52 : decode cL_goes 52 = .ok (.if_icmp .le 9, 3) := by decide +kernel
theorem dL_goes_55 : decode cL_goes 55 = .ok (.aload_n 0, 1) := by decide +kernel
theorem dL_goes_56 : decode cL_goes 56 = .ok (.iload_n 3, 1) := by decide +kernel
theorem dL_goes_57 : decode cL_goes 57 = .ok (.iaload, 1) := by decide +kernel
theorem dL_goes_58 : decode cL_goes 58 = .ok (.goto 16, 3) := by decide +kernel
theorem dL_goes_61 : decode cL_goes 61 = .ok (.aload_n 0, 1) := by decide +kernel
theorem dL_goes_62 : decode cL_goes 62 = .ok (.iload_n 3, 1) := by decide +kernel
theorem dL_goes_63 : decode cL_goes 63 = .ok (.iconst 4, 1) := by decide +kernel
theorem dL_goes_64 : decode cL_goes 64 = .ok (.iadd, 1) := by decide +kernel
theorem dL_goes_65 : decode cL_goes 65 = .ok (.iaload, 1) := by decide +kernel
theorem dL_goes_66 : decode cL_goes 66 = .ok (.iload_n 2, 1) := by decide +kernel
theorem dL_goes_67 : decode cL_goes 67 = .ok (.iadd, 1) := by decide +kernel
theorem dL_goes_68 : decode cL_goes 68 = .ok (.aload_n 0, 1) := by decide +kernel
theorem dL_goes_69 : decode cL_goes 69 = .ok (.iload_n 3, 1) := by decide +kernel
theorem dL_goes_70 : decode cL_goes 70 = .ok (.iconst 3, 1) := by decide +kernel
theorem dL_goes_71 : decode cL_goes 71 = .ok (.iadd, 1) := by decide +kernel
theorem dL_goes_72 : decode cL_goes 72 = .ok (.iaload, 1) := by decide +kernel
theorem dL_goes_73 : decode cL_goes 73 = .ok (.isub, 1) := by decide +kernel
theorem dL_goes_74 : decode cL_goes 74 = .ok (.iastore, 1) := by decide +kernel
theorem dL_goes_75 : decode cL_goes 75 = .ok (.goto 57, 3) := by decide +kernel
theorem dL_goes_78 : decode cL_goes 78 = .ok (.aload_n 0, 1) := by decide +kernel
theorem dL_goes_79 : decode cL_goes 79 = .ok (.iload_n 3, 1) := by decide +kernel
theorem dL_goes_80 : decode cL_goes 80 = .ok (.bipush 6, 2) := by decide +kernel
theorem dL_goes_82 : decode cL_goes 82 = .ok (.iadd, 1) := by decide +kernel
theorem dL_goes_83 : decode cL_goes 83 = .ok (.dup2, 1) := by decide +kernel
theorem dL_goes_84 : decode cL_goes 84 = .ok (.iaload, 1) := by decide +kernel
theorem dL_goes_85 : decode cL_goes 85 = .ok (.aload_n 0, 1) := by decide +kernel
theorem dL_goes_86 : decode cL_goes 86 = .ok (.iload_n 3, 1) := by decide +kernel
theorem dL_goes_87 : decode cL_goes 87 = .ok (.iconst 3, 1) := by decide +kernel
theorem dL_goes_88 : decode cL_goes 88 = .ok (.iadd, 1) := by decide +kernel
theorem dL_goes_89 : decode cL_goes 89 = .ok (.iaload, 1) := by decide +kernel
theorem dL_goes_90 : decode cL_goes 90 = .ok (.iload_n 2, 1) := by decide +kernel
theorem dL_goes_91 : decode cL_goes 91 = .ok (.isub, 1) := by decide +kernel
theorem dL_goes_92 : decode cL_goes 92 = .ok (.iadd, 1) := by decide +kernel
theorem dL_goes_93 : decode cL_goes 93 = .ok (.iastore, 1) := by decide +kernel
theorem dL_goes_94 : decode cL_goes 94 = .ok (.aload_n 0, 1) := by decide +kernel
theorem dL_goes_95 : decode cL_goes 95 = .ok (.iload_n 3, 1) := by decide +kernel
theorem dL_goes_96 : decode cL_goes 96 = .ok (.iconst 4, 1) := by decide +kernel
theorem dL_goes_97 : decode cL_goes 97 = .ok (.iadd, 1) := by decide +kernel
theorem dL_goes_98 : decode cL_goes 98 = .ok (.aload_n 0, 1) := by decide +kernel
theorem dL_goes_99 : decode cL_goes 99 = .ok (.iload_n 3, 1) := by decide +kernel
theorem dL_goes_100 : decode cL_goes 100 = .ok (.iconst 4, 1) := by decide +kernel
theorem dL_goes_101 : decode cL_goes 101 = .ok (.iadd, 1) := by decide +kernel
theorem dL_goes_102 : decode cL_goes 102 = .ok (.iaload, 1) := by decide +kernel
theorem dL_goes_103 : decode cL_goes 103 = .ok (.aload_n 0, 1) := by decide +kernel
theorem dL_goes_104 : decode cL_goes 104 = .ok (.iload_n 3, 1) := by decide +kernel
theorem dL_goes_105 : decode cL_goes 105 = .ok (.iconst 3, 1) := by decide +kernel
theorem dL_goes_106 : decode cL_goes 106 = .ok (.iadd, 1) := by decide +kernel
theorem dL_goes_107 : decode cL_goes 107 = .ok (.iaload, 1) := by decide +kernel
theorem dL_goes_108 : decode cL_goes 108 = .ok (.iload_n 2, 1) := by decide +kernel
theorem dL_goes_109 : decode cL_goes 109 = .ok (.isub, 1) := by decide +kernel
theorem dL_goes_110 : decode cL_goes 110 = .ok (.isub, 1) := by decide +kernel
theorem dL_goes_111 : decode cL_goes 111 = .ok (.ifCond .ge 7, 3) := by decide +kernel
theorem dL_goes_114 : decode cL_goes 114 = .ok (.iconst 0, 1) := by decide +kernel
theorem dL_goes_115 : decode cL_goes 115 = .ok (.goto 16, 3) := by decide +kernel
theorem dL_goes_118 : decode cL_goes 118 = .ok (.aload_n 0, 1) := by decide +kernel
theorem dL_goes_119 : decode cL_goes 119 = .ok (.iload_n 3, 1) := by decide +kernel
theorem dL_goes_120 : decode cL_goes 120 = .ok (.iconst 4, 1) := by decide +kernel
theorem dL_goes_121 : decode cL_goes 121 = .ok (.iadd, 1) := by decide +kernel
theorem dL_goes_122 : decode cL_goes 122 = .ok (.iaload, 1) := by decide +kernel
theorem dL_goes_123 : decode cL_goes 123 = .ok (.aload_n 0, 1) := by decide +kernel
theorem dL_goes_124 : decode cL_goes 124 = .ok (.iload_n 3, 1) := by decide +kernel
theorem dL_goes_125 : decode cL_goes 125 = .ok (.iconst 3, 1) := by decide +kernel
theorem dL_goes_126 : decode cL_goes 126 = .ok (.iadd, 1) := by decide +kernel
theorem dL_goes_127 : decode cL_goes 127 = .ok (.iaload, 1) := by decide +kernel
theorem dL_goes_128 : decode cL_goes 128 = .ok (.iload_n 2, 1) := by decide +kernel
theorem dL_goes_129 : decode cL_goes 129 = .ok (.isub, 1) := by decide +kernel
theorem dL_goes_130 : decode cL_goes 130 = .ok (.isub, 1) := by decide +kernel
theorem dL_goes_131 : decode cL_goes 131 = .ok (.iastore, 1) := by decide +kernel
theorem dL_goes_132 : decode cL_goes 132 = .ok (.aload_n 0, 1) := by decide +kernel
theorem dL_goes_133 : decode cL_goes 133 = .ok (.iload_n 3, 1) := by decide +kernel
theorem dL_goes_134 : decode cL_goes 134 = .ok (.iconst 3, 1) := by decide +kernel
theorem dL_goes_135 : decode cL_goes 135 = .ok (.iadd, 1) := by decide +kernel
theorem dL_goes_136 : decode cL_goes 136 = .ok (.iload_n 2, 1) := by decide +kernel
theorem dL_goes_137 : decode cL_goes 137 = .ok (.iastore, 1) := by decide +kernel
theorem dL_goes_138 : decode cL_goes 138 = .ok (.return_, 1) := by decide +kernel
set_option maxRecDepth 20000 in
theorem ggL_slews_L_time : GoodIn wsL_slews wsL_time := goodIn_r _ [4, 5, 6, 3, 7, 8, 9, 10, 11, 12, 13, 14, 15, 16, 17, 18, 19] (by decide +kernel) (by decide +kernel)
set_option maxRecDepth 20000 in
theorem gL_slews_L_time : GoodIn wsL_slews (va_wsS RL 40 yL_time wsL_time) := goodIn_app (goodIn_of _ (by decide +kernel)) ggL_slews_L_time
set_option maxRecDepth 20000 in
theorem ggL_slews_L_plan : GoodIn wsL_slews wsL_plan := goodIn_r _ [10, 11, 12, 3, 13, 14, 15, 16] (by decide +kernel) (by decide +kernel)
set_option maxRecDepth 20000 in
theorem gL_slews_L_plan : GoodIn wsL_slews (va_wsS RL 19 yL_plan wsL_plan) := goodIn_app (goodIn_of _ (by decide +kernel)) ggL_slews_L_plan
set_option maxRecDepth 20000 in
theorem ggL_slews_L_goes : GoodIn wsL_slews wsL_goes := goodIn_r _ [22] (by decide +kernel) (by decide +kernel)
set_option maxRecDepth 20000 in
theorem gL_slews_L_goes : GoodIn wsL_slews (va_wsS RL 43 yL_goes wsL_goes) := goodIn_app (goodIn_of _ (by decide +kernel)) ggL_slews_L_goes
theorem dL_slews_0 : decode cL_slews 0 = .ok (.aload_n 0, 1) := by decide +kernel
theorem dL_slews_1 : decode cL_slews 1 = .ok (.iconst 0, 1) := by decide +kernel
theorem dL_slews_2 : decode cL_slews 2 = .ok (.iload_n 1, 1) := by decide +kernel
theorem dL_slews_3 : decode cL_slews 3 = .ok (.invokestatic 40, 3) := by decide +kernel
theorem dL_slews_6 : decode cL_slews 6 = .ok (.istore_n 3, 1) := by decide +kernel
theorem dL_slews_7 : decode cL_slews 7 = .ok (.aload_n 0, 1) := by decide +kernel
theorem dL_slews_8 : decode cL_slews 8 = .ok (.iconst 1, 1) := by decide +kernel
theorem dL_slews_9 : decode cL_slews 9 = .ok (.iload_n 2, 1) := by decide +kernel
theorem dL_slews_10 : decode cL_slews 10 = .ok (.invokestatic 40, 3) := by decide +kernel
theorem dL_slews_13 : decode cL_slews 13 = .ok (.istore 4, 2) := by decide +kernel
theorem dL_slews_15 : decode cL_slews 15 = .ok (.iconst 0, 1) := by decide +kernel
theorem dL_slews_16 : decode cL_slews 16 = .ok (.istore 5, 2) := by decide +kernel
theorem dL_slews_18 : decode cL_slews 18 = .ok (.iload 5, 2) := by decide +kernel
theorem dL_slews_20 : decode cL_slews 20 = .ok (.iconst 2, 1) := by decide +kernel
theorem dL_slews_21 : decode cL_slews 21 = .ok (.if_icmp .ge 56, 3) := by decide +kernel
theorem dL_slews_24 : decode cL_slews 24 = .ok (.aload_n 0, 1) := by decide +kernel
theorem dL_slews_25 : decode cL_slews 25 = .ok (.iload 5, 2) := by decide +kernel
theorem dL_slews_27 : decode cL_slews 27 = .ok (.iload 5, 2) := by decide +kernel
theorem dL_slews_29 : decode cL_slews 29 = .ok (.ifCond .ne 7, 3) := by decide +kernel
theorem dL_slews_32 : decode cL_slews 32 = .ok (.iload_n 1, 1) := by decide +kernel
theorem dL_slews_33 : decode cL_slews 33 = .ok (.goto 4, 3) := by decide +kernel
theorem dL_slews_36 : decode cL_slews 36 = .ok (.iload_n 2, 1) := by decide +kernel
theorem dL_slews_37 : decode cL_slews 37 = .ok (.invokestatic 19, 3) := by decide +kernel
theorem dL_slews_40 : decode cL_slews 40 = .ok (.istore 6, 2) := by decide +kernel
theorem dL_slews_42 : decode cL_slews 42 = .ok (.iconst 0, 1) := by decide +kernel
theorem dL_slews_43 : decode cL_slews 43 = .ok (.istore 7, 2) := by decide +kernel
theorem dL_slews_45 : decode cL_slews 45 = .ok (.iload 7, 2) := by decide +kernel
theorem dL_slews_47 : decode cL_slews 47 = .ok (.iload 6, 2) := by decide +kernel
theorem dL_slews_49 : decode cL_slews 49 = .ok (.if_icmp .ge 22, 3) := by decide +kernel
theorem dL_slews_52 : decode cL_slews 52 = .ok (.aload_n 0, 1) := by decide +kernel
theorem dL_slews_53 : decode cL_slews 53 = .ok (.iload 5, 2) := by decide +kernel
theorem dL_slews_55 : decode cL_slews 55 = .ok (.aload_n 0, 1) := by decide +kernel
theorem dL_slews_56 : decode cL_slews 56 = .ok (.bipush 53, 2) := by decide +kernel
theorem dL_slews_58 : decode cL_slews 58 = .ok (.iload 7, 2) := by decide +kernel
theorem dL_slews_60 : decode cL_slews 60 = .ok (.iadd, 1) := by decide +kernel
theorem dL_slews_61 : decode cL_slews 61 = .ok (.iaload, 1) := by decide +kernel
theorem dL_slews_62 : decode cL_slews 62 = .ok (.invokestatic 43, 3) := by decide +kernel
theorem dL_slews_65 : decode cL_slews 65 = .ok (.iinc 7 1, 3) := by decide +kernel
theorem dL_slews_68 : decode cL_slews 68 = .ok (.goto (-23), 3) := by decide +kernel
theorem dL_slews_71 : decode cL_slews 71 = .ok (.iinc 5 1, 3) := by decide +kernel
theorem dL_slews_74 : decode cL_slews 74 = .ok (.goto (-56), 3) := by decide +kernel
theorem dL_slews_77 : decode cL_slews 77 = .ok (.aload_n 0, 1) := by decide +kernel
theorem dL_slews_78 : decode cL_slews 78 = .ok (.iconst 5, 1) := by decide +kernel
theorem dL_slews_79 : decode cL_slews 79 = .ok (.dup2, 1) := by decide +kernel
theorem dL_slews_80 : decode cL_slews 80 = .ok (.iaload, 1) := by decide +kernel
theorem dL_slews_81 : decode cL_slews 81 = .ok (.iconst 1, 1) := by decide +kernel
theorem dL_slews_82 : decode cL_slews 82 = .ok (.iadd, 1) := by decide +kernel
theorem dL_slews_83 : decode cL_slews 83 = .ok (.iastore, 1) := by decide +kernel
theorem dL_slews_84 : decode cL_slews 84 = .ok (.iload_n 3, 1) := by decide +kernel
theorem dL_slews_85 : decode cL_slews 85 = .ok (.iload 4, 2) := by decide +kernel
theorem dL_slews_87 : decode cL_slews 87 = .ok (.if_icmp .le 7, 3) := by decide +kernel
theorem dL_slews_90 : decode cL_slews 90 = .ok (.iload_n 3, 1) := by decide +kernel
theorem dL_slews_91 : decode cL_slews 91 = .ok (.goto 5, 3) := by decide +kernel
theorem dL_slews_94 : decode cL_slews 94 = .ok (.iload 4, 2) := by decide +kernel
theorem dL_slews_96 : decode cL_slews 96 = .ok (.ireturn, 1) := by decide +kernel
theorem dL_day_0 : decode cL_day 0 = .ok (.aload_n 0, 1) := by decide +kernel
theorem dL_day_1 : decode cL_day 1 = .ok (.bipush 22, 2) := by decide +kernel
theorem dL_day_3 : decode cL_day 3 = .ok (.aload_n 0, 1) := by decide +kernel
theorem dL_day_4 : decode cL_day 4 = .ok (.iconst 4, 1) := by decide +kernel
theorem dL_day_5 : decode cL_day 5 = .ok (.iaload, 1) := by decide +kernel
theorem dL_day_6 : decode cL_day 6 = .ok (.sipush 1440, 3) := by decide +kernel
theorem dL_day_9 : decode cL_day 9 = .ok (.idiv, 1) := by decide +kernel
theorem dL_day_10 : decode cL_day 10 = .ok (.iadd, 1) := by decide +kernel
theorem dL_day_11 : decode cL_day 11 = .ok (.iaload, 1) := by decide +kernel
theorem dL_day_12 : decode cL_day 12 = .ok (.istore_n 1, 1) := by decide +kernel
theorem dL_day_13 : decode cL_day 13 = .ok (.iload_n 1, 1) := by decide +kernel
theorem dL_day_14 : decode cL_day 14 = .ok (.aload_n 0, 1) := by decide +kernel
theorem dL_day_15 : decode cL_day 15 = .ok (.iconst 3, 1) := by decide +kernel
theorem dL_day_16 : decode cL_day 16 = .ok (.iaload, 1) := by decide +kernel
theorem dL_day_17 : decode cL_day 17 = .ok (.if_icmp .lt 7, 3) := by decide +kernel
theorem dL_day_20 : decode cL_day 20 = .ok (.iconst 0, 1) := by decide +kernel
theorem dL_day_21 : decode cL_day 21 = .ok (.goto 15, 3) := by decide +kernel
theorem dL_day_24 : decode cL_day 24 = .ok (.iload_n 1, 1) := by decide +kernel
theorem dL_day_25 : decode cL_day 25 = .ok (.aload_n 0, 1) := by decide +kernel
theorem dL_day_26 : decode cL_day 26 = .ok (.iconst 2, 1) := by decide +kernel
theorem dL_day_27 : decode cL_day 27 = .ok (.iaload, 1) := by decide +kernel
theorem dL_day_28 : decode cL_day 28 = .ok (.if_icmp .lt 7, 3) := by decide +kernel
theorem dL_day_31 : decode cL_day 31 = .ok (.iconst 1, 1) := by decide +kernel
theorem dL_day_32 : decode cL_day 32 = .ok (.goto 4, 3) := by decide +kernel
theorem dL_day_35 : decode cL_day 35 = .ok (.iconst 2, 1) := by decide +kernel
theorem dL_day_36 : decode cL_day 36 = .ok (.ireturn, 1) := by decide +kernel
theorem dL_under_0 : decode cL_under 0 = .ok (.ldc 32, 2) := by decide +kernel
theorem dL_under_2 : decode cL_under 2 = .ok (.istore_n 2, 1) := by decide +kernel
theorem dL_under_3 : decode cL_under 3 = .ok (.iconst 0, 1) := by decide +kernel
theorem dL_under_4 : decode cL_under 4 = .ok (.istore_n 3, 1) := by decide +kernel
theorem dL_under_5 : decode cL_under 5 = .ok (.iload_n 3, 1) := by decide +kernel
theorem dL_under_6 : decode cL_under 6 = .ok (.aload_n 0, 1) := by decide +kernel
theorem dL_under_7 : decode cL_under 7 = .ok (.bipush 7, 2) := by decide +kernel
theorem dL_under_9 : decode cL_under 9 = .ok (.iaload, 1) := by decide +kernel
theorem dL_under_10 : decode cL_under 10 = .ok (.if_icmp .ge 28, 3) := by decide +kernel
theorem dL_under_13 : decode cL_under 13 = .ok (.aload_n 1, 1) := by decide +kernel
theorem dL_under_14 : decode cL_under 14 = .ok (.bipush 14, 2) := by decide +kernel
theorem dL_under_16 : decode cL_under 16 = .ok (.iload_n 3, 1) := by decide +kernel
theorem dL_under_17 : decode cL_under 17 = .ok (.imul, 1) := by decide +kernel
theorem dL_under_18 : decode cL_under 18 = .ok (.bipush 6, 2) := by decide +kernel
theorem dL_under_20 : decode cL_under 20 = .ok (.iadd, 1) := by decide +kernel
theorem dL_under_21 : decode cL_under 21 = .ok (.iaload, 1) := by decide +kernel
theorem dL_under_22 : decode cL_under 22 = .ok (.iconst 1, 1) := by decide +kernel
theorem dL_under_23 : decode cL_under 23 = .ok (.if_icmp .ne 7, 3) := by decide +kernel
theorem dL_under_26 : decode cL_under 26 = .ok (.iload_n 3, 1) := by decide +kernel
theorem dL_under_27 : decode cL_under 27 = .ok (.goto 4, 3) := by decide +kernel
theorem dL_under_30 : decode cL_under 30 = .ok (.iload_n 2, 1) := by decide +kernel
theorem dL_under_31 : decode cL_under 31 = .ok (.istore_n 2, 1) := by decide +kernel
theorem dL_under_32 : decode cL_under 32 = .ok (.iinc 3 1, 3) := by decide +kernel
theorem dL_under_35 : decode cL_under 35 = .ok (.goto (-30), 3) := by decide +kernel
theorem dL_under_38 : decode cL_under 38 = .ok (.iload_n 2, 1) := by decide +kernel
theorem dL_under_39 : decode cL_under 39 = .ok (.ireturn, 1) := by decide +kernel
set_option maxRecDepth 20000 in
theorem ggL_why_L_length : GoodIn wsL_why wsL_length := goodIn_r _ [5, 6, 7, 4, 8, 9, 10, 11, 12, 13, 14, 15, 16, 17] (by decide +kernel) (by decide +kernel)
set_option maxRecDepth 20000 in
theorem gL_why_L_length : GoodIn wsL_why (va_wsS RL 27 yL_length wsL_length) := goodIn_app (goodIn_of _ (by decide +kernel)) ggL_why_L_length
set_option maxRecDepth 20000 in
theorem ggL_why_L_pick : GoodIn wsL_why wsL_pick := goodIn_r _ [20, 21, 22, 23, 24, 25, 26, 2, 3, 4, 5, 6, 7, 8, 9, 10, 11, 12, 13, 14, 15, 16, 17] (by decide +kernel) (by decide +kernel)
set_option maxRecDepth 20000 in
theorem gL_why_L_pick : GoodIn wsL_why (va_wsS RL 47 yL_pick wsL_pick) := goodIn_app (goodIn_of _ (by decide +kernel)) ggL_why_L_pick
set_option maxRecDepth 20000 in
theorem ggL_why_L_time : GoodIn wsL_why wsL_time := goodIn_r _ [29, 2, 3, 4, 5, 6, 7, 8, 9, 10, 11, 12, 13, 14, 15, 16, 17] (by decide +kernel) (by decide +kernel)
set_option maxRecDepth 20000 in
theorem gL_why_L_time : GoodIn wsL_why (va_wsS RL 40 yL_time wsL_time) := goodIn_app (goodIn_of _ (by decide +kernel)) ggL_why_L_time
set_option maxRecDepth 20000 in
theorem ggL_why_L_under : GoodIn wsL_why wsL_under := goodIn_r _ [32, 22] (by decide +kernel) (by decide +kernel)
set_option maxRecDepth 20000 in
theorem gL_why_L_under : GoodIn wsL_why (va_wsS RL 51 yL_under wsL_under) := goodIn_app (goodIn_of _ (by decide +kernel)) ggL_why_L_under
set_option maxRecDepth 20000 in
theorem ggL_why_L_day : GoodIn wsL_why wsL_day := goodIn_r _ [35] (by decide +kernel) (by decide +kernel)
set_option maxRecDepth 20000 in
theorem gL_why_L_day : GoodIn wsL_why (va_wsS RL 55 yL_day wsL_day) := goodIn_app (goodIn_of _ (by decide +kernel)) ggL_why_L_day
theorem dL_why_0 : decode cL_why 0 = .ok (.bipush 14, 2) := by decide +kernel
theorem dL_why_2 : decode cL_why 2 = .ok (.iload_n 2, 1) := by decide +kernel
theorem dL_why_3 : decode cL_why 3 = .ok (.imul, 1) := by decide +kernel
theorem dL_why_4 : decode cL_why 4 = .ok (.istore_n 3, 1) := by decide +kernel
theorem dL_why_5 : decode cL_why 5 = .ok (.aload_n 1, 1) := by decide +kernel
theorem dL_why_6 : decode cL_why 6 = .ok (.iload_n 3, 1) := by decide +kernel
theorem dL_why_7 : decode cL_why 7 = .ok (.bipush 6, 2) := by decide +kernel
theorem dL_why_9 : decode cL_why 9 = .ok (.iadd, 1) := by decide +kernel
theorem dL_why_10 : decode cL_why 10 = .ok (.iaload, 1) := by decide +kernel
theorem dL_why_11 : decode cL_why 11 = .ok (.ifCond .eq 5, 3) := by decide +kernel
theorem dL_why_14 : decode cL_why 14 = .ok (.iconst 1, 1) := by decide +kernel
theorem dL_why_15 : decode cL_why 15 = .ok (.ireturn, 1) := by decide +kernel
theorem dL_why_16 : decode cL_why 16 = .ok (.aload_n 0, 1) := by decide +kernel
theorem dL_why_17 : decode cL_why 17 = .ok (.iconst 1, 1) := by decide +kernel
theorem dL_why_18 : decode cL_why 18 = .ok (.aload_n 1, 1) := by decide +kernel
theorem dL_why_19 : decode cL_why 19 = .ok (.iload_n 3, 1) := by decide +kernel
theorem dL_why_20 : decode cL_why 20 = .ok (.iconst 1, 1) := by decide +kernel
theorem dL_why_21 : decode cL_why 21 = .ok (.iadd, 1) := by decide +kernel
theorem dL_why_22 : decode cL_why 22 = .ok (.iaload, 1) := by decide +kernel
theorem dL_why_23 : decode cL_why 23 = .ok (.invokestatic 27, 3) := by decide +kernel
theorem dL_why_26 : decode cL_why 26 = .ok (.istore 4, 2) := by decide +kernel
theorem dL_why_28 : decode cL_why 28 = .ok (.aload_n 0, 1) := by decide +kernel
theorem dL_why_29 : decode cL_why 29 = .ok (.aload_n 1, 1) := by decide +kernel
theorem dL_why_30 : decode cL_why 30 = .ok (.iload_n 3, 1) := by decide +kernel
theorem dL_why_31 : decode cL_why 31 = .ok (.iaload, 1) := by decide +kernel
theorem dL_why_32 : decode cL_why 32 = .ok (.invokestatic 47, 3) := by decide +kernel
theorem dL_why_35 : decode cL_why 35 = .ok (.istore 5, 2) := by decide +kernel
theorem dL_why_37 : decode cL_why 37 = .ok (.iconst 0, 1) := by decide +kernel
theorem dL_why_38 : decode cL_why 38 = .ok (.istore 6, 2) := by decide +kernel
theorem dL_why_40 : decode cL_why 40 = .ok (.iload 4, 2) := by decide +kernel
theorem dL_why_42 : decode cL_why 42 = .ok (.ifCond .lt 57, 3) := by decide +kernel
theorem dL_why_45 : decode cL_why 45 = .ok (.iload 5, 2) := by decide +kernel
theorem dL_why_47 : decode cL_why 47 = .ok (.ldc 50, 2) := by decide +kernel
theorem dL_why_49 : decode cL_why 49 = .ok (.if_icmp .le 50, 3) := by decide +kernel
theorem dL_why_52 : decode cL_why 52 = .ok (.aload_n 0, 1) := by decide +kernel
theorem dL_why_53 : decode cL_why 53 = .ok (.iconst 0, 1) := by decide +kernel
theorem dL_why_54 : decode cL_why 54 = .ok (.iload 5, 2) := by decide +kernel
theorem dL_why_56 : decode cL_why 56 = .ok (.invokestatic 40, 3) := by decide +kernel
theorem dL_why_59 : decode cL_why 59 = .ok (.istore 7, 2) := by decide +kernel
theorem dL_why_61 : decode cL_why 61 = .ok (.aload_n 0, 1) := by decide +kernel
theorem dL_why_62 : decode cL_why 62 = .ok (.iconst 1, 1) := by decide +kernel
theorem dL_why_63 : decode cL_why 63 = .ok (.aload_n 1, 1) := by decide +kernel
theorem dL_why_64 : decode cL_why 64 = .ok (.iload_n 3, 1) := by decide +kernel
theorem dL_why_65 : decode cL_why 65 = .ok (.iconst 1, 1) := by decide +kernel
theorem dL_why_66 : decode cL_why 66 = .ok (.iadd, 1) := by decide +kernel
theorem dL_why_67 : decode cL_why 67 = .ok (.iaload, 1) := by decide +kernel
theorem dL_why_68 : decode cL_why 68 = .ok (.invokestatic 40, 3) := by decide +kernel
theorem dL_why_71 : decode cL_why 71 = .ok (.istore 8, 2) := by decide +kernel
theorem dL_why_73 : decode cL_why 73 = .ok (.aload_n 0, 1) := by decide +kernel
theorem dL_why_74 : decode cL_why 74 = .ok (.iconst 4, 1) := by decide +kernel
theorem dL_why_75 : decode cL_why 75 = .ok (.iaload, 1) := by decide +kernel
theorem dL_why_76 : decode cL_why 76 = .ok (.aload_n 1, 1) := by decide +kernel
theorem dL_why_77 : decode cL_why 77 = .ok (.iload_n 3, 1) := by decide +kernel
theorem dL_why_78 : decode cL_why 78 = .ok (.iconst 4, 1) := by decide +kernel
theorem dL_why_79 : decode cL_why 79 = .ok (.iadd, 1) := by decide +kernel
theorem dL_why_80 : decode cL_why 80 = .ok (.iaload, 1) := by decide +kernel
theorem dL_why_81 : decode cL_why 81 = .ok (.iadd, 1) := by decide +kernel
theorem dL_why_82 : decode cL_why 82 = .ok (.iload 7, 2) := by decide +kernel
theorem dL_why_84 : decode cL_why 84 = .ok (.iload 8, 2) := by decide +kernel
theorem dL_why_86 : decode cL_why 86 = .ok (.if_icmp .le 8, 3) := by decide +kernel
theorem dL_why_89 : decode cL_why 89 = .ok (.iload 7, 2) := by decide +kernel
theorem dL_why_91 : decode cL_why 91 = .ok (.goto 5, 3) := by decide +kernel
theorem dL_why_94 : decode cL_why 94 = .ok (.iload 8, 2) := by decide +kernel
theorem dL_why_96 : decode cL_why 96 = .ok (.iadd, 1) := by decide +kernel
theorem dL_why_97 : decode cL_why 97 = .ok (.istore 6, 2) := by decide +kernel
theorem dL_why_99 : decode cL_why 99 = .ok (.aload_n 0, 1) := by decide +kernel
theorem dL_why_100 : decode cL_why 100 = .ok (.aload_n 1, 1) := by decide +kernel
theorem dL_why_101 : decode cL_why 101 = .ok (.invokestatic 51, 3) := by decide +kernel
theorem dL_why_104 : decode cL_why 104 = .ok (.ifCond .lt 7, 3) := by decide +kernel
theorem dL_why_107 : decode cL_why 107 = .ok (.iconst 2, 1) := by decide +kernel
theorem dL_why_108 : decode cL_why 108 = .ok (.goto 66, 3) := by decide +kernel
theorem dL_why_111 : decode cL_why 111 = .ok (.aload_n 0, 1) := by decide +kernel
theorem dL_why_112 : decode cL_why 112 = .ok (.invokestatic 55, 3) := by decide +kernel
theorem dL_why_115 : decode cL_why 115 = .ok (.ifCond .ne 7, 3) := by decide +kernel
theorem dL_why_118 : decode cL_why 118 = .ok (.iconst 3, 1) := by decide +kernel
theorem dL_why_119 : decode cL_why 119 = .ok (.goto 55, 3) := by decide +kernel
theorem dL_why_122 : decode cL_why 122 = .ok (.aload_n 0, 1) := by decide +kernel
theorem dL_why_123 : decode cL_why 123 = .ok (.iconst 4, 1) := by decide +kernel
theorem dL_why_124 : decode cL_why 124 = .ok (.iaload, 1) := by decide +kernel
theorem dL_why_125 : decode cL_why 125 = .ok (.aload_n 1, 1) := by decide +kernel
theorem dL_why_126 : decode cL_why 126 = .ok (.iload_n 3, 1) := by decide +kernel
theorem dL_why_127 : decode cL_why 127 = .ok (.iconst 2, 1) := by decide +kernel
theorem dL_why_128 : decode cL_why 128 = .ok (.iadd, 1) := by decide +kernel
theorem dL_why_129 : decode cL_why 129 = .ok (.iaload, 1) := by decide +kernel
theorem dL_why_130 : decode cL_why 130 = .ok (.if_icmp .ge 7, 3) := by decide +kernel
theorem dL_why_133 : decode cL_why 133 = .ok (.iconst 4, 1) := by decide +kernel
theorem dL_why_134 : decode cL_why 134 = .ok (.goto 40, 3) := by decide +kernel
theorem dL_why_137 : decode cL_why 137 = .ok (.iload 4, 2) := by decide +kernel
theorem dL_why_139 : decode cL_why 139 = .ok (.ifCond .ge 7, 3) := by decide +kernel
theorem dL_why_142 : decode cL_why 142 = .ok (.iconst 5, 1) := by decide +kernel
theorem dL_why_143 : decode cL_why 143 = .ok (.goto 31, 3) := by decide +kernel
theorem dL_why_146 : decode cL_why 146 = .ok (.iload 5, 2) := by decide +kernel
theorem dL_why_148 : decode cL_why 148 = .ok (.ldc 50, 2) := by decide +kernel
theorem dL_why_150 : decode cL_why 150 = .ok (.if_icmp .ge 8, 3) := by decide +kernel
theorem dL_why_153 : decode cL_why 153 = .ok (.bipush 6, 2) := by decide +kernel
theorem dL_why_155 : decode cL_why 155 = .ok (.goto 19, 3) := by decide +kernel
theorem dL_why_158 : decode cL_why 158 = .ok (.iload 6, 2) := by decide +kernel
theorem dL_why_160 : decode cL_why 160 = .ok (.aload_n 1, 1) := by decide +kernel
theorem dL_why_161 : decode cL_why 161 = .ok (.iload_n 3, 1) := by decide +kernel
theorem dL_why_162 : decode cL_why 162 = .ok (.iconst 3, 1) := by decide +kernel
theorem dL_why_163 : decode cL_why 163 = .ok (.iadd, 1) := by decide +kernel
theorem dL_why_164 : decode cL_why 164 = .ok (.iaload, 1) := by decide +kernel
theorem dL_why_165 : decode cL_why 165 = .ok (.if_icmp .le 8, 3) := by decide +kernel
theorem dL_why_168 : decode cL_why 168 = .ok (.bipush 7, 2) := by decide +kernel
theorem dL_why_170 : decode cL_why 170 = .ok (.goto 4, 3) := by decide +kernel
theorem dL_why_173 : decode cL_why 173 = .ok (.iconst 0, 1) := by decide +kernel
theorem dL_why_174 : decode cL_why 174 = .ok (.ireturn, 1) := by decide +kernel
set_option maxRecDepth 20000 in
theorem ggL_next_L_why : GoodIn wsL_next wsL_why := goodIn_r _ [5, 6, 7, 8, 4, 9, 10, 11, 12, 13, 14, 15, 16, 17, 18, 19, 20, 21, 22, 23, 24, 25, 1, 26, 27, 28, 29, 30, 31, 32, 33, 34, 35, 36, 37, 38] (by decide +kernel) (by decide +kernel)
set_option maxRecDepth 20000 in
theorem gL_next_L_why : GoodIn wsL_next (va_wsS RL 59 yL_why wsL_why) := goodIn_app (goodIn_of _ (by decide +kernel)) ggL_next_L_why
theorem dL_next_0 : decode cL_next 0 = .ok (.ldc 32, 2) := by decide +kernel
theorem dL_next_2 : decode cL_next 2 = .ok (.istore_n 2, 1) := by decide +kernel
theorem dL_next_3 : decode cL_next 3 = .ok (.bipush 9, 2) := by decide +kernel
theorem dL_next_5 : decode cL_next 5 = .ok (.istore_n 3, 1) := by decide +kernel
theorem dL_next_6 : decode cL_next 6 = .ok (.iload_n 3, 1) := by decide +kernel
theorem dL_next_7 : decode cL_next 7 = .ok (.ifCond .lt 86, 3) := by decide +kernel
theorem dL_next_10 : decode cL_next 10 = .ok (.iload_n 2, 1) := by decide +kernel
theorem dL_next_11 : decode cL_next 11 = .ok (.ifCond .ge 82, 3) := by decide +kernel
theorem dL_next_14 : decode cL_next 14 = .ok (.aload_n 0, 1) := by decide +kernel
theorem dL_next_15 : decode cL_next 15 = .ok (.bipush 7, 2) := by decide +kernel
theorem dL_next_17 : decode cL_next 17 = .ok (.iaload, 1) := by decide +kernel
theorem dL_next_18 : decode cL_next 18 = .ok (.iconst 1, 1) := by decide +kernel
theorem dL_next_19 : decode cL_next 19 = .ok (.isub, 1) := by decide +kernel
theorem dL_next_20 : decode cL_next 20 = .ok (.istore 4, 2) := by decide +kernel
theorem dL_next_22 : decode cL_next 22 = .ok (.iload 4, 2) := by decide +kernel
theorem dL_next_24 : decode cL_next 24 = .ok (.ifCond .lt 63, 3) := by decide +kernel
theorem dL_next_27 : decode cL_next 27 = .ok (.aload_n 1, 1) := by decide +kernel
theorem dL_next_28 : decode cL_next 28 = .ok (.bipush 14, 2) := by decide +kernel
theorem dL_next_30 : decode cL_next 30 = .ok (.iload 4, 2) := by decide +kernel
theorem dL_next_32 : decode cL_next 32 = .ok (.imul, 1) := by decide +kernel
theorem dL_next_33 : decode cL_next 33 = .ok (.iconst 5, 1) := by decide +kernel
theorem dL_next_34 : decode cL_next 34 = .ok (.iadd, 1) := by decide +kernel
theorem dL_next_35 : decode cL_next 35 = .ok (.iaload, 1) := by decide +kernel
theorem dL_next_36 : decode cL_next 36 = .ok (.iload_n 3, 1) := by decide +kernel
theorem dL_next_37 : decode cL_next 37 = .ok (.if_icmp .ne 44, 3) := by decide +kernel
theorem dL_next_40 : decode cL_next 40 = .ok (.aload_n 0, 1) := by decide +kernel
theorem dL_next_41 : decode cL_next 41 = .ok (.aload_n 1, 1) := by decide +kernel
theorem dL_next_42 : decode cL_next 42 = .ok (.iload 4, 2) := by decide +kernel
theorem dL_next_44 : decode cL_next 44 = .ok (.invokestatic 59, 3) := by decide +kernel
theorem dL_next_47 : decode cL_next 47 = .ok (.ifCond .ne 34, 3) := by decide +kernel
theorem dL_next_50 : decode cL_next 50 = .ok (.iload_n 2, 1) := by decide +kernel
theorem dL_next_51 : decode cL_next 51 = .ok (.ifCond .lt 23, 3) := by decide +kernel
theorem dL_next_54 : decode cL_next 54 = .ok (.aload_n 1, 1) := by decide +kernel
theorem dL_next_55 : decode cL_next 55 = .ok (.bipush 14, 2) := by decide +kernel
theorem dL_next_57 : decode cL_next 57 = .ok (.iload 4, 2) := by decide +kernel
theorem dL_next_59 : decode cL_next 59 = .ok (.imul, 1) := by decide +kernel
theorem dL_next_60 : decode cL_next 60 = .ok (.iconst 3, 1) := by decide +kernel
theorem dL_next_61 : decode cL_next 61 = .ok (.iadd, 1) := by decide +kernel
theorem dL_next_62 : decode cL_next 62 = .ok (.iaload, 1) := by decide +kernel
theorem dL_next_63 : decode cL_next 63 = .ok (.aload_n 1, 1) := by decide +kernel
theorem dL_next_64 : decode cL_next 64 = .ok (.bipush 14, 2) := by decide +kernel
theorem dL_next_66 : decode cL_next 66 = .ok (.iload_n 2, 1) := by decide +kernel
theorem dL_next_67 : decode cL_next 67 = .ok (.imul, 1) := by decide +kernel
theorem dL_next_68 : decode cL_next 68 = .ok (.iconst 3, 1) := by decide +kernel
theorem dL_next_69 : decode cL_next 69 = .ok (.iadd, 1) := by decide +kernel
theorem dL_next_70 : decode cL_next 70 = .ok (.iaload, 1) := by decide +kernel
theorem dL_next_71 : decode cL_next 71 = .ok (.if_icmp .gt 8, 3) := by decide +kernel
theorem dL_next_74 : decode cL_next 74 = .ok (.iload 4, 2) := by decide +kernel
theorem dL_next_76 : decode cL_next 76 = .ok (.goto 4, 3) := by decide +kernel
theorem dL_next_79 : decode cL_next 79 = .ok (.iload_n 2, 1) := by decide +kernel
theorem dL_next_80 : decode cL_next 80 = .ok (.istore_n 2, 1) := by decide +kernel
theorem dL_next_81 : decode cL_next 81 = .ok (.iinc 4 (-1), 3) := by decide +kernel
theorem dL_next_84 : decode cL_next 84 = .ok (.goto (-62), 3) := by decide +kernel
theorem dL_next_87 : decode cL_next 87 = .ok (.iinc 3 (-1), 3) := by decide +kernel
theorem dL_next_90 : decode cL_next 90 = .ok (.goto (-84), 3) := by decide +kernel
theorem dL_next_93 : decode cL_next 93 = .ok (.iload_n 2, 1) := by decide +kernel
theorem dL_next_94 : decode cL_next 94 = .ok (.ireturn, 1) := by decide +kernel
set_option maxRecDepth 20000 in
theorem ggL_push_L_day : GoodIn wsL_push wsL_day := goodIn_r _ [4] (by decide +kernel) (by decide +kernel)
set_option maxRecDepth 20000 in
theorem gL_push_L_day : GoodIn wsL_push (va_wsS RL 55 yL_day wsL_day) := goodIn_app (goodIn_of _ (by decide +kernel)) ggL_push_L_day
theorem dL_push_0 : decode cL_push 0 = .ok (.bipush 14, 2) := by decide +kernel
theorem dL_push_2 : decode cL_push 2 = .ok (.iload_n 2, 1) := by decide +kernel
theorem dL_push_3 : decode cL_push 3 = .ok (.imul, 1) := by decide +kernel
theorem dL_push_4 : decode cL_push 4 = .ok (.istore_n 3, 1) := by decide +kernel
theorem dL_push_5 : decode cL_push 5 = .ok (.aload_n 1, 1) := by decide +kernel
theorem dL_push_6 : decode cL_push 6 = .ok (.iload_n 3, 1) := by decide +kernel
theorem dL_push_7 : decode cL_push 7 = .ok (.bipush 8, 2) := by decide +kernel
theorem dL_push_9 : decode cL_push 9 = .ok (.iadd, 1) := by decide +kernel
theorem dL_push_10 : decode cL_push 10 = .ok (.iaload, 1) := by decide +kernel
theorem dL_push_11 : decode cL_push 11 = .ok (.aload_n 0, 1) := by decide +kernel
theorem dL_push_12 : decode cL_push 12 = .ok (.iconst 4, 1) := by decide +kernel
theorem dL_push_13 : decode cL_push 13 = .ok (.iaload, 1) := by decide +kernel
theorem dL_push_14 : decode cL_push 14 = .ok (.if_icmp .ne 59, 3) := by decide +kernel
theorem dL_push_17 : decode cL_push 17 = .ok (.aload_n 1, 1) := by decide +kernel
theorem dL_push_18 : decode cL_push 18 = .ok (.iload_n 3, 1) := by decide +kernel
theorem dL_push_19 : decode cL_push 19 = .ok (.bipush 13, 2) := by decide +kernel
theorem dL_push_21 : decode cL_push 21 = .ok (.iadd, 1) := by decide +kernel
theorem dL_push_22 : decode cL_push 22 = .ok (.iaload, 1) := by decide +kernel
theorem dL_push_23 : decode cL_push 23 = .ok (.ifCond .ne 50, 3) := by decide +kernel
theorem dL_push_26 : decode cL_push 26 = .ok (.aload_n 0, 1) := by decide +kernel
theorem dL_push_27 : decode cL_push 27 = .ok (.bipush 12, 2) := by decide +kernel
theorem dL_push_29 : decode cL_push 29 = .ok (.aload_n 0, 1) := by decide +kernel
theorem dL_push_30 : decode cL_push 30 = .ok (.invokestatic 55, 3) := by decide +kernel
theorem dL_push_33 : decode cL_push 33 = .ok (.iconst 1, 1) := by decide +kernel
theorem dL_push_34 : decode cL_push 34 = .ok (.if_icmp .eq 10, 3) := by decide +kernel
theorem dL_push_37 : decode cL_push 37 = .ok (.aload_n 0, 1) := by decide +kernel
theorem dL_push_38 : decode cL_push 38 = .ok (.bipush 12, 2) := by decide +kernel
theorem dL_push_40 : decode cL_push 40 = .ok (.iaload, 1) := by decide +kernel
theorem dL_push_41 : decode cL_push 41 = .ok (.goto 24, 3) := by decide +kernel
theorem dL_push_44 : decode cL_push 44 = .ok (.aload_n 0, 1) := by decide +kernel
theorem dL_push_45 : decode cL_push 45 = .ok (.iconst 4, 1) := by decide +kernel
theorem dL_push_46 : decode cL_push 46 = .ok (.iaload, 1) := by decide +kernel
theorem dL_push_47 : decode cL_push 47 = .ok (.sipush 1440, 3) := by decide +kernel
theorem dL_push_50 : decode cL_push 50 = .ok (.idiv, 1) := by decide +kernel
theorem dL_push_51 : decode cL_push 51 = .ok (.iconst 2, 1) := by decide +kernel
theorem dL_push_52 : decode cL_push 52 = .ok (.irem, 1) := by decide +kernel
theorem dL_push_53 : decode cL_push 53 = .ok (.iconst 1, 1) := by decide +kernel
theorem dL_push_54 : decode cL_push 54 = .ok (.if_icmp .ne 10, 3) := by decide +kernel
theorem dL_push_57 : decode cL_push 57 = .ok (.aload_n 0, 1) := by decide +kernel
theorem dL_push_58 : decode cL_push 58 = .ok (.bipush 8, 2) := by decide +kernel
theorem dL_push_60 : decode cL_push 60 = .ok (.iaload, 1) := by decide +kernel
theorem dL_push_61 : decode cL_push 61 = .ok (.goto 4, 3) := by decide +kernel
theorem dL_push_64 : decode cL_push 64 = .ok (.iconst 0, 1) := by decide +kernel
theorem dL_push_65 : decode cL_push 65 = .ok (.iastore, 1) := by decide +kernel
theorem dL_push_66 : decode cL_push 66 = .ok (.aload_n 1, 1) := by decide +kernel
theorem dL_push_67 : decode cL_push 67 = .ok (.iload_n 3, 1) := by decide +kernel
theorem dL_push_68 : decode cL_push 68 = .ok (.bipush 13, 2) := by decide +kernel
theorem dL_push_70 : decode cL_push 70 = .ok (.iadd, 1) := by decide +kernel
theorem dL_push_71 : decode cL_push 71 = .ok (.iconst 1, 1) := by decide +kernel
theorem dL_push_72 : decode cL_push 72 = .ok (.iastore, 1) := by decide +kernel
theorem dL_push_73 : decode cL_push 73 = .ok (.return_, 1) := by decide +kernel
set_option maxRecDepth 20000 in
theorem ggL_minute_L_under : GoodIn wsL_minute wsL_under := goodIn_r _ [4, 5] (by decide +kernel) (by decide +kernel)
set_option maxRecDepth 20000 in
theorem gL_minute_L_under : GoodIn wsL_minute (va_wsS RL 51 yL_under wsL_under) := goodIn_app (goodIn_of _ (by decide +kernel)) ggL_minute_L_under
set_option maxRecDepth 20000 in
theorem ggL_minute_L_push : GoodIn wsL_minute wsL_push := goodIn_r _ [8, 9, 10, 3, 11] (by decide +kernel) (by decide +kernel)
set_option maxRecDepth 20000 in
theorem gL_minute_L_push : GoodIn wsL_minute (va_wsS RL 63 yL_push wsL_push) := goodIn_app (goodIn_of _ (by decide +kernel)) ggL_minute_L_push
set_option maxRecDepth 20000 in
theorem ggL_minute_L_dish : GoodIn wsL_minute wsL_dish := goodIn_r _ [14] (by decide +kernel) (by decide +kernel)
set_option maxRecDepth 20000 in
theorem gL_minute_L_dish : GoodIn wsL_minute (va_wsS RL 9 yL_dish wsL_dish) := goodIn_app (goodIn_of _ (by decide +kernel)) ggL_minute_L_dish
set_option maxRecDepth 20000 in
theorem ggL_minute_L_next : GoodIn wsL_minute wsL_next := goodIn_r _ [17, 5, 18, 19, 3, 20, 21, 22, 23, 24, 25, 26, 27, 12, 13, 14, 28, 29, 30, 31, 32, 33, 34, 35, 36, 37, 38, 39, 40, 41, 42, 43, 44, 1, 2, 4, 9, 10, 11] (by decide +kernel) (by decide +kernel)
set_option maxRecDepth 20000 in
theorem gL_minute_L_next : GoodIn wsL_minute (va_wsS RL 67 yL_next wsL_next) := goodIn_app (goodIn_of _ (by decide +kernel)) ggL_minute_L_next
set_option maxRecDepth 20000 in
theorem ggL_minute_L_pick : GoodIn wsL_minute wsL_pick := goodIn_r _ [36, 37, 5, 38, 39, 40, 41, 22, 23, 3, 24, 25, 26, 27, 12, 13, 14, 28, 29, 30, 31, 32, 33] (by decide +kernel) (by decide +kernel)
set_option maxRecDepth 20000 in
theorem gL_minute_L_pick : GoodIn wsL_minute (va_wsS RL 47 yL_pick wsL_pick) := goodIn_app (goodIn_of _ (by decide +kernel)) ggL_minute_L_pick
set_option maxRecDepth 20000 in
theorem ggL_minute_L_slews : GoodIn wsL_minute wsL_slews := goodIn_r _ [47, 42, 43, 3, 44, 22, 23, 24, 25, 26, 27, 12, 13, 14, 28, 29, 30, 31, 32, 33, 48, 49, 50] (by decide +kernel) (by decide +kernel)
set_option maxRecDepth 20000 in
theorem gL_minute_L_slews : GoodIn wsL_minute (va_wsS RL 70 yL_slews wsL_slews) := goodIn_app (goodIn_of _ (by decide +kernel)) ggL_minute_L_slews
theorem dL_minute_0 : decode cL_minute 0 = .ok (.iconst 0, 1) := by decide +kernel
theorem dL_minute_1 : decode cL_minute 1 = .ok (.istore_n 2, 1) := by decide +kernel
theorem dL_minute_2 : decode cL_minute 2 = .ok (.aload_n 0, 1) := by decide +kernel
theorem dL_minute_3 : decode cL_minute 3 = .ok (.aload_n 1, 1) := by decide +kernel
theorem dL_minute_4 : decode cL_minute 4 = .ok (.invokestatic 51, 3) := by decide +kernel
theorem dL_minute_7 : decode cL_minute 7 = .ok (.istore_n 3, 1) := by decide +kernel
theorem dL_minute_8 : decode cL_minute 8 = .ok (.iload_n 3, 1) := by decide +kernel
theorem dL_minute_9 : decode cL_minute 9 = .ok (.ifCond .lt 61, 3) := by decide +kernel
theorem dL_minute_12 : decode cL_minute 12 = .ok (.aload_n 0, 1) := by decide +kernel
theorem dL_minute_13 : decode cL_minute 13 = .ok (.aload_n 1, 1) := by decide +kernel
theorem dL_minute_14 : decode cL_minute 14 = .ok (.iload_n 3, 1) := by decide +kernel
theorem dL_minute_15 : decode cL_minute 15 = .ok (.invokestatic 63, 3) := by decide +kernel
theorem dL_minute_18 : decode cL_minute 18 = .ok (.aload_n 1, 1) := by decide +kernel
theorem dL_minute_19 : decode cL_minute 19 = .ok (.bipush 14, 2) := by decide +kernel
theorem dL_minute_21 : decode cL_minute 21 = .ok (.iload_n 3, 1) := by decide +kernel
theorem dL_minute_22 : decode cL_minute 22 = .ok (.imul, 1) := by decide +kernel
theorem dL_minute_23 : decode cL_minute 23 = .ok (.bipush 9, 2) := by decide +kernel
theorem dL_minute_25 : decode cL_minute 25 = .ok (.iadd, 1) := by decide +kernel
theorem dL_minute_26 : decode cL_minute 26 = .ok (.iaload, 1) := by decide +kernel
theorem dL_minute_27 : decode cL_minute 27 = .ok (.aload_n 0, 1) := by decide +kernel
theorem dL_minute_28 : decode cL_minute 28 = .ok (.iconst 4, 1) := by decide +kernel
theorem dL_minute_29 : decode cL_minute 29 = .ok (.iaload, 1) := by decide +kernel
theorem dL_minute_30 : decode cL_minute 30 = .ok (.if_icmp .gt 40, 3) := by decide +kernel
theorem dL_minute_33 : decode cL_minute 33 = .ok (.aload_n 1, 1) := by decide +kernel
theorem dL_minute_34 : decode cL_minute 34 = .ok (.bipush 14, 2) := by decide +kernel
theorem dL_minute_36 : decode cL_minute 36 = .ok (.iload_n 3, 1) := by decide +kernel
theorem dL_minute_37 : decode cL_minute 37 = .ok (.imul, 1) := by decide +kernel
theorem dL_minute_38 : decode cL_minute 38 = .ok (.bipush 6, 2) := by decide +kernel
theorem dL_minute_40 : decode cL_minute 40 = .ok (.iadd, 1) := by decide +kernel
theorem dL_minute_41 : decode cL_minute 41 = .ok (.iconst 2, 1) := by decide +kernel
theorem dL_minute_42 : decode cL_minute 42 = .ok (.iastore, 1) := by decide +kernel
theorem dL_minute_43 : decode cL_minute 43 = .ok (.aload_n 1, 1) := by decide +kernel
theorem dL_minute_44 : decode cL_minute 44 = .ok (.bipush 14, 2) := by decide +kernel
theorem dL_minute_46 : decode cL_minute 46 = .ok (.iload_n 3, 1) := by decide +kernel
theorem dL_minute_47 : decode cL_minute 47 = .ok (.imul, 1) := by decide +kernel
theorem dL_minute_48 : decode cL_minute 48 = .ok (.bipush 10, 2) := by decide +kernel
theorem dL_minute_50 : decode cL_minute 50 = .ok (.iadd, 1) := by decide +kernel
theorem dL_minute_51 : decode cL_minute 51 = .ok (.aload_n 0, 1) := by decide +kernel
theorem dL_minute_52 : decode cL_minute 52 = .ok (.iconst 0, 1) := by decide +kernel
theorem dL_minute_53 : decode cL_minute 53 = .ok (.invokestatic 9, 3) := by decide +kernel
theorem dL_minute_56 : decode cL_minute 56 = .ok (.aload_n 1, 1) := by decide +kernel
theorem dL_minute_57 : decode cL_minute 57 = .ok (.bipush 14, 2) := by decide +kernel
theorem dL_minute_59 : decode cL_minute 59 = .ok (.iload_n 3, 1) := by decide +kernel
theorem dL_minute_60 : decode cL_minute 60 = .ok (.imul, 1) := by decide +kernel
theorem dL_minute_61 : decode cL_minute 61 = .ok (.bipush 12, 2) := by decide +kernel
theorem dL_minute_63 : decode cL_minute 63 = .ok (.iadd, 1) := by decide +kernel
theorem dL_minute_64 : decode cL_minute 64 = .ok (.iaload, 1) := by decide +kernel
theorem dL_minute_65 : decode cL_minute 65 = .ok (.isub, 1) := by decide +kernel
theorem dL_minute_66 : decode cL_minute 66 = .ok (.iastore, 1) := by decide +kernel
theorem dL_minute_67 : decode cL_minute 67 = .ok (.iinc 2 1, 3) := by decide +kernel
theorem dL_minute_70 : decode cL_minute 70 = .ok (.iconst 0, 1) := by decide +kernel
theorem dL_minute_71 : decode cL_minute 71 = .ok (.istore 4, 2) := by decide +kernel
theorem dL_minute_73 : decode cL_minute 73 = .ok (.iload 4, 2) := by decide +kernel
theorem dL_minute_75 : decode cL_minute 75 = .ok (.aload_n 0, 1) := by decide +kernel
theorem dL_minute_76 : decode cL_minute 76 = .ok (.bipush 7, 2) := by decide +kernel
theorem dL_minute_78 : decode cL_minute 78 = .ok (.iaload, 1) := by decide +kernel
theorem dL_minute_79 : decode cL_minute 79 = .ok (.if_icmp .ge 61, 3) := by decide +kernel
theorem dL_minute_82 : decode cL_minute 82 = .ok (.aload_n 1, 1) := by decide +kernel
theorem dL_minute_83 : decode cL_minute 83 = .ok (.bipush 14, 2) := by decide +kernel
theorem dL_minute_85 : decode cL_minute 85 = .ok (.iload 4, 2) := by decide +kernel
theorem dL_minute_87 : decode cL_minute 87 = .ok (.imul, 1) := by decide +kernel
theorem dL_minute_88 : decode cL_minute 88 = .ok (.bipush 6, 2) := by decide +kernel
theorem dL_minute_90 : decode cL_minute 90 = .ok (.iadd, 1) := by decide +kernel
theorem dL_minute_91 : decode cL_minute 91 = .ok (.aload_n 1, 1) := by decide +kernel
theorem dL_minute_92 : decode cL_minute 92 = .ok (.bipush 14, 2) := by decide +kernel
theorem dL_minute_94 : decode cL_minute 94 = .ok (.iload 4, 2) := by decide +kernel
theorem dL_minute_96 : decode cL_minute 96 = .ok (.imul, 1) := by decide +kernel
theorem dL_minute_97 : decode cL_minute 97 = .ok (.bipush 6, 2) := by decide +kernel
theorem dL_minute_99 : decode cL_minute 99 = .ok (.iadd, 1) := by decide +kernel
theorem dL_minute_100 : decode cL_minute 100 = .ok (.iaload, 1) := by decide +kernel
theorem dL_minute_101 : decode cL_minute 101 = .ok (.ifCond .ne 22, 3) := by decide +kernel
theorem dL_minute_104 : decode cL_minute 104 = .ok (.aload_n 1, 1) := by decide +kernel
theorem dL_minute_105 : decode cL_minute 105 = .ok (.bipush 14, 2) := by decide +kernel
theorem dL_minute_107 : decode cL_minute 107 = .ok (.iload 4, 2) := by decide +kernel
theorem dL_minute_109 : decode cL_minute 109 = .ok (.imul, 1) := by decide +kernel
theorem dL_minute_110 : decode cL_minute 110 = .ok (.iconst 3, 1) := by decide +kernel
theorem dL_minute_111 : decode cL_minute 111 = .ok (.iadd, 1) := by decide +kernel
theorem dL_minute_112 : decode cL_minute 112 = .ok (.iaload, 1) := by decide +kernel
theorem dL_minute_113 : decode cL_minute 113 = .ok (.aload_n 0, 1) := by decide +kernel
theorem dL_minute_114 : decode cL_minute 114 = .ok (.iconst 4, 1) := by decide +kernel
theorem dL_minute_115 : decode cL_minute 115 = .ok (.iaload, 1) := by decide +kernel
theorem dL_minute_116 : decode cL_minute 116 = .ok (.if_icmp .gt 7, 3) := by decide +kernel
theorem dL_minute_119 : decode cL_minute 119 = .ok (.iconst 3, 1) := by decide +kernel
theorem dL_minute_120 : decode cL_minute 120 = .ok (.goto 13, 3) := by decide +kernel
theorem dL_minute_123 : decode cL_minute 123 = .ok (.aload_n 1, 1) := by decide +kernel
theorem dL_minute_124 : decode cL_minute 124 = .ok (.bipush 14, 2) := by decide +kernel
theorem dL_minute_126 : decode cL_minute 126 = .ok (.iload 4, 2) := by decide +kernel
theorem dL_minute_128 : decode cL_minute 128 = .ok (.imul, 1) := by decide +kernel
theorem dL_minute_129 : decode cL_minute 129 = .ok (.bipush 6, 2) := by decide +kernel
theorem dL_minute_131 : decode cL_minute 131 = .ok (.iadd, 1) := by decide +kernel
theorem dL_minute_132 : decode cL_minute 132 = .ok (.iaload, 1) := by decide +kernel
theorem dL_minute_133 : decode cL_minute 133 = .ok (.iastore, 1) := by decide +kernel
theorem dL_minute_134 : decode cL_minute 134 = .ok (.iinc 4 1, 3) := by decide +kernel
theorem dL_minute_137 : decode cL_minute 137 = .ok (.goto (-64), 3) := by decide +kernel
theorem dL_minute_140 : decode cL_minute 140 = .ok (.aload_n 0, 1) := by decide +kernel
theorem dL_minute_141 : decode cL_minute 141 = .ok (.aload_n 1, 1) := by decide +kernel
theorem dL_minute_142 : decode cL_minute 142 = .ok (.invokestatic 67, 3) := by decide +kernel
theorem dL_minute_145 : decode cL_minute 145 = .ok (.istore 4, 2) := by decide +kernel
theorem dL_minute_147 : decode cL_minute 147 = .ok (.iload 4, 2) := by decide +kernel
theorem dL_minute_149 : decode cL_minute 149 = .ok (.ifCond .lt 107, 3) := by decide +kernel
theorem dL_minute_152 : decode cL_minute 152 = .ok (.bipush 14, 2) := by decide +kernel
theorem dL_minute_154 : decode cL_minute 154 = .ok (.iload 4, 2) := by decide +kernel
theorem dL_minute_156 : decode cL_minute 156 = .ok (.imul, 1) := by decide +kernel
theorem dL_minute_157 : decode cL_minute 157 = .ok (.istore 5, 2) := by decide +kernel
theorem dL_minute_159 : decode cL_minute 159 = .ok (.aload_n 1, 1) := by decide +kernel
theorem dL_minute_160 : decode cL_minute 160 = .ok (.iload 5, 2) := by decide +kernel
theorem dL_minute_162 : decode cL_minute 162 = .ok (.bipush 12, 2) := by decide +kernel
theorem dL_minute_164 : decode cL_minute 164 = .ok (.iadd, 1) := by decide +kernel
theorem dL_minute_165 : decode cL_minute 165 = .ok (.aload_n 0, 1) := by decide +kernel
theorem dL_minute_166 : decode cL_minute 166 = .ok (.aload_n 1, 1) := by decide +kernel
theorem dL_minute_167 : decode cL_minute 167 = .ok (.iload 5, 2) := by decide +kernel
theorem dL_minute_169 : decode cL_minute 169 = .ok (.iaload, 1) := by decide +kernel
theorem dL_minute_170 : decode cL_minute 170 = .ok (.invokestatic 47, 3) := by decide +kernel
theorem dL_minute_173 : decode cL_minute 173 = .ok (.iastore, 1) := by decide +kernel
theorem dL_minute_174 : decode cL_minute 174 = .ok (.aload_n 1, 1) := by decide +kernel
theorem dL_minute_175 : decode cL_minute 175 = .ok (.iload 5, 2) := by decide +kernel
theorem dL_minute_177 : decode cL_minute 177 = .ok (.bipush 6, 2) := by decide +kernel
theorem dL_minute_179 : decode cL_minute 179 = .ok (.iadd, 1) := by decide +kernel
theorem dL_minute_180 : decode cL_minute 180 = .ok (.iconst 1, 1) := by decide +kernel
theorem dL_minute_181 : decode cL_minute 181 = .ok (.iastore, 1) := by decide +kernel
theorem dL_minute_182 : decode cL_minute 182 = .ok (.aload_n 1, 1) := by decide +kernel
theorem dL_minute_183 : decode cL_minute 183 = .ok (.iload 5, 2) := by decide +kernel
theorem dL_minute_185 : decode cL_minute 185 = .ok (.bipush 7, 2) := by decide +kernel
theorem dL_minute_187 : decode cL_minute 187 = .ok (.iadd, 1) := by decide +kernel
theorem dL_minute_188 : decode cL_minute 188 = .ok (.aload_n 0, 1) := by decide +kernel
theorem dL_minute_189 : decode cL_minute 189 = .ok (.iconst 4, 1) := by decide +kernel
theorem dL_minute_190 : decode cL_minute 190 = .ok (.iaload, 1) := by decide +kernel
theorem dL_minute_191 : decode cL_minute 191 = .ok (.iastore, 1) := by decide +kernel
theorem dL_minute_192 : decode cL_minute 192 = .ok (.aload_n 1, 1) := by decide +kernel
theorem dL_minute_193 : decode cL_minute 193 = .ok (.iload 5, 2) := by decide +kernel
theorem dL_minute_195 : decode cL_minute 195 = .ok (.bipush 8, 2) := by decide +kernel
theorem dL_minute_197 : decode cL_minute 197 = .ok (.iadd, 1) := by decide +kernel
theorem dL_minute_198 : decode cL_minute 198 = .ok (.aload_n 0, 1) := by decide +kernel
theorem dL_minute_199 : decode cL_minute 199 = .ok (.iconst 4, 1) := by decide +kernel
theorem dL_minute_200 : decode cL_minute 200 = .ok (.iaload, 1) := by decide +kernel
theorem dL_minute_201 : decode cL_minute 201 = .ok (.aload_n 0, 1) := by decide +kernel
theorem dL_minute_202 : decode cL_minute 202 = .ok (.aload_n 1, 1) := by decide +kernel
theorem dL_minute_203 : decode cL_minute 203 = .ok (.iload 5, 2) := by decide +kernel
theorem dL_minute_205 : decode cL_minute 205 = .ok (.bipush 12, 2) := by decide +kernel
theorem dL_minute_207 : decode cL_minute 207 = .ok (.iadd, 1) := by decide +kernel
theorem dL_minute_208 : decode cL_minute 208 = .ok (.iaload, 1) := by decide +kernel
theorem dL_minute_209 : decode cL_minute 209 = .ok (.aload_n 1, 1) := by decide +kernel
theorem dL_minute_210 : decode cL_minute 210 = .ok (.iload 5, 2) := by decide +kernel
theorem dL_minute_212 : decode cL_minute 212 = .ok (.iconst 1, 1) := by decide +kernel
theorem dL_minute_213 : decode cL_minute 213 = .ok (.iadd, 1) := by decide +kernel
theorem dL_minute_214 : decode cL_minute 214 = .ok (.iaload, 1) := by decide +kernel
theorem dL_minute_215 : decode cL_minute 215 = .ok (.invokestatic 70, 3) := by decide +kernel
theorem dL_minute_218 : decode cL_minute 218 = .ok (.iadd, 1) := by decide +kernel
theorem dL_minute_219 : decode cL_minute 219 = .ok (.iastore, 1) := by decide +kernel
theorem dL_minute_220 : decode cL_minute 220 = .ok (.aload_n 1, 1) := by decide +kernel
theorem dL_minute_221 : decode cL_minute 221 = .ok (.iload 5, 2) := by decide +kernel
theorem dL_minute_223 : decode cL_minute 223 = .ok (.bipush 9, 2) := by decide +kernel
theorem dL_minute_225 : decode cL_minute 225 = .ok (.iadd, 1) := by decide +kernel
theorem dL_minute_226 : decode cL_minute 226 = .ok (.aload_n 1, 1) := by decide +kernel
theorem dL_minute_227 : decode cL_minute 227 = .ok (.iload 5, 2) := by decide +kernel
theorem dL_minute_229 : decode cL_minute 229 = .ok (.bipush 8, 2) := by decide +kernel
theorem dL_minute_231 : decode cL_minute 231 = .ok (.iadd, 1) := by decide +kernel
theorem dL_minute_232 : decode cL_minute 232 = .ok (.iaload, 1) := by decide +kernel
theorem dL_minute_233 : decode cL_minute 233 = .ok (.aload_n 1, 1) := by decide +kernel
theorem dL_minute_234 : decode cL_minute 234 = .ok (.iload 5, 2) := by decide +kernel
theorem dL_minute_236 : decode cL_minute 236 = .ok (.iconst 4, 1) := by decide +kernel
theorem dL_minute_237 : decode cL_minute 237 = .ok (.iadd, 1) := by decide +kernel
theorem dL_minute_238 : decode cL_minute 238 = .ok (.iaload, 1) := by decide +kernel
theorem dL_minute_239 : decode cL_minute 239 = .ok (.iadd, 1) := by decide +kernel
theorem dL_minute_240 : decode cL_minute 240 = .ok (.iastore, 1) := by decide +kernel
theorem dL_minute_241 : decode cL_minute 241 = .ok (.aload_n 1, 1) := by decide +kernel
theorem dL_minute_242 : decode cL_minute 242 = .ok (.iload 5, 2) := by decide +kernel
theorem dL_minute_244 : decode cL_minute 244 = .ok (.bipush 13, 2) := by decide +kernel
theorem dL_minute_246 : decode cL_minute 246 = .ok (.iadd, 1) := by decide +kernel
theorem dL_minute_247 : decode cL_minute 247 = .ok (.iconst 0, 1) := by decide +kernel
theorem dL_minute_248 : decode cL_minute 248 = .ok (.iastore, 1) := by decide +kernel
theorem dL_minute_249 : decode cL_minute 249 = .ok (.aload_n 0, 1) := by decide +kernel
theorem dL_minute_250 : decode cL_minute 250 = .ok (.aload_n 1, 1) := by decide +kernel
theorem dL_minute_251 : decode cL_minute 251 = .ok (.iload 4, 2) := by decide +kernel
theorem dL_minute_253 : decode cL_minute 253 = .ok (.invokestatic 63, 3) := by decide +kernel
theorem dL_minute_256 : decode cL_minute 256 = .ok (.iload_n 2, 1) := by decide +kernel
theorem dL_minute_257 : decode cL_minute 257 = .ok (.ireturn, 1) := by decide +kernel
set_option maxRecDepth 20000 in
theorem ggL_runs_L_minute : GoodIn wsL_runs wsL_minute := goodIn_r _ [4, 5, 6, 3, 7, 8, 9, 10, 11, 12, 13, 14, 15, 16, 17, 18, 19, 20, 21, 22, 23, 24, 25, 26, 27, 28, 29, 30, 31, 32, 33, 34, 35, 36, 37, 38, 39, 40, 41, 42, 43, 44, 45, 46, 47, 48, 49, 50, 51, 52, 53] (by decide +kernel) (by decide +kernel)
set_option maxRecDepth 20000 in
theorem gL_runs_L_minute : GoodIn wsL_runs (va_wsS RL 73 yL_minute wsL_minute) := goodIn_app (goodIn_of _ (by decide +kernel)) ggL_runs_L_minute
set_option maxRecDepth 20000 in
theorem ggL_runs_L_day : GoodIn wsL_runs wsL_day := goodIn_r _ [14] (by decide +kernel) (by decide +kernel)
set_option maxRecDepth 20000 in
theorem gL_runs_L_day : GoodIn wsL_runs (va_wsS RL 55 yL_day wsL_day) := goodIn_app (goodIn_of _ (by decide +kernel)) ggL_runs_L_day
set_option maxRecDepth 20000 in
theorem ggL_runs_L_under : GoodIn wsL_runs wsL_under := goodIn_r _ [7, 8] (by decide +kernel) (by decide +kernel)
set_option maxRecDepth 20000 in
theorem gL_runs_L_under : GoodIn wsL_runs (va_wsS RL 51 yL_under wsL_under) := goodIn_app (goodIn_of _ (by decide +kernel)) ggL_runs_L_under
set_option maxRecDepth 20000 in
theorem ggL_runs_L_goes : GoodIn wsL_runs wsL_goes := goodIn_r _ [53] (by decide +kernel) (by decide +kernel)
set_option maxRecDepth 20000 in
theorem gL_runs_L_goes : GoodIn wsL_runs (va_wsS RL 43 yL_goes wsL_goes) := goodIn_app (goodIn_of _ (by decide +kernel)) ggL_runs_L_goes
theorem dL_runs_0 : decode cL_runs 0 = .ok (.aload_n 0, 1) := by decide +kernel
theorem dL_runs_1 : decode cL_runs 1 = .ok (.aload_n 1, 1) := by decide +kernel
theorem dL_runs_2 : decode cL_runs 2 = .ok (.invokestatic 73, 3) := by decide +kernel
theorem dL_runs_5 : decode cL_runs 5 = .ok (.istore_n 3, 1) := by decide +kernel
theorem dL_runs_6 : decode cL_runs 6 = .ok (.iconst 0, 1) := by decide +kernel
theorem dL_runs_7 : decode cL_runs 7 = .ok (.istore 4, 2) := by decide +kernel
theorem dL_runs_9 : decode cL_runs 9 = .ok (.iload 4, 2) := by decide +kernel
theorem dL_runs_11 : decode cL_runs 11 = .ok (.iload_n 2, 1) := by decide +kernel
theorem dL_runs_12 : decode cL_runs 12 = .ok (.if_icmp .ge 94, 3) := by decide +kernel
theorem dL_runs_15 : decode cL_runs 15 = .ok (.aload_n 0, 1) := by decide +kernel
theorem dL_runs_16 : decode cL_runs 16 = .ok (.iconst 4, 1) := by decide +kernel
theorem dL_runs_17 : decode cL_runs 17 = .ok (.dup2, 1) := by decide +kernel
theorem dL_runs_18 : decode cL_runs 18 = .ok (.iaload, 1) := by decide +kernel
theorem dL_runs_19 : decode cL_runs 19 = .ok (.iconst 1, 1) := by decide +kernel
theorem dL_runs_20 : decode cL_runs 20 = .ok (.iadd, 1) := by decide +kernel
theorem dL_runs_21 : decode cL_runs 21 = .ok (.iastore, 1) := by decide +kernel
theorem dL_runs_22 : decode cL_runs 22 = .ok (.aload_n 0, 1) := by decide +kernel
theorem dL_runs_23 : decode cL_runs 23 = .ok (.iconst 4, 1) := by decide +kernel
theorem dL_runs_24 : decode cL_runs 24 = .ok (.iaload, 1) := by decide +kernel
theorem dL_runs_25 : decode cL_runs 25 = .ok (.sipush 1440, 3) := by decide +kernel
theorem dL_runs_28 : decode cL_runs 28 = .ok (.irem, 1) := by decide +kernel
theorem dL_runs_29 : decode cL_runs 29 = .ok (.ifCond .ne 63, 3) := by decide +kernel
theorem dL_runs_32 : decode cL_runs 32 = .ok (.aload_n 0, 1) := by decide +kernel
theorem dL_runs_33 : decode cL_runs 33 = .ok (.invokestatic 55, 3) := by decide +kernel
theorem dL_runs_36 : decode cL_runs 36 = .ok (.ifCond .ne 56, 3) := by decide +kernel
theorem dL_runs_39 : decode cL_runs 39 = .ok (.aload_n 0, 1) := by decide +kernel
theorem dL_runs_40 : decode cL_runs 40 = .ok (.aload_n 1, 1) := by decide +kernel
theorem dL_runs_41 : decode cL_runs 41 = .ok (.invokestatic 51, 3) := by decide +kernel
theorem dL_runs_44 : decode cL_runs 44 = .ok (.istore 5, 2) := by decide +kernel
theorem dL_runs_46 : decode cL_runs 46 = .ok (.iload 5, 2) := by decide +kernel
theorem dL_runs_48 : decode cL_runs 48 = .ok (.ifCond .lt 28, 3) := by decide +kernel
theorem dL_runs_51 : decode cL_runs 51 = .ok (.aload_n 1, 1) := by decide +kernel
theorem dL_runs_52 : decode cL_runs 52 = .ok (.bipush 14, 2) := by decide +kernel
theorem dL_runs_54 : decode cL_runs 54 = .ok (.iload 5, 2) := by decide +kernel
theorem dL_runs_56 : decode cL_runs 56 = .ok (.imul, 1) := by decide +kernel
theorem dL_runs_57 : decode cL_runs 57 = .ok (.bipush 6, 2) := by decide +kernel
theorem dL_runs_59 : decode cL_runs 59 = .ok (.iadd, 1) := by decide +kernel
theorem dL_runs_60 : decode cL_runs 60 = .ok (.iconst 0, 1) := by decide +kernel
theorem dL_runs_61 : decode cL_runs 61 = .ok (.iastore, 1) := by decide +kernel
theorem dL_runs_62 : decode cL_runs 62 = .ok (.aload_n 1, 1) := by decide +kernel
theorem dL_runs_63 : decode cL_runs 63 = .ok (.bipush 14, 2) := by decide +kernel
theorem dL_runs_65 : decode cL_runs 65 = .ok (.iload 5, 2) := by decide +kernel
theorem dL_runs_67 : decode cL_runs 67 = .ok (.imul, 1) := by decide +kernel
theorem dL_runs_68 : decode cL_runs 68 = .ok (.bipush 11, 2) := by decide +kernel
theorem dL_runs_70 : decode cL_runs 70 = .ok (.iadd, 1) := by decide +kernel
theorem dL_runs_71 : decode cL_runs 71 = .ok (.dup2, 1) := by decide +kernel
theorem dL_runs_72 : decode cL_runs 72 = .ok (.iaload, 1) := by decide +kernel
theorem dL_runs_73 : decode cL_runs 73 = .ok (.iconst 1, 1) := by decide +kernel
theorem dL_runs_74 : decode cL_runs 74 = .ok (.iadd, 1) := by decide +kernel
theorem dL_runs_75 : decode cL_runs 75 = .ok (.iastore, 1) := by decide +kernel
theorem dL_runs_76 : decode cL_runs 76 = .ok (.aload_n 0, 1) := by decide +kernel
theorem dL_runs_77 : decode cL_runs 77 = .ok (.iconst 1, 1) := by decide +kernel
theorem dL_runs_78 : decode cL_runs 78 = .ok (.sipush 9000, 3) := by decide +kernel
theorem dL_runs_81 : decode cL_runs 81 = .ok (.invokestatic 43, 3) := by decide +kernel
theorem dL_runs_84 : decode cL_runs 84 = .ok (.aload_n 0, 1) := by decide +kernel
theorem dL_runs_85 : decode cL_runs 85 = .ok (.bipush 6, 2) := by decide +kernel
theorem dL_runs_87 : decode cL_runs 87 = .ok (.dup2, 1) := by decide +kernel
theorem dL_runs_88 : decode cL_runs 88 = .ok (.iaload, 1) := by decide +kernel
theorem dL_runs_89 : decode cL_runs 89 = .ok (.iconst 1, 1) := by decide +kernel
theorem dL_runs_90 : decode cL_runs 90 = .ok (.iadd, 1) := by decide +kernel
theorem dL_runs_91 : decode cL_runs 91 = .ok (.iastore, 1) := by decide +kernel
theorem dL_runs_92 : decode cL_runs 92 = .ok (.iload_n 3, 1) := by decide +kernel
theorem dL_runs_93 : decode cL_runs 93 = .ok (.aload_n 0, 1) := by decide +kernel
theorem dL_runs_94 : decode cL_runs 94 = .ok (.aload_n 1, 1) := by decide +kernel
theorem dL_runs_95 : decode cL_runs 95 = .ok (.invokestatic 73, 3) := by decide +kernel
theorem dL_runs_98 : decode cL_runs 98 = .ok (.iadd, 1) := by decide +kernel
theorem dL_runs_99 : decode cL_runs 99 = .ok (.istore_n 3, 1) := by decide +kernel
theorem dL_runs_100 : decode cL_runs 100 = .ok (.iinc 4 1, 3) := by decide +kernel
theorem dL_runs_103 : decode cL_runs 103 = .ok (.goto (-94), 3) := by decide +kernel
theorem dL_runs_106 : decode cL_runs 106 = .ok (.iload_n 3, 1) := by decide +kernel
theorem dL_runs_107 : decode cL_runs 107 = .ok (.ireturn, 1) := by decide +kernel
theorem dL_begins_0 : decode cL_begins 0 = .ok (.aload_n 0, 1) := by decide +kernel
theorem dL_begins_1 : decode cL_begins 1 = .ok (.iconst 0, 1) := by decide +kernel
theorem dL_begins_2 : decode cL_begins 2 = .ok (.bipush 100, 2) := by decide +kernel
theorem dL_begins_4 : decode cL_begins 4 = .ok (.iastore, 1) := by decide +kernel
theorem dL_begins_5 : decode cL_begins 5 = .ok (.aload_n 0, 1) := by decide +kernel
theorem dL_begins_6 : decode cL_begins 6 = .ok (.iconst 1, 1) := by decide +kernel
theorem dL_begins_7 : decode cL_begins 7 = .ok (.sipush 18000, 3) := by decide +kernel
theorem dL_begins_10 : decode cL_begins 10 = .ok (.iastore, 1) := by decide +kernel
theorem dL_begins_11 : decode cL_begins 11 = .ok (.aload_n 0, 1) := by decide +kernel
theorem dL_begins_12 : decode cL_begins 12 = .ok (.iconst 2, 1) := by decide +kernel
theorem dL_begins_13 : decode cL_begins 13 = .ok (.bipush 30, 2) := by decide +kernel
theorem dL_begins_15 : decode cL_begins 15 = .ok (.iastore, 1) := by decide +kernel
theorem dL_begins_16 : decode cL_begins 16 = .ok (.aload_n 0, 1) := by decide +kernel
theorem dL_begins_17 : decode cL_begins 17 = .ok (.iconst 3, 1) := by decide +kernel
theorem dL_begins_18 : decode cL_begins 18 = .ok (.bipush 60, 2) := by decide +kernel
theorem dL_begins_20 : decode cL_begins 20 = .ok (.iastore, 1) := by decide +kernel
theorem dL_begins_21 : decode cL_begins 21 = .ok (.aload_n 0, 1) := by decide +kernel
theorem dL_begins_22 : decode cL_begins 22 = .ok (.bipush 8, 2) := by decide +kernel
theorem dL_begins_24 : decode cL_begins 24 = .ok (.bipush 40, 2) := by decide +kernel
theorem dL_begins_26 : decode cL_begins 26 = .ok (.iastore, 1) := by decide +kernel
theorem dL_begins_27 : decode cL_begins 27 = .ok (.aload_n 0, 1) := by decide +kernel
theorem dL_begins_28 : decode cL_begins 28 = .ok (.bipush 10, 2) := by decide +kernel
theorem dL_begins_30 : decode cL_begins 30 = .ok (.sipush 600, 3) := by decide +kernel
theorem dL_begins_33 : decode cL_begins 33 = .ok (.iastore, 1) := by decide +kernel
theorem dL_begins_34 : decode cL_begins 34 = .ok (.aload_n 0, 1) := by decide +kernel
theorem dL_begins_35 : decode cL_begins 35 = .ok (.bipush 15, 2) := by decide +kernel
theorem dL_begins_37 : decode cL_begins 37 = .ok (.bipush 20, 2) := by decide +kernel
theorem dL_begins_39 : decode cL_begins 39 = .ok (.iastore, 1) := by decide +kernel
theorem dL_begins_40 : decode cL_begins 40 = .ok (.aload_n 0, 1) := by decide +kernel
theorem dL_begins_41 : decode cL_begins 41 = .ok (.bipush 17, 2) := by decide +kernel
theorem dL_begins_43 : decode cL_begins 43 = .ok (.sipush 300, 3) := by decide +kernel
theorem dL_begins_46 : decode cL_begins 46 = .ok (.iastore, 1) := by decide +kernel
theorem dL_begins_47 : decode cL_begins 47 = .ok (.aload_n 0, 1) := by decide +kernel
theorem dL_begins_48 : decode cL_begins 48 = .ok (.bipush 18, 2) := by decide +kernel
theorem dL_begins_50 : decode cL_begins 50 = .ok (.sipush 9000, 3) := by decide +kernel
theorem dL_begins_53 : decode cL_begins 53 = .ok (.iastore, 1) := by decide +kernel
theorem dL_begins_54 : decode cL_begins 54 = .ok (.return_, 1) := by decide +kernel
end
section
/-! THE WORLD: all cells of the class and of the reference, by region and cell, over a memory of whole numbers -/
abbrev dp_V : Type := Nat → Nat → Int
abbrev dp_M : Type := Nat → Nat → Nat → Int
abbrev dp_E : Type := va_G × (Nat → Nat → Nat) × (ClassId × ClassId × ClassId × ClassId) × (Nat × Nat × Nat × Nat)
abbrev eAd (E : dp_E) : Nat → Nat → Nat := E.2.1
abbrev eI (E : dp_E) : ClassId := E.2.2.1.1
abbrev eC (E : dp_E) : ClassId := E.2.2.1.2.1
abbrev eT (E : dp_E) : ClassId := E.2.2.1.2.2.1
abbrev eS (E : dp_E) : ClassId := E.2.2.1.2.2.2
abbrev z0 (E : dp_E) : Nat := E.2.2.2.1
abbrev z1 (E : dp_E) : Nat := E.2.2.2.2.1
abbrev z2 (E : dp_E) : Nat := E.2.2.2.2.2.1
abbrev z3 (E : dp_E) : Nat := E.2.2.2.2.2.2
/-! numbers -/
def dp_I (x : Int) : Int32 := Int32.ofInt x
def dp_R (x : Int) : Prop := -2147483648 ≤ x ∧ x < 2147483648
def dp_b (P : Prop) [Decidable P] : Int := if P then 1 else 0
theorem dp_I_add (x y : Int) : dp_I x + dp_I y = dp_I (x + y) := (Int32.ofInt_add x y).symm
theorem dp_I_sub (x y : Int) : dp_I x - dp_I y = dp_I (x - y) := (Int32.ofInt_sub x y).symm
theorem dp_I_mul (x y : Int) : dp_I x * dp_I y = dp_I (x * y) := (Int32.ofInt_mul x y).symm
theorem dp_I_neg (x : Int) : - dp_I x = dp_I (-x) := (Int32.ofInt_neg x).symm
theorem dp_I_toInt {x : Int} (h : dp_R x) : (dp_I x).toInt = x := Int32.toInt_ofInt_of_le (by have := h.1; omega) (by have := h.2; omega)
theorem dp_R_to (x : Int32) : dp_R x.toInt := ⟨by have := x.le_toInt; omega, by have := x.toInt_lt; omega⟩
theorem dp_I_of (x : Int32) : x = dp_I x.toInt := (Int32.ofInt_toInt x).symm
theorem dp_I_lt {x y : Int} (hx : dp_R x) (hy : dp_R y) : dp_I x < dp_I y ↔ x < y := by rw [Int32.lt_iff_toInt_lt, dp_I_toInt hx, dp_I_toInt hy]
theorem dp_I_le {x y : Int} (hx : dp_R x) (hy : dp_R y) : dp_I x ≤ dp_I y ↔ x ≤ y := by rw [Int32.le_iff_toInt_le, dp_I_toInt hx, dp_I_toInt hy]
theorem dp_I_eq {x y : Int} (hx : dp_R x) (hy : dp_R y) : dp_I x = dp_I y ↔ x = y := by rw [← Int32.toInt_inj, dp_I_toInt hx, dp_I_toInt hy]
theorem dp_I_z : (0 : Int32) = dp_I 0 := rfl
theorem dp_R0 : dp_R 0 := ⟨by decide, by decide⟩
theorem dp_I_nat {x : Int} (h : 0 ≤ x) (h2 : x < 2147483648) : (dp_I x).toNatClampNeg = x.toNat := Int32.toNatClampNeg_ofInt_of_le (by omega) (by omega)
theorem dp_in {x : Int} {n : Nat} (h0 : 0 ≤ x) (h1 : x < n) (hn : n < 2147483648) : vp_in (dp_I x) n := by
  intro h
  rcases h with h | h
  · rw [dp_I_z, dp_I_lt ⟨by omega, by omega⟩ dp_R0] at h
    omega
  · rw [dp_I_nat h0 (by omega)] at h
    omega
theorem dp_I_div {x y : Int} (h0 : 0 ≤ x) (h1 : x < 2147483648) (h2 : 0 < y) (h3 : y < 2147483648) : dp_I x / dp_I y = dp_I (x / y) := by
  have e : dp_I (x.tdiv y) = dp_I x / dp_I y := Int32.ofInt_tdiv (by show (-2147483648 : Int) ≤ x; omega) (by show x ≤ (2147483647 : Int); omega) (by show (-2147483648 : Int) ≤ y; omega) (by show y ≤ (2147483647 : Int); omega)
  rw [← e, Int.tdiv_eq_ediv_of_nonneg h0]
theorem dp_I_mod {x y : Int} (h0 : 0 ≤ x) (h1 : x < 2147483648) (h2 : 0 < y) (h3 : y < 2147483648) : dp_I x % dp_I y = dp_I (x % y) := by
  have e : dp_I (x.tmod y) = dp_I x % dp_I y := Int32.ofInt_tmod (by show (-2147483648 : Int) ≤ x; omega) (by show x ≤ (2147483647 : Int); omega) (by show (-2147483648 : Int) ≤ y; omega) (by show y ≤ (2147483647 : Int); omega)
  rw [← e, Int.tmod_eq_emod_of_nonneg h0]
/-! memory: a region put in place of another, a slot put -/
def dR (M : dp_M) (r : Nat) (V : dp_V) : dp_M := fun r' => if r' = r then V else M r'
def u1 (f : Nat → Int) (k : Nat) (x : Int) : Nat → Int := fun k' => if k' = k then x else f k'
def u2 (V : dp_V) (c k : Nat) (x : Int) : dp_V := fun c' => if c' = c then u1 (V c) k x else V c'
theorem dR_same (M : dp_M) (r : Nat) (V : dp_V) : dR M r V r = V := by simp [dR]
theorem dR_ne {M : dp_M} {r r' : Nat} {V : dp_V} (h : r' ≠ r) : dR M r V r' = M r' := by simp [dR, h]
theorem dR_dR (M : dp_M) (r : Nat) (V V' : dp_V) : dR (dR M r V) r V' = dR M r V' := by
  funext r'
  by_cases h : r' = r <;> simp [dR, h]
theorem dR_self (M : dp_M) (r : Nat) : dR M r (M r) = M := by
  funext r'
  by_cases h : r' = r <;> simp [dR, h]
theorem u1_same (f : Nat → Int) (k : Nat) (x : Int) : u1 f k x k = x := by simp [u1]
theorem u1_ne {f : Nat → Int} {k k' : Nat} {x : Int} (h : k' ≠ k) : u1 f k x k' = f k' := by simp [u1, h]
theorem u2_same (V : dp_V) (c k : Nat) (x : Int) : u2 V c k x c = u1 (V c) k x := by simp [u2]
theorem u2_ne {V : dp_V} {c c' k : Nat} {x : Int} (h : c' ≠ c) : u2 V c k x c' = V c' := by simp [u2, h]
/-- a state of the class: its region, and that of its ways -/
def dS (M : dp_M) (r : Nat) (V Y : dp_V) : dp_M := dR (dR M r V) (r + 20) Y
/-- the reference: its numbers, and what else it holds -/
def dN (M : dp_M) (V X : dp_V) : dp_M := dR (dR M 9 V) 8 X
theorem dS_V (M : dp_M) (r : Nat) (V Y : dp_V) : dS M r V Y r = V := by simp [dS, dR]
theorem dS_Y (M : dp_M) (r : Nat) (V Y : dp_V) : dS M r V Y (r + 20) = Y := by simp [dS, dR]
theorem dS_ne {M : dp_M} {r r' : Nat} {V Y : dp_V} (h : r' ≠ r) (h2 : r' ≠ r + 20) : dS M r V Y r' = M r' := by simp [dS, dR, h, h2]
theorem dS_self (M : dp_M) (r : Nat) : dS M r (M r) (M (r + 20)) = M := by
  funext r'
  unfold dS dR
  split
  · next h => rw [h]
  · split
    · next h => rw [h]
    · rfl
theorem dS_dS (M : dp_M) (r : Nat) (V Y V' Y' : dp_V) : dS (dS M r V Y) r V' Y' = dS M r V' Y' := by
  funext r'
  unfold dS dR
  repeat' split
  all_goals rfl
theorem dN_V (M : dp_M) (V X : dp_V) : dN M V X 9 = V := by simp [dN, dR]
theorem dN_X (M : dp_M) (V X : dp_V) : dN M V X 8 = X := by simp [dN, dR]
theorem dN_ne {M : dp_M} {r' : Nat} {V X : dp_V} (h : r' ≠ 9) (h2 : r' ≠ 8) : dN M V X r' = M r' := by simp [dN, dR, h, h2]
theorem dN_self (M : dp_M) : dN M (M 9) (M 8) = M := by
  funext r'
  unfold dN dR
  split
  · next h => rw [h]
  · split
    · next h => rw [h]
    · rfl
theorem dN_dN (M : dp_M) (V X V' X' : dp_V) : dN (dN M V X) V' X' = dN M V' X' := by
  funext r'
  unfold dN dR
  repeat' split
  all_goals rfl
/-! contents -/
def dp_f7 (f : Nat → Int) : List Value := [.int (dp_I (f 0)), .int (dp_I (f 1)), .int (dp_I (f 2)), .int (dp_I (f 3)), .int (dp_I (f 4)), .int (dp_I (f 5)), .int (dp_I (f 6))]
def dp_f14 (f : Nat → Int) : List Value := [.int (dp_I (f 0)), .int (dp_I (f 1)), .int (dp_I (f 2)), .int (dp_I (f 3)), .int (dp_I (f 4)), .int (dp_I (f 5)), .int (dp_I (f 6)), .int (dp_I (f 7)), .int (dp_I (f 8)), .int (dp_I (f 9)), .int (dp_I (f 10)), .int (dp_I (f 11)), .int (dp_I (f 12)), .int (dp_I (f 13))]
def axL (c : Nat) : Int := if c = 3 then -27000 else 500
def axH (c : Nat) : Int := if c = 3 then 27000 else 9000
def axS (c : Nat) : Int := if c = 3 then 0 else 9000
def dp_fA (c : Nat) (f : Nat → Int) : List Value := .int (dp_I (axL c)) :: .int (dp_I (axH c)) :: .int (dp_I (axS c)) :: dp_f7 f
def dp_fS (E : dp_E) (r : Nat) (f : Nat → Int) : List Value := [.int (dp_I (f 0)), .int (dp_I (f 1)), .int (dp_I (f 2)), .ref (eAd E r 1), .ref (eAd E r 2), .ref (eAd E r 3), .ref (eAd E r 4), .ref (eAd E r 5), .ref (eAd E r 16), .ref (eAd E r 17), .ref (eAd E r 18)]
def dp_fH (E : dp_E) (f : Nat → Int) : List Value := [.ref (eAd E 7 2), .int (dp_I (f 0))]
def dp_fX (E : dp_E) (f : Nat → Int) : List Value := [.ref (eAd E 7 4), .int (dp_I (f 0)), .ref (eAd E 7 5), .int (dp_I (f 1)), .int (dp_I (f 2)), .int (dp_I (f 3))]
def dp_fD (E : dp_E) : List Value := [.ref (eAd E 0 0), .ref (eAd E 1 0), .ref (eAd E 7 1), .ref (eAd E 7 3)]
/-- the law's row g of 55 numbers, the legs f last, and its row q of 56, out of a region -/
def dp_ce (i : Nat) : Nat := if i < 4 then 1 else if i < 8 then 0 else if i < 15 then 3 else if i < 22 then 4 else 2
def dp_sl (i : Nat) : Nat := if i < 4 then i else if i < 8 then i - 4 else if i < 15 then i - 8 else if i < 22 then i - 15 else i - 22
def gF (V : dp_V) (f : Nat → Int) (i : Nat) : Int := if i < 53 then V (dp_ce i) (dp_sl i) else f (i - 53)
def qF (V : dp_V) (i : Nat) : Int := V (i / 14 + 6) (i % 14)
theorem dp_ce5 (i : Nat) : dp_ce i < 5 := by
  unfold dp_ce
  repeat' split
  all_goals omega
theorem dp_cs_inj {i j : Nat} (hi : i < 53) (hj : j < 53) (h : dp_ce i = dp_ce j) (h2 : dp_sl i = dp_sl j) : i = j := by
  unfold dp_ce at h
  unfold dp_sl at h2
  repeat' split at h
  all_goals (simp only [*, if_true, if_false, ↓reduceIte] at h2; omega)
def dp_ints (k : ClassId) (n : Nat) (f : Nat → Int) : va_E := .inl (k, n, .inl (fun i => dp_I (f i)))
def dp_refs (k : ClassId) (n : Nat) (f : Nat → Nat) : va_E := .inl (k, n, .inr (.inr (.inr (.inr (fun i => some (f i))))))
def dp_xS (E : dp_E) (V Y : dp_V) (r : Nat) (c : Nat) : va_E := match c with
  | 0 => .inr (2, dp_fS E r (V 0))
  | 1 => dp_ints (eI E) 4 (V 1)
  | 2 => dp_ints (eI E) 31 (V 2)
  | 3 => .inr (0, dp_fA 3 (V 3))
  | 4 => .inr (0, dp_fA 4 (V 4))
  | 5 => dp_refs (eT E) 10 (fun t => eAd E r (t + 6))
  | t + 6 => if t < 10 then .inr (3, dp_f14 (V (t + 6))) else .inr (5, dp_f7 (Y (t + 6)))
def dp_xC (E : dp_E) (M : dp_M) (c : Nat) : va_E := match c with
  | 0 => .inr (6, dp_fD E)
  | 1 => .inr (1, dp_fH E (M 7 1))
  | 2 => dp_refs (eS E) 5 (fun i => eAd E (M 7 2 i).toNat 0)
  | 3 => .inr (4, dp_fX E (M 7 3))
  | 4 => dp_ints (eC E) 100 (M 7 4)
  | _ => dp_ints (eI E) 6 (M 7 5)
def dp_xM (E : dp_E) (M : dp_M) (c : Nat) : va_E := match c with
  | 0 => dp_ints (eI E) 55 (gF (M 9) (M 8 0))
  | 1 => dp_ints (eI E) 56 (qF (M 9))
  | _ => dp_ints (eI E) 4 (M 8 2)
def dp_x (E : dp_E) (M : dp_M) (r c : Nat) : va_E := if r < 7 then dp_xS E (M r) (M (r + 20)) r c else if r = 7 then dp_xC E M c else dp_xM E M c
def dp_pb : List (Nat × Nat) := (List.range 7).flatMap (fun r => (List.range 19).map (fun c => (r, c))) ++ ((List.range 6).map (fun c => (7, c)) ++ (List.range 2).map (fun c => (8, c)))
def dp_pn : List (Nat × Nat) := (List.range 7).flatMap (fun r => (List.range 19).map (fun c => (r, c))) ++ ((List.range 6).map (fun c => (7, c)) ++ (List.range 3).map (fun c => (8, c)))
def dp_ps (E : dp_E) : List (Nat × Nat) := if eAd E 9 0 = 0 then dp_pb else dp_pn
theorem dp_memk {r c k : Nat} : (r, c) ∈ (List.range 7).flatMap (fun r => (List.range 19).map (fun c => (r, c))) ++ ((List.range 6).map (fun c => (7, c)) ++ (List.range k).map (fun c => (8, c))) ↔ (r < 7 ∧ c < 19) ∨ (r = 7 ∧ c < 6) ∨ (r = 8 ∧ c < k) := by
  simp only [List.mem_append, List.mem_flatMap, List.mem_map, List.mem_range, Prod.mk.injEq]
  constructor
  · rintro (⟨a, ha, b, hb, rfl, rfl⟩ | ⟨b, hb, rfl, rfl⟩ | ⟨b, hb, rfl, rfl⟩)
    · exact Or.inl ⟨ha, hb⟩
    · exact Or.inr (Or.inl ⟨rfl, hb⟩)
    · exact Or.inr (Or.inr ⟨rfl, hb⟩)
  · rintro (⟨h1, h2⟩ | ⟨rfl, h2⟩ | ⟨rfl, h2⟩)
    · exact Or.inl ⟨r, h1, c, h2, rfl, rfl⟩
    · exact Or.inr (Or.inl ⟨c, h2, rfl, rfl⟩)
    · exact Or.inr (Or.inr ⟨c, h2, rfl, rfl⟩)
theorem dp_mem {E : dp_E} {r c : Nat} : (r, c) ∈ dp_ps E ↔ (r < 7 ∧ c < 19) ∨ (r = 7 ∧ c < 6) ∨ (r = 8 ∧ c < 3 ∧ (c = 2 → ¬ eAd E 9 0 = 0)) := by
  unfold dp_ps
  split
  · next h =>
    refine dp_memk.trans ⟨fun q => ?_, fun q => ?_⟩
    · rcases q with q | q | q
      · exact Or.inl q
      · exact Or.inr (Or.inl q)
      · exact Or.inr (Or.inr ⟨q.1, by omega, fun z => by omega⟩)
    · rcases q with q | q | q
      · exact Or.inl q
      · exact Or.inr (Or.inl q)
      · refine Or.inr (Or.inr ⟨q.1, ?_⟩)
        rcases (by omega : c < 2 ∨ c = 2) with z | z
        · exact z
        · exact absurd h (q.2.2 z)
  · next h =>
    refine dp_memk.trans ⟨fun q => ?_, fun q => ?_⟩
    · rcases q with q | q | q
      · exact Or.inl q
      · exact Or.inr (Or.inl q)
      · exact Or.inr (Or.inr ⟨q.1, q.2, fun _ => h⟩)
    · rcases q with q | q | q
      · exact Or.inl q
      · exact Or.inr (Or.inl q)
      · exact Or.inr (Or.inr ⟨q.1, q.2.1⟩)
theorem dp_nodup {E : dp_E} : (dp_ps E).Nodup := by
  unfold dp_ps
  split
  · decide +kernel
  · decide +kernel
theorem dp_mS {E : dp_E} {r c : Nat} (h : r < 7) (hc : c < 19) : (r, c) ∈ dp_ps E := dp_mem.mpr (Or.inl ⟨h, hc⟩)
theorem dp_mC {E : dp_E} {c : Nat} (hc : c < 6) : (7, c) ∈ dp_ps E := dp_mem.mpr (Or.inr (Or.inl ⟨rfl, hc⟩))
theorem dp_mM {E : dp_E} {c : Nat} (hc : c < 2) : (8, c) ∈ dp_ps E := dp_mem.mpr (Or.inr (Or.inr ⟨rfl, by omega, fun z => by omega⟩))
theorem dp_m2 {E : dp_E} (h : ¬ eAd E 9 0 = 0) : (8, 2) ∈ dp_ps E := dp_mem.mpr (Or.inr (Or.inr ⟨rfl, by omega, fun _ => h⟩))
def dp_W (E : dp_E) (M : dp_M) (H : Heap) : Prop := ∀ r c, (r, c) ∈ dp_ps E → va_at E.1 vwCl (eAd E r c, dp_x E M r c) H
def dp_ws (E : dp_E) (M : dp_M) : va_W := (dp_ps E).map (fun q => (eAd E q.1 q.2, dp_x E M q.1 q.2))
def dp_A (E : dp_E) : Nat → Prop := fun q => ∃ r c, (r, c) ∈ dp_ps E ∧ q = eAd E r c
def dp_OK (E : dp_E) : Prop := ∀ r c r' c', (r, c) ∈ dp_ps E → (r', c') ∈ dp_ps E → eAd E r c = eAd E r' c' → r = r' ∧ c = c'
theorem dp_ws_at {E : dp_E} {M : dp_M} {k r c : Nat} (h : (dp_ps E)[k]? = some (r, c)) : (dp_ws E M)[k]? = some (eAd E r c, dp_x E M r c) := by
  rw [dp_ws, List.getElem?_map, h]
  rfl
theorem dp_ws_of {E : dp_E} {M : dp_M} {k : Nat} {q : Nat × va_E} (h : (dp_ws E M)[k]? = some q) : ∃ r c, (dp_ps E)[k]? = some (r, c) ∧ q = (eAd E r c, dp_x E M r c) := by
  rw [dp_ws, List.getElem?_map] at h
  cases hk : (dp_ps E)[k]? with
  | none => rw [hk] at h; cases h
  | some rc =>
    rw [hk] at h
    cases h
    exact ⟨rc.1, rc.2, rfl, rfl⟩
theorem dp_W.P {E : dp_E} {M : dp_M} {H : Heap} (h : dp_W E M H) : va_P E.1 vwCl (dp_ws E M) H := by
  intro k q hq
  obtain ⟨r, c, h1, rfl⟩ := dp_ws_of hq
  exact h r c (List.mem_of_getElem? h1)
theorem dp_D {E : dp_E} {M : dp_M} {A : Nat → Prop} (hok : dp_OK E) (hA : ∀ q, dp_A E q → A q) : va_D A (dp_ws E M) := by
  refine ⟨fun i j p q hi hj he => ?_, fun k q hk => ?_⟩
  · obtain ⟨r, c, h1, rfl⟩ := dp_ws_of hi
    obtain ⟨r', c', h2, rfl⟩ := dp_ws_of hj
    obtain ⟨rfl, rfl⟩ := hok r c r' c' (List.mem_of_getElem? h1) (List.mem_of_getElem? h2) he
    exact (List.getElem?_inj (List.getElem?_eq_some_iff.mp h1).1 dp_nodup).mp (h1.trans h2.symm)
  · obtain ⟨r, c, h1, rfl⟩ := dp_ws_of hk
    exact hA _ ⟨r, c, List.mem_of_getElem? h1, rfl⟩
theorem dp_W.of_set {E : dp_E} {M M' : dp_M} {H : Heap} {r c q0 : Nat} {x : va_E} (hq : (dp_ps E)[q0]? = some (r, c)) (hP : va_P E.1 vwCl ((dp_ws E M).set q0 (eAd E r c, x)) H) (hx : dp_x E M' r c = x) (hf : ∀ r' c', (r', c') ∈ dp_ps E → (r', c') ≠ (r, c) → dp_x E M' r' c' = dp_x E M r' c') : dp_W E M' H := by
  intro r' c' hm
  have hl : q0 < (dp_ws E M).length := (List.getElem?_eq_some_iff.mp (dp_ws_at (E := E) (M := M) hq)).1
  by_cases he : (r', c') = (r, c)
  · cases he
    rw [hx]
    exact hP q0 _ (List.getElem?_set_self hl)
  · obtain ⟨q1, h1⟩ := List.getElem?_of_mem hm
    rw [hf r' c' hm he]
    refine hP q1 _ ?_
    rw [List.getElem?_set_ne (fun e => he (by rw [e, h1] at hq; exact Option.some.inj hq))]
    exact dp_ws_at h1
/-- the same cells: another memory of which the cells hold the same -/
theorem dp_W.eqv {E : dp_E} {M M' : dp_M} {H : Heap} (h : dp_W E M H) (he : ∀ r c, (r, c) ∈ dp_ps E → dp_x E M r c = dp_x E M' r c ∨ ∀ H : Heap, va_at E.1 vwCl (eAd E r c, dp_x E M r c) H → va_at E.1 vwCl (eAd E r c, dp_x E M' r c) H) : dp_W E M' H := by
  intro r c hm
  rcases he r c hm with q | q
  · rw [← q]; exact h r c hm
  · exact q H (h r c hm)
theorem dp_arr {k : ClassId} {n : Nat} {f g : Nat → Value} (h : ∀ i, i < n → f i = g i) : arrV k n f = arrV k n g := by
  unfold arrV
  have e : (fun j : Fin n => f j.val) = fun j : Fin n => g j.val := funext fun j => h j.1 j.2
  rw [e]
theorem dp_at_ints {D : va_G} {cl : List vw_C} {a : Nat} {k : ClassId} {n : Nat} {f g : Nat → Int} {H : Heap} (hfg : ∀ i, i < n → f i = g i) (h : va_at D cl (a, dp_ints k n f) H) : va_at D cl (a, dp_ints k n g) H := by
  have e : vp_cell k (n, .inl (fun i => dp_I (f i))) = vp_cell k (n, .inl (fun i => dp_I (g i))) := by
    rw [vp_cell_i, vp_cell_i]
    exact dp_arr (fun i hi => by rw [hfg i hi])
  exact h.trans (congrArg some e)
theorem dp_x_S {E : dp_E} {M : dp_M} {r c : Nat} (h : r < 7) : dp_x E M r c = dp_xS E (M r) (M (r + 20)) r c := if_pos h
theorem dp_x_C {E : dp_E} {M : dp_M} {c : Nat} : dp_x E M 7 c = dp_xC E M c := rfl
theorem dp_x_M {E : dp_E} {M : dp_M} {c : Nat} : dp_x E M 8 c = dp_xM E M c := rfl
end
section
/-! THE JUDGEMENT: at pc with locals L and stack st, over the memory M, the machine comes to Q; a rule an instruction -/
def dp_sm (i : Nat) : Int := match i with
  | 0 => 500
  | 1 => 27000
  | _ => 100
def dp_al (i : Nat) : Int := match i with
  | 2 => 1
  | _ => 0
def dp_am (i : Nat) : Int := match i with
  | 0 => 300
  | 1 => 2
  | _ => 2000
def dp_ty (E : dp_E) : List (ClassId × FieldType) := [(eI E, .int), (eC E, .char), (eT E, .object "DishPointer$Target"), (eS E, .object "DishPointer$State")]
def dp_K (E : dp_E) (U : State) : Prop := va_K E.1 vwCl (dp_ty E) U
def dp_Z1 (A : Nat → Prop) (n d : String) (ty : FieldType) (t N : Nat) (f : Nat → Int) (U : State) (H : Heap) : Prop := va_Z "DishPointer" n d (.ref t) A U H ∧ va_T ty t N (fun j => .int (dp_I (f j))) A U H
def dp_N (U : State) : Prop := va_Nw (.methodLinkNest RX6 28 yX4_init "DishPointer") U ∧ va_Nw (.methodLinkNest RX2 38 yX5_init "DishPointer") U ∧ va_Nw (.methodLinkNest RX2 49 yX3_init "DishPointer") U
theorem dp_N.same {u U : State} (h : u.vm = U.vm) (hN : dp_N u) : dp_N U := ⟨hN.1.same rfl h, hN.2.1.same rfl h, hN.2.2.same rfl h⟩
theorem dp_N.warm {s U : State} (hW : s.WarmedH U.vm) (hN : dp_N s) : dp_N U := ⟨va_Nw.warmM hW hN.1, va_Nw.warmM hW hN.2.1, va_Nw.warmM hW hN.2.2⟩
def dp_Z (E : dp_E) (A : Nat → Prop) (U : State) (H : Heap) : Prop := dp_Z1 A "SETTING_MOST" "[I" .int (z0 E) 4 dp_sm U H ∧ dp_Z1 A "AXIS_LEAST" "[I" .int (z1 E) 3 dp_al U H ∧ dp_Z1 A "AXIS_MOST" "[I" .int (z2 E) 3 dp_am U H ∧ dp_N U
theorem dp_Z1.mv {A B : Nat → Prop} {n d : String} {ty : FieldType} {t N : Nat} {f : Nat → Int} {u U : State} {H H1 : Heap} (h : dp_Z1 A n d ty t N f u H) (hvm : u.vm.Alike U.vm) (hq : ∀ a : Nat, a < H.size → ¬ A a → H1[a]? = H[a]?) (hAB : ∀ q, B q → A q) : dp_Z1 B n d ty t N f U H1 := ⟨((h.1.moved hvm).kept hq).narrow hAB, ((h.2.moved hvm).kept hq).narrow hAB⟩
theorem dp_Z.mv {E : dp_E} {A B : Nat → Prop} {u U : State} {H H1 : Heap} (h : dp_Z E A u H) (hvm : u.vm.Alike U.vm) (hN : dp_N u → dp_N U) (hq : ∀ a : Nat, a < H.size → ¬ A a → H1[a]? = H[a]?) (hAB : ∀ q, B q → A q) : dp_Z E B U H1 := ⟨h.1.mv hvm hq hAB, h.2.1.mv hvm hq hAB, h.2.2.1.mv hvm hq hAB, hN h.2.2.2⟩
def dp_B (E : dp_E) (M : dp_M) (U : State) : Prop := dp_W E M U.heap ∧ dp_K E U ∧ dp_Z E (dp_A E) U U.heap
theorem dp_B.calling {E : dp_E} {M : dp_M} {U : State} (h : dp_B E M U) (g : JFrame) (mk : MethodId) (a : Array Value) : dp_B E M (U.calling g mk a) := ⟨h.1, va_K.moved (u := U) (U := U.calling g mk a) (Vm.Alike.refl U.vm) h.2.1, dp_Z.mv (u := U) (U := U.calling g mk a) h.2.2 (Vm.Alike.refl U.vm) (fun q => q.same rfl) (fun _ _ _ => rfl) (fun _ h => h)⟩
/-- the locals: at most one value each; a long has the slot behind it -/
def dp_L (ls : Array Slot) (L : List (Option Value)) : Prop := ls.size = L.length ∧ lv_wf ls ∧ ∀ (i : Nat) (v : Value), L[i]? = some (some v) → ls[i]? = some (.val v)
/-- no value of two slots lies ahead of i -/
def dp_c1 (o : Option (Option Value)) : Bool := match o with
  | some (some (.int _)) => true
  | some (some (.ref _)) => true
  | some none => true
  | none => true
  | _ => false
def dp_nl (L : List (Option Value)) (i : Nat) : Bool := match i with
  | 0 => true
  | i + 1 => dp_c1 (L[i]?)
theorem dp_nl1 {L : List (Option Value)} {i j : Nat} {v : Value} (h : dp_nl L i = true) (hj : L[j]? = some (some v)) (e : j + 1 = i) : v.category = 1 := by
  subst e
  have h2 : dp_c1 (L[j]?) = true := h
  rw [hj] at h2
  cases v <;> first | rfl | cases h2
theorem dp_L.ix {ls : Array Slot} {L : List (Option Value)} (h : dp_L ls L) {i : Nat} {v : Value} (hi : L[i]? = some (some v)) : ls[i]? = some (.val v) := h.2.2 i v hi
theorem dp_L.has {ls : Array Slot} {L : List (Option Value)} (h : dp_L ls L) (l : List (Nat × Value)) (hl : ∀ q ∈ l, L[q.1]? = some (some q.2)) : lv_has ls L.length l := ⟨h.1, h.2.1, fun q hq => h.2.2 q.1 q.2 (hl q hq)⟩
def dp_en (L : List (Option Value)) : List (Nat × Value) := (List.range L.length).filterMap (fun i => match L[i]? with
  | some (some v) => some (i, v)
  | _ => none)
theorem dp_en_mem {L : List (Option Value)} {i : Nat} {v : Value} : (i, v) ∈ dp_en L ↔ L[i]? = some (some v) := by
  unfold dp_en
  rw [List.mem_filterMap]
  constructor
  · rintro ⟨j, -, hj⟩
    cases h : L[j]? with
    | none => rw [h] at hj; cases hj
    | some o =>
      cases o with
      | none => rw [h] at hj; cases hj
      | some w =>
        rw [h] at hj
        cases hj
        exact h
  · intro h
    exact ⟨i, List.mem_range.mpr (List.getElem?_eq_some_iff.mp h).1, by rw [h]⟩
theorem dp_L.put {ls ls' : Array Slot} {L : List (Option Value)} (h : dp_L ls L) {i : Nat} {v : Value} (hi : i < L.length) (hnl : dp_nl L i = true) (h' : lv_has ls' L.length ((i, v) :: (dp_en L).filter (fun q => !(q.1 == i) && !(q.1 + 1 == i && q.2.category == 2)))) : dp_L ls' (L.set i (some v)) := by
  refine ⟨by rw [h'.1, List.length_set], h'.2.1, fun j w hj => ?_⟩
  by_cases e : j = i
  · subst e
    rw [List.getElem?_set_self hi] at hj
    cases hj
    exact h'.2.2 (j, _) List.mem_cons_self
  · rw [List.getElem?_set_ne (Ne.symm e)] at hj
    refine h'.2.2 (j, w) (List.mem_cons_of_mem _ (List.mem_filter.mpr ⟨dp_en_mem.mpr hj, ?_⟩))
    by_cases q : j + 1 = i
    · simp [e, dp_nl1 hnl hj q]
    · simp [e, q]
theorem dp_L.putl {ls ls' : Array Slot} {L : List (Option Value)} (h : dp_L ls L) {i : Nat} {v : Value} (hi : i + 1 < L.length) (hnl : dp_nl L i = true) (h' : lv_has ls' L.length ((i, v) :: (dp_en L).filter (fun q => !(q.1 == i) && (!(q.1 == i + 1) && !(q.1 + 1 == i && q.2.category == 2))))) : dp_L ls' ((L.set i (some v)).set (i + 1) none) := by
  refine ⟨by rw [h'.1, List.length_set, List.length_set], h'.2.1, fun j w hj => ?_⟩
  by_cases e : j = i + 1
  · subst e
    rw [List.getElem?_set_self (by rw [List.length_set]; exact hi)] at hj
    cases hj
  · rw [List.getElem?_set_ne (Ne.symm e)] at hj
    by_cases e1 : j = i
    · subst e1
      rw [List.getElem?_set_self (by omega)] at hj
      cases hj
      exact h'.2.2 (j, _) List.mem_cons_self
    · rw [List.getElem?_set_ne (Ne.symm e1)] at hj
      refine h'.2.2 (j, w) (List.mem_cons_of_mem _ (List.mem_filter.mpr ⟨dp_en_mem.mpr hj, ?_⟩))
      by_cases q : j + 1 = i
      · simp [e, e1, dp_nl1 hnl hj q]
      · simp [e, e1, q]
def dp_C (E : dp_E) (A : Nat → Prop) (p : Program) (s : State) (m : MethodId) (args : Array Value) (meth : Method) (co : Code) (cc : ByteArray) (own : String) (nL : Nat) (Ts : List Cond) : Prop := CallFix p m co cc nL s args Ts own ∧ meth.locks = false ∧ dp_OK E ∧ (∀ q, dp_A E q → A q) ∧ dp_K E s ∧ dp_Z E A s s.heap
def dp_G (E : dp_E) (A : Nat → Prop) (p : Program) (l : Launch) (e : Env) (R : Room) (s : State) (m : MethodId) (args : Array Value) (below : List Frame) (meth : Method) (co : Code) (ce sl : Nat) (Q : State → Prop) (M : dp_M) (pc : Nat) (L : List (Option Value)) (st : List Value) : Prop :=
  ∀ (H : Heap) (locs : List Loc) (ls : Array Slot), dp_W E M H → va_S A s.heap H locs → dp_L ls L → W p l e R s m args below meth co H locs ce sl Q (F0 m pc ls st)
section DG
variable {E : dp_E} {A : Nat → Prop} {p : Program} {l : Launch} {e : Env} {R : Room} {s : State} {m : MethodId} {args : Array Value} {below : List Frame} {meth : Method} {co : Code} {ce sl : Nat} {Q : State → Prop} {cc : ByteArray} {own : String} {nL : Nat} {Ts : List Cond} {M : dp_M} {pc : Nat} {L : List (Option Value)} {st : List Value}
theorem dp_iconst (C : dp_C E A p s m args meth co cc own nL Ts) {n : Int} (hd : decode cc pc = .ok (.iconst n, 1)) (k : dp_G E A p l e R s m args below meth co ce sl Q M (pc + 1) L (.int (dp_I n) :: st)) : dp_G E A p l e R s m args below meth co ce sl Q M pc L (st) := fun H locs ls hW hS hL => lv_iconst C.1.1 C.1.2.1 hd rfl (k H locs ls hW hS hL)
theorem dp_bipush (C : dp_C E A p s m args meth co cc own nL Ts) {n : Int} (hd : decode cc pc = .ok (.bipush n, 2)) (hv : (Int8.ofInt n).toInt32 = dp_I n) (k : dp_G E A p l e R s m args below meth co ce sl Q M (pc + 2) L (.int (dp_I n) :: st)) : dp_G E A p l e R s m args below meth co ce sl Q M pc L (st) := fun H locs ls hW hS hL => lv_bipush C.1.1 C.1.2.1 hd hv (k H locs ls hW hS hL)
theorem dp_sipush (C : dp_C E A p s m args meth co cc own nL Ts) {n : Int} (hd : decode cc pc = .ok (.sipush n, 3)) (hv : (Int16.ofInt n).toInt32 = dp_I n) (k : dp_G E A p l e R s m args below meth co ce sl Q M (pc + 3) L (.int (dp_I n) :: st)) : dp_G E A p l e R s m args below meth co ce sl Q M pc L (st) := fun H locs ls hW hS hL => lv_sipush C.1.1 C.1.2.1 hd hv (k H locs ls hW hS hL)
theorem dp_ldc (C : dp_C E A p s m args meth co cc own nL Ts) {i : Nat} {v : Int32} (n : Int) (hc : Cond.constant own i v ∈ Ts) (hv : v = dp_I n) (hd : decode cc pc = .ok (.ldc i, 2)) (k : dp_G E A p l e R s m args below meth co ce sl Q M (pc + 2) L (.int (dp_I n) :: st)) : dp_G E A p l e R s m args below meth co ce sl Q M pc L (st) := fun H locs ls hW hS hL => lv_ldc C.1.1 C.1.2.1 C.1.2.2.2.1 (by rw [← hv]; exact C.1.2.2.2.2 _ hc) hd (k H locs ls hW hS hL)
theorem dp_iload_n (C : dp_C E A p s m args meth co cc own nL Ts) {i : Fin 4} {x : Int32} (hd : decode cc pc = .ok (.iload_n i, 1)) (hl : L[(i : Nat)]? = some (some (.int x))) (k : dp_G E A p l e R s m args below meth co ce sl Q M (pc + 1) L (.int x :: st)) : dp_G E A p l e R s m args below meth co ce sl Q M pc L (st) := fun H locs ls hW hS hL => lv_iload_n C.1.1 C.1.2.1 hd rfl (hL.ix hl) (k H locs ls hW hS hL)
theorem dp_iload (C : dp_C E A p s m args meth co cc own nL Ts) {i : Nat} {x : Int32} (hd : decode cc pc = .ok (.iload i, 2)) (hl : L[i]? = some (some (.int x))) (k : dp_G E A p l e R s m args below meth co ce sl Q M (pc + 2) L (.int x :: st)) : dp_G E A p l e R s m args below meth co ce sl Q M pc L (st) := fun H locs ls hW hS hL => lv_iload C.1.1 C.1.2.1 hd (hL.ix hl) (k H locs ls hW hS hL)
theorem dp_aload_n (C : dp_C E A p s m args meth co cc own nL Ts) {i : Fin 4} {x : Nat} (hd : decode cc pc = .ok (.aload_n i, 1)) (hl : L[(i : Nat)]? = some (some (.ref x))) (k : dp_G E A p l e R s m args below meth co ce sl Q M (pc + 1) L (.ref x :: st)) : dp_G E A p l e R s m args below meth co ce sl Q M pc L (st) := fun H locs ls hW hS hL => lv_aload_n C.1.1 C.1.2.1 hd rfl (hL.ix hl) (k H locs ls hW hS hL)
theorem dp_aload (C : dp_C E A p s m args meth co cc own nL Ts) {i : Nat} {x : Nat} (hd : decode cc pc = .ok (.aload i, 2)) (hl : L[i]? = some (some (.ref x))) (k : dp_G E A p l e R s m args below meth co ce sl Q M (pc + 2) L (.ref x :: st)) : dp_G E A p l e R s m args below meth co ce sl Q M pc L (st) := fun H locs ls hW hS hL => lv_aload C.1.1 C.1.2.1 hd (hL.ix hl) (k H locs ls hW hS hL)
theorem dp_iadd (C : dp_C E A p s m args meth co cc own nL Ts) {x y : Int} (hd : decode cc pc = .ok (.iadd, 1)) (k : dp_G E A p l e R s m args below meth co ce sl Q M (pc + 1) L (.int (dp_I (x + y)) :: st)) : dp_G E A p l e R s m args below meth co ce sl Q M pc L (.int (dp_I y) :: .int (dp_I x) :: st) := fun H locs ls hW hS hL => lv_iadd C.1.1 C.1.2.1 hd (by rw [dp_I_add]; exact k H locs ls hW hS hL)
theorem dp_isub (C : dp_C E A p s m args meth co cc own nL Ts) {x y : Int} (hd : decode cc pc = .ok (.isub, 1)) (k : dp_G E A p l e R s m args below meth co ce sl Q M (pc + 1) L (.int (dp_I (x - y)) :: st)) : dp_G E A p l e R s m args below meth co ce sl Q M pc L (.int (dp_I y) :: .int (dp_I x) :: st) := fun H locs ls hW hS hL => lv_isub C.1.1 C.1.2.1 hd (by rw [dp_I_sub]; exact k H locs ls hW hS hL)
theorem dp_imul (C : dp_C E A p s m args meth co cc own nL Ts) {x y : Int} (hd : decode cc pc = .ok (.imul, 1)) (k : dp_G E A p l e R s m args below meth co ce sl Q M (pc + 1) L (.int (dp_I (x * y)) :: st)) : dp_G E A p l e R s m args below meth co ce sl Q M pc L (.int (dp_I y) :: .int (dp_I x) :: st) := fun H locs ls hW hS hL => lv_imul C.1.1 C.1.2.1 hd (by rw [dp_I_mul]; exact k H locs ls hW hS hL)
theorem dp_ineg (C : dp_C E A p s m args meth co cc own nL Ts) {x : Int} (hd : decode cc pc = .ok (.ineg, 1)) (k : dp_G E A p l e R s m args below meth co ce sl Q M (pc + 1) L (.int (dp_I (-x)) :: st)) : dp_G E A p l e R s m args below meth co ce sl Q M pc L (.int (dp_I x) :: st) := fun H locs ls hW hS hL => lv_ineg C.1.1 C.1.2.1 hd (by rw [dp_I_neg]; exact k H locs ls hW hS hL)
theorem dp_idiv (C : dp_C E A p s m args meth co cc own nL Ts) {x y : Int} (h : 0 ≤ x ∧ x < 2147483648 ∧ 0 < y ∧ y < 2147483648) (hd : decode cc pc = .ok (.idiv, 1)) (k : dp_G E A p l e R s m args below meth co ce sl Q M (pc + 1) L (.int (dp_I (x / y)) :: st)) : dp_G E A p l e R s m args below meth co ce sl Q M pc L (.int (dp_I y) :: .int (dp_I x) :: st) := fun H locs ls hW hS hL => lv_idiv C.1.1 C.1.2.1 hd (fun q => by rw [dp_I_z, dp_I_eq ⟨by omega, by omega⟩ dp_R0] at q; omega) (by rw [dp_I_div h.1 h.2.1 h.2.2.1 h.2.2.2]; exact k H locs ls hW hS hL)
theorem dp_irem (C : dp_C E A p s m args meth co cc own nL Ts) {x y : Int} (h : 0 ≤ x ∧ x < 2147483648 ∧ 0 < y ∧ y < 2147483648) (hd : decode cc pc = .ok (.irem, 1)) (k : dp_G E A p l e R s m args below meth co ce sl Q M (pc + 1) L (.int (dp_I (x % y)) :: st)) : dp_G E A p l e R s m args below meth co ce sl Q M pc L (.int (dp_I y) :: .int (dp_I x) :: st) := fun H locs ls hW hS hL => lv_irem C.1.1 C.1.2.1 hd (fun q => by rw [dp_I_z, dp_I_eq ⟨by omega, by omega⟩ dp_R0] at q; omega) (by rw [dp_I_div h.1 h.2.1 h.2.2.1 h.2.2.2, dp_I_mul, dp_I_sub, show x - x / y * y = x % y by rw [Int.emod_def, Int.mul_comm]]; exact k H locs ls hW hS hL)
theorem dp_dup (C : dp_C E A p s m args meth co cc own nL Ts) {v : Value} (hd : decode cc pc = .ok (.dup, 1)) (hv : v.category = 1) (k : dp_G E A p l e R s m args below meth co ce sl Q M (pc + 1) L (v :: v :: st)) : dp_G E A p l e R s m args below meth co ce sl Q M pc L (v :: st) := fun H locs ls hW hS hL => lv_dup C.1.1 C.1.2.1 hd hv (k H locs ls hW hS hL)
theorem dp_dup2 (C : dp_C E A p s m args meth co cc own nL Ts) {v u : Value} (hd : decode cc pc = .ok (.dup2, 1)) (hv : v.category = 1) (hu : u.category = 1) (k : dp_G E A p l e R s m args below meth co ce sl Q M (pc + 1) L (v :: u :: v :: u :: st)) : dp_G E A p l e R s m args below meth co ce sl Q M pc L (v :: u :: st) := fun H locs ls hW hS hL => lv_dup2_11 C.1.1 C.1.2.1 hd hv hu (k H locs ls hW hS hL)
theorem dp_pop (C : dp_C E A p s m args meth co cc own nL Ts) {v : Value} (hd : decode cc pc = .ok (.pop, 1)) (hv : v.category = 1) (k : dp_G E A p l e R s m args below meth co ce sl Q M (pc + 1) L (st)) : dp_G E A p l e R s m args below meth co ce sl Q M pc L (v :: st) := fun H locs ls hW hS hL => lv_pop C.1.1 C.1.2.1 hd hv (k H locs ls hW hS hL)
theorem dp_goto (C : dp_C E A p s m args meth co cc own nL Ts) {off : Int} {tgt : Nat} (hd : decode cc pc = .ok (.goto off, 3)) (ht : (pc : Int) + off = (tgt : Int)) (k : dp_G E A p l e R s m args below meth co ce sl Q M tgt L st) : dp_G E A p l e R s m args below meth co ce sl Q M pc L st := fun H locs ls hW hS hL => lv_goto C.1.1 C.1.2.1 hd ht (k H locs ls hW hS hL)
theorem dp_istore_n (C : dp_C E A p s m args meth co cc own nL Ts) {i : Fin 4} {x : Int32} (hd : decode cc pc = .ok (.istore_n i, 1)) (hi : (i : Nat) < L.length) (k : dp_G E A p l e R s m args below meth co ce sl Q M (pc + 1) (L.set (i : Nat) (some (.int x))) st) (hnl : dp_nl L (i : Nat) = true := by rfl) : dp_G E A p l e R s m args below meth co ce sl Q M pc L (.int x :: st) := fun H locs ls hW hS hL => lv_istore_n C.1.1 C.1.2.1 hd rfl (hL.has (dp_en L) (fun q hq => dp_en_mem.mp hq)) hi rfl (fun ls1 h1 => k H locs ls1 hW hS (hL.put hi hnl h1))
theorem dp_istore (C : dp_C E A p s m args meth co cc own nL Ts) {i : Nat} {x : Int32} (hd : decode cc pc = .ok (.istore i, 2)) (hi : i < L.length) (k : dp_G E A p l e R s m args below meth co ce sl Q M (pc + 2) (L.set i (some (.int x))) st) (hnl : dp_nl L i = true := by rfl) : dp_G E A p l e R s m args below meth co ce sl Q M pc L (.int x :: st) := fun H locs ls hW hS hL => lv_istore C.1.1 C.1.2.1 hd (hL.has (dp_en L) (fun q hq => dp_en_mem.mp hq)) hi rfl (fun ls1 h1 => k H locs ls1 hW hS (hL.put hi hnl h1))
theorem dp_astore_n (C : dp_C E A p s m args meth co cc own nL Ts) {i : Fin 4} {x : Nat} (hd : decode cc pc = .ok (.astore_n i, 1)) (hi : (i : Nat) < L.length) (k : dp_G E A p l e R s m args below meth co ce sl Q M (pc + 1) (L.set (i : Nat) (some (.ref x))) st) (hnl : dp_nl L (i : Nat) = true := by rfl) : dp_G E A p l e R s m args below meth co ce sl Q M pc L (.ref x :: st) := fun H locs ls hW hS hL => lv_astore_n C.1.1 C.1.2.1 hd rfl (hL.has (dp_en L) (fun q hq => dp_en_mem.mp hq)) hi rfl (fun ls1 h1 => k H locs ls1 hW hS (hL.put hi hnl h1))
theorem dp_astore (C : dp_C E A p s m args meth co cc own nL Ts) {i : Nat} {x : Nat} (hd : decode cc pc = .ok (.astore i, 2)) (hi : i < L.length) (k : dp_G E A p l e R s m args below meth co ce sl Q M (pc + 2) (L.set i (some (.ref x))) st) (hnl : dp_nl L i = true := by rfl) : dp_G E A p l e R s m args below meth co ce sl Q M pc L (.ref x :: st) := fun H locs ls hW hS hL => lv_astore C.1.1 C.1.2.1 hd (hL.has (dp_en L) (fun q hq => dp_en_mem.mp hq)) hi rfl (fun ls1 h1 => k H locs ls1 hW hS (hL.put hi hnl h1))
theorem dp_iinc (C : dp_C E A p s m args meth co cc own nL Ts) {i : Nat} {n x : Int} (hd : decode cc pc = .ok (.iinc i n, 3)) (hl : L[i]? = some (some (.int (dp_I x)))) (k : dp_G E A p l e R s m args below meth co ce sl Q M (pc + 3) (L.set i (some (.int (dp_I (x + n))))) st) (hnl : dp_nl L i = true := by rfl) : dp_G E A p l e R s m args below meth co ce sl Q M pc L st := fun H locs ls hW hS hL => by
  have hi : i < L.length := (List.getElem?_eq_some_iff.mp hl).1
  obtain ⟨kk, hk⟩ := List.getElem?_of_mem (dp_en_mem.mpr hl)
  exact lv_iinc (v := dp_I (x + n)) C.1.1 C.1.2.1 hd (hL.has (dp_en L) (fun q hq => dp_en_mem.mp hq)) hk (dp_I_add x n) hi rfl (fun ls1 h1 => k H locs ls1 hW hS (hL.put hi hnl h1))
theorem dp_icmp_eq (C : dp_C E A p s m args meth co cc own nL Ts) {x y off : Int} {tgt : Nat} (hd : decode cc pc = .ok (.if_icmp .eq off, 3)) (ht : (pc : Int) + off = (tgt : Int)) (hx : dp_R x) (hy : dp_R y) (kt : x = y → dp_G E A p l e R s m args below meth co ce sl Q M tgt L st) (kf : ¬ x = y → dp_G E A p l e R s m args below meth co ce sl Q M (pc + 3) L st) : dp_G E A p l e R s m args below meth co ce sl Q M pc L (.int (dp_I y) :: .int (dp_I x) :: st) := fun H locs ls hW hS hL => lv_icmp_eq C.1.1 C.1.2.1 hd ht (fun h => kt ((dp_I_eq hx hy).mp h) H locs ls hW hS hL) (fun h => kf (fun q => h ((dp_I_eq hx hy).mpr q)) H locs ls hW hS hL)
theorem dp_if_eq (C : dp_C E A p s m args meth co cc own nL Ts) {x off : Int} {tgt : Nat} (hd : decode cc pc = .ok (.ifCond .eq off, 3)) (ht : (pc : Int) + off = (tgt : Int)) (hx : dp_R x) (kt : x = 0 → dp_G E A p l e R s m args below meth co ce sl Q M tgt L st) (kf : ¬ x = 0 → dp_G E A p l e R s m args below meth co ce sl Q M (pc + 3) L st) : dp_G E A p l e R s m args below meth co ce sl Q M pc L (.int (dp_I x) :: st) := fun H locs ls hW hS hL => lv_if_eq C.1.1 C.1.2.1 hd ht (fun h => kt ((dp_I_eq hx dp_R0).mp h) H locs ls hW hS hL) (fun h => kf (fun q => h ((dp_I_eq hx dp_R0).mpr q)) H locs ls hW hS hL)
theorem dp_icmp_ne (C : dp_C E A p s m args meth co cc own nL Ts) {x y off : Int} {tgt : Nat} (hd : decode cc pc = .ok (.if_icmp .ne off, 3)) (ht : (pc : Int) + off = (tgt : Int)) (hx : dp_R x) (hy : dp_R y) (kt : ¬ x = y → dp_G E A p l e R s m args below meth co ce sl Q M tgt L st) (kf : x = y → dp_G E A p l e R s m args below meth co ce sl Q M (pc + 3) L st) : dp_G E A p l e R s m args below meth co ce sl Q M pc L (.int (dp_I y) :: .int (dp_I x) :: st) := fun H locs ls hW hS hL => lv_icmp_ne C.1.1 C.1.2.1 hd ht (fun h => kt (fun q => h ((dp_I_eq hx hy).mpr q)) H locs ls hW hS hL) (fun h => kf ((dp_I_eq hx hy).mp h) H locs ls hW hS hL)
theorem dp_if_ne (C : dp_C E A p s m args meth co cc own nL Ts) {x off : Int} {tgt : Nat} (hd : decode cc pc = .ok (.ifCond .ne off, 3)) (ht : (pc : Int) + off = (tgt : Int)) (hx : dp_R x) (kt : ¬ x = 0 → dp_G E A p l e R s m args below meth co ce sl Q M tgt L st) (kf : x = 0 → dp_G E A p l e R s m args below meth co ce sl Q M (pc + 3) L st) : dp_G E A p l e R s m args below meth co ce sl Q M pc L (.int (dp_I x) :: st) := fun H locs ls hW hS hL => lv_if_ne C.1.1 C.1.2.1 hd ht (fun h => kt (fun q => h ((dp_I_eq hx dp_R0).mpr q)) H locs ls hW hS hL) (fun h => kf ((dp_I_eq hx dp_R0).mp h) H locs ls hW hS hL)
theorem dp_icmp_lt (C : dp_C E A p s m args meth co cc own nL Ts) {x y off : Int} {tgt : Nat} (hd : decode cc pc = .ok (.if_icmp .lt off, 3)) (ht : (pc : Int) + off = (tgt : Int)) (hx : dp_R x) (hy : dp_R y) (kt : x < y → dp_G E A p l e R s m args below meth co ce sl Q M tgt L st) (kf : ¬ x < y → dp_G E A p l e R s m args below meth co ce sl Q M (pc + 3) L st) : dp_G E A p l e R s m args below meth co ce sl Q M pc L (.int (dp_I y) :: .int (dp_I x) :: st) := fun H locs ls hW hS hL => lv_icmp_lt C.1.1 C.1.2.1 hd ht (fun h => kt ((dp_I_lt hx hy).mp h) H locs ls hW hS hL) (fun h => kf (fun q => h ((dp_I_lt hx hy).mpr q)) H locs ls hW hS hL)
theorem dp_if_lt (C : dp_C E A p s m args meth co cc own nL Ts) {x off : Int} {tgt : Nat} (hd : decode cc pc = .ok (.ifCond .lt off, 3)) (ht : (pc : Int) + off = (tgt : Int)) (hx : dp_R x) (kt : x < 0 → dp_G E A p l e R s m args below meth co ce sl Q M tgt L st) (kf : ¬ x < 0 → dp_G E A p l e R s m args below meth co ce sl Q M (pc + 3) L st) : dp_G E A p l e R s m args below meth co ce sl Q M pc L (.int (dp_I x) :: st) := fun H locs ls hW hS hL => lv_if_lt C.1.1 C.1.2.1 hd ht (fun h => kt ((dp_I_lt hx dp_R0).mp h) H locs ls hW hS hL) (fun h => kf (fun q => h ((dp_I_lt hx dp_R0).mpr q)) H locs ls hW hS hL)
theorem dp_icmp_ge (C : dp_C E A p s m args meth co cc own nL Ts) {x y off : Int} {tgt : Nat} (hd : decode cc pc = .ok (.if_icmp .ge off, 3)) (ht : (pc : Int) + off = (tgt : Int)) (hx : dp_R x) (hy : dp_R y) (kt : ¬ x < y → dp_G E A p l e R s m args below meth co ce sl Q M tgt L st) (kf : x < y → dp_G E A p l e R s m args below meth co ce sl Q M (pc + 3) L st) : dp_G E A p l e R s m args below meth co ce sl Q M pc L (.int (dp_I y) :: .int (dp_I x) :: st) := fun H locs ls hW hS hL => lv_icmp_ge C.1.1 C.1.2.1 hd ht (fun h => kt (Int.not_lt.mpr ((dp_I_le hy hx).mp h)) H locs ls hW hS hL) (fun h => kf (Int.not_le.mp (fun q => h ((dp_I_le hy hx).mpr q))) H locs ls hW hS hL)
theorem dp_if_ge (C : dp_C E A p s m args meth co cc own nL Ts) {x off : Int} {tgt : Nat} (hd : decode cc pc = .ok (.ifCond .ge off, 3)) (ht : (pc : Int) + off = (tgt : Int)) (hx : dp_R x) (kt : ¬ x < 0 → dp_G E A p l e R s m args below meth co ce sl Q M tgt L st) (kf : x < 0 → dp_G E A p l e R s m args below meth co ce sl Q M (pc + 3) L st) : dp_G E A p l e R s m args below meth co ce sl Q M pc L (.int (dp_I x) :: st) := fun H locs ls hW hS hL => lv_if_ge C.1.1 C.1.2.1 hd ht (fun h => kt (Int.not_lt.mpr ((dp_I_le dp_R0 hx).mp h)) H locs ls hW hS hL) (fun h => kf (Int.not_le.mp (fun q => h ((dp_I_le dp_R0 hx).mpr q))) H locs ls hW hS hL)
theorem dp_icmp_gt (C : dp_C E A p s m args meth co cc own nL Ts) {x y off : Int} {tgt : Nat} (hd : decode cc pc = .ok (.if_icmp .gt off, 3)) (ht : (pc : Int) + off = (tgt : Int)) (hx : dp_R x) (hy : dp_R y) (kt : y < x → dp_G E A p l e R s m args below meth co ce sl Q M tgt L st) (kf : ¬ y < x → dp_G E A p l e R s m args below meth co ce sl Q M (pc + 3) L st) : dp_G E A p l e R s m args below meth co ce sl Q M pc L (.int (dp_I y) :: .int (dp_I x) :: st) := fun H locs ls hW hS hL => lv_icmp_gt C.1.1 C.1.2.1 hd ht (fun h => kt ((dp_I_lt hy hx).mp h) H locs ls hW hS hL) (fun h => kf (fun q => h ((dp_I_lt hy hx).mpr q)) H locs ls hW hS hL)
theorem dp_if_gt (C : dp_C E A p s m args meth co cc own nL Ts) {x off : Int} {tgt : Nat} (hd : decode cc pc = .ok (.ifCond .gt off, 3)) (ht : (pc : Int) + off = (tgt : Int)) (hx : dp_R x) (kt : 0 < x → dp_G E A p l e R s m args below meth co ce sl Q M tgt L st) (kf : ¬ 0 < x → dp_G E A p l e R s m args below meth co ce sl Q M (pc + 3) L st) : dp_G E A p l e R s m args below meth co ce sl Q M pc L (.int (dp_I x) :: st) := fun H locs ls hW hS hL => lv_if_gt C.1.1 C.1.2.1 hd ht (fun h => kt ((dp_I_lt dp_R0 hx).mp h) H locs ls hW hS hL) (fun h => kf (fun q => h ((dp_I_lt dp_R0 hx).mpr q)) H locs ls hW hS hL)
theorem dp_icmp_le (C : dp_C E A p s m args meth co cc own nL Ts) {x y off : Int} {tgt : Nat} (hd : decode cc pc = .ok (.if_icmp .le off, 3)) (ht : (pc : Int) + off = (tgt : Int)) (hx : dp_R x) (hy : dp_R y) (kt : ¬ y < x → dp_G E A p l e R s m args below meth co ce sl Q M tgt L st) (kf : y < x → dp_G E A p l e R s m args below meth co ce sl Q M (pc + 3) L st) : dp_G E A p l e R s m args below meth co ce sl Q M pc L (.int (dp_I y) :: .int (dp_I x) :: st) := fun H locs ls hW hS hL => lv_icmp_le C.1.1 C.1.2.1 hd ht (fun h => kt (Int.not_lt.mpr ((dp_I_le hx hy).mp h)) H locs ls hW hS hL) (fun h => kf (Int.not_le.mp (fun q => h ((dp_I_le hx hy).mpr q))) H locs ls hW hS hL)
theorem dp_if_le (C : dp_C E A p s m args meth co cc own nL Ts) {x off : Int} {tgt : Nat} (hd : decode cc pc = .ok (.ifCond .le off, 3)) (ht : (pc : Int) + off = (tgt : Int)) (hx : dp_R x) (kt : ¬ 0 < x → dp_G E A p l e R s m args below meth co ce sl Q M tgt L st) (kf : 0 < x → dp_G E A p l e R s m args below meth co ce sl Q M (pc + 3) L st) : dp_G E A p l e R s m args below meth co ce sl Q M pc L (.int (dp_I x) :: st) := fun H locs ls hW hS hL => lv_if_le C.1.1 C.1.2.1 hd ht (fun h => kt (Int.not_lt.mpr ((dp_I_le hx dp_R0).mp h)) H locs ls hW hS hL) (fun h => kf (Int.not_le.mp (fun q => h ((dp_I_le hx dp_R0).mpr q))) H locs ls hW hS hL)
theorem dp_b0 {P : Prop} {_ : Decidable P} : dp_b P = 0 ↔ ¬ P := by
  unfold dp_b
  by_cases h : P <;> simp [h]
theorem dp_Rb {P : Prop} {_ : Decidable P} : dp_R (dp_b P) := by
  unfold dp_b dp_R
  by_cases h : P <;> simp [h]
theorem dp_ifz_eq (C : dp_C E A p s m args meth co cc own nL Ts) {P : Prop} {_ : Decidable P} {off : Int} {tgt : Nat} (hd : decode cc pc = .ok (.ifCond .eq off, 3)) (ht : (pc : Int) + off = (tgt : Int)) (kt : ¬ P → dp_G E A p l e R s m args below meth co ce sl Q M tgt L st) (kf : P → dp_G E A p l e R s m args below meth co ce sl Q M (pc + 3) L st) : dp_G E A p l e R s m args below meth co ce sl Q M pc L (.int (dp_I (dp_b P)) :: st) := dp_if_eq C hd ht dp_Rb (fun h => kt (dp_b0.mp h)) (fun h => kf (Decidable.of_not_not (fun q => h (dp_b0.mpr q))))
theorem dp_ifz_ne (C : dp_C E A p s m args meth co cc own nL Ts) {P : Prop} {_ : Decidable P} {off : Int} {tgt : Nat} (hd : decode cc pc = .ok (.ifCond .ne off, 3)) (ht : (pc : Int) + off = (tgt : Int)) (kt : P → dp_G E A p l e R s m args below meth co ce sl Q M tgt L st) (kf : ¬ P → dp_G E A p l e R s m args below meth co ce sl Q M (pc + 3) L st) : dp_G E A p l e R s m args below meth co ce sl Q M pc L (.int (dp_I (dp_b P)) :: st) := dp_if_ne C hd ht dp_Rb (fun h => kt (Decidable.of_not_not (fun q => h (dp_b0.mpr q)))) (fun h => kf (dp_b0.mp h))
def dp_sw (P : Nat → Prop) (x : Int) : Int → List Nat → Prop
  | _, [] => True
  | lo, t :: ts => (x = lo → P t) ∧ dp_sw P x (lo + 1) ts
theorem dp_sw_at {P : Nat → Prop} {x : Int} : ∀ {ts : List Nat} {lo : Int}, dp_sw P x lo ts → ∀ (k : Nat) (t : Nat), ts[k]? = some t → x = lo + k → P t := by
  intro ts
  induction ts with
  | nil => intro lo h k t hk; simp at hk
  | cons a ts ih =>
    intro lo h k t hk hx
    cases k with
    | zero =>
      simp at hk
      subst hk
      exact h.1 (by omega)
    | succ k => exact ih h.2 k t (by simpa using hk) (by omega)
theorem dp_table (C : dp_C E A p s m args meth co cc own nL Ts) (tg : List Nat) {lo hi dflt x : Int} {offs : Array Int} {len td : Nat} (hd : decode cc pc = .ok (.tableswitch dflt lo hi offs, len)) (hoff : offs.toList = tg.map (fun (t : Nat) => (t : Int) - (pc : Int))) (hlen : hi - lo + 1 = (tg.length : Int)) (ht : (pc : Int) + dflt = (td : Int)) (hx : dp_R x) (kd : (x < lo ∨ hi < x) → dp_G E A p l e R s m args below meth co ce sl Q M td L st) (kk : dp_sw (fun t => dp_G E A p l e R s m args below meth co ce sl Q M t L st) x lo tg) : dp_G E A p l e R s m args below meth co ce sl Q M pc L (.int (dp_I x) :: st) := fun H locs ls hW hS hL => by
  by_cases h1 : x < lo
  · exact lv_tableOut C.1.1 C.1.2.1 hd (by rw [dp_I_toInt hx]; exact Or.inl h1) ht (kd (Or.inl h1) H locs ls hW hS hL)
  by_cases h2 : hi < x
  · exact lv_tableOut C.1.1 C.1.2.1 hd (by rw [dp_I_toInt hx]; exact Or.inr h2) ht (kd (Or.inr h2) H locs ls hW hS hL)
  have hk : (x - lo).toNat < tg.length := by omega
  have g1 : offs[(x - lo).toNat]? = some ((tg[(x - lo).toNat] : Int) - (pc : Int)) := by
    rw [← Array.getElem?_toList, hoff, List.getElem?_map, List.getElem?_eq_getElem hk]
    rfl
  exact lv_tableIn (tgt := tg[(x - lo).toNat]) C.1.1 C.1.2.1 hd (by rw [dp_I_toInt hx]; exact h1) (by rw [dp_I_toInt hx]; exact h2) (by rw [dp_I_toInt hx]; exact g1) (by omega) (dp_sw_at kk _ _ (List.getElem?_eq_getElem hk) (by omega) H locs ls hW hS hL)
theorem dp_look2 (C : dp_C E A p s m args meth co cc own nL Ts) {a b o1 o2 dflt x : Int} {len t1 t2 td : Nat} (hd : decode cc pc = .ok (.lookupswitch dflt #[(a, o1), (b, o2)], len)) (hab : a < b) (h1 : (pc : Int) + o1 = (t1 : Int)) (h2 : (pc : Int) + o2 = (t2 : Int)) (h3 : (pc : Int) + dflt = (td : Int)) (hx : dp_R x) (k1 : x = a → dp_G E A p l e R s m args below meth co ce sl Q M t1 L st) (k2 : x = b → dp_G E A p l e R s m args below meth co ce sl Q M t2 L st) (kd : ¬ x = a → ¬ x = b → dp_G E A p l e R s m args below meth co ce sl Q M td L st) : dp_G E A p l e R s m args below meth co ce sl Q M pc L (.int (dp_I x) :: st) := fun H locs ls hW hS hL => by
  have hp : ((#[(a, o1), (b, o2)] : Array (Int × Int)).toList.zip ((#[(a, o1), (b, o2)] : Array (Int × Int)).toList.drop 1)).all (fun (a, next) => a.1 < next.1) = true := by simpa using hab
  by_cases e1 : x = a
  · exact lv_lookup C.1.1 C.1.2.1 hd hp (off := o1) (by rw [dp_I_toInt hx, Op.lookupswitch.offset_cons, if_pos e1.symm]) h1 (k1 e1 H locs ls hW hS hL)
  by_cases e2 : x = b
  · exact lv_lookup C.1.1 C.1.2.1 hd hp (off := o2) (by rw [dp_I_toInt hx, Op.lookupswitch.offset_cons, if_neg (fun q => e1 q.symm), Op.lookupswitch.offset_cons, if_pos e2.symm]) h2 (k2 e2 H locs ls hW hS hL)
  exact lv_lookup C.1.1 C.1.2.1 hd hp (off := dflt) (by rw [dp_I_toInt hx, Op.lookupswitch.offset_cons, if_neg (fun q => e1 q.symm), Op.lookupswitch.offset_cons, if_neg (fun q => e2 q.symm), Op.lookupswitch.offset_nil]) h3 (kd e1 e2 H locs ls hW hS hL)
end DG
end
section
section DM
variable {E : dp_E} {A : Nat → Prop} {p : Program} {l : Launch} {e : Env} {R : Room} {s : State} {m : MethodId} {args : Array Value} {below : List Frame} {meth : Method} {co : Code} {ce sl : Nat} {Q : State → Prop} {cc : ByteArray} {own : String} {nL : Nat} {Ts : List Cond} {M : dp_M} {pc : Nat} {L : List (Option Value)} {st : List Value}
theorem dp_getf (C : dp_C E A p s m args meth co cc own nL Ts) {r c ci k : Nat} {fs : List Value} {Cn : String} {T : u_T} {N i : Nat} {v : Value} (hm : (r, c) ∈ dp_ps E) (hx : dp_x E M r c = .inr (ci, fs)) (hc : vwCl[ci]? = some (Cn, T, N)) (hin : ∀ w ∈ u_ws Cn T N, w ∈ Ts) (hk : k < N) (hl : Cond.fieldLink own i (T k).1 (T k).2.1 (T k).2.2.1 ∈ Ts) (hv : fs[k]? = some v) (hd : decode cc pc = .ok (.getfield i, 3)) (k9 : dp_G E A p l e R s m args below meth co ce sl Q M (pc + 3) L (v :: st)) : dp_G E A p l e R s m args below meth co ce sl Q M pc L (.ref (eAd E r c) :: st) := fun H locs ls hW hS hL => by
  obtain ⟨q0, hq⟩ := List.getElem?_of_mem hm
  refine va_get (D := E.1) (ci := ci) (v := v) (C := Cn) (T := T) (N := N) C.1.1 C.1.2.1 C.1.2.2.2.2 hin C.1.2.2.2.1 C.2.2.2.2.1 hW.P q0 (fs := fs) ?_ hc k hk (C.1.2.2.2.2 _ hl) (fun _ h => h) hv hd (k9 H locs ls hW hS hL)
  rw [dp_ws_at hq, hx]
theorem dp_putf (C : dp_C E A p s m args meth co cc own nL Ts) {r c ci k : Nat} {fs : List Value} {Cn : String} {T : u_T} {N i : Nat} {v : Value} {M' : dp_M} {ty : FieldType} (hm : (r, c) ∈ dp_ps E) (hx : dp_x E M r c = .inr (ci, fs)) (hc : vwCl[ci]? = some (Cn, T, N)) (hin : ∀ w ∈ u_ws Cn T N, w ∈ Ts) (ty0 : Nat → FieldType) (hty : ∀ k, k < N → parseFieldDescriptor (T k).2.2.1 = some (ty0 k)) (hnm : ∀ a, a < N → ∀ b, b < N → a ≠ b → (T a).2.1 ≠ (T b).2.1) (hk : k < N) (hl : Cond.fieldLink own i (T k).1 (T k).2.1 (T k).2.2.1 ∈ Ts) (hfin : (T k).2.2.2 = false) (hd0 : parseFieldDescriptor (T k).2.2.1 = some ty) (hn : narrow ty v = v) (hfit : fits ty v = true) (hlen : k < fs.length)
    (hx' : dp_x E M' r c = .inr (ci, fs.set k v)) (hf : ∀ r' c', (r', c') ∈ dp_ps E → (r', c') ≠ (r, c) → dp_x E M' r' c' = dp_x E M r' c') (hd : decode cc pc = .ok (.putfield i, 3)) (k9 : dp_G E A p l e R s m args below meth co ce sl Q M' (pc + 3) L st) : dp_G E A p l e R s m args below meth co ce sl Q M pc L (v :: .ref (eAd E r c) :: st) := fun H locs ls hW hS hL => by
  obtain ⟨q0, hq⟩ := List.getElem?_of_mem hm
  refine va_put (D := E.1) (ci := ci) (v := v) (ty := ty) (C := Cn) (T := T) (N := N) C.1.1 C.1.2.1 C.1.2.2.2.2 hin ty0 hty hnm C.1.2.2.2.1 C.2.2.2.2.1 hW.P (dp_D C.2.2.1 C.2.2.2.1) hS q0 (fs := fs) (by rw [dp_ws_at hq, hx]) hc k hk (C.1.2.2.2.2 _ hl) (fun _ h => h) hfin hd0 hn hfit hlen hd (fun H1 locs1 hP hD hS1 => k9 H1 locs1 ls ?_ hS1 hL)
  exact dp_W.of_set hq hP hx' hf
theorem dp_xS_u2 {E : dp_E} {V Y : dp_V} {r c c' k : Nat} {x : Int} (h : c' ≠ c) : dp_xS E (u2 V c k x) Y r c' = dp_xS E V Y r c' := by
  unfold dp_xS
  split <;> simp [u2, h]
theorem dp_xS_w2 {E : dp_E} {V Y : dp_V} {r c c' k : Nat} {x : Int} (h : c' ≠ c) : dp_xS E V (u2 Y c k x) r c' = dp_xS E V Y r c' := by
  unfold dp_xS
  split <;> simp [u2, h]
/-- cells of other regions hold the same, where only regions of this one are put -/
theorem dp_frX {E : dp_E} {M M' : dp_M} {r' c' : Nat} (hm : (r', c') ∈ dp_ps E) (h1 : r' < 7 → M' r' = M r' ∧ M' (r' + 20) = M (r' + 20)) (h2 : r' = 7 → M' 7 = M 7) (h3 : r' = 8 → M' 8 = M 8 ∧ M' 9 = M 9) : dp_x E M' r' c' = dp_x E M r' c' := by
  rcases dp_mem.mp hm with ⟨a, -⟩ | ⟨rfl, -⟩ | ⟨rfl, -⟩
  · rw [dp_x_S a, dp_x_S a, (h1 a).1, (h1 a).2]
  · rw [dp_x_C, dp_x_C]
    unfold dp_xC
    rw [h2 rfl]
  · obtain ⟨e8, e9⟩ := h3 rfl
    rw [dp_x_M, dp_x_M]
    unfold dp_xM
    simp only [e8, e9]
theorem dp_frS {E : dp_E} {M : dp_M} {V Y : dp_V} {r c k : Nat} {x : Int} (hr : r < 7) : ∀ r' c', (r', c') ∈ dp_ps E → (r', c') ≠ (r, c) → dp_x E (dS M r (u2 V c k x) Y) r' c' = dp_x E (dS M r V Y) r' c' := by
  intro r' c' hm hne
  by_cases e : r' = r
  · subst e
    rw [dp_x_S hr, dp_x_S hr, dS_V, dS_V, dS_Y, dS_Y, dp_xS_u2 (fun q => hne (by rw [q]))]
  · refine dp_frX hm (fun h => ?_) (fun h => ?_) (fun h => ?_)
    · rw [dS_ne e (by omega), dS_ne e (by omega), dS_ne (by omega) (by omega), dS_ne (by omega) (by omega)]
      exact ⟨rfl, rfl⟩
    · subst h
      rw [dS_ne e (by omega), dS_ne e (by omega)]
    · subst h
      refine ⟨by rw [dS_ne (by omega) (by omega), dS_ne (by omega) (by omega)], by rw [dS_ne (by omega) (by omega), dS_ne (by omega) (by omega)]⟩
theorem dp_frY {E : dp_E} {M : dp_M} {V Y : dp_V} {r c k : Nat} {x : Int} (hr : r < 7) : ∀ r' c', (r', c') ∈ dp_ps E → (r', c') ≠ (r, c) → dp_x E (dS M r V (u2 Y c k x)) r' c' = dp_x E (dS M r V Y) r' c' := by
  intro r' c' hm hne
  by_cases e : r' = r
  · subst e
    rw [dp_x_S hr, dp_x_S hr, dS_V, dS_V, dS_Y, dS_Y, dp_xS_w2 (fun q => hne (by rw [q]))]
  · refine dp_frX hm (fun h => ?_) (fun h => ?_) (fun h => ?_)
    · rw [dS_ne e (by omega), dS_ne e (by omega), dS_ne (by omega) (by omega), dS_ne (by omega) (by omega)]
      exact ⟨rfl, rfl⟩
    · subst h
      rw [dS_ne e (by omega), dS_ne e (by omega)]
    · subst h
      refine ⟨by rw [dS_ne (by omega) (by omega), dS_ne (by omega) (by omega)], by rw [dS_ne (by omega) (by omega), dS_ne (by omega) (by omega)]⟩
theorem dp_frC {E : dp_E} {M : dp_M} {X : dp_V} {c k : Nat} {x : Int} : ∀ r' c', (r', c') ∈ dp_ps E → (r', c') ≠ (7, c) → dp_x E (dR M 7 (u2 X c k x)) r' c' = dp_x E (dR M 7 X) r' c' := by
  intro r' c' hm hne
  by_cases e : r' = 7
  · subst e
    have hc : c' ≠ c := fun q => hne (by rw [q])
    have hl : c' < 6 := by
      rcases dp_mem.mp hm with ⟨a, -⟩ | ⟨-, b⟩ | ⟨a, -⟩
      · omega
      · exact b
      · omega
    rw [dp_x_C, dp_x_C]
    unfold dp_xC
    rw [dR_same, dR_same]
    rcases (by omega : c' = 0 ∨ c' = 1 ∨ c' = 2 ∨ c' = 3 ∨ c' = 4 ∨ c' = 5) with rfl | rfl | rfl | rfl | rfl | rfl
    · rfl
    all_goals simp only [u2_ne hc]
  · refine dp_frX hm (fun h => ?_) (fun h => absurd h e) (fun h => ?_)
    · exact ⟨(dR_ne e).trans (dR_ne e).symm, (dR_ne (by omega)).trans (dR_ne (by omega)).symm⟩
    · exact ⟨(dR_ne (by omega)).trans (dR_ne (by omega)).symm, (dR_ne (by omega)).trans (dR_ne (by omega)).symm⟩
/-- region 8's other numbers put: the legs (c 0), the counts (c 2) -/
theorem dp_frN {E : dp_E} {M : dp_M} {V X X' : dp_V} {c : Nat} (hX : ∀ c', c' ≠ c → X' c' = X c') (hc0 : c = 0 ∨ c = 2) : ∀ r' c', (r', c') ∈ dp_ps E → (r', c') ≠ (8, c) → dp_x E (dN M V X') r' c' = dp_x E (dN M V X) r' c' := by
  intro r' c' hm hne
  by_cases e : r' = 8
  · subst e
    have hc : c' ≠ c := fun q => hne (by rw [q])
    have hl : c' < 3 := by
      rcases dp_mem.mp hm with ⟨a, -⟩ | ⟨a, -⟩ | ⟨-, b, -⟩
      · omega
      · omega
      · exact b
    rw [dp_x_M, dp_x_M]
    unfold dp_xM
    rw [dN_X, dN_X, dN_V, dN_V]
    rcases (by omega : c' = 0 ∨ c' = 1 ∨ c' = 2) with rfl | rfl | rfl
    · simp only [hX 0 hc]
    · rfl
    · simp only [hX 2 hc]
  · refine dp_frX hm (fun h => ?_) (fun h => ?_) (fun h => absurd h e)
    · rw [dN_ne (by omega) (by omega), dN_ne (by omega) (by omega), dN_ne (by omega) (by omega), dN_ne (by omega) (by omega)]
      exact ⟨rfl, rfl⟩
    · rw [dN_ne (by omega) (by omega), dN_ne (by omega) (by omega)]
theorem gF_c {V V' : dp_V} {f : Nat → Int} (h : ∀ c, c < 5 → V' c = V c) : gF V' f = gF V f := by
  funext i
  unfold gF
  rw [h _ (dp_ce5 i)]
theorem qF_c {V V' : dp_V} (h : ∀ c, 6 ≤ c → V' c = V c) : qF V' = qF V := by
  funext i
  unfold qF
  rw [h _ (by omega)]
/-- the law's numbers put: in g, or in q -/
theorem dp_frM {E : dp_E} {M : dp_M} {V V' X X' : dp_V} {c : Nat} (h : (c = 0 ∧ (∀ c, 6 ≤ c → V' c = V c) ∧ ∀ c', c' ≠ 0 → X' c' = X c') ∨ (c = 1 ∧ (∀ c, c < 5 → V' c = V c) ∧ X' = X)) : ∀ r' c', (r', c') ∈ dp_ps E → (r', c') ≠ (8, c) → dp_x E (dN M V' X') r' c' = dp_x E (dN M V X) r' c' := by
  intro r' c' hm hne
  by_cases e : r' = 8
  · subst e
    have hc : c' ≠ c := fun q => hne (by rw [q])
    have hl : c' < 3 := by
      rcases dp_mem.mp hm with ⟨a, -⟩ | ⟨a, -⟩ | ⟨-, b, -⟩
      · omega
      · omega
      · exact b
    rw [dp_x_M, dp_x_M]
    unfold dp_xM
    rw [dN_X, dN_X, dN_V, dN_V]
    rcases h with ⟨rfl, h1, h2⟩ | ⟨rfl, h1, rfl⟩
    · rcases (by omega : c' = 1 ∨ c' = 2) with rfl | rfl
      · simp only [qF_c h1]
      · simp only [h2 2 (by decide)]
    · rcases (by omega : c' = 0 ∨ c' = 2) with rfl | rfl
      · simp only [gF_c h1]
      · rfl
  · refine dp_frX hm (fun h => ?_) (fun h => ?_) (fun h => absurd h e)
    · rw [dN_ne (by omega) (by omega), dN_ne (by omega) (by omega), dN_ne (by omega) (by omega), dN_ne (by omega) (by omega)]
      exact ⟨rfl, rfl⟩
    · rw [dN_ne (by omega) (by omega), dN_ne (by omega) (by omega)]
theorem dp_f7_set {f : Nat → Int} {k : Nat} (h : k < 7) (x : Int) : dp_f7 (u1 f k x) = (dp_f7 f).set k (.int (dp_I x)) := by
  rcases (by omega : k = 0 ∨ k = 1 ∨ k = 2 ∨ k = 3 ∨ k = 4 ∨ k = 5 ∨ k = 6) with rfl | rfl | rfl | rfl | rfl | rfl | rfl <;> rfl
theorem dp_f14_set {f : Nat → Int} {k : Nat} (h : k < 14) (x : Int) : dp_f14 (u1 f k x) = (dp_f14 f).set k (.int (dp_I x)) := by
  rcases (by omega : k = 0 ∨ k = 1 ∨ k = 2 ∨ k = 3 ∨ k = 4 ∨ k = 5 ∨ k = 6 ∨ k = 7 ∨ k = 8 ∨ k = 9 ∨ k = 10 ∨ k = 11 ∨ k = 12 ∨ k = 13) with rfl | rfl | rfl | rfl | rfl | rfl | rfl | rfl | rfl | rfl | rfl | rfl | rfl | rfl <;> rfl
theorem dp_f7_at {f : Nat → Int} {k : Nat} (h : k < 7) : (dp_f7 f)[k]? = some (.int (dp_I (f k))) := by
  rcases (by omega : k = 0 ∨ k = 1 ∨ k = 2 ∨ k = 3 ∨ k = 4 ∨ k = 5 ∨ k = 6) with rfl | rfl | rfl | rfl | rfl | rfl | rfl <;> rfl
theorem dp_xax {E : dp_E} {M : dp_M} {V Y : dp_V} {r c : Nat} (h : r < 7) (hc : c = 3 ∨ c = 4) : dp_x E (dS M r V Y) r c = .inr (0, dp_fA c (V c)) := by
  rw [dp_x_S h, dS_V]
  rcases hc with rfl | rfl <;> rfl
theorem dp_xtg {E : dp_E} {M : dp_M} {V Y : dp_V} {r t : Nat} (h : r < 7) (ht : t < 10) : dp_x E (dS M r V Y) r (t + 6) = .inr (3, dp_f14 (V (t + 6))) := by
  rw [dp_x_S h, dS_V]
  exact if_pos ht
theorem dp_xwy {E : dp_E} {M : dp_M} {V Y : dp_V} {r c : Nat} (h : r < 7) (hc : c = 16 ∨ c = 17 ∨ c = 18) : dp_x E (dS M r V Y) r c = .inr (5, dp_f7 (Y c)) := by
  rw [dp_x_S h, dS_V, dS_Y]
  rcases hc with rfl | rfl | rfl <;> rfl
theorem dp_xst {E : dp_E} {M : dp_M} {V Y : dp_V} {r : Nat} (h : r < 7) : dp_x E (dS M r V Y) r 0 = .inr (2, dp_fS E r (V 0)) := by
  rw [dp_x_S h, dS_V]
  rfl
theorem dp_xse {E : dp_E} {M : dp_M} {V Y : dp_V} {r : Nat} (h : r < 7) : dp_x E (dS M r V Y) r 1 = dp_ints (eI E) 4 (V 1) := by
  rw [dp_x_S h, dS_V]
  rfl
theorem dp_xgu {E : dp_E} {M : dp_M} {V Y : dp_V} {r : Nat} (h : r < 7) : dp_x E (dS M r V Y) r 2 = dp_ints (eI E) 31 (V 2) := by
  rw [dp_x_S h, dS_V]
  rfl
theorem dp_xta {E : dp_E} {M : dp_M} {V Y : dp_V} {r : Nat} (h : r < 7) : dp_x E (dS M r V Y) r 5 = dp_refs (eT E) 10 (fun t => eAd E r (t + 6)) := by
  rw [dp_x_S h]
  rfl
theorem dp_xst0 {E : dp_E} {M : dp_M} {r : Nat} (h : r < 7) : dp_x E M r 0 = .inr (2, dp_fS E r (M r 0)) := by
  rw [dp_x_S h]
  rfl
theorem dp_xhi {E : dp_E} {M : dp_M} {X : dp_V} : dp_x E (dR M 7 X) 7 1 = .inr (1, dp_fH E (X 1)) := by
  rw [dp_x_C]
  unfold dp_xC
  rw [dR_same]
  rfl
theorem dp_xtx {E : dp_E} {M : dp_M} {X : dp_V} : dp_x E (dR M 7 X) 7 3 = .inr (4, dp_fX E (X 3)) := by
  rw [dp_x_C]
  unfold dp_xC
  rw [dR_same]
  rfl
theorem dp_xsg {E : dp_E} {M : dp_M} {X : dp_V} : dp_x E (dR M 7 X) 7 4 = dp_ints (eC E) 100 (X 4) := by
  rw [dp_x_C]
  unfold dp_xC
  rw [dR_same]
  rfl
theorem dp_xnu {E : dp_E} {M : dp_M} {X : dp_V} : dp_x E (dR M 7 X) 7 5 = dp_ints (eI E) 6 (X 5) := by
  rw [dp_x_C]
  unfold dp_xC
  rw [dR_same]
  rfl
theorem dp_xdp {E : dp_E} {M : dp_M} : dp_x E M 7 0 = .inr (6, dp_fD E) := rfl
theorem dp_xlg {E : dp_E} {M : dp_M} {V X : dp_V} : dp_x E (dN M V X) 8 0 = dp_ints (eI E) 55 (gF V (X 0)) := by
  rw [dp_x_M]
  unfold dp_xM
  rw [dN_V, dN_X]
  rfl
theorem dp_xlq {E : dp_E} {M : dp_M} {V X : dp_V} : dp_x E (dN M V X) 8 1 = dp_ints (eI E) 56 (qF V) := by
  rw [dp_x_M]
  unfold dp_xM
  rw [dN_V]
  rfl
theorem dp_xlm {E : dp_E} {M : dp_M} {V X : dp_V} : dp_x E (dN M V X) 8 2 = dp_ints (eI E) 4 (X 2) := by
  rw [dp_x_M]
  unfold dp_xM
  rw [dN_X]
  rfl
theorem dp_cA {c : Nat} (h : c = 3 ∨ c = 4) : c < 19 := by omega
theorem dp_cW {c : Nat} (h : c = 16 ∨ c = 17 ∨ c = 18) : c < 19 := by omega
theorem dp_cT {t : Nat} (h : t < 10) : t + 6 < 19 := by omega
theorem dp_putA (C : dp_C E A p s m args meth co cc own nL Ts) {r c : Nat} (hr : r < 7) (hc : c = 3 ∨ c = 4) {V Y : dp_V} {k i : Nat} {x : Int} {ty : FieldType} (hin : ∀ w ∈ u_ws RX0 TX0 10, w ∈ Ts) (hk : k < 7) (hl : Cond.fieldLink own i (TX0 (k + 3)).1 (TX0 (k + 3)).2.1 (TX0 (k + 3)).2.2.1 ∈ Ts) (hfin : (TX0 (k + 3)).2.2.2 = false) (hd0 : parseFieldDescriptor (TX0 (k + 3)).2.2.1 = some ty) (hn : narrow ty (.int (dp_I x)) = .int (dp_I x)) (hfit : fits ty (.int (dp_I x)) = true) (hd : decode cc pc = .ok (.putfield i, 3)) (k9 : dp_G E A p l e R s m args below meth co ce sl Q (dS M r (u2 V c k x) Y) (pc + 3) L st) : dp_G E A p l e R s m args below meth co ce sl Q (dS M r V Y) pc L (.int (dp_I x) :: .ref (eAd E (r) (c)) :: st) := by
  refine dp_putf C (k := k + 3) (fs := dp_fA c (V c)) (dp_mS hr (dp_cA hc)) (dp_xax hr hc) rfl hin tyX0 tyX0_ok nmX0 (by omega) hl hfin hd0 hn hfit (by show k + 3 < 10; omega) ?_ (dp_frS hr) hd k9
  rw [dp_xax hr hc, u2_same]
  show (_ : va_E) = Sum.inr (0, _ :: _ :: _ :: (dp_f7 (V c)).set k _)
  rw [← dp_f7_set hk]
  rfl
theorem dp_putT (C : dp_C E A p s m args meth co cc own nL Ts) {r t : Nat} (hr : r < 7) (ht : t < 10) {V Y : dp_V} {k i : Nat} {x : Int} {ty : FieldType} (hin : ∀ w ∈ u_ws RX3 TX3 14, w ∈ Ts) (hk : k < 14) (hl : Cond.fieldLink own i (TX3 (k)).1 (TX3 (k)).2.1 (TX3 (k)).2.2.1 ∈ Ts) (hfin : (TX3 (k)).2.2.2 = false) (hd0 : parseFieldDescriptor (TX3 (k)).2.2.1 = some ty) (hn : narrow ty (.int (dp_I x)) = .int (dp_I x)) (hfit : fits ty (.int (dp_I x)) = true) (hd : decode cc pc = .ok (.putfield i, 3)) (k9 : dp_G E A p l e R s m args below meth co ce sl Q (dS M r (u2 V (t + 6) k x) Y) (pc + 3) L st) : dp_G E A p l e R s m args below meth co ce sl Q (dS M r V Y) pc L (.int (dp_I x) :: .ref (eAd E (r) (t + 6)) :: st) := by
  refine dp_putf C (k := k) (fs := dp_f14 (V (t + 6))) (dp_mS hr (dp_cT ht)) (dp_xtg hr ht) rfl hin tyX3 tyX3_ok nmX3 (by omega) hl hfin hd0 hn hfit (by show k < 14; omega) ?_ (dp_frS hr) hd k9
  rw [dp_xtg hr ht, u2_same, dp_f14_set hk]
theorem dp_putW (C : dp_C E A p s m args meth co cc own nL Ts) {r c : Nat} (hr : r < 7) (hc : c = 16 ∨ c = 17 ∨ c = 18) {V Y : dp_V} {k i : Nat} {x : Int} {ty : FieldType} (hin : ∀ w ∈ u_ws RX5 TX5 7, w ∈ Ts) (hk : k < 7) (hl : Cond.fieldLink own i (TX5 (k)).1 (TX5 (k)).2.1 (TX5 (k)).2.2.1 ∈ Ts) (hfin : (TX5 (k)).2.2.2 = false) (hd0 : parseFieldDescriptor (TX5 (k)).2.2.1 = some ty) (hn : narrow ty (.int (dp_I x)) = .int (dp_I x)) (hfit : fits ty (.int (dp_I x)) = true) (hd : decode cc pc = .ok (.putfield i, 3)) (k9 : dp_G E A p l e R s m args below meth co ce sl Q (dS M r V (u2 Y c k x)) (pc + 3) L st) : dp_G E A p l e R s m args below meth co ce sl Q (dS M r V Y) pc L (.int (dp_I x) :: .ref (eAd E (r) (c)) :: st) := by
  refine dp_putf C (k := k) (fs := dp_f7 (Y c)) (dp_mS hr (dp_cW hc)) (dp_xwy hr hc) rfl hin tyX5 tyX5_ok nmX5 (by omega) hl hfin hd0 hn hfit (by show k < 7; omega) ?_ (dp_frY hr) hd k9
  rw [dp_xwy hr hc, u2_same, dp_f7_set hk]
theorem dp_putS (C : dp_C E A p s m args meth co cc own nL Ts) {r : Nat} (hr : r < 7) {V Y : dp_V} {k i : Nat} {x : Int} {ty : FieldType} (hin : ∀ w ∈ u_ws RX2 TX2 11, w ∈ Ts) (hk : k < 3) (hl : Cond.fieldLink own i (TX2 (k)).1 (TX2 (k)).2.1 (TX2 (k)).2.2.1 ∈ Ts) (hfin : (TX2 (k)).2.2.2 = false) (hd0 : parseFieldDescriptor (TX2 (k)).2.2.1 = some ty) (hn : narrow ty (.int (dp_I x)) = .int (dp_I x)) (hfit : fits ty (.int (dp_I x)) = true) (hd : decode cc pc = .ok (.putfield i, 3)) (k9 : dp_G E A p l e R s m args below meth co ce sl Q (dS M r (u2 V 0 k x) Y) (pc + 3) L st) : dp_G E A p l e R s m args below meth co ce sl Q (dS M r V Y) pc L (.int (dp_I x) :: .ref (eAd E (r) (0)) :: st) := by
  refine dp_putf C (k := k) (fs := dp_fS E r (V 0)) (dp_mS hr (by omega)) (dp_xst hr) rfl hin tyX2 tyX2_ok nmX2 (by omega) hl hfin hd0 hn hfit (by show k < 11; omega) ?_ (dp_frS hr) hd k9
  rw [dp_xst hr, u2_same]
  rcases (by omega : k = 0 ∨ k = 1 ∨ k = 2) with rfl | rfl | rfl <;> rfl
theorem dp_putH (C : dp_C E A p s m args meth co cc own nL Ts) {X : dp_V}  {k i : Nat} {x : Int} {ty : FieldType} (hin : ∀ w ∈ u_ws RX1 TX1 2, w ∈ Ts) (hk : k < 1) (hl : Cond.fieldLink own i (TX1 (k + 1)).1 (TX1 (k + 1)).2.1 (TX1 (k + 1)).2.2.1 ∈ Ts) (hfin : (TX1 (k + 1)).2.2.2 = false) (hd0 : parseFieldDescriptor (TX1 (k + 1)).2.2.1 = some ty) (hn : narrow ty (.int (dp_I x)) = .int (dp_I x)) (hfit : fits ty (.int (dp_I x)) = true) (hd : decode cc pc = .ok (.putfield i, 3)) (k9 : dp_G E A p l e R s m args below meth co ce sl Q (dR M 7 (u2 X 1 k x)) (pc + 3) L st) : dp_G E A p l e R s m args below meth co ce sl Q (dR M 7 X) pc L (.int (dp_I x) :: .ref (eAd E (7) (1)) :: st) := by
  refine dp_putf C (k := k + 1) (fs := dp_fH E (X 1)) (dp_mC (by omega)) dp_xhi rfl hin tyX1 tyX1_ok nmX1 (by omega) hl hfin hd0 hn hfit (by show k + 1 < 2; omega) ?_ dp_frC hd k9
  rw [dp_xhi, u2_same]
  rcases (by omega : k = 0) with rfl
  rfl
theorem dp_putX (C : dp_C E A p s m args meth co cc own nL Ts) {X : dp_V}  {k i : Nat} {x : Int} {ty : FieldType} (hin : ∀ w ∈ u_ws RX4 TX4 6, w ∈ Ts) (hk : k < 4) (hl : Cond.fieldLink own i (TX4 (if k = 0 then 1 else k + 2)).1 (TX4 (if k = 0 then 1 else k + 2)).2.1 (TX4 (if k = 0 then 1 else k + 2)).2.2.1 ∈ Ts) (hfin : (TX4 (if k = 0 then 1 else k + 2)).2.2.2 = false) (hd0 : parseFieldDescriptor (TX4 (if k = 0 then 1 else k + 2)).2.2.1 = some ty) (hn : narrow ty (.int (dp_I x)) = .int (dp_I x)) (hfit : fits ty (.int (dp_I x)) = true) (hd : decode cc pc = .ok (.putfield i, 3)) (k9 : dp_G E A p l e R s m args below meth co ce sl Q (dR M 7 (u2 X 3 k x)) (pc + 3) L st) : dp_G E A p l e R s m args below meth co ce sl Q (dR M 7 X) pc L (.int (dp_I x) :: .ref (eAd E (7) (3)) :: st) := by
  refine dp_putf C (k := if k = 0 then 1 else k + 2) (fs := dp_fX E (X 3)) (dp_mC (by omega)) dp_xtx rfl hin tyX4 tyX4_ok nmX4 (by split <;> omega) hl hfin hd0 hn hfit (by show (if k = 0 then 1 else k + 2) < 6; split <;> omega) ?_ dp_frC hd k9
  rw [dp_xtx, u2_same]
  rcases (by omega : k = 0 ∨ k = 1 ∨ k = 2 ∨ k = 3) with rfl | rfl | rfl | rfl <;> rfl
theorem dp_asS (r : Nat) (k : dp_G E A p l e R s m args below meth co ce sl Q (dS M r (M r) (M (r + 20))) pc L st) : dp_G E A p l e R s m args below meth co ce sl Q M pc L st := by
  rw [dS_self] at k
  exact k
theorem dp_asC (k : dp_G E A p l e R s m args below meth co ce sl Q (dR M 7 (M 7)) pc L st) : dp_G E A p l e R s m args below meth co ce sl Q M pc L st := by
  rw [dR_self] at k
  exact k
theorem dp_asN (k : dp_G E A p l e R s m args below meth co ce sl Q (dN M (M 9) (M 8)) pc L st) : dp_G E A p l e R s m args below meth co ce sl Q M pc L st := by
  rw [dN_self] at k
  exact k
end DM
end
section
section DC
variable {E : dp_E} {A : Nat → Prop} {p : Program} {l : Launch} {e : Env} {R : Room} {s : State} {m : MethodId} {args : Array Value} {below : List Frame} {meth : Method} {co : Code} {ce sl : Nat} {Q : State → Prop} {cc : ByteArray} {own : String} {nL : Nat} {Ts : List Cond} {M : dp_M} {pc : Nat} {L : List (Option Value)} {st : List Value}
theorem dp_iald (C : dp_C E A p s m args meth co cc own nL Ts) {r c n j : Nat} {f : Nat → Int} {i : Int} (hm : (r, c) ∈ dp_ps E) (hx : dp_x E M r c = dp_ints (eI E) n f) (hi : 0 ≤ i ∧ i < n) (hn : n < 2147483648) (hj : i.toNat = j) (hd : decode cc pc = .ok (.iaload, 1)) (k : dp_G E A p l e R s m args below meth co ce sl Q M (pc + 1) L (.int (dp_I (f j)) :: st)) : dp_G E A p l e R s m args below meth co ce sl Q M pc L (.int (dp_I i) :: .ref (eAd E r c) :: st) := fun H locs ls hW hS hL => by
  obtain ⟨q0, hq⟩ := List.getElem?_of_mem hm
  subst hj
  refine va_iald C.1.1 C.1.2.1 C.2.2.2.2.1 hW.P q0 0 (cA := eI E) (n := n) (f := fun j => dp_I (f j)) (by rw [dp_ws_at hq, hx]; rfl) rfl (dp_in hi.1 hi.2 hn) hd ?_
  rw [dp_I_nat hi.1 (by omega)]
  exact k H locs ls hW hS hL
theorem dp_cald (C : dp_C E A p s m args meth co cc own nL Ts) {r c n j : Nat} {f : Nat → Int} {i : Int} (hm : (r, c) ∈ dp_ps E) (hx : dp_x E M r c = dp_ints (eC E) n f) (hi : 0 ≤ i ∧ i < n) (hn : n < 2147483648) (hj : i.toNat = j) (hd : decode cc pc = .ok (.caload, 1)) (k : dp_G E A p l e R s m args below meth co ce sl Q M (pc + 1) L (.int (dp_I (f j)) :: st)) : dp_G E A p l e R s m args below meth co ce sl Q M pc L (.int (dp_I i) :: .ref (eAd E r c) :: st) := fun H locs ls hW hS hL => by
  obtain ⟨q0, hq⟩ := List.getElem?_of_mem hm
  subst hj
  refine va_cald C.1.1 C.1.2.1 C.2.2.2.2.1 hW.P q0 1 (cA := eC E) (n := n) (f := fun j => dp_I (f j)) (by rw [dp_ws_at hq, hx]; rfl) rfl (dp_in hi.1 hi.2 hn) hd ?_
  rw [dp_I_nat hi.1 (by omega)]
  exact k H locs ls hW hS hL
theorem dp_ald_se (C : dp_C E A p s m args meth co cc own nL Ts) {r : Nat} {V Y : dp_V} (hr : r < 7) {j : Nat} {i : Int} (hi : 0 ≤ i ∧ i < 4) (hj : i.toNat = j) (hd : decode cc pc = .ok (.iaload, 1)) (k : dp_G E A p l e R s m args below meth co ce sl Q (dS M r V Y) (pc + 1) L (.int (dp_I (V 1 j)) :: st)) : dp_G E A p l e R s m args below meth co ce sl Q (dS M r V Y) pc L (.int (dp_I i) :: .ref (eAd E r 1) :: st) := dp_iald C (dp_mS hr (by decide)) (dp_xse hr) ⟨hi.1, by omega⟩ (by decide) hj hd k
theorem dp_ald_gu (C : dp_C E A p s m args meth co cc own nL Ts) {r : Nat} {V Y : dp_V} (hr : r < 7) {j : Nat} {i : Int} (hi : 0 ≤ i ∧ i < 31) (hj : i.toNat = j) (hd : decode cc pc = .ok (.iaload, 1)) (k : dp_G E A p l e R s m args below meth co ce sl Q (dS M r V Y) (pc + 1) L (.int (dp_I (V 2 j)) :: st)) : dp_G E A p l e R s m args below meth co ce sl Q (dS M r V Y) pc L (.int (dp_I i) :: .ref (eAd E r 2) :: st) := dp_iald C (dp_mS hr (by decide)) (dp_xgu hr) ⟨hi.1, by omega⟩ (by decide) hj hd k
theorem dp_ald_nu (C : dp_C E A p s m args meth co cc own nL Ts) {X : dp_V} {j : Nat} {i : Int} (hi : 0 ≤ i ∧ i < 6) (hj : i.toNat = j) (hd : decode cc pc = .ok (.iaload, 1)) (k : dp_G E A p l e R s m args below meth co ce sl Q (dR M 7 X) (pc + 1) L (.int (dp_I (X 5 j)) :: st)) : dp_G E A p l e R s m args below meth co ce sl Q (dR M 7 X) pc L (.int (dp_I i) :: .ref (eAd E 7 5) :: st) := dp_iald C (dp_mC (by decide)) dp_xnu ⟨hi.1, by omega⟩ (by decide) hj hd k
theorem dp_ald_sg (C : dp_C E A p s m args meth co cc own nL Ts) {X : dp_V} {j : Nat} {i : Int} (hi : 0 ≤ i ∧ i < 100) (hj : i.toNat = j) (hd : decode cc pc = .ok (.caload, 1)) (k : dp_G E A p l e R s m args below meth co ce sl Q (dR M 7 X) (pc + 1) L (.int (dp_I (X 4 j)) :: st)) : dp_G E A p l e R s m args below meth co ce sl Q (dR M 7 X) pc L (.int (dp_I i) :: .ref (eAd E 7 4) :: st) := dp_cald C (dp_mC (by decide)) dp_xsg ⟨hi.1, by omega⟩ (by decide) hj hd k
theorem gF_lt {V : dp_V} {f : Nat → Int} {i : Nat} (h : i < 53) : gF V f i = V (dp_ce i) (dp_sl i) := if_pos h
theorem gF_leg {V : dp_V} {f : Nat → Int} {i : Nat} (h : ¬ i < 53) : gF V f i = f (i - 53) := if_neg h
/-- g read: at j, which is number k9 of cell c9 -/
theorem dp_ald_g (C : dp_C E A p s m args meth co cc own nL Ts) {V X : dp_V} {i : Int} (j : Nat) {c9 k9 : Nat} (hi : i = j) (hlt : j < 53) (hc : dp_ce j = c9) (hk : dp_sl j = k9) (hd : decode cc pc = .ok (.iaload, 1)) (k : dp_G E A p l e R s m args below meth co ce sl Q (dN M V X) (pc + 1) L (.int (dp_I (V c9 k9)) :: st)) : dp_G E A p l e R s m args below meth co ce sl Q (dN M V X) pc L (.int (dp_I i) :: .ref (eAd E 8 0) :: st) := by
  subst hc
  subst hk
  refine dp_iald C (dp_mM (by decide)) dp_xlg (j := j) ⟨by omega, by omega⟩ (by decide) (by omega) hd ?_
  rw [gF_lt hlt]
  exact k
/-- a leg read -/
theorem dp_ald_l (C : dp_C E A p s m args meth co cc own nL Ts) {V X : dp_V} {i : Int} (j : Nat) (hi : i = 53 + j) (hlt : j < 2) (hd : decode cc pc = .ok (.iaload, 1)) (k : dp_G E A p l e R s m args below meth co ce sl Q (dN M V X) (pc + 1) L (.int (dp_I (X 0 j)) :: st)) : dp_G E A p l e R s m args below meth co ce sl Q (dN M V X) pc L (.int (dp_I i) :: .ref (eAd E 8 0) :: st) := by
  refine dp_iald C (dp_mM (by decide)) dp_xlg (j := 53 + j) ⟨by omega, by omega⟩ (by decide) (by omega) hd ?_
  rw [gF_leg (by omega), show 53 + j - 53 = j by omega]
  exact k
/-- q read: number k9 of target t -/
theorem dp_ald_q (C : dp_C E A p s m args meth co cc own nL Ts) {V X : dp_V} {i : Int} (t k9 : Nat) (hi : i = 14 * t + k9) (ht : t < 4) (hk : k9 < 14) (hd : decode cc pc = .ok (.iaload, 1)) (k : dp_G E A p l e R s m args below meth co ce sl Q (dN M V X) (pc + 1) L (.int (dp_I (V (t + 6) k9)) :: st)) : dp_G E A p l e R s m args below meth co ce sl Q (dN M V X) pc L (.int (dp_I i) :: .ref (eAd E 8 1) :: st) := by
  refine dp_iald C (dp_mM (by decide)) dp_xlq (j := 14 * t + k9) ⟨by omega, by omega⟩ (by decide) (by omega) hd ?_
  have e : qF V (14 * t + k9) = V (t + 6) k9 := by
    unfold qF
    rw [show (14 * t + k9) / 14 = t by omega, show (14 * t + k9) % 14 = k9 by omega]
  rw [e]
  exact k
/-- the counts read -/
theorem dp_ald_m (C : dp_C E A p s m args meth co cc own nL Ts) {V X : dp_V} {i : Int} (h9 : ¬ eAd E 9 0 = 0) (j : Nat) (hi : i = j) (hlt : j < 4) (hd : decode cc pc = .ok (.iaload, 1)) (k : dp_G E A p l e R s m args below meth co ce sl Q (dN M V X) (pc + 1) L (.int (dp_I (X 2 j)) :: st)) : dp_G E A p l e R s m args below meth co ce sl Q (dN M V X) pc L (.int (dp_I i) :: .ref (eAd E 8 2) :: st) := dp_iald C (dp_m2 h9) dp_xlm (j := j) ⟨by omega, by omega⟩ (by decide) (by omega) hd k
theorem dp_ints_upd {k : ClassId} {n : Nat} {f : Nat → Int} {i : Int} {x : Int} (h0 : 0 ≤ i) (h1 : i < 2147483648) : dp_ints k n (u1 f i.toNat x) = .inl (k, n, .inl (upd (fun j => dp_I (f j)) (dp_I i).toNatClampNeg (dp_I x))) := by
  unfold dp_ints
  rw [dp_I_nat h0 h1]
  congr 3
  congr 1
  funext j
  unfold u1 upd
  split <;> rfl
theorem dp_iast (C : dp_C E A p s m args meth co cc own nL Ts) {r c n : Nat} {f : Nat → Int} {i x : Int} {M' : dp_M} (hm : (r, c) ∈ dp_ps E) (hx : dp_x E M r c = dp_ints (eI E) n f) (hi : 0 ≤ i ∧ i < n) (hn : n < 2147483648) (hx' : dp_x E M' r c = dp_ints (eI E) n (u1 f i.toNat x)) (hf : ∀ r' c', (r', c') ∈ dp_ps E → (r', c') ≠ (r, c) → dp_x E M' r' c' = dp_x E M r' c') (hd : decode cc pc = .ok (.iastore, 1)) (k : dp_G E A p l e R s m args below meth co ce sl Q M' (pc + 1) L st) : dp_G E A p l e R s m args below meth co ce sl Q M pc L (.int (dp_I x) :: .int (dp_I i) :: .ref (eAd E r c) :: st) := fun H locs ls hW hS hL => by
  obtain ⟨q0, hq⟩ := List.getElem?_of_mem hm
  refine va_iast C.1.1 C.1.2.1 C.2.2.2.2.1 hW.P (dp_D C.2.2.1 C.2.2.2.1) hS q0 0 (cA := eI E) (n := n) (f := fun j => dp_I (f j)) (by rw [dp_ws_at hq, hx]; rfl) rfl (dp_in hi.1 hi.2 hn) hd (fun H1 locs1 hP hD hS1 => k H1 locs1 ls ?_ hS1 hL)
  exact dp_W.of_set hq hP (hx'.trans (dp_ints_upd hi.1 (by omega))) hf
theorem dp_nc {x : Int} (h0 : 0 ≤ x) (h1 : x < 65536) : narrow .char (.int (dp_I x)) = .int (dp_I x) := by
  show Value.int _ = Value.int _
  congr 1
  apply Int32.toBitVec_inj.mp
  apply BitVec.eq_of_toNat_eq
  have e : (dp_I x).toBitVec.toNat = x.toNat := by
    show (BitVec.ofInt 32 x).toNat = _
    rw [BitVec.toNat_ofInt]
    omega
  have e2 : (dp_I x).toUInt32.toUInt16.toUInt32.toInt32.toBitVec.toNat = ((dp_I x).toBitVec.toNat % 65536) := by
    show (((dp_I x).toBitVec.setWidth 16).setWidth 32).toNat = _
    rw [BitVec.toNat_setWidth, BitVec.toNat_setWidth]
    omega
  rw [e2, e]
  omega
theorem dp_nb {P : Prop} {_ : Decidable P} : narrow .boolean (.int (dp_I (dp_b P))) = .int (dp_I (dp_b P)) := by
  unfold dp_b
  by_cases h : P
  · rw [if_pos h]; decide
  · rw [if_neg h]; decide
theorem dp_cast (C : dp_C E A p s m args meth co cc own nL Ts) {r c n : Nat} {f : Nat → Int} {i x : Int} {M' : dp_M} (hm : (r, c) ∈ dp_ps E) (hx : dp_x E M r c = dp_ints (eC E) n f) (hi : 0 ≤ i ∧ i < n) (hn : n < 2147483648) (h0 : 0 ≤ x ∧ x < 65536) (hx' : dp_x E M' r c = dp_ints (eC E) n (u1 f i.toNat x)) (hf : ∀ r' c', (r', c') ∈ dp_ps E → (r', c') ≠ (r, c) → dp_x E M' r' c' = dp_x E M r' c') (hd : decode cc pc = .ok (.castore, 1)) (k : dp_G E A p l e R s m args below meth co ce sl Q M' (pc + 1) L st) : dp_G E A p l e R s m args below meth co ce sl Q M pc L (.int (dp_I x) :: .int (dp_I i) :: .ref (eAd E r c) :: st) := fun H locs ls hW hS hL => by
  obtain ⟨q0, hq⟩ := List.getElem?_of_mem hm
  have hnar : vp_nar .char (dp_I x) = dp_I x := Value.int.inj (dp_nc h0.1 h0.2)
  refine va_cast C.1.1 C.1.2.1 C.2.2.2.2.1 hW.P (dp_D C.2.2.1 C.2.2.2.1) hS q0 1 (cA := eC E) (n := n) (f := fun j => dp_I (f j)) (by rw [dp_ws_at hq, hx]; rfl) rfl (dp_in hi.1 hi.2 hn) hd (fun H1 locs1 hP hD hS1 => k H1 locs1 ls ?_ hS1 hL)
  rw [hnar] at hP
  exact dp_W.of_set hq hP (hx'.trans (dp_ints_upd hi.1 (by omega))) hf
theorem dp_ast_se (C : dp_C E A p s m args meth co cc own nL Ts) {r : Nat} {V Y : dp_V} (hr : r < 7) {j : Nat} {i x : Int} (hi : 0 ≤ i ∧ i < 4)  (hj : i.toNat = j) (hd : decode cc pc = .ok (.iastore, 1)) (k : dp_G E A p l e R s m args below meth co ce sl Q (dS M r (u2 V 1 j x) Y) (pc + 1) L st) : dp_G E A p l e R s m args below meth co ce sl Q (dS M r V Y) pc L (.int (dp_I x) :: .int (dp_I i) :: .ref (eAd E r 1) :: st) := by
  subst hj
  exact dp_iast C (dp_mS hr (by decide)) (dp_xse hr) ⟨hi.1, by omega⟩ (by decide)  (by rw [dp_xse hr, u2_same]) (dp_frS hr) hd k
theorem dp_ast_gu (C : dp_C E A p s m args meth co cc own nL Ts) {r : Nat} {V Y : dp_V} (hr : r < 7) {j : Nat} {i x : Int} (hi : 0 ≤ i ∧ i < 31)  (hj : i.toNat = j) (hd : decode cc pc = .ok (.iastore, 1)) (k : dp_G E A p l e R s m args below meth co ce sl Q (dS M r (u2 V 2 j x) Y) (pc + 1) L st) : dp_G E A p l e R s m args below meth co ce sl Q (dS M r V Y) pc L (.int (dp_I x) :: .int (dp_I i) :: .ref (eAd E r 2) :: st) := by
  subst hj
  exact dp_iast C (dp_mS hr (by decide)) (dp_xgu hr) ⟨hi.1, by omega⟩ (by decide)  (by rw [dp_xgu hr, u2_same]) (dp_frS hr) hd k
theorem dp_ast_nu (C : dp_C E A p s m args meth co cc own nL Ts) {X : dp_V} {j : Nat} {i x : Int} (hi : 0 ≤ i ∧ i < 6)  (hj : i.toNat = j) (hd : decode cc pc = .ok (.iastore, 1)) (k : dp_G E A p l e R s m args below meth co ce sl Q (dR M 7 (u2 X 5 j x)) (pc + 1) L st) : dp_G E A p l e R s m args below meth co ce sl Q (dR M 7 X) pc L (.int (dp_I x) :: .int (dp_I i) :: .ref (eAd E 7 5) :: st) := by
  subst hj
  exact dp_iast C (dp_mC (by decide)) dp_xnu ⟨hi.1, by omega⟩ (by decide)  (by rw [dp_xnu, u2_same]) dp_frC hd k
theorem dp_cst_sg (C : dp_C E A p s m args meth co cc own nL Ts) {X : dp_V} {j : Nat} {i x : Int} (hi : 0 ≤ i ∧ i < 100) (h0 : 0 ≤ x ∧ x < 65536) (hj : i.toNat = j) (hd : decode cc pc = .ok (.castore, 1)) (k : dp_G E A p l e R s m args below meth co ce sl Q (dR M 7 (u2 X 4 j x)) (pc + 1) L st) : dp_G E A p l e R s m args below meth co ce sl Q (dR M 7 X) pc L (.int (dp_I x) :: .int (dp_I i) :: .ref (eAd E 7 4) :: st) := by
  subst hj
  exact dp_cast C (dp_mC (by decide)) dp_xsg ⟨hi.1, by omega⟩ (by decide) h0 (by rw [dp_xsg, u2_same]) dp_frC hd k
theorem gF_put {V : dp_V} {f : Nat → Int} {j : Nat} {x : Int} (hj : j < 53) : gF (u2 V (dp_ce j) (dp_sl j) x) f = u1 (gF V f) j x := by
  funext i
  unfold u1
  by_cases h : i = j
  · subst h
    rw [if_pos rfl, gF_lt hj, u2_same, u1_same]
  · rw [if_neg h]
    by_cases hi : i < 53
    · rw [gF_lt hi, gF_lt hi]
      by_cases h1 : dp_ce i = dp_ce j
      · have h2 : dp_sl i ≠ dp_sl j := fun z => h (dp_cs_inj hi hj h1 z)
        rw [h1, u2_same, u1_ne h2]
      · rw [u2_ne h1]
    · rw [gF_leg hi, gF_leg hi]
theorem gF_pul {V : dp_V} {f : Nat → Int} {j : Nat} {x : Int} : gF V (u1 f j x) = u1 (gF V f) (53 + j) x := by
  funext i
  unfold u1
  by_cases h : i = 53 + j
  · subst h
    rw [if_pos rfl, gF_leg (by omega), if_pos (by omega)]
  · rw [if_neg h]
    by_cases hi : i < 53
    · rw [gF_lt hi, gF_lt hi]
    · rw [gF_leg hi, gF_leg hi, if_neg (by omega)]
theorem qF_put {V : dp_V} {t k9 : Nat} {x : Int} (hk : k9 < 14) : qF (u2 V (t + 6) k9 x) = u1 (qF V) (14 * t + k9) x := by
  funext i
  unfold u1 qF
  by_cases h : i = 14 * t + k9
  · subst h
    rw [if_pos rfl, show (14 * t + k9) / 14 = t by omega, show (14 * t + k9) % 14 = k9 by omega, u2_same, u1_same]
  · rw [if_neg h]
    by_cases h1 : i / 14 + 6 = t + 6
    · have h2 : i % 14 ≠ k9 := fun z => h (by omega)
      rw [h1, u2_same, u1_ne h2]
    · rw [u2_ne h1]
/-- g put -/
theorem dp_ast_g (C : dp_C E A p s m args meth co cc own nL Ts) {V X : dp_V} {i x : Int} (j : Nat) {c9 k9 : Nat} (hi : i = j) (hlt : j < 53) (hc : dp_ce j = c9) (hk : dp_sl j = k9) (hd : decode cc pc = .ok (.iastore, 1)) (k : dp_G E A p l e R s m args below meth co ce sl Q (dN M (u2 V c9 k9 x) X) (pc + 1) L st) : dp_G E A p l e R s m args below meth co ce sl Q (dN M V X) pc L (.int (dp_I x) :: .int (dp_I i) :: .ref (eAd E 8 0) :: st) := by
  subst hc
  subst hk
  refine dp_iast C (dp_mM (by decide)) dp_xlg ⟨by omega, by omega⟩ (by decide) (by rw [dp_xlg, gF_put hlt, show i.toNat = j by omega]) (dp_frM (Or.inl ⟨rfl, fun c hc => u2_ne (by have := dp_ce5 j; omega), fun _ _ => rfl⟩)) hd k
/-- a leg put -/
theorem dp_ast_l (C : dp_C E A p s m args meth co cc own nL Ts) {V X : dp_V} {i x : Int} (j : Nat) (hi : i = 53 + j) (hlt : j < 2) (hd : decode cc pc = .ok (.iastore, 1)) (k : dp_G E A p l e R s m args below meth co ce sl Q (dN M V (u2 X 0 j x)) (pc + 1) L st) : dp_G E A p l e R s m args below meth co ce sl Q (dN M V X) pc L (.int (dp_I x) :: .int (dp_I i) :: .ref (eAd E 8 0) :: st) := by
  refine dp_iast C (dp_mM (by decide)) dp_xlg ⟨by omega, by omega⟩ (by decide) (by rw [dp_xlg, u2_same, gF_pul, show i.toNat = 53 + j by omega]) (dp_frM (Or.inl ⟨rfl, fun _ _ => rfl, fun c hc => u2_ne hc⟩)) hd k
/-- q put -/
theorem dp_ast_q (C : dp_C E A p s m args meth co cc own nL Ts) {V X : dp_V} {i x : Int} (t k9 : Nat) (hi : i = 14 * t + k9) (ht : t < 4) (hk : k9 < 14) (hd : decode cc pc = .ok (.iastore, 1)) (k : dp_G E A p l e R s m args below meth co ce sl Q (dN M (u2 V (t + 6) k9 x) X) (pc + 1) L st) : dp_G E A p l e R s m args below meth co ce sl Q (dN M V X) pc L (.int (dp_I x) :: .int (dp_I i) :: .ref (eAd E 8 1) :: st) := by
  refine dp_iast C (dp_mM (by decide)) dp_xlq ⟨by omega, by omega⟩ (by decide) (by rw [dp_xlq, qF_put hk, show i.toNat = 14 * t + k9 by omega]) (dp_frM (Or.inr ⟨rfl, fun c hc => u2_ne (by omega), rfl⟩)) hd k
/-- a count put -/
theorem dp_ast_m (C : dp_C E A p s m args meth co cc own nL Ts) {V X : dp_V} {i x : Int} (h9 : ¬ eAd E 9 0 = 0) (j : Nat) (hi : i = j) (hlt : j < 4) (hd : decode cc pc = .ok (.iastore, 1)) (k : dp_G E A p l e R s m args below meth co ce sl Q (dN M V (u2 X 2 j x)) (pc + 1) L st) : dp_G E A p l e R s m args below meth co ce sl Q (dN M V X) pc L (.int (dp_I x) :: .int (dp_I i) :: .ref (eAd E 8 2) :: st) := by
  refine dp_iast C (dp_m2 h9) dp_xlm ⟨by omega, by omega⟩ (by decide) (by rw [dp_xlm, u2_same, show i.toNat = j by omega]) (dp_frN (c := 2) (fun c hc => u2_ne hc) (Or.inr rfl)) hd k
theorem dp_ceA {a k : Nat} (ha : a < 2) (hk : k < 7) : dp_ce (8 + 7 * a + k) = a + 3 ∧ dp_sl (8 + 7 * a + k) = k := by
  unfold dp_ce dp_sl
  rcases (by omega : a = 0 ∨ a = 1) with rfl | rfl
  · rw [if_neg (by omega), if_neg (by omega), if_pos (by omega), if_neg (by omega), if_neg (by omega), if_pos (by omega)]
    omega
  · rw [if_neg (by omega), if_neg (by omega), if_neg (by omega), if_pos (by omega), if_neg (by omega), if_neg (by omega), if_neg (by omega), if_pos (by omega)]
    omega
theorem dp_ceU {d : Nat} (hd : d < 31) : dp_ce (22 + d) = 2 ∧ dp_sl (22 + d) = d := by
  unfold dp_ce dp_sl
  repeat rw [if_neg (by omega)]
  exact ⟨rfl, by omega⟩
theorem dp_aald (C : dp_C E A p s m args meth co cc own nL Ts) {r c n t0 : Nat} {cA : ClassId} {Cn : String} {f : Nat → Nat} {i : Int} (hm : (r, c) ∈ dp_ps E) (hx : dp_x E M r c = dp_refs cA n f) (ht : (dp_ty E)[t0]? = some (cA, .object Cn)) (hi : 0 ≤ i ∧ i < n) (hn : n < 2147483648) (hd : decode cc pc = .ok (.aaload, 1)) (k : dp_G E A p l e R s m args below meth co ce sl Q M (pc + 1) L (.ref (f i.toNat) :: st)) : dp_G E A p l e R s m args below meth co ce sl Q M pc L (.int (dp_I i) :: .ref (eAd E r c) :: st) := fun H locs ls hW hS hL => by
  obtain ⟨q0, hq⟩ := List.getElem?_of_mem hm
  refine va_aldq C.1.1 C.1.2.1 C.2.2.2.2.1 hW.P q0 t0 (cA := cA) (C := Cn) (n := n) (f := fun j => some (f j)) (by rw [dp_ws_at hq, hx]; rfl) ht (dp_in hi.1 hi.2 hn) hd ?_
  rw [dp_I_nat hi.1 (by omega)]
  exact k H locs ls hW hS hL
theorem dp_aald_t (C : dp_C E A p s m args meth co cc own nL Ts) {r : Nat} {i : Int} (hr : r < 7) (hi : 0 ≤ i ∧ i < 10) {t : Nat} (ht : i.toNat = t) (hd : decode cc pc = .ok (.aaload, 1)) (k : dp_G E A p l e R s m args below meth co ce sl Q M (pc + 1) L (.ref (eAd E r (t + 6)) :: st)) : dp_G E A p l e R s m args below meth co ce sl Q M pc L (.int (dp_I i) :: .ref (eAd E r 5) :: st) := by
  subst ht
  exact dp_aald C (t0 := 2) (Cn := "DishPointer$Target") (f := fun t => eAd E r (t + 6)) (dp_mS hr (by omega)) (by rw [dp_x_S hr]; rfl) rfl hi (by decide) hd k
theorem dp_aald_s (C : dp_C E A p s m args meth co cc own nL Ts) {X : dp_V} {i : Int} {j : Nat} (hi : 0 ≤ i ∧ i < 5) (hj : i.toNat = j) (hd : decode cc pc = .ok (.aaload, 1)) (k : dp_G E A p l e R s m args below meth co ce sl Q (dR M 7 X) (pc + 1) L (.ref (eAd E (X 2 j).toNat 0) :: st)) : dp_G E A p l e R s m args below meth co ce sl Q (dR M 7 X) pc L (.int (dp_I i) :: .ref (eAd E 7 2) :: st) := by
  subst hj
  exact dp_aald C (t0 := 3) (Cn := "DishPointer$State") (f := fun i => eAd E (X 2 i).toNat 0) (dp_mC (by omega)) (by rw [dp_x_C]; unfold dp_xC; rw [dR_same]; rfl) rfl hi (by decide) hd k
theorem dp_aast_s (C : dp_C E A p s m args meth co cc own nL Ts) {X : dp_V} {i : Int} {r j : Nat} (hi : 0 ≤ i ∧ i < 5) (hj : i.toNat = j) (hr : r < 7) (hd : decode cc pc = .ok (.aastore, 1)) (k : dp_G E A p l e R s m args below meth co ce sl Q (dR M 7 (u2 X 2 j r)) (pc + 1) L st) : dp_G E A p l e R s m args below meth co ce sl Q (dR M 7 X) pc L (.ref (eAd E r 0) :: .int (dp_I i) :: .ref (eAd E 7 2) :: st) := fun H locs ls hW hS hL => by
  subst hj
  obtain ⟨q0, hq⟩ := List.getElem?_of_mem (dp_mC (c := 2) (by omega))
  obtain ⟨q1, hq1⟩ := List.getElem?_of_mem (dp_mS (r := r) (c := 0) hr (by omega))
  refine va_astq C.1.1 C.1.2.1 C.2.2.2.2.1 hW.P (dp_D C.2.2.1 C.2.2.2.1) hS q0 3 q1 2 (cA := eS E) (r := (RX2, TX2, 11)) (n := 5) (v := eAd E r 0) (f := fun j => some (eAd E (X 2 j).toNat 0)) (by rw [dp_ws_at hq, dp_x_C]; unfold dp_xC; rw [dR_same]; rfl) rfl (by rw [dp_ws_at hq1, dp_xst0 hr]) rfl (dp_in hi.1 hi.2 (by decide)) hd (fun H1 locs1 hP hD hS1 => k H1 locs1 ls ?_ hS1 hL)
  refine dp_W.of_set hq hP ?_ dp_frC
  rw [dp_x_C, dp_I_nat hi.1 (by omega)]
  show dp_refs _ _ _ = _
  unfold dp_refs
  congr 7
  funext j
  rw [dR_same, u2_same]
  unfold u1 va_up
  by_cases h : j = i.toNat
  · simp [h]
  · simp [h]
theorem dp_alen (C : dp_C E A p s m args meth co cc own nL Ts) {r c n t0 : Nat} {cA : ClassId} {y : (Nat → Int32) ⊕ (Nat → Int64) ⊕ (Nat → UInt32) ⊕ (Nat → UInt64) ⊕ (Nat → Option Nat)} {ty : FieldType} (hm : (r, c) ∈ dp_ps E) (n9 : Int) (hx : dp_x E M r c = .inl (cA, n, y)) (ht : (dp_ty E)[t0]? = some (cA, ty)) (hn9 : (n : Int) = n9) (hd : decode cc pc = .ok (.arraylength, 1)) (k : dp_G E A p l e R s m args below meth co ce sl Q M (pc + 1) L (.int (dp_I n9) :: st)) : dp_G E A p l e R s m args below meth co ce sl Q M pc L (.ref (eAd E r c) :: st) := fun H locs ls hW hS hL => by
  obtain ⟨q0, hq⟩ := List.getElem?_of_mem hm
  subst hn9
  refine va_alen C.1.1 C.1.2.1 C.2.2.2.2.1 hW.P q0 t0 (cA := cA) (x := (n, y)) (by rw [dp_ws_at hq, hx]) ht (v := dp_I n) ?_ hd (k H locs ls hW hS hL)
  exact Int32.ofInt_eq_ofNat.symm
theorem dp_gets (C : dp_C E A p s m args meth co cc own nL Ts) {n d : String} {ty : FieldType} {t N i : Nat} {f : Nat → Int} (hZ : dp_Z1 A n d ty t N f s s.heap) (hl : Cond.fieldLink own i "DishPointer" n d ∈ Ts) (hd : decode cc pc = .ok (.getstatic i, 3)) (k : dp_G E A p l e R s m args below meth co ce sl Q M (pc + 3) L (.ref t :: st)) : dp_G E A p l e R s m args below meth co ce sl Q M pc L st := fun H locs ls hW hS hL => va_gets C.1.1 C.1.2.1 hZ.1 hS C.1.2.2.2.1 (C.1.2.2.2.2 _ hl) (fun _ h => h) hd (k H locs ls hW hS hL)
theorem dp_tlen (C : dp_C E A p s m args meth co cc own nL Ts) {n d : String} {ty : FieldType} {t N : Nat} {f : Nat → Int} (n9 : Int) (hZ : dp_Z1 A n d ty t N f s s.heap) (hn9 : (N : Int) = n9) (hd : decode cc pc = .ok (.arraylength, 1)) (k : dp_G E A p l e R s m args below meth co ce sl Q M (pc + 1) L (.int (dp_I n9) :: st)) : dp_G E A p l e R s m args below meth co ce sl Q M pc L (.ref t :: st) := fun H locs ls hW hS hL => by
  subst hn9
  exact va_tlen C.1.1 C.1.2.1 hZ.2 hS (v := dp_I N) Int32.ofInt_eq_ofNat.symm hd (k H locs ls hW hS hL)
theorem dp_tald (C : dp_C E A p s m args meth co cc own nL Ts) {n d : String} {t N j : Nat} {f : Nat → Int} {i : Int} (hZ : dp_Z1 A n d .int t N f s s.heap) (hi : 0 ≤ i ∧ i < N) (hN : N < 2147483648) (hj : i.toNat = j) (hd : decode cc pc = .ok (.iaload, 1)) (k : dp_G E A p l e R s m args below meth co ce sl Q M (pc + 1) L (.int (dp_I (f j)) :: st)) : dp_G E A p l e R s m args below meth co ce sl Q M pc L (.int (dp_I i) :: .ref t :: st) := fun H locs ls hW hS hL => va_ti C.1.1 C.1.2.1 hZ.2 hS (dp_in hi.1 hi.2 hN) (v := .int (dp_I (f j))) (by rw [dp_I_nat hi.1 (by omega), hj]) hd (k H locs ls hW hS hL)
theorem dp_tcld (C : dp_C E A p s m args meth co cc own nL Ts) {n d : String} {t N j : Nat} {f : Nat → Int} {i : Int} (hZ : dp_Z1 A n d .char t N f s s.heap) (hi : 0 ≤ i ∧ i < N) (hN : N < 2147483648) (hj : i.toNat = j) (hd : decode cc pc = .ok (.caload, 1)) (k : dp_G E A p l e R s m args below meth co ce sl Q M (pc + 1) L (.int (dp_I (f j)) :: st)) : dp_G E A p l e R s m args below meth co ce sl Q M pc L (.int (dp_I i) :: .ref t :: st) := fun H locs ls hW hS hL => va_tc C.1.1 C.1.2.1 hZ.2 hS (dp_in hi.1 hi.2 hN) (v := .int (dp_I (f j))) (by rw [dp_I_nat hi.1 (by omega), hj]) hd (k H locs ls hW hS hL)
theorem dp_mmax (C : dp_C E A p s m args meth co cc own nL Ts) {i : Nat} {x y : Int} (hx : dp_R x) (hy : dp_R y) (h1 : Cond.methodLink own i Lib.Math.max.name ∈ Ts) (h2 : Cond.static Lib.Math.max.name ∈ Ts) (h3 : Cond.initialized "java/lang/Math" ∈ Ts) (h4 : Cond.code Lib.Math.max.name Lib.Math.max.code 2 (some .int) ∈ Ts) (hf : 1 ≤ R.frames) (hlo : 21 ≤ R.locals) (hcat : (st.map fun v => v.category).sum ≤ 8) (hL0 : L.length = nL) (hce : ce ≤ R.cells ∧ sl ≤ R.slots) (hd : decode cc pc = .ok (.invokestatic i, 3)) (k : dp_G E A p l e R s m args below meth co ce sl Q M (pc + 3) L (.int (dp_I (if x < y then y else x)) :: st)) : dp_G E A p l e R s m args below meth co ce sl Q M pc L (.int (dp_I y) :: .int (dp_I x) :: st) := fun H locs ls hW hS hL => by
  refine va_mmax C.1.1 C.1.2.1 (by rw [hL.1, hL0]; exact C.1.2.2.1) C.1.2.2.2.1 (C.1.2.2.2.2 _ h1) (C.1.2.2.2.2 _ h2) (C.1.2.2.2.2 _ h3) (C.1.2.2.2.2 _ h4) hf (by omega) hce.1 hce.2 hd ?_
  have e := k H locs ls hW hS hL
  by_cases h : x < y
  · rw [if_pos h] at e
    rw [if_pos ((dp_I_lt hx hy).mpr h)]
    exact e
  · rw [if_neg h] at e
    rw [if_neg (fun q => h ((dp_I_lt hx hy).mp q))]
    exact e
theorem dp_mmin (C : dp_C E A p s m args meth co cc own nL Ts) {i : Nat} {x y : Int} (hx : dp_R x) (hy : dp_R y) (h1 : Cond.methodLink own i Lib.Math.min.name ∈ Ts) (h2 : Cond.static Lib.Math.min.name ∈ Ts) (h3 : Cond.initialized "java/lang/Math" ∈ Ts) (h4 : Cond.code Lib.Math.min.name Lib.Math.min.code 2 (some .int) ∈ Ts) (hf : 1 ≤ R.frames) (hlo : 21 ≤ R.locals) (hcat : (st.map fun v => v.category).sum ≤ 8) (hL0 : L.length = nL) (hce : ce ≤ R.cells ∧ sl ≤ R.slots) (hd : decode cc pc = .ok (.invokestatic i, 3)) (k : dp_G E A p l e R s m args below meth co ce sl Q M (pc + 3) L (.int (dp_I (if y < x then y else x)) :: st)) : dp_G E A p l e R s m args below meth co ce sl Q M pc L (.int (dp_I y) :: .int (dp_I x) :: st) := fun H locs ls hW hS hL => by
  refine va_mmin C.1.1 C.1.2.1 (by rw [hL.1, hL0]; exact C.1.2.2.1) C.1.2.2.2.1 (C.1.2.2.2.2 _ h1) (C.1.2.2.2.2 _ h2) (C.1.2.2.2.2 _ h3) (C.1.2.2.2.2 _ h4) hf (by omega) hce.1 hce.2 hd ?_
  have e := k H locs ls hW hS hL
  by_cases h : y < x
  · rw [if_pos h] at e
    rw [if_pos ((dp_I_lt hy hx).mpr h)]
    exact e
  · rw [if_neg h] at e
    rw [if_neg (fun q => h ((dp_I_lt hy hx).mp q))]
    exact e
theorem dp_mabs (C : dp_C E A p s m args meth co cc own nL Ts) {i : Nat} {x : Int} (hx : dp_R x) (h1 : Cond.methodLink own i Lib.Math.abs.name ∈ Ts) (h2 : Cond.static Lib.Math.abs.name ∈ Ts) (h3 : Cond.initialized "java/lang/Math" ∈ Ts) (h4 : Cond.code Lib.Math.abs.name Lib.Math.abs.code 1 (some .int) ∈ Ts) (hf : 1 ≤ R.frames) (hlo : 21 ≤ R.locals) (hcat : (st.map fun v => v.category).sum ≤ 8) (hL0 : L.length = nL) (hce : ce ≤ R.cells ∧ sl ≤ R.slots) (hd : decode cc pc = .ok (.invokestatic i, 3)) (k : dp_G E A p l e R s m args below meth co ce sl Q M (pc + 3) L (.int (dp_I (if x < 0 then -x else x)) :: st)) : dp_G E A p l e R s m args below meth co ce sl Q M pc L (.int (dp_I x) :: st) := fun H locs ls hW hS hL => by
  refine va_mabs C.1.1 C.1.2.1 (by rw [hL.1, hL0]; exact C.1.2.2.1) C.1.2.2.2.1 (C.1.2.2.2.2 _ h1) (C.1.2.2.2.2 _ h2) (C.1.2.2.2.2 _ h3) (C.1.2.2.2.2 _ h4) hf (by omega) hce.1 hce.2 hd ?_
  have e := k H locs ls hW hS hL
  by_cases h : x < 0
  · rw [if_pos h] at e
    rw [if_neg (fun q => by rw [dp_I_z, dp_I_le dp_R0 hx] at q; omega), dp_I_z, dp_I_sub]
    rw [show (0 : Int) - x = -x by omega]
    exact e
  · rw [if_neg h] at e
    rw [if_pos (by rw [dp_I_z, dp_I_le dp_R0 hx]; omega)]
    exact e
def dp_qi (E : dp_E) (P : Int → dp_M → Prop) : Array Value → State → Outcome → State → Prop := va_Qi (fun (y : Int32) (M' : dp_M) => ∃ x, y = dp_I x ∧ P x M') (dp_B E) (dp_A E)
def dp_qv (E : dp_E) (P : dp_M → Prop) : Array Value → State → Outcome → State → Prop := va_Qv P (dp_B E) (dp_A E)
def dp_qr (E : dp_E) (P : Nat → Nat → dp_M → Prop) : Array Value → State → Outcome → State → Prop := va_Qr (fun (u : Nat × Nat × dp_M) => P u.1 u.2.1 u.2.2) (fun u a t => a = eAd E u.1 u.2.1 ∧ dp_B E u.2.2 t) (dp_A E)
def dp_rm (fr lo : Nat) : Room := { frames := fr, cells := 0, slots := 0, locals := lo }
def dp_met (E : dp_E) (l : Launch) (y : MethodName) (ws : List Cond) (fr lo : Nat) (av : List Value) (M : dp_M) (Qc : Array Value → State → Outcome → State → Prop) : Prop := Met l y ws (dp_rm fr lo) (va_Pc av (dp_B E M)) Qc 0 0 (dp_A E)
theorem dp_args {av : List Value} (hcat : ∀ v ∈ av, v.category = 1) : lg_sl av = av.map .val ∧ ∀ (i j : Nat) (v : Value), av[j]? = some v → (i + j, v) ∈ lv_args i av := by
  induction av with
  | nil => exact ⟨rfl, fun i j v h => by simp at h⟩
  | cons a av ih =>
    have ha : a.category = 1 := hcat a List.mem_cons_self
    obtain ⟨h1, h2⟩ := ih (fun v hv => hcat v (List.mem_cons_of_mem _ hv))
    refine ⟨?_, fun i j v h => ?_⟩
    · have e : lg_sl (a :: av) = .val a :: lg_sl av := by simp [lg_sl, ha]
      rw [e, h1]
      rfl
    · have e : lv_args i (a :: av) = (i, a) :: lv_args (i + 1) av := by simp [lv_args, ha]
      rw [e]
      cases j with
      | zero =>
        simp at h
        subst h
        exact List.mem_cons_self
      | succ j =>
        have h3 := h2 (i + 1) j v (by simpa using h)
        rw [show i + (j + 1) = i + 1 + j by omega]
        exact List.mem_cons_of_mem _ h3
theorem dp_entry {av : List Value} {n : Nat} (hcat : ∀ v ∈ av, v.category = 1) (hlen : av.length ≤ n) : dp_L ((lg_sl av ++ List.replicate (n - (lg_sl av).length) Slot.unset).toArray) (av.map some ++ List.replicate (n - av.length) none) := by
  obtain ⟨h1, h2⟩ := dp_args hcat
  have hl : (lg_sl av).length = av.length := by rw [h1, List.length_map]
  have h := lv_entry av (n := n) (by omega)
  refine ⟨by rw [h.1]; simp; omega, h.2.1, fun i v hi => ?_⟩
  have hi2 : av[i]? = some v := by
    rcases Nat.lt_or_ge i av.length with q | q
    · rw [List.getElem?_append_left (by simpa using q), List.getElem?_map] at hi
      cases hv : av[i]? with
      | none => rw [hv] at hi; cases hi
      | some w => rw [hv] at hi; cases hi; rfl
    · rw [List.getElem?_append_right (by simpa using q)] at hi
      have := List.eq_of_mem_replicate (List.mem_of_getElem? hi)
      cases this
  have h3 := h2 0 i v hi2
  rw [Nat.zero_add] at h3
  exact h.2.2 _ h3
theorem dp_of {y : MethodName} {ws ws' : List Cond} {ret : Option FieldType} {fr lo : Nat} {av : List Value} {Qc : Array Value → State → Outcome → State → Prop} (hy : plainName y.cls = true) (ho : y.cls = own) (hw : ws = Cond.code y cc nL ret :: ws') (hok : dp_OK E) (hcat : ∀ v ∈ av, v.category = 1) (hlen : av.length ≤ nL)
    (body : ∀ (p : Program) (e : Env) (s : State) (m : MethodId) (below : List Frame) (meth : Method) (co : Code), dp_C E (dp_A E) p s m av.toArray meth co cc own nL ws → meth.sig.returnType = ret → dp_G E (dp_A E) p l e (dp_rm fr lo) s m av.toArray below meth co 0 0 (MQ below Qc av.toArray s 0 0 (dp_A E)) M 0 (av.map some ++ List.replicate (nL - av.length) none) []) : dp_met E l y ws fr lo av M Qc := by
  refine Met.ofW (cc := cc) (maxL := nL) (ret := ret) hy hw ?_
  intro p e s m args below meth c s₁ B hml hv
  obtain ⟨rfl, hWd, hK, hZ⟩ := hv
  have hts := atoms_spec (ws := ws) B.pre
  have hown : s.vm.findClass own = some m.cls := by rw [← ho]; exact findClass_of_methodNamed B.named
  rw [lg_entry_eq]
  exact body p e s m below meth c ⟨⟨B.exec, B.bytes, hml, hown, hts⟩, B.notSynchronized, hok, fun _ h => h, hK, hZ⟩ B.returns s.heap [] _ hWd va_S.rf (dp_entry hcat hlen)
theorem dp_blind {E : dp_E} {M : dp_M} {av : List Value} : FrameBlind (va_Pc av (dp_B E M)) := fun a U g mk q => ⟨q.1, q.2.calling g mk a⟩
theorem dp_pre {E : dp_E} {A : Nat → Prop} {M : dp_M} {s : State} {H : Heap} {locs : List Loc} {av : List Value} (hA : ∀ q, dp_A E q → A q) (hK : dp_K E s) (hZ : dp_Z E A s s.heap) (hW : dp_W E M H) (hS : va_S A s.heap H locs) : ∀ U : State, U.heap = H → s.WarmedH U.vm → va_Pc av (dp_B E M) av.toArray U := fun U hU hWm => ⟨rfl, by rw [hU]; exact hW, va_K.moved hWm.alike hK, by rw [hU]; exact hZ.mv hWm.alike (fun q => q.warm hWm) hS.2.1 hA⟩
theorem dp_cVi (C : dp_C E A p s m args meth co cc own nL Ts) {y : MethodName} {ws ws' : List Cond} {fr lo maxL i n : Nat} {bytes : ByteArray} {ret : Option FieldType} {As rest : List Value} {r c ci N : Nat} {fs : List Value} {Cn : String} {T : u_T} {P : Int → dp_M → Prop} (hM : dp_met E l y ws fr lo (.ref (eAd E r c) :: As) M (dp_qi E P)) (hG : GoodIn Ts (wsV own i Cn y ws)) (hw : ws = Cond.code y bytes maxL ret :: ws') (hm : (r, c) ∈ dp_ps E) (hx : dp_x E M r c = .inr (ci, fs)) (hc : vwCl[ci]? = some (Cn, T, N)) (hdy : y.cls = Cn ∧ y.cls ≠ "java/lang/invoke/MethodHandle" ∧ y.cls ≠ "java/lang/invoke/VarHandle" ∧ (parseMethodDescriptor y.desc).map (fun d => d.parameters.length) = some n) (hn : As.length = n) (hR : fr + 1 ≤ R.frames ∧ 8 + (maxL + 11) + lo ≤ R.locals) (hst : st = As.reverse ++ .ref (eAd E r c) :: rest) (hcat : (rest.map fun v => v.category).sum ≤ 8) (hL0 : L.length = nL) (hce : ce ≤ R.cells ∧ sl ≤ R.slots) (hd : decode cc pc = .ok (.invokevirtual i, 3)) (k : ∀ x M1, P x M1 → dp_G E A p l e R s m args below meth co ce sl Q M1 (pc + 3) L (.int (dp_I x) :: rest)) : dp_G E A p l e R s m args below meth co ce sl Q M pc L st := fun H locs ls hW hS hL => by
  obtain ⟨q0, hq⟩ := List.getElem?_of_mem hm
  subst hst
  have hr := va_runV (e := e) (below := below) (meth := meth) (locs := locs) (cells := ce) (slots := sl) (As := As) (rest := rest) (g := F0 m pc ls (As.reverse ++ .ref (eAd E r c) :: rest)) C.1 hM (cwV n C.1.2.2.2.2 hG hw rfl rfl hdy hR) ⟨dp_blind, va_recv C.2.2.2.2.1 hW.P (q0 := q0) (fs := fs) hc (by rw [dp_ws_at hq, hx]), dp_pre C.2.2.2.1 C.2.2.2.2.1 C.2.2.2.2.2 hW hS⟩ rfl hn (by rw [hL.1, hL0]) rfl (lv_room hcat) hd ⟨hce.1, hce.2⟩
  refine va_calli hr hS (fun q _ h => C.2.2.2.1 q h) (fun q h => C.2.2.2.1 q h) (fun y9 u t H1 locs1 ht hvm hw9 hB hz1 hk1 hS1 => ?_)
  obtain ⟨x, rfl, hp⟩ := hw9
  exact k x u hp H1 locs1 ls (by rw [← ht]; exact hB.1) hS1 hL
theorem dp_cSi (C : dp_C E A p s m args meth co cc own nL Ts) {y : MethodName} {ws ws' : List Cond} {fr lo maxL i n : Nat} {bytes : ByteArray} {ret : Option FieldType} {As rest : List Value} {P : Int → dp_M → Prop} (hM : dp_met E l y ws fr lo As M (dp_qi E P)) (hG : GoodIn Ts (va_wsS own i y ws)) (hw : ws = Cond.code y bytes maxL ret :: ws') (hdy : y.cls ≠ "java/lang/invoke/MethodHandle" ∧ y.cls ≠ "java/lang/invoke/VarHandle" ∧ (parseMethodDescriptor y.desc).map (fun d => d.parameters.length) = some n) (hn : As.length = n) (hR : fr + 1 ≤ R.frames ∧ 8 + (maxL + 11) + lo ≤ R.locals) (hst : st = As.reverse ++ rest) (hcat : (rest.map fun v => v.category).sum ≤ 8) (hL0 : L.length = nL) (hce : ce ≤ R.cells ∧ sl ≤ R.slots) (hd : decode cc pc = .ok (.invokestatic i, 3)) (k : ∀ x M1, P x M1 → dp_G E A p l e R s m args below meth co ce sl Q M1 (pc + 3) L (.int (dp_I x) :: rest)) : dp_G E A p l e R s m args below meth co ce sl Q M pc L st := fun H locs ls hW hS hL => by
  subst hst
  have hr := va_runS (e := e) (below := below) (meth := meth) (locs := locs) (cells := ce) (slots := sl) (As := As) (rest := rest) (g := F0 m pc ls (As.reverse ++ rest)) C.1 hM (va_cwS n C.1.2.2.2.2 hG hw rfl rfl hdy hR) ⟨dp_blind, dp_pre C.2.2.2.1 C.2.2.2.2.1 C.2.2.2.2.2 hW hS⟩ rfl hn (by rw [hL.1, hL0]) rfl (lv_room hcat) hd ⟨hce.1, hce.2⟩
  refine va_calli hr hS (fun q _ h => C.2.2.2.1 q h) (fun q h => C.2.2.2.1 q h) (fun y9 u t H1 locs1 ht hvm hw9 hB hz1 hk1 hS1 => ?_)
  obtain ⟨x, rfl, hp⟩ := hw9
  exact k x u hp H1 locs1 ls (by rw [← ht]; exact hB.1) hS1 hL
theorem dp_cVv (C : dp_C E A p s m args meth co cc own nL Ts) {y : MethodName} {ws ws' : List Cond} {fr lo maxL i n : Nat} {bytes : ByteArray} {ret : Option FieldType} {As rest : List Value} {r c ci N : Nat} {fs : List Value} {Cn : String} {T : u_T} {P : dp_M → Prop} (hM : dp_met E l y ws fr lo (.ref (eAd E r c) :: As) M (dp_qv E P)) (hG : GoodIn Ts (wsV own i Cn y ws)) (hw : ws = Cond.code y bytes maxL ret :: ws') (hm : (r, c) ∈ dp_ps E) (hx : dp_x E M r c = .inr (ci, fs)) (hc : vwCl[ci]? = some (Cn, T, N)) (hdy : y.cls = Cn ∧ y.cls ≠ "java/lang/invoke/MethodHandle" ∧ y.cls ≠ "java/lang/invoke/VarHandle" ∧ (parseMethodDescriptor y.desc).map (fun d => d.parameters.length) = some n) (hn : As.length = n) (hR : fr + 1 ≤ R.frames ∧ 8 + (maxL + 11) + lo ≤ R.locals) (hst : st = As.reverse ++ .ref (eAd E r c) :: rest) (hcat : (rest.map fun v => v.category).sum ≤ 8) (hL0 : L.length = nL) (hce : ce ≤ R.cells ∧ sl ≤ R.slots) (hd : decode cc pc = .ok (.invokevirtual i, 3)) (k : ∀ M1, P M1 → dp_G E A p l e R s m args below meth co ce sl Q M1 (pc + 3) L rest) : dp_G E A p l e R s m args below meth co ce sl Q M pc L st := fun H locs ls hW hS hL => by
  obtain ⟨q0, hq⟩ := List.getElem?_of_mem hm
  subst hst
  have hr := va_runV (e := e) (below := below) (meth := meth) (locs := locs) (cells := ce) (slots := sl) (As := As) (rest := rest) (g := F0 m pc ls (As.reverse ++ .ref (eAd E r c) :: rest)) C.1 hM (cwV n C.1.2.2.2.2 hG hw rfl rfl hdy hR) ⟨dp_blind, va_recv C.2.2.2.2.1 hW.P (q0 := q0) (fs := fs) hc (by rw [dp_ws_at hq, hx]), dp_pre C.2.2.2.1 C.2.2.2.2.1 C.2.2.2.2.2 hW hS⟩ rfl hn (by rw [hL.1, hL0]) rfl (lv_room hcat) hd ⟨hce.1, hce.2⟩
  refine va_callv hr hS (fun q _ h => C.2.2.2.1 q h) (fun q h => C.2.2.2.1 q h) (fun u t H1 locs1 ht hvm hw9 hB hz1 hk1 hS1 => ?_)
  exact k u hw9 H1 locs1 ls (by rw [← ht]; exact hB.1) hS1 hL
theorem dp_cSv (C : dp_C E A p s m args meth co cc own nL Ts) {y : MethodName} {ws ws' : List Cond} {fr lo maxL i n : Nat} {bytes : ByteArray} {ret : Option FieldType} {As rest : List Value} {P : dp_M → Prop} (hM : dp_met E l y ws fr lo As M (dp_qv E P)) (hG : GoodIn Ts (va_wsS own i y ws)) (hw : ws = Cond.code y bytes maxL ret :: ws') (hdy : y.cls ≠ "java/lang/invoke/MethodHandle" ∧ y.cls ≠ "java/lang/invoke/VarHandle" ∧ (parseMethodDescriptor y.desc).map (fun d => d.parameters.length) = some n) (hn : As.length = n) (hR : fr + 1 ≤ R.frames ∧ 8 + (maxL + 11) + lo ≤ R.locals) (hst : st = As.reverse ++ rest) (hcat : (rest.map fun v => v.category).sum ≤ 8) (hL0 : L.length = nL) (hce : ce ≤ R.cells ∧ sl ≤ R.slots) (hd : decode cc pc = .ok (.invokestatic i, 3)) (k : ∀ M1, P M1 → dp_G E A p l e R s m args below meth co ce sl Q M1 (pc + 3) L rest) : dp_G E A p l e R s m args below meth co ce sl Q M pc L st := fun H locs ls hW hS hL => by
  subst hst
  have hr := va_runS (e := e) (below := below) (meth := meth) (locs := locs) (cells := ce) (slots := sl) (As := As) (rest := rest) (g := F0 m pc ls (As.reverse ++ rest)) C.1 hM (va_cwS n C.1.2.2.2.2 hG hw rfl rfl hdy hR) ⟨dp_blind, dp_pre C.2.2.2.1 C.2.2.2.2.1 C.2.2.2.2.2 hW hS⟩ rfl hn (by rw [hL.1, hL0]) rfl (lv_room hcat) hd ⟨hce.1, hce.2⟩
  refine va_callv hr hS (fun q _ h => C.2.2.2.1 q h) (fun q h => C.2.2.2.1 q h) (fun u t H1 locs1 ht hvm hw9 hB hz1 hk1 hS1 => ?_)
  exact k u hw9 H1 locs1 ls (by rw [← ht]; exact hB.1) hS1 hL
theorem dp_cVr (C : dp_C E A p s m args meth co cc own nL Ts) {y : MethodName} {ws ws' : List Cond} {fr lo maxL i n : Nat} {bytes : ByteArray} {ret : Option FieldType} {As rest : List Value} {r c ci N : Nat} {fs : List Value} {Cn : String} {T : u_T} {P : Nat → Nat → dp_M → Prop} (hM : dp_met E l y ws fr lo (.ref (eAd E r c) :: As) M (dp_qr E P)) (hG : GoodIn Ts (wsV own i Cn y ws)) (hw : ws = Cond.code y bytes maxL ret :: ws') (hm : (r, c) ∈ dp_ps E) (hx : dp_x E M r c = .inr (ci, fs)) (hc : vwCl[ci]? = some (Cn, T, N)) (hdy : y.cls = Cn ∧ y.cls ≠ "java/lang/invoke/MethodHandle" ∧ y.cls ≠ "java/lang/invoke/VarHandle" ∧ (parseMethodDescriptor y.desc).map (fun d => d.parameters.length) = some n) (hn : As.length = n) (hR : fr + 1 ≤ R.frames ∧ 8 + (maxL + 11) + lo ≤ R.locals) (hst : st = As.reverse ++ .ref (eAd E r c) :: rest) (hcat : (rest.map fun v => v.category).sum ≤ 8) (hL0 : L.length = nL) (hce : ce ≤ R.cells ∧ sl ≤ R.slots) (hd : decode cc pc = .ok (.invokevirtual i, 3)) (k : ∀ r1 c1 M1, P r1 c1 M1 → dp_G E A p l e R s m args below meth co ce sl Q M1 (pc + 3) L (.ref (eAd E r1 c1) :: rest)) : dp_G E A p l e R s m args below meth co ce sl Q M pc L st := fun H locs ls hW hS hL => by
  obtain ⟨q0, hq⟩ := List.getElem?_of_mem hm
  subst hst
  have hr := va_runV (e := e) (below := below) (meth := meth) (locs := locs) (cells := ce) (slots := sl) (As := As) (rest := rest) (g := F0 m pc ls (As.reverse ++ .ref (eAd E r c) :: rest)) C.1 hM (cwV n C.1.2.2.2.2 hG hw rfl rfl hdy hR) ⟨dp_blind, va_recv C.2.2.2.2.1 hW.P (q0 := q0) (fs := fs) hc (by rw [dp_ws_at hq, hx]), dp_pre C.2.2.2.1 C.2.2.2.2.1 C.2.2.2.2.2 hW hS⟩ rfl hn (by rw [hL.1, hL0]) rfl (lv_room hcat) hd ⟨hce.1, hce.2⟩
  refine va_callr hr hS (fun q _ h => C.2.2.2.1 q h) (fun q h => C.2.2.2.1 q h) (fun u ra t H1 locs1 ht hvm hw9 hB hz1 hk1 hS1 => ?_)
  obtain ⟨rfl, hB⟩ := hB
  exact k u.1 u.2.1 u.2.2 hw9 H1 locs1 ls (by rw [← ht]; exact hB.1) hS1 hL
theorem dp_cSr (C : dp_C E A p s m args meth co cc own nL Ts) {y : MethodName} {ws ws' : List Cond} {fr lo maxL i n : Nat} {bytes : ByteArray} {ret : Option FieldType} {As rest : List Value} {P : Nat → Nat → dp_M → Prop} (hM : dp_met E l y ws fr lo As M (dp_qr E P)) (hG : GoodIn Ts (va_wsS own i y ws)) (hw : ws = Cond.code y bytes maxL ret :: ws') (hdy : y.cls ≠ "java/lang/invoke/MethodHandle" ∧ y.cls ≠ "java/lang/invoke/VarHandle" ∧ (parseMethodDescriptor y.desc).map (fun d => d.parameters.length) = some n) (hn : As.length = n) (hR : fr + 1 ≤ R.frames ∧ 8 + (maxL + 11) + lo ≤ R.locals) (hst : st = As.reverse ++ rest) (hcat : (rest.map fun v => v.category).sum ≤ 8) (hL0 : L.length = nL) (hce : ce ≤ R.cells ∧ sl ≤ R.slots) (hd : decode cc pc = .ok (.invokestatic i, 3)) (k : ∀ r1 c1 M1, P r1 c1 M1 → dp_G E A p l e R s m args below meth co ce sl Q M1 (pc + 3) L (.ref (eAd E r1 c1) :: rest)) : dp_G E A p l e R s m args below meth co ce sl Q M pc L st := fun H locs ls hW hS hL => by
  subst hst
  have hr := va_runS (e := e) (below := below) (meth := meth) (locs := locs) (cells := ce) (slots := sl) (As := As) (rest := rest) (g := F0 m pc ls (As.reverse ++ rest)) C.1 hM (va_cwS n C.1.2.2.2.2 hG hw rfl rfl hdy hR) ⟨dp_blind, dp_pre C.2.2.2.1 C.2.2.2.2.1 C.2.2.2.2.2 hW hS⟩ rfl hn (by rw [hL.1, hL0]) rfl (lv_room hcat) hd ⟨hce.1, hce.2⟩
  refine va_callr hr hS (fun q _ h => C.2.2.2.1 q h) (fun q h => C.2.2.2.1 q h) (fun u ra t H1 locs1 ht hvm hw9 hB hz1 hk1 hS1 => ?_)
  obtain ⟨rfl, hB⟩ := hB
  exact k u.1 u.2.1 u.2.2 hw9 H1 locs1 ls (by rw [← ht]; exact hB.1) hS1 hL
end DC
section DQ
variable {E : dp_E} {p : Program} {l : Launch} {e : Env} {R : Room} {s : State} {m : MethodId} {args : Array Value} {below : List Frame} {meth : Method} {co : Code} {cc : ByteArray} {own : String} {nL : Nat} {Ts : List Cond} {M : dp_M} {pc : Nat} {L : List (Option Value)}
theorem dp_end (C : dp_C E (dp_A E) p s m args meth co cc own nL Ts) {H : Heap} {locs : List Loc} {t : State} (hW : dp_W E M H) (hS : va_S (dp_A E) s.heap H locs) (ht : t.heap = H) (hWm : s.WarmedH t.vm) : dp_B E M t := ⟨by rw [ht]; exact hW, va_K.moved hWm.alike C.2.2.2.2.1, by rw [ht]; exact C.2.2.2.2.2.mv hWm.alike (fun q => q.warm hWm) hS.2.1 (fun _ h => h)⟩
theorem dp_iret (C : dp_C E (dp_A E) p s m args meth co cc own nL Ts) {P : Int → dp_M → Prop} {x : Int} (hr : meth.sig.returnType = some .int) (hd : decode cc pc = .ok (.ireturn, 1)) (hp : P x M) : dp_G E (dp_A E) p l e R s m args below meth co 0 0 (MQ below (dp_qi E P) args s 0 0 (dp_A E)) M pc L [.int (dp_I x)] := fun H locs ls hW hS hL => W.iret (v := dp_I x) C.1.1 C.1.2.1 hr (fun t ht hWm => ⟨⟨dp_I x, M, rfl, ⟨x, rfl, hp⟩, dp_end C hW hS ht hWm⟩, hS.F ht⟩) hS.2.2 hd C.2.1
theorem dp_zret (C : dp_C E (dp_A E) p s m args meth co cc own nL Ts) {P : Int → dp_M → Prop} {x : Int} {ty : FieldType} (hr : meth.sig.returnType = some ty) (hn : narrow ty (.int (dp_I x)) = .int (dp_I x)) (hd : decode cc pc = .ok (.ireturn, 1)) (hp : P x M) : dp_G E (dp_A E) p l e R s m args below meth co 0 0 (MQ below (dp_qi E P) args s 0 0 (dp_A E)) M pc L [.int (dp_I x)] := fun H locs ls hW hS hL => W.zret (v := dp_I x) C.1.1 C.1.2.1 hr hn (fun t ht hWm => ⟨⟨dp_I x, M, rfl, ⟨x, rfl, hp⟩, dp_end C hW hS ht hWm⟩, hS.F ht⟩) hS.2.2 hd C.2.1
theorem dp_vret (C : dp_C E (dp_A E) p s m args meth co cc own nL Ts) {P : dp_M → Prop} (hr : meth.sig.returnType = none) (hd : decode cc pc = .ok (.return_, 1)) (hp : P M) : dp_G E (dp_A E) p l e R s m args below meth co 0 0 (MQ below (dp_qv E P) args s 0 0 (dp_A E)) M pc L [] := fun H locs ls hW hS hL => W.vret C.1.1 C.1.2.1 hr (fun t ht hWm => ⟨⟨M, rfl, hp, dp_end C hW hS ht hWm⟩, hS.F ht⟩) hS.2.2 hd C.2.1
theorem dp_aret (C : dp_C E (dp_A E) p s m args meth co cc own nL Ts) {P : Nat → Nat → dp_M → Prop} {r c : Nat} {Cn : String} (hr : meth.sig.returnType = some (.object Cn)) (hd : decode cc pc = .ok (.areturn, 1)) (hp : P r c M) : dp_G E (dp_A E) p l e R s m args below meth co 0 0 (MQ below (dp_qr E P) args s 0 0 (dp_A E)) M pc L [.ref (eAd E r c)] := fun H locs ls hW hS hL => W.aret (v := .ref (eAd E r c)) C.1.1 C.1.2.1 hr (Or.inl ⟨Cn, rfl⟩) (Or.inr ⟨_, rfl⟩) (fun t ht hWm => ⟨⟨(r, c, M), eAd E r c, rfl, hp, rfl, dp_end C hW hS ht hWm⟩, hS.F ht⟩) hS.2.2 hd C.2.1
end DQ
end
section
section DX
variable {E : dp_E} {A : Nat → Prop} {p : Program} {l : Launch} {e : Env} {R : Room} {s : State} {m : MethodId} {args : Array Value} {below : List Frame} {meth : Method} {co : Code} {ce sl : Nat} {Q : State → Prop} {cc : ByteArray} {own : String} {nL : Nat} {Ts : List Cond} {M : dp_M} {pc : Nat} {L : List (Option Value)} {st : List Value}
/-- the remainder as Java has it, with a positive divisor -/
theorem dp_iremT (C : dp_C E A p s m args meth co cc own nL Ts) {x y : Int} (hx : dp_R x) (hy : 0 < y ∧ y < 2147483648) (hd : decode cc pc = .ok (.irem, 1)) (k : dp_G E A p l e R s m args below meth co ce sl Q M (pc + 1) L (.int (dp_I (x.tmod y)) :: st)) : dp_G E A p l e R s m args below meth co ce sl Q M pc L (.int (dp_I y) :: .int (dp_I x) :: st) := fun H locs ls hW hS hL => by
  have hx' := hx
  unfold dp_R at hx'
  have e1 : dp_I x / dp_I y = dp_I (x.tdiv y) := (Int32.ofInt_tdiv (by show (-2147483648 : Int) ≤ x; omega) (by show x ≤ (2147483647 : Int); omega) (by show (-2147483648 : Int) ≤ y; omega) (by show y ≤ (2147483647 : Int); omega)).symm
  refine lv_irem C.1.1 C.1.2.1 hd (fun q => by rw [dp_I_z, dp_I_eq ⟨by omega, by omega⟩ dp_R0] at q; omega) ?_
  rw [e1, dp_I_mul, dp_I_sub, show x - x.tdiv y * y = x.tmod y by rw [Int.tmod_def, Int.mul_comm]]
  exact k H locs ls hW hS hL
theorem dp_xsta {E : dp_E} {M : dp_M} {X : dp_V} : dp_x E (dR M 7 X) 7 2 = dp_refs (eS E) 5 (fun i => eAd E (X 2 i).toNat 0) := by
  rw [dp_x_C]
  unfold dp_xC
  rw [dR_same]
  rfl
/-- a static row of a nest mate -/
theorem dp_getsN (C : dp_C E A p s m args meth co cc own nL Ts) {n d host : String} {ty : FieldType} {t N i : Nat} {f : Nat → Int} (hZ : dp_Z1 A n d ty t N f s s.heap) (hl : va_Nw (.fieldLinkNest own i "DishPointer" n d host) s) (hd : decode cc pc = .ok (.getstatic i, 3)) (k : dp_G E A p l e R s m args below meth co ce sl Q M (pc + 3) L (.ref t :: st)) : dp_G E A p l e R s m args below meth co ce sl Q M pc L st := fun H locs ls hW hS hL => va_getsN C.1.1 C.1.2.1 hZ.1 hS C.1.2.2.2.1 (va_Nw.use rfl hl) (fun _ h => h) hd (k H locs ls hW hS hL)
theorem dp_i2c (C : dp_C E A p s m args meth co cc own nL Ts) {x : Int} (h : 0 ≤ x ∧ x < 65536) (hd : decode cc pc = .ok (.i2c, 1)) (k : dp_G E A p l e R s m args below meth co ce sl Q M (pc + 1) L (.int (dp_I x) :: st)) : dp_G E A p l e R s m args below meth co ce sl Q M pc L (.int (dp_I x) :: st) := fun H locs ls hW hS hL => by
  refine lv_i2c C.1.1 C.1.2.1 hd (v := dp_I x) ?_ (k H locs ls hW hS hL)
  apply Int32.toBitVec_inj.mp
  apply BitVec.eq_of_toNat_eq
  have e : (dp_I x).toBitVec.toNat = x.toNat := by
    show (BitVec.ofInt 32 x).toNat = _
    rw [BitVec.toNat_ofInt]
    omega
  have e2 : ((dp_I x).toUInt32 % 65536).toInt32.toBitVec.toNat = (dp_I x).toBitVec.toNat % 65536 := by
    show ((dp_I x).toUInt32 % 65536).toNat = _
    rw [UInt32.toNat_mod]
    rfl
  rw [e2, e]
  omega
/-- a static method of a nest mate -/
theorem dp_cNi (C : dp_C E A p s m args meth co cc own nL Ts) {y : MethodName} {host : String} {ws ws' : List Cond} {fr lo maxL i n : Nat} {bytes : ByteArray} {ret : Option FieldType} {As rest : List Value} {P : Int → dp_M → Prop} (hM : dp_met E l y ws fr lo As M (dp_qi E P)) (hG : GoodIn Ts ws) (hw : ws = Cond.code y bytes maxL ret :: ws') (hl : va_Nw (.methodLinkNest own i y host) s) (hst2 : Cond.static y ∈ Ts) (hini : Cond.initialized y.cls ∈ Ts) (hdy : y.cls ≠ "java/lang/invoke/MethodHandle" ∧ y.cls ≠ "java/lang/invoke/VarHandle" ∧ (parseMethodDescriptor y.desc).map (fun d => d.parameters.length) = some n) (hn : As.length = n) (hR : fr + 1 ≤ R.frames ∧ 8 + (maxL + 11) + lo ≤ R.locals) (hst : st = As.reverse ++ rest) (hcat : (rest.map fun v => v.category).sum ≤ 8) (hL0 : L.length = nL) (hce : ce ≤ R.cells ∧ sl ≤ R.slots) (hd : decode cc pc = .ok (.invokestatic i, 3)) (k : ∀ x M1, P x M1 → dp_G E A p l e R s m args below meth co ce sl Q M1 (pc + 3) L (.int (dp_I x) :: rest)) : dp_G E A p l e R s m args below meth co ce sl Q M pc L st := fun H locs ls hW hS hL => by
  subst hst
  have hr := va_runSN (e := e) (below := below) (meth := meth) (locs := locs) (cells := ce) (slots := sl) (As := As) (rest := rest) (g := F0 m pc ls (As.reverse ++ rest)) C.1 hM ⟨va_cnB n C.1.2.2.2.2 hG hw rfl rfl hl (C.1.2.2.2.2 _ hini) hdy hR, C.1.2.2.2.2 _ hst2, trivial⟩ ⟨dp_blind, dp_pre C.2.2.2.1 C.2.2.2.2.1 C.2.2.2.2.2 hW hS⟩ rfl hn (by rw [hL.1, hL0]) rfl (lv_room hcat) hd ⟨hce.1, hce.2⟩
  refine va_calli hr hS (fun q _ h => C.2.2.2.1 q h) (fun q h => C.2.2.2.1 q h) (fun y9 u t H1 locs1 ht hvm hw9 hB hz1 hk1 hS1 => ?_)
  obtain ⟨x, rfl, hp⟩ := hw9
  exact k x u hp H1 locs1 ls (by rw [← ht]; exact hB.1) hS1 hL
/-- an exclusive or, by its sign -/
theorem dp_ixor (C : dp_C E A p s m args meth co cc own nL Ts) {x y : Int} (hx : dp_R x) (hy : dp_R y) (hd : decode cc pc = .ok (.ixor, 1)) (k : ∀ z : Int, dp_R z → (z < 0 ↔ ¬ (x < 0 ↔ y < 0)) → dp_G E A p l e R s m args below meth co ce sl Q M (pc + 1) L (.int (dp_I z) :: st)) : dp_G E A p l e R s m args below meth co ce sl Q M pc L (.int (dp_I y) :: .int (dp_I x) :: st) := fun H locs ls hW hS hL => by
  refine lv_ixor C.1.1 C.1.2.1 hd ?_
  have e1 : dp_I x ^^^ dp_I y = dp_I (dp_I x ^^^ dp_I y).toInt := dp_I_of _
  rw [e1]
  refine k _ (dp_R_to _) ?_ H locs ls hW hS hL
  have sg : ∀ w : Int32, w.toBitVec.msb = decide (w.toInt < 0) := fun w => BitVec.msb_eq_toInt
  have e2 : (dp_I x ^^^ dp_I y).toBitVec.msb = ((dp_I x).toBitVec.msb ^^ (dp_I y).toBitVec.msb) := by
    show ((dp_I x).toBitVec ^^^ (dp_I y).toBitVec).msb = _
    exact BitVec.msb_xor
  rw [sg, sg, sg, dp_I_toInt hx, dp_I_toInt hy] at e2
  by_cases a : x < 0 <;> by_cases b : y < 0 <;> simp [a, b] at e2 ⊢ <;> omega
theorem dp_ofF {y : MethodName} {ws ws' : List Cond} {ret : Option FieldType} {fr lo : Nat} {av : List Value} {Qc : Array Value → State → Outcome → State → Prop} (hy : plainFor y = true) (ho : y.cls = own) (hw : ws = Cond.code y cc nL ret :: ws') (hok : dp_OK E) (hcat : ∀ v ∈ av, v.category = 1) (hlen : av.length ≤ nL)
    (body : ∀ (p : Program) (e : Env) (s : State) (m : MethodId) (below : List Frame) (meth : Method) (co : Code), dp_C E (dp_A E) p s m av.toArray meth co cc own nL ws → meth.sig.returnType = ret → dp_G E (dp_A E) p l e (dp_rm fr lo) s m av.toArray below meth co 0 0 (MQ below Qc av.toArray s 0 0 (dp_A E)) M 0 (av.map some ++ List.replicate (nL - av.length) none) []) : dp_met E l y ws fr lo av M Qc := by
  refine va_MetF (cc := cc) (maxL := nL) (ret := ret) hy hw ?_
  intro p e s m args below meth c s₁ B hml hv
  obtain ⟨rfl, hWd, hK, hZ⟩ := hv
  have hts := atoms_spec (ws := ws) B.pre
  have hown : s.vm.findClass own = some m.cls := by rw [← ho]; exact findClass_of_methodNamed B.named
  rw [lg_entry_eq]
  exact body p e s m below meth c ⟨⟨B.exec, B.bytes, hml, hown, hts⟩, B.notSynchronized, hok, fun _ h => h, hK, hZ⟩ B.returns s.heap [] _ hWd va_S.rf (dp_entry hcat hlen)
theorem dp_W.of_set2 {E : dp_E} {M M' : dp_M} {H : Heap} {r c q0 : Nat} {x : va_E} (hq : (dp_ps E)[q0]? = some (r, c)) (hP : va_P E.1 vwCl ((dp_ws E M).set q0 (eAd E r c, x)) H) (hx : va_at E.1 vwCl (eAd E r c, x) H → va_at E.1 vwCl (eAd E r c, dp_x E M' r c) H) (hf : ∀ r' c', (r', c') ∈ dp_ps E → (r', c') ≠ (r, c) → dp_x E M' r' c' = dp_x E M r' c') : dp_W E M' H := by
  intro r' c' hm
  have hl : q0 < (dp_ws E M).length := (List.getElem?_eq_some_iff.mp (dp_ws_at (E := E) (M := M) hq)).1
  by_cases he : (r', c') = (r, c)
  · cases he
    exact hx (hP q0 _ (List.getElem?_set_self hl))
  · obtain ⟨q1, h1⟩ := List.getElem?_of_mem hm
    rw [hf r' c' hm he]
    refine hP q1 _ ?_
    rw [List.getElem?_set_ne (fun e => he (by rw [e, h1] at hq; exact Option.some.inj hq))]
    exact dp_ws_at h1
/-- a whole row of ints copied over another of the same length -/
theorem dp_copyi (C : dp_C E A p s m args meth co cc own nL Ts) {i r c r2 c2 n : Nat} {n9 : Int} {f g : Nat → Int} {M' : dp_M} (h1 : Cond.methodLink own i arraycopyName ∈ Ts) (h2 : Cond.native arraycopyName ∈ Ts) (h3 : Cond.static arraycopyName ∈ Ts) (h4 : Cond.initialized "java/lang/System" ∈ Ts) (hm2 : (r2, c2) ∈ dp_ps E) (hx2 : dp_x E M r2 c2 = dp_ints (eI E) n f) (hm : (r, c) ∈ dp_ps E) (hx : dp_x E M r c = dp_ints (eI E) n g) (hx' : dp_x E M' r c = dp_ints (eI E) n f) (hf : ∀ r' c', (r', c') ∈ dp_ps E → (r', c') ≠ (r, c) → dp_x E M' r' c' = dp_x E M r' c') (hn9 : (n : Int) = n9) (hn : n < 2147483648) (hfr : 1 ≤ R.frames) (hlo : (st.map fun v => v.category).sum + (nativeFrameWords "java/lang/System" "arraycopy" 5 + 11) ≤ R.locals) (hL0 : L.length = nL) (hd : decode cc pc = .ok (.invokestatic i, 3)) (k : dp_G E A p l e R s m args below meth co ce sl Q M' (pc + 3) L st) : dp_G E A p l e R s m args below meth co ce sl Q M pc L (.int (dp_I n9) :: .int (dp_I 0) :: .ref (eAd E r c) :: .int (dp_I 0) :: .ref (eAd E r2 c2) :: st) := fun H locs ls hW hS hL => by
  subst hn9
  obtain ⟨q0, hq0⟩ := List.getElem?_of_mem hm2
  obtain ⟨q1, hq1⟩ := List.getElem?_of_mem hm
  have z0 : (dp_I 0).toNatClampNeg = 0 := by decide
  have zn : (dp_I (n : Int)).toNatClampNeg = n := by rw [dp_I_nat (by omega) (by omega)]; omega
  have p0 : ¬ dp_I 0 < 0 := by decide
  have pn : ¬ dp_I (n : Int) < 0 := by rw [dp_I_z, dp_I_lt ⟨by omega, by omega⟩ dp_R0]; omega
  refine va_copyi C.1.1 C.1.2.1 (by rw [hL.1, hL0]; exact C.1.2.2.1) C.1.2.2.2.1 (C.1.2.2.2.2 _ h1) (C.1.2.2.2.2 _ h2) (C.1.2.2.2.2 _ h3) (C.1.2.2.2.2 _ h4) C.2.2.2.2.1 hW.P (dp_D C.2.2.1 C.2.2.2.1) hS q0 q1 0 0 (a0 := eAd E r2 c2) (c0 := eI E) (c1 := eI E) (n0 := n) (n1 := n) (f := fun j => dp_I (f j)) (g := fun j => dp_I (g j)) (ty := .int) (by rw [dp_ws_at hq0, hx2]; rfl) (by rw [dp_ws_at hq1, hx]; rfl) rfl rfl rfl p0 p0 pn (by rw [z0, zn]; omega) (by rw [z0, zn]; omega) (fun j _ => rfl) hfr hlo hd (fun H1 locs1 hP hD hS1 => k H1 locs1 ls ?_ hS1 hL)
  rw [z0, zn] at hP
  refine dp_W.of_set2 hq1 hP (fun h => ?_) hf
  rw [hx']
  refine Eq.trans h (congrArg some ?_)
  show vp_cell (eI E) (n, .inl _) = vp_cell (eI E) (n, .inl _)
  rw [vp_cell_i, vp_cell_i]
  refine dp_arr (fun j hj => ?_)
  unfold va_cpy
  rw [if_pos ⟨by omega, by omega⟩]
  congr 3
  omega
end DX
end
section
/-! WHAT THE METHODS ANSWER, over a region's numbers. An axis: 0 play, 1 side, 2 speed, 3 motor, 4 slack, 5 up, 6 down. Cells of a region: 0 time slews holds (targets); 1 settings; 2 gusts; 3, 4 the axes; t + 6 target t. -/
def ab (x : Int) : Int := if x < 0 then -x else x
def mx (x y : Int) : Int := if x < y then y else x
def mn (x y : Int) : Int := if y < x then y else x
/-- a row of cell c put in place of another -/
def uc (V : dp_V) (c : Nat) (f : Nat → Int) : dp_V := fun c' => if c' = c then f else V c'
theorem uc_same (V : dp_V) (c : Nat) (f : Nat → Int) : uc V c f c = f := by simp [uc]
theorem uc_ne {V : dp_V} {c c' : Nat} {f : Nat → Int} (h : c' ≠ c) : uc V c f c' = V c' := by simp [uc, h]
theorem u2_uc (V : dp_V) (c k : Nat) (x : Int) : u2 V c k x = uc V c (u1 (V c) k x) := rfl
theorem uc_uc (V : dp_V) (c : Nat) (f g : Nat → Int) : uc (uc V c f) c g = uc V c g := by
  funext c'
  unfold uc
  split <;> rfl
/-- a way from the axis f to the place to: does it turn (wyT), its end, where it turns or the motor, its length, its time, is it possible -/
def wyT (f : Nat → Int) (to : Int) : Int := if f 1 = 1 then (if f 3 - f 4 < to then 0 else if f 3 - f 4 = to then (if f 4 = f 0 then 0 else 1) else 1) else if f 1 = 2 then (if to < f 3 - f 4 then 0 else if f 3 - f 4 = to then (if f 4 = 0 then 0 else 1) else 1) else 0
def wyE (f : Nat → Int) (to : Int) : Int := if f 1 = 1 then (if f 3 - f 4 = to then (if f 4 = f 0 then f 3 else to + f 0) else to + f 0) else if f 1 = 2 then (if f 3 - f 4 = to then (if f 4 = 0 then f 3 else to) else to) else (if f 3 - f 4 = to then f 3 else if f 3 - f 4 < to then to + f 0 else to)
def wyU (f : Nat → Int) (to ov : Int) : Int := if wyT f to = 0 then f 3 else if f 1 = 1 then to - ov else to + f 0 + ov
def wyL (f : Nat → Int) (to ov : Int) : Int := ab (wyU f to ov - f 3) + ab (wyE f to - wyU f to ov)
def wyM (f : Nat → Int) (to ov : Int) : Int := (wyL f to ov + f 2 - 1) / f 2
def wyP (c : Nat) (f : Nat → Int) (to ov : Int) : Int := dp_b ((axL c ≤ wyU f to ov ∧ wyU f to ov ≤ axH c) ∧ axL c ≤ wyE f to ∧ wyE f to ≤ axH c)
/-- what a way's cell holds, planned -/
def wyOK (c : Nat) (f : Nat → Int) (to ov : Int) (g : Nat → Int) : Prop := g 0 = to ∧ g 1 = wyU f to ov ∧ g 2 = wyE f to ∧ g 3 = wyL f to ov ∧ g 4 = wyM f to ov ∧ g 5 = wyT f to ∧ g 6 = wyP c f to ov
/-- an axis within its ranges -/
def ivA (c : Nat) (f : Nat → Int) : Prop := 0 ≤ f 0 ∧ f 0 ≤ 300 ∧ 0 ≤ f 1 ∧ f 1 ≤ 2 ∧ 1 ≤ f 2 ∧ f 2 ≤ 2000 ∧ axL c ≤ f 3 ∧ f 3 ≤ axH c ∧ 0 ≤ f 4 ∧ f 4 ≤ f 0
theorem ax_bd {c : Nat} : -27000 ≤ axL c ∧ axL c ≤ 500 ∧ 9000 ≤ axH c ∧ axH c ≤ 27000 ∧ 0 ≤ axS c ∧ axS c ≤ 9000 := by
  unfold axL axH axS
  split <;> omega
/-- what tell says of an axis -/
def axT (c : Nat) (f : Nat → Int) (k : Int) : Int := if k = 0 then f 0 else if k = 1 then f 1 else if k = 2 then f 2 else if k = 3 then f 3 else if k = 4 then f 4 else if k = 5 then f 3 - f 4 else if k = 6 then f 5 else if k = 7 then f 6 else if k = 8 then axS c + f 5 - f 6 else -100001
/-- the motor of the axis c goes to p -/
def mvV (V : dp_V) (c : Nat) (p : Int) : dp_V := if p - V c 3 < 0 then u2 (u2 (u2 V c 3 p) c 6 (V c 6 - (p - V c 3))) c 4 (mx (V c 4 + (p - V c 3)) 0) else u2 (u2 (u2 V c 3 p) c 5 (V c 5 + (p - V c 3))) c 4 (mn (V c 4 + (p - V c 3)) (V c 0))
/-- a play, a side or a speed is set -/
def chV (V : dp_V) (c : Nat) (k x : Int) : dp_V := if k = 0 then u2 (u2 V c 0 x) c 4 (mn (V c 4) x) else if k = 1 then u2 V c 1 x else if k = 2 then u2 V c 2 x else V
theorem u2_ap (V : dp_V) (c k : Nat) (x : Int) (c' k' : Nat) : u2 V c k x c' k' = if c' = c then (if k' = k then x else V c' k') else V c' k' := by
  unfold u2 u1
  by_cases h : c' = c
  · subst h
    simp
  · simp [h]
theorem dp_fb {P : Prop} {_ : Decidable P} : fits .boolean (.int (dp_I (dp_b P))) = true := by
  unfold dp_b
  by_cases h : P
  · rw [if_pos h]; decide
  · rw [if_neg h]; decide
theorem wyU_bd {c : Nat} {f : Nat → Int} {to ov : Int} (hi : ivA c f) (h1 : -40000 ≤ to ∧ to ≤ 40000) (h2 : 0 ≤ ov ∧ ov ≤ 500) : -41000 ≤ wyU f to ov ∧ wyU f to ov ≤ 41000 := by
  have hb := @ax_bd c
  unfold ivA at hi
  unfold wyU
  repeat' split
  all_goals omega
theorem wyE_bd {c : Nat} {f : Nat → Int} {to : Int} (hi : ivA c f) (h1 : -40000 ≤ to ∧ to ≤ 40000) : -41000 ≤ wyE f to ∧ wyE f to ≤ 41000 := by
  have hb := @ax_bd c
  unfold ivA at hi
  unfold wyE
  repeat' split
  all_goals omega
theorem wyL_bd {c : Nat} {f : Nat → Int} {to ov : Int} (hi : ivA c f) (h1 : -40000 ≤ to ∧ to ≤ 40000) (h2 : 0 ≤ ov ∧ ov ≤ 500) : 0 ≤ wyL f to ov ∧ wyL f to ov ≤ 200000 := by
  have hb := @ax_bd c
  have a1 := wyU_bd hi h1 h2
  have a2 := wyE_bd hi h1
  unfold ivA at hi
  unfold wyL ab
  repeat' split
  all_goals omega
theorem wyT_b {f : Nat → Int} {to : Int} : wyT f to = 0 ∨ wyT f to = 1 := by
  unfold wyT
  repeat' split
  all_goals first | exact Or.inl rfl | exact Or.inr rfl
/-- a state of the class within its ranges, its targets apart -/
def ivS (V : dp_V) : Prop := (0 ≤ V 0 0 ∧ V 0 0 ≤ 43200) ∧ (0 ≤ V 1 0 ∧ V 1 0 ≤ 500 ∧ 0 ≤ V 1 1 ∧ V 1 1 ≤ 27000 ∧ 0 ≤ V 1 2 ∧ V 1 2 ≤ 100 ∧ 0 ≤ V 1 3 ∧ V 1 3 ≤ 100) ∧ (∀ d, d < 31 → 0 ≤ V 2 d ∧ V 2 d ≤ 99) ∧ ivA 3 (V 3) ∧ ivA 4 (V 4)
/-- a target (0 azimuth, 1 elevation, 2 from, 3 to, 4 dwell, 5 priority, 6 state, 7 begun, 8 slewed, 9 done, 10 error, 11 breaks, 12 place, 13 looked at) within its ranges -/
def ivT (f : Nat → Int) : Prop := 0 ≤ f 0 ∧ f 0 ≤ 35999 ∧ 500 ≤ f 1 ∧ f 1 ≤ 8500 ∧ 0 ≤ f 2 ∧ f 2 < f 3 ∧ f 3 ≤ 43200 ∧ 1 ≤ f 4 ∧ f 4 ≤ 600 ∧ 0 ≤ f 5 ∧ f 5 ≤ 9 ∧ 0 ≤ f 6 ∧ f 6 ≤ 3 ∧ (f 6 = 1 → 0 ≤ f 7 ∧ f 7 ≤ f 8 ∧ f 8 ≤ f 9 ∧ f 9 ≤ 43200 ∧ -36000 ≤ f 12 ∧ f 12 ≤ 36000 ∧ 0 ≤ f 13 ∧ f 13 ≤ 1)
def ivC (V : dp_V) : Prop := ivS V ∧ (∀ t, t < 10 → V (t + 6) 6 = 4 ∨ ivT (V (t + 6))) ∧ ∀ t, t < 10 → V (t + 6) 13 = 0 ∨ V (t + 6) 13 = 1
theorem ivC.st {V : dp_V} (h : ivC V) {t : Nat} (ht : t < 10) : 0 ≤ V (t + 6) 6 ∧ V (t + 6) 6 ≤ 4 := by
  rcases h.2.1 t ht with q | q
  · omega
  · unfold ivT at q
    omega
/-- what a target tells -/
def ibF (s v : Int) : Int := if s = 1 then v else if s = 2 then v else -100004
def tgT (f : Nat → Int) (k : Int) : Int := if k = 0 then f 0 else if k = 1 then f 1 else if k = 2 then f 2 else if k = 3 then f 3 else if k = 4 then f 4 else if k = 5 then f 5 else if k = 6 then f 6 else if k = 7 then ibF (f 6) (f 7) else if k = 8 then ibF (f 6) (f 8) else if k = 9 then ibF (f 6) (f 9) else if k = 10 then (if f 6 = 2 then f 10 else -100004) else if k = 11 then f 11 else if k = 12 then ibF (f 6) (f 12) else -100001
def btF (f g : Nat → Int) : Int := if f 5 = g 5 then dp_b (f 3 < g 3) else dp_b (g 5 < f 5)
/-- what a way tells -/
def wyS (g : Nat → Int) (k : Int) : Int := if g 6 = 0 then -100004 else if k = 0 then g 2 else if k = 1 then g 3 else if k = 2 then g 4 else if g 5 = 0 then -100004 else g 1
/-- gust and kind of the day -/
def guF (V : dp_V) : Int := V 2 (V 0 0 / 1440).toNat
def kdF (V : dp_V) : Int := if guF V < V 1 3 then (if guF V < V 1 2 then 2 else 1) else 0
def stT (V : dp_V) (k : Int) : Int := if k = 0 then V 0 0 else if k = 1 then V 0 0 / 1440 else if k = 2 then guF V else if k = 3 then kdF V else if k = 12 then V 1 0 else if k = 13 then V 1 1 else if k = 14 then V 1 2 else if k = 15 then V 1 3 else if k = 16 then V 0 1 else if k = 17 then V 0 2 else if k = 18 then (V 3 3 - V 3 4) % 36000 else -100001
theorem guF_bd {V : dp_V} (h : ivS V) : 0 ≤ guF V ∧ guF V ≤ 99 := h.2.2.1 _ (by have := h.1; omega)
/-- which of the two ways around is taken: 1 the lower -/
def ltF (V : dp_V) (z : Int) : Int := if dp_b (ab (z - 36000) ≤ V 1 1) = dp_b (ab z ≤ V 1 1) then (if wyL (V 3) (z - 36000) (V 1 0) = wyL (V 3) z (V 1 0) then dp_b (ab (z - 36000) ≤ ab z) else dp_b (wyL (V 3) (z - 36000) (V 1 0) < wyL (V 3) z (V 1 0))) else dp_b (ab (z - 36000) ≤ V 1 1)
def arW (V : dp_V) (z : Int) : Int := if wyP 3 (V 3) (z - 36000) (V 1 0) = 0 then 0 else if wyP 3 (V 3) z (V 1 0) = 0 then 1 else ltF V z
def apF (V : dp_V) (z : Int) : Int := if arW V z = 0 then z else z - 36000
/-- the motor led along a way; both, and counted -/
def foV (V : dp_V) (c : Nat) (to : Int) : dp_V := mvV (mvV V c (wyU (V c) to (V 1 0))) c (wyE (V c) to)
def slV (V : dp_V) (p el : Int) : dp_V := u2 (foV (foV V 3 p) 4 el) 0 1 (foV (foV V 3 p) 4 el 0 1 + 1)
theorem mvV_ne {V : dp_V} {c c' : Nat} {p : Int} (h : c' ≠ c) : mvV V c p c' = V c' := by
  unfold mvV
  split <;> simp [u2, h]
theorem foV_ne {V : dp_V} {c c' : Nat} {p : Int} (h : c' ≠ c) : foV V c p c' = V c' := by
  unfold foV
  rw [mvV_ne h, mvV_ne h]
theorem mvV_iv {V : dp_V} {c : Nat} {p : Int} (hi : ivA c (V c)) (h : axL c ≤ p ∧ p ≤ axH c) : ivA c (mvV V c p c) := by
  unfold ivA at hi
  unfold mvV ivA mx mn
  split
  · simp (decide := true) only [u2_ap, reduceIte]
    split <;> omega
  · simp (decide := true) only [u2_ap, reduceIte]
    split <;> omega
theorem dp_b01 {P : Prop} {_ : Decidable P} : dp_b P = 0 ∨ dp_b P = 1 := by
  unfold dp_b
  by_cases h : P
  · rw [if_pos h]; exact Or.inr rfl
  · rw [if_neg h]; exact Or.inl rfl
theorem dp_b_bd {P : Prop} {_ : Decidable P} : 0 ≤ dp_b P ∧ dp_b P ≤ 1 := by
  rcases @dp_b01 P _ with h | h <;> omega
theorem dp_b_t {P : Prop} {_ : Decidable P} (h : P) : dp_b P = 1 := if_pos h
theorem dp_b_f {P : Prop} {_ : Decidable P} (h : ¬ P) : dp_b P = 0 := if_neg h
theorem wyP_yes {c : Nat} {f : Nat → Int} {to ov : Int} (h : ¬ wyP c f to ov = 0) : (axL c ≤ wyU f to ov ∧ wyU f to ov ≤ axH c) ∧ axL c ≤ wyE f to ∧ wyE f to ≤ axH c := by
  unfold wyP dp_b at h
  split at h
  · assumption
  · exact absurd rfl h
theorem ltF_b {V : dp_V} {z : Int} : ltF V z = 0 ∨ ltF V z = 1 := by
  unfold ltF
  repeat' split
  all_goals exact dp_b01
theorem arW_b {V : dp_V} {z : Int} : arW V z = 0 ∨ arW V z = 1 := by
  unfold arW
  repeat' split
  · exact Or.inl rfl
  · exact Or.inr rfl
  · exact ltF_b
theorem wyM_bd {c : Nat} {f : Nat → Int} {to ov : Int} (hi : ivA c f) (h1 : -40000 ≤ to ∧ to ≤ 40000) (h2 : 0 ≤ ov ∧ ov ≤ 500) : 0 ≤ wyM f to ov ∧ wyM f to ov ≤ 200000 := by
  have a1 := wyL_bd hi h1 h2
  unfold ivA at hi
  have hs : 0 < f 2 := by omega
  unfold wyM
  refine ⟨Int.ediv_nonneg (by omega) (by omega), ?_⟩
  refine Int.le_of_lt_add_one (Int.ediv_lt_of_lt_mul hs ?_)
  have h3 : f 2 * 200001 ≥ f 2 + 200000 := by omega
  rw [Int.mul_comm]
  omega
theorem wyP_bd {c : Nat} {f : Nat → Int} {to ov : Int} : 0 ≤ wyP c f to ov ∧ wyP c f to ov ≤ 1 := dp_b_bd
end
