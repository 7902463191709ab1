section
-- ===== PART A: goes FIRST, ahead of the names: the tables' words, and 'selects' of the private methods out of them =====
/-- a private method of a class that the tables say can be made, by its rows of tables_1 -/
def lw_okq (q : MethodName × Nat) : Prop := (q.1.cls ≠ "java/lang/invoke/MethodHandle" ∧ q.1.cls ≠ "java/lang/invoke/VarHandle") ∧ Cond.instantiable q.1.cls q.2 ∈ tables_1 ∧ Cond.privateMethod q.1 ∈ tables_1 ∧ Cond.instanceMethod q.1 ∈ tables_1
theorem lw_p0 : lw_okq (⟨"LandingFines", "keepState", "()V"⟩, 7) := ⟨⟨by decide +kernel, by decide +kernel⟩, List.mem_of_getElem? (i := 9) (by decide +kernel), List.mem_of_getElem? (i := 175) (by decide +kernel), List.mem_of_getElem? (i := 176) (by decide +kernel)⟩
theorem lw_p1 : lw_okq (⟨"LandingFines", "recordUnlessError", "(I)I"⟩, 7) := ⟨⟨by decide +kernel, by decide +kernel⟩, List.mem_of_getElem? (i := 9) (by decide +kernel), List.mem_of_getElem? (i := 203) (by decide +kernel), List.mem_of_getElem? (i := 204) (by decide +kernel)⟩
theorem lw_p2 : lw_okq (⟨"LandingFines", "dropOldest", "()V"⟩, 7) := ⟨⟨by decide +kernel, by decide +kernel⟩, List.mem_of_getElem? (i := 9) (by decide +kernel), List.mem_of_getElem? (i := 207) (by decide +kernel), List.mem_of_getElem? (i := 208) (by decide +kernel)⟩
def lw_privs_1 : List (MethodName × Nat) := [(⟨"LandingFines", "keepState", "()V"⟩, 7), (⟨"LandingFines", "recordUnlessError", "(I)I"⟩, 7), (⟨"LandingFines", "dropOldest", "()V"⟩, 7)]
theorem lw_r1 : ∀ q ∈ lw_privs_1, lw_okq q := List.forall_mem_cons.mpr ⟨lw_p0, List.forall_mem_cons.mpr ⟨lw_p1, List.forall_mem_cons.mpr ⟨lw_p2, fun _ h => absurd h List.not_mem_nil⟩⟩⟩
def lw_privs : List (MethodName × Nat) := lw_privs_1
def lw_tbl : List Cond := k2_sels lw_privs ++ tables_1
theorem lw_privs_ok : ∀ q ∈ lw_privs, lw_okq q := lw_r1
-- ===== end of PART A; then your names; then what follows =====
/-! ===== BEGIN words of one list among another's, by their places ===== -/
theorem goodIn_r {big : List Cond} (ws : List Cond) (ps : List Nat) (hp : ws = ps.filterMap (fun i => big[i]?)) (h : ws.all goodWord = true) : GoodIn big ws := by
  intro w hw
  have h1 := List.all_eq_true.mp h w hw
  rw [hp] at hw
  obtain ⟨i, -, hi⟩ := List.mem_filterMap.mp hw
  have hm : w ∈ big := by first | exact List.mem_of_getElem? hi | exact List.getElem?_mem hi
  exact ⟨hm, good_of_word h1⟩
theorem goodIn_app {big a b : List Cond} (ha : GoodIn big a) (hb : GoodIn big b) : GoodIn big (a ++ b) := fun w h => (List.mem_append.mp h).elim (ha w) (hb w)
theorem goodIn_ca {big a b : List Cond} {c : Cond} (ha : GoodIn big (c :: a)) (hb : GoodIn big b) : GoodIn big (c :: (a ++ b)) := fun w h => (List.mem_cons.mp h).elim (fun e => ha w (List.mem_cons.mpr (Or.inl e))) (fun h => (List.mem_append.mp h).elim (fun h => ha w (List.mem_cons.mpr (Or.inr h))) (hb w))
theorem goodIn_sub {big ws : List Cond} (hm : ∀ w ∈ ws, w ∈ big) (h : ws.all goodWord = true) : GoodIn big ws := fun w hw => ⟨hm w hw, good_of_word (List.all_eq_true.mp h w hw)⟩
/-! ===== END ===== -/

/-! ===== BEGIN printed: names, fields, word lists, decode rows ===== -/
def RX0 : String := "LandingFines$Journal"
def TX0 : u_T := fun k => match k with
  | 0 => ("LandingFines$Journal", "sorts", "[I", true)
  | 1 => ("LandingFines$Journal", "places", "[I", true)
  | 2 => ("LandingFines$Journal", "minutes", "[I", true)
  | 3 => ("LandingFines$Journal", "size", "I", false)
  | _ => ("LandingFines$Journal", "next", "I", false)
def tyX0 : Nat → FieldType := fun k => match k with
  | 0 => .array .int
  | 1 => .array .int
  | 2 => .array .int
  | 3 => .int
  | _ => .int
abbrev wsX00 : List Cond := u_ws RX0 TX0 5
theorem nmX0 : ∀ a, a < 5 → ∀ b, b < 5 → a ≠ b → (TX0 a).2.1 ≠ (TX0 b).2.1 := by decide +kernel
theorem tyX0_ok : ∀ k, k < 5 → parseFieldDescriptor (TX0 k).2.2.1 = some (tyX0 k) := by decide +kernel
abbrev cX0_init : ByteArray := prog_2_method_1_code
def yX0_init : MethodName := ⟨RX0, "<init>", "()V"⟩
abbrev cX0_add : ByteArray := prog_2_method_2_code
def yX0_add : MethodName := ⟨RX0, "add", "(III)V"⟩
abbrev cX0_tell : ByteArray := prog_2_method_3_code
def yX0_tell : MethodName := ⟨RX0, "tell", "(II)I"⟩
abbrev cX0_copyFrom : ByteArray := prog_2_method_4_code
def yX0_copyFrom : MethodName := ⟨RX0, "copyFrom", "(LLandingFines$Journal;)V"⟩
def RX1 : String := "LandingFines$Landing"
def TX1 : u_T := fun k => match k with
  | 0 => ("LandingFines$Landing", "isOpen", "Z", false)
  | 1 => ("LandingFines$Landing", "fare", "I", false)
  | 2 => ("LandingFines$Landing", "fine", "I", false)
  | 3 => ("LandingFines$Landing", "isShunned", "Z", false)
  | 4 => ("LandingFines$Landing", "minutesShunned", "I", false)
  | 5 => ("LandingFines$Landing", "minutesSinceHalving", "I", false)
  | 6 => ("LandingFines$Landing", "changes", "I", false)
  | _ => ("LandingFines$Landing", "timesShunned", "I", false)
def tyX1 : Nat → FieldType := fun k => match k with
  | 0 => .boolean
  | 1 => .int
  | 2 => .int
  | 3 => .boolean
  | 4 => .int
  | 5 => .int
  | 6 => .int
  | _ => .int
abbrev wsX10 : List Cond := u_ws RX1 TX1 8
theorem nmX1 : ∀ a, a < 8 → ∀ b, b < 8 → a ≠ b → (TX1 a).2.1 ≠ (TX1 b).2.1 := by decide +kernel
theorem tyX1_ok : ∀ k, k < 8 → parseFieldDescriptor (TX1 k).2.2.1 = some (tyX1 k) := by decide +kernel
abbrev cX1_init : ByteArray := prog_3_method_1_code
def yX1_init : MethodName := ⟨RX1, "<init>", "()V"⟩
abbrev cX1_arrive : ByteArray := prog_3_method_2_code
def yX1_arrive : MethodName := ⟨RX1, "arrive", "(I)V"⟩
abbrev cX1_copyFrom : ByteArray := prog_3_method_3_code
def yX1_copyFrom : MethodName := ⟨RX1, "copyFrom", "(LLandingFines$Landing;)V"⟩
abbrev cX1_canBeTaken : ByteArray := prog_3_method_4_code
def yX1_canBeTaken : MethodName := ⟨RX1, "canBeTaken", "()Z"⟩
abbrev cX1_addFine : ByteArray := prog_3_method_5_code
def yX1_addFine : MethodName := ⟨RX1, "addFine", "(II)Z"⟩
abbrev cX1_passMinute : ByteArray := prog_3_method_6_code
def yX1_passMinute : MethodName := ⟨RX1, "passMinute", "(III)Z"⟩
abbrev cX1_tell : ByteArray := prog_3_method_7_code
def yX1_tell : MethodName := ⟨RX1, "tell", "(I)I"⟩
def RX2 : String := "LandingFines$Pad"
def TX2 : u_T := fun k => match k with
  | 0 => ("LandingFines$Pad", "signs", "[C", true)
  | 1 => ("LandingFines$Pad", "length", "I", false)
  | 2 => ("LandingFines$Pad", "place", "I", false)
  | 3 => ("LandingFines$Pad", "orderSign", "C", false)
  | 4 => ("LandingFines$Pad", "orderLanding", "I", false)
  | _ => ("LandingFines$Pad", "orderNumber", "I", false)
def tyX2 : Nat → FieldType := fun k => match k with
  | 0 => .array .char
  | 1 => .int
  | 2 => .int
  | 3 => .char
  | 4 => .int
  | _ => .int
abbrev wsX20 : List Cond := u_ws RX2 TX2 6
theorem nmX2 : ∀ a, a < 6 → ∀ b, b < 6 → a ≠ b → (TX2 a).2.1 ≠ (TX2 b).2.1 := by decide +kernel
theorem tyX2_ok : ∀ k, k < 6 → parseFieldDescriptor (TX2 k).2.2.1 = some (tyX2 k) := by decide +kernel
abbrev cX2_init : ByteArray := prog_4_method_1_code
def yX2_init : MethodName := ⟨RX2, "<init>", "()V"⟩
def RX3 : String := "LandingFines$River"
def TX3 : u_T := fun k => match k with
  | 0 => ("LandingFines$River", "settings", "[I", true)
  | 1 => ("LandingFines$River", "landings", "[LLandingFines$Landing;", true)
  | 2 => ("LandingFines$River", "landingCount", "I", false)
  | 3 => ("LandingFines$River", "minutesSoFar", "I", false)
  | 4 => ("LandingFines$River", "taken", "I", false)
  | 5 => ("LandingFines$River", "switches", "I", false)
  | _ => ("LandingFines$River", "journal", "LLandingFines$Journal;", true)
def tyX3 : Nat → FieldType := fun k => match k with
  | 0 => .array .int
  | 1 => .array (.object "LandingFines$Landing")
  | 2 => .int
  | 3 => .int
  | 4 => .int
  | 5 => .int
  | _ => .object "LandingFines$Journal"
abbrev wsX30 : List Cond := u_ws RX3 TX3 7
theorem nmX3 : ∀ a, a < 7 → ∀ b, b < 7 → a ≠ b → (TX3 a).2.1 ≠ (TX3 b).2.1 := by decide +kernel
theorem tyX3_ok : ∀ k, k < 7 → parseFieldDescriptor (TX3 k).2.2.1 = some (tyX3 k) := by decide +kernel
abbrev cX3_init : ByteArray := prog_5_method_1_code
def yX3_init : MethodName := ⟨RX3, "<init>", "()V"⟩
abbrev cX3_copyFrom : ByteArray := prog_5_method_2_code
def yX3_copyFrom : MethodName := ⟨RX3, "copyFrom", "(LLandingFines$River;)V"⟩
abbrev cX3_find : ByteArray := prog_5_method_3_code
def yX3_find : MethodName := ⟨RX3, "find", "(I)LLandingFines$Landing;"⟩
abbrev cX3_changeSetting : ByteArray := prog_5_method_4_code
def yX3_changeSetting : MethodName := ⟨RX3, "changeSetting", "(II)I"⟩
abbrev cX3_addLanding : ByteArray := prog_5_method_5_code
def yX3_addLanding : MethodName := ⟨RX3, "addLanding", "(I)I"⟩
abbrev cX3_openLanding : ByteArray := prog_5_method_6_code
def yX3_openLanding : MethodName := ⟨RX3, "openLanding", "(I)I"⟩
abbrev cX3_closeLanding : ByteArray := prog_5_method_7_code
def yX3_closeLanding : MethodName := ⟨RX3, "closeLanding", "(I)I"⟩
abbrev cX3_changePrice : ByteArray := prog_5_method_8_code
def yX3_changePrice : MethodName := ⟨RX3, "changePrice", "(II)I"⟩
abbrev cX3_finishChange : ByteArray := prog_5_method_9_code
def yX3_finishChange : MethodName := ⟨RX3, "finishChange", "(LLandingFines$Landing;II)I"⟩
abbrev cX3_fineBySort : ByteArray := prog_5_method_10_code
def yX3_fineBySort : MethodName := ⟨RX3, "fineBySort", "(LLandingFines$Landing;I)Z"⟩
abbrev cX3_passMinutes : ByteArray := prog_5_method_11_code
def yX3_passMinutes : MethodName := ⟨RX3, "passMinutes", "(I)I"⟩
abbrev cX3_passOneMinute : ByteArray := prog_5_method_12_code
def yX3_passOneMinute : MethodName := ⟨RX3, "passOneMinute", "()I"⟩
abbrev cX3_passMinuteOf : ByteArray := prog_5_method_13_code
def yX3_passMinuteOf : MethodName := ⟨RX3, "passMinuteOf", "(LLandingFines$Landing;)Z"⟩
abbrev cX3_followTaken : ByteArray := prog_5_method_15_code
def yX3_followTaken : MethodName := ⟨RX3, "followTaken", "()V"⟩
abbrev cX3_chosen : ByteArray := prog_5_method_16_code
def yX3_chosen : MethodName := ⟨RX3, "chosen", "(I)I"⟩
abbrev cX3_rankOf : ByteArray := prog_5_method_17_code
def yX3_rankOf : MethodName := ⟨RX3, "rankOf", "(I)I"⟩
abbrev cX3_tell : ByteArray := prog_5_method_18_code
def yX3_tell : MethodName := ⟨RX3, "tell", "(I)I"⟩
abbrev cX3_openOnes : ByteArray := prog_5_method_19_code
def yX3_openOnes : MethodName := ⟨RX3, "openOnes", "()I"⟩
abbrev cX3_shunnedOnes : ByteArray := prog_5_method_20_code
def yX3_shunnedOnes : MethodName := ⟨RX3, "shunnedOnes", "()I"⟩
def RX4 : String := "LandingFines"
def TX4 : u_T := fun k => match k with
  | 0 => ("LandingFines", "river", "LLandingFines$River;", true)
  | 1 => ("LandingFines", "history", "[LLandingFines$River;", true)
  | 2 => ("LandingFines", "historySize", "I", false)
  | 3 => ("LandingFines", "slots", "[LLandingFines$River;", true)
  | 4 => ("LandingFines", "slotUsed", "[Z", true)
  | 5 => ("LandingFines", "pad", "LLandingFines$Pad;", true)
  | _ => ("LandingFines", "trial", "LLandingFines$Landing;", true)
def tyX4 : Nat → FieldType := fun k => match k with
  | 0 => .object "LandingFines$River"
  | 1 => .array (.object "LandingFines$River")
  | 2 => .int
  | 3 => .array (.object "LandingFines$River")
  | 4 => .array .boolean
  | 5 => .object "LandingFines$Pad"
  | _ => .object "LandingFines$Landing"
abbrev wsX40 : List Cond := u_ws RX4 TX4 7
theorem nmX4 : ∀ a, a < 7 → ∀ b, b < 7 → a ≠ b → (TX4 a).2.1 ≠ (TX4 b).2.1 := by decide +kernel
theorem tyX4_ok : ∀ k, k < 7 → parseFieldDescriptor (TX4 k).2.2.1 = some (tyX4 k) := by decide +kernel
abbrev cX4_init : ByteArray := prog_1_method_1_code
def yX4_init : MethodName := ⟨RX4, "<init>", "()V"⟩
abbrev cX4_set : ByteArray := prog_1_method_2_code
def yX4_set : MethodName := ⟨RX4, "set", "(II)I"⟩
abbrev cX4_landing : ByteArray := prog_1_method_3_code
def yX4_landing : MethodName := ⟨RX4, "landing", "(I)I"⟩
abbrev cX4_open : ByteArray := prog_1_method_4_code
def yX4_open : MethodName := ⟨RX4, "open", "(I)I"⟩
abbrev cX4_close : ByteArray := prog_1_method_5_code
def yX4_close : MethodName := ⟨RX4, "close", "(I)I"⟩
abbrev cX4_price : ByteArray := prog_1_method_6_code
def yX4_price : MethodName := ⟨RX4, "price", "(II)I"⟩
abbrev cX4_pass : ByteArray := prog_1_method_7_code
def yX4_pass : MethodName := ⟨RX4, "pass", "(I)I"⟩
abbrev cX4_of : ByteArray := prog_1_method_8_code
def yX4_of : MethodName := ⟨RX4, "of", "(II)I"⟩
abbrev cX4_count : ByteArray := prog_1_method_9_code
def yX4_count : MethodName := ⟨RX4, "count", "(I)I"⟩
abbrev cX4_choice : ByteArray := prog_1_method_10_code
def yX4_choice : MethodName := ⟨RX4, "choice", "(I)I"⟩
abbrev cX4_log : ByteArray := prog_1_method_11_code
def yX4_log : MethodName := ⟨RX4, "log", "(II)I"⟩
abbrev cX4_why : ByteArray := prog_1_method_12_code
def yX4_why : MethodName := ⟨RX4, "why", "(I)I"⟩
abbrev cX4_keepState : ByteArray := prog_1_method_27_code
def yX4_keepState : MethodName := ⟨RX4, "keepState", "()V"⟩
abbrev cX4_recordUnlessError : ByteArray := prog_1_method_28_code
def yX4_recordUnlessError : MethodName := ⟨RX4, "recordUnlessError", "(I)I"⟩
abbrev cX4_dropOldest : ByteArray := prog_1_method_29_code
def yX4_dropOldest : MethodName := ⟨RX4, "dropOldest", "()V"⟩
def RX5 : String := "LandingFinesModel"
def TX5 : u_T := fun k => match k with
  | _ => ("", "", "", false)
def tyX5 : Nat → FieldType := fun k => match k with
  | _ => .int
abbrev wsX50 : List Cond := u_ws RX5 TX5 0
theorem nmX5 : ∀ a, a < 0 → ∀ b, b < 0 → a ≠ b → (TX5 a).2.1 ≠ (TX5 b).2.1 := by decide +kernel
theorem tyX5_ok : ∀ k, k < 0 → parseFieldDescriptor (TX5 k).2.2.1 = some (tyX5 k) := by decide +kernel
def RJx8e188 : String := "java/lang/Cloneable"
def TJx8e188 : u_T := fun k => match k with
  | _ => ("", "", "", false)
def tyJx8e188 : Nat → FieldType := fun k => match k with
  | _ => .int
abbrev wsJx8e1880 : List Cond := u_ws RJx8e188 TJx8e188 0
theorem nmJx8e188 : ∀ a, a < 0 → ∀ b, b < 0 → a ≠ b → (TJx8e188 a).2.1 ≠ (TJx8e188 b).2.1 := by decide +kernel
theorem tyJx8e188_ok : ∀ k, k < 0 → parseFieldDescriptor (TJx8e188 k).2.2.1 = some (tyJx8e188 k) := by decide +kernel
def RJ9 : String := "java/lang/Math"
def TJ9 : u_T := fun k => match k with
  | _ => ("", "", "", false)
def tyJ9 : Nat → FieldType := fun k => match k with
  | _ => .int
abbrev wsJ90 : List Cond := u_ws RJ9 TJ9 0
theorem nmJ9 : ∀ a, a < 0 → ∀ b, b < 0 → a ≠ b → (TJ9 a).2.1 ≠ (TJ9 b).2.1 := by decide +kernel
theorem tyJ9_ok : ∀ k, k < 0 → parseFieldDescriptor (TJ9 k).2.2.1 = some (tyJ9 k) := by decide +kernel
abbrev cJ9_min_7cf53 : ByteArray := prog_9_method_69_code
def yJ9_min_7cf53 : MethodName := ⟨RJ9, "min", "(II)I"⟩
def RJ10 : String := "java/lang/System"
def TJ10 : u_T := fun k => match k with
  | _ => ("", "", "", false)
def tyJ10 : Nat → FieldType := fun k => match k with
  | _ => .int
abbrev wsJ100 : List Cond := u_ws RJ10 TJ10 0
theorem nmJ10 : ∀ a, a < 0 → ∀ b, b < 0 → a ≠ b → (TJ10 a).2.1 ≠ (TJ10 b).2.1 := by decide +kernel
theorem tyJ10_ok : ∀ k, k < 0 → parseFieldDescriptor (TJ10 k).2.2.1 = some (tyJ10 k) := by decide +kernel
def RL : String := "LandingFinesLaw"
abbrev cL_cell : ByteArray := method_2_code
def yL_cell : MethodName := ⟨RL, "cell", "([II)I"⟩
abbrev cL_low : ByteArray := method_3_code
def yL_low : MethodName := ⟨RL, "low", "(II)I"⟩
abbrev cL_told : ByteArray := method_4_code
def yL_told : MethodName := ⟨RL, "told", "(LLandingFines;)[I"⟩
abbrev cL_taken : ByteArray := method_5_code
def yL_taken : MethodName := ⟨RL, "taken", "(LLandingFines;)I"⟩
abbrev cL_chosen : ByteArray := method_6_code
def yL_chosen : MethodName := ⟨RL, "chosen", "(LLandingFines;)Z"⟩
abbrev cL_changed : ByteArray := method_7_code
def yL_changed : MethodName := ⟨RL, "changed", "(LLandingFines;[IIII)Z"⟩
abbrev cL_aged : ByteArray := method_8_code
def yL_aged : MethodName := ⟨RL, "aged", "(LLandingFines;[II)Z"⟩
abbrev cL_passed : ByteArray := method_9_code
def yL_passed : MethodName := ⟨RL, "passed", "(LLandingFines;[I)Z"⟩
abbrev cL_act : ByteArray := method_10_code
def yL_act : MethodName := ⟨RL, "act", "(LLandingFines;II)Z"⟩
abbrev cL_law : ByteArray := code
def yL_law : MethodName := ⟨RL, "law", "([I)Z"⟩
def wsX0_init : List Cond := .code yX0_init cX0_init 1 none :: ([.methodLink RX0 3 objectInit, .instanceMethod objectInit, .code objectInit ⟨#[0xb1]⟩ 1 none, .arrayClass .int, .fieldLink RX0 9 "LandingFines$Journal" "sorts" "[I", .fieldLink RX0 15 "LandingFines$Journal" "places" "[I", .fieldLink RX0 18 "LandingFines$Journal" "minutes" "[I", .fieldLink RX0 21 "LandingFines$Journal" "size" "I", .fieldLink RX0 25 "LandingFines$Journal" "next" "I"] ++ wsX00)
def wsX0_add : List Cond := .code yX0_add cX0_add 4 none :: ([.fieldLink RX0 9 "LandingFines$Journal" "sorts" "[I", .fieldLink RX0 25 "LandingFines$Journal" "next" "I", .fieldLink RX0 15 "LandingFines$Journal" "places" "[I", .fieldLink RX0 18 "LandingFines$Journal" "minutes" "[I", .fieldLink RX0 21 "LandingFines$Journal" "size" "I", .methodLink RX0 28 Lib.Math.min.name, .static Lib.Math.min.name, .initialized "java/lang/Math", .code Lib.Math.min.name Lib.Math.min.code 2 (some .int)] ++ wsX00)
def wsX0_tell : List Cond := .code yX0_tell cX0_tell 4 (some .int) :: ([.fieldLink RX0 21 "LandingFines$Journal" "size" "I", .fieldLink RX0 25 "LandingFines$Journal" "next" "I", .fieldLink RX0 9 "LandingFines$Journal" "sorts" "[I", .fieldLink RX0 15 "LandingFines$Journal" "places" "[I", .fieldLink RX0 18 "LandingFines$Journal" "minutes" "[I"] ++ wsX00)
def wsX0_copyFrom : List Cond := .code yX0_copyFrom cX0_copyFrom 2 none :: ([.fieldLink RX0 9 "LandingFines$Journal" "sorts" "[I", .methodLink RX0 34 arraycopyName, .native arraycopyName, .static arraycopyName, .initialized "java/lang/System", .fieldLink RX0 15 "LandingFines$Journal" "places" "[I", .fieldLink RX0 18 "LandingFines$Journal" "minutes" "[I", .fieldLink RX0 21 "LandingFines$Journal" "size" "I", .fieldLink RX0 25 "LandingFines$Journal" "next" "I"] ++ wsX00)
def wsX1_init : List Cond := .code yX1_init cX1_init 1 none :: ([.methodLink RX1 3 objectInit, .instanceMethod objectInit, .code objectInit ⟨#[0xb1]⟩ 1 none])
def wsX1_arrive : List Cond := .code yX1_arrive cX1_arrive 2 none :: ([.fieldLink RX1 9 "LandingFines$Landing" "isOpen" "Z", .fieldLink RX1 15 "LandingFines$Landing" "fare" "I", .fieldLink RX1 19 "LandingFines$Landing" "fine" "I", .fieldLink RX1 22 "LandingFines$Landing" "isShunned" "Z", .fieldLink RX1 25 "LandingFines$Landing" "minutesShunned" "I", .fieldLink RX1 28 "LandingFines$Landing" "minutesSinceHalving" "I", .fieldLink RX1 31 "LandingFines$Landing" "changes" "I", .fieldLink RX1 34 "LandingFines$Landing" "timesShunned" "I"] ++ wsX10)
def wsX1_copyFrom : List Cond := .code yX1_copyFrom cX1_copyFrom 2 none :: ([.fieldLink RX1 9 "LandingFines$Landing" "isOpen" "Z", .fieldLink RX1 15 "LandingFines$Landing" "fare" "I", .fieldLink RX1 19 "LandingFines$Landing" "fine" "I", .fieldLink RX1 22 "LandingFines$Landing" "isShunned" "Z", .fieldLink RX1 25 "LandingFines$Landing" "minutesShunned" "I", .fieldLink RX1 28 "LandingFines$Landing" "minutesSinceHalving" "I", .fieldLink RX1 31 "LandingFines$Landing" "changes" "I", .fieldLink RX1 34 "LandingFines$Landing" "timesShunned" "I"] ++ wsX10)
def wsX1_canBeTaken : List Cond := .code yX1_canBeTaken cX1_canBeTaken 1 (some .boolean) :: ([.fieldLink RX1 9 "LandingFines$Landing" "isOpen" "Z", .fieldLink RX1 22 "LandingFines$Landing" "isShunned" "Z"] ++ wsX10)
def wsX1_addFine : List Cond := .code yX1_addFine cX1_addFine 3 (some .boolean) :: ([.fieldLink RX1 31 "LandingFines$Landing" "changes" "I", .fieldLink RX1 19 "LandingFines$Landing" "fine" "I", .constant RX1 37 (99999), .methodLink RX1 38 Lib.Math.min.name, .static Lib.Math.min.name, .initialized "java/lang/Math", .code Lib.Math.min.name Lib.Math.min.code 2 (some .int), .fieldLink RX1 22 "LandingFines$Landing" "isShunned" "Z", .fieldLink RX1 25 "LandingFines$Landing" "minutesShunned" "I", .fieldLink RX1 34 "LandingFines$Landing" "timesShunned" "I"] ++ wsX10)
def wsX1_passMinute : List Cond := .code yX1_passMinute cX1_passMinute 4 (some .boolean) :: ([.fieldLink RX1 28 "LandingFines$Landing" "minutesSinceHalving" "I", .fieldLink RX1 19 "LandingFines$Landing" "fine" "I", .fieldLink RX1 22 "LandingFines$Landing" "isShunned" "Z", .fieldLink RX1 25 "LandingFines$Landing" "minutesShunned" "I", .methodLink RX1 38 Lib.Math.min.name, .static Lib.Math.min.name, .initialized "java/lang/Math", .code Lib.Math.min.name Lib.Math.min.code 2 (some .int)] ++ wsX10)
def wsX1_tell : List Cond := .code yX1_tell cX1_tell 2 (some .int) :: ([.fieldLink RX1 9 "LandingFines$Landing" "isOpen" "Z", .fieldLink RX1 15 "LandingFines$Landing" "fare" "I", .fieldLink RX1 19 "LandingFines$Landing" "fine" "I", .fieldLink RX1 22 "LandingFines$Landing" "isShunned" "Z", .fieldLink RX1 25 "LandingFines$Landing" "minutesShunned" "I", .fieldLink RX1 28 "LandingFines$Landing" "minutesSinceHalving" "I", .fieldLink RX1 31 "LandingFines$Landing" "changes" "I", .fieldLink RX1 34 "LandingFines$Landing" "timesShunned" "I"] ++ wsX10)
def wsX2_init : List Cond := .code yX2_init cX2_init 1 none :: ([.methodLink RX2 3 objectInit, .instanceMethod objectInit, .code objectInit ⟨#[0xb1]⟩ 1 none, .arrayClass .char, .fieldLink RX2 9 "LandingFines$Pad" "signs" "[C", .fieldLink RX2 15 "LandingFines$Pad" "length" "I", .fieldLink RX2 19 "LandingFines$Pad" "place" "I", .fieldLink RX2 22 "LandingFines$Pad" "orderSign" "C", .fieldLink RX2 26 "LandingFines$Pad" "orderLanding" "I", .fieldLink RX2 29 "LandingFines$Pad" "orderNumber" "I"] ++ wsX20)
def wsX3_init_r1 : List Cond := [Cond.methodLink RX3 3 objectInit, Cond.instanceMethod objectInit, Cond.code objectInit ⟨#[0xb1]⟩ 1 none, Cond.methodLink RX3 13 ⟨"[I", "clone", "()Ljava/lang/Object;"⟩, Cond.sameMethod "[I" "java/lang/Object" "clone" "()Ljava/lang/Object;", Cond.native ⟨"java/lang/Object", "clone", "()Ljava/lang/Object;"⟩, Cond.instanceMethod ⟨"java/lang/Object", "clone", "()Ljava/lang/Object;"⟩, Cond.selects "[I" ⟨"[I", "clone", "()Ljava/lang/Object;"⟩ ⟨"java/lang/Object", "clone", "()Ljava/lang/Object;"⟩, Cond.classLink RX3 14 "[I", Cond.fieldLink RX3 18 "LandingFines$River" "settings" "[I", Cond.classLink RX3 23 RX1, Cond.fieldLink RX3 25 "LandingFines$River" "landings" "[LLandingFines$Landing;", Cond.fieldLink RX3 29 "LandingFines$River" "landingCount" "I", Cond.fieldLink RX3 33 "LandingFines$River" "minutesSoFar" "I", Cond.fieldLink RX3 36 "LandingFines$River" "taken" "I", Cond.fieldLink RX3 39 "LandingFines$River" "switches" "I", Cond.classLink RX3 42 RX0, Cond.instantiable RX0 5, Cond.initialized RX0, Cond.fieldLink RX3 45 "LandingFines$River" "journal" "LLandingFines$Journal;", Cond.instantiable RX1 8, Cond.initialized RX1, Cond.instanceMethod yX0_init, Cond.code yX0_init cX0_init 1 none]
def wsX3_init_r2 : List Cond := [Cond.methodLink RX0 3 objectInit, Cond.arrayClass .int, Cond.fieldLink RX0 9 "LandingFines$Journal" "sorts" "[I", Cond.fieldLink RX0 15 "LandingFines$Journal" "places" "[I", Cond.fieldLink RX0 18 "LandingFines$Journal" "minutes" "[I", Cond.fieldLink RX0 21 "LandingFines$Journal" "size" "I", Cond.fieldLink RX0 25 "LandingFines$Journal" "next" "I", Cond.instanceMethod yX1_init, Cond.code yX1_init cX1_init 1 none, Cond.methodLink RX1 3 objectInit]
def wsX3_init : List Cond := .code yX3_init cX3_init 2 none :: ((wsX3_init_r1 ++ wsX3_init_r2) ++ wsX30 ++ wsX00 ++ wsX10)
def wsX3_copyFrom_r1 : List Cond := [Cond.fieldLink RX3 18 "LandingFines$River" "settings" "[I", Cond.methodLink RX3 50 arraycopyName, Cond.native arraycopyName, Cond.static arraycopyName, Cond.initialized "java/lang/System", Cond.fieldLink RX3 25 "LandingFines$River" "landings" "[LLandingFines$Landing;", Cond.fieldLink RX3 29 "LandingFines$River" "landingCount" "I", Cond.fieldLink RX3 33 "LandingFines$River" "minutesSoFar" "I", Cond.fieldLink RX3 36 "LandingFines$River" "taken" "I", Cond.fieldLink RX3 39 "LandingFines$River" "switches" "I", Cond.fieldLink RX3 45 "LandingFines$River" "journal" "LLandingFines$Journal;", Cond.methodLink RX3 56 yX1_copyFrom, Cond.instanceMethod yX1_copyFrom, Cond.selects RX1 yX1_copyFrom yX1_copyFrom, Cond.initialized RX1, Cond.code yX1_copyFrom cX1_copyFrom 2 none, Cond.fieldLink RX1 9 "LandingFines$Landing" "isOpen" "Z", Cond.fieldLink RX1 15 "LandingFines$Landing" "fare" "I", Cond.fieldLink RX1 19 "LandingFines$Landing" "fine" "I", Cond.fieldLink RX1 22 "LandingFines$Landing" "isShunned" "Z", Cond.fieldLink RX1 25 "LandingFines$Landing" "minutesShunned" "I", Cond.fieldLink RX1 28 "LandingFines$Landing" "minutesSinceHalving" "I", Cond.fieldLink RX1 31 "LandingFines$Landing" "changes" "I", Cond.fieldLink RX1 34 "LandingFines$Landing" "timesShunned" "I"]
def wsX3_copyFrom_r2 : List Cond := [Cond.methodLink RX3 60 yX0_copyFrom, Cond.instanceMethod yX0_copyFrom, Cond.selects RX0 yX0_copyFrom yX0_copyFrom, Cond.initialized RX0, Cond.code yX0_copyFrom cX0_copyFrom 2 none, Cond.fieldLink RX0 9 "LandingFines$Journal" "sorts" "[I", Cond.methodLink RX0 34 arraycopyName, Cond.fieldLink RX0 15 "LandingFines$Journal" "places" "[I", Cond.fieldLink RX0 18 "LandingFines$Journal" "minutes" "[I", Cond.fieldLink RX0 21 "LandingFines$Journal" "size" "I", Cond.fieldLink RX0 25 "LandingFines$Journal" "next" "I"]
def wsX3_copyFrom : List Cond := .code yX3_copyFrom cX3_copyFrom 3 none :: ((wsX3_copyFrom_r1 ++ wsX3_copyFrom_r2) ++ wsX30 ++ wsX10 ++ wsX00)
def wsX3_find : List Cond := .code yX3_find cX3_find 2 (some (.object "LandingFines$Landing")) :: ([.fieldLink RX3 29 "LandingFines$River" "landingCount" "I", .fieldLink RX3 25 "LandingFines$River" "landings" "[LLandingFines$Landing;"] ++ wsX30)
def wsX3_changeSetting : List Cond := .code yX3_changeSetting cX3_changeSetting 4 (some .int) :: ([.fieldLink RX3 18 "LandingFines$River" "settings" "[I"] ++ wsX30)
def wsX3_followTaken : List Cond := .code yX3_followTaken cX3_followTaken 3 none :: ([.fieldLink RX3 29 "LandingFines$River" "landingCount" "I", .fieldLink RX3 25 "LandingFines$River" "landings" "[LLandingFines$Landing;", .fieldLink RX3 88 "LandingFines$Landing" "fare" "I", .fieldLink RX3 36 "LandingFines$River" "taken" "I", .fieldLink RX3 39 "LandingFines$River" "switches" "I", .methodLink RX3 131 yX1_canBeTaken, .instanceMethod yX1_canBeTaken, .selects RX1 yX1_canBeTaken yX1_canBeTaken, .initialized RX1, .code yX1_canBeTaken cX1_canBeTaken 1 (some .boolean), .fieldLink RX1 9 "LandingFines$Landing" "isOpen" "Z", .fieldLink RX1 22 "LandingFines$Landing" "isShunned" "Z"] ++ wsX30 ++ wsX10)
def wsX3_addLanding_r1 : List Cond := [Cond.fieldLink RX3 29 "LandingFines$River" "landingCount" "I", Cond.fieldLink RX3 25 "LandingFines$River" "landings" "[LLandingFines$Landing;", Cond.methodLink RX3 69 yX1_arrive, Cond.instanceMethod yX1_arrive, Cond.selects RX1 yX1_arrive yX1_arrive, Cond.initialized RX1, Cond.code yX1_arrive cX1_arrive 2 none, Cond.fieldLink RX1 9 "LandingFines$Landing" "isOpen" "Z", Cond.fieldLink RX1 15 "LandingFines$Landing" "fare" "I", Cond.fieldLink RX1 19 "LandingFines$Landing" "fine" "I", Cond.fieldLink RX1 22 "LandingFines$Landing" "isShunned" "Z", Cond.fieldLink RX1 25 "LandingFines$Landing" "minutesShunned" "I", Cond.fieldLink RX1 28 "LandingFines$Landing" "minutesSinceHalving" "I", Cond.fieldLink RX1 31 "LandingFines$Landing" "changes" "I", Cond.fieldLink RX1 34 "LandingFines$Landing" "timesShunned" "I", Cond.methodLink RX3 73 yX3_followTaken, Cond.instanceMethod yX3_followTaken, Cond.selects RX3 yX3_followTaken yX3_followTaken, Cond.initialized RX3, Cond.code yX3_followTaken cX3_followTaken 3 none, Cond.fieldLink RX3 88 "LandingFines$Landing" "fare" "I", Cond.fieldLink RX3 36 "LandingFines$River" "taken" "I", Cond.fieldLink RX3 39 "LandingFines$River" "switches" "I", Cond.methodLink RX3 131 yX1_canBeTaken]
def wsX3_addLanding_r2 : List Cond := [Cond.instanceMethod yX1_canBeTaken, Cond.selects RX1 yX1_canBeTaken yX1_canBeTaken, Cond.code yX1_canBeTaken cX1_canBeTaken 1 (some .boolean)]
def wsX3_addLanding : List Cond := .code yX3_addLanding cX3_addLanding 2 (some .int) :: ((wsX3_addLanding_r1 ++ wsX3_addLanding_r2) ++ wsX30 ++ wsX10)
def wsX3_fineBySort : List Cond := .code yX3_fineBySort cX3_fineBySort 3 (some .boolean) :: ([.fieldLink RX3 18 "LandingFines$River" "settings" "[I", .methodLink RX3 102 yX1_addFine, .instanceMethod yX1_addFine, .selects RX1 yX1_addFine yX1_addFine, .initialized RX1, .code yX1_addFine cX1_addFine 3 (some .boolean), .fieldLink RX1 31 "LandingFines$Landing" "changes" "I", .fieldLink RX1 19 "LandingFines$Landing" "fine" "I", .constant RX1 37 (99999), .methodLink RX1 38 Lib.Math.min.name, .static Lib.Math.min.name, .initialized "java/lang/Math", .code Lib.Math.min.name Lib.Math.min.code 2 (some .int), .fieldLink RX1 22 "LandingFines$Landing" "isShunned" "Z", .fieldLink RX1 25 "LandingFines$Landing" "minutesShunned" "I", .fieldLink RX1 34 "LandingFines$Landing" "timesShunned" "I"] ++ wsX30 ++ wsX10)
def wsX3_finishChange_r1 : List Cond := [Cond.fieldLink RX3 45 "LandingFines$River" "journal" "LLandingFines$Journal;", Cond.fieldLink RX3 33 "LandingFines$River" "minutesSoFar" "I", Cond.fieldLink RX3 99 "LandingFines$Landing" "fine" "I", Cond.methodLink RX3 91 yX0_add, Cond.instanceMethod yX0_add, Cond.selects RX0 yX0_add yX0_add, Cond.initialized RX0, Cond.code yX0_add cX0_add 4 none, Cond.fieldLink RX0 9 "LandingFines$Journal" "sorts" "[I", Cond.fieldLink RX0 25 "LandingFines$Journal" "next" "I", Cond.fieldLink RX0 15 "LandingFines$Journal" "places" "[I", Cond.fieldLink RX0 18 "LandingFines$Journal" "minutes" "[I", Cond.fieldLink RX0 21 "LandingFines$Journal" "size" "I", Cond.methodLink RX0 28 Lib.Math.min.name, Cond.static Lib.Math.min.name, Cond.initialized "java/lang/Math", Cond.code Lib.Math.min.name Lib.Math.min.code 2 (some .int), Cond.methodLink RX3 95 yX3_fineBySort, Cond.instanceMethod yX3_fineBySort, Cond.selects RX3 yX3_fineBySort yX3_fineBySort, Cond.initialized RX3, Cond.code yX3_fineBySort cX3_fineBySort 3 (some .boolean), Cond.fieldLink RX3 18 "LandingFines$River" "settings" "[I", Cond.methodLink RX3 102 yX1_addFine]
def wsX3_finishChange_r2 : List Cond := [Cond.instanceMethod yX1_addFine, Cond.selects RX1 yX1_addFine yX1_addFine, Cond.initialized RX1, Cond.code yX1_addFine cX1_addFine 3 (some .boolean), Cond.fieldLink RX1 31 "LandingFines$Landing" "changes" "I", Cond.fieldLink RX1 19 "LandingFines$Landing" "fine" "I", Cond.constant RX1 37 (99999), Cond.methodLink RX1 38 Lib.Math.min.name, Cond.fieldLink RX1 22 "LandingFines$Landing" "isShunned" "Z", Cond.fieldLink RX1 25 "LandingFines$Landing" "minutesShunned" "I", Cond.fieldLink RX1 34 "LandingFines$Landing" "timesShunned" "I", Cond.methodLink RX3 73 yX3_followTaken, Cond.instanceMethod yX3_followTaken, Cond.selects RX3 yX3_followTaken yX3_followTaken, Cond.code yX3_followTaken cX3_followTaken 3 none, Cond.fieldLink RX3 29 "LandingFines$River" "landingCount" "I", Cond.fieldLink RX3 25 "LandingFines$River" "landings" "[LLandingFines$Landing;", Cond.fieldLink RX3 88 "LandingFines$Landing" "fare" "I", Cond.fieldLink RX3 36 "LandingFines$River" "taken" "I", Cond.fieldLink RX3 39 "LandingFines$River" "switches" "I", Cond.methodLink RX3 131 yX1_canBeTaken, Cond.instanceMethod yX1_canBeTaken, Cond.selects RX1 yX1_canBeTaken yX1_canBeTaken, Cond.code yX1_canBeTaken cX1_canBeTaken 1 (some .boolean)]
def wsX3_finishChange_r3 : List Cond := [Cond.fieldLink RX1 9 "LandingFines$Landing" "isOpen" "Z"]
def wsX3_finishChange : List Cond := .code yX3_finishChange cX3_finishChange 4 (some .int) :: ((wsX3_finishChange_r1 ++ (wsX3_finishChange_r2 ++ wsX3_finishChange_r3)) ++ wsX30 ++ wsX10 ++ wsX00)
def wsX3_openLanding_r1 : List Cond := [Cond.fieldLink RX3 80 "LandingFines$Landing" "isOpen" "Z", Cond.methodLink RX3 76 yX3_find, Cond.instanceMethod yX3_find, Cond.selects RX3 yX3_find yX3_find, Cond.initialized RX3, Cond.code yX3_find cX3_find 2 (some (.object "LandingFines$Landing")), Cond.fieldLink RX3 29 "LandingFines$River" "landingCount" "I", Cond.fieldLink RX3 25 "LandingFines$River" "landings" "[LLandingFines$Landing;", Cond.methodLink RX3 84 yX3_finishChange, Cond.instanceMethod yX3_finishChange, Cond.selects RX3 yX3_finishChange yX3_finishChange, Cond.code yX3_finishChange cX3_finishChange 4 (some .int), Cond.fieldLink RX3 45 "LandingFines$River" "journal" "LLandingFines$Journal;", Cond.fieldLink RX3 33 "LandingFines$River" "minutesSoFar" "I", Cond.fieldLink RX3 99 "LandingFines$Landing" "fine" "I", Cond.methodLink RX3 91 yX0_add, Cond.instanceMethod yX0_add, Cond.selects RX0 yX0_add yX0_add, Cond.initialized RX0, Cond.code yX0_add cX0_add 4 none, Cond.fieldLink RX0 9 "LandingFines$Journal" "sorts" "[I", Cond.fieldLink RX0 25 "LandingFines$Journal" "next" "I", Cond.fieldLink RX0 15 "LandingFines$Journal" "places" "[I", Cond.fieldLink RX0 18 "LandingFines$Journal" "minutes" "[I"]
def wsX3_openLanding_r2 : List Cond := [Cond.fieldLink RX0 21 "LandingFines$Journal" "size" "I", Cond.methodLink RX0 28 Lib.Math.min.name, Cond.static Lib.Math.min.name, Cond.initialized "java/lang/Math", Cond.code Lib.Math.min.name Lib.Math.min.code 2 (some .int), Cond.methodLink RX3 95 yX3_fineBySort, Cond.instanceMethod yX3_fineBySort, Cond.selects RX3 yX3_fineBySort yX3_fineBySort, Cond.code yX3_fineBySort cX3_fineBySort 3 (some .boolean), Cond.fieldLink RX3 18 "LandingFines$River" "settings" "[I", Cond.methodLink RX3 102 yX1_addFine, Cond.instanceMethod yX1_addFine, Cond.selects RX1 yX1_addFine yX1_addFine, Cond.initialized RX1, Cond.code yX1_addFine cX1_addFine 3 (some .boolean), Cond.fieldLink RX1 31 "LandingFines$Landing" "changes" "I", Cond.fieldLink RX1 19 "LandingFines$Landing" "fine" "I", Cond.constant RX1 37 (99999), Cond.methodLink RX1 38 Lib.Math.min.name, Cond.fieldLink RX1 22 "LandingFines$Landing" "isShunned" "Z", Cond.fieldLink RX1 25 "LandingFines$Landing" "minutesShunned" "I", Cond.fieldLink RX1 34 "LandingFines$Landing" "timesShunned" "I", Cond.methodLink RX3 73 yX3_followTaken, Cond.instanceMethod yX3_followTaken]
def wsX3_openLanding_r3 : List Cond := [Cond.selects RX3 yX3_followTaken yX3_followTaken, Cond.code yX3_followTaken cX3_followTaken 3 none, Cond.fieldLink RX3 88 "LandingFines$Landing" "fare" "I", Cond.fieldLink RX3 36 "LandingFines$River" "taken" "I", Cond.fieldLink RX3 39 "LandingFines$River" "switches" "I", Cond.methodLink RX3 131 yX1_canBeTaken, Cond.instanceMethod yX1_canBeTaken, Cond.selects RX1 yX1_canBeTaken yX1_canBeTaken, Cond.code yX1_canBeTaken cX1_canBeTaken 1 (some .boolean), Cond.fieldLink RX1 9 "LandingFines$Landing" "isOpen" "Z"]
def wsX3_openLanding : List Cond := .code yX3_openLanding cX3_openLanding 3 (some .int) :: ((wsX3_openLanding_r1 ++ (wsX3_openLanding_r2 ++ wsX3_openLanding_r3)) ++ wsX10 ++ wsX30 ++ wsX00)
def wsX3_closeLanding_r1 : List Cond := [Cond.fieldLink RX3 80 "LandingFines$Landing" "isOpen" "Z", Cond.methodLink RX3 76 yX3_find, Cond.instanceMethod yX3_find, Cond.selects RX3 yX3_find yX3_find, Cond.initialized RX3, Cond.code yX3_find cX3_find 2 (some (.object "LandingFines$Landing")), Cond.fieldLink RX3 29 "LandingFines$River" "landingCount" "I", Cond.fieldLink RX3 25 "LandingFines$River" "landings" "[LLandingFines$Landing;", Cond.methodLink RX3 84 yX3_finishChange, Cond.instanceMethod yX3_finishChange, Cond.selects RX3 yX3_finishChange yX3_finishChange, Cond.code yX3_finishChange cX3_finishChange 4 (some .int), Cond.fieldLink RX3 45 "LandingFines$River" "journal" "LLandingFines$Journal;", Cond.fieldLink RX3 33 "LandingFines$River" "minutesSoFar" "I", Cond.fieldLink RX3 99 "LandingFines$Landing" "fine" "I", Cond.methodLink RX3 91 yX0_add, Cond.instanceMethod yX0_add, Cond.selects RX0 yX0_add yX0_add, Cond.initialized RX0, Cond.code yX0_add cX0_add 4 none, Cond.fieldLink RX0 9 "LandingFines$Journal" "sorts" "[I", Cond.fieldLink RX0 25 "LandingFines$Journal" "next" "I", Cond.fieldLink RX0 15 "LandingFines$Journal" "places" "[I", Cond.fieldLink RX0 18 "LandingFines$Journal" "minutes" "[I"]
def wsX3_closeLanding_r2 : List Cond := [Cond.fieldLink RX0 21 "LandingFines$Journal" "size" "I", Cond.methodLink RX0 28 Lib.Math.min.name, Cond.static Lib.Math.min.name, Cond.initialized "java/lang/Math", Cond.code Lib.Math.min.name Lib.Math.min.code 2 (some .int), Cond.methodLink RX3 95 yX3_fineBySort, Cond.instanceMethod yX3_fineBySort, Cond.selects RX3 yX3_fineBySort yX3_fineBySort, Cond.code yX3_fineBySort cX3_fineBySort 3 (some .boolean), Cond.fieldLink RX3 18 "LandingFines$River" "settings" "[I", Cond.methodLink RX3 102 yX1_addFine, Cond.instanceMethod yX1_addFine, Cond.selects RX1 yX1_addFine yX1_addFine, Cond.initialized RX1, Cond.code yX1_addFine cX1_addFine 3 (some .boolean), Cond.fieldLink RX1 31 "LandingFines$Landing" "changes" "I", Cond.fieldLink RX1 19 "LandingFines$Landing" "fine" "I", Cond.constant RX1 37 (99999), Cond.methodLink RX1 38 Lib.Math.min.name, Cond.fieldLink RX1 22 "LandingFines$Landing" "isShunned" "Z", Cond.fieldLink RX1 25 "LandingFines$Landing" "minutesShunned" "I", Cond.fieldLink RX1 34 "LandingFines$Landing" "timesShunned" "I", Cond.methodLink RX3 73 yX3_followTaken, Cond.instanceMethod yX3_followTaken]
def wsX3_closeLanding_r3 : List Cond := [Cond.selects RX3 yX3_followTaken yX3_followTaken, Cond.code yX3_followTaken cX3_followTaken 3 none, Cond.fieldLink RX3 88 "LandingFines$Landing" "fare" "I", Cond.fieldLink RX3 36 "LandingFines$River" "taken" "I", Cond.fieldLink RX3 39 "LandingFines$River" "switches" "I", Cond.methodLink RX3 131 yX1_canBeTaken, Cond.instanceMethod yX1_canBeTaken, Cond.selects RX1 yX1_canBeTaken yX1_canBeTaken, Cond.code yX1_canBeTaken cX1_canBeTaken 1 (some .boolean), Cond.fieldLink RX1 9 "LandingFines$Landing" "isOpen" "Z"]
def wsX3_closeLanding : List Cond := .code yX3_closeLanding cX3_closeLanding 3 (some .int) :: ((wsX3_closeLanding_r1 ++ (wsX3_closeLanding_r2 ++ wsX3_closeLanding_r3)) ++ wsX10 ++ wsX30 ++ wsX00)
def wsX3_changePrice_r1 : List Cond := [Cond.fieldLink RX3 88 "LandingFines$Landing" "fare" "I", Cond.methodLink RX3 76 yX3_find, Cond.instanceMethod yX3_find, Cond.selects RX3 yX3_find yX3_find, Cond.initialized RX3, Cond.code yX3_find cX3_find 2 (some (.object "LandingFines$Landing")), Cond.fieldLink RX3 29 "LandingFines$River" "landingCount" "I", Cond.fieldLink RX3 25 "LandingFines$River" "landings" "[LLandingFines$Landing;", Cond.methodLink RX3 84 yX3_finishChange, Cond.instanceMethod yX3_finishChange, Cond.selects RX3 yX3_finishChange yX3_finishChange, Cond.code yX3_finishChange cX3_finishChange 4 (some .int), Cond.fieldLink RX3 45 "LandingFines$River" "journal" "LLandingFines$Journal;", Cond.fieldLink RX3 33 "LandingFines$River" "minutesSoFar" "I", Cond.fieldLink RX3 99 "LandingFines$Landing" "fine" "I", Cond.methodLink RX3 91 yX0_add, Cond.instanceMethod yX0_add, Cond.selects RX0 yX0_add yX0_add, Cond.initialized RX0, Cond.code yX0_add cX0_add 4 none, Cond.fieldLink RX0 9 "LandingFines$Journal" "sorts" "[I", Cond.fieldLink RX0 25 "LandingFines$Journal" "next" "I", Cond.fieldLink RX0 15 "LandingFines$Journal" "places" "[I", Cond.fieldLink RX0 18 "LandingFines$Journal" "minutes" "[I"]
def wsX3_changePrice_r2 : List Cond := [Cond.fieldLink RX0 21 "LandingFines$Journal" "size" "I", Cond.methodLink RX0 28 Lib.Math.min.name, Cond.static Lib.Math.min.name, Cond.initialized "java/lang/Math", Cond.code Lib.Math.min.name Lib.Math.min.code 2 (some .int), Cond.methodLink RX3 95 yX3_fineBySort, Cond.instanceMethod yX3_fineBySort, Cond.selects RX3 yX3_fineBySort yX3_fineBySort, Cond.code yX3_fineBySort cX3_fineBySort 3 (some .boolean), Cond.fieldLink RX3 18 "LandingFines$River" "settings" "[I", Cond.methodLink RX3 102 yX1_addFine, Cond.instanceMethod yX1_addFine, Cond.selects RX1 yX1_addFine yX1_addFine, Cond.initialized RX1, Cond.code yX1_addFine cX1_addFine 3 (some .boolean), Cond.fieldLink RX1 31 "LandingFines$Landing" "changes" "I", Cond.fieldLink RX1 19 "LandingFines$Landing" "fine" "I", Cond.constant RX1 37 (99999), Cond.methodLink RX1 38 Lib.Math.min.name, Cond.fieldLink RX1 22 "LandingFines$Landing" "isShunned" "Z", Cond.fieldLink RX1 25 "LandingFines$Landing" "minutesShunned" "I", Cond.fieldLink RX1 34 "LandingFines$Landing" "timesShunned" "I", Cond.methodLink RX3 73 yX3_followTaken, Cond.instanceMethod yX3_followTaken]
def wsX3_changePrice_r3 : List Cond := [Cond.selects RX3 yX3_followTaken yX3_followTaken, Cond.code yX3_followTaken cX3_followTaken 3 none, Cond.fieldLink RX3 36 "LandingFines$River" "taken" "I", Cond.fieldLink RX3 39 "LandingFines$River" "switches" "I", Cond.methodLink RX3 131 yX1_canBeTaken, Cond.instanceMethod yX1_canBeTaken, Cond.selects RX1 yX1_canBeTaken yX1_canBeTaken, Cond.code yX1_canBeTaken cX1_canBeTaken 1 (some .boolean), Cond.fieldLink RX1 9 "LandingFines$Landing" "isOpen" "Z"]
def wsX3_changePrice : List Cond := .code yX3_changePrice cX3_changePrice 4 (some .int) :: ((wsX3_changePrice_r1 ++ (wsX3_changePrice_r2 ++ wsX3_changePrice_r3)) ++ wsX10 ++ wsX30 ++ wsX00)
def wsX3_passMinuteOf : List Cond := .code yX3_passMinuteOf cX3_passMinuteOf 2 (some .boolean) :: ([.fieldLink RX3 18 "LandingFines$River" "settings" "[I", .methodLink RX3 115 yX1_passMinute, .instanceMethod yX1_passMinute, .selects RX1 yX1_passMinute yX1_passMinute, .initialized RX1, .code yX1_passMinute cX1_passMinute 4 (some .boolean), .fieldLink RX1 28 "LandingFines$Landing" "minutesSinceHalving" "I", .fieldLink RX1 19 "LandingFines$Landing" "fine" "I", .fieldLink RX1 22 "LandingFines$Landing" "isShunned" "Z", .fieldLink RX1 25 "LandingFines$Landing" "minutesShunned" "I", .methodLink RX1 38 Lib.Math.min.name, .static Lib.Math.min.name, .initialized "java/lang/Math", .code Lib.Math.min.name Lib.Math.min.code 2 (some .int)] ++ wsX30 ++ wsX10)
def wsX3_passOneMinute_r1 : List Cond := [Cond.fieldLink RX3 33 "LandingFines$River" "minutesSoFar" "I", Cond.fieldLink RX3 29 "LandingFines$River" "landingCount" "I", Cond.fieldLink RX3 25 "LandingFines$River" "landings" "[LLandingFines$Landing;", Cond.fieldLink RX3 45 "LandingFines$River" "journal" "LLandingFines$Journal;", Cond.methodLink RX3 111 yX3_passMinuteOf, Cond.instanceMethod yX3_passMinuteOf, Cond.selects RX3 yX3_passMinuteOf yX3_passMinuteOf, Cond.initialized RX3, Cond.code yX3_passMinuteOf cX3_passMinuteOf 2 (some .boolean), Cond.fieldLink RX3 18 "LandingFines$River" "settings" "[I", Cond.methodLink RX3 115 yX1_passMinute, Cond.instanceMethod yX1_passMinute, Cond.selects RX1 yX1_passMinute yX1_passMinute, Cond.initialized RX1, Cond.code yX1_passMinute cX1_passMinute 4 (some .boolean), Cond.fieldLink RX1 28 "LandingFines$Landing" "minutesSinceHalving" "I", Cond.fieldLink RX1 19 "LandingFines$Landing" "fine" "I", Cond.fieldLink RX1 22 "LandingFines$Landing" "isShunned" "Z", Cond.fieldLink RX1 25 "LandingFines$Landing" "minutesShunned" "I", Cond.methodLink RX1 38 Lib.Math.min.name, Cond.static Lib.Math.min.name, Cond.initialized "java/lang/Math", Cond.code Lib.Math.min.name Lib.Math.min.code 2 (some .int), Cond.methodLink RX3 91 yX0_add]
def wsX3_passOneMinute_r2 : List Cond := [Cond.instanceMethod yX0_add, Cond.selects RX0 yX0_add yX0_add, Cond.initialized RX0, Cond.code yX0_add cX0_add 4 none, Cond.fieldLink RX0 9 "LandingFines$Journal" "sorts" "[I", Cond.fieldLink RX0 25 "LandingFines$Journal" "next" "I", Cond.fieldLink RX0 15 "LandingFines$Journal" "places" "[I", Cond.fieldLink RX0 18 "LandingFines$Journal" "minutes" "[I", Cond.fieldLink RX0 21 "LandingFines$Journal" "size" "I", Cond.methodLink RX0 28 Lib.Math.min.name, Cond.methodLink RX3 73 yX3_followTaken, Cond.instanceMethod yX3_followTaken, Cond.selects RX3 yX3_followTaken yX3_followTaken, Cond.code yX3_followTaken cX3_followTaken 3 none, Cond.fieldLink RX3 88 "LandingFines$Landing" "fare" "I", Cond.fieldLink RX3 36 "LandingFines$River" "taken" "I", Cond.fieldLink RX3 39 "LandingFines$River" "switches" "I", Cond.methodLink RX3 131 yX1_canBeTaken, Cond.instanceMethod yX1_canBeTaken, Cond.selects RX1 yX1_canBeTaken yX1_canBeTaken, Cond.code yX1_canBeTaken cX1_canBeTaken 1 (some .boolean), Cond.fieldLink RX1 9 "LandingFines$Landing" "isOpen" "Z"]
def wsX3_passOneMinute : List Cond := .code yX3_passOneMinute cX3_passOneMinute 3 (some .int) :: ((wsX3_passOneMinute_r1 ++ wsX3_passOneMinute_r2) ++ wsX30 ++ wsX10 ++ wsX00)
def wsX3_passMinutes_r1 : List Cond := [Cond.fieldLink RX3 33 "LandingFines$River" "minutesSoFar" "I", Cond.constant RX3 106 (99999), Cond.methodLink RX3 107 yX3_passOneMinute, Cond.instanceMethod yX3_passOneMinute, Cond.selects RX3 yX3_passOneMinute yX3_passOneMinute, Cond.initialized RX3, Cond.code yX3_passOneMinute cX3_passOneMinute 3 (some .int), Cond.fieldLink RX3 29 "LandingFines$River" "landingCount" "I", Cond.fieldLink RX3 25 "LandingFines$River" "landings" "[LLandingFines$Landing;", Cond.fieldLink RX3 45 "LandingFines$River" "journal" "LLandingFines$Journal;", Cond.methodLink RX3 111 yX3_passMinuteOf, Cond.instanceMethod yX3_passMinuteOf, Cond.selects RX3 yX3_passMinuteOf yX3_passMinuteOf, Cond.code yX3_passMinuteOf cX3_passMinuteOf 2 (some .boolean), Cond.fieldLink RX3 18 "LandingFines$River" "settings" "[I", Cond.methodLink RX3 115 yX1_passMinute, Cond.instanceMethod yX1_passMinute, Cond.selects RX1 yX1_passMinute yX1_passMinute, Cond.initialized RX1, Cond.code yX1_passMinute cX1_passMinute 4 (some .boolean), Cond.fieldLink RX1 28 "LandingFines$Landing" "minutesSinceHalving" "I", Cond.fieldLink RX1 19 "LandingFines$Landing" "fine" "I", Cond.fieldLink RX1 22 "LandingFines$Landing" "isShunned" "Z", Cond.fieldLink RX1 25 "LandingFines$Landing" "minutesShunned" "I"]
def wsX3_passMinutes_r2 : List Cond := [Cond.methodLink RX1 38 Lib.Math.min.name, Cond.static Lib.Math.min.name, Cond.initialized "java/lang/Math", Cond.code Lib.Math.min.name Lib.Math.min.code 2 (some .int), Cond.methodLink RX3 91 yX0_add, Cond.instanceMethod yX0_add, Cond.selects RX0 yX0_add yX0_add, Cond.initialized RX0, Cond.code yX0_add cX0_add 4 none, Cond.fieldLink RX0 9 "LandingFines$Journal" "sorts" "[I", Cond.fieldLink RX0 25 "LandingFines$Journal" "next" "I", Cond.fieldLink RX0 15 "LandingFines$Journal" "places" "[I", Cond.fieldLink RX0 18 "LandingFines$Journal" "minutes" "[I", Cond.fieldLink RX0 21 "LandingFines$Journal" "size" "I", Cond.methodLink RX0 28 Lib.Math.min.name, Cond.methodLink RX3 73 yX3_followTaken, Cond.instanceMethod yX3_followTaken, Cond.selects RX3 yX3_followTaken yX3_followTaken, Cond.code yX3_followTaken cX3_followTaken 3 none, Cond.fieldLink RX3 88 "LandingFines$Landing" "fare" "I", Cond.fieldLink RX3 36 "LandingFines$River" "taken" "I", Cond.fieldLink RX3 39 "LandingFines$River" "switches" "I", Cond.methodLink RX3 131 yX1_canBeTaken, Cond.instanceMethod yX1_canBeTaken]
def wsX3_passMinutes_r3 : List Cond := [Cond.selects RX1 yX1_canBeTaken yX1_canBeTaken, Cond.code yX1_canBeTaken cX1_canBeTaken 1 (some .boolean), Cond.fieldLink RX1 9 "LandingFines$Landing" "isOpen" "Z"]
def wsX3_passMinutes : List Cond := .code yX3_passMinutes cX3_passMinutes 4 (some .int) :: ((wsX3_passMinutes_r1 ++ (wsX3_passMinutes_r2 ++ wsX3_passMinutes_r3)) ++ wsX30 ++ wsX10 ++ wsX00)
def wsX3_rankOf : List Cond := .code yX3_rankOf cX3_rankOf 6 (some .int) :: ([.fieldLink RX3 25 "LandingFines$River" "landings" "[LLandingFines$Landing;", .fieldLink RX3 88 "LandingFines$Landing" "fare" "I", .fieldLink RX3 29 "LandingFines$River" "landingCount" "I", .methodLink RX3 131 yX1_canBeTaken, .instanceMethod yX1_canBeTaken, .selects RX1 yX1_canBeTaken yX1_canBeTaken, .initialized RX1, .code yX1_canBeTaken cX1_canBeTaken 1 (some .boolean), .fieldLink RX1 9 "LandingFines$Landing" "isOpen" "Z", .fieldLink RX1 22 "LandingFines$Landing" "isShunned" "Z"] ++ wsX30 ++ wsX10)
def wsX3_chosen : List Cond := .code yX3_chosen cX3_chosen 3 (some .int) :: ([.fieldLink RX3 29 "LandingFines$River" "landingCount" "I", .fieldLink RX3 25 "LandingFines$River" "landings" "[LLandingFines$Landing;", .methodLink RX3 131 yX1_canBeTaken, .instanceMethod yX1_canBeTaken, .selects RX1 yX1_canBeTaken yX1_canBeTaken, .initialized RX1, .code yX1_canBeTaken cX1_canBeTaken 1 (some .boolean), .fieldLink RX1 9 "LandingFines$Landing" "isOpen" "Z", .fieldLink RX1 22 "LandingFines$Landing" "isShunned" "Z", .methodLink RX3 135 yX3_rankOf, .instanceMethod yX3_rankOf, .selects RX3 yX3_rankOf yX3_rankOf, .initialized RX3, .code yX3_rankOf cX3_rankOf 6 (some .int), .fieldLink RX3 88 "LandingFines$Landing" "fare" "I"] ++ wsX30 ++ wsX10)
def wsX3_openOnes : List Cond := .code yX3_openOnes cX3_openOnes 3 (some .int) :: ([.fieldLink RX3 29 "LandingFines$River" "landingCount" "I", .fieldLink RX3 25 "LandingFines$River" "landings" "[LLandingFines$Landing;", .fieldLink RX3 80 "LandingFines$Landing" "isOpen" "Z"] ++ wsX30 ++ wsX10)
def wsX3_shunnedOnes : List Cond := .code yX3_shunnedOnes cX3_shunnedOnes 3 (some .int) :: ([.fieldLink RX3 29 "LandingFines$River" "landingCount" "I", .fieldLink RX3 25 "LandingFines$River" "landings" "[LLandingFines$Landing;", .fieldLink RX3 148 "LandingFines$Landing" "isShunned" "Z"] ++ wsX30 ++ wsX10)
def wsX3_tell : List Cond := .code yX3_tell cX3_tell 2 (some .int) :: ([.fieldLink RX3 33 "LandingFines$River" "minutesSoFar" "I", .fieldLink RX3 29 "LandingFines$River" "landingCount" "I", .fieldLink RX3 36 "LandingFines$River" "taken" "I", .fieldLink RX3 39 "LandingFines$River" "switches" "I", .fieldLink RX3 45 "LandingFines$River" "journal" "LLandingFines$Journal;", .fieldLink RX3 145 "LandingFines$Journal" "size" "I", .fieldLink RX3 18 "LandingFines$River" "settings" "[I", .methodLink RX3 139 yX3_openOnes, .instanceMethod yX3_openOnes, .selects RX3 yX3_openOnes yX3_openOnes, .initialized RX3, .code yX3_openOnes cX3_openOnes 3 (some .int), .fieldLink RX3 25 "LandingFines$River" "landings" "[LLandingFines$Landing;", .fieldLink RX3 80 "LandingFines$Landing" "isOpen" "Z", .methodLink RX3 142 yX3_shunnedOnes, .instanceMethod yX3_shunnedOnes, .selects RX3 yX3_shunnedOnes yX3_shunnedOnes, .code yX3_shunnedOnes cX3_shunnedOnes 3 (some .int), .fieldLink RX3 148 "LandingFines$Landing" "isShunned" "Z"] ++ wsX30 ++ wsX00 ++ wsX10)
def wsX4_init_r1 : List Cond := [Cond.methodLink RX4 1 objectInit, Cond.instanceMethod objectInit, Cond.code objectInit ⟨#[0xb1]⟩ 1 none, Cond.classLink RX4 7 RX3, Cond.instantiable RX3 7, Cond.initialized RX3, Cond.fieldLink RX4 10 "LandingFines" "river" "LLandingFines$River;", Cond.fieldLink RX4 16 "LandingFines" "history" "[LLandingFines$River;", Cond.fieldLink RX4 20 "LandingFines" "historySize" "I", Cond.fieldLink RX4 24 "LandingFines" "slots" "[LLandingFines$River;", Cond.arrayClass .boolean, Cond.fieldLink RX4 27 "LandingFines" "slotUsed" "[Z", Cond.classLink RX4 31 RX2, Cond.instantiable RX2 6, Cond.initialized RX2, Cond.fieldLink RX4 34 "LandingFines" "pad" "LLandingFines$Pad;", Cond.classLink RX4 38 RX1, Cond.instantiable RX1 8, Cond.initialized RX1, Cond.fieldLink RX4 41 "LandingFines" "trial" "LLandingFines$Landing;", Cond.methodLink RX4 9 yX3_init, Cond.instanceMethod yX3_init, Cond.code yX3_init cX3_init 2 none, Cond.methodLink RX3 3 objectInit]
def wsX4_init_r2 : List Cond := [Cond.methodLink RX3 13 ⟨"[I", "clone", "()Ljava/lang/Object;"⟩, Cond.sameMethod "[I" "java/lang/Object" "clone" "()Ljava/lang/Object;", Cond.native ⟨"java/lang/Object", "clone", "()Ljava/lang/Object;"⟩, Cond.instanceMethod ⟨"java/lang/Object", "clone", "()Ljava/lang/Object;"⟩, Cond.selects "[I" ⟨"[I", "clone", "()Ljava/lang/Object;"⟩ ⟨"java/lang/Object", "clone", "()Ljava/lang/Object;"⟩, Cond.classLink RX3 14 "[I", Cond.fieldLink RX3 18 "LandingFines$River" "settings" "[I", Cond.classLink RX3 23 RX1, Cond.fieldLink RX3 25 "LandingFines$River" "landings" "[LLandingFines$Landing;", Cond.fieldLink RX3 29 "LandingFines$River" "landingCount" "I", Cond.fieldLink RX3 33 "LandingFines$River" "minutesSoFar" "I", Cond.fieldLink RX3 36 "LandingFines$River" "taken" "I", Cond.fieldLink RX3 39 "LandingFines$River" "switches" "I", Cond.classLink RX3 42 RX0, Cond.instantiable RX0 5, Cond.initialized RX0, Cond.fieldLink RX3 45 "LandingFines$River" "journal" "LLandingFines$Journal;", Cond.instanceMethod yX0_init, Cond.code yX0_init cX0_init 1 none, Cond.methodLink RX0 3 objectInit, Cond.arrayClass .int, Cond.fieldLink RX0 9 "LandingFines$Journal" "sorts" "[I", Cond.fieldLink RX0 15 "LandingFines$Journal" "places" "[I", Cond.fieldLink RX0 18 "LandingFines$Journal" "minutes" "[I"]
def wsX4_init_r3 : List Cond := [Cond.fieldLink RX0 21 "LandingFines$Journal" "size" "I", Cond.fieldLink RX0 25 "LandingFines$Journal" "next" "I", Cond.instanceMethod yX1_init, Cond.code yX1_init cX1_init 1 none, Cond.methodLink RX1 3 objectInit, Cond.instanceMethod yX2_init, Cond.code yX2_init cX2_init 1 none, Cond.methodLink RX2 3 objectInit, Cond.arrayClass .char, Cond.fieldLink RX2 9 "LandingFines$Pad" "signs" "[C", Cond.fieldLink RX2 15 "LandingFines$Pad" "length" "I", Cond.fieldLink RX2 19 "LandingFines$Pad" "place" "I", Cond.fieldLink RX2 22 "LandingFines$Pad" "orderSign" "C", Cond.fieldLink RX2 26 "LandingFines$Pad" "orderLanding" "I", Cond.fieldLink RX2 29 "LandingFines$Pad" "orderNumber" "I"]
def wsX4_init : List Cond := .code yX4_init cX4_init 2 none :: ((wsX4_init_r1 ++ (wsX4_init_r2 ++ wsX4_init_r3)) ++ wsX30 ++ wsX40 ++ wsX20 ++ wsX10 ++ wsX00)
def wsX4_keepState_r1 : List Cond := [Cond.fieldLink RX4 16 "LandingFines" "history" "[LLandingFines$River;", Cond.fieldLink RX4 20 "LandingFines" "historySize" "I", Cond.fieldLink RX4 10 "LandingFines" "river" "LLandingFines$River;", Cond.methodLink RX4 171 yX3_copyFrom, Cond.instanceMethod yX3_copyFrom, Cond.selects RX3 yX3_copyFrom yX3_copyFrom, Cond.initialized RX3, Cond.code yX3_copyFrom cX3_copyFrom 3 none, Cond.fieldLink RX3 18 "LandingFines$River" "settings" "[I", Cond.methodLink RX3 50 arraycopyName, Cond.native arraycopyName, Cond.static arraycopyName, Cond.initialized "java/lang/System", Cond.fieldLink RX3 25 "LandingFines$River" "landings" "[LLandingFines$Landing;", Cond.fieldLink RX3 29 "LandingFines$River" "landingCount" "I", Cond.fieldLink RX3 33 "LandingFines$River" "minutesSoFar" "I", Cond.fieldLink RX3 36 "LandingFines$River" "taken" "I", Cond.fieldLink RX3 39 "LandingFines$River" "switches" "I", Cond.fieldLink RX3 45 "LandingFines$River" "journal" "LLandingFines$Journal;", Cond.methodLink RX3 56 yX1_copyFrom, Cond.instanceMethod yX1_copyFrom, Cond.selects RX1 yX1_copyFrom yX1_copyFrom, Cond.initialized RX1, Cond.code yX1_copyFrom cX1_copyFrom 2 none]
def wsX4_keepState_r2 : List Cond := [Cond.fieldLink RX1 9 "LandingFines$Landing" "isOpen" "Z", Cond.fieldLink RX1 15 "LandingFines$Landing" "fare" "I", Cond.fieldLink RX1 19 "LandingFines$Landing" "fine" "I", Cond.fieldLink RX1 22 "LandingFines$Landing" "isShunned" "Z", Cond.fieldLink RX1 25 "LandingFines$Landing" "minutesShunned" "I", Cond.fieldLink RX1 28 "LandingFines$Landing" "minutesSinceHalving" "I", Cond.fieldLink RX1 31 "LandingFines$Landing" "changes" "I", Cond.fieldLink RX1 34 "LandingFines$Landing" "timesShunned" "I", Cond.methodLink RX3 60 yX0_copyFrom, Cond.instanceMethod yX0_copyFrom, Cond.selects RX0 yX0_copyFrom yX0_copyFrom, Cond.initialized RX0, Cond.code yX0_copyFrom cX0_copyFrom 2 none, Cond.fieldLink RX0 9 "LandingFines$Journal" "sorts" "[I", Cond.methodLink RX0 34 arraycopyName, Cond.fieldLink RX0 15 "LandingFines$Journal" "places" "[I", Cond.fieldLink RX0 18 "LandingFines$Journal" "minutes" "[I", Cond.fieldLink RX0 21 "LandingFines$Journal" "size" "I", Cond.fieldLink RX0 25 "LandingFines$Journal" "next" "I"]
def wsX4_keepState : List Cond := .code yX4_keepState cX4_keepState 1 none :: ((wsX4_keepState_r1 ++ wsX4_keepState_r2) ++ wsX40 ++ wsX30 ++ wsX10 ++ wsX00)
def wsX4_dropOldest : List Cond := .code yX4_dropOldest cX4_dropOldest 3 none :: ([.fieldLink RX4 16 "LandingFines" "history" "[LLandingFines$River;"] ++ wsX40)
def wsX4_recordUnlessError : List Cond := .code yX4_recordUnlessError cX4_recordUnlessError 2 (some .int) :: ([.fieldLink RX4 20 "LandingFines" "historySize" "I", .methodLink RX4 177 yX4_dropOldest, .instanceMethod yX4_dropOldest, .selects RX4 yX4_dropOldest yX4_dropOldest, .initialized RX4, .code yX4_dropOldest cX4_dropOldest 3 none, .fieldLink RX4 16 "LandingFines" "history" "[LLandingFines$River;"] ++ wsX40)
def wsX4_set_r1 : List Cond := [Cond.fieldLink RX4 10 "LandingFines" "river" "LLandingFines$River;", Cond.methodLink RX4 45 yX4_keepState, Cond.instanceMethod yX4_keepState, Cond.selects RX4 yX4_keepState yX4_keepState, Cond.initialized RX4, Cond.code yX4_keepState cX4_keepState 1 none, Cond.fieldLink RX4 16 "LandingFines" "history" "[LLandingFines$River;", Cond.fieldLink RX4 20 "LandingFines" "historySize" "I", Cond.methodLink RX4 171 yX3_copyFrom, Cond.instanceMethod yX3_copyFrom, Cond.selects RX3 yX3_copyFrom yX3_copyFrom, Cond.initialized RX3, Cond.code yX3_copyFrom cX3_copyFrom 3 none, Cond.fieldLink RX3 18 "LandingFines$River" "settings" "[I", Cond.methodLink RX3 50 arraycopyName, Cond.native arraycopyName, Cond.static arraycopyName, Cond.initialized "java/lang/System", Cond.fieldLink RX3 25 "LandingFines$River" "landings" "[LLandingFines$Landing;", Cond.fieldLink RX3 29 "LandingFines$River" "landingCount" "I", Cond.fieldLink RX3 33 "LandingFines$River" "minutesSoFar" "I", Cond.fieldLink RX3 36 "LandingFines$River" "taken" "I", Cond.fieldLink RX3 39 "LandingFines$River" "switches" "I", Cond.fieldLink RX3 45 "LandingFines$River" "journal" "LLandingFines$Journal;"]
def wsX4_set_r2 : List Cond := [Cond.methodLink RX3 56 yX1_copyFrom, Cond.instanceMethod yX1_copyFrom, Cond.selects RX1 yX1_copyFrom yX1_copyFrom, Cond.initialized RX1, Cond.code yX1_copyFrom cX1_copyFrom 2 none, Cond.fieldLink RX1 9 "LandingFines$Landing" "isOpen" "Z", Cond.fieldLink RX1 15 "LandingFines$Landing" "fare" "I", Cond.fieldLink RX1 19 "LandingFines$Landing" "fine" "I", Cond.fieldLink RX1 22 "LandingFines$Landing" "isShunned" "Z", Cond.fieldLink RX1 25 "LandingFines$Landing" "minutesShunned" "I", Cond.fieldLink RX1 28 "LandingFines$Landing" "minutesSinceHalving" "I", Cond.fieldLink RX1 31 "LandingFines$Landing" "changes" "I", Cond.fieldLink RX1 34 "LandingFines$Landing" "timesShunned" "I", Cond.methodLink RX3 60 yX0_copyFrom, Cond.instanceMethod yX0_copyFrom, Cond.selects RX0 yX0_copyFrom yX0_copyFrom, Cond.initialized RX0, Cond.code yX0_copyFrom cX0_copyFrom 2 none, Cond.fieldLink RX0 9 "LandingFines$Journal" "sorts" "[I", Cond.methodLink RX0 34 arraycopyName, Cond.fieldLink RX0 15 "LandingFines$Journal" "places" "[I", Cond.fieldLink RX0 18 "LandingFines$Journal" "minutes" "[I", Cond.fieldLink RX0 21 "LandingFines$Journal" "size" "I", Cond.fieldLink RX0 25 "LandingFines$Journal" "next" "I"]
def wsX4_set_r3 : List Cond := [Cond.methodLink RX4 48 yX3_changeSetting, Cond.instanceMethod yX3_changeSetting, Cond.selects RX3 yX3_changeSetting yX3_changeSetting, Cond.code yX3_changeSetting cX3_changeSetting 4 (some .int), Cond.methodLink RX4 52 yX4_recordUnlessError, Cond.instanceMethod yX4_recordUnlessError, Cond.selects RX4 yX4_recordUnlessError yX4_recordUnlessError, Cond.code yX4_recordUnlessError cX4_recordUnlessError 2 (some .int), Cond.methodLink RX4 177 yX4_dropOldest, Cond.instanceMethod yX4_dropOldest, Cond.selects RX4 yX4_dropOldest yX4_dropOldest, Cond.code yX4_dropOldest cX4_dropOldest 3 none]
def wsX4_set : List Cond := .code yX4_set cX4_set 3 (some .int) :: ((wsX4_set_r1 ++ (wsX4_set_r2 ++ wsX4_set_r3)) ++ wsX40 ++ wsX30 ++ wsX10 ++ wsX00)
def wsX4_landing_r1 : List Cond := [Cond.fieldLink RX4 10 "LandingFines" "river" "LLandingFines$River;", Cond.methodLink RX4 45 yX4_keepState, Cond.instanceMethod yX4_keepState, Cond.selects RX4 yX4_keepState yX4_keepState, Cond.initialized RX4, Cond.code yX4_keepState cX4_keepState 1 none, Cond.fieldLink RX4 16 "LandingFines" "history" "[LLandingFines$River;", Cond.fieldLink RX4 20 "LandingFines" "historySize" "I", Cond.methodLink RX4 171 yX3_copyFrom, Cond.instanceMethod yX3_copyFrom, Cond.selects RX3 yX3_copyFrom yX3_copyFrom, Cond.initialized RX3, Cond.code yX3_copyFrom cX3_copyFrom 3 none, Cond.fieldLink RX3 18 "LandingFines$River" "settings" "[I", Cond.methodLink RX3 50 arraycopyName, Cond.native arraycopyName, Cond.static arraycopyName, Cond.initialized "java/lang/System", Cond.fieldLink RX3 25 "LandingFines$River" "landings" "[LLandingFines$Landing;", Cond.fieldLink RX3 29 "LandingFines$River" "landingCount" "I", Cond.fieldLink RX3 33 "LandingFines$River" "minutesSoFar" "I", Cond.fieldLink RX3 36 "LandingFines$River" "taken" "I", Cond.fieldLink RX3 39 "LandingFines$River" "switches" "I", Cond.fieldLink RX3 45 "LandingFines$River" "journal" "LLandingFines$Journal;"]
def wsX4_landing_r2 : List Cond := [Cond.methodLink RX3 56 yX1_copyFrom, Cond.instanceMethod yX1_copyFrom, Cond.selects RX1 yX1_copyFrom yX1_copyFrom, Cond.initialized RX1, Cond.code yX1_copyFrom cX1_copyFrom 2 none, Cond.fieldLink RX1 9 "LandingFines$Landing" "isOpen" "Z", Cond.fieldLink RX1 15 "LandingFines$Landing" "fare" "I", Cond.fieldLink RX1 19 "LandingFines$Landing" "fine" "I", Cond.fieldLink RX1 22 "LandingFines$Landing" "isShunned" "Z", Cond.fieldLink RX1 25 "LandingFines$Landing" "minutesShunned" "I", Cond.fieldLink RX1 28 "LandingFines$Landing" "minutesSinceHalving" "I", Cond.fieldLink RX1 31 "LandingFines$Landing" "changes" "I", Cond.fieldLink RX1 34 "LandingFines$Landing" "timesShunned" "I", Cond.methodLink RX3 60 yX0_copyFrom, Cond.instanceMethod yX0_copyFrom, Cond.selects RX0 yX0_copyFrom yX0_copyFrom, Cond.initialized RX0, Cond.code yX0_copyFrom cX0_copyFrom 2 none, Cond.fieldLink RX0 9 "LandingFines$Journal" "sorts" "[I", Cond.methodLink RX0 34 arraycopyName, Cond.fieldLink RX0 15 "LandingFines$Journal" "places" "[I", Cond.fieldLink RX0 18 "LandingFines$Journal" "minutes" "[I", Cond.fieldLink RX0 21 "LandingFines$Journal" "size" "I", Cond.fieldLink RX0 25 "LandingFines$Journal" "next" "I"]
def wsX4_landing_r3 : List Cond := [Cond.methodLink RX4 56 yX3_addLanding, Cond.instanceMethod yX3_addLanding, Cond.selects RX3 yX3_addLanding yX3_addLanding, Cond.code yX3_addLanding cX3_addLanding 2 (some .int), Cond.methodLink RX3 69 yX1_arrive, Cond.instanceMethod yX1_arrive, Cond.selects RX1 yX1_arrive yX1_arrive, Cond.code yX1_arrive cX1_arrive 2 none, Cond.methodLink RX3 73 yX3_followTaken, Cond.instanceMethod yX3_followTaken, Cond.selects RX3 yX3_followTaken yX3_followTaken, Cond.code yX3_followTaken cX3_followTaken 3 none, Cond.fieldLink RX3 88 "LandingFines$Landing" "fare" "I", Cond.methodLink RX3 131 yX1_canBeTaken, Cond.instanceMethod yX1_canBeTaken, Cond.selects RX1 yX1_canBeTaken yX1_canBeTaken, Cond.code yX1_canBeTaken cX1_canBeTaken 1 (some .boolean), Cond.methodLink RX4 52 yX4_recordUnlessError, Cond.instanceMethod yX4_recordUnlessError, Cond.selects RX4 yX4_recordUnlessError yX4_recordUnlessError, Cond.code yX4_recordUnlessError cX4_recordUnlessError 2 (some .int), Cond.methodLink RX4 177 yX4_dropOldest, Cond.instanceMethod yX4_dropOldest, Cond.selects RX4 yX4_dropOldest yX4_dropOldest]
def wsX4_landing_r4 : List Cond := [Cond.code yX4_dropOldest cX4_dropOldest 3 none]
def wsX4_landing : List Cond := .code yX4_landing cX4_landing 2 (some .int) :: ((wsX4_landing_r1 ++ (wsX4_landing_r2 ++ (wsX4_landing_r3 ++ wsX4_landing_r4))) ++ wsX40 ++ wsX30 ++ wsX10 ++ wsX00)
def wsX4_open_r1 : List Cond := [Cond.fieldLink RX4 10 "LandingFines" "river" "LLandingFines$River;", Cond.methodLink RX4 45 yX4_keepState, Cond.instanceMethod yX4_keepState, Cond.selects RX4 yX4_keepState yX4_keepState, Cond.initialized RX4, Cond.code yX4_keepState cX4_keepState 1 none, Cond.fieldLink RX4 16 "LandingFines" "history" "[LLandingFines$River;", Cond.fieldLink RX4 20 "LandingFines" "historySize" "I", Cond.methodLink RX4 171 yX3_copyFrom, Cond.instanceMethod yX3_copyFrom, Cond.selects RX3 yX3_copyFrom yX3_copyFrom, Cond.initialized RX3, Cond.code yX3_copyFrom cX3_copyFrom 3 none, Cond.fieldLink RX3 18 "LandingFines$River" "settings" "[I", Cond.methodLink RX3 50 arraycopyName, Cond.native arraycopyName, Cond.static arraycopyName, Cond.initialized "java/lang/System", Cond.fieldLink RX3 25 "LandingFines$River" "landings" "[LLandingFines$Landing;", Cond.fieldLink RX3 29 "LandingFines$River" "landingCount" "I", Cond.fieldLink RX3 33 "LandingFines$River" "minutesSoFar" "I", Cond.fieldLink RX3 36 "LandingFines$River" "taken" "I", Cond.fieldLink RX3 39 "LandingFines$River" "switches" "I", Cond.fieldLink RX3 45 "LandingFines$River" "journal" "LLandingFines$Journal;"]
def wsX4_open_r2 : List Cond := [Cond.methodLink RX3 56 yX1_copyFrom, Cond.instanceMethod yX1_copyFrom, Cond.selects RX1 yX1_copyFrom yX1_copyFrom, Cond.initialized RX1, Cond.code yX1_copyFrom cX1_copyFrom 2 none, Cond.fieldLink RX1 9 "LandingFines$Landing" "isOpen" "Z", Cond.fieldLink RX1 15 "LandingFines$Landing" "fare" "I", Cond.fieldLink RX1 19 "LandingFines$Landing" "fine" "I", Cond.fieldLink RX1 22 "LandingFines$Landing" "isShunned" "Z", Cond.fieldLink RX1 25 "LandingFines$Landing" "minutesShunned" "I", Cond.fieldLink RX1 28 "LandingFines$Landing" "minutesSinceHalving" "I", Cond.fieldLink RX1 31 "LandingFines$Landing" "changes" "I", Cond.fieldLink RX1 34 "LandingFines$Landing" "timesShunned" "I", Cond.methodLink RX3 60 yX0_copyFrom, Cond.instanceMethod yX0_copyFrom, Cond.selects RX0 yX0_copyFrom yX0_copyFrom, Cond.initialized RX0, Cond.code yX0_copyFrom cX0_copyFrom 2 none, Cond.fieldLink RX0 9 "LandingFines$Journal" "sorts" "[I", Cond.methodLink RX0 34 arraycopyName, Cond.fieldLink RX0 15 "LandingFines$Journal" "places" "[I", Cond.fieldLink RX0 18 "LandingFines$Journal" "minutes" "[I", Cond.fieldLink RX0 21 "LandingFines$Journal" "size" "I", Cond.fieldLink RX0 25 "LandingFines$Journal" "next" "I"]
def wsX4_open_r3 : List Cond := [Cond.methodLink RX4 59 yX3_openLanding, Cond.instanceMethod yX3_openLanding, Cond.selects RX3 yX3_openLanding yX3_openLanding, Cond.code yX3_openLanding cX3_openLanding 3 (some .int), Cond.fieldLink RX3 80 "LandingFines$Landing" "isOpen" "Z", Cond.methodLink RX3 76 yX3_find, Cond.instanceMethod yX3_find, Cond.selects RX3 yX3_find yX3_find, Cond.code yX3_find cX3_find 2 (some (.object "LandingFines$Landing")), Cond.methodLink RX3 84 yX3_finishChange, Cond.instanceMethod yX3_finishChange, Cond.selects RX3 yX3_finishChange yX3_finishChange, Cond.code yX3_finishChange cX3_finishChange 4 (some .int), Cond.fieldLink RX3 99 "LandingFines$Landing" "fine" "I", Cond.methodLink RX3 91 yX0_add, Cond.instanceMethod yX0_add, Cond.selects RX0 yX0_add yX0_add, Cond.code yX0_add cX0_add 4 none, Cond.methodLink RX0 28 Lib.Math.min.name, Cond.static Lib.Math.min.name, Cond.initialized "java/lang/Math", Cond.code Lib.Math.min.name Lib.Math.min.code 2 (some .int), Cond.methodLink RX3 95 yX3_fineBySort, Cond.instanceMethod yX3_fineBySort]
def wsX4_open_r4 : List Cond := [Cond.selects RX3 yX3_fineBySort yX3_fineBySort, Cond.code yX3_fineBySort cX3_fineBySort 3 (some .boolean), Cond.methodLink RX3 102 yX1_addFine, Cond.instanceMethod yX1_addFine, Cond.selects RX1 yX1_addFine yX1_addFine, Cond.code yX1_addFine cX1_addFine 3 (some .boolean), Cond.constant RX1 37 (99999), Cond.methodLink RX1 38 Lib.Math.min.name, Cond.methodLink RX3 73 yX3_followTaken, Cond.instanceMethod yX3_followTaken, Cond.selects RX3 yX3_followTaken yX3_followTaken, Cond.code yX3_followTaken cX3_followTaken 3 none, Cond.fieldLink RX3 88 "LandingFines$Landing" "fare" "I", Cond.methodLink RX3 131 yX1_canBeTaken, Cond.instanceMethod yX1_canBeTaken, Cond.selects RX1 yX1_canBeTaken yX1_canBeTaken, Cond.code yX1_canBeTaken cX1_canBeTaken 1 (some .boolean), Cond.methodLink RX4 52 yX4_recordUnlessError, Cond.instanceMethod yX4_recordUnlessError, Cond.selects RX4 yX4_recordUnlessError yX4_recordUnlessError, Cond.code yX4_recordUnlessError cX4_recordUnlessError 2 (some .int), Cond.methodLink RX4 177 yX4_dropOldest, Cond.instanceMethod yX4_dropOldest, Cond.selects RX4 yX4_dropOldest yX4_dropOldest]
def wsX4_open_r5 : List Cond := [Cond.code yX4_dropOldest cX4_dropOldest 3 none]
def wsX4_open : List Cond := .code yX4_open cX4_open 2 (some .int) :: ((wsX4_open_r1 ++ (wsX4_open_r2 ++ (wsX4_open_r3 ++ (wsX4_open_r4 ++ wsX4_open_r5)))) ++ wsX40 ++ wsX30 ++ wsX10 ++ wsX00)
def wsX4_close_r1 : List Cond := [Cond.fieldLink RX4 10 "LandingFines" "river" "LLandingFines$River;", Cond.methodLink RX4 45 yX4_keepState, Cond.instanceMethod yX4_keepState, Cond.selects RX4 yX4_keepState yX4_keepState, Cond.initialized RX4, Cond.code yX4_keepState cX4_keepState 1 none, Cond.fieldLink RX4 16 "LandingFines" "history" "[LLandingFines$River;", Cond.fieldLink RX4 20 "LandingFines" "historySize" "I", Cond.methodLink RX4 171 yX3_copyFrom, Cond.instanceMethod yX3_copyFrom, Cond.selects RX3 yX3_copyFrom yX3_copyFrom, Cond.initialized RX3, Cond.code yX3_copyFrom cX3_copyFrom 3 none, Cond.fieldLink RX3 18 "LandingFines$River" "settings" "[I", Cond.methodLink RX3 50 arraycopyName, Cond.native arraycopyName, Cond.static arraycopyName, Cond.initialized "java/lang/System", Cond.fieldLink RX3 25 "LandingFines$River" "landings" "[LLandingFines$Landing;", Cond.fieldLink RX3 29 "LandingFines$River" "landingCount" "I", Cond.fieldLink RX3 33 "LandingFines$River" "minutesSoFar" "I", Cond.fieldLink RX3 36 "LandingFines$River" "taken" "I", Cond.fieldLink RX3 39 "LandingFines$River" "switches" "I", Cond.fieldLink RX3 45 "LandingFines$River" "journal" "LLandingFines$Journal;"]
def wsX4_close_r2 : List Cond := [Cond.methodLink RX3 56 yX1_copyFrom, Cond.instanceMethod yX1_copyFrom, Cond.selects RX1 yX1_copyFrom yX1_copyFrom, Cond.initialized RX1, Cond.code yX1_copyFrom cX1_copyFrom 2 none, Cond.fieldLink RX1 9 "LandingFines$Landing" "isOpen" "Z", Cond.fieldLink RX1 15 "LandingFines$Landing" "fare" "I", Cond.fieldLink RX1 19 "LandingFines$Landing" "fine" "I", Cond.fieldLink RX1 22 "LandingFines$Landing" "isShunned" "Z", Cond.fieldLink RX1 25 "LandingFines$Landing" "minutesShunned" "I", Cond.fieldLink RX1 28 "LandingFines$Landing" "minutesSinceHalving" "I", Cond.fieldLink RX1 31 "LandingFines$Landing" "changes" "I", Cond.fieldLink RX1 34 "LandingFines$Landing" "timesShunned" "I", Cond.methodLink RX3 60 yX0_copyFrom, Cond.instanceMethod yX0_copyFrom, Cond.selects RX0 yX0_copyFrom yX0_copyFrom, Cond.initialized RX0, Cond.code yX0_copyFrom cX0_copyFrom 2 none, Cond.fieldLink RX0 9 "LandingFines$Journal" "sorts" "[I", Cond.methodLink RX0 34 arraycopyName, Cond.fieldLink RX0 15 "LandingFines$Journal" "places" "[I", Cond.fieldLink RX0 18 "LandingFines$Journal" "minutes" "[I", Cond.fieldLink RX0 21 "LandingFines$Journal" "size" "I", Cond.fieldLink RX0 25 "LandingFines$Journal" "next" "I"]
def wsX4_close_r3 : List Cond := [Cond.methodLink RX4 62 yX3_closeLanding, Cond.instanceMethod yX3_closeLanding, Cond.selects RX3 yX3_closeLanding yX3_closeLanding, Cond.code yX3_closeLanding cX3_closeLanding 3 (some .int), Cond.fieldLink RX3 80 "LandingFines$Landing" "isOpen" "Z", Cond.methodLink RX3 76 yX3_find, Cond.instanceMethod yX3_find, Cond.selects RX3 yX3_find yX3_find, Cond.code yX3_find cX3_find 2 (some (.object "LandingFines$Landing")), Cond.methodLink RX3 84 yX3_finishChange, Cond.instanceMethod yX3_finishChange, Cond.selects RX3 yX3_finishChange yX3_finishChange, Cond.code yX3_finishChange cX3_finishChange 4 (some .int), Cond.fieldLink RX3 99 "LandingFines$Landing" "fine" "I", Cond.methodLink RX3 91 yX0_add, Cond.instanceMethod yX0_add, Cond.selects RX0 yX0_add yX0_add, Cond.code yX0_add cX0_add 4 none, Cond.methodLink RX0 28 Lib.Math.min.name, Cond.static Lib.Math.min.name, Cond.initialized "java/lang/Math", Cond.code Lib.Math.min.name Lib.Math.min.code 2 (some .int), Cond.methodLink RX3 95 yX3_fineBySort, Cond.instanceMethod yX3_fineBySort]
def wsX4_close_r4 : List Cond := [Cond.selects RX3 yX3_fineBySort yX3_fineBySort, Cond.code yX3_fineBySort cX3_fineBySort 3 (some .boolean), Cond.methodLink RX3 102 yX1_addFine, Cond.instanceMethod yX1_addFine, Cond.selects RX1 yX1_addFine yX1_addFine, Cond.code yX1_addFine cX1_addFine 3 (some .boolean), Cond.constant RX1 37 (99999), Cond.methodLink RX1 38 Lib.Math.min.name, Cond.methodLink RX3 73 yX3_followTaken, Cond.instanceMethod yX3_followTaken, Cond.selects RX3 yX3_followTaken yX3_followTaken, Cond.code yX3_followTaken cX3_followTaken 3 none, Cond.fieldLink RX3 88 "LandingFines$Landing" "fare" "I", Cond.methodLink RX3 131 yX1_canBeTaken, Cond.instanceMethod yX1_canBeTaken, Cond.selects RX1 yX1_canBeTaken yX1_canBeTaken, Cond.code yX1_canBeTaken cX1_canBeTaken 1 (some .boolean), Cond.methodLink RX4 52 yX4_recordUnlessError, Cond.instanceMethod yX4_recordUnlessError, Cond.selects RX4 yX4_recordUnlessError yX4_recordUnlessError, Cond.code yX4_recordUnlessError cX4_recordUnlessError 2 (some .int), Cond.methodLink RX4 177 yX4_dropOldest, Cond.instanceMethod yX4_dropOldest, Cond.selects RX4 yX4_dropOldest yX4_dropOldest]
def wsX4_close_r5 : List Cond := [Cond.code yX4_dropOldest cX4_dropOldest 3 none]
def wsX4_close : List Cond := .code yX4_close cX4_close 2 (some .int) :: ((wsX4_close_r1 ++ (wsX4_close_r2 ++ (wsX4_close_r3 ++ (wsX4_close_r4 ++ wsX4_close_r5)))) ++ wsX40 ++ wsX30 ++ wsX10 ++ wsX00)
def wsX4_price_r1 : List Cond := [Cond.fieldLink RX4 10 "LandingFines" "river" "LLandingFines$River;", Cond.methodLink RX4 45 yX4_keepState, Cond.instanceMethod yX4_keepState, Cond.selects RX4 yX4_keepState yX4_keepState, Cond.initialized RX4, Cond.code yX4_keepState cX4_keepState 1 none, Cond.fieldLink RX4 16 "LandingFines" "history" "[LLandingFines$River;", Cond.fieldLink RX4 20 "LandingFines" "historySize" "I", Cond.methodLink RX4 171 yX3_copyFrom, Cond.instanceMethod yX3_copyFrom, Cond.selects RX3 yX3_copyFrom yX3_copyFrom, Cond.initialized RX3, Cond.code yX3_copyFrom cX3_copyFrom 3 none, Cond.fieldLink RX3 18 "LandingFines$River" "settings" "[I", Cond.methodLink RX3 50 arraycopyName, Cond.native arraycopyName, Cond.static arraycopyName, Cond.initialized "java/lang/System", Cond.fieldLink RX3 25 "LandingFines$River" "landings" "[LLandingFines$Landing;", Cond.fieldLink RX3 29 "LandingFines$River" "landingCount" "I", Cond.fieldLink RX3 33 "LandingFines$River" "minutesSoFar" "I", Cond.fieldLink RX3 36 "LandingFines$River" "taken" "I", Cond.fieldLink RX3 39 "LandingFines$River" "switches" "I", Cond.fieldLink RX3 45 "LandingFines$River" "journal" "LLandingFines$Journal;"]
def wsX4_price_r2 : List Cond := [Cond.methodLink RX3 56 yX1_copyFrom, Cond.instanceMethod yX1_copyFrom, Cond.selects RX1 yX1_copyFrom yX1_copyFrom, Cond.initialized RX1, Cond.code yX1_copyFrom cX1_copyFrom 2 none, Cond.fieldLink RX1 9 "LandingFines$Landing" "isOpen" "Z", Cond.fieldLink RX1 15 "LandingFines$Landing" "fare" "I", Cond.fieldLink RX1 19 "LandingFines$Landing" "fine" "I", Cond.fieldLink RX1 22 "LandingFines$Landing" "isShunned" "Z", Cond.fieldLink RX1 25 "LandingFines$Landing" "minutesShunned" "I", Cond.fieldLink RX1 28 "LandingFines$Landing" "minutesSinceHalving" "I", Cond.fieldLink RX1 31 "LandingFines$Landing" "changes" "I", Cond.fieldLink RX1 34 "LandingFines$Landing" "timesShunned" "I", Cond.methodLink RX3 60 yX0_copyFrom, Cond.instanceMethod yX0_copyFrom, Cond.selects RX0 yX0_copyFrom yX0_copyFrom, Cond.initialized RX0, Cond.code yX0_copyFrom cX0_copyFrom 2 none, Cond.fieldLink RX0 9 "LandingFines$Journal" "sorts" "[I", Cond.methodLink RX0 34 arraycopyName, Cond.fieldLink RX0 15 "LandingFines$Journal" "places" "[I", Cond.fieldLink RX0 18 "LandingFines$Journal" "minutes" "[I", Cond.fieldLink RX0 21 "LandingFines$Journal" "size" "I", Cond.fieldLink RX0 25 "LandingFines$Journal" "next" "I"]
def wsX4_price_r3 : List Cond := [Cond.methodLink RX4 65 yX3_changePrice, Cond.instanceMethod yX3_changePrice, Cond.selects RX3 yX3_changePrice yX3_changePrice, Cond.code yX3_changePrice cX3_changePrice 4 (some .int), Cond.fieldLink RX3 88 "LandingFines$Landing" "fare" "I", Cond.methodLink RX3 76 yX3_find, Cond.instanceMethod yX3_find, Cond.selects RX3 yX3_find yX3_find, Cond.code yX3_find cX3_find 2 (some (.object "LandingFines$Landing")), Cond.methodLink RX3 84 yX3_finishChange, Cond.instanceMethod yX3_finishChange, Cond.selects RX3 yX3_finishChange yX3_finishChange, Cond.code yX3_finishChange cX3_finishChange 4 (some .int), Cond.fieldLink RX3 99 "LandingFines$Landing" "fine" "I", Cond.methodLink RX3 91 yX0_add, Cond.instanceMethod yX0_add, Cond.selects RX0 yX0_add yX0_add, Cond.code yX0_add cX0_add 4 none, Cond.methodLink RX0 28 Lib.Math.min.name, Cond.static Lib.Math.min.name, Cond.initialized "java/lang/Math", Cond.code Lib.Math.min.name Lib.Math.min.code 2 (some .int), Cond.methodLink RX3 95 yX3_fineBySort, Cond.instanceMethod yX3_fineBySort]
def wsX4_price_r4 : List Cond := [Cond.selects RX3 yX3_fineBySort yX3_fineBySort, Cond.code yX3_fineBySort cX3_fineBySort 3 (some .boolean), Cond.methodLink RX3 102 yX1_addFine, Cond.instanceMethod yX1_addFine, Cond.selects RX1 yX1_addFine yX1_addFine, Cond.code yX1_addFine cX1_addFine 3 (some .boolean), Cond.constant RX1 37 (99999), Cond.methodLink RX1 38 Lib.Math.min.name, Cond.methodLink RX3 73 yX3_followTaken, Cond.instanceMethod yX3_followTaken, Cond.selects RX3 yX3_followTaken yX3_followTaken, Cond.code yX3_followTaken cX3_followTaken 3 none, Cond.methodLink RX3 131 yX1_canBeTaken, Cond.instanceMethod yX1_canBeTaken, Cond.selects RX1 yX1_canBeTaken yX1_canBeTaken, Cond.code yX1_canBeTaken cX1_canBeTaken 1 (some .boolean), Cond.methodLink RX4 52 yX4_recordUnlessError, Cond.instanceMethod yX4_recordUnlessError, Cond.selects RX4 yX4_recordUnlessError yX4_recordUnlessError, Cond.code yX4_recordUnlessError cX4_recordUnlessError 2 (some .int), Cond.methodLink RX4 177 yX4_dropOldest, Cond.instanceMethod yX4_dropOldest, Cond.selects RX4 yX4_dropOldest yX4_dropOldest, Cond.code yX4_dropOldest cX4_dropOldest 3 none]
def wsX4_price : List Cond := .code yX4_price cX4_price 3 (some .int) :: ((wsX4_price_r1 ++ (wsX4_price_r2 ++ (wsX4_price_r3 ++ wsX4_price_r4))) ++ wsX40 ++ wsX30 ++ wsX10 ++ wsX00)
def wsX4_pass_r1 : List Cond := [Cond.fieldLink RX4 10 "LandingFines" "river" "LLandingFines$River;", Cond.methodLink RX4 45 yX4_keepState, Cond.instanceMethod yX4_keepState, Cond.selects RX4 yX4_keepState yX4_keepState, Cond.initialized RX4, Cond.code yX4_keepState cX4_keepState 1 none, Cond.fieldLink RX4 16 "LandingFines" "history" "[LLandingFines$River;", Cond.fieldLink RX4 20 "LandingFines" "historySize" "I", Cond.methodLink RX4 171 yX3_copyFrom, Cond.instanceMethod yX3_copyFrom, Cond.selects RX3 yX3_copyFrom yX3_copyFrom, Cond.initialized RX3, Cond.code yX3_copyFrom cX3_copyFrom 3 none, Cond.fieldLink RX3 18 "LandingFines$River" "settings" "[I", Cond.methodLink RX3 50 arraycopyName, Cond.native arraycopyName, Cond.static arraycopyName, Cond.initialized "java/lang/System", Cond.fieldLink RX3 25 "LandingFines$River" "landings" "[LLandingFines$Landing;", Cond.fieldLink RX3 29 "LandingFines$River" "landingCount" "I", Cond.fieldLink RX3 33 "LandingFines$River" "minutesSoFar" "I", Cond.fieldLink RX3 36 "LandingFines$River" "taken" "I", Cond.fieldLink RX3 39 "LandingFines$River" "switches" "I", Cond.fieldLink RX3 45 "LandingFines$River" "journal" "LLandingFines$Journal;"]
def wsX4_pass_r2 : List Cond := [Cond.methodLink RX3 56 yX1_copyFrom, Cond.instanceMethod yX1_copyFrom, Cond.selects RX1 yX1_copyFrom yX1_copyFrom, Cond.initialized RX1, Cond.code yX1_copyFrom cX1_copyFrom 2 none, Cond.fieldLink RX1 9 "LandingFines$Landing" "isOpen" "Z", Cond.fieldLink RX1 15 "LandingFines$Landing" "fare" "I", Cond.fieldLink RX1 19 "LandingFines$Landing" "fine" "I", Cond.fieldLink RX1 22 "LandingFines$Landing" "isShunned" "Z", Cond.fieldLink RX1 25 "LandingFines$Landing" "minutesShunned" "I", Cond.fieldLink RX1 28 "LandingFines$Landing" "minutesSinceHalving" "I", Cond.fieldLink RX1 31 "LandingFines$Landing" "changes" "I", Cond.fieldLink RX1 34 "LandingFines$Landing" "timesShunned" "I", Cond.methodLink RX3 60 yX0_copyFrom, Cond.instanceMethod yX0_copyFrom, Cond.selects RX0 yX0_copyFrom yX0_copyFrom, Cond.initialized RX0, Cond.code yX0_copyFrom cX0_copyFrom 2 none, Cond.fieldLink RX0 9 "LandingFines$Journal" "sorts" "[I", Cond.methodLink RX0 34 arraycopyName, Cond.fieldLink RX0 15 "LandingFines$Journal" "places" "[I", Cond.fieldLink RX0 18 "LandingFines$Journal" "minutes" "[I", Cond.fieldLink RX0 21 "LandingFines$Journal" "size" "I", Cond.fieldLink RX0 25 "LandingFines$Journal" "next" "I"]
def wsX4_pass_r3 : List Cond := [Cond.methodLink RX4 68 yX3_passMinutes, Cond.instanceMethod yX3_passMinutes, Cond.selects RX3 yX3_passMinutes yX3_passMinutes, Cond.code yX3_passMinutes cX3_passMinutes 4 (some .int), Cond.constant RX3 106 (99999), Cond.methodLink RX3 107 yX3_passOneMinute, Cond.instanceMethod yX3_passOneMinute, Cond.selects RX3 yX3_passOneMinute yX3_passOneMinute, Cond.code yX3_passOneMinute cX3_passOneMinute 3 (some .int), Cond.methodLink RX3 111 yX3_passMinuteOf, Cond.instanceMethod yX3_passMinuteOf, Cond.selects RX3 yX3_passMinuteOf yX3_passMinuteOf, Cond.code yX3_passMinuteOf cX3_passMinuteOf 2 (some .boolean), Cond.methodLink RX3 115 yX1_passMinute, Cond.instanceMethod yX1_passMinute, Cond.selects RX1 yX1_passMinute yX1_passMinute, Cond.code yX1_passMinute cX1_passMinute 4 (some .boolean), Cond.methodLink RX1 38 Lib.Math.min.name, Cond.static Lib.Math.min.name, Cond.initialized "java/lang/Math", Cond.code Lib.Math.min.name Lib.Math.min.code 2 (some .int), Cond.methodLink RX3 91 yX0_add, Cond.instanceMethod yX0_add, Cond.selects RX0 yX0_add yX0_add]
def wsX4_pass_r4 : List Cond := [Cond.code yX0_add cX0_add 4 none, Cond.methodLink RX0 28 Lib.Math.min.name, Cond.methodLink RX3 73 yX3_followTaken, Cond.instanceMethod yX3_followTaken, Cond.selects RX3 yX3_followTaken yX3_followTaken, Cond.code yX3_followTaken cX3_followTaken 3 none, Cond.fieldLink RX3 88 "LandingFines$Landing" "fare" "I", Cond.methodLink RX3 131 yX1_canBeTaken, Cond.instanceMethod yX1_canBeTaken, Cond.selects RX1 yX1_canBeTaken yX1_canBeTaken, Cond.code yX1_canBeTaken cX1_canBeTaken 1 (some .boolean), Cond.methodLink RX4 52 yX4_recordUnlessError, Cond.instanceMethod yX4_recordUnlessError, Cond.selects RX4 yX4_recordUnlessError yX4_recordUnlessError, Cond.code yX4_recordUnlessError cX4_recordUnlessError 2 (some .int), Cond.methodLink RX4 177 yX4_dropOldest, Cond.instanceMethod yX4_dropOldest, Cond.selects RX4 yX4_dropOldest yX4_dropOldest, Cond.code yX4_dropOldest cX4_dropOldest 3 none]
def wsX4_pass : List Cond := .code yX4_pass cX4_pass 2 (some .int) :: ((wsX4_pass_r1 ++ (wsX4_pass_r2 ++ (wsX4_pass_r3 ++ wsX4_pass_r4))) ++ wsX40 ++ wsX30 ++ wsX10 ++ wsX00)
def wsX4_of : List Cond := .code yX4_of cX4_of 4 (some .int) :: ([.fieldLink RX4 10 "LandingFines" "river" "LLandingFines$River;", .methodLink RX4 71 yX3_find, .instanceMethod yX3_find, .selects RX3 yX3_find yX3_find, .initialized RX3, .code yX3_find cX3_find 2 (some (.object "LandingFines$Landing")), .fieldLink RX3 29 "LandingFines$River" "landingCount" "I", .fieldLink RX3 25 "LandingFines$River" "landings" "[LLandingFines$Landing;", .methodLink RX4 75 yX1_tell, .instanceMethod yX1_tell, .selects RX1 yX1_tell yX1_tell, .initialized RX1, .code yX1_tell cX1_tell 2 (some .int), .fieldLink RX1 9 "LandingFines$Landing" "isOpen" "Z", .fieldLink RX1 15 "LandingFines$Landing" "fare" "I", .fieldLink RX1 19 "LandingFines$Landing" "fine" "I", .fieldLink RX1 22 "LandingFines$Landing" "isShunned" "Z", .fieldLink RX1 25 "LandingFines$Landing" "minutesShunned" "I", .fieldLink RX1 28 "LandingFines$Landing" "minutesSinceHalving" "I", .fieldLink RX1 31 "LandingFines$Landing" "changes" "I", .fieldLink RX1 34 "LandingFines$Landing" "timesShunned" "I"] ++ wsX40 ++ wsX30 ++ wsX10)
def wsX4_count_r1 : List Cond := [Cond.fieldLink RX4 34 "LandingFines" "pad" "LLandingFines$Pad;", Cond.fieldLink RX4 78 "LandingFines$Pad" "length" "I", Cond.fieldLink RX4 20 "LandingFines" "historySize" "I", Cond.fieldLink RX4 10 "LandingFines" "river" "LLandingFines$River;", Cond.methodLink RX4 81 yX3_tell, Cond.instanceMethod yX3_tell, Cond.selects RX3 yX3_tell yX3_tell, Cond.initialized RX3, Cond.code yX3_tell cX3_tell 2 (some .int), Cond.fieldLink RX3 33 "LandingFines$River" "minutesSoFar" "I", Cond.fieldLink RX3 29 "LandingFines$River" "landingCount" "I", Cond.fieldLink RX3 36 "LandingFines$River" "taken" "I", Cond.fieldLink RX3 39 "LandingFines$River" "switches" "I", Cond.fieldLink RX3 45 "LandingFines$River" "journal" "LLandingFines$Journal;", Cond.fieldLink RX3 145 "LandingFines$Journal" "size" "I", Cond.fieldLink RX3 18 "LandingFines$River" "settings" "[I", Cond.methodLink RX3 139 yX3_openOnes, Cond.instanceMethod yX3_openOnes, Cond.selects RX3 yX3_openOnes yX3_openOnes, Cond.code yX3_openOnes cX3_openOnes 3 (some .int), Cond.fieldLink RX3 25 "LandingFines$River" "landings" "[LLandingFines$Landing;", Cond.fieldLink RX3 80 "LandingFines$Landing" "isOpen" "Z", Cond.methodLink RX3 142 yX3_shunnedOnes, Cond.instanceMethod yX3_shunnedOnes]
def wsX4_count_r2 : List Cond := [Cond.selects RX3 yX3_shunnedOnes yX3_shunnedOnes, Cond.code yX3_shunnedOnes cX3_shunnedOnes 3 (some .int), Cond.fieldLink RX3 148 "LandingFines$Landing" "isShunned" "Z"]
def wsX4_count : List Cond := .code yX4_count cX4_count 2 (some .int) :: ((wsX4_count_r1 ++ wsX4_count_r2) ++ wsX40 ++ wsX20 ++ wsX30 ++ wsX00 ++ wsX10)
def wsX4_choice : List Cond := .code yX4_choice cX4_choice 2 (some .int) :: ([.fieldLink RX4 10 "LandingFines" "river" "LLandingFines$River;", .methodLink RX4 82 yX3_chosen, .instanceMethod yX3_chosen, .selects RX3 yX3_chosen yX3_chosen, .initialized RX3, .code yX3_chosen cX3_chosen 3 (some .int), .fieldLink RX3 29 "LandingFines$River" "landingCount" "I", .fieldLink RX3 25 "LandingFines$River" "landings" "[LLandingFines$Landing;", .methodLink RX3 131 yX1_canBeTaken, .instanceMethod yX1_canBeTaken, .selects RX1 yX1_canBeTaken yX1_canBeTaken, .initialized RX1, .code yX1_canBeTaken cX1_canBeTaken 1 (some .boolean), .fieldLink RX1 9 "LandingFines$Landing" "isOpen" "Z", .fieldLink RX1 22 "LandingFines$Landing" "isShunned" "Z", .methodLink RX3 135 yX3_rankOf, .instanceMethod yX3_rankOf, .selects RX3 yX3_rankOf yX3_rankOf, .code yX3_rankOf cX3_rankOf 6 (some .int), .fieldLink RX3 88 "LandingFines$Landing" "fare" "I"] ++ wsX40 ++ wsX30 ++ wsX10)
def wsX4_log : List Cond := .code yX4_log cX4_log 3 (some .int) :: ([.fieldLink RX4 10 "LandingFines" "river" "LLandingFines$River;", .fieldLink RX4 85 "LandingFines$River" "journal" "LLandingFines$Journal;", .methodLink RX4 89 yX0_tell, .instanceMethod yX0_tell, .selects RX0 yX0_tell yX0_tell, .initialized RX0, .code yX0_tell cX0_tell 4 (some .int), .fieldLink RX0 21 "LandingFines$Journal" "size" "I", .fieldLink RX0 25 "LandingFines$Journal" "next" "I", .fieldLink RX0 9 "LandingFines$Journal" "sorts" "[I", .fieldLink RX0 15 "LandingFines$Journal" "places" "[I", .fieldLink RX0 18 "LandingFines$Journal" "minutes" "[I"] ++ wsX40 ++ wsX30 ++ wsX00)
def wsX4_why : List Cond := .code yX4_why cX4_why 3 (some .int) :: ([.fieldLink RX4 10 "LandingFines" "river" "LLandingFines$River;", .fieldLink RX4 93 "LandingFines$River" "taken" "I", .fieldLink RX4 96 "LandingFines$Landing" "isOpen" "Z", .fieldLink RX4 100 "LandingFines$Landing" "isShunned" "Z", .methodLink RX4 71 yX3_find, .instanceMethod yX3_find, .selects RX3 yX3_find yX3_find, .initialized RX3, .code yX3_find cX3_find 2 (some (.object "LandingFines$Landing")), .fieldLink RX3 29 "LandingFines$River" "landingCount" "I", .fieldLink RX3 25 "LandingFines$River" "landings" "[LLandingFines$Landing;"] ++ wsX40 ++ wsX30 ++ wsX10)
def wsJ9_min_7cf53 : List Cond := .code yJ9_min_7cf53 cJ9_min_7cf53 2 (some .int) :: ([])
def wsL_cell : List Cond := .code yL_cell cL_cell 2 (some .int) :: ([.constant RL 7 (16110029)])
def wsL_low : List Cond := .code yL_low cL_low 2 (some .int) :: ([.constant RL 8 (2147483647)])
def wsL_told_r1 : List Cond := [Cond.arrayClass .int, Cond.methodLink RL 9 yX4_count, Cond.instanceMethod yX4_count, Cond.selects RX4 yX4_count yX4_count, Cond.initialized RX4, Cond.code yX4_count cX4_count 2 (some .int), Cond.fieldLink RX4 34 "LandingFines" "pad" "LLandingFines$Pad;", Cond.fieldLink RX4 78 "LandingFines$Pad" "length" "I", Cond.fieldLink RX4 20 "LandingFines" "historySize" "I", Cond.fieldLink RX4 10 "LandingFines" "river" "LLandingFines$River;", Cond.methodLink RX4 81 yX3_tell, Cond.instanceMethod yX3_tell, Cond.selects RX3 yX3_tell yX3_tell, Cond.initialized RX3, Cond.code yX3_tell cX3_tell 2 (some .int), Cond.fieldLink RX3 33 "LandingFines$River" "minutesSoFar" "I", Cond.fieldLink RX3 29 "LandingFines$River" "landingCount" "I", Cond.fieldLink RX3 36 "LandingFines$River" "taken" "I", Cond.fieldLink RX3 39 "LandingFines$River" "switches" "I", Cond.fieldLink RX3 45 "LandingFines$River" "journal" "LLandingFines$Journal;", Cond.fieldLink RX3 145 "LandingFines$Journal" "size" "I", Cond.fieldLink RX3 18 "LandingFines$River" "settings" "[I", Cond.methodLink RX3 139 yX3_openOnes, Cond.instanceMethod yX3_openOnes]
def wsL_told_r2 : List Cond := [Cond.selects RX3 yX3_openOnes yX3_openOnes, Cond.code yX3_openOnes cX3_openOnes 3 (some .int), Cond.fieldLink RX3 25 "LandingFines$River" "landings" "[LLandingFines$Landing;", Cond.fieldLink RX3 80 "LandingFines$Landing" "isOpen" "Z", Cond.methodLink RX3 142 yX3_shunnedOnes, Cond.instanceMethod yX3_shunnedOnes, Cond.selects RX3 yX3_shunnedOnes yX3_shunnedOnes, Cond.code yX3_shunnedOnes cX3_shunnedOnes 3 (some .int), Cond.fieldLink RX3 148 "LandingFines$Landing" "isShunned" "Z", Cond.methodLink RL 15 yX4_of, Cond.instanceMethod yX4_of, Cond.selects RX4 yX4_of yX4_of, Cond.code yX4_of cX4_of 4 (some .int), Cond.methodLink RX4 71 yX3_find, Cond.instanceMethod yX3_find, Cond.selects RX3 yX3_find yX3_find, Cond.code yX3_find cX3_find 2 (some (.object "LandingFines$Landing")), Cond.methodLink RX4 75 yX1_tell, Cond.instanceMethod yX1_tell, Cond.selects RX1 yX1_tell yX1_tell, Cond.initialized RX1, Cond.code yX1_tell cX1_tell 2 (some .int), Cond.fieldLink RX1 9 "LandingFines$Landing" "isOpen" "Z", Cond.fieldLink RX1 15 "LandingFines$Landing" "fare" "I"]
def wsL_told_r3 : List Cond := [Cond.fieldLink RX1 19 "LandingFines$Landing" "fine" "I", Cond.fieldLink RX1 22 "LandingFines$Landing" "isShunned" "Z", Cond.fieldLink RX1 25 "LandingFines$Landing" "minutesShunned" "I", Cond.fieldLink RX1 28 "LandingFines$Landing" "minutesSinceHalving" "I", Cond.fieldLink RX1 31 "LandingFines$Landing" "changes" "I", Cond.fieldLink RX1 34 "LandingFines$Landing" "timesShunned" "I"]
def wsL_told : List Cond := .code yL_told cL_told 3 (some (.array .int)) :: ((wsL_told_r1 ++ (wsL_told_r2 ++ wsL_told_r3)) ++ wsX40 ++ wsX20 ++ wsX30 ++ wsX00 ++ wsX10)
def wsL_taken_r1 : List Cond := [Cond.methodLink RL 9 yX4_count, Cond.instanceMethod yX4_count, Cond.selects RX4 yX4_count yX4_count, Cond.initialized RX4, Cond.code yX4_count cX4_count 2 (some .int), Cond.fieldLink RX4 34 "LandingFines" "pad" "LLandingFines$Pad;", Cond.fieldLink RX4 78 "LandingFines$Pad" "length" "I", Cond.fieldLink RX4 20 "LandingFines" "historySize" "I", Cond.fieldLink RX4 10 "LandingFines" "river" "LLandingFines$River;", Cond.methodLink RX4 81 yX3_tell, Cond.instanceMethod yX3_tell, Cond.selects RX3 yX3_tell yX3_tell, Cond.initialized RX3, Cond.code yX3_tell cX3_tell 2 (some .int), Cond.fieldLink RX3 33 "LandingFines$River" "minutesSoFar" "I", Cond.fieldLink RX3 29 "LandingFines$River" "landingCount" "I", Cond.fieldLink RX3 36 "LandingFines$River" "taken" "I", Cond.fieldLink RX3 39 "LandingFines$River" "switches" "I", Cond.fieldLink RX3 45 "LandingFines$River" "journal" "LLandingFines$Journal;", Cond.fieldLink RX3 145 "LandingFines$Journal" "size" "I", Cond.fieldLink RX3 18 "LandingFines$River" "settings" "[I", Cond.methodLink RX3 139 yX3_openOnes, Cond.instanceMethod yX3_openOnes, Cond.selects RX3 yX3_openOnes yX3_openOnes]
def wsL_taken_r2 : List Cond := [Cond.code yX3_openOnes cX3_openOnes 3 (some .int), Cond.fieldLink RX3 25 "LandingFines$River" "landings" "[LLandingFines$Landing;", Cond.fieldLink RX3 80 "LandingFines$Landing" "isOpen" "Z", Cond.methodLink RX3 142 yX3_shunnedOnes, Cond.instanceMethod yX3_shunnedOnes, Cond.selects RX3 yX3_shunnedOnes yX3_shunnedOnes, Cond.code yX3_shunnedOnes cX3_shunnedOnes 3 (some .int), Cond.fieldLink RX3 148 "LandingFines$Landing" "isShunned" "Z", Cond.methodLink RL 15 yX4_of, Cond.instanceMethod yX4_of, Cond.selects RX4 yX4_of yX4_of, Cond.code yX4_of cX4_of 4 (some .int), Cond.methodLink RX4 71 yX3_find, Cond.instanceMethod yX3_find, Cond.selects RX3 yX3_find yX3_find, Cond.code yX3_find cX3_find 2 (some (.object "LandingFines$Landing")), Cond.methodLink RX4 75 yX1_tell, Cond.instanceMethod yX1_tell, Cond.selects RX1 yX1_tell yX1_tell, Cond.initialized RX1, Cond.code yX1_tell cX1_tell 2 (some .int), Cond.fieldLink RX1 9 "LandingFines$Landing" "isOpen" "Z", Cond.fieldLink RX1 15 "LandingFines$Landing" "fare" "I", Cond.fieldLink RX1 19 "LandingFines$Landing" "fine" "I"]
def wsL_taken_r3 : List Cond := [Cond.fieldLink RX1 22 "LandingFines$Landing" "isShunned" "Z", Cond.fieldLink RX1 25 "LandingFines$Landing" "minutesShunned" "I", Cond.fieldLink RX1 28 "LandingFines$Landing" "minutesSinceHalving" "I", Cond.fieldLink RX1 31 "LandingFines$Landing" "changes" "I", Cond.fieldLink RX1 34 "LandingFines$Landing" "timesShunned" "I"]
def wsL_taken : List Cond := .code yL_taken cL_taken 4 (some .int) :: ((wsL_taken_r1 ++ (wsL_taken_r2 ++ wsL_taken_r3)) ++ wsX40 ++ wsX20 ++ wsX30 ++ wsX00 ++ wsX10)
def wsL_chosen_r1 : List Cond := [Cond.methodLink RL 19 yL_taken, Cond.static yL_taken, Cond.initialized RL, Cond.code yL_taken cL_taken 4 (some .int), Cond.methodLink RL 9 yX4_count, Cond.instanceMethod yX4_count, Cond.selects RX4 yX4_count yX4_count, Cond.initialized RX4, Cond.code yX4_count cX4_count 2 (some .int), Cond.fieldLink RX4 34 "LandingFines" "pad" "LLandingFines$Pad;", Cond.fieldLink RX4 78 "LandingFines$Pad" "length" "I", Cond.fieldLink RX4 20 "LandingFines" "historySize" "I", Cond.fieldLink RX4 10 "LandingFines" "river" "LLandingFines$River;", Cond.methodLink RX4 81 yX3_tell, Cond.instanceMethod yX3_tell, Cond.selects RX3 yX3_tell yX3_tell, Cond.initialized RX3, Cond.code yX3_tell cX3_tell 2 (some .int), Cond.fieldLink RX3 33 "LandingFines$River" "minutesSoFar" "I", Cond.fieldLink RX3 29 "LandingFines$River" "landingCount" "I", Cond.fieldLink RX3 36 "LandingFines$River" "taken" "I", Cond.fieldLink RX3 39 "LandingFines$River" "switches" "I", Cond.fieldLink RX3 45 "LandingFines$River" "journal" "LLandingFines$Journal;", Cond.fieldLink RX3 145 "LandingFines$Journal" "size" "I"]
def wsL_chosen_r2 : List Cond := [Cond.fieldLink RX3 18 "LandingFines$River" "settings" "[I", Cond.methodLink RX3 139 yX3_openOnes, Cond.instanceMethod yX3_openOnes, Cond.selects RX3 yX3_openOnes yX3_openOnes, Cond.code yX3_openOnes cX3_openOnes 3 (some .int), Cond.fieldLink RX3 25 "LandingFines$River" "landings" "[LLandingFines$Landing;", Cond.fieldLink RX3 80 "LandingFines$Landing" "isOpen" "Z", Cond.methodLink RX3 142 yX3_shunnedOnes, Cond.instanceMethod yX3_shunnedOnes, Cond.selects RX3 yX3_shunnedOnes yX3_shunnedOnes, Cond.code yX3_shunnedOnes cX3_shunnedOnes 3 (some .int), Cond.fieldLink RX3 148 "LandingFines$Landing" "isShunned" "Z", Cond.methodLink RL 15 yX4_of, Cond.instanceMethod yX4_of, Cond.selects RX4 yX4_of yX4_of, Cond.code yX4_of cX4_of 4 (some .int), Cond.methodLink RX4 71 yX3_find, Cond.instanceMethod yX3_find, Cond.selects RX3 yX3_find yX3_find, Cond.code yX3_find cX3_find 2 (some (.object "LandingFines$Landing")), Cond.methodLink RX4 75 yX1_tell, Cond.instanceMethod yX1_tell, Cond.selects RX1 yX1_tell yX1_tell, Cond.initialized RX1]
def wsL_chosen_r3 : List Cond := [Cond.code yX1_tell cX1_tell 2 (some .int), Cond.fieldLink RX1 9 "LandingFines$Landing" "isOpen" "Z", Cond.fieldLink RX1 15 "LandingFines$Landing" "fare" "I", Cond.fieldLink RX1 19 "LandingFines$Landing" "fine" "I", Cond.fieldLink RX1 22 "LandingFines$Landing" "isShunned" "Z", Cond.fieldLink RX1 25 "LandingFines$Landing" "minutesShunned" "I", Cond.fieldLink RX1 28 "LandingFines$Landing" "minutesSinceHalving" "I", Cond.fieldLink RX1 31 "LandingFines$Landing" "changes" "I", Cond.fieldLink RX1 34 "LandingFines$Landing" "timesShunned" "I", Cond.methodLink RL 25 yX4_choice, Cond.instanceMethod yX4_choice, Cond.selects RX4 yX4_choice yX4_choice, Cond.code yX4_choice cX4_choice 2 (some .int), Cond.methodLink RX4 82 yX3_chosen, Cond.instanceMethod yX3_chosen, Cond.selects RX3 yX3_chosen yX3_chosen, Cond.code yX3_chosen cX3_chosen 3 (some .int), Cond.methodLink RX3 131 yX1_canBeTaken, Cond.instanceMethod yX1_canBeTaken, Cond.selects RX1 yX1_canBeTaken yX1_canBeTaken, Cond.code yX1_canBeTaken cX1_canBeTaken 1 (some .boolean), Cond.methodLink RX3 135 yX3_rankOf, Cond.instanceMethod yX3_rankOf, Cond.selects RX3 yX3_rankOf yX3_rankOf]
def wsL_chosen_r4 : List Cond := [Cond.code yX3_rankOf cX3_rankOf 6 (some .int), Cond.fieldLink RX3 88 "LandingFines$Landing" "fare" "I", Cond.methodLink RL 28 yX4_log, Cond.instanceMethod yX4_log, Cond.selects RX4 yX4_log yX4_log, Cond.code yX4_log cX4_log 3 (some .int), Cond.fieldLink RX4 85 "LandingFines$River" "journal" "LLandingFines$Journal;", Cond.methodLink RX4 89 yX0_tell, Cond.instanceMethod yX0_tell, Cond.selects RX0 yX0_tell yX0_tell, Cond.initialized RX0, Cond.code yX0_tell cX0_tell 4 (some .int), Cond.fieldLink RX0 21 "LandingFines$Journal" "size" "I", Cond.fieldLink RX0 25 "LandingFines$Journal" "next" "I", Cond.fieldLink RX0 9 "LandingFines$Journal" "sorts" "[I", Cond.fieldLink RX0 15 "LandingFines$Journal" "places" "[I", Cond.fieldLink RX0 18 "LandingFines$Journal" "minutes" "[I", Cond.methodLink RL 31 yX4_why, Cond.instanceMethod yX4_why, Cond.selects RX4 yX4_why yX4_why, Cond.code yX4_why cX4_why 3 (some .int), Cond.fieldLink RX4 93 "LandingFines$River" "taken" "I", Cond.fieldLink RX4 96 "LandingFines$Landing" "isOpen" "Z", Cond.fieldLink RX4 100 "LandingFines$Landing" "isShunned" "Z"]
def wsL_chosen : List Cond := .code yL_chosen cL_chosen 6 (some .boolean) :: ((wsL_chosen_r1 ++ (wsL_chosen_r2 ++ (wsL_chosen_r3 ++ wsL_chosen_r4))) ++ wsX40 ++ wsX20 ++ wsX30 ++ wsX00 ++ wsX10)
def wsL_changed_r1 : List Cond := [Cond.constant RL 34 (99999), Cond.methodLink RL 9 yX4_count, Cond.instanceMethod yX4_count, Cond.selects RX4 yX4_count yX4_count, Cond.initialized RX4, Cond.code yX4_count cX4_count 2 (some .int), Cond.fieldLink RX4 34 "LandingFines" "pad" "LLandingFines$Pad;", Cond.fieldLink RX4 78 "LandingFines$Pad" "length" "I", Cond.fieldLink RX4 20 "LandingFines" "historySize" "I", Cond.fieldLink RX4 10 "LandingFines" "river" "LLandingFines$River;", Cond.methodLink RX4 81 yX3_tell, Cond.instanceMethod yX3_tell, Cond.selects RX3 yX3_tell yX3_tell, Cond.initialized RX3, Cond.code yX3_tell cX3_tell 2 (some .int), Cond.fieldLink RX3 33 "LandingFines$River" "minutesSoFar" "I", Cond.fieldLink RX3 29 "LandingFines$River" "landingCount" "I", Cond.fieldLink RX3 36 "LandingFines$River" "taken" "I", Cond.fieldLink RX3 39 "LandingFines$River" "switches" "I", Cond.fieldLink RX3 45 "LandingFines$River" "journal" "LLandingFines$Journal;", Cond.fieldLink RX3 145 "LandingFines$Journal" "size" "I", Cond.fieldLink RX3 18 "LandingFines$River" "settings" "[I", Cond.methodLink RX3 139 yX3_openOnes, Cond.instanceMethod yX3_openOnes]
def wsL_changed_r2 : List Cond := [Cond.selects RX3 yX3_openOnes yX3_openOnes, Cond.code yX3_openOnes cX3_openOnes 3 (some .int), Cond.fieldLink RX3 25 "LandingFines$River" "landings" "[LLandingFines$Landing;", Cond.fieldLink RX3 80 "LandingFines$Landing" "isOpen" "Z", Cond.methodLink RX3 142 yX3_shunnedOnes, Cond.instanceMethod yX3_shunnedOnes, Cond.selects RX3 yX3_shunnedOnes yX3_shunnedOnes, Cond.code yX3_shunnedOnes cX3_shunnedOnes 3 (some .int), Cond.fieldLink RX3 148 "LandingFines$Landing" "isShunned" "Z", Cond.methodLink RL 15 yX4_of, Cond.instanceMethod yX4_of, Cond.selects RX4 yX4_of yX4_of, Cond.code yX4_of cX4_of 4 (some .int), Cond.methodLink RX4 71 yX3_find, Cond.instanceMethod yX3_find, Cond.selects RX3 yX3_find yX3_find, Cond.code yX3_find cX3_find 2 (some (.object "LandingFines$Landing")), Cond.methodLink RX4 75 yX1_tell, Cond.instanceMethod yX1_tell, Cond.selects RX1 yX1_tell yX1_tell, Cond.initialized RX1, Cond.code yX1_tell cX1_tell 2 (some .int), Cond.fieldLink RX1 9 "LandingFines$Landing" "isOpen" "Z", Cond.fieldLink RX1 15 "LandingFines$Landing" "fare" "I"]
def wsL_changed_r3 : List Cond := [Cond.fieldLink RX1 19 "LandingFines$Landing" "fine" "I", Cond.fieldLink RX1 22 "LandingFines$Landing" "isShunned" "Z", Cond.fieldLink RX1 25 "LandingFines$Landing" "minutesShunned" "I", Cond.fieldLink RX1 28 "LandingFines$Landing" "minutesSinceHalving" "I", Cond.fieldLink RX1 31 "LandingFines$Landing" "changes" "I", Cond.fieldLink RX1 34 "LandingFines$Landing" "timesShunned" "I", Cond.methodLink RL 28 yX4_log, Cond.instanceMethod yX4_log, Cond.selects RX4 yX4_log yX4_log, Cond.code yX4_log cX4_log 3 (some .int), Cond.fieldLink RX4 85 "LandingFines$River" "journal" "LLandingFines$Journal;", Cond.methodLink RX4 89 yX0_tell, Cond.instanceMethod yX0_tell, Cond.selects RX0 yX0_tell yX0_tell, Cond.initialized RX0, Cond.code yX0_tell cX0_tell 4 (some .int), Cond.fieldLink RX0 21 "LandingFines$Journal" "size" "I", Cond.fieldLink RX0 25 "LandingFines$Journal" "next" "I", Cond.fieldLink RX0 9 "LandingFines$Journal" "sorts" "[I", Cond.fieldLink RX0 15 "LandingFines$Journal" "places" "[I", Cond.fieldLink RX0 18 "LandingFines$Journal" "minutes" "[I"]
def wsL_changed : List Cond := .code yL_changed cL_changed 13 (some .boolean) :: ((wsL_changed_r1 ++ (wsL_changed_r2 ++ wsL_changed_r3)) ++ wsX40 ++ wsX20 ++ wsX30 ++ wsX00 ++ wsX10)
def wsL_aged_r1 : List Cond := [Cond.methodLink RL 9 yX4_count, Cond.instanceMethod yX4_count, Cond.selects RX4 yX4_count yX4_count, Cond.initialized RX4, Cond.code yX4_count cX4_count 2 (some .int), Cond.fieldLink RX4 34 "LandingFines" "pad" "LLandingFines$Pad;", Cond.fieldLink RX4 78 "LandingFines$Pad" "length" "I", Cond.fieldLink RX4 20 "LandingFines" "historySize" "I", Cond.fieldLink RX4 10 "LandingFines" "river" "LLandingFines$River;", Cond.methodLink RX4 81 yX3_tell, Cond.instanceMethod yX3_tell, Cond.selects RX3 yX3_tell yX3_tell, Cond.initialized RX3, Cond.code yX3_tell cX3_tell 2 (some .int), Cond.fieldLink RX3 33 "LandingFines$River" "minutesSoFar" "I", Cond.fieldLink RX3 29 "LandingFines$River" "landingCount" "I", Cond.fieldLink RX3 36 "LandingFines$River" "taken" "I", Cond.fieldLink RX3 39 "LandingFines$River" "switches" "I", Cond.fieldLink RX3 45 "LandingFines$River" "journal" "LLandingFines$Journal;", Cond.fieldLink RX3 145 "LandingFines$Journal" "size" "I", Cond.fieldLink RX3 18 "LandingFines$River" "settings" "[I", Cond.methodLink RX3 139 yX3_openOnes, Cond.instanceMethod yX3_openOnes, Cond.selects RX3 yX3_openOnes yX3_openOnes]
def wsL_aged_r2 : List Cond := [Cond.code yX3_openOnes cX3_openOnes 3 (some .int), Cond.fieldLink RX3 25 "LandingFines$River" "landings" "[LLandingFines$Landing;", Cond.fieldLink RX3 80 "LandingFines$Landing" "isOpen" "Z", Cond.methodLink RX3 142 yX3_shunnedOnes, Cond.instanceMethod yX3_shunnedOnes, Cond.selects RX3 yX3_shunnedOnes yX3_shunnedOnes, Cond.code yX3_shunnedOnes cX3_shunnedOnes 3 (some .int), Cond.fieldLink RX3 148 "LandingFines$Landing" "isShunned" "Z", Cond.methodLink RL 15 yX4_of, Cond.instanceMethod yX4_of, Cond.selects RX4 yX4_of yX4_of, Cond.code yX4_of cX4_of 4 (some .int), Cond.methodLink RX4 71 yX3_find, Cond.instanceMethod yX3_find, Cond.selects RX3 yX3_find yX3_find, Cond.code yX3_find cX3_find 2 (some (.object "LandingFines$Landing")), Cond.methodLink RX4 75 yX1_tell, Cond.instanceMethod yX1_tell, Cond.selects RX1 yX1_tell yX1_tell, Cond.initialized RX1, Cond.code yX1_tell cX1_tell 2 (some .int), Cond.fieldLink RX1 9 "LandingFines$Landing" "isOpen" "Z", Cond.fieldLink RX1 15 "LandingFines$Landing" "fare" "I", Cond.fieldLink RX1 19 "LandingFines$Landing" "fine" "I"]
def wsL_aged_r3 : List Cond := [Cond.fieldLink RX1 22 "LandingFines$Landing" "isShunned" "Z", Cond.fieldLink RX1 25 "LandingFines$Landing" "minutesShunned" "I", Cond.fieldLink RX1 28 "LandingFines$Landing" "minutesSinceHalving" "I", Cond.fieldLink RX1 31 "LandingFines$Landing" "changes" "I", Cond.fieldLink RX1 34 "LandingFines$Landing" "timesShunned" "I"]
def wsL_aged : List Cond := .code yL_aged cL_aged 9 (some .boolean) :: ((wsL_aged_r1 ++ (wsL_aged_r2 ++ wsL_aged_r3)) ++ wsX40 ++ wsX20 ++ wsX30 ++ wsX00 ++ wsX10)
def wsL_passed_r1 : List Cond := [Cond.methodLink RL 9 yX4_count, Cond.instanceMethod yX4_count, Cond.selects RX4 yX4_count yX4_count, Cond.initialized RX4, Cond.code yX4_count cX4_count 2 (some .int), Cond.fieldLink RX4 34 "LandingFines" "pad" "LLandingFines$Pad;", Cond.fieldLink RX4 78 "LandingFines$Pad" "length" "I", Cond.fieldLink RX4 20 "LandingFines" "historySize" "I", Cond.fieldLink RX4 10 "LandingFines" "river" "LLandingFines$River;", Cond.methodLink RX4 81 yX3_tell, Cond.instanceMethod yX3_tell, Cond.selects RX3 yX3_tell yX3_tell, Cond.initialized RX3, Cond.code yX3_tell cX3_tell 2 (some .int), Cond.fieldLink RX3 33 "LandingFines$River" "minutesSoFar" "I", Cond.fieldLink RX3 29 "LandingFines$River" "landingCount" "I", Cond.fieldLink RX3 36 "LandingFines$River" "taken" "I", Cond.fieldLink RX3 39 "LandingFines$River" "switches" "I", Cond.fieldLink RX3 45 "LandingFines$River" "journal" "LLandingFines$Journal;", Cond.fieldLink RX3 145 "LandingFines$Journal" "size" "I", Cond.fieldLink RX3 18 "LandingFines$River" "settings" "[I", Cond.methodLink RX3 139 yX3_openOnes, Cond.instanceMethod yX3_openOnes, Cond.selects RX3 yX3_openOnes yX3_openOnes]
def wsL_passed_r2 : List Cond := [Cond.code yX3_openOnes cX3_openOnes 3 (some .int), Cond.fieldLink RX3 25 "LandingFines$River" "landings" "[LLandingFines$Landing;", Cond.fieldLink RX3 80 "LandingFines$Landing" "isOpen" "Z", Cond.methodLink RX3 142 yX3_shunnedOnes, Cond.instanceMethod yX3_shunnedOnes, Cond.selects RX3 yX3_shunnedOnes yX3_shunnedOnes, Cond.code yX3_shunnedOnes cX3_shunnedOnes 3 (some .int), Cond.fieldLink RX3 148 "LandingFines$Landing" "isShunned" "Z", Cond.methodLink RL 35 yX4_pass, Cond.instanceMethod yX4_pass, Cond.selects RX4 yX4_pass yX4_pass, Cond.code yX4_pass cX4_pass 2 (some .int), Cond.methodLink RX4 45 yX4_keepState, Cond.instanceMethod yX4_keepState, Cond.selects RX4 yX4_keepState yX4_keepState, Cond.code yX4_keepState cX4_keepState 1 none, Cond.fieldLink RX4 16 "LandingFines" "history" "[LLandingFines$River;", Cond.methodLink RX4 171 yX3_copyFrom, Cond.instanceMethod yX3_copyFrom, Cond.selects RX3 yX3_copyFrom yX3_copyFrom, Cond.code yX3_copyFrom cX3_copyFrom 3 none, Cond.methodLink RX3 50 arraycopyName, Cond.native arraycopyName, Cond.static arraycopyName]
def wsL_passed_r3 : List Cond := [Cond.initialized "java/lang/System", Cond.methodLink RX3 56 yX1_copyFrom, Cond.instanceMethod yX1_copyFrom, Cond.selects RX1 yX1_copyFrom yX1_copyFrom, Cond.initialized RX1, Cond.code yX1_copyFrom cX1_copyFrom 2 none, Cond.fieldLink RX1 9 "LandingFines$Landing" "isOpen" "Z", Cond.fieldLink RX1 15 "LandingFines$Landing" "fare" "I", Cond.fieldLink RX1 19 "LandingFines$Landing" "fine" "I", Cond.fieldLink RX1 22 "LandingFines$Landing" "isShunned" "Z", Cond.fieldLink RX1 25 "LandingFines$Landing" "minutesShunned" "I", Cond.fieldLink RX1 28 "LandingFines$Landing" "minutesSinceHalving" "I", Cond.fieldLink RX1 31 "LandingFines$Landing" "changes" "I", Cond.fieldLink RX1 34 "LandingFines$Landing" "timesShunned" "I", Cond.methodLink RX3 60 yX0_copyFrom, Cond.instanceMethod yX0_copyFrom, Cond.selects RX0 yX0_copyFrom yX0_copyFrom, Cond.initialized RX0, Cond.code yX0_copyFrom cX0_copyFrom 2 none, Cond.fieldLink RX0 9 "LandingFines$Journal" "sorts" "[I", Cond.methodLink RX0 34 arraycopyName, Cond.fieldLink RX0 15 "LandingFines$Journal" "places" "[I", Cond.fieldLink RX0 18 "LandingFines$Journal" "minutes" "[I", Cond.fieldLink RX0 21 "LandingFines$Journal" "size" "I"]
def wsL_passed_r4 : List Cond := [Cond.fieldLink RX0 25 "LandingFines$Journal" "next" "I", Cond.methodLink RX4 68 yX3_passMinutes, Cond.instanceMethod yX3_passMinutes, Cond.selects RX3 yX3_passMinutes yX3_passMinutes, Cond.code yX3_passMinutes cX3_passMinutes 4 (some .int), Cond.constant RX3 106 (99999), Cond.methodLink RX3 107 yX3_passOneMinute, Cond.instanceMethod yX3_passOneMinute, Cond.selects RX3 yX3_passOneMinute yX3_passOneMinute, Cond.code yX3_passOneMinute cX3_passOneMinute 3 (some .int), Cond.methodLink RX3 111 yX3_passMinuteOf, Cond.instanceMethod yX3_passMinuteOf, Cond.selects RX3 yX3_passMinuteOf yX3_passMinuteOf, Cond.code yX3_passMinuteOf cX3_passMinuteOf 2 (some .boolean), Cond.methodLink RX3 115 yX1_passMinute, Cond.instanceMethod yX1_passMinute, Cond.selects RX1 yX1_passMinute yX1_passMinute, Cond.code yX1_passMinute cX1_passMinute 4 (some .boolean), Cond.methodLink RX1 38 Lib.Math.min.name, Cond.static Lib.Math.min.name, Cond.initialized "java/lang/Math", Cond.code Lib.Math.min.name Lib.Math.min.code 2 (some .int), Cond.methodLink RX3 91 yX0_add, Cond.instanceMethod yX0_add]
def wsL_passed_r5 : List Cond := [Cond.selects RX0 yX0_add yX0_add, Cond.code yX0_add cX0_add 4 none, Cond.methodLink RX0 28 Lib.Math.min.name, Cond.methodLink RX3 73 yX3_followTaken, Cond.instanceMethod yX3_followTaken, Cond.selects RX3 yX3_followTaken yX3_followTaken, Cond.code yX3_followTaken cX3_followTaken 3 none, Cond.fieldLink RX3 88 "LandingFines$Landing" "fare" "I", Cond.methodLink RX3 131 yX1_canBeTaken, Cond.instanceMethod yX1_canBeTaken, Cond.selects RX1 yX1_canBeTaken yX1_canBeTaken, Cond.code yX1_canBeTaken cX1_canBeTaken 1 (some .boolean), Cond.methodLink RX4 52 yX4_recordUnlessError, Cond.instanceMethod yX4_recordUnlessError, Cond.selects RX4 yX4_recordUnlessError yX4_recordUnlessError, Cond.code yX4_recordUnlessError cX4_recordUnlessError 2 (some .int), Cond.methodLink RX4 177 yX4_dropOldest, Cond.instanceMethod yX4_dropOldest, Cond.selects RX4 yX4_dropOldest yX4_dropOldest, Cond.code yX4_dropOldest cX4_dropOldest 3 none, Cond.methodLink RL 38 yL_aged, Cond.static yL_aged, Cond.initialized RL, Cond.code yL_aged cL_aged 9 (some .boolean)]
def wsL_passed_r6 : List Cond := [Cond.methodLink RL 15 yX4_of, Cond.instanceMethod yX4_of, Cond.selects RX4 yX4_of yX4_of, Cond.code yX4_of cX4_of 4 (some .int), Cond.methodLink RX4 71 yX3_find, Cond.instanceMethod yX3_find, Cond.selects RX3 yX3_find yX3_find, Cond.code yX3_find cX3_find 2 (some (.object "LandingFines$Landing")), Cond.methodLink RX4 75 yX1_tell, Cond.instanceMethod yX1_tell, Cond.selects RX1 yX1_tell yX1_tell, Cond.code yX1_tell cX1_tell 2 (some .int), Cond.methodLink RL 28 yX4_log, Cond.instanceMethod yX4_log, Cond.selects RX4 yX4_log yX4_log, Cond.code yX4_log cX4_log 3 (some .int), Cond.fieldLink RX4 85 "LandingFines$River" "journal" "LLandingFines$Journal;", Cond.methodLink RX4 89 yX0_tell, Cond.instanceMethod yX0_tell, Cond.selects RX0 yX0_tell yX0_tell, Cond.code yX0_tell cX0_tell 4 (some .int)]
def wsL_passed : List Cond := .code yL_passed cL_passed 6 (some .boolean) :: ((wsL_passed_r1 ++ (wsL_passed_r2 ++ (wsL_passed_r3 ++ (wsL_passed_r4 ++ (wsL_passed_r5 ++ wsL_passed_r6))))) ++ wsX40 ++ wsX20 ++ wsX30 ++ wsX00 ++ wsX10)
def wsL_act_r1 : List Cond := [Cond.methodLink RL 42 yL_told, Cond.static yL_told, Cond.initialized RL, Cond.code yL_told cL_told 3 (some (.array .int)), Cond.arrayClass .int, Cond.methodLink RL 9 yX4_count, Cond.instanceMethod yX4_count, Cond.selects RX4 yX4_count yX4_count, Cond.initialized RX4, Cond.code yX4_count cX4_count 2 (some .int), Cond.fieldLink RX4 34 "LandingFines" "pad" "LLandingFines$Pad;", Cond.fieldLink RX4 78 "LandingFines$Pad" "length" "I", Cond.fieldLink RX4 20 "LandingFines" "historySize" "I", Cond.fieldLink RX4 10 "LandingFines" "river" "LLandingFines$River;", Cond.methodLink RX4 81 yX3_tell, Cond.instanceMethod yX3_tell, Cond.selects RX3 yX3_tell yX3_tell, Cond.initialized RX3, Cond.code yX3_tell cX3_tell 2 (some .int), Cond.fieldLink RX3 33 "LandingFines$River" "minutesSoFar" "I", Cond.fieldLink RX3 29 "LandingFines$River" "landingCount" "I", Cond.fieldLink RX3 36 "LandingFines$River" "taken" "I", Cond.fieldLink RX3 39 "LandingFines$River" "switches" "I", Cond.fieldLink RX3 45 "LandingFines$River" "journal" "LLandingFines$Journal;"]
def wsL_act_r2 : List Cond := [Cond.fieldLink RX3 145 "LandingFines$Journal" "size" "I", Cond.fieldLink RX3 18 "LandingFines$River" "settings" "[I", Cond.methodLink RX3 139 yX3_openOnes, Cond.instanceMethod yX3_openOnes, Cond.selects RX3 yX3_openOnes yX3_openOnes, Cond.code yX3_openOnes cX3_openOnes 3 (some .int), Cond.fieldLink RX3 25 "LandingFines$River" "landings" "[LLandingFines$Landing;", Cond.fieldLink RX3 80 "LandingFines$Landing" "isOpen" "Z", Cond.methodLink RX3 142 yX3_shunnedOnes, Cond.instanceMethod yX3_shunnedOnes, Cond.selects RX3 yX3_shunnedOnes yX3_shunnedOnes, Cond.code yX3_shunnedOnes cX3_shunnedOnes 3 (some .int), Cond.fieldLink RX3 148 "LandingFines$Landing" "isShunned" "Z", Cond.methodLink RL 15 yX4_of, Cond.instanceMethod yX4_of, Cond.selects RX4 yX4_of yX4_of, Cond.code yX4_of cX4_of 4 (some .int), Cond.methodLink RX4 71 yX3_find, Cond.instanceMethod yX3_find, Cond.selects RX3 yX3_find yX3_find, Cond.code yX3_find cX3_find 2 (some (.object "LandingFines$Landing")), Cond.methodLink RX4 75 yX1_tell, Cond.instanceMethod yX1_tell, Cond.selects RX1 yX1_tell yX1_tell]
def wsL_act_r3 : List Cond := [Cond.initialized RX1, Cond.code yX1_tell cX1_tell 2 (some .int), Cond.fieldLink RX1 9 "LandingFines$Landing" "isOpen" "Z", Cond.fieldLink RX1 15 "LandingFines$Landing" "fare" "I", Cond.fieldLink RX1 19 "LandingFines$Landing" "fine" "I", Cond.fieldLink RX1 22 "LandingFines$Landing" "isShunned" "Z", Cond.fieldLink RX1 25 "LandingFines$Landing" "minutesShunned" "I", Cond.fieldLink RX1 28 "LandingFines$Landing" "minutesSinceHalving" "I", Cond.fieldLink RX1 31 "LandingFines$Landing" "changes" "I", Cond.fieldLink RX1 34 "LandingFines$Landing" "timesShunned" "I", Cond.methodLink RL 46 yL_low, Cond.static yL_low, Cond.code yL_low cL_low 2 (some .int), Cond.constant RL 8 (2147483647), Cond.methodLink RL 49 yX4_landing, Cond.instanceMethod yX4_landing, Cond.selects RX4 yX4_landing yX4_landing, Cond.code yX4_landing cX4_landing 2 (some .int), Cond.methodLink RX4 45 yX4_keepState, Cond.instanceMethod yX4_keepState, Cond.selects RX4 yX4_keepState yX4_keepState, Cond.code yX4_keepState cX4_keepState 1 none, Cond.fieldLink RX4 16 "LandingFines" "history" "[LLandingFines$River;", Cond.methodLink RX4 171 yX3_copyFrom]
def wsL_act_r4 : List Cond := [Cond.instanceMethod yX3_copyFrom, Cond.selects RX3 yX3_copyFrom yX3_copyFrom, Cond.code yX3_copyFrom cX3_copyFrom 3 none, Cond.methodLink RX3 50 arraycopyName, Cond.native arraycopyName, Cond.static arraycopyName, Cond.initialized "java/lang/System", Cond.methodLink RX3 56 yX1_copyFrom, Cond.instanceMethod yX1_copyFrom, Cond.selects RX1 yX1_copyFrom yX1_copyFrom, Cond.code yX1_copyFrom cX1_copyFrom 2 none, Cond.methodLink RX3 60 yX0_copyFrom, Cond.instanceMethod yX0_copyFrom, Cond.selects RX0 yX0_copyFrom yX0_copyFrom, Cond.initialized RX0, Cond.code yX0_copyFrom cX0_copyFrom 2 none, Cond.fieldLink RX0 9 "LandingFines$Journal" "sorts" "[I", Cond.methodLink RX0 34 arraycopyName, Cond.fieldLink RX0 15 "LandingFines$Journal" "places" "[I", Cond.fieldLink RX0 18 "LandingFines$Journal" "minutes" "[I", Cond.fieldLink RX0 21 "LandingFines$Journal" "size" "I", Cond.fieldLink RX0 25 "LandingFines$Journal" "next" "I", Cond.methodLink RX4 56 yX3_addLanding, Cond.instanceMethod yX3_addLanding]
def wsL_act_r5 : List Cond := [Cond.selects RX3 yX3_addLanding yX3_addLanding, Cond.code yX3_addLanding cX3_addLanding 2 (some .int), Cond.methodLink RX3 69 yX1_arrive, Cond.instanceMethod yX1_arrive, Cond.selects RX1 yX1_arrive yX1_arrive, Cond.code yX1_arrive cX1_arrive 2 none, Cond.methodLink RX3 73 yX3_followTaken, Cond.instanceMethod yX3_followTaken, Cond.selects RX3 yX3_followTaken yX3_followTaken, Cond.code yX3_followTaken cX3_followTaken 3 none, Cond.fieldLink RX3 88 "LandingFines$Landing" "fare" "I", Cond.methodLink RX3 131 yX1_canBeTaken, Cond.instanceMethod yX1_canBeTaken, Cond.selects RX1 yX1_canBeTaken yX1_canBeTaken, Cond.code yX1_canBeTaken cX1_canBeTaken 1 (some .boolean), Cond.methodLink RX4 52 yX4_recordUnlessError, Cond.instanceMethod yX4_recordUnlessError, Cond.selects RX4 yX4_recordUnlessError yX4_recordUnlessError, Cond.code yX4_recordUnlessError cX4_recordUnlessError 2 (some .int), Cond.methodLink RX4 177 yX4_dropOldest, Cond.instanceMethod yX4_dropOldest, Cond.selects RX4 yX4_dropOldest yX4_dropOldest, Cond.code yX4_dropOldest cX4_dropOldest 3 none, Cond.methodLink RL 52 yX4_close]
def wsL_act_r6 : List Cond := [Cond.instanceMethod yX4_close, Cond.selects RX4 yX4_close yX4_close, Cond.code yX4_close cX4_close 2 (some .int), Cond.methodLink RX4 62 yX3_closeLanding, Cond.instanceMethod yX3_closeLanding, Cond.selects RX3 yX3_closeLanding yX3_closeLanding, Cond.code yX3_closeLanding cX3_closeLanding 3 (some .int), Cond.methodLink RX3 76 yX3_find, Cond.methodLink RX3 84 yX3_finishChange, Cond.instanceMethod yX3_finishChange, Cond.selects RX3 yX3_finishChange yX3_finishChange, Cond.code yX3_finishChange cX3_finishChange 4 (some .int), Cond.fieldLink RX3 99 "LandingFines$Landing" "fine" "I", Cond.methodLink RX3 91 yX0_add, Cond.instanceMethod yX0_add, Cond.selects RX0 yX0_add yX0_add, Cond.code yX0_add cX0_add 4 none, Cond.methodLink RX0 28 Lib.Math.min.name, Cond.static Lib.Math.min.name, Cond.initialized "java/lang/Math", Cond.code Lib.Math.min.name Lib.Math.min.code 2 (some .int), Cond.methodLink RX3 95 yX3_fineBySort, Cond.instanceMethod yX3_fineBySort, Cond.selects RX3 yX3_fineBySort yX3_fineBySort]
def wsL_act_r7 : List Cond := [Cond.code yX3_fineBySort cX3_fineBySort 3 (some .boolean), Cond.methodLink RX3 102 yX1_addFine, Cond.instanceMethod yX1_addFine, Cond.selects RX1 yX1_addFine yX1_addFine, Cond.code yX1_addFine cX1_addFine 3 (some .boolean), Cond.constant RX1 37 (99999), Cond.methodLink RX1 38 Lib.Math.min.name, Cond.methodLink RL 55 yX4_open, Cond.instanceMethod yX4_open, Cond.selects RX4 yX4_open yX4_open, Cond.code yX4_open cX4_open 2 (some .int), Cond.methodLink RX4 59 yX3_openLanding, Cond.instanceMethod yX3_openLanding, Cond.selects RX3 yX3_openLanding yX3_openLanding, Cond.code yX3_openLanding cX3_openLanding 3 (some .int), Cond.methodLink RL 58 yL_changed, Cond.static yL_changed, Cond.code yL_changed cL_changed 13 (some .boolean), Cond.constant RL 34 (99999), Cond.methodLink RL 28 yX4_log, Cond.instanceMethod yX4_log, Cond.selects RX4 yX4_log yX4_log, Cond.code yX4_log cX4_log 3 (some .int), Cond.fieldLink RX4 85 "LandingFines$River" "journal" "LLandingFines$Journal;"]
def wsL_act_r8 : List Cond := [Cond.methodLink RX4 89 yX0_tell, Cond.instanceMethod yX0_tell, Cond.selects RX0 yX0_tell yX0_tell, Cond.code yX0_tell cX0_tell 4 (some .int), Cond.methodLink RL 62 yX4_price, Cond.instanceMethod yX4_price, Cond.selects RX4 yX4_price yX4_price, Cond.code yX4_price cX4_price 3 (some .int), Cond.methodLink RX4 65 yX3_changePrice, Cond.instanceMethod yX3_changePrice, Cond.selects RX3 yX3_changePrice yX3_changePrice, Cond.code yX3_changePrice cX3_changePrice 4 (some .int), Cond.methodLink RL 65 yL_passed, Cond.static yL_passed, Cond.code yL_passed cL_passed 6 (some .boolean), Cond.methodLink RL 35 yX4_pass, Cond.instanceMethod yX4_pass, Cond.selects RX4 yX4_pass yX4_pass, Cond.code yX4_pass cX4_pass 2 (some .int), Cond.methodLink RX4 68 yX3_passMinutes, Cond.instanceMethod yX3_passMinutes, Cond.selects RX3 yX3_passMinutes yX3_passMinutes, Cond.code yX3_passMinutes cX3_passMinutes 4 (some .int), Cond.constant RX3 106 (99999)]
def wsL_act_r9 : List Cond := [Cond.methodLink RX3 107 yX3_passOneMinute, Cond.instanceMethod yX3_passOneMinute, Cond.selects RX3 yX3_passOneMinute yX3_passOneMinute, Cond.code yX3_passOneMinute cX3_passOneMinute 3 (some .int), Cond.methodLink RX3 111 yX3_passMinuteOf, Cond.instanceMethod yX3_passMinuteOf, Cond.selects RX3 yX3_passMinuteOf yX3_passMinuteOf, Cond.code yX3_passMinuteOf cX3_passMinuteOf 2 (some .boolean), Cond.methodLink RX3 115 yX1_passMinute, Cond.instanceMethod yX1_passMinute, Cond.selects RX1 yX1_passMinute yX1_passMinute, Cond.code yX1_passMinute cX1_passMinute 4 (some .boolean), Cond.methodLink RL 38 yL_aged, Cond.static yL_aged, Cond.code yL_aged cL_aged 9 (some .boolean), Cond.methodLink RL 69 yL_chosen, Cond.static yL_chosen, Cond.code yL_chosen cL_chosen 6 (some .boolean), Cond.methodLink RL 19 yL_taken, Cond.static yL_taken, Cond.code yL_taken cL_taken 4 (some .int), Cond.methodLink RL 25 yX4_choice, Cond.instanceMethod yX4_choice, Cond.selects RX4 yX4_choice yX4_choice]
def wsL_act_r10 : List Cond := [Cond.code yX4_choice cX4_choice 2 (some .int), Cond.methodLink RX4 82 yX3_chosen, Cond.instanceMethod yX3_chosen, Cond.selects RX3 yX3_chosen yX3_chosen, Cond.code yX3_chosen cX3_chosen 3 (some .int), Cond.methodLink RX3 135 yX3_rankOf, Cond.instanceMethod yX3_rankOf, Cond.selects RX3 yX3_rankOf yX3_rankOf, Cond.code yX3_rankOf cX3_rankOf 6 (some .int), Cond.methodLink RL 31 yX4_why, Cond.instanceMethod yX4_why, Cond.selects RX4 yX4_why yX4_why, Cond.code yX4_why cX4_why 3 (some .int), Cond.fieldLink RX4 93 "LandingFines$River" "taken" "I", Cond.fieldLink RX4 96 "LandingFines$Landing" "isOpen" "Z", Cond.fieldLink RX4 100 "LandingFines$Landing" "isShunned" "Z"]
def wsL_act : List Cond := .code yL_act cL_act 11 (some .boolean) :: ((wsL_act_r1 ++ (wsL_act_r2 ++ (wsL_act_r3 ++ (wsL_act_r4 ++ (wsL_act_r5 ++ (wsL_act_r6 ++ (wsL_act_r7 ++ (wsL_act_r8 ++ (wsL_act_r9 ++ wsL_act_r10))))))))) ++ wsX40 ++ wsX20 ++ wsX30 ++ wsX00 ++ wsX10)
def wsL_law_r1 : List Cond := [Cond.classLink RL 10 RX4, Cond.instantiable RX4 7, Cond.initialized RX4, Cond.methodLink RL 73 yX4_init, Cond.instanceMethod yX4_init, Cond.code yX4_init cX4_init 2 none, Cond.methodLink RX4 1 objectInit, Cond.instanceMethod objectInit, Cond.code objectInit ⟨#[0xb1]⟩ 1 none, Cond.classLink RX4 7 RX3, Cond.instantiable RX3 7, Cond.initialized RX3, Cond.fieldLink RX4 10 "LandingFines" "river" "LLandingFines$River;", Cond.fieldLink RX4 16 "LandingFines" "history" "[LLandingFines$River;", Cond.fieldLink RX4 20 "LandingFines" "historySize" "I", Cond.fieldLink RX4 24 "LandingFines" "slots" "[LLandingFines$River;", Cond.arrayClass .boolean, Cond.fieldLink RX4 27 "LandingFines" "slotUsed" "[Z", Cond.classLink RX4 31 RX2, Cond.instantiable RX2 6, Cond.initialized RX2, Cond.fieldLink RX4 34 "LandingFines" "pad" "LLandingFines$Pad;", Cond.classLink RX4 38 RX1, Cond.instantiable RX1 8]
def wsL_law_r2 : List Cond := [Cond.initialized RX1, Cond.fieldLink RX4 41 "LandingFines" "trial" "LLandingFines$Landing;", Cond.methodLink RX4 9 yX3_init, Cond.instanceMethod yX3_init, Cond.code yX3_init cX3_init 2 none, Cond.methodLink RX3 3 objectInit, Cond.methodLink RX3 13 ⟨"[I", "clone", "()Ljava/lang/Object;"⟩, Cond.sameMethod "[I" "java/lang/Object" "clone" "()Ljava/lang/Object;", Cond.native ⟨"java/lang/Object", "clone", "()Ljava/lang/Object;"⟩, Cond.instanceMethod ⟨"java/lang/Object", "clone", "()Ljava/lang/Object;"⟩, Cond.selects "[I" ⟨"[I", "clone", "()Ljava/lang/Object;"⟩ ⟨"java/lang/Object", "clone", "()Ljava/lang/Object;"⟩, Cond.classLink RX3 14 "[I", Cond.fieldLink RX3 18 "LandingFines$River" "settings" "[I", Cond.classLink RX3 23 RX1, Cond.fieldLink RX3 25 "LandingFines$River" "landings" "[LLandingFines$Landing;", Cond.fieldLink RX3 29 "LandingFines$River" "landingCount" "I", Cond.fieldLink RX3 33 "LandingFines$River" "minutesSoFar" "I", Cond.fieldLink RX3 36 "LandingFines$River" "taken" "I", Cond.fieldLink RX3 39 "LandingFines$River" "switches" "I", Cond.classLink RX3 42 RX0, Cond.instantiable RX0 5, Cond.initialized RX0, Cond.fieldLink RX3 45 "LandingFines$River" "journal" "LLandingFines$Journal;", Cond.instanceMethod yX0_init]
def wsL_law_r3 : List Cond := [Cond.code yX0_init cX0_init 1 none, Cond.methodLink RX0 3 objectInit, Cond.arrayClass .int, Cond.fieldLink RX0 9 "LandingFines$Journal" "sorts" "[I", Cond.fieldLink RX0 15 "LandingFines$Journal" "places" "[I", Cond.fieldLink RX0 18 "LandingFines$Journal" "minutes" "[I", Cond.fieldLink RX0 21 "LandingFines$Journal" "size" "I", Cond.fieldLink RX0 25 "LandingFines$Journal" "next" "I", Cond.instanceMethod yX1_init, Cond.code yX1_init cX1_init 1 none, Cond.methodLink RX1 3 objectInit, Cond.instanceMethod yX2_init, Cond.code yX2_init cX2_init 1 none, Cond.methodLink RX2 3 objectInit, Cond.arrayClass .char, Cond.fieldLink RX2 9 "LandingFines$Pad" "signs" "[C", Cond.fieldLink RX2 15 "LandingFines$Pad" "length" "I", Cond.fieldLink RX2 19 "LandingFines$Pad" "place" "I", Cond.fieldLink RX2 22 "LandingFines$Pad" "orderSign" "C", Cond.fieldLink RX2 26 "LandingFines$Pad" "orderLanding" "I", Cond.fieldLink RX2 29 "LandingFines$Pad" "orderNumber" "I", Cond.methodLink RL 74 yL_cell, Cond.static yL_cell, Cond.initialized RL]
def wsL_law_r4 : List Cond := [Cond.code yL_cell cL_cell 2 (some .int), Cond.constant RL 7 (16110029), Cond.methodLink RL 46 yL_low, Cond.static yL_low, Cond.code yL_low cL_low 2 (some .int), Cond.constant RL 8 (2147483647), Cond.methodLink RL 78 yX4_set, Cond.instanceMethod yX4_set, Cond.selects RX4 yX4_set yX4_set, Cond.code yX4_set cX4_set 3 (some .int), Cond.methodLink RX4 45 yX4_keepState, Cond.instanceMethod yX4_keepState, Cond.selects RX4 yX4_keepState yX4_keepState, Cond.code yX4_keepState cX4_keepState 1 none, Cond.methodLink RX4 171 yX3_copyFrom, Cond.instanceMethod yX3_copyFrom, Cond.selects RX3 yX3_copyFrom yX3_copyFrom, Cond.code yX3_copyFrom cX3_copyFrom 3 none, Cond.methodLink RX3 50 arraycopyName, Cond.native arraycopyName, Cond.static arraycopyName, Cond.initialized "java/lang/System", Cond.methodLink RX3 56 yX1_copyFrom, Cond.instanceMethod yX1_copyFrom]
def wsL_law_r5 : List Cond := [Cond.selects RX1 yX1_copyFrom yX1_copyFrom, Cond.code yX1_copyFrom cX1_copyFrom 2 none, Cond.fieldLink RX1 9 "LandingFines$Landing" "isOpen" "Z", Cond.fieldLink RX1 15 "LandingFines$Landing" "fare" "I", Cond.fieldLink RX1 19 "LandingFines$Landing" "fine" "I", Cond.fieldLink RX1 22 "LandingFines$Landing" "isShunned" "Z", Cond.fieldLink RX1 25 "LandingFines$Landing" "minutesShunned" "I", Cond.fieldLink RX1 28 "LandingFines$Landing" "minutesSinceHalving" "I", Cond.fieldLink RX1 31 "LandingFines$Landing" "changes" "I", Cond.fieldLink RX1 34 "LandingFines$Landing" "timesShunned" "I", Cond.methodLink RX3 60 yX0_copyFrom, Cond.instanceMethod yX0_copyFrom, Cond.selects RX0 yX0_copyFrom yX0_copyFrom, Cond.code yX0_copyFrom cX0_copyFrom 2 none, Cond.methodLink RX0 34 arraycopyName, Cond.methodLink RX4 48 yX3_changeSetting, Cond.instanceMethod yX3_changeSetting, Cond.selects RX3 yX3_changeSetting yX3_changeSetting, Cond.code yX3_changeSetting cX3_changeSetting 4 (some .int), Cond.methodLink RX4 52 yX4_recordUnlessError, Cond.instanceMethod yX4_recordUnlessError, Cond.selects RX4 yX4_recordUnlessError yX4_recordUnlessError, Cond.code yX4_recordUnlessError cX4_recordUnlessError 2 (some .int), Cond.methodLink RX4 177 yX4_dropOldest]
def wsL_law_r6 : List Cond := [Cond.instanceMethod yX4_dropOldest, Cond.selects RX4 yX4_dropOldest yX4_dropOldest, Cond.code yX4_dropOldest cX4_dropOldest 3 none, Cond.methodLink RL 49 yX4_landing, Cond.instanceMethod yX4_landing, Cond.selects RX4 yX4_landing yX4_landing, Cond.code yX4_landing cX4_landing 2 (some .int), Cond.methodLink RX4 56 yX3_addLanding, Cond.instanceMethod yX3_addLanding, Cond.selects RX3 yX3_addLanding yX3_addLanding, Cond.code yX3_addLanding cX3_addLanding 2 (some .int), Cond.methodLink RX3 69 yX1_arrive, Cond.instanceMethod yX1_arrive, Cond.selects RX1 yX1_arrive yX1_arrive, Cond.code yX1_arrive cX1_arrive 2 none, Cond.methodLink RX3 73 yX3_followTaken, Cond.instanceMethod yX3_followTaken, Cond.selects RX3 yX3_followTaken yX3_followTaken, Cond.code yX3_followTaken cX3_followTaken 3 none, Cond.fieldLink RX3 88 "LandingFines$Landing" "fare" "I", Cond.methodLink RX3 131 yX1_canBeTaken, Cond.instanceMethod yX1_canBeTaken, Cond.selects RX1 yX1_canBeTaken yX1_canBeTaken, Cond.code yX1_canBeTaken cX1_canBeTaken 1 (some .boolean)]
def wsL_law_r7 : List Cond := [Cond.methodLink RL 81 yL_act, Cond.static yL_act, Cond.code yL_act cL_act 11 (some .boolean), Cond.methodLink RL 42 yL_told, Cond.static yL_told, Cond.code yL_told cL_told 3 (some (.array .int)), Cond.methodLink RL 9 yX4_count, Cond.instanceMethod yX4_count, Cond.selects RX4 yX4_count yX4_count, Cond.code yX4_count cX4_count 2 (some .int), Cond.fieldLink RX4 78 "LandingFines$Pad" "length" "I", Cond.methodLink RX4 81 yX3_tell, Cond.instanceMethod yX3_tell, Cond.selects RX3 yX3_tell yX3_tell, Cond.code yX3_tell cX3_tell 2 (some .int), Cond.fieldLink RX3 145 "LandingFines$Journal" "size" "I", Cond.methodLink RX3 139 yX3_openOnes, Cond.instanceMethod yX3_openOnes, Cond.selects RX3 yX3_openOnes yX3_openOnes, Cond.code yX3_openOnes cX3_openOnes 3 (some .int), Cond.fieldLink RX3 80 "LandingFines$Landing" "isOpen" "Z", Cond.methodLink RX3 142 yX3_shunnedOnes, Cond.instanceMethod yX3_shunnedOnes, Cond.selects RX3 yX3_shunnedOnes yX3_shunnedOnes]
def wsL_law_r8 : List Cond := [Cond.code yX3_shunnedOnes cX3_shunnedOnes 3 (some .int), Cond.fieldLink RX3 148 "LandingFines$Landing" "isShunned" "Z", Cond.methodLink RL 15 yX4_of, Cond.instanceMethod yX4_of, Cond.selects RX4 yX4_of yX4_of, Cond.code yX4_of cX4_of 4 (some .int), Cond.methodLink RX4 71 yX3_find, Cond.instanceMethod yX3_find, Cond.selects RX3 yX3_find yX3_find, Cond.code yX3_find cX3_find 2 (some (.object "LandingFines$Landing")), Cond.methodLink RX4 75 yX1_tell, Cond.instanceMethod yX1_tell, Cond.selects RX1 yX1_tell yX1_tell, Cond.code yX1_tell cX1_tell 2 (some .int), Cond.methodLink RL 52 yX4_close, Cond.instanceMethod yX4_close, Cond.selects RX4 yX4_close yX4_close, Cond.code yX4_close cX4_close 2 (some .int), Cond.methodLink RX4 62 yX3_closeLanding, Cond.instanceMethod yX3_closeLanding, Cond.selects RX3 yX3_closeLanding yX3_closeLanding, Cond.code yX3_closeLanding cX3_closeLanding 3 (some .int), Cond.methodLink RX3 76 yX3_find, Cond.methodLink RX3 84 yX3_finishChange]
def wsL_law_r9 : List Cond := [Cond.instanceMethod yX3_finishChange, Cond.selects RX3 yX3_finishChange yX3_finishChange, Cond.code yX3_finishChange cX3_finishChange 4 (some .int), Cond.fieldLink RX3 99 "LandingFines$Landing" "fine" "I", Cond.methodLink RX3 91 yX0_add, Cond.instanceMethod yX0_add, Cond.selects RX0 yX0_add yX0_add, Cond.code yX0_add cX0_add 4 none, Cond.methodLink RX0 28 Lib.Math.min.name, Cond.static Lib.Math.min.name, Cond.initialized "java/lang/Math", Cond.code Lib.Math.min.name Lib.Math.min.code 2 (some .int), Cond.methodLink RX3 95 yX3_fineBySort, Cond.instanceMethod yX3_fineBySort, Cond.selects RX3 yX3_fineBySort yX3_fineBySort, Cond.code yX3_fineBySort cX3_fineBySort 3 (some .boolean), Cond.methodLink RX3 102 yX1_addFine, Cond.instanceMethod yX1_addFine, Cond.selects RX1 yX1_addFine yX1_addFine, Cond.code yX1_addFine cX1_addFine 3 (some .boolean), Cond.constant RX1 37 (99999), Cond.methodLink RX1 38 Lib.Math.min.name, Cond.methodLink RL 55 yX4_open, Cond.instanceMethod yX4_open]
def wsL_law_r10 : List Cond := [Cond.selects RX4 yX4_open yX4_open, Cond.code yX4_open cX4_open 2 (some .int), Cond.methodLink RX4 59 yX3_openLanding, Cond.instanceMethod yX3_openLanding, Cond.selects RX3 yX3_openLanding yX3_openLanding, Cond.code yX3_openLanding cX3_openLanding 3 (some .int), Cond.methodLink RL 58 yL_changed, Cond.static yL_changed, Cond.code yL_changed cL_changed 13 (some .boolean), Cond.constant RL 34 (99999), Cond.methodLink RL 28 yX4_log, Cond.instanceMethod yX4_log, Cond.selects RX4 yX4_log yX4_log, Cond.code yX4_log cX4_log 3 (some .int), Cond.fieldLink RX4 85 "LandingFines$River" "journal" "LLandingFines$Journal;", Cond.methodLink RX4 89 yX0_tell, Cond.instanceMethod yX0_tell, Cond.selects RX0 yX0_tell yX0_tell, Cond.code yX0_tell cX0_tell 4 (some .int), Cond.methodLink RL 62 yX4_price, Cond.instanceMethod yX4_price, Cond.selects RX4 yX4_price yX4_price, Cond.code yX4_price cX4_price 3 (some .int), Cond.methodLink RX4 65 yX3_changePrice]
def wsL_law_r11 : List Cond := [Cond.instanceMethod yX3_changePrice, Cond.selects RX3 yX3_changePrice yX3_changePrice, Cond.code yX3_changePrice cX3_changePrice 4 (some .int), Cond.methodLink RL 65 yL_passed, Cond.static yL_passed, Cond.code yL_passed cL_passed 6 (some .boolean), Cond.methodLink RL 35 yX4_pass, Cond.instanceMethod yX4_pass, Cond.selects RX4 yX4_pass yX4_pass, Cond.code yX4_pass cX4_pass 2 (some .int), Cond.methodLink RX4 68 yX3_passMinutes, Cond.instanceMethod yX3_passMinutes, Cond.selects RX3 yX3_passMinutes yX3_passMinutes, Cond.code yX3_passMinutes cX3_passMinutes 4 (some .int), Cond.constant RX3 106 (99999), Cond.methodLink RX3 107 yX3_passOneMinute, Cond.instanceMethod yX3_passOneMinute, Cond.selects RX3 yX3_passOneMinute yX3_passOneMinute, Cond.code yX3_passOneMinute cX3_passOneMinute 3 (some .int), Cond.methodLink RX3 111 yX3_passMinuteOf, Cond.instanceMethod yX3_passMinuteOf, Cond.selects RX3 yX3_passMinuteOf yX3_passMinuteOf, Cond.code yX3_passMinuteOf cX3_passMinuteOf 2 (some .boolean), Cond.methodLink RX3 115 yX1_passMinute]
def wsL_law_r12 : List Cond := [Cond.instanceMethod yX1_passMinute, Cond.selects RX1 yX1_passMinute yX1_passMinute, Cond.code yX1_passMinute cX1_passMinute 4 (some .boolean), Cond.methodLink RL 38 yL_aged, Cond.static yL_aged, Cond.code yL_aged cL_aged 9 (some .boolean), Cond.methodLink RL 69 yL_chosen, Cond.static yL_chosen, Cond.code yL_chosen cL_chosen 6 (some .boolean), Cond.methodLink RL 19 yL_taken, Cond.static yL_taken, Cond.code yL_taken cL_taken 4 (some .int), Cond.methodLink RL 25 yX4_choice, Cond.instanceMethod yX4_choice, Cond.selects RX4 yX4_choice yX4_choice, Cond.code yX4_choice cX4_choice 2 (some .int), Cond.methodLink RX4 82 yX3_chosen, Cond.instanceMethod yX3_chosen, Cond.selects RX3 yX3_chosen yX3_chosen, Cond.code yX3_chosen cX3_chosen 3 (some .int), Cond.methodLink RX3 135 yX3_rankOf, Cond.instanceMethod yX3_rankOf, Cond.selects RX3 yX3_rankOf yX3_rankOf, Cond.code yX3_rankOf cX3_rankOf 6 (some .int)]
def wsL_law_r13 : List Cond := [Cond.methodLink RL 31 yX4_why, Cond.instanceMethod yX4_why, Cond.selects RX4 yX4_why yX4_why, Cond.code yX4_why cX4_why 3 (some .int), Cond.fieldLink RX4 93 "LandingFines$River" "taken" "I", Cond.fieldLink RX4 96 "LandingFines$Landing" "isOpen" "Z", Cond.fieldLink RX4 100 "LandingFines$Landing" "isShunned" "Z"]
def wsL_law : List Cond := (wsL_law_r1 ++ (wsL_law_r2 ++ (wsL_law_r3 ++ (wsL_law_r4 ++ (wsL_law_r5 ++ (wsL_law_r6 ++ (wsL_law_r7 ++ (wsL_law_r8 ++ (wsL_law_r9 ++ (wsL_law_r10 ++ (wsL_law_r11 ++ (wsL_law_r12 ++ wsL_law_r13)))))))))))) ++ wsX40 ++ wsX30 ++ wsX20 ++ wsX10 ++ wsX00 ++ ([] : List Cond)
theorem dJ9_min_7cf53_0 : decode cJ9_min_7cf53 0 = .ok (.iload_n 0, 1) := by decide +kernel
theorem dJ9_min_7cf53_1 : decode cJ9_min_7cf53 1 = .ok (.iload_n 1, 1) := by decide +kernel
theorem dJ9_min_7cf53_2 : decode cJ9_min_7cf53 2 = .ok (.if_icmp .gt 7, 3) := by decide +kernel
theorem dJ9_min_7cf53_5 : decode cJ9_min_7cf53 5 = .ok (.iload_n 0, 1) := by decide +kernel
theorem dJ9_min_7cf53_6 : decode cJ9_min_7cf53 6 = .ok (.goto 4, 3) := by decide +kernel
theorem dJ9_min_7cf53_9 : decode cJ9_min_7cf53 9 = .ok (.iload_n 1, 1) := by decide +kernel
theorem dJ9_min_7cf53_10 : decode cJ9_min_7cf53 10 = .ok (.ireturn, 1) := by decide +kernel
abbrev vwCl : List vw_C := [(RX0, TX0, 5), (RX1, TX1, 8), (RX2, TX2, 6), (RX3, TX3, 7), (RX4, TX4, 7)]
end
section
/-! THE MEMORY: the cells of the object lie at b, b + 1 .. b + 156; cell k holds in slot j the int x k j; what is a reference is fixed by the kind of the cell -/
abbrev mm_M : Type := Nat → Nat → Int32
def mm_up (x : mm_M) (k j : Nat) (v : Int32) : mm_M := fun a => if a = k then upd (x a) j v else x a
def mm_cy (x : mm_M) (k0 k1 sp dp n : Nat) : mm_M := fun a => if a = k1 then va_cpy (x k0) (x a) sp dp n else x a
theorem mm_up_same (x : mm_M) (k j : Nat) (v : Int32) : mm_up x k j v k = upd (x k) j v := if_pos rfl
theorem mm_up_ne {x : mm_M} {k j a : Nat} {v : Int32} (h : a ≠ k) : mm_up x k j v a = x a := if_neg h
theorem mm_cy_same (x : mm_M) (k0 k1 sp dp n : Nat) : mm_cy x k0 k1 sp dp n k1 = va_cpy (x k0) (x k1) sp dp n := if_pos rfl
theorem mm_cy_ne {x : mm_M} {k0 k1 sp dp n a : Nat} (h : a ≠ k1) : mm_cy x k0 k1 sp dp n a = x a := if_neg h
/-- the kinds: 0 to 5 the objects (as the classes are numbered), 6 int[], 7 char[], 8 boolean[], 9 Landing[], 10 the history, 11 the slots -/
def mm_kR (o : Nat) : Nat := if o = 0 then 3 else if o = 1 then 6 else if o = 2 then 9 else if o = 3 then 0 else if o < 7 then 6 else 1
def mm_kd (k : Nat) : Nat :=
  if k = 0 then 4 else if k < 16 then mm_kR (k - 1) else if k = 16 then 10 else if k = 17 then 11 else if k = 18 then 8 else if k = 19 then 2 else if k = 20 then 7 else if k = 21 then 1
  else if k < 157 then mm_kR ((k - 22) % 15) else 99
def mm_ln (k : Nat) : Nat :=
  if k < 16 then (if k = 2 then 7 else 20) else if k = 18 then 2 else if k = 20 then 80 else if k < 157 then (if (k - 22) % 15 = 1 then 7 else 20) else 8
def mm_ent (T : Nat → ClassId) (b : Nat) (x : mm_M) (k : Nat) : va_E :=
  if mm_kd k = 0 then .inr (0, [.ref (b + (k + 1)), .ref (b + (k + 2)), .ref (b + (k + 3)), .int (x k 3), .int (x k 4)])
  else if mm_kd k = 1 then .inr (1, [.int (x k 0), .int (x k 1), .int (x k 2), .int (x k 3), .int (x k 4), .int (x k 5), .int (x k 6), .int (x k 7)])
  else if mm_kd k = 2 then .inr (2, [.ref (b + (k + 1)), .int (x k 1), .int (x k 2), .int (x k 3), .int (x k 4), .int (x k 5)])
  else if mm_kd k = 3 then .inr (3, [.ref (b + (k + 1)), .ref (b + (k + 2)), .int (x k 2), .int (x k 3), .int (x k 4), .int (x k 5), .ref (b + (k + 3))])
  else if mm_kd k = 4 then .inr (4, [.ref (b + 1), .ref (b + 16), .int (x k 2), .ref (b + 17), .ref (b + 18), .ref (b + 19), .ref (b + 21)])
  else if mm_kd k = 7 then .inl (T 1, mm_ln k, .inl (x k))
  else if mm_kd k = 8 then .inl (T 2, mm_ln k, .inl (x k))
  else if mm_kd k = 9 then .inl (T 3, 8, .inr (.inr (.inr (.inr (fun j => some (b + (k + 5 + j)))))))
  else if mm_kd k = 10 then .inl (T 4, 7, .inr (.inr (.inr (.inr (fun j => some (b + (x k j).toNatClampNeg))))))
  else if mm_kd k = 11 then .inl (T 4, 2, .inr (.inr (.inr (.inr (fun j => some (b + (127 + 15 * j)))))))
  else .inl (T 0, mm_ln k, .inl (x k))
section MME
variable {T : Nat → ClassId} {b : Nat} {x x1 : mm_M} {k : Nat}
theorem mm_e0 (h : mm_kd k = 0) : mm_ent T b x k = .inr (0, [.ref (b + (k + 1)), .ref (b + (k + 2)), .ref (b + (k + 3)), .int (x k 3), .int (x k 4)]) := by simp [mm_ent, h]
theorem mm_e1 (h : mm_kd k = 1) : mm_ent T b x k = .inr (1, [.int (x k 0), .int (x k 1), .int (x k 2), .int (x k 3), .int (x k 4), .int (x k 5), .int (x k 6), .int (x k 7)]) := by simp [mm_ent, h]
theorem mm_e2 (h : mm_kd k = 2) : mm_ent T b x k = .inr (2, [.ref (b + (k + 1)), .int (x k 1), .int (x k 2), .int (x k 3), .int (x k 4), .int (x k 5)]) := by simp [mm_ent, h]
theorem mm_e3 (h : mm_kd k = 3) : mm_ent T b x k = .inr (3, [.ref (b + (k + 1)), .ref (b + (k + 2)), .int (x k 2), .int (x k 3), .int (x k 4), .int (x k 5), .ref (b + (k + 3))]) := by simp [mm_ent, h]
theorem mm_e4 (h : mm_kd k = 4) : mm_ent T b x k = .inr (4, [.ref (b + 1), .ref (b + 16), .int (x k 2), .ref (b + 17), .ref (b + 18), .ref (b + 19), .ref (b + 21)]) := by simp [mm_ent, h]
theorem mm_e6 (h : mm_kd k = 6) : mm_ent T b x k = .inl (T 0, mm_ln k, .inl (x k)) := by simp [mm_ent, h]
theorem mm_e7 (h : mm_kd k = 7) : mm_ent T b x k = .inl (T 1, mm_ln k, .inl (x k)) := by simp [mm_ent, h]
theorem mm_e8 (h : mm_kd k = 8) : mm_ent T b x k = .inl (T 2, mm_ln k, .inl (x k)) := by simp [mm_ent, h]
theorem mm_e9 (h : mm_kd k = 9) : mm_ent T b x k = .inl (T 3, 8, .inr (.inr (.inr (.inr (fun j => some (b + (k + 5 + j))))))) := by simp [mm_ent, h]
theorem mm_e10 (h : mm_kd k = 10) : mm_ent T b x k = .inl (T 4, 7, .inr (.inr (.inr (.inr (fun j => some (b + (x k j).toNatClampNeg)))))) := by simp [mm_ent, h]
theorem mm_e11 (h : mm_kd k = 11) : mm_ent T b x k = .inl (T 4, 2, .inr (.inr (.inr (.inr (fun j => some (b + (127 + 15 * j))))))) := by simp [mm_ent, h]
theorem mm_ec (h : x1 k = x k) : mm_ent T b x1 k = mm_ent T b x k := by simp only [mm_ent, h]
theorem mm_lt {c : Nat} (h : mm_kd k = c) (hc : c < 99) : k < 157 := by
  rcases Nat.lt_or_ge k 157 with q | q
  · exact q
  · unfold mm_kd at h
    repeat rw [if_neg (by omega)] at h
    omega
/-- the cells of a river, by the river's own -/
theorem mm_riv (h : mm_kd k = 3) : k = 1 ∨ ∃ i, i < 9 ∧ k = 22 + 15 * i := by
  have hk := mm_lt h (by decide)
  have key : ∀ k, k < 157 → mm_kd k = 3 → k = 1 ∨ ∃ i, i < 9 ∧ k = 22 + 15 * i := by decide +kernel
  exact key k hk h
theorem mm_rv1 (h : mm_kd k = 3) : mm_kd (k + 1) = 6 ∧ mm_ln (k + 1) = 7 := by
  have key : ∀ k, k < 157 → mm_kd k = 3 → mm_kd (k + 1) = 6 ∧ mm_ln (k + 1) = 7 := by decide +kernel
  exact key k (mm_lt h (by decide)) h
theorem mm_rv2 (h : mm_kd k = 3) : mm_kd (k + 2) = 9 := by
  have key : ∀ k, k < 157 → mm_kd k = 3 → mm_kd (k + 2) = 9 := by decide +kernel
  exact key k (mm_lt h (by decide)) h
theorem mm_rv3 (h : mm_kd k = 3) : mm_kd (k + 3) = 0 := by
  have key : ∀ k, k < 157 → mm_kd k = 3 → mm_kd (k + 3) = 0 := by decide +kernel
  exact key k (mm_lt h (by decide)) h
theorem mm_jn1 (h : mm_kd k = 0) : mm_kd (k + 1) = 6 ∧ mm_ln (k + 1) = 20 := by
  have key : ∀ k, k < 157 → mm_kd k = 0 → mm_kd (k + 1) = 6 ∧ mm_ln (k + 1) = 20 := by decide +kernel
  exact key k (mm_lt h (by decide)) h
theorem mm_jn2 (h : mm_kd k = 0) : mm_kd (k + 2) = 6 ∧ mm_ln (k + 2) = 20 := by
  have key : ∀ k, k < 157 → mm_kd k = 0 → mm_kd (k + 2) = 6 ∧ mm_ln (k + 2) = 20 := by decide +kernel
  exact key k (mm_lt h (by decide)) h
theorem mm_jn3 (h : mm_kd k = 0) : mm_kd (k + 3) = 6 ∧ mm_ln (k + 3) = 20 := by
  have key : ∀ k, k < 157 → mm_kd k = 0 → mm_kd (k + 3) = 6 ∧ mm_ln (k + 3) = 20 := by decide +kernel
  exact key k (mm_lt h (by decide)) h
end MME
def mm_w (T : Nat → ClassId) (b : Nat) (x : mm_M) : va_W := (List.range 157).map fun k => (b + k, mm_ent T b x k)
theorem mm_wat {T : Nat → ClassId} {b : Nat} {x : mm_M} {k : Nat} (hk : k < 157) : (mm_w T b x)[k]? = some (b + k, mm_ent T b x k) := by
  simp [mm_w, hk]
theorem mm_wat' {T : Nat → ClassId} {b : Nat} {x : mm_M} {k : Nat} {q : Nat × va_E} (h : (mm_w T b x)[k]? = some q) : k < 157 ∧ q = (b + k, mm_ent T b x k) := by
  have hl := (List.getElem?_eq_some_iff.mp h).1
  have hk : k < 157 := by simpa [mm_w] using hl
  rw [mm_wat hk] at h
  exact ⟨hk, (Option.some.inj h).symm⟩
/-- the object's own addresses -/
def mm_A (b : Nat) : Nat → Prop := fun q => b ≤ q ∧ q < b + 157
theorem mm_wD (T : Nat → ClassId) (b : Nat) (x : mm_M) : va_D (mm_A b) (mm_w T b x) := by
  refine ⟨fun i j p q hi hj h => ?_, fun k q hk => ?_⟩
  · obtain ⟨-, rfl⟩ := mm_wat' hi
    obtain ⟨-, rfl⟩ := mm_wat' hj
    have h' : b + i = b + j := h
    omega
  · obtain ⟨hk5, rfl⟩ := mm_wat' hk
    exact ⟨Nat.le_add_right _ _, Nat.add_lt_add_left hk5 _⟩
theorem mm_wset {T : Nat → ClassId} {b : Nat} {x x1 : mm_M} {k : Nat} {e : va_E} (hk : k < 157) (he : e = mm_ent T b x1 k) (ho : ∀ a, a ≠ k → x1 a = x a) : (mm_w T b x).set k (b + k, e) = mm_w T b x1 := by
  apply List.ext_getElem?
  intro i
  by_cases hi : i < 157
  · by_cases hik : i = k
    · subst hik
      rw [List.getElem?_set_self (by simpa [mm_w] using hi), mm_wat hi, he]
    · rw [List.getElem?_set_ne (fun q => hik q.symm), mm_wat hi, mm_wat hi, mm_ec (ho i hik)]
  · rw [List.getElem?_eq_none (by simp [mm_w]; omega), List.getElem?_eq_none (by simp [mm_w]; omega)]
def mm_T (T : Nat → ClassId) : List (ClassId × FieldType) := [(T 0, .int), (T 1, .char), (T 2, .boolean), (T 3, .object RX1), (T 4, .object RX3)]
/-- the three static rows of LandingFines: what they hold -/
def mm_st : Nat → Nat → Int32 := fun i j => (([[0, 0, 0, 1, 1, 1, 1], [9999, 9999, 9999, 99, 99999, 99999, 999], [1000, 0, 500, 15, 2000, 750, 60]] : List (List Int32)).getD i []).getD j 0
def mm_sn : Nat → String := fun i => match i with
  | 0 => "LEAST_SETTING"
  | 1 => "MOST_SETTING"
  | _ => "FIRST_SETTING"
def mm_Z (b : Nat) (z : Nat → Nat) (U : State) (H : Heap) : Prop := ∀ i, i < 3 → va_Z RX4 (mm_sn i) "[I" (.ref (z i)) (fun q => b ≤ q) U H ∧ va_T .int (z i) 7 (fun j => .int (mm_st i j)) (fun q => b ≤ q) U H
theorem mm_Z.moved {b : Nat} {z : Nat → Nat} {u U : State} {H : Heap} (hvm : u.vm.Alike U.vm) (h : mm_Z b z u H) : mm_Z b z U H := fun i hi => ⟨(h i hi).1.moved hvm, (h i hi).2.moved hvm⟩
theorem mm_Z.kept {b : Nat} {z : Nat → Nat} {U : State} {H H1 : Heap} (h : mm_Z b z U H) (hq : ∀ a : Nat, a < H.size → ¬ b ≤ a → H1[a]? = H[a]?) : mm_Z b z U H1 := fun i hi => ⟨(h i hi).1.kept hq, (h i hi).2.kept hq⟩
def mm_si : Nat → Nat := fun i => match i with
  | 0 => 63
  | 1 => 66
  | _ => 9
def mm_N (U : State) : Prop := ∀ i, i < 3 → va_Nw (.fieldLinkNest RX3 (mm_si i) RX4 (mm_sn i) "[I" RX4) U
/-- what stands through a method's walk -/
def mm_C (p : Program) (m : MethodId) (c : Code) (cc : ByteArray) (nL : Nat) (s : State) (args : Array Value) (Ts : List Cond) (own : String) (G : va_G) (T : Nat → ClassId) (b : Nat) (z : Nat → Nat) : Prop :=
  p.tables.exec = Jvm.exec ∧ c.code = cc ∧ c.maxLocals = nL ∧ s.vm.findClass own = some m.cls ∧ (∀ w ∈ Ts, w.before args s = true) ∧ va_K G vwCl (mm_T T) s ∧ mm_Z b z s s.heap ∧ mm_N s
/-- what the heap holds now -/
def mm_H (G : va_G) (T : Nat → ClassId) (b : Nat) (x : mm_M) (s : State) (H : Heap) (locs : List Loc) : Prop := va_P G vwCl (mm_w T b x) H ∧ va_S (mm_A b) s.heap H locs
/-- a method's start -/
def mm_B (G : va_G) (T : Nat → ClassId) (b : Nat) (z : Nat → Nat) (x : mm_M) (U : State) : Prop := va_P G vwCl (mm_w T b x) U.heap ∧ va_K G vwCl (mm_T T) U ∧ mm_Z b z U U.heap ∧ mm_N U
def mm_Qi (G : va_G) (T : Nat → ClassId) (b : Nat) (r : Int32) (x1 : mm_M) : Array Value → State → Outcome → State → Prop := va_Qi (fun (r' : Int32) (_ : Unit) => r' = r) (fun _ t => va_P G vwCl (mm_w T b x1) t.heap) (mm_A b)
def mm_Qv (G : va_G) (T : Nat → ClassId) (b : Nat) (x1 : mm_M) : Array Value → State → Outcome → State → Prop := va_Qv (fun (_ : Unit) => True) (fun _ t => va_P G vwCl (mm_w T b x1) t.heap) (mm_A b)
def mm_Qe (G : va_G) (T : Nat → ClassId) (b : Nat) (r : Option Nat) (x1 : mm_M) : Array Value → State → Outcome → State → Prop := va_Qe (fun k => b + k) (fun (r' : Option Nat) (_ : Unit) => r' = r) (fun _ t => va_P G vwCl (mm_w T b x1) t.heap) (mm_A b)
/-- the contracts: an int, nothing, a cell or null -/
def mm_Ci (l : Launch) (y : MethodName) (ws : List Cond) (rm : Room) (G : va_G) (T : Nat → ClassId) (b : Nat) (z : Nat → Nat) (av : List Value) (x : mm_M) (r : Int32) (x1 : mm_M) : Prop := Met l y ws rm (va_Pc av (mm_B G T b z x)) (mm_Qi G T b r x1) 0 0 (mm_A b)
def mm_Cv (l : Launch) (y : MethodName) (ws : List Cond) (rm : Room) (G : va_G) (T : Nat → ClassId) (b : Nat) (z : Nat → Nat) (av : List Value) (x : mm_M) (x1 : mm_M) : Prop := Met l y ws rm (va_Pc av (mm_B G T b z x)) (mm_Qv G T b x1) 0 0 (mm_A b)
def mm_Ce (l : Launch) (y : MethodName) (ws : List Cond) (rm : Room) (G : va_G) (T : Nat → ClassId) (b : Nat) (z : Nat → Nat) (av : List Value) (x : mm_M) (r : Option Nat) (x1 : mm_M) : Prop := Met l y ws rm (va_Pc av (mm_B G T b z x)) (mm_Qe G T b r x1) 0 0 (mm_A b)
theorem mm_B.blind {G : va_G} {T : Nat → ClassId} {b : Nat} {z : Nat → Nat} {x : mm_M} {av : List Value} : FrameBlind (va_Pc av (mm_B G T b z x)) := by
  intro a U g mk q
  obtain ⟨q0, qP, qK, qZ, qN⟩ := q
  exact ⟨q0, qP, va_K.moved (u := U) (U := U.calling g mk a) (Vm.Alike.refl U.vm) qK, mm_Z.moved (u := U) (U := U.calling g mk a) (Vm.Alike.refl U.vm) qZ, fun i hi => va_Nw.same (u := U) (U := U.calling g mk a) rfl rfl (qN i hi)⟩
theorem mm_bnd {α β : Type} {o : Option α} {f : α → Option β} {r : β} (h : o.bind f = some r) : ∃ a, o = some a ∧ f a = some r := by
  cases o with
  | none => cases h
  | some a => exact ⟨a, rfl, h⟩
theorem mm_pos {α : Type} {c : Prop} {i : Decidable c} {a b : Option α} {r : Option α} (hc : c) (h : (if c then a else b) = r) : a = r := by rwa [if_pos hc] at h
theorem mm_neg {α : Type} {c : Prop} {i : Decidable c} {a b : Option α} {r : Option α} (hc : ¬ c) (h : (if c then a else b) = r) : b = r := by rwa [if_neg hc] at h
/-- a guard: what it guards is so -/
theorem mm_grd {α : Type} {c : Prop} {i : Decidable c} {a : Option α} {r : α} (h : (if c then a else none) = some r) : c ∧ a = some r := by
  by_cases hc : c
  · rw [if_pos hc] at h; exact ⟨hc, h⟩
  · rw [if_neg hc] at h; cases h
theorem mm_grn {α : Type} {c : Prop} {i : Decidable c} {a : Option α} {r : α} (h : (if c then none else a) = some r) : ¬ c ∧ a = some r := by
  by_cases hc : c
  · rw [if_pos hc] at h; cases h
  · rw [if_neg hc] at h; exact ⟨hc, h⟩
section MMW
variable {p : Program} {l : Launch} {e : Env} {R : Room} {s : State} {m : MethodId} {args : Array Value} {below : List Frame} {meth : Method} {c : Code} {H : Heap} {locs : List Loc} {cells slots : Nat} {Q : State → Prop}
variable {cc : ByteArray} {pc nL : Nat} {ls : Array Slot} {rest : List Value} {Ts : List Cond} {own : String} {G : va_G} {T : Nat → ClassId} {b : Nat} {z : Nat → Nat} {x x1 : mm_M} {k : Nat}
theorem mm_get {Cn : String} {Tn : u_T} {N ci j index : Nat} {fs : List Value} {v : Value} {nm ds : String} (C : mm_C p m c cc nL s args Ts own G T b z) (hH : mm_H G T b x s H locs) (hin : ∀ w ∈ u_ws Cn Tn N, w ∈ Ts) (hc : vwCl[ci]? = some (Cn, Tn, N)) (hk : k < 157) (he : mm_ent T b x k = .inr (ci, fs)) (hj : j < N) (hT : Tn j = (Cn, nm, ds, (Tn j).2.2.2))
    (hlink : (Cond.fieldLink own index Cn nm ds).before args s = true) (hv : fs[j]? = some v) (hdg : decode cc pc = .ok (.getfield index, 3))
    (kk : W p l e R s m args below meth c H locs cells slots Q (F0 m (pc + 3) ls (v :: rest))) : W p l e R s m args below meth c H locs cells slots Q (F0 m pc ls (.ref (b + k) :: rest)) := by
  obtain ⟨hx, hb, -, hown, hts, hK, -⟩ := C
  have h1 : (Tn j).1 = Cn := by rw [hT]
  have h2 : (Tn j).2.1 = nm := by rw [hT]
  have h3 : (Tn j).2.2.1 = ds := by rw [hT]
  exact va_get hx hb hts hin hown hK hH.1 k (ref := Cn) ((mm_wat hk).trans (by rw [he])) hc j hj (by rw [h2, h3]; exact hlink) (fun y hy => by rw [h1] at hy; exact hy) hv hdg kk
theorem mm_put {Cn : String} {Tn : u_T} {N ci j index : Nat} {fs : List Value} {v : Int32} {nm ds : String} {ty : FieldType} {ty0 : Nat → FieldType} (C : mm_C p m c cc nL s args Ts own G T b z) (hH : mm_H G T b x s H locs) (hin : ∀ w ∈ u_ws Cn Tn N, w ∈ Ts) (hty : ∀ k, k < N → parseFieldDescriptor (Tn k).2.2.1 = some (ty0 k)) (hnm : ∀ a, a < N → ∀ b, b < N → a ≠ b → (Tn a).2.1 ≠ (Tn b).2.1) (hc : vwCl[ci]? = some (Cn, Tn, N)) (hk : k < 157) (he : mm_ent T b x k = .inr (ci, fs)) (hj : j < N) (hT : Tn j = (Cn, nm, ds, false))
    (hlink : (Cond.fieldLink own index Cn nm ds).before args s = true) (hd : parseFieldDescriptor ds = some ty) (hn : narrow ty (.int v) = .int v) (hfit : fits ty (.int v) = true) (hl : j < fs.length) (hse : (.inr (ci, fs.set j (.int v)) : va_E) = mm_ent T b (mm_up x k j v) k) (hx1 : mm_up x k j v = x1) (hdg : decode cc pc = .ok (.putfield index, 3))
    (kk : ∀ (H1 : Heap) (locs1 : List Loc), mm_H G T b x1 s H1 locs1 → W p l e R s m args below meth c H1 locs1 cells slots Q (F0 m (pc + 3) ls rest)) : W p l e R s m args below meth c H locs cells slots Q (F0 m pc ls (.int v :: .ref (b + k) :: rest)) := by
  obtain ⟨hx, hb, -, hown, hts, hK, -⟩ := C
  have h1 : (Tn j).1 = Cn := by rw [hT]
  have h2 : (Tn j).2.1 = nm := by rw [hT]
  have h3 : (Tn j).2.2.1 = ds := by rw [hT]
  have h4 : (Tn j).2.2.2 = false := by rw [hT]
  refine va_put hx hb hts hin ty0 hty hnm hown hK hH.1 (mm_wD T b x) hH.2 k (ref := Cn) ((mm_wat hk).trans (by rw [he])) hc j hj (by rw [h2, h3]; exact hlink) (fun y hy => by rw [h1] at hy; exact hy) h4 (by rw [h3]; exact hd) hn hfit hl hdg (fun H1 locs1 hP _ hS => kk H1 locs1 ⟨?_, hS⟩)
  subst hx1
  rwa [mm_wset hk hse (fun a ha => mm_up_ne ha)] at hP
theorem mm_iald {n jn : Nat} {i : Int32} (C : mm_C p m c cc nL s args Ts own G T b z) (hH : mm_H G T b x s H locs) (hk : mm_kd k = 6) (hln : mm_ln k = n) (hin : ¬ (i < 0 ∨ n ≤ i.toNatClampNeg)) (hj : i.toNatClampNeg = jn) (hdg : decode cc pc = .ok (.iaload, 1))
    (kk : W p l e R s m args below meth c H locs cells slots Q (F0 m (pc + 1) ls (.int (x k jn) :: rest))) : W p l e R s m args below meth c H locs cells slots Q (F0 m pc ls (.int i :: .ref (b + k) :: rest)) := by
  subst hj
  exact va_iald C.1 C.2.1 C.2.2.2.2.2.1 hH.1 k 0 ((mm_wat (mm_lt hk (by decide))).trans (by rw [mm_e6 hk])) rfl (by rw [hln]; exact hin) hdg kk
theorem mm_bald {n jn : Nat} {i : Int32} (C : mm_C p m c cc nL s args Ts own G T b z) (hH : mm_H G T b x s H locs) (hk : mm_kd k = 8) (hln : mm_ln k = n) (hin : ¬ (i < 0 ∨ n ≤ i.toNatClampNeg)) (hj : i.toNatClampNeg = jn) (hdg : decode cc pc = .ok (.baload, 1))
    (kk : W p l e R s m args below meth c H locs cells slots Q (F0 m (pc + 1) ls (.int (x k jn) :: rest))) : W p l e R s m args below meth c H locs cells slots Q (F0 m pc ls (.int i :: .ref (b + k) :: rest)) := by
  subst hj
  exact va_zald C.1 C.2.1 C.2.2.2.2.2.1 hH.1 k 2 ((mm_wat (mm_lt hk (by decide))).trans (by rw [mm_e8 hk])) rfl (by rw [hln]; exact hin) hdg kk
theorem mm_cald {n jn : Nat} {i : Int32} (C : mm_C p m c cc nL s args Ts own G T b z) (hH : mm_H G T b x s H locs) (hk : mm_kd k = 7) (hln : mm_ln k = n) (hin : ¬ (i < 0 ∨ n ≤ i.toNatClampNeg)) (hj : i.toNatClampNeg = jn) (hdg : decode cc pc = .ok (.caload, 1))
    (kk : W p l e R s m args below meth c H locs cells slots Q (F0 m (pc + 1) ls (.int (x k jn) :: rest))) : W p l e R s m args below meth c H locs cells slots Q (F0 m pc ls (.int i :: .ref (b + k) :: rest)) := by
  subst hj
  exact va_cald C.1 C.2.1 C.2.2.2.2.2.1 hH.1 k 1 ((mm_wat (mm_lt hk (by decide))).trans (by rw [mm_e7 hk])) rfl (by rw [hln]; exact hin) hdg kk
theorem mm_iast {n : Nat} {i v : Int32} {jn : Nat} (C : mm_C p m c cc nL s args Ts own G T b z) (hH : mm_H G T b x s H locs) (hk : mm_kd k = 6) (hln : mm_ln k = n) (hin : ¬ (i < 0 ∨ n ≤ i.toNatClampNeg)) (hj : i.toNatClampNeg = jn) (hx1 : mm_up x k jn v = x1) (hdg : decode cc pc = .ok (.iastore, 1))
    (kk : ∀ (H1 : Heap) (locs1 : List Loc), mm_H G T b x1 s H1 locs1 → W p l e R s m args below meth c H1 locs1 cells slots Q (F0 m (pc + 1) ls rest)) : W p l e R s m args below meth c H locs cells slots Q (F0 m pc ls (.int v :: .int i :: .ref (b + k) :: rest)) := by
  have hk5 := mm_lt hk (by decide)
  refine va_iast C.1 C.2.1 C.2.2.2.2.2.1 hH.1 (mm_wD T b x) hH.2 k 0 ((mm_wat hk5).trans (by rw [mm_e6 hk])) rfl (by rw [hln]; exact hin) hdg (fun H1 locs1 hP _ hS => kk H1 locs1 ⟨?_, hS⟩)
  subst hx1; subst hj
  rwa [mm_wset hk5 (by rw [mm_e6 hk, mm_up_same]) (fun a ha => mm_up_ne ha)] at hP
theorem mm_cast {n : Nat} {i v : Int32} {jn : Nat} (C : mm_C p m c cc nL s args Ts own G T b z) (hH : mm_H G T b x s H locs) (hk : mm_kd k = 7) (hln : mm_ln k = n) (hin : ¬ (i < 0 ∨ n ≤ i.toNatClampNeg)) (hj : i.toNatClampNeg = jn) (hx1 : mm_up x k jn (vp_nar .char v) = x1) (hdg : decode cc pc = .ok (.castore, 1))
    (kk : ∀ (H1 : Heap) (locs1 : List Loc), mm_H G T b x1 s H1 locs1 → W p l e R s m args below meth c H1 locs1 cells slots Q (F0 m (pc + 1) ls rest)) : W p l e R s m args below meth c H locs cells slots Q (F0 m pc ls (.int v :: .int i :: .ref (b + k) :: rest)) := by
  have hk5 := mm_lt hk (by decide)
  refine va_cast C.1 C.2.1 C.2.2.2.2.2.1 hH.1 (mm_wD T b x) hH.2 k 1 ((mm_wat hk5).trans (by rw [mm_e7 hk])) rfl (by rw [hln]; exact hin) hdg (fun H1 locs1 hP _ hS => kk H1 locs1 ⟨?_, hS⟩)
  subst hx1; subst hj
  rwa [mm_wset hk5 (by rw [mm_e7 hk, mm_up_same]) (fun a ha => mm_up_ne ha)] at hP
theorem mm_bast {n : Nat} {i v : Int32} {jn : Nat} (C : mm_C p m c cc nL s args Ts own G T b z) (hH : mm_H G T b x s H locs) (hk : mm_kd k = 8) (hln : mm_ln k = n) (hin : ¬ (i < 0 ∨ n ≤ i.toNatClampNeg)) (hv : vp_nar .boolean v = v) (hj : i.toNatClampNeg = jn) (hx1 : mm_up x k jn v = x1) (hdg : decode cc pc = .ok (.bastore, 1))
    (kk : ∀ (H1 : Heap) (locs1 : List Loc), mm_H G T b x1 s H1 locs1 → W p l e R s m args below meth c H1 locs1 cells slots Q (F0 m (pc + 1) ls rest)) : W p l e R s m args below meth c H locs cells slots Q (F0 m pc ls (.int v :: .int i :: .ref (b + k) :: rest)) := by
  have hk5 := mm_lt hk (by decide)
  refine va_zast C.1 C.2.1 C.2.2.2.2.2.1 hH.1 (mm_wD T b x) hH.2 k 2 ((mm_wat hk5).trans (by rw [mm_e8 hk])) rfl (by rw [hln]; exact hin) hdg (fun H1 locs1 hP _ hS => kk H1 locs1 ⟨?_, hS⟩)
  subst hx1; subst hj
  rw [hv] at hP
  rwa [mm_wset hk5 (by rw [mm_e8 hk, mm_up_same]) (fun a ha => mm_up_ne ha)] at hP
theorem mm_alen {cA : ClassId} {y : vp_A} {ty : FieldType} {v : Int32} (C : mm_C p m c cc nL s args Ts own G T b z) (hH : mm_H G T b x s H locs) (hk : k < 157) (he : mm_ent T b x k = .inl (cA, y)) (t0 : Nat) (ht : (mm_T T)[t0]? = some (cA, ty)) (hv : Int32.ofNat y.1 = v) (hdg : decode cc pc = .ok (.arraylength, 1))
    (kk : W p l e R s m args below meth c H locs cells slots Q (F0 m (pc + 1) ls (.int v :: rest))) : W p l e R s m args below meth c H locs cells slots Q (F0 m pc ls (.ref (b + k) :: rest)) :=
  va_alen C.1 C.2.1 C.2.2.2.2.2.1 hH.1 k t0 ((mm_wat hk).trans (by rw [he])) ht hv hdg kk
theorem mm_ald9 {i : Int32} (C : mm_C p m c cc nL s args Ts own G T b z) (hH : mm_H G T b x s H locs) (hk : mm_kd k = 9) (hin : ¬ (i < 0 ∨ 8 ≤ i.toNatClampNeg)) (hdg : decode cc pc = .ok (.aaload, 1))
    (kk : W p l e R s m args below meth c H locs cells slots Q (F0 m (pc + 1) ls (.ref (b + (k + 5 + i.toNatClampNeg)) :: rest))) : W p l e R s m args below meth c H locs cells slots Q (F0 m pc ls (.int i :: .ref (b + k) :: rest)) :=
  va_aldq C.1 C.2.1 C.2.2.2.2.2.1 hH.1 k 3 (f := fun j => some (b + (k + 5 + j))) ((mm_wat (mm_lt hk (by decide))).trans (by rw [mm_e9 hk])) rfl hin hdg kk
theorem mm_ald10 {i : Int32} (C : mm_C p m c cc nL s args Ts own G T b z) (hH : mm_H G T b x s H locs) (hk : mm_kd k = 10) (hin : ¬ (i < 0 ∨ 7 ≤ i.toNatClampNeg)) (hdg : decode cc pc = .ok (.aaload, 1))
    (kk : W p l e R s m args below meth c H locs cells slots Q (F0 m (pc + 1) ls (.ref (b + (x k i.toNatClampNeg).toNatClampNeg) :: rest))) : W p l e R s m args below meth c H locs cells slots Q (F0 m pc ls (.int i :: .ref (b + k) :: rest)) :=
  va_aldq C.1 C.2.1 C.2.2.2.2.2.1 hH.1 k 4 (f := fun j => some (b + (x k j).toNatClampNeg)) ((mm_wat (mm_lt hk (by decide))).trans (by rw [mm_e10 hk])) rfl hin hdg kk
theorem mm_ald11 {i : Int32} (C : mm_C p m c cc nL s args Ts own G T b z) (hH : mm_H G T b x s H locs) (hk : mm_kd k = 11) (hin : ¬ (i < 0 ∨ 2 ≤ i.toNatClampNeg)) (hdg : decode cc pc = .ok (.aaload, 1))
    (kk : W p l e R s m args below meth c H locs cells slots Q (F0 m (pc + 1) ls (.ref (b + (127 + 15 * i.toNatClampNeg)) :: rest))) : W p l e R s m args below meth c H locs cells slots Q (F0 m pc ls (.int i :: .ref (b + k) :: rest)) :=
  va_aldq C.1 C.2.1 C.2.2.2.2.2.1 hH.1 k 4 (f := fun j => some (b + (127 + 15 * j))) ((mm_wat (mm_lt hk (by decide))).trans (by rw [mm_e11 hk])) rfl hin hdg kk
theorem mm_nIk {k : Nat} (h : k < 157) : (nI k).toNatClampNeg = k := nI_clamp (by omega)
theorem mm_ast10 {i : Int32} {q : Nat} (C : mm_C p m c cc nL s args Ts own G T b z) (hH : mm_H G T b x s H locs) (hk : mm_kd k = 10) (hq : mm_kd q = 3) (hin : ¬ (i < 0 ∨ 7 ≤ i.toNatClampNeg)) (hx1 : mm_up x k i.toNatClampNeg (nI q) = x1) (hdg : decode cc pc = .ok (.aastore, 1))
    (kk : ∀ (H1 : Heap) (locs1 : List Loc), mm_H G T b x1 s H1 locs1 → W p l e R s m args below meth c H1 locs1 cells slots Q (F0 m (pc + 1) ls rest)) : W p l e R s m args below meth c H locs cells slots Q (F0 m pc ls (.ref (b + q) :: .int i :: .ref (b + k) :: rest)) := by
  have hk5 := mm_lt hk (by decide)
  have hq5 := mm_lt hq (by decide)
  refine va_astq C.1 C.2.1 C.2.2.2.2.2.1 hH.1 (mm_wD T b x) hH.2 k 4 q 3 (r := (RX3, TX3, 7)) ((mm_wat hk5).trans (by rw [mm_e10 hk])) rfl ((mm_wat hq5).trans (by rw [mm_e3 hq])) rfl hin hdg (fun H1 locs1 hP _ hS => kk H1 locs1 ⟨?_, hS⟩)
  subst hx1
  refine (mm_wset hk5 ?_ (fun a ha => mm_up_ne ha)) ▸ hP
  rw [mm_e10 hk, mm_up_same]
  refine congrArg (fun f => (Sum.inl (T 4, 7, .inr (.inr (.inr (.inr f)))) : va_E)) (funext fun j => ?_)
  unfold va_up upd
  by_cases hj : j = i.toNatClampNeg
  · rw [if_pos hj, if_pos hj, mm_nIk hq5]
  · rw [if_neg hj, if_neg hj]
theorem mm_copy {k0 n0 n1 index : Nat} {sp dp n : Int32} (C : mm_C p m c cc nL s args Ts own G T b z) (hls : nL = ls.size) (hH : mm_H G T b x s H locs) (hk0 : mm_kd k0 = 6) (hk : mm_kd k = 6) (hn0 : mm_ln k0 = n0) (hn1 : mm_ln k = n1) (hlink : (Cond.methodLink own index arraycopyName).before args s = true) (hnat : (Cond.native arraycopyName).before args s = true) (hstat : (Cond.static arraycopyName).before args s = true) (hini : (Cond.initialized "java/lang/System").before args s = true)
    (h1 : ¬ sp < 0) (h2 : ¬ dp < 0) (h3 : ¬ n < 0) (h4 : sp.toNatClampNeg + n.toNatClampNeg ≤ n0) (h5 : dp.toNatClampNeg + n.toNatClampNeg ≤ n1)
    (hframes : 1 ≤ R.frames) (hlocals : (rest.map fun v => v.category).sum + (nativeFrameWords "java/lang/System" "arraycopy" 5 + 11) ≤ R.locals) (hx1 : mm_cy x k0 k sp.toNatClampNeg dp.toNatClampNeg n.toNatClampNeg = x1) (hdg : decode cc pc = .ok (.invokestatic index, 3))
    (kk : ∀ (H1 : Heap) (locs1 : List Loc), mm_H G T b x1 s H1 locs1 → W p l e R s m args below meth c H1 locs1 cells slots Q (F0 m (pc + 3) ls rest)) : W p l e R s m args below meth c H locs cells slots Q (F0 m pc ls (.int n :: .int dp :: .ref (b + k) :: .int sp :: .ref (b + k0) :: rest)) := by
  have hk5 := mm_lt hk (by decide)
  have hk05 := mm_lt hk0 (by decide)
  refine va_copyi C.1 C.2.1 (C.2.2.1.trans hls) C.2.2.2.1 hlink hnat hstat hini C.2.2.2.2.2.1 hH.1 (mm_wD T b x) hH.2 k0 k 0 0 ((mm_wat hk05).trans (by rw [mm_e6 hk0])) ((mm_wat hk5).trans (by rw [mm_e6 hk])) rfl rfl rfl h1 h2 h3 (by rw [hn0]; exact h4) (by rw [hn1]; exact h5) (fun _ _ => rfl) hframes hlocals hdg (fun H1 locs1 hP _ hS => kk H1 locs1 ⟨?_, hS⟩)
  subst hx1
  rwa [mm_wset hk5 (by rw [mm_e6 hk, mm_cy_same]) (fun a ha => mm_cy_ne ha)] at hP
theorem mm_minv {index : Nat} {u v : Int32} (C : mm_C p m c cc nL s args Ts own G T b z) (hls : nL = ls.size) (hlink : (Cond.methodLink own index Lib.Math.min.name).before args s = true) (hstat : (Cond.static Lib.Math.min.name).before args s = true) (hini : (Cond.initialized "java/lang/Math").before args s = true) (hcode : (Cond.code Lib.Math.min.name Lib.Math.min.code 2 (some .int)).before args s = true)
    (hframes : 1 ≤ R.frames) (hlocals : (rest.map fun v => v.category).sum + 13 ≤ R.locals) (hc : cells ≤ R.cells) (hs : slots ≤ R.slots) (hdg : decode cc pc = .ok (.invokestatic index, 3))
    (kk : W p l e R s m args below meth c H locs cells slots Q (F0 m (pc + 3) ls (.int (if v < u then v else u) :: rest))) : W p l e R s m args below meth c H locs cells slots Q (F0 m pc ls (.int v :: .int u :: rest)) :=
  va_mmin C.1 C.2.1 (C.2.2.1.trans hls) C.2.2.2.1 hlink hstat hini hcode hframes hlocals hc hs hdg kk
theorem mm_maxv {index : Nat} {u v : Int32} (C : mm_C p m c cc nL s args Ts own G T b z) (hls : nL = ls.size) (hlink : (Cond.methodLink own index Lib.Math.max.name).before args s = true) (hstat : (Cond.static Lib.Math.max.name).before args s = true) (hini : (Cond.initialized "java/lang/Math").before args s = true) (hcode : (Cond.code Lib.Math.max.name Lib.Math.max.code 2 (some .int)).before args s = true)
    (hframes : 1 ≤ R.frames) (hlocals : (rest.map fun v => v.category).sum + 13 ≤ R.locals) (hc : cells ≤ R.cells) (hs : slots ≤ R.slots) (hdg : decode cc pc = .ok (.invokestatic index, 3))
    (kk : W p l e R s m args below meth c H locs cells slots Q (F0 m (pc + 3) ls (.int (if u < v then v else u) :: rest))) : W p l e R s m args below meth c H locs cells slots Q (F0 m pc ls (.int v :: .int u :: rest)) :=
  va_mmax C.1 C.2.1 (C.2.2.1.trans hls) C.2.2.2.1 hlink hstat hini hcode hframes hlocals hc hs hdg kk
/-- a call's start: the cells as they are -/
theorem mm_pre (C : mm_C p m c cc nL s args Ts own G T b z) (hH : mm_H G T b x s H locs) {As : List Value} : ∀ U : State, U.heap = H → s.WarmedH U.vm → va_Pc As (mm_B G T b z x) As.toArray U := by
  intro U hU hW
  refine ⟨rfl, by rw [hU]; exact hH.1, va_K.moved hW.alike C.2.2.2.2.2.1, ?_, fun i hi => va_Nw.warmF hW (C.2.2.2.2.2.2.2 i hi)⟩
  have h1 : mm_Z b z U s.heap := mm_Z.moved hW.alike C.2.2.2.2.2.2.1
  exact h1.kept (fun a ha hb => by rw [hU]; exact hH.2.2.1 a ha (fun h => hb h.1))
theorem mm_gets {i index : Nat} (C : mm_C p m c cc nL s args Ts own G T b z) (ho : own = RX3) (hH : mm_H G T b x s H locs) (hi : i < 3) (hidx : mm_si i = index) (hdg : decode cc pc = .ok (.getstatic index, 3))
    (kk : W p l e R s m args below meth c H locs cells slots Q (F0 m (pc + 3) ls (.ref (z i) :: rest))) : W p l e R s m args below meth c H locs cells slots Q (F0 m pc ls rest) := by
  subst ho; subst hidx
  exact va_getsN C.1 C.2.1 ((C.2.2.2.2.2.2.1 i hi).1.narrow (fun _ h => h.1)) hH.2 C.2.2.2.1 (va_Nw.use rfl (C.2.2.2.2.2.2.2 i hi)) (fun _ h => h) hdg kk
theorem mm_sld {i : Nat} {j : Int32} (C : mm_C p m c cc nL s args Ts own G T b z) (hH : mm_H G T b x s H locs) (hi : i < 3) (hin : ¬ (j < 0 ∨ 7 ≤ j.toNatClampNeg)) (hdg : decode cc pc = .ok (.iaload, 1))
    (kk : W p l e R s m args below meth c H locs cells slots Q (F0 m (pc + 1) ls (.int (mm_st i j.toNatClampNeg) :: rest))) : W p l e R s m args below meth c H locs cells slots Q (F0 m pc ls (.int j :: .ref (z i) :: rest)) :=
  va_ti C.1 C.2.1 ((C.2.2.2.2.2.2.1 i hi).2.narrow (fun _ h => h.1)) hH.2 hin rfl hdg kk
theorem mm_recv {ci : Nat} {fs : List Value} {q : vw_C} (C : mm_C p m c cc nL s args Ts own G T b z) (hH : mm_H G T b x s H locs) (hk : k < 157) (he : mm_ent T b x k = .inr (ci, fs)) (hc : vwCl[ci]? = some q) : ∃ cell : Cell, H[b + k]? = some cell ∧ cell.vm.isStatics = false ∧ s.vm.findClass q.1 = some cell.cls :=
  va_recv C.2.2.2.2.2.1 hH.1 (q0 := k) hc ((mm_wat hk).trans (by rw [he]))
variable {y : MethodName} {ws : List Cond} {rm : Room} {bytes : ByteArray} {maxL n index : Nat} {ret : Option FieldType} {As st0 : List Value} {a : Array Value} {r : Int32}
theorem mm_goi (hH : mm_H G T b x s H locs) (hr : va_Run p l e R s m args below meth c H locs cells slots 0 0 (F0 m pc ls st0) rest (mm_Qi G T b r x1 a) (mm_A b))
    (kk : ∀ (H1 : Heap) (locs1 : List Loc), mm_H G T b x1 s H1 locs1 → W p l e R s m args below meth c H1 locs1 cells slots Q (F0 m (pc + 3) ls (.int r :: rest))) : W p l e R s m args below meth c H locs cells slots Q (F0 m pc ls st0) := by
  refine va_calli hr hH.2 (fun q _ h => h) (fun q h => h) (fun r' u t H1 locs1 ht _ hp hB _ _ hS => ?_)
  have hp : r' = r := hp
  subst hp; subst ht
  exact kk t.heap locs1 ⟨hB, hS⟩
theorem mm_gov (hH : mm_H G T b x s H locs) (hr : va_Run p l e R s m args below meth c H locs cells slots 0 0 (F0 m pc ls st0) rest (mm_Qv G T b x1 a) (mm_A b))
    (kk : ∀ (H1 : Heap) (locs1 : List Loc), mm_H G T b x1 s H1 locs1 → W p l e R s m args below meth c H1 locs1 cells slots Q (F0 m (pc + 3) ls rest)) : W p l e R s m args below meth c H locs cells slots Q (F0 m pc ls st0) := by
  refine va_callv hr hH.2 (fun q _ h => h) (fun q h => h) (fun u t H1 locs1 ht _ _ hB _ _ hS => ?_)
  subst ht
  exact kk t.heap locs1 ⟨hB, hS⟩
theorem mm_goe {r : Option Nat} (hH : mm_H G T b x s H locs) (hr : va_Run p l e R s m args below meth c H locs cells slots 0 0 (F0 m pc ls st0) rest (mm_Qe G T b r x1 a) (mm_A b))
    (kk : ∀ (H1 : Heap) (locs1 : List Loc), mm_H G T b x1 s H1 locs1 → W p l e R s m args below meth c H1 locs1 cells slots Q (F0 m (pc + 3) ls (va_re (fun k => b + k) r :: rest))) : W p l e R s m args below meth c H locs cells slots Q (F0 m pc ls st0) := by
  refine va_calle hr hH.2 (fun q _ h => h) (fun q h => h) (fun r' u t H1 locs1 ht _ hp hB _ _ hS => ?_)
  have hp : r' = r := hp
  subst hp; subst ht
  exact kk t.heap locs1 ⟨hB, hS⟩
theorem mm_iret {rt : FieldType} {v : Int32} {av : Array Value} (C : mm_C p m c cc nL s av Ts own G T b z) (hH : mm_H G T b x s H locs) (hr : meth.sig.returnType = some rt) (hlk : meth.locks = false) (hn : narrow rt (.int v) = .int v) (h : (some (x, v) : Option (mm_M × Int32)) = some (x1, r)) (hdg : decode cc pc = .ok (.ireturn, 1)) :
    W p l e R s m av below meth c H locs cells slots (MQ below (mm_Qi G T b r x1) av s cells slots (mm_A b)) (F0 m pc ls [.int v]) := by
  have e := Option.some.inj h
  have e1 : x = x1 := congrArg Prod.fst e
  have e2 : v = r := congrArg Prod.snd e
  subst e1; subst e2
  exact W.zret C.1 C.2.1 hr hn (fun t ht _ => ⟨⟨v, (), rfl, rfl, by subst ht; exact hH.1⟩, hH.2.F ht⟩) hH.2.2.2 hdg hlk
theorem mm_vret {av : Array Value} (C : mm_C p m c cc nL s av Ts own G T b z) (hH : mm_H G T b x s H locs) (hr : meth.sig.returnType = none) (hlk : meth.locks = false) (h : (some x : Option mm_M) = some x1) (hdg : decode cc pc = .ok (.return_, 1)) :
    W p l e R s m av below meth c H locs cells slots (MQ below (mm_Qv G T b x1) av s cells slots (mm_A b)) (F0 m pc ls []) := by
  have e1 := Option.some.inj h
  subst e1
  exact W.vret C.1 C.2.1 hr (fun t ht _ => ⟨⟨(), rfl, trivial, by subst ht; exact hH.1⟩, hH.2.F ht⟩) hH.2.2.2 hdg hlk
theorem mm_eret {rt : FieldType} {o : Option Nat} {r : Option Nat} {v : Value} {av : Array Value} (C : mm_C p m c cc nL s av Ts own G T b z) (hH : mm_H G T b x s H locs) (hr : meth.sig.returnType = some rt) (hrt : (∃ n, rt = .object n) ∨ ∃ t, rt = .array t) (hlk : meth.locks = false) (hv : v = va_re (fun k => b + k) o) (h : (some (x, o) : Option (mm_M × Option Nat)) = some (x1, r)) (hdg : decode cc pc = .ok (.areturn, 1)) :
    W p l e R s m av below meth c H locs cells slots (MQ below (mm_Qe G T b r x1) av s cells slots (mm_A b)) (F0 m pc ls [v]) := by
  have e := Option.some.inj h
  have e1 : x = x1 := congrArg Prod.fst e
  have e2 : o = r := congrArg Prod.snd e
  subst e1; subst e2; subst hv
  exact W.aret C.1 C.2.1 hr hrt (va_re_or _ _) (fun t ht _ => ⟨⟨o, (), rfl, rfl, by subst ht; exact hH.1⟩, hH.2.F ht⟩) hH.2.2.2 hdg hlk
end MMW
section MMS
variable {l : Launch} {y : MethodName} {ws ws' : List Cond} {rm : Room} {cc : ByteArray} {maxL : Nat} {rt : FieldType} {av : List Value} {x x1 : mm_M} {G : va_G} {T : Nat → ClassId} {b : Nat} {z : Nat → Nat}
theorem mm_start {ret : Option FieldType} {Qc : Array Value → State → Outcome → State → Prop} (hy : plainName y.cls = true) (hw : ws = .code y cc maxL ret :: ws') (hav : (lg_sl av).length ≤ maxL)
    (body : ∀ (p : Program) (e : Env) (s : State) (m : MethodId) (below : List Frame) (meth : Method) (c : Code) (ls : Array Slot), mm_C p m c cc maxL s av.toArray ws y.cls G T b z → meth.sig.returnType = ret → meth.locks = false → mm_H G T b x s s.heap [] → lv_has ls maxL (lv_args 0 av) → W p l e rm s m av.toArray below meth c s.heap [] 0 0 (MQ below Qc av.toArray s 0 0 (mm_A b)) (F0 m 0 ls [])) :
    Met l y ws rm (va_Pc av (mm_B G T b z x)) Qc 0 0 (mm_A b) := by
  refine Met.ofW (cc := cc) (maxL := maxL) (ret := ret) hy hw ?_
  intro p e s m args below meth c s₁ B hml hv
  obtain ⟨rfl, hP, hK, hZ, hN⟩ := hv
  have hts := atoms_spec (ws := ws) B.pre
  have hown : s.vm.findClass y.cls = some m.cls := findClass_of_methodNamed B.named
  rw [lg_entry_eq]
  exact body p e s m below meth c _ ⟨B.exec, B.bytes, hml, hown, hts, hK, hZ, hN⟩ B.returns B.notSynchronized ⟨hP, va_S.rf⟩ (lv_entry av hav)
end MMS
end
section
theorem kd_0 : mm_kd 0 = 4 := by decide
theorem kl_0 : 0 < 157 := by decide
theorem kd_1 : mm_kd 1 = 3 := by decide
theorem kl_1 : 1 < 157 := by decide
theorem kd_2 : mm_kd 2 = 6 := by decide
theorem kl_2 : 2 < 157 := by decide
theorem kd_3 : mm_kd 3 = 9 := by decide
theorem kl_3 : 3 < 157 := by decide
theorem kd_4 : mm_kd 4 = 0 := by decide
theorem kl_4 : 4 < 157 := by decide
theorem kd_5 : mm_kd 5 = 6 := by decide
theorem kl_5 : 5 < 157 := by decide
theorem kd_6 : mm_kd 6 = 6 := by decide
theorem kl_6 : 6 < 157 := by decide
theorem kd_7 : mm_kd 7 = 6 := by decide
theorem kl_7 : 7 < 157 := by decide
theorem kd_16 : mm_kd 16 = 10 := by decide
theorem kl_16 : 16 < 157 := by decide
theorem kd_17 : mm_kd 17 = 11 := by decide
theorem kl_17 : 17 < 157 := by decide
theorem kd_18 : mm_kd 18 = 8 := by decide
theorem kl_18 : 18 < 157 := by decide
theorem kd_19 : mm_kd 19 = 2 := by decide
theorem kl_19 : 19 < 157 := by decide
theorem kd_20 : mm_kd 20 = 7 := by decide
theorem kl_20 : 20 < 157 := by decide
theorem kd_21 : mm_kd 21 = 1 := by decide
theorem kl_21 : 21 < 157 := by decide
theorem ln_18 : mm_ln 18 = 2 := by decide
theorem ln_20 : mm_ln 20 = 80 := by decide
theorem ln_2 : mm_ln 2 = 7 := by decide
theorem ln_5 : mm_ln 5 = 20 := by decide
theorem ln_6 : mm_ln 6 = 20 := by decide
theorem ln_7 : mm_ln 7 = 20 := by decide
theorem pd_I : parseFieldDescriptor "I" = some .int := by decide +kernel
theorem pd_Z : parseFieldDescriptor "Z" = some .boolean := by decide +kernel
theorem pd_C : parseFieldDescriptor "C" = some .char := by decide +kernel
theorem sp_0_3 {T : Nat → ClassId} {b : Nat} {x : mm_M} {k : Nat} {v : Int32} (h : mm_kd k = 0) : (.inr (0, ([.ref (b + (k + 1)), .ref (b + (k + 2)), .ref (b + (k + 3)), .int (x k 3), .int (x k 4)] : List Value).set 3 (.int v)) : va_E) = mm_ent T b (mm_up x k 3 v) k := by rw [mm_e0 h, mm_up_same]; rfl
theorem sp_0_4 {T : Nat → ClassId} {b : Nat} {x : mm_M} {k : Nat} {v : Int32} (h : mm_kd k = 0) : (.inr (0, ([.ref (b + (k + 1)), .ref (b + (k + 2)), .ref (b + (k + 3)), .int (x k 3), .int (x k 4)] : List Value).set 4 (.int v)) : va_E) = mm_ent T b (mm_up x k 4 v) k := by rw [mm_e0 h, mm_up_same]; rfl
theorem sp_1_0 {T : Nat → ClassId} {b : Nat} {x : mm_M} {k : Nat} {v : Int32} (h : mm_kd k = 1) : (.inr (1, ([.int (x k 0), .int (x k 1), .int (x k 2), .int (x k 3), .int (x k 4), .int (x k 5), .int (x k 6), .int (x k 7)] : List Value).set 0 (.int v)) : va_E) = mm_ent T b (mm_up x k 0 v) k := by rw [mm_e1 h, mm_up_same]; rfl
theorem sp_1_1 {T : Nat → ClassId} {b : Nat} {x : mm_M} {k : Nat} {v : Int32} (h : mm_kd k = 1) : (.inr (1, ([.int (x k 0), .int (x k 1), .int (x k 2), .int (x k 3), .int (x k 4), .int (x k 5), .int (x k 6), .int (x k 7)] : List Value).set 1 (.int v)) : va_E) = mm_ent T b (mm_up x k 1 v) k := by rw [mm_e1 h, mm_up_same]; rfl
theorem sp_1_2 {T : Nat → ClassId} {b : Nat} {x : mm_M} {k : Nat} {v : Int32} (h : mm_kd k = 1) : (.inr (1, ([.int (x k 0), .int (x k 1), .int (x k 2), .int (x k 3), .int (x k 4), .int (x k 5), .int (x k 6), .int (x k 7)] : List Value).set 2 (.int v)) : va_E) = mm_ent T b (mm_up x k 2 v) k := by rw [mm_e1 h, mm_up_same]; rfl
theorem sp_1_3 {T : Nat → ClassId} {b : Nat} {x : mm_M} {k : Nat} {v : Int32} (h : mm_kd k = 1) : (.inr (1, ([.int (x k 0), .int (x k 1), .int (x k 2), .int (x k 3), .int (x k 4), .int (x k 5), .int (x k 6), .int (x k 7)] : List Value).set 3 (.int v)) : va_E) = mm_ent T b (mm_up x k 3 v) k := by rw [mm_e1 h, mm_up_same]; rfl
theorem sp_1_4 {T : Nat → ClassId} {b : Nat} {x : mm_M} {k : Nat} {v : Int32} (h : mm_kd k = 1) : (.inr (1, ([.int (x k 0), .int (x k 1), .int (x k 2), .int (x k 3), .int (x k 4), .int (x k 5), .int (x k 6), .int (x k 7)] : List Value).set 4 (.int v)) : va_E) = mm_ent T b (mm_up x k 4 v) k := by rw [mm_e1 h, mm_up_same]; rfl
theorem sp_1_5 {T : Nat → ClassId} {b : Nat} {x : mm_M} {k : Nat} {v : Int32} (h : mm_kd k = 1) : (.inr (1, ([.int (x k 0), .int (x k 1), .int (x k 2), .int (x k 3), .int (x k 4), .int (x k 5), .int (x k 6), .int (x k 7)] : List Value).set 5 (.int v)) : va_E) = mm_ent T b (mm_up x k 5 v) k := by rw [mm_e1 h, mm_up_same]; rfl
theorem sp_1_6 {T : Nat → ClassId} {b : Nat} {x : mm_M} {k : Nat} {v : Int32} (h : mm_kd k = 1) : (.inr (1, ([.int (x k 0), .int (x k 1), .int (x k 2), .int (x k 3), .int (x k 4), .int (x k 5), .int (x k 6), .int (x k 7)] : List Value).set 6 (.int v)) : va_E) = mm_ent T b (mm_up x k 6 v) k := by rw [mm_e1 h, mm_up_same]; rfl
theorem sp_1_7 {T : Nat → ClassId} {b : Nat} {x : mm_M} {k : Nat} {v : Int32} (h : mm_kd k = 1) : (.inr (1, ([.int (x k 0), .int (x k 1), .int (x k 2), .int (x k 3), .int (x k 4), .int (x k 5), .int (x k 6), .int (x k 7)] : List Value).set 7 (.int v)) : va_E) = mm_ent T b (mm_up x k 7 v) k := by rw [mm_e1 h, mm_up_same]; rfl
theorem sp_2_1 {T : Nat → ClassId} {b : Nat} {x : mm_M} {k : Nat} {v : Int32} (h : mm_kd k = 2) : (.inr (2, ([.ref (b + (k + 1)), .int (x k 1), .int (x k 2), .int (x k 3), .int (x k 4), .int (x k 5)] : List Value).set 1 (.int v)) : va_E) = mm_ent T b (mm_up x k 1 v) k := by rw [mm_e2 h, mm_up_same]; rfl
theorem sp_2_2 {T : Nat → ClassId} {b : Nat} {x : mm_M} {k : Nat} {v : Int32} (h : mm_kd k = 2) : (.inr (2, ([.ref (b + (k + 1)), .int (x k 1), .int (x k 2), .int (x k 3), .int (x k 4), .int (x k 5)] : List Value).set 2 (.int v)) : va_E) = mm_ent T b (mm_up x k 2 v) k := by rw [mm_e2 h, mm_up_same]; rfl
theorem sp_2_3 {T : Nat → ClassId} {b : Nat} {x : mm_M} {k : Nat} {v : Int32} (h : mm_kd k = 2) : (.inr (2, ([.ref (b + (k + 1)), .int (x k 1), .int (x k 2), .int (x k 3), .int (x k 4), .int (x k 5)] : List Value).set 3 (.int v)) : va_E) = mm_ent T b (mm_up x k 3 v) k := by rw [mm_e2 h, mm_up_same]; rfl
theorem sp_2_4 {T : Nat → ClassId} {b : Nat} {x : mm_M} {k : Nat} {v : Int32} (h : mm_kd k = 2) : (.inr (2, ([.ref (b + (k + 1)), .int (x k 1), .int (x k 2), .int (x k 3), .int (x k 4), .int (x k 5)] : List Value).set 4 (.int v)) : va_E) = mm_ent T b (mm_up x k 4 v) k := by rw [mm_e2 h, mm_up_same]; rfl
theorem sp_2_5 {T : Nat → ClassId} {b : Nat} {x : mm_M} {k : Nat} {v : Int32} (h : mm_kd k = 2) : (.inr (2, ([.ref (b + (k + 1)), .int (x k 1), .int (x k 2), .int (x k 3), .int (x k 4), .int (x k 5)] : List Value).set 5 (.int v)) : va_E) = mm_ent T b (mm_up x k 5 v) k := by rw [mm_e2 h, mm_up_same]; rfl
theorem sp_3_2 {T : Nat → ClassId} {b : Nat} {x : mm_M} {k : Nat} {v : Int32} (h : mm_kd k = 3) : (.inr (3, ([.ref (b + (k + 1)), .ref (b + (k + 2)), .int (x k 2), .int (x k 3), .int (x k 4), .int (x k 5), .ref (b + (k + 3))] : List Value).set 2 (.int v)) : va_E) = mm_ent T b (mm_up x k 2 v) k := by rw [mm_e3 h, mm_up_same]; rfl
theorem sp_3_3 {T : Nat → ClassId} {b : Nat} {x : mm_M} {k : Nat} {v : Int32} (h : mm_kd k = 3) : (.inr (3, ([.ref (b + (k + 1)), .ref (b + (k + 2)), .int (x k 2), .int (x k 3), .int (x k 4), .int (x k 5), .ref (b + (k + 3))] : List Value).set 3 (.int v)) : va_E) = mm_ent T b (mm_up x k 3 v) k := by rw [mm_e3 h, mm_up_same]; rfl
theorem sp_3_4 {T : Nat → ClassId} {b : Nat} {x : mm_M} {k : Nat} {v : Int32} (h : mm_kd k = 3) : (.inr (3, ([.ref (b + (k + 1)), .ref (b + (k + 2)), .int (x k 2), .int (x k 3), .int (x k 4), .int (x k 5), .ref (b + (k + 3))] : List Value).set 4 (.int v)) : va_E) = mm_ent T b (mm_up x k 4 v) k := by rw [mm_e3 h, mm_up_same]; rfl
theorem sp_3_5 {T : Nat → ClassId} {b : Nat} {x : mm_M} {k : Nat} {v : Int32} (h : mm_kd k = 3) : (.inr (3, ([.ref (b + (k + 1)), .ref (b + (k + 2)), .int (x k 2), .int (x k 3), .int (x k 4), .int (x k 5), .ref (b + (k + 3))] : List Value).set 5 (.int v)) : va_E) = mm_ent T b (mm_up x k 5 v) k := by rw [mm_e3 h, mm_up_same]; rfl
theorem sp_4_2 {T : Nat → ClassId} {b : Nat} {x : mm_M} {k : Nat} {v : Int32} (h : mm_kd k = 4) : (.inr (4, ([.ref (b + 1), .ref (b + 16), .int (x k 2), .ref (b + 17), .ref (b + 18), .ref (b + 19), .ref (b + 21)] : List Value).set 2 (.int v)) : va_E) = mm_ent T b (mm_up x k 2 v) k := by rw [mm_e4 h, mm_up_same]; rfl
def mm_b2 {α β γ : Type} (o : Option (α × β)) (f : α → β → Option γ) : Option γ := o.bind fun q => f q.1 q.2
def mm_b3 {α β γ δ : Type} (o : Option (α × β × γ)) (f : α → β → γ → Option δ) : Option δ := o.bind fun q => f q.1 q.2.1 q.2.2
theorem mm_bnd2 {α β γ : Type} {o : Option (α × β)} {f : α → β → Option γ} {r : γ} (h : mm_b2 o f = some r) : ∃ a c, o = some (a, c) ∧ f a c = some r := by
  obtain ⟨⟨a, c⟩, e, h⟩ := mm_bnd h
  exact ⟨a, c, e, h⟩
theorem mm_bnd3 {α β γ δ : Type} {o : Option (α × β × γ)} {f : α → β → γ → Option δ} {r : δ} (h : mm_b3 o f = some r) : ∃ a c d, o = some (a, c, d) ∧ f a c d = some r := by
  obtain ⟨⟨a, c, d⟩, e, h⟩ := mm_bnd h
  exact ⟨a, c, d, e, h⟩
/-- a cell or null -/
def mm_oc {α : Type} (o : Option Nat) (t : Option α) (f : Nat → Option α) : Option α := match o with
  | none => t
  | some k => f k
theorem mm_oc0 {α : Type} {t : Option α} {f : Nat → Option α} {r : Option α} (h : mm_oc none t f = r) : t = r := h
theorem mm_oc1 {α : Type} {k : Nat} {t : Option α} {f : Nat → Option α} {r : Option α} (h : mm_oc (some k) t f = r) : f k = r := h
theorem mm_narZ {v : Int32} (h : vp_nar .boolean v = v) : narrow .boolean (.int v) = .int v := by
  have e : narrow .boolean (.int v) = .int (vp_nar .boolean v) := rfl
  rw [e, h]
theorem mm_narC {v : Int32} (h : vp_nar .char v = v) : narrow .char (.int v) = .int v := by
  have e : narrow .char (.int v) = .int (vp_nar .char v) := rfl
  rw [e, h]
theorem mm_fitZ {v : Int32} (h : vp_nar .boolean v = v) : fits .boolean (.int v) = true := by
  have e := fits_narrow_boolean v
  rwa [mm_narZ h] at e
theorem mm_fitC {v : Int32} (h : vp_nar .char v = v) : fits .char (.int v) = true := by
  have e := fits_narrow_char v
  rwa [mm_narC h] at e
theorem mm_tn {v k : Int32} {a : Int} (h : ¬ v = k) (hk : k.toInt = a) : v.toInt ≠ a := fun q => h (Int32.toInt_inj.mp (q.trans hk.symm))
theorem mm_lt8 {i : Int32} (h : ¬ (i < 0 ∨ 8 ≤ i.toNatClampNeg)) : i.toNatClampNeg < 8 := Nat.lt_of_not_le fun q => h (Or.inr q)
theorem mm_ldc {i : Int32} (h : ¬ (i < 0 ∨ 8 ≤ i.toNatClampNeg)) : mm_kd (3 + 5 + i.toNatClampNeg) = 1 := by
  have key : ∀ j, j < 8 → mm_kd (3 + 5 + j) = 1 := by decide
  exact key _ (mm_lt8 h)
theorem mm_ldr {k : Nat} {i : Int32} (hk : mm_kd k = 3) (h : ¬ (i < 0 ∨ 8 ≤ i.toNatClampNeg)) : mm_kd ((k + 2) + 5 + i.toNatClampNeg) = 1 := by
  have key : ∀ k, k < 157 → mm_kd k = 3 → ∀ j, j < 8 → mm_kd (k + 2 + 5 + j) = 1 := by decide +kernel
  exact key k (mm_lt hk (by decide)) hk _ (mm_lt8 h)
theorem mm_lds {i : Int32} (h : ¬ (i < 0 ∨ 2 ≤ i.toNatClampNeg)) : mm_kd (127 + 15 * i.toNatClampNeg) = 3 := by
  have key : ∀ j, j < 2 → mm_kd (127 + 15 * j) = 3 := by decide
  exact key _ (Nat.lt_of_not_le fun q => h (Or.inr q))
section MMX
variable {p : Program} {l : Launch} {e : Env} {R : Room} {s : State} {m : MethodId} {args : Array Value} {below : List Frame} {meth : Method} {c : Code} {H : Heap} {locs : List Loc} {cells slots : Nat} {Q : State → Prop}
variable {cc : ByteArray} {pc nL : Nat} {ls : Array Slot} {rest : List Value} {Ts : List Cond} {own : String} {G : va_G} {T : Nat → ClassId} {b : Nat} {z : Nat → Nat} {x x1 : mm_M} {k : Nat}
theorem mm_nmi {t v : Int32} (h : (some t : Option Int32) = some v) (kk : W p l e R s m args below meth c H locs cells slots Q (F0 m pc ls (.int v :: rest))) : W p l e R s m args below meth c H locs cells slots Q (F0 m pc ls (.int t :: rest)) := by cases h; exact kk
theorem mm_nml {t v : Int64} (h : (some t : Option Int64) = some v) (kk : W p l e R s m args below meth c H locs cells slots Q (F0 m pc ls (.long v :: rest))) : W p l e R s m args below meth c H locs cells slots Q (F0 m pc ls (.long t :: rest)) := by cases h; exact kk
theorem mm_tabD {dflt lo hi : Int} {offs : Array Int} {len : Nat} {v : Int32} {tgt : Nat} (hexec : p.tables.exec = Jvm.exec) (hb : c.code = cc) (hdg : decode cc pc = .ok (.tableswitch dflt lo hi offs, len)) (ho : ¬ v.toInt < lo → ¬ hi < v.toInt → offs[(v.toInt - lo).toNat]? = some dflt) (ht : (pc : Int) + dflt = (tgt : Int))
    (kk : W p l e R s m args below meth c H locs cells slots Q (F0 m tgt ls rest)) : W p l e R s m args below meth c H locs cells slots Q (F0 m pc ls (.int v :: rest)) := by
  by_cases h1 : v.toInt < lo
  · exact lv_tableOut hexec hb hdg (Or.inl h1) ht kk
  · by_cases h2 : hi < v.toInt
    · exact lv_tableOut hexec hb hdg (Or.inr h2) ht kk
    · exact lv_tableIn hexec hb hdg h1 h2 (ho h1 h2) ht kk
theorem mm_nul (kk : W p l e R s m args below meth c H locs cells slots Q (F0 m pc ls (.null :: rest))) : W p l e R s m args below meth c H locs cells slots Q (F0 m pc ls (va_re (fun k => b + k) none :: rest)) := kk
theorem mm_nun (kk : W p l e R s m args below meth c H locs cells slots Q (F0 m pc ls (.ref (b + k) :: rest))) : W p l e R s m args below meth c H locs cells slots Q (F0 m pc ls (va_re (fun k => b + k) (some k) :: rest)) := kk
theorem mm_iretP {rt : FieldType} {v r : Int32} {av : Array Value} (C : mm_C p m c cc nL s av Ts own G T b z) (hH : mm_H G T b x s H locs) (hr : meth.sig.returnType = some rt) (hlk : meth.locks = false) (hn : narrow rt (.int v) = .int v) (h : (some v : Option Int32) = some r) (hdg : decode cc pc = .ok (.ireturn, 1)) :
    W p l e R s m av below meth c H locs cells slots (MQ below (mm_Qi G T b r x) av s cells slots (mm_A b)) (F0 m pc ls [.int v]) := mm_iret C hH hr hlk hn (by cases h; rfl) hdg
theorem mm_eretP {rt : FieldType} {o r : Option Nat} {v : Value} {av : Array Value} (C : mm_C p m c cc nL s av Ts own G T b z) (hH : mm_H G T b x s H locs) (hr : meth.sig.returnType = some rt) (hrt : (∃ n, rt = .object n) ∨ ∃ t, rt = .array t) (hlk : meth.locks = false) (hv : v = va_re (fun k => b + k) o) (h : (some o : Option (Option Nat)) = some r) (hdg : decode cc pc = .ok (.areturn, 1)) :
    W p l e R s m av below meth c H locs cells slots (MQ below (mm_Qe G T b r x) av s cells slots (mm_A b)) (F0 m pc ls [v]) := mm_eret C hH hr hrt hlk hv (by cases h; rfl) hdg
end MMX
end
section
theorem dX0_init_0 : decode cX0_init 0 = .ok (.aload_n 0, 1) := by decide +kernel
theorem dX0_init_1 : decode cX0_init 1 = .ok (.invokespecial 3, 3) := by decide +kernel
theorem dX0_init_4 : decode cX0_init 4 = .ok (.aload_n 0, 1) := by decide +kernel
theorem dX0_init_5 : decode cX0_init 5 = .ok (.bipush 20, 2) := by decide +kernel
theorem dX0_init_7 : decode cX0_init 7 = .ok (.newarray .int, 2) := by decide +kernel
theorem dX0_init_9 : decode cX0_init 9 = .ok (.putfield 9, 3) := by decide +kernel
theorem dX0_init_12 : decode cX0_init 12 = .ok (.aload_n 0, 1) := by decide +kernel
theorem dX0_init_13 : decode cX0_init 13 = .ok (.bipush 20, 2) := by decide +kernel
theorem dX0_init_15 : decode cX0_init 15 = .ok (.newarray .int, 2) := by decide +kernel
theorem dX0_init_17 : decode cX0_init 17 = .ok (.putfield 15, 3) := by decide +kernel
theorem dX0_init_20 : decode cX0_init 20 = .ok (.aload_n 0, 1) := by decide +kernel
theorem dX0_init_21 : decode cX0_init 21 = .ok (.bipush 20, 2) := by decide +kernel
theorem dX0_init_23 : decode cX0_init 23 = .ok (.newarray .int, 2) := by decide +kernel
theorem dX0_init_25 : decode cX0_init 25 = .ok (.putfield 18, 3) := by decide +kernel
theorem dX0_init_28 : decode cX0_init 28 = .ok (.aload_n 0, 1) := by decide +kernel
theorem dX0_init_29 : decode cX0_init 29 = .ok (.iconst 0, 1) := by decide +kernel
theorem dX0_init_30 : decode cX0_init 30 = .ok (.putfield 21, 3) := by decide +kernel
theorem dX0_init_33 : decode cX0_init 33 = .ok (.aload_n 0, 1) := by decide +kernel
theorem dX0_init_34 : decode cX0_init 34 = .ok (.iconst 0, 1) := by decide +kernel
theorem dX0_init_35 : decode cX0_init 35 = .ok (.putfield 25, 3) := by decide +kernel
theorem dX0_init_38 : decode cX0_init 38 = .ok (.return_, 1) := by decide +kernel
theorem dX0_add_0 : decode cX0_add 0 = .ok (.aload_n 0, 1) := by decide +kernel
theorem dX0_add_1 : decode cX0_add 1 = .ok (.getfield 9, 3) := by decide +kernel
theorem dX0_add_4 : decode cX0_add 4 = .ok (.aload_n 0, 1) := by decide +kernel
theorem dX0_add_5 : decode cX0_add 5 = .ok (.getfield 25, 3) := by decide +kernel
theorem dX0_add_8 : decode cX0_add 8 = .ok (.iload_n 1, 1) := by decide +kernel
theorem dX0_add_9 : decode cX0_add 9 = .ok (.iastore, 1) := by decide +kernel
theorem dX0_add_10 : decode cX0_add 10 = .ok (.aload_n 0, 1) := by decide +kernel
theorem dX0_add_11 : decode cX0_add 11 = .ok (.getfield 15, 3) := by decide +kernel
theorem dX0_add_14 : decode cX0_add 14 = .ok (.aload_n 0, 1) := by decide +kernel
theorem dX0_add_15 : decode cX0_add 15 = .ok (.getfield 25, 3) := by decide +kernel
theorem dX0_add_18 : decode cX0_add 18 = .ok (.iload_n 2, 1) := by decide +kernel
theorem dX0_add_19 : decode cX0_add 19 = .ok (.iastore, 1) := by decide +kernel
theorem dX0_add_20 : decode cX0_add 20 = .ok (.aload_n 0, 1) := by decide +kernel
theorem dX0_add_21 : decode cX0_add 21 = .ok (.getfield 18, 3) := by decide +kernel
theorem dX0_add_24 : decode cX0_add 24 = .ok (.aload_n 0, 1) := by decide +kernel
theorem dX0_add_25 : decode cX0_add 25 = .ok (.getfield 25, 3) := by decide +kernel
theorem dX0_add_28 : decode cX0_add 28 = .ok (.iload_n 3, 1) := by decide +kernel
theorem dX0_add_29 : decode cX0_add 29 = .ok (.iastore, 1) := by decide +kernel
theorem dX0_add_30 : decode cX0_add 30 = .ok (.aload_n 0, 1) := by decide +kernel
theorem dX0_add_31 : decode cX0_add 31 = .ok (.aload_n 0, 1) := by decide +kernel
theorem dX0_add_32 : decode cX0_add 32 = .ok (.getfield 25, 3) := by decide +kernel
theorem dX0_add_35 : decode cX0_add 35 = .ok (.iconst 1, 1) := by decide +kernel
theorem dX0_add_36 : decode cX0_add 36 = .ok (.iadd, 1) := by decide +kernel
theorem dX0_add_37 : decode cX0_add 37 = .ok (.bipush 20, 2) := by decide +kernel
theorem dX0_add_39 : decode cX0_add 39 = .ok (.if_icmp .ge 12, 3) := by decide +kernel
theorem dX0_add_42 : decode cX0_add 42 = .ok (.aload_n 0, 1) := by decide +kernel
theorem dX0_add_43 : decode cX0_add 43 = .ok (.getfield 25, 3) := by decide +kernel
theorem dX0_add_46 : decode cX0_add 46 = .ok (.iconst 1, 1) := by decide +kernel
theorem dX0_add_47 : decode cX0_add 47 = .ok (.iadd, 1) := by decide +kernel
theorem dX0_add_48 : decode cX0_add 48 = .ok (.goto 4, 3) := by decide +kernel
theorem dX0_add_51 : decode cX0_add 51 = .ok (.iconst 0, 1) := by decide +kernel
theorem dX0_add_52 : decode cX0_add 52 = .ok (.putfield 25, 3) := by decide +kernel
theorem dX0_add_55 : decode cX0_add 55 = .ok (.aload_n 0, 1) := by decide +kernel
theorem dX0_add_56 : decode cX0_add 56 = .ok (.aload_n 0, 1) := by decide +kernel
theorem dX0_add_57 : decode cX0_add 57 = .ok (.getfield 21, 3) := by decide +kernel
theorem dX0_add_60 : decode cX0_add 60 = .ok (.iconst 1, 1) := by decide +kernel
theorem dX0_add_61 : decode cX0_add 61 = .ok (.iadd, 1) := by decide +kernel
theorem dX0_add_62 : decode cX0_add 62 = .ok (.bipush 20, 2) := by decide +kernel
theorem dX0_add_64 : decode cX0_add 64 = .ok (.invokestatic 28, 3) := by decide +kernel
theorem dX0_add_67 : decode cX0_add 67 = .ok (.putfield 21, 3) := by decide +kernel
theorem dX0_add_70 : decode cX0_add 70 = .ok (.return_, 1) := by decide +kernel
theorem dX0_tell_0 : decode cX0_tell 0 = .ok (.iload_n 1, 1) := by decide +kernel
theorem dX0_tell_1 : decode cX0_tell 1 = .ok (.ifCond .lt 11, 3) := by decide +kernel
theorem dX0_tell_4 : decode cX0_tell 4 = .ok (.iload_n 1, 1) := by decide +kernel
theorem dX0_tell_5 : decode cX0_tell 5 = .ok (.aload_n 0, 1) := by decide +kernel
theorem dX0_tell_6 : decode cX0_tell 6 = .ok (.getfield 21, 3) := by decide +kernel
theorem dX0_tell_9 : decode cX0_tell 9 = .ok (.if_icmp .lt 5, 3) := by decide +kernel
theorem dX0_tell_12 : decode cX0_tell 12 = .ok (.iconst (-1), 1) := by decide +kernel
theorem dX0_tell_13 : decode cX0_tell 13 = .ok (.ireturn, 1) := by decide +kernel
theorem dX0_tell_14 : decode cX0_tell 14 = .ok (.aload_n 0, 1) := by decide +kernel
theorem dX0_tell_15 : decode cX0_tell 15 = .ok (.getfield 25, 3) := by decide +kernel
theorem dX0_tell_18 : decode cX0_tell 18 = .ok (.iconst 1, 1) := by decide +kernel
theorem dX0_tell_19 : decode cX0_tell 19 = .ok (.isub, 1) := by decide +kernel
theorem dX0_tell_20 : decode cX0_tell 20 = .ok (.iload_n 1, 1) := by decide +kernel
theorem dX0_tell_21 : decode cX0_tell 21 = .ok (.isub, 1) := by decide +kernel
theorem dX0_tell_22 : decode cX0_tell 22 = .ok (.istore_n 3, 1) := by decide +kernel
theorem dX0_tell_23 : decode cX0_tell 23 = .ok (.iload_n 3, 1) := by decide +kernel
theorem dX0_tell_24 : decode cX0_tell 24 = .ok (.ifCond .ge 6, 3) := by decide +kernel
theorem dX0_tell_27 : decode cX0_tell 27 = .ok (.iinc 3 20, 3) := by decide +kernel
theorem dX0_tell_30 : decode cX0_tell 30 = .ok (.iload_n 2, 1) := by decide +kernel
theorem dX0_tell_31 : decode cX0_tell 31 = .ok (.tableswitch 46 0 2 #[25, 32, 39], 25) := by decide +kernel
theorem dX0_tell_56 : decode cX0_tell 56 = .ok (.aload_n 0, 1) := by decide +kernel
theorem dX0_tell_57 : decode cX0_tell 57 = .ok (.getfield 9, 3) := by decide +kernel
theorem dX0_tell_60 : decode cX0_tell 60 = .ok (.iload_n 3, 1) := by decide +kernel
theorem dX0_tell_61 : decode cX0_tell 61 = .ok (.iaload, 1) := by decide +kernel
theorem dX0_tell_62 : decode cX0_tell 62 = .ok (.ireturn, 1) := by decide +kernel
theorem dX0_tell_63 : decode cX0_tell 63 = .ok (.aload_n 0, 1) := by decide +kernel
theorem dX0_tell_64 : decode cX0_tell 64 = .ok (.getfield 15, 3) := by decide +kernel
theorem dX0_tell_67 : decode cX0_tell 67 = .ok (.iload_n 3, 1) := by decide +kernel
theorem dX0_tell_68 : decode cX0_tell 68 = .ok (.iaload, 1) := by decide +kernel
theorem dX0_tell_69 : decode cX0_tell 69 = .ok (.ireturn, 1) := by decide +kernel
theorem dX0_tell_70 : decode cX0_tell 70 = .ok (.aload_n 0, 1) := by decide +kernel
theorem dX0_tell_71 : decode cX0_tell 71 = .ok (.getfield 18, 3) := by decide +kernel
theorem dX0_tell_74 : decode cX0_tell 74 = .ok (.iload_n 3, 1) := by decide +kernel
theorem dX0_tell_75 : decode cX0_tell 75 = .ok (.iaload, 1) := by decide +kernel
theorem dX0_tell_76 : decode cX0_tell 76 = .ok (.ireturn, 1) := by decide +kernel
theorem dX0_tell_77 : decode cX0_tell 77 = .ok (.bipush (-2), 2) := by decide +kernel
theorem dX0_tell_79 : decode cX0_tell 79 = .ok (.ireturn, 1) := by decide +kernel
theorem dX0_copyFrom_0 : decode cX0_copyFrom 0 = .ok (.aload_n 1, 1) := by decide +kernel
theorem dX0_copyFrom_1 : decode cX0_copyFrom 1 = .ok (.getfield 9, 3) := by decide +kernel
theorem dX0_copyFrom_4 : decode cX0_copyFrom 4 = .ok (.iconst 0, 1) := by decide +kernel
theorem dX0_copyFrom_5 : decode cX0_copyFrom 5 = .ok (.aload_n 0, 1) := by decide +kernel
theorem dX0_copyFrom_6 : decode cX0_copyFrom 6 = .ok (.getfield 9, 3) := by decide +kernel
theorem dX0_copyFrom_9 : decode cX0_copyFrom 9 = .ok (.iconst 0, 1) := by decide +kernel
theorem dX0_copyFrom_10 : decode cX0_copyFrom 10 = .ok (.bipush 20, 2) := by decide +kernel
theorem dX0_copyFrom_12 : decode cX0_copyFrom 12 = .ok (.invokestatic 34, 3) := by decide +kernel
theorem dX0_copyFrom_15 : decode cX0_copyFrom 15 = .ok (.aload_n 1, 1) := by decide +kernel
theorem dX0_copyFrom_16 : decode cX0_copyFrom 16 = .ok (.getfield 15, 3) := by decide +kernel
theorem dX0_copyFrom_19 : decode cX0_copyFrom 19 = .ok (.iconst 0, 1) := by decide +kernel
theorem dX0_copyFrom_20 : decode cX0_copyFrom 20 = .ok (.aload_n 0, 1) := by decide +kernel
theorem dX0_copyFrom_21 : decode cX0_copyFrom 21 = .ok (.getfield 15, 3) := by decide +kernel
theorem dX0_copyFrom_24 : decode cX0_copyFrom 24 = .ok (.iconst 0, 1) := by decide +kernel
theorem dX0_copyFrom_25 : decode cX0_copyFrom 25 = .ok (.bipush 20, 2) := by decide +kernel
theorem dX0_copyFrom_27 : decode cX0_copyFrom 27 = .ok (.invokestatic 34, 3) := by decide +kernel
theorem dX0_copyFrom_30 : decode cX0_copyFrom 30 = .ok (.aload_n 1, 1) := by decide +kernel
theorem dX0_copyFrom_31 : decode cX0_copyFrom 31 = .ok (.getfield 18, 3) := by decide +kernel
theorem dX0_copyFrom_34 : decode cX0_copyFrom 34 = .ok (.iconst 0, 1) := by decide +kernel
theorem dX0_copyFrom_35 : decode cX0_copyFrom 35 = .ok (.aload_n 0, 1) := by decide +kernel
theorem dX0_copyFrom_36 : decode cX0_copyFrom 36 = .ok (.getfield 18, 3) := by decide +kernel
theorem dX0_copyFrom_39 : decode cX0_copyFrom 39 = .ok (.iconst 0, 1) := by decide +kernel
theorem dX0_copyFrom_40 : decode cX0_copyFrom 40 = .ok (.bipush 20, 2) := by decide +kernel
theorem dX0_copyFrom_42 : decode cX0_copyFrom 42 = .ok (.invokestatic 34, 3) := by decide +kernel
theorem dX0_copyFrom_45 : decode cX0_copyFrom 45 = .ok (.aload_n 0, 1) := by decide +kernel
theorem dX0_copyFrom_46 : decode cX0_copyFrom 46 = .ok (.aload_n 1, 1) := by decide +kernel
theorem dX0_copyFrom_47 : decode cX0_copyFrom 47 = .ok (.getfield 21, 3) := by decide +kernel
theorem dX0_copyFrom_50 : decode cX0_copyFrom 50 = .ok (.putfield 21, 3) := by decide +kernel
theorem dX0_copyFrom_53 : decode cX0_copyFrom 53 = .ok (.aload_n 0, 1) := by decide +kernel
theorem dX0_copyFrom_54 : decode cX0_copyFrom 54 = .ok (.aload_n 1, 1) := by decide +kernel
theorem dX0_copyFrom_55 : decode cX0_copyFrom 55 = .ok (.getfield 25, 3) := by decide +kernel
theorem dX0_copyFrom_58 : decode cX0_copyFrom 58 = .ok (.putfield 25, 3) := by decide +kernel
theorem dX0_copyFrom_61 : decode cX0_copyFrom 61 = .ok (.return_, 1) := by decide +kernel
theorem dX1_init_0 : decode cX1_init 0 = .ok (.aload_n 0, 1) := by decide +kernel
theorem dX1_init_1 : decode cX1_init 1 = .ok (.invokespecial 3, 3) := by decide +kernel
theorem dX1_init_4 : decode cX1_init 4 = .ok (.return_, 1) := by decide +kernel
theorem dX1_arrive_0 : decode cX1_arrive 0 = .ok (.aload_n 0, 1) := by decide +kernel
theorem dX1_arrive_1 : decode cX1_arrive 1 = .ok (.iconst 1, 1) := by decide +kernel
theorem dX1_arrive_2 : decode cX1_arrive 2 = .ok (.putfield 9, 3) := by decide +kernel
theorem dX1_arrive_5 : decode cX1_arrive 5 = .ok (.aload_n 0, 1) := by decide +kernel
theorem dX1_arrive_6 : decode cX1_arrive 6 = .ok (.iload_n 1, 1) := by decide +kernel
theorem dX1_arrive_7 : decode cX1_arrive 7 = .ok (.putfield 15, 3) := by decide +kernel
theorem dX1_arrive_10 : decode cX1_arrive 10 = .ok (.aload_n 0, 1) := by decide +kernel
theorem dX1_arrive_11 : decode cX1_arrive 11 = .ok (.iconst 0, 1) := by decide +kernel
theorem dX1_arrive_12 : decode cX1_arrive 12 = .ok (.putfield 19, 3) := by decide +kernel
theorem dX1_arrive_15 : decode cX1_arrive 15 = .ok (.aload_n 0, 1) := by decide +kernel
theorem dX1_arrive_16 : decode cX1_arrive 16 = .ok (.iconst 0, 1) := by decide +kernel
theorem dX1_arrive_17 : decode cX1_arrive 17 = .ok (.putfield 22, 3) := by decide +kernel
theorem dX1_arrive_20 : decode cX1_arrive 20 = .ok (.aload_n 0, 1) := by decide +kernel
theorem dX1_arrive_21 : decode cX1_arrive 21 = .ok (.iconst 0, 1) := by decide +kernel
theorem dX1_arrive_22 : decode cX1_arrive 22 = .ok (.putfield 25, 3) := by decide +kernel
theorem dX1_arrive_25 : decode cX1_arrive 25 = .ok (.aload_n 0, 1) := by decide +kernel
theorem dX1_arrive_26 : decode cX1_arrive 26 = .ok (.iconst 0, 1) := by decide +kernel
theorem dX1_arrive_27 : decode cX1_arrive 27 = .ok (.putfield 28, 3) := by decide +kernel
theorem dX1_arrive_30 : decode cX1_arrive 30 = .ok (.aload_n 0, 1) := by decide +kernel
theorem dX1_arrive_31 : decode cX1_arrive 31 = .ok (.iconst 0, 1) := by decide +kernel
theorem dX1_arrive_32 : decode cX1_arrive 32 = .ok (.putfield 31, 3) := by decide +kernel
theorem dX1_arrive_35 : decode cX1_arrive 35 = .ok (.aload_n 0, 1) := by decide +kernel
theorem dX1_arrive_36 : decode cX1_arrive 36 = .ok (.iconst 0, 1) := by decide +kernel
theorem dX1_arrive_37 : decode cX1_arrive 37 = .ok (.putfield 34, 3) := by decide +kernel
theorem dX1_arrive_40 : decode cX1_arrive 40 = .ok (.return_, 1) := by decide +kernel
theorem dX1_copyFrom_0 : decode cX1_copyFrom 0 = .ok (.aload_n 0, 1) := by decide +kernel
theorem dX1_copyFrom_1 : decode cX1_copyFrom 1 = .ok (.aload_n 1, 1) := by decide +kernel
theorem dX1_copyFrom_2 : decode cX1_copyFrom 2 = .ok (.getfield 9, 3) := by decide +kernel
theorem dX1_copyFrom_5 : decode cX1_copyFrom 5 = .ok (.putfield 9, 3) := by decide +kernel
theorem dX1_copyFrom_8 : decode cX1_copyFrom 8 = .ok (.aload_n 0, 1) := by decide +kernel
theorem dX1_copyFrom_9 : decode cX1_copyFrom 9 = .ok (.aload_n 1, 1) := by decide +kernel
theorem dX1_copyFrom_10 : decode cX1_copyFrom 10 = .ok (.getfield 15, 3) := by decide +kernel
theorem dX1_copyFrom_13 : decode cX1_copyFrom 13 = .ok (.putfield 15, 3) := by decide +kernel
theorem dX1_copyFrom_16 : decode cX1_copyFrom 16 = .ok (.aload_n 0, 1) := by decide +kernel
theorem dX1_copyFrom_17 : decode cX1_copyFrom 17 = .ok (.aload_n 1, 1) := by decide +kernel
theorem dX1_copyFrom_18 : decode cX1_copyFrom 18 = .ok (.getfield 19, 3) := by decide +kernel
theorem dX1_copyFrom_21 : decode cX1_copyFrom 21 = .ok (.putfield 19, 3) := by decide +kernel
theorem dX1_copyFrom_24 : decode cX1_copyFrom 24 = .ok (.aload_n 0, 1) := by decide +kernel
theorem dX1_copyFrom_25 : decode cX1_copyFrom 25 = .ok (.aload_n 1, 1) := by decide +kernel
theorem dX1_copyFrom_26 : decode cX1_copyFrom 26 = .ok (.getfield 22, 3) := by decide +kernel
theorem dX1_copyFrom_29 : decode cX1_copyFrom 29 = .ok (.putfield 22, 3) := by decide +kernel
theorem dX1_copyFrom_32 : decode cX1_copyFrom 32 = .ok (.aload_n 0, 1) := by decide +kernel
theorem dX1_copyFrom_33 : decode cX1_copyFrom 33 = .ok (.aload_n 1, 1) := by decide +kernel
theorem dX1_copyFrom_34 : decode cX1_copyFrom 34 = .ok (.getfield 25, 3) := by decide +kernel
theorem dX1_copyFrom_37 : decode cX1_copyFrom 37 = .ok (.putfield 25, 3) := by decide +kernel
theorem dX1_copyFrom_40 : decode cX1_copyFrom 40 = .ok (.aload_n 0, 1) := by decide +kernel
theorem dX1_copyFrom_41 : decode cX1_copyFrom 41 = .ok (.aload_n 1, 1) := by decide +kernel
theorem dX1_copyFrom_42 : decode cX1_copyFrom 42 = .ok (.getfield 28, 3) := by decide +kernel
theorem dX1_copyFrom_45 : decode cX1_copyFrom 45 = .ok (.putfield 28, 3) := by decide +kernel
theorem dX1_copyFrom_48 : decode cX1_copyFrom 48 = .ok (.aload_n 0, 1) := by decide +kernel
theorem dX1_copyFrom_49 : decode cX1_copyFrom 49 = .ok (.aload_n 1, 1) := by decide +kernel
theorem dX1_copyFrom_50 : decode cX1_copyFrom 50 = .ok (.getfield 31, 3) := by decide +kernel
theorem dX1_copyFrom_53 : decode cX1_copyFrom 53 = .ok (.putfield 31, 3) := by decide +kernel
theorem dX1_copyFrom_56 : decode cX1_copyFrom 56 = .ok (.aload_n 0, 1) := by decide +kernel
theorem dX1_copyFrom_57 : decode cX1_copyFrom 57 = .ok (.aload_n 1, 1) := by decide +kernel
theorem dX1_copyFrom_58 : decode cX1_copyFrom 58 = .ok (.getfield 34, 3) := by decide +kernel
theorem dX1_copyFrom_61 : decode cX1_copyFrom 61 = .ok (.putfield 34, 3) := by decide +kernel
theorem dX1_copyFrom_64 : decode cX1_copyFrom 64 = .ok (.return_, 1) := by decide +kernel
theorem dX1_canBeTaken_0 : decode cX1_canBeTaken 0 = .ok (.aload_n 0, 1) := by decide +kernel
theorem dX1_canBeTaken_1 : decode cX1_canBeTaken 1 = .ok (.getfield 9, 3) := by decide +kernel
theorem dX1_canBeTaken_4 : decode cX1_canBeTaken 4 = .ok (.ifCond .eq 14, 3) := by decide +kernel
theorem dX1_canBeTaken_7 : decode cX1_canBeTaken 7 = .ok (.aload_n 0, 1) := by decide +kernel
theorem dX1_canBeTaken_8 : decode cX1_canBeTaken 8 = .ok (.getfield 22, 3) := by decide +kernel
theorem dX1_canBeTaken_11 : decode cX1_canBeTaken 11 = .ok (.ifCond .ne 7, 3) := by decide +kernel
theorem dX1_canBeTaken_14 : decode cX1_canBeTaken 14 = .ok (.iconst 1, 1) := by decide +kernel
theorem dX1_canBeTaken_15 : decode cX1_canBeTaken 15 = .ok (.goto 4, 3) := by decide +kernel
theorem dX1_canBeTaken_18 : decode cX1_canBeTaken 18 = .ok (.iconst 0, 1) := by decide +kernel
theorem dX1_canBeTaken_19 : decode cX1_canBeTaken 19 = .ok (.ireturn, 1) := by decide +kernel
theorem dX1_addFine_0 : decode cX1_addFine 0 = .ok (.aload_n 0, 1) := by decide +kernel
theorem dX1_addFine_1 : decode cX1_addFine 1 = .ok (.dup, 1) := by decide +kernel
theorem dX1_addFine_2 : decode cX1_addFine 2 = .ok (.getfield 31, 3) := by decide +kernel
theorem dX1_addFine_5 : decode cX1_addFine 5 = .ok (.iconst 1, 1) := by decide +kernel
theorem dX1_addFine_6 : decode cX1_addFine 6 = .ok (.iadd, 1) := by decide +kernel
theorem dX1_addFine_7 : decode cX1_addFine 7 = .ok (.putfield 31, 3) := by decide +kernel
theorem dX1_addFine_10 : decode cX1_addFine 10 = .ok (.aload_n 0, 1) := by decide +kernel
theorem dX1_addFine_11 : decode cX1_addFine 11 = .ok (.aload_n 0, 1) := by decide +kernel
theorem dX1_addFine_12 : decode cX1_addFine 12 = .ok (.getfield 19, 3) := by decide +kernel
theorem dX1_addFine_15 : decode cX1_addFine 15 = .ok (.iload_n 1, 1) := by decide +kernel
theorem dX1_addFine_16 : decode cX1_addFine 16 = .ok (.iadd, 1) := by decide +kernel
theorem dX1_addFine_17 : decode cX1_addFine 17 = .ok (.ldc 37, 2) := by decide +kernel
theorem dX1_addFine_19 : decode cX1_addFine 19 = .ok (.invokestatic 38, 3) := by decide +kernel
theorem dX1_addFine_22 : decode cX1_addFine 22 = .ok (.putfield 19, 3) := by decide +kernel
theorem dX1_addFine_25 : decode cX1_addFine 25 = .ok (.aload_n 0, 1) := by decide +kernel
theorem dX1_addFine_26 : decode cX1_addFine 26 = .ok (.getfield 22, 3) := by decide +kernel
theorem dX1_addFine_29 : decode cX1_addFine 29 = .ok (.ifCond .ne 11, 3) := by decide +kernel
theorem dX1_addFine_32 : decode cX1_addFine 32 = .ok (.aload_n 0, 1) := by decide +kernel
theorem dX1_addFine_33 : decode cX1_addFine 33 = .ok (.getfield 19, 3) := by decide +kernel
theorem dX1_addFine_36 : decode cX1_addFine 36 = .ok (.iload_n 2, 1) := by decide +kernel
theorem dX1_addFine_37 : decode cX1_addFine 37 = .ok (.if_icmp .gt 5, 3) := by decide +kernel
theorem dX1_addFine_40 : decode cX1_addFine 40 = .ok (.iconst 0, 1) := by decide +kernel
theorem dX1_addFine_41 : decode cX1_addFine 41 = .ok (.ireturn, 1) := by decide +kernel
theorem dX1_addFine_42 : decode cX1_addFine 42 = .ok (.aload_n 0, 1) := by decide +kernel
theorem dX1_addFine_43 : decode cX1_addFine 43 = .ok (.iconst 1, 1) := by decide +kernel
theorem dX1_addFine_44 : decode cX1_addFine 44 = .ok (.putfield 22, 3) := by decide +kernel
theorem dX1_addFine_47 : decode cX1_addFine 47 = .ok (.aload_n 0, 1) := by decide +kernel
theorem dX1_addFine_48 : decode cX1_addFine 48 = .ok (.iconst 0, 1) := by decide +kernel
theorem dX1_addFine_49 : decode cX1_addFine 49 = .ok (.putfield 25, 3) := by decide +kernel
theorem dX1_addFine_52 : decode cX1_addFine 52 = .ok (.aload_n 0, 1) := by decide +kernel
theorem dX1_addFine_53 : decode cX1_addFine 53 = .ok (.dup, 1) := by decide +kernel
theorem dX1_addFine_54 : decode cX1_addFine 54 = .ok (.getfield 34, 3) := by decide +kernel
theorem dX1_addFine_57 : decode cX1_addFine 57 = .ok (.iconst 1, 1) := by decide +kernel
theorem dX1_addFine_58 : decode cX1_addFine 58 = .ok (.iadd, 1) := by decide +kernel
theorem dX1_addFine_59 : decode cX1_addFine 59 = .ok (.putfield 34, 3) := by decide +kernel
theorem dX1_addFine_62 : decode cX1_addFine 62 = .ok (.iconst 1, 1) := by decide +kernel
theorem dX1_addFine_63 : decode cX1_addFine 63 = .ok (.ireturn, 1) := by decide +kernel
theorem dX1_passMinute_0 : decode cX1_passMinute 0 = .ok (.aload_n 0, 1) := by decide +kernel
theorem dX1_passMinute_1 : decode cX1_passMinute 1 = .ok (.dup, 1) := by decide +kernel
theorem dX1_passMinute_2 : decode cX1_passMinute 2 = .ok (.getfield 28, 3) := by decide +kernel
theorem dX1_passMinute_5 : decode cX1_passMinute 5 = .ok (.iconst 1, 1) := by decide +kernel
theorem dX1_passMinute_6 : decode cX1_passMinute 6 = .ok (.iadd, 1) := by decide +kernel
theorem dX1_passMinute_7 : decode cX1_passMinute 7 = .ok (.putfield 28, 3) := by decide +kernel
theorem dX1_passMinute_10 : decode cX1_passMinute 10 = .ok (.aload_n 0, 1) := by decide +kernel
theorem dX1_passMinute_11 : decode cX1_passMinute 11 = .ok (.getfield 28, 3) := by decide +kernel
theorem dX1_passMinute_14 : decode cX1_passMinute 14 = .ok (.iload_n 1, 1) := by decide +kernel
theorem dX1_passMinute_15 : decode cX1_passMinute 15 = .ok (.if_icmp .lt 18, 3) := by decide +kernel
theorem dX1_passMinute_18 : decode cX1_passMinute 18 = .ok (.aload_n 0, 1) := by decide +kernel
theorem dX1_passMinute_19 : decode cX1_passMinute 19 = .ok (.dup, 1) := by decide +kernel
theorem dX1_passMinute_20 : decode cX1_passMinute 20 = .ok (.getfield 19, 3) := by decide +kernel
theorem dX1_passMinute_23 : decode cX1_passMinute 23 = .ok (.iconst 2, 1) := by decide +kernel
theorem dX1_passMinute_24 : decode cX1_passMinute 24 = .ok (.idiv, 1) := by decide +kernel
theorem dX1_passMinute_25 : decode cX1_passMinute 25 = .ok (.putfield 19, 3) := by decide +kernel
theorem dX1_passMinute_28 : decode cX1_passMinute 28 = .ok (.aload_n 0, 1) := by decide +kernel
theorem dX1_passMinute_29 : decode cX1_passMinute 29 = .ok (.iconst 0, 1) := by decide +kernel
theorem dX1_passMinute_30 : decode cX1_passMinute 30 = .ok (.putfield 28, 3) := by decide +kernel
theorem dX1_passMinute_33 : decode cX1_passMinute 33 = .ok (.aload_n 0, 1) := by decide +kernel
theorem dX1_passMinute_34 : decode cX1_passMinute 34 = .ok (.getfield 22, 3) := by decide +kernel
theorem dX1_passMinute_37 : decode cX1_passMinute 37 = .ok (.ifCond .ne 5, 3) := by decide +kernel
theorem dX1_passMinute_40 : decode cX1_passMinute 40 = .ok (.iconst 0, 1) := by decide +kernel
theorem dX1_passMinute_41 : decode cX1_passMinute 41 = .ok (.ireturn, 1) := by decide +kernel
theorem dX1_passMinute_42 : decode cX1_passMinute 42 = .ok (.aload_n 0, 1) := by decide +kernel
theorem dX1_passMinute_43 : decode cX1_passMinute 43 = .ok (.dup, 1) := by decide +kernel
theorem dX1_passMinute_44 : decode cX1_passMinute 44 = .ok (.getfield 25, 3) := by decide +kernel
theorem dX1_passMinute_47 : decode cX1_passMinute 47 = .ok (.iconst 1, 1) := by decide +kernel
theorem dX1_passMinute_48 : decode cX1_passMinute 48 = .ok (.iadd, 1) := by decide +kernel
theorem dX1_passMinute_49 : decode cX1_passMinute 49 = .ok (.putfield 25, 3) := by decide +kernel
theorem dX1_passMinute_52 : decode cX1_passMinute 52 = .ok (.aload_n 0, 1) := by decide +kernel
theorem dX1_passMinute_53 : decode cX1_passMinute 53 = .ok (.getfield 19, 3) := by decide +kernel
theorem dX1_passMinute_56 : decode cX1_passMinute 56 = .ok (.iload_n 2, 1) := by decide +kernel
theorem dX1_passMinute_57 : decode cX1_passMinute 57 = .ok (.if_icmp .lt 13, 3) := by decide +kernel
theorem dX1_passMinute_60 : decode cX1_passMinute 60 = .ok (.aload_n 0, 1) := by decide +kernel
theorem dX1_passMinute_61 : decode cX1_passMinute 61 = .ok (.getfield 25, 3) := by decide +kernel
theorem dX1_passMinute_64 : decode cX1_passMinute 64 = .ok (.iload_n 3, 1) := by decide +kernel
theorem dX1_passMinute_65 : decode cX1_passMinute 65 = .ok (.if_icmp .ge 5, 3) := by decide +kernel
theorem dX1_passMinute_68 : decode cX1_passMinute 68 = .ok (.iconst 0, 1) := by decide +kernel
theorem dX1_passMinute_69 : decode cX1_passMinute 69 = .ok (.ireturn, 1) := by decide +kernel
theorem dX1_passMinute_70 : decode cX1_passMinute 70 = .ok (.aload_n 0, 1) := by decide +kernel
theorem dX1_passMinute_71 : decode cX1_passMinute 71 = .ok (.iconst 0, 1) := by decide +kernel
theorem dX1_passMinute_72 : decode cX1_passMinute 72 = .ok (.putfield 22, 3) := by decide +kernel
theorem dX1_passMinute_75 : decode cX1_passMinute 75 = .ok (.aload_n 0, 1) := by decide +kernel
theorem dX1_passMinute_76 : decode cX1_passMinute 76 = .ok (.iconst 0, 1) := by decide +kernel
theorem dX1_passMinute_77 : decode cX1_passMinute 77 = .ok (.putfield 25, 3) := by decide +kernel
theorem dX1_passMinute_80 : decode cX1_passMinute 80 = .ok (.aload_n 0, 1) := by decide +kernel
theorem dX1_passMinute_81 : decode cX1_passMinute 81 = .ok (.aload_n 0, 1) := by decide +kernel
theorem dX1_passMinute_82 : decode cX1_passMinute 82 = .ok (.getfield 19, 3) := by decide +kernel
theorem dX1_passMinute_85 : decode cX1_passMinute 85 = .ok (.iload_n 2, 1) := by decide +kernel
theorem dX1_passMinute_86 : decode cX1_passMinute 86 = .ok (.iconst 1, 1) := by decide +kernel
theorem dX1_passMinute_87 : decode cX1_passMinute 87 = .ok (.isub, 1) := by decide +kernel
theorem dX1_passMinute_88 : decode cX1_passMinute 88 = .ok (.invokestatic 38, 3) := by decide +kernel
theorem dX1_passMinute_91 : decode cX1_passMinute 91 = .ok (.putfield 19, 3) := by decide +kernel
theorem dX1_passMinute_94 : decode cX1_passMinute 94 = .ok (.iconst 1, 1) := by decide +kernel
theorem dX1_passMinute_95 : decode cX1_passMinute 95 = .ok (.ireturn, 1) := by decide +kernel
theorem dX1_tell_0 : decode cX1_tell 0 = .ok (.iload_n 1, 1) := by decide +kernel
theorem dX1_tell_1 : decode cX1_tell 1 = .ok (.tableswitch 103 0 7 #[47, 60, 65, 70, 83, 88, 93, 98], 47) := by decide +kernel
theorem dX1_tell_48 : decode cX1_tell 48 = .ok (.aload_n 0, 1) := by decide +kernel
theorem dX1_tell_49 : decode cX1_tell 49 = .ok (.getfield 9, 3) := by decide +kernel
theorem dX1_tell_52 : decode cX1_tell 52 = .ok (.ifCond .eq 7, 3) := by decide +kernel
theorem dX1_tell_55 : decode cX1_tell 55 = .ok (.iconst 1, 1) := by decide +kernel
theorem dX1_tell_56 : decode cX1_tell 56 = .ok (.goto 4, 3) := by decide +kernel
theorem dX1_tell_59 : decode cX1_tell 59 = .ok (.iconst 0, 1) := by decide +kernel
theorem dX1_tell_60 : decode cX1_tell 60 = .ok (.ireturn, 1) := by decide +kernel
theorem dX1_tell_61 : decode cX1_tell 61 = .ok (.aload_n 0, 1) := by decide +kernel
theorem dX1_tell_62 : decode cX1_tell 62 = .ok (.getfield 15, 3) := by decide +kernel
theorem dX1_tell_65 : decode cX1_tell 65 = .ok (.ireturn, 1) := by decide +kernel
theorem dX1_tell_66 : decode cX1_tell 66 = .ok (.aload_n 0, 1) := by decide +kernel
theorem dX1_tell_67 : decode cX1_tell 67 = .ok (.getfield 19, 3) := by decide +kernel
theorem dX1_tell_70 : decode cX1_tell 70 = .ok (.ireturn, 1) := by decide +kernel
theorem dX1_tell_71 : decode cX1_tell 71 = .ok (.aload_n 0, 1) := by decide +kernel
theorem dX1_tell_72 : decode cX1_tell 72 = .ok (.getfield 22, 3) := by decide +kernel
theorem dX1_tell_75 : decode cX1_tell 75 = .ok (.ifCond .eq 7, 3) := by decide +kernel
theorem dX1_tell_78 : decode cX1_tell 78 = .ok (.iconst 1, 1) := by decide +kernel
theorem dX1_tell_79 : decode cX1_tell 79 = .ok (.goto 4, 3) := by decide +kernel
theorem dX1_tell_82 : decode cX1_tell 82 = .ok (.iconst 0, 1) := by decide +kernel
theorem dX1_tell_83 : decode cX1_tell 83 = .ok (.ireturn, 1) := by decide +kernel
theorem dX1_tell_84 : decode cX1_tell 84 = .ok (.aload_n 0, 1) := by decide +kernel
theorem dX1_tell_85 : decode cX1_tell 85 = .ok (.getfield 25, 3) := by decide +kernel
theorem dX1_tell_88 : decode cX1_tell 88 = .ok (.ireturn, 1) := by decide +kernel
theorem dX1_tell_89 : decode cX1_tell 89 = .ok (.aload_n 0, 1) := by decide +kernel
theorem dX1_tell_90 : decode cX1_tell 90 = .ok (.getfield 28, 3) := by decide +kernel
theorem dX1_tell_93 : decode cX1_tell 93 = .ok (.ireturn, 1) := by decide +kernel
theorem dX1_tell_94 : decode cX1_tell 94 = .ok (.aload_n 0, 1) := by decide +kernel
theorem dX1_tell_95 : decode cX1_tell 95 = .ok (.getfield 31, 3) := by decide +kernel
theorem dX1_tell_98 : decode cX1_tell 98 = .ok (.ireturn, 1) := by decide +kernel
theorem dX1_tell_99 : decode cX1_tell 99 = .ok (.aload_n 0, 1) := by decide +kernel
theorem dX1_tell_100 : decode cX1_tell 100 = .ok (.getfield 34, 3) := by decide +kernel
theorem dX1_tell_103 : decode cX1_tell 103 = .ok (.ireturn, 1) := by decide +kernel
theorem dX1_tell_104 : decode cX1_tell 104 = .ok (.bipush (-2), 2) := by decide +kernel
theorem dX1_tell_106 : decode cX1_tell 106 = .ok (.ireturn, 1) := by decide +kernel
theorem dX2_init_0 : decode cX2_init 0 = .ok (.aload_n 0, 1) := by decide +kernel
theorem dX2_init_1 : decode cX2_init 1 = .ok (.invokespecial 3, 3) := by decide +kernel
theorem dX2_init_4 : decode cX2_init 4 = .ok (.aload_n 0, 1) := by decide +kernel
theorem dX2_init_5 : decode cX2_init 5 = .ok (.bipush 80, 2) := by decide +kernel
theorem dX2_init_7 : decode cX2_init 7 = .ok (.newarray .char, 2) := by decide +kernel
theorem dX2_init_9 : decode cX2_init 9 = .ok (.putfield 9, 3) := by decide +kernel
theorem dX2_init_12 : decode cX2_init 12 = .ok (.aload_n 0, 1) := by decide +kernel
theorem dX2_init_13 : decode cX2_init 13 = .ok (.iconst 0, 1) := by decide +kernel
theorem dX2_init_14 : decode cX2_init 14 = .ok (.putfield 15, 3) := by decide +kernel
theorem dX2_init_17 : decode cX2_init 17 = .ok (.aload_n 0, 1) := by decide +kernel
theorem dX2_init_18 : decode cX2_init 18 = .ok (.iconst 0, 1) := by decide +kernel
theorem dX2_init_19 : decode cX2_init 19 = .ok (.putfield 19, 3) := by decide +kernel
theorem dX2_init_22 : decode cX2_init 22 = .ok (.aload_n 0, 1) := by decide +kernel
theorem dX2_init_23 : decode cX2_init 23 = .ok (.bipush 32, 2) := by decide +kernel
theorem dX2_init_25 : decode cX2_init 25 = .ok (.putfield 22, 3) := by decide +kernel
theorem dX2_init_28 : decode cX2_init 28 = .ok (.aload_n 0, 1) := by decide +kernel
theorem dX2_init_29 : decode cX2_init 29 = .ok (.iconst 0, 1) := by decide +kernel
theorem dX2_init_30 : decode cX2_init 30 = .ok (.putfield 26, 3) := by decide +kernel
theorem dX2_init_33 : decode cX2_init 33 = .ok (.aload_n 0, 1) := by decide +kernel
theorem dX2_init_34 : decode cX2_init 34 = .ok (.iconst 0, 1) := by decide +kernel
theorem dX2_init_35 : decode cX2_init 35 = .ok (.putfield 29, 3) := by decide +kernel
theorem dX2_init_38 : decode cX2_init 38 = .ok (.return_, 1) := by decide +kernel
end
section
def fn_X0_add (a1 : Int32) (a2 : Int32) (a3 : Int32) (x : mm_M) : Option mm_M :=
  if (x 4 4) < 0 ∨ 20 ≤ Int32.toNatClampNeg (x 4 4) then none else (some (mm_up x 5 (Int32.toNatClampNeg (x 4 4)) a1)).bind fun x1 => if (x1 4 4) < 0 ∨ 20 ≤ Int32.toNatClampNeg (x1 4 4) then none else (some (mm_up x1 6 (Int32.toNatClampNeg (x1 4 4)) a2)).bind fun x2 => if (x2 4 4) < 0 ∨ 20 ≤ Int32.toNatClampNeg (x2 4 4) then none else (some (mm_up x2 7 (Int32.toNatClampNeg (x2 4 4)) a3)).bind fun x3 => if (20 : Int32) ≤ ((x3 4 4) + 1) then (some (mm_up x3 4 4 0)).bind fun x4 => (some (mm_up x4 4 3 (if (20 : Int32) < ((x4 4 3) + 1) then (20 : Int32) else ((x4 4 3) + 1)))).bind fun x5 => some x5 else (some (mm_up x3 4 4 ((x3 4 4) + 1))).bind fun x6 => (some (mm_up x6 4 3 (if (20 : Int32) < ((x6 4 3) + 1) then (20 : Int32) else ((x6 4 3) + 1)))).bind fun x7 => some x7
abbrev rm_X0_add : Room := { frames := 1, cells := 0, slots := 0, locals := 21 }
theorem df_X0_add : yX0_add.cls = RX0 ∧ yX0_add.cls ≠ "java/lang/invoke/MethodHandle" ∧ yX0_add.cls ≠ "java/lang/invoke/VarHandle" ∧ (parseMethodDescriptor yX0_add.desc).map (fun d => d.parameters.length) = some 3 := by decide +kernel
set_option maxRecDepth 100000 in
set_option maxHeartbeats 4000000 in
theorem ct_X0_add (l : Launch) (G : va_G) (T : Nat → ClassId) (b : Nat) (z : Nat → Nat) (a1 : Int32) (a2 : Int32) (a3 : Int32) (x : mm_M) {x1 : mm_M} (h : fn_X0_add a1 a2 a3 x = some x1) : mm_Cv l yX0_add wsX0_add rm_X0_add G T b z [.ref (b + 4), .int a1, .int a2, .int a3] x x1 := by
  unfold fn_X0_add at h
  refine mm_start (cc := cX0_add) (maxL := 4) (ret := none) (by decide) rfl (Nat.le_of_ble_eq_true rfl) (fun p e s m below meth c ls C hr hlk hH hl => ?_)
  have hl : lv_has ls 4 [(0, .ref (b + 4)), (1, .int a1), (2, .int a2), (3, .int a3)] := hl
  have hx := C.1
  have hb := C.2.1
  have w1 := C.2.2.2.2.1 (.fieldLink RX0 9 "LandingFines$Journal" "sorts" "[I") (by decide +kernel)
  have w2 := C.2.2.2.2.1 (.fieldLink RX0 25 "LandingFines$Journal" "next" "I") (by decide +kernel)
  have w3 := C.2.2.2.2.1 (.fieldLink RX0 15 "LandingFines$Journal" "places" "[I") (by decide +kernel)
  have w4 := C.2.2.2.2.1 (.fieldLink RX0 18 "LandingFines$Journal" "minutes" "[I") (by decide +kernel)
  have w5 := C.2.2.2.2.1 (.fieldLink RX0 21 "LandingFines$Journal" "size" "I") (by decide +kernel)
  have w6 := C.2.2.2.2.1 (.methodLink RX0 28 Lib.Math.min.name) (by decide +kernel)
  have w7 := C.2.2.2.2.1 (.static Lib.Math.min.name) (by decide +kernel)
  have w8 := C.2.2.2.2.1 (.initialized "java/lang/Math") (by decide +kernel)
  have w9 := C.2.2.2.2.1 (.code Lib.Math.min.name Lib.Math.min.code 2 (some .int)) (by decide +kernel)
  have hin0 : ∀ w ∈ wsX00, w ∈ wsX0_add := by decide +kernel
  refine lv_aload_n hx hb dX0_add_0 rfl (lv_at hl 0 rfl) ?_
  refine mm_get (v := .ref (b + 5)) C hH hin0 rfl kl_4 (mm_e0 kd_4) (j := 0) (by decide) rfl w1 rfl dX0_add_1 ?_
  refine lv_aload_n hx hb dX0_add_4 rfl (lv_at hl 0 rfl) ?_
  refine mm_get (v := .int (x 4 4)) C hH hin0 rfl kl_4 (mm_e0 kd_4) (j := 4) (by decide) rfl w2 rfl dX0_add_5 ?_
  refine lv_iload_n hx hb dX0_add_8 rfl (lv_at hl 1 rfl) ?_
  obtain ⟨g1, h⟩ := mm_grn h
  obtain ⟨x1, e1, h⟩ := mm_bnd h
  refine mm_iast (n := 20) (jn := (Int32.toNatClampNeg (x 4 4))) C hH kd_5 ln_5 g1 rfl (Option.some.inj e1) dX0_add_9 (fun H locs hH => ?_)
  refine lv_aload_n hx hb dX0_add_10 rfl (lv_at hl 0 rfl) ?_
  refine mm_get (v := .ref (b + 6)) C hH hin0 rfl kl_4 (mm_e0 kd_4) (j := 1) (by decide) rfl w3 rfl dX0_add_11 ?_
  refine lv_aload_n hx hb dX0_add_14 rfl (lv_at hl 0 rfl) ?_
  refine mm_get (v := .int (x1 4 4)) C hH hin0 rfl kl_4 (mm_e0 kd_4) (j := 4) (by decide) rfl w2 rfl dX0_add_15 ?_
  refine lv_iload_n hx hb dX0_add_18 rfl (lv_at hl 2 rfl) ?_
  obtain ⟨g2, h⟩ := mm_grn h
  obtain ⟨x2, e2, h⟩ := mm_bnd h
  refine mm_iast (n := 20) (jn := (Int32.toNatClampNeg (x1 4 4))) C hH kd_6 ln_6 g2 rfl (Option.some.inj e2) dX0_add_19 (fun H locs hH => ?_)
  refine lv_aload_n hx hb dX0_add_20 rfl (lv_at hl 0 rfl) ?_
  refine mm_get (v := .ref (b + 7)) C hH hin0 rfl kl_4 (mm_e0 kd_4) (j := 2) (by decide) rfl w4 rfl dX0_add_21 ?_
  refine lv_aload_n hx hb dX0_add_24 rfl (lv_at hl 0 rfl) ?_
  refine mm_get (v := .int (x2 4 4)) C hH hin0 rfl kl_4 (mm_e0 kd_4) (j := 4) (by decide) rfl w2 rfl dX0_add_25 ?_
  refine lv_iload_n hx hb dX0_add_28 rfl (lv_at hl 3 rfl) ?_
  obtain ⟨g3, h⟩ := mm_grn h
  obtain ⟨x3, e3, h⟩ := mm_bnd h
  refine mm_iast (n := 20) (jn := (Int32.toNatClampNeg (x2 4 4))) C hH kd_7 ln_7 g3 rfl (Option.some.inj e3) dX0_add_29 (fun H locs hH => ?_)
  refine lv_aload_n hx hb dX0_add_30 rfl (lv_at hl 0 rfl) ?_
  refine lv_aload_n hx hb dX0_add_31 rfl (lv_at hl 0 rfl) ?_
  refine mm_get (v := .int (x3 4 4)) C hH hin0 rfl kl_4 (mm_e0 kd_4) (j := 4) (by decide) rfl w2 rfl dX0_add_32 ?_
  refine lv_iconst (v := 1) hx hb dX0_add_35 (by decide) ?_
  refine lv_iadd hx hb dX0_add_36 ?_
  refine lv_bipush (v := 20) hx hb dX0_add_37 (by decide) ?_
  refine lv_icmp_ge (tgt := 51) hx hb dX0_add_39 (by decide) (fun c1 => ?_) (fun c1 => ?_)
  · have h := mm_pos c1 h
    have hl := lv_sub (l' := [(0, .ref (b + 4))]) hl [0] rfl
    refine lv_iconst (v := 0) hx hb dX0_add_51 (by decide) ?_
    obtain ⟨x4, e4, h⟩ := mm_bnd h
    refine mm_put (ty := .int) C hH hin0 tyX0_ok nmX0 rfl kl_4 (mm_e0 kd_4) (j := 4) (by decide) rfl w2 pd_I rfl rfl (Nat.le_of_ble_eq_true rfl) (sp_0_4 kd_4) (Option.some.inj e4) dX0_add_52 (fun H locs hH => ?_)
    refine lv_aload_n hx hb dX0_add_55 rfl (lv_at hl 0 rfl) ?_
    refine lv_aload_n hx hb dX0_add_56 rfl (lv_at hl 0 rfl) ?_
    refine mm_get (v := .int (x4 4 3)) C hH hin0 rfl kl_4 (mm_e0 kd_4) (j := 3) (by decide) rfl w5 rfl dX0_add_57 ?_
    refine lv_iconst (v := 1) hx hb dX0_add_60 (by decide) ?_
    refine lv_iadd hx hb dX0_add_61 ?_
    refine lv_bipush (v := 20) hx hb dX0_add_62 (by decide) ?_
    refine mm_minv C hl.1.symm w6 w7 w8 w9 (Nat.le_of_ble_eq_true rfl) (Nat.le_of_ble_eq_true rfl) (Nat.zero_le _) (Nat.zero_le _) dX0_add_64 ?_
    obtain ⟨x5, e5, h⟩ := mm_bnd h
    refine mm_put (ty := .int) C hH hin0 tyX0_ok nmX0 rfl kl_4 (mm_e0 kd_4) (j := 3) (by decide) rfl w5 pd_I rfl rfl (Nat.le_of_ble_eq_true rfl) (sp_0_3 kd_4) (Option.some.inj e5) dX0_add_67 (fun H locs hH => ?_)
    exact mm_vret C hH hr hlk h dX0_add_70
  · have h := mm_neg c1 h
    have hl := lv_sub (l' := [(0, .ref (b + 4))]) hl [0] rfl
    refine lv_aload_n hx hb dX0_add_42 rfl (lv_at hl 0 rfl) ?_
    refine mm_get (v := .int (x3 4 4)) C hH hin0 rfl kl_4 (mm_e0 kd_4) (j := 4) (by decide) rfl w2 rfl dX0_add_43 ?_
    refine lv_iconst (v := 1) hx hb dX0_add_46 (by decide) ?_
    refine lv_iadd hx hb dX0_add_47 ?_
    refine lv_goto (tgt := 52) hx hb dX0_add_48 (by decide) ?_
    obtain ⟨x6, e6, h⟩ := mm_bnd h
    refine mm_put (ty := .int) C hH hin0 tyX0_ok nmX0 rfl kl_4 (mm_e0 kd_4) (j := 4) (by decide) rfl w2 pd_I rfl rfl (Nat.le_of_ble_eq_true rfl) (sp_0_4 kd_4) (Option.some.inj e6) dX0_add_52 (fun H locs hH => ?_)
    refine lv_aload_n hx hb dX0_add_55 rfl (lv_at hl 0 rfl) ?_
    refine lv_aload_n hx hb dX0_add_56 rfl (lv_at hl 0 rfl) ?_
    refine mm_get (v := .int (x6 4 3)) C hH hin0 rfl kl_4 (mm_e0 kd_4) (j := 3) (by decide) rfl w5 rfl dX0_add_57 ?_
    refine lv_iconst (v := 1) hx hb dX0_add_60 (by decide) ?_
    refine lv_iadd hx hb dX0_add_61 ?_
    refine lv_bipush (v := 20) hx hb dX0_add_62 (by decide) ?_
    refine mm_minv C hl.1.symm w6 w7 w8 w9 (Nat.le_of_ble_eq_true rfl) (Nat.le_of_ble_eq_true rfl) (Nat.zero_le _) (Nat.zero_le _) dX0_add_64 ?_
    obtain ⟨x7, e7, h⟩ := mm_bnd h
    refine mm_put (ty := .int) C hH hin0 tyX0_ok nmX0 rfl kl_4 (mm_e0 kd_4) (j := 3) (by decide) rfl w5 pd_I rfl rfl (Nat.le_of_ble_eq_true rfl) (sp_0_3 kd_4) (Option.some.inj e7) dX0_add_67 (fun H locs hH => ?_)
    exact mm_vret C hH hr hlk h dX0_add_70
def fn_X0_tell (a1 : Int32) (a2 : Int32) (x : mm_M) : Option Int32 :=
  if a1 < 0 then some ((-1) : Int32) else if a1 < (x 4 3) then (some ((((x 4 4) - 1) - a1) : Int32)).bind fun v1 => if (0 : Int32) ≤ v1 then if a2 = 0 then if v1 < 0 ∨ 20 ≤ Int32.toNatClampNeg v1 then none else some (x 5 (Int32.toNatClampNeg v1)) else if a2 = 1 then if v1 < 0 ∨ 20 ≤ Int32.toNatClampNeg v1 then none else some (x 6 (Int32.toNatClampNeg v1)) else if a2 = 2 then if v1 < 0 ∨ 20 ≤ Int32.toNatClampNeg v1 then none else some (x 7 (Int32.toNatClampNeg v1)) else some ((-2) : Int32) else (some (v1 + 20)).bind fun v2 => if a2 = 0 then if v2 < 0 ∨ 20 ≤ Int32.toNatClampNeg v2 then none else some (x 5 (Int32.toNatClampNeg v2)) else if a2 = 1 then if v2 < 0 ∨ 20 ≤ Int32.toNatClampNeg v2 then none else some (x 6 (Int32.toNatClampNeg v2)) else if a2 = 2 then if v2 < 0 ∨ 20 ≤ Int32.toNatClampNeg v2 then none else some (x 7 (Int32.toNatClampNeg v2)) else some ((-2) : Int32) else some ((-1) : Int32)
abbrev rm_X0_tell : Room := { frames := 0, cells := 0, slots := 0, locals := 0 }
theorem df_X0_tell : yX0_tell.cls = RX0 ∧ yX0_tell.cls ≠ "java/lang/invoke/MethodHandle" ∧ yX0_tell.cls ≠ "java/lang/invoke/VarHandle" ∧ (parseMethodDescriptor yX0_tell.desc).map (fun d => d.parameters.length) = some 2 := by decide +kernel
set_option maxRecDepth 100000 in
set_option maxHeartbeats 4000000 in
theorem ct_X0_tell (l : Launch) (G : va_G) (T : Nat → ClassId) (b : Nat) (z : Nat → Nat) (a1 : Int32) (a2 : Int32) (x : mm_M) {r : Int32} (h : fn_X0_tell a1 a2 x = some r) : mm_Ci l yX0_tell wsX0_tell rm_X0_tell G T b z [.ref (b + 4), .int a1, .int a2] x r x := by
  unfold fn_X0_tell at h
  refine mm_start (cc := cX0_tell) (maxL := 4) (ret := (some .int)) (by decide) rfl (Nat.le_of_ble_eq_true rfl) (fun p e s m below meth c ls C hr hlk hH hl => ?_)
  have hl : lv_has ls 4 [(0, .ref (b + 4)), (1, .int a1), (2, .int a2)] := hl
  have hx := C.1
  have hb := C.2.1
  have w1 := C.2.2.2.2.1 (.fieldLink RX0 21 "LandingFines$Journal" "size" "I") (by decide +kernel)
  have w2 := C.2.2.2.2.1 (.fieldLink RX0 25 "LandingFines$Journal" "next" "I") (by decide +kernel)
  have w3 := C.2.2.2.2.1 (.fieldLink RX0 9 "LandingFines$Journal" "sorts" "[I") (by decide +kernel)
  have w4 := C.2.2.2.2.1 (.fieldLink RX0 15 "LandingFines$Journal" "places" "[I") (by decide +kernel)
  have w5 := C.2.2.2.2.1 (.fieldLink RX0 18 "LandingFines$Journal" "minutes" "[I") (by decide +kernel)
  have hin0 : ∀ w ∈ wsX00, w ∈ wsX0_tell := by decide +kernel
  refine lv_iload_n hx hb dX0_tell_0 rfl (lv_at hl 1 rfl) ?_
  refine lv_if_lt (tgt := 12) hx hb dX0_tell_1 (by decide) (fun c1 => ?_) (fun c1 => ?_)
  · have h := mm_pos c1 h
    have hl := lv_sub (l' := []) hl [] rfl
    refine lv_iconst (v := (-1)) hx hb dX0_tell_12 (by decide) ?_
    exact mm_iretP C hH hr hlk rfl h dX0_tell_13
  · have h := mm_neg c1 h
    refine lv_iload_n hx hb dX0_tell_4 rfl (lv_at hl 1 rfl) ?_
    refine lv_aload_n hx hb dX0_tell_5 rfl (lv_at hl 0 rfl) ?_
    refine mm_get (v := .int (x 4 3)) C hH hin0 rfl kl_4 (mm_e0 kd_4) (j := 3) (by decide) rfl w1 rfl dX0_tell_6 ?_
    refine lv_icmp_lt (tgt := 14) hx hb dX0_tell_9 (by decide) (fun c2 => ?_) (fun c2 => ?_)
    · have h := mm_pos c2 h
      refine lv_aload_n hx hb dX0_tell_14 rfl (lv_at hl 0 rfl) ?_
      refine mm_get (v := .int (x 4 4)) C hH hin0 rfl kl_4 (mm_e0 kd_4) (j := 4) (by decide) rfl w2 rfl dX0_tell_15 ?_
      refine lv_iconst (v := 1) hx hb dX0_tell_18 (by decide) ?_
      refine lv_isub hx hb dX0_tell_19 ?_
      refine lv_iload_n hx hb dX0_tell_20 rfl (lv_at hl 1 rfl) ?_
      refine lv_isub hx hb dX0_tell_21 ?_
      obtain ⟨v1, e1, h⟩ := mm_bnd h
      refine mm_nmi e1 ?_
      refine lv_istore_n (lv' := [(3, .int v1), (0, .ref (b + 4)), (1, .int a1), (2, .int a2)]) hx hb dX0_tell_22 rfl hl (by decide) rfl (fun ls hl => ?_)
      have hl := lv_sub (l' := [(3, .int v1), (0, .ref (b + 4)), (2, .int a2)]) hl [0, 1, 3] rfl
      refine lv_iload_n hx hb dX0_tell_23 rfl (lv_at hl 0 rfl) ?_
      refine lv_if_ge (tgt := 30) hx hb dX0_tell_24 (by decide) (fun c3 => ?_) (fun c3 => ?_)
      · have h := mm_pos c3 h
        refine lv_iload_n hx hb dX0_tell_30 rfl (lv_at hl 2 rfl) ?_
        by_cases c4 : a2 = 0
        · have h := mm_pos c4 h
          refine lv_tableIn (off := 25) (tgt := 56) hx hb dX0_tell_31 (by rw [c4]; decide) (by rw [c4]; decide) (by rw [c4]; decide) (by decide) ?_
          have hl := lv_sub (l' := [(3, .int v1), (0, .ref (b + 4))]) hl [0, 1] rfl
          refine lv_aload_n hx hb dX0_tell_56 rfl (lv_at hl 1 rfl) ?_
          refine mm_get (v := .ref (b + 5)) C hH hin0 rfl kl_4 (mm_e0 kd_4) (j := 0) (by decide) rfl w3 rfl dX0_tell_57 ?_
          refine lv_iload_n hx hb dX0_tell_60 rfl (lv_at hl 0 rfl) ?_
          obtain ⟨g1, h⟩ := mm_grn h
          refine mm_iald (n := 20) (jn := (Int32.toNatClampNeg v1)) C hH kd_5 ln_5 g1 rfl dX0_tell_61 ?_
          exact mm_iretP C hH hr hlk rfl h dX0_tell_62
        have h := mm_neg c4 h
        by_cases c5 : a2 = 1
        · have h := mm_pos c5 h
          refine lv_tableIn (off := 32) (tgt := 63) hx hb dX0_tell_31 (by rw [c5]; decide) (by rw [c5]; decide) (by rw [c5]; decide) (by decide) ?_
          have hl := lv_sub (l' := [(3, .int v1), (0, .ref (b + 4))]) hl [0, 1] rfl
          refine lv_aload_n hx hb dX0_tell_63 rfl (lv_at hl 1 rfl) ?_
          refine mm_get (v := .ref (b + 6)) C hH hin0 rfl kl_4 (mm_e0 kd_4) (j := 1) (by decide) rfl w4 rfl dX0_tell_64 ?_
          refine lv_iload_n hx hb dX0_tell_67 rfl (lv_at hl 0 rfl) ?_
          obtain ⟨g2, h⟩ := mm_grn h
          refine mm_iald (n := 20) (jn := (Int32.toNatClampNeg v1)) C hH kd_6 ln_6 g2 rfl dX0_tell_68 ?_
          exact mm_iretP C hH hr hlk rfl h dX0_tell_69
        have h := mm_neg c5 h
        by_cases c6 : a2 = 2
        · have h := mm_pos c6 h
          refine lv_tableIn (off := 39) (tgt := 70) hx hb dX0_tell_31 (by rw [c6]; decide) (by rw [c6]; decide) (by rw [c6]; decide) (by decide) ?_
          have hl := lv_sub (l' := [(3, .int v1), (0, .ref (b + 4))]) hl [0, 1] rfl
          refine lv_aload_n hx hb dX0_tell_70 rfl (lv_at hl 1 rfl) ?_
          refine mm_get (v := .ref (b + 7)) C hH hin0 rfl kl_4 (mm_e0 kd_4) (j := 2) (by decide) rfl w5 rfl dX0_tell_71 ?_
          refine lv_iload_n hx hb dX0_tell_74 rfl (lv_at hl 0 rfl) ?_
          obtain ⟨g3, h⟩ := mm_grn h
          refine mm_iald (n := 20) (jn := (Int32.toNatClampNeg v1)) C hH kd_7 ln_7 g3 rfl dX0_tell_75 ?_
          exact mm_iretP C hH hr hlk rfl h dX0_tell_76
        have h := mm_neg c6 h
        have nc4 := mm_tn (a := 0) c4 (by decide)
        have nc5 := mm_tn (a := 1) c5 (by decide)
        have nc6 := mm_tn (a := 2) c6 (by decide)
        refine lv_tableOut (tgt := 77) hx hb dX0_tell_31 (by omega) (by decide) ?_
        have hl := lv_sub (l' := []) hl [] rfl
        refine lv_bipush (v := (-2)) hx hb dX0_tell_77 (by decide) ?_
        exact mm_iretP C hH hr hlk rfl h dX0_tell_79
      · have h := mm_neg c3 h
        obtain ⟨v2, e2, h⟩ := mm_bnd h
        refine lv_iinc (v := v2) (lv' := [(3, .int v2), (0, .ref (b + 4)), (2, .int a2)]) hx hb dX0_tell_27 hl (k := 0) rfl (Option.some.inj e2) (by decide) rfl (fun ls hl => ?_)
        refine lv_iload_n hx hb dX0_tell_30 rfl (lv_at hl 2 rfl) ?_
        by_cases c7 : a2 = 0
        · have h := mm_pos c7 h
          refine lv_tableIn (off := 25) (tgt := 56) hx hb dX0_tell_31 (by rw [c7]; decide) (by rw [c7]; decide) (by rw [c7]; decide) (by decide) ?_
          have hl := lv_sub (l' := [(3, .int v2), (0, .ref (b + 4))]) hl [0, 1] rfl
          refine lv_aload_n hx hb dX0_tell_56 rfl (lv_at hl 1 rfl) ?_
          refine mm_get (v := .ref (b + 5)) C hH hin0 rfl kl_4 (mm_e0 kd_4) (j := 0) (by decide) rfl w3 rfl dX0_tell_57 ?_
          refine lv_iload_n hx hb dX0_tell_60 rfl (lv_at hl 0 rfl) ?_
          obtain ⟨g4, h⟩ := mm_grn h
          refine mm_iald (n := 20) (jn := (Int32.toNatClampNeg v2)) C hH kd_5 ln_5 g4 rfl dX0_tell_61 ?_
          exact mm_iretP C hH hr hlk rfl h dX0_tell_62
        have h := mm_neg c7 h
        by_cases c8 : a2 = 1
        · have h := mm_pos c8 h
          refine lv_tableIn (off := 32) (tgt := 63) hx hb dX0_tell_31 (by rw [c8]; decide) (by rw [c8]; decide) (by rw [c8]; decide) (by decide) ?_
          have hl := lv_sub (l' := [(3, .int v2), (0, .ref (b + 4))]) hl [0, 1] rfl
          refine lv_aload_n hx hb dX0_tell_63 rfl (lv_at hl 1 rfl) ?_
          refine mm_get (v := .ref (b + 6)) C hH hin0 rfl kl_4 (mm_e0 kd_4) (j := 1) (by decide) rfl w4 rfl dX0_tell_64 ?_
          refine lv_iload_n hx hb dX0_tell_67 rfl (lv_at hl 0 rfl) ?_
          obtain ⟨g5, h⟩ := mm_grn h
          refine mm_iald (n := 20) (jn := (Int32.toNatClampNeg v2)) C hH kd_6 ln_6 g5 rfl dX0_tell_68 ?_
          exact mm_iretP C hH hr hlk rfl h dX0_tell_69
        have h := mm_neg c8 h
        by_cases c9 : a2 = 2
        · have h := mm_pos c9 h
          refine lv_tableIn (off := 39) (tgt := 70) hx hb dX0_tell_31 (by rw [c9]; decide) (by rw [c9]; decide) (by rw [c9]; decide) (by decide) ?_
          have hl := lv_sub (l' := [(3, .int v2), (0, .ref (b + 4))]) hl [0, 1] rfl
          refine lv_aload_n hx hb dX0_tell_70 rfl (lv_at hl 1 rfl) ?_
          refine mm_get (v := .ref (b + 7)) C hH hin0 rfl kl_4 (mm_e0 kd_4) (j := 2) (by decide) rfl w5 rfl dX0_tell_71 ?_
          refine lv_iload_n hx hb dX0_tell_74 rfl (lv_at hl 0 rfl) ?_
          obtain ⟨g6, h⟩ := mm_grn h
          refine mm_iald (n := 20) (jn := (Int32.toNatClampNeg v2)) C hH kd_7 ln_7 g6 rfl dX0_tell_75 ?_
          exact mm_iretP C hH hr hlk rfl h dX0_tell_76
        have h := mm_neg c9 h
        have nc7 := mm_tn (a := 0) c7 (by decide)
        have nc8 := mm_tn (a := 1) c8 (by decide)
        have nc9 := mm_tn (a := 2) c9 (by decide)
        refine lv_tableOut (tgt := 77) hx hb dX0_tell_31 (by omega) (by decide) ?_
        have hl := lv_sub (l' := []) hl [] rfl
        refine lv_bipush (v := (-2)) hx hb dX0_tell_77 (by decide) ?_
        exact mm_iretP C hH hr hlk rfl h dX0_tell_79
    · have h := mm_neg c2 h
      have hl := lv_sub (l' := []) hl [] rfl
      refine lv_iconst (v := (-1)) hx hb dX0_tell_12 (by decide) ?_
      exact mm_iretP C hH hr hlk rfl h dX0_tell_13
def fn_X0_copyFrom (k0 : Nat) (k1 : Nat) (x : mm_M) : Option mm_M :=
  if mm_kd k0 = 0 then if mm_kd k1 = 0 then (some (mm_cy x (k1 + 1) (k0 + 1) 0 0 20)).bind fun x1 => (some (mm_cy x1 (k1 + 2) (k0 + 2) 0 0 20)).bind fun x2 => (some (mm_cy x2 (k1 + 3) (k0 + 3) 0 0 20)).bind fun x3 => (some (mm_up x3 k0 3 (x3 k1 3))).bind fun x4 => (some (mm_up x4 k0 4 (x4 k1 4))).bind fun x5 => some x5 else none else none
abbrev rm_X0_copyFrom : Room := { frames := 1, cells := 0, slots := 0, locals := 26 }
theorem df_X0_copyFrom : yX0_copyFrom.cls = RX0 ∧ yX0_copyFrom.cls ≠ "java/lang/invoke/MethodHandle" ∧ yX0_copyFrom.cls ≠ "java/lang/invoke/VarHandle" ∧ (parseMethodDescriptor yX0_copyFrom.desc).map (fun d => d.parameters.length) = some 1 := by decide +kernel
set_option maxRecDepth 100000 in
set_option maxHeartbeats 4000000 in
theorem ct_X0_copyFrom (l : Launch) (G : va_G) (T : Nat → ClassId) (b : Nat) (z : Nat → Nat) (k0 : Nat) (k1 : Nat) (x : mm_M) {x1 : mm_M} (h : fn_X0_copyFrom k0 k1 x = some x1) : mm_Cv l yX0_copyFrom wsX0_copyFrom rm_X0_copyFrom G T b z [.ref (b + k0), .ref (b + k1)] x x1 := by
  unfold fn_X0_copyFrom at h
  refine mm_start (cc := cX0_copyFrom) (maxL := 2) (ret := none) (by decide) rfl (Nat.le_of_ble_eq_true rfl) (fun p e s m below meth c ls C hr hlk hH hl => ?_)
  have hl : lv_has ls 2 [(0, .ref (b + k0)), (1, .ref (b + k1))] := hl
  have hx := C.1
  have hb := C.2.1
  have w1 := C.2.2.2.2.1 (.fieldLink RX0 9 "LandingFines$Journal" "sorts" "[I") (by decide +kernel)
  have w2 := C.2.2.2.2.1 (.methodLink RX0 34 arraycopyName) (by decide +kernel)
  have w3 := C.2.2.2.2.1 (.native arraycopyName) (by decide +kernel)
  have w4 := C.2.2.2.2.1 (.static arraycopyName) (by decide +kernel)
  have w5 := C.2.2.2.2.1 (.initialized "java/lang/System") (by decide +kernel)
  have w6 := C.2.2.2.2.1 (.fieldLink RX0 15 "LandingFines$Journal" "places" "[I") (by decide +kernel)
  have w7 := C.2.2.2.2.1 (.fieldLink RX0 18 "LandingFines$Journal" "minutes" "[I") (by decide +kernel)
  have w8 := C.2.2.2.2.1 (.fieldLink RX0 21 "LandingFines$Journal" "size" "I") (by decide +kernel)
  have w9 := C.2.2.2.2.1 (.fieldLink RX0 25 "LandingFines$Journal" "next" "I") (by decide +kernel)
  have hin0 : ∀ w ∈ wsX00, w ∈ wsX0_copyFrom := by decide +kernel
  obtain ⟨hk0, h⟩ := mm_grd h
  have hk0l := mm_lt hk0 (by decide)
  obtain ⟨hk1, h⟩ := mm_grd h
  have hk1l := mm_lt hk1 (by decide)
  refine lv_aload_n hx hb dX0_copyFrom_0 rfl (lv_at hl 1 rfl) ?_
  refine mm_get (v := .ref (b + (k1 + 1))) C hH hin0 rfl hk1l (mm_e0 hk1) (j := 0) (by decide) rfl w1 rfl dX0_copyFrom_1 ?_
  refine lv_iconst (v := 0) hx hb dX0_copyFrom_4 (by decide) ?_
  refine lv_aload_n hx hb dX0_copyFrom_5 rfl (lv_at hl 0 rfl) ?_
  refine mm_get (v := .ref (b + (k0 + 1))) C hH hin0 rfl hk0l (mm_e0 hk0) (j := 0) (by decide) rfl w1 rfl dX0_copyFrom_6 ?_
  refine lv_iconst (v := 0) hx hb dX0_copyFrom_9 (by decide) ?_
  refine lv_bipush (v := 20) hx hb dX0_copyFrom_10 (by decide) ?_
  obtain ⟨x1, e1, h⟩ := mm_bnd h
  refine mm_copy (n0 := 20) (n1 := 20) C hl.1.symm hH (mm_jn1 hk1).1 (mm_jn1 hk0).1 (mm_jn1 hk1).2 (mm_jn1 hk0).2 w2 w3 w4 w5 (by decide) (by decide) (by decide) (by decide) (by decide) (Nat.le_of_ble_eq_true rfl) (Nat.le_of_ble_eq_true rfl) (Option.some.inj e1) dX0_copyFrom_12 (fun H locs hH => ?_)
  refine lv_aload_n hx hb dX0_copyFrom_15 rfl (lv_at hl 1 rfl) ?_
  refine mm_get (v := .ref (b + (k1 + 2))) C hH hin0 rfl hk1l (mm_e0 hk1) (j := 1) (by decide) rfl w6 rfl dX0_copyFrom_16 ?_
  refine lv_iconst (v := 0) hx hb dX0_copyFrom_19 (by decide) ?_
  refine lv_aload_n hx hb dX0_copyFrom_20 rfl (lv_at hl 0 rfl) ?_
  refine mm_get (v := .ref (b + (k0 + 2))) C hH hin0 rfl hk0l (mm_e0 hk0) (j := 1) (by decide) rfl w6 rfl dX0_copyFrom_21 ?_
  refine lv_iconst (v := 0) hx hb dX0_copyFrom_24 (by decide) ?_
  refine lv_bipush (v := 20) hx hb dX0_copyFrom_25 (by decide) ?_
  obtain ⟨x2, e2, h⟩ := mm_bnd h
  refine mm_copy (n0 := 20) (n1 := 20) C hl.1.symm hH (mm_jn2 hk1).1 (mm_jn2 hk0).1 (mm_jn2 hk1).2 (mm_jn2 hk0).2 w2 w3 w4 w5 (by decide) (by decide) (by decide) (by decide) (by decide) (Nat.le_of_ble_eq_true rfl) (Nat.le_of_ble_eq_true rfl) (Option.some.inj e2) dX0_copyFrom_27 (fun H locs hH => ?_)
  refine lv_aload_n hx hb dX0_copyFrom_30 rfl (lv_at hl 1 rfl) ?_
  refine mm_get (v := .ref (b + (k1 + 3))) C hH hin0 rfl hk1l (mm_e0 hk1) (j := 2) (by decide) rfl w7 rfl dX0_copyFrom_31 ?_
  refine lv_iconst (v := 0) hx hb dX0_copyFrom_34 (by decide) ?_
  refine lv_aload_n hx hb dX0_copyFrom_35 rfl (lv_at hl 0 rfl) ?_
  refine mm_get (v := .ref (b + (k0 + 3))) C hH hin0 rfl hk0l (mm_e0 hk0) (j := 2) (by decide) rfl w7 rfl dX0_copyFrom_36 ?_
  refine lv_iconst (v := 0) hx hb dX0_copyFrom_39 (by decide) ?_
  refine lv_bipush (v := 20) hx hb dX0_copyFrom_40 (by decide) ?_
  obtain ⟨x3, e3, h⟩ := mm_bnd h
  refine mm_copy (n0 := 20) (n1 := 20) C hl.1.symm hH (mm_jn3 hk1).1 (mm_jn3 hk0).1 (mm_jn3 hk1).2 (mm_jn3 hk0).2 w2 w3 w4 w5 (by decide) (by decide) (by decide) (by decide) (by decide) (Nat.le_of_ble_eq_true rfl) (Nat.le_of_ble_eq_true rfl) (Option.some.inj e3) dX0_copyFrom_42 (fun H locs hH => ?_)
  refine lv_aload_n hx hb dX0_copyFrom_45 rfl (lv_at hl 0 rfl) ?_
  refine lv_aload_n hx hb dX0_copyFrom_46 rfl (lv_at hl 1 rfl) ?_
  refine mm_get (v := .int (x3 k1 3)) C hH hin0 rfl hk1l (mm_e0 hk1) (j := 3) (by decide) rfl w8 rfl dX0_copyFrom_47 ?_
  obtain ⟨x4, e4, h⟩ := mm_bnd h
  refine mm_put (ty := .int) C hH hin0 tyX0_ok nmX0 rfl hk0l (mm_e0 hk0) (j := 3) (by decide) rfl w8 pd_I rfl rfl (Nat.le_of_ble_eq_true rfl) (sp_0_3 hk0) (Option.some.inj e4) dX0_copyFrom_50 (fun H locs hH => ?_)
  refine lv_aload_n hx hb dX0_copyFrom_53 rfl (lv_at hl 0 rfl) ?_
  refine lv_aload_n hx hb dX0_copyFrom_54 rfl (lv_at hl 1 rfl) ?_
  refine mm_get (v := .int (x4 k1 4)) C hH hin0 rfl hk1l (mm_e0 hk1) (j := 4) (by decide) rfl w9 rfl dX0_copyFrom_55 ?_
  obtain ⟨x5, e5, h⟩ := mm_bnd h
  refine mm_put (ty := .int) C hH hin0 tyX0_ok nmX0 rfl hk0l (mm_e0 hk0) (j := 4) (by decide) rfl w9 pd_I rfl rfl (Nat.le_of_ble_eq_true rfl) (sp_0_4 hk0) (Option.some.inj e5) dX0_copyFrom_58 (fun H locs hH => ?_)
  exact mm_vret C hH hr hlk h dX0_copyFrom_61
def fn_X1_arrive (k0 : Nat) (a1 : Int32) (x : mm_M) : Option mm_M :=
  if mm_kd k0 = 1 then (some (mm_up x k0 0 1)).bind fun x1 => (some (mm_up x1 k0 1 a1)).bind fun x2 => (some (mm_up x2 k0 2 0)).bind fun x3 => (some (mm_up x3 k0 3 0)).bind fun x4 => (some (mm_up x4 k0 4 0)).bind fun x5 => (some (mm_up x5 k0 5 0)).bind fun x6 => (some (mm_up x6 k0 6 0)).bind fun x7 => (some (mm_up x7 k0 7 0)).bind fun x8 => some x8 else none
abbrev rm_X1_arrive : Room := { frames := 0, cells := 0, slots := 0, locals := 0 }
theorem df_X1_arrive : yX1_arrive.cls = RX1 ∧ yX1_arrive.cls ≠ "java/lang/invoke/MethodHandle" ∧ yX1_arrive.cls ≠ "java/lang/invoke/VarHandle" ∧ (parseMethodDescriptor yX1_arrive.desc).map (fun d => d.parameters.length) = some 1 := by decide +kernel
set_option maxRecDepth 100000 in
set_option maxHeartbeats 4000000 in
theorem ct_X1_arrive (l : Launch) (G : va_G) (T : Nat → ClassId) (b : Nat) (z : Nat → Nat) (k0 : Nat) (a1 : Int32) (x : mm_M) {x1 : mm_M} (h : fn_X1_arrive k0 a1 x = some x1) : mm_Cv l yX1_arrive wsX1_arrive rm_X1_arrive G T b z [.ref (b + k0), .int a1] x x1 := by
  unfold fn_X1_arrive at h
  refine mm_start (cc := cX1_arrive) (maxL := 2) (ret := none) (by decide) rfl (Nat.le_of_ble_eq_true rfl) (fun p e s m below meth c ls C hr hlk hH hl => ?_)
  have hl : lv_has ls 2 [(0, .ref (b + k0)), (1, .int a1)] := hl
  have hx := C.1
  have hb := C.2.1
  have w1 := C.2.2.2.2.1 (.fieldLink RX1 9 "LandingFines$Landing" "isOpen" "Z") (by decide +kernel)
  have w2 := C.2.2.2.2.1 (.fieldLink RX1 15 "LandingFines$Landing" "fare" "I") (by decide +kernel)
  have w3 := C.2.2.2.2.1 (.fieldLink RX1 19 "LandingFines$Landing" "fine" "I") (by decide +kernel)
  have w4 := C.2.2.2.2.1 (.fieldLink RX1 22 "LandingFines$Landing" "isShunned" "Z") (by decide +kernel)
  have w5 := C.2.2.2.2.1 (.fieldLink RX1 25 "LandingFines$Landing" "minutesShunned" "I") (by decide +kernel)
  have w6 := C.2.2.2.2.1 (.fieldLink RX1 28 "LandingFines$Landing" "minutesSinceHalving" "I") (by decide +kernel)
  have w7 := C.2.2.2.2.1 (.fieldLink RX1 31 "LandingFines$Landing" "changes" "I") (by decide +kernel)
  have w8 := C.2.2.2.2.1 (.fieldLink RX1 34 "LandingFines$Landing" "timesShunned" "I") (by decide +kernel)
  have hin1 : ∀ w ∈ wsX10, w ∈ wsX1_arrive := by decide +kernel
  obtain ⟨hk0, h⟩ := mm_grd h
  have hk0l := mm_lt hk0 (by decide)
  refine lv_aload_n hx hb dX1_arrive_0 rfl (lv_at hl 0 rfl) ?_
  refine lv_iconst (v := 1) hx hb dX1_arrive_1 (by decide) ?_
  obtain ⟨x1, e1, h⟩ := mm_bnd h
  refine mm_put (ty := .boolean) C hH hin1 tyX1_ok nmX1 rfl hk0l (mm_e1 hk0) (j := 0) (by decide) rfl w1 pd_Z rfl rfl (Nat.le_of_ble_eq_true rfl) (sp_1_0 hk0) (Option.some.inj e1) dX1_arrive_2 (fun H locs hH => ?_)
  refine lv_aload_n hx hb dX1_arrive_5 rfl (lv_at hl 0 rfl) ?_
  refine lv_iload_n hx hb dX1_arrive_6 rfl (lv_at hl 1 rfl) ?_
  obtain ⟨x2, e2, h⟩ := mm_bnd h
  refine mm_put (ty := .int) C hH hin1 tyX1_ok nmX1 rfl hk0l (mm_e1 hk0) (j := 1) (by decide) rfl w2 pd_I rfl rfl (Nat.le_of_ble_eq_true rfl) (sp_1_1 hk0) (Option.some.inj e2) dX1_arrive_7 (fun H locs hH => ?_)
  refine lv_aload_n hx hb dX1_arrive_10 rfl (lv_at hl 0 rfl) ?_
  refine lv_iconst (v := 0) hx hb dX1_arrive_11 (by decide) ?_
  obtain ⟨x3, e3, h⟩ := mm_bnd h
  refine mm_put (ty := .int) C hH hin1 tyX1_ok nmX1 rfl hk0l (mm_e1 hk0) (j := 2) (by decide) rfl w3 pd_I rfl rfl (Nat.le_of_ble_eq_true rfl) (sp_1_2 hk0) (Option.some.inj e3) dX1_arrive_12 (fun H locs hH => ?_)
  refine lv_aload_n hx hb dX1_arrive_15 rfl (lv_at hl 0 rfl) ?_
  refine lv_iconst (v := 0) hx hb dX1_arrive_16 (by decide) ?_
  obtain ⟨x4, e4, h⟩ := mm_bnd h
  refine mm_put (ty := .boolean) C hH hin1 tyX1_ok nmX1 rfl hk0l (mm_e1 hk0) (j := 3) (by decide) rfl w4 pd_Z rfl rfl (Nat.le_of_ble_eq_true rfl) (sp_1_3 hk0) (Option.some.inj e4) dX1_arrive_17 (fun H locs hH => ?_)
  refine lv_aload_n hx hb dX1_arrive_20 rfl (lv_at hl 0 rfl) ?_
  refine lv_iconst (v := 0) hx hb dX1_arrive_21 (by decide) ?_
  obtain ⟨x5, e5, h⟩ := mm_bnd h
  refine mm_put (ty := .int) C hH hin1 tyX1_ok nmX1 rfl hk0l (mm_e1 hk0) (j := 4) (by decide) rfl w5 pd_I rfl rfl (Nat.le_of_ble_eq_true rfl) (sp_1_4 hk0) (Option.some.inj e5) dX1_arrive_22 (fun H locs hH => ?_)
  refine lv_aload_n hx hb dX1_arrive_25 rfl (lv_at hl 0 rfl) ?_
  refine lv_iconst (v := 0) hx hb dX1_arrive_26 (by decide) ?_
  obtain ⟨x6, e6, h⟩ := mm_bnd h
  refine mm_put (ty := .int) C hH hin1 tyX1_ok nmX1 rfl hk0l (mm_e1 hk0) (j := 5) (by decide) rfl w6 pd_I rfl rfl (Nat.le_of_ble_eq_true rfl) (sp_1_5 hk0) (Option.some.inj e6) dX1_arrive_27 (fun H locs hH => ?_)
  refine lv_aload_n hx hb dX1_arrive_30 rfl (lv_at hl 0 rfl) ?_
  refine lv_iconst (v := 0) hx hb dX1_arrive_31 (by decide) ?_
  obtain ⟨x7, e7, h⟩ := mm_bnd h
  refine mm_put (ty := .int) C hH hin1 tyX1_ok nmX1 rfl hk0l (mm_e1 hk0) (j := 6) (by decide) rfl w7 pd_I rfl rfl (Nat.le_of_ble_eq_true rfl) (sp_1_6 hk0) (Option.some.inj e7) dX1_arrive_32 (fun H locs hH => ?_)
  refine lv_aload_n hx hb dX1_arrive_35 rfl (lv_at hl 0 rfl) ?_
  refine lv_iconst (v := 0) hx hb dX1_arrive_36 (by decide) ?_
  obtain ⟨x8, e8, h⟩ := mm_bnd h
  refine mm_put (ty := .int) C hH hin1 tyX1_ok nmX1 rfl hk0l (mm_e1 hk0) (j := 7) (by decide) rfl w8 pd_I rfl rfl (Nat.le_of_ble_eq_true rfl) (sp_1_7 hk0) (Option.some.inj e8) dX1_arrive_37 (fun H locs hH => ?_)
  exact mm_vret C hH hr hlk h dX1_arrive_40
def fn_X1_copyFrom (k0 : Nat) (k1 : Nat) (x : mm_M) : Option mm_M :=
  if mm_kd k0 = 1 then if mm_kd k1 = 1 then if vp_nar .boolean (x k1 0) = (x k1 0) then (some (mm_up x k0 0 (x k1 0))).bind fun x1 => (some (mm_up x1 k0 1 (x1 k1 1))).bind fun x2 => (some (mm_up x2 k0 2 (x2 k1 2))).bind fun x3 => if vp_nar .boolean (x3 k1 3) = (x3 k1 3) then (some (mm_up x3 k0 3 (x3 k1 3))).bind fun x4 => (some (mm_up x4 k0 4 (x4 k1 4))).bind fun x5 => (some (mm_up x5 k0 5 (x5 k1 5))).bind fun x6 => (some (mm_up x6 k0 6 (x6 k1 6))).bind fun x7 => (some (mm_up x7 k0 7 (x7 k1 7))).bind fun x8 => some x8 else none else none else none else none
abbrev rm_X1_copyFrom : Room := { frames := 0, cells := 0, slots := 0, locals := 0 }
theorem df_X1_copyFrom : yX1_copyFrom.cls = RX1 ∧ yX1_copyFrom.cls ≠ "java/lang/invoke/MethodHandle" ∧ yX1_copyFrom.cls ≠ "java/lang/invoke/VarHandle" ∧ (parseMethodDescriptor yX1_copyFrom.desc).map (fun d => d.parameters.length) = some 1 := by decide +kernel
set_option maxRecDepth 100000 in
set_option maxHeartbeats 4000000 in
theorem ct_X1_copyFrom (l : Launch) (G : va_G) (T : Nat → ClassId) (b : Nat) (z : Nat → Nat) (k0 : Nat) (k1 : Nat) (x : mm_M) {x1 : mm_M} (h : fn_X1_copyFrom k0 k1 x = some x1) : mm_Cv l yX1_copyFrom wsX1_copyFrom rm_X1_copyFrom G T b z [.ref (b + k0), .ref (b + k1)] x x1 := by
  unfold fn_X1_copyFrom at h
  refine mm_start (cc := cX1_copyFrom) (maxL := 2) (ret := none) (by decide) rfl (Nat.le_of_ble_eq_true rfl) (fun p e s m below meth c ls C hr hlk hH hl => ?_)
  have hl : lv_has ls 2 [(0, .ref (b + k0)), (1, .ref (b + k1))] := hl
  have hx := C.1
  have hb := C.2.1
  have w1 := C.2.2.2.2.1 (.fieldLink RX1 9 "LandingFines$Landing" "isOpen" "Z") (by decide +kernel)
  have w2 := C.2.2.2.2.1 (.fieldLink RX1 15 "LandingFines$Landing" "fare" "I") (by decide +kernel)
  have w3 := C.2.2.2.2.1 (.fieldLink RX1 19 "LandingFines$Landing" "fine" "I") (by decide +kernel)
  have w4 := C.2.2.2.2.1 (.fieldLink RX1 22 "LandingFines$Landing" "isShunned" "Z") (by decide +kernel)
  have w5 := C.2.2.2.2.1 (.fieldLink RX1 25 "LandingFines$Landing" "minutesShunned" "I") (by decide +kernel)
  have w6 := C.2.2.2.2.1 (.fieldLink RX1 28 "LandingFines$Landing" "minutesSinceHalving" "I") (by decide +kernel)
  have w7 := C.2.2.2.2.1 (.fieldLink RX1 31 "LandingFines$Landing" "changes" "I") (by decide +kernel)
  have w8 := C.2.2.2.2.1 (.fieldLink RX1 34 "LandingFines$Landing" "timesShunned" "I") (by decide +kernel)
  have hin1 : ∀ w ∈ wsX10, w ∈ wsX1_copyFrom := by decide +kernel
  obtain ⟨hk0, h⟩ := mm_grd h
  have hk0l := mm_lt hk0 (by decide)
  obtain ⟨hk1, h⟩ := mm_grd h
  have hk1l := mm_lt hk1 (by decide)
  refine lv_aload_n hx hb dX1_copyFrom_0 rfl (lv_at hl 0 rfl) ?_
  refine lv_aload_n hx hb dX1_copyFrom_1 rfl (lv_at hl 1 rfl) ?_
  refine mm_get (v := .int (x k1 0)) C hH hin1 rfl hk1l (mm_e1 hk1) (j := 0) (by decide) rfl w1 rfl dX1_copyFrom_2 ?_
  obtain ⟨g1, h⟩ := mm_grd h
  obtain ⟨x1, e1, h⟩ := mm_bnd h
  refine mm_put (ty := .boolean) C hH hin1 tyX1_ok nmX1 rfl hk0l (mm_e1 hk0) (j := 0) (by decide) rfl w1 pd_Z (mm_narZ g1) (mm_fitZ g1) (Nat.le_of_ble_eq_true rfl) (sp_1_0 hk0) (Option.some.inj e1) dX1_copyFrom_5 (fun H locs hH => ?_)
  refine lv_aload_n hx hb dX1_copyFrom_8 rfl (lv_at hl 0 rfl) ?_
  refine lv_aload_n hx hb dX1_copyFrom_9 rfl (lv_at hl 1 rfl) ?_
  refine mm_get (v := .int (x1 k1 1)) C hH hin1 rfl hk1l (mm_e1 hk1) (j := 1) (by decide) rfl w2 rfl dX1_copyFrom_10 ?_
  obtain ⟨x2, e2, h⟩ := mm_bnd h
  refine mm_put (ty := .int) C hH hin1 tyX1_ok nmX1 rfl hk0l (mm_e1 hk0) (j := 1) (by decide) rfl w2 pd_I rfl rfl (Nat.le_of_ble_eq_true rfl) (sp_1_1 hk0) (Option.some.inj e2) dX1_copyFrom_13 (fun H locs hH => ?_)
  refine lv_aload_n hx hb dX1_copyFrom_16 rfl (lv_at hl 0 rfl) ?_
  refine lv_aload_n hx hb dX1_copyFrom_17 rfl (lv_at hl 1 rfl) ?_
  refine mm_get (v := .int (x2 k1 2)) C hH hin1 rfl hk1l (mm_e1 hk1) (j := 2) (by decide) rfl w3 rfl dX1_copyFrom_18 ?_
  obtain ⟨x3, e3, h⟩ := mm_bnd h
  refine mm_put (ty := .int) C hH hin1 tyX1_ok nmX1 rfl hk0l (mm_e1 hk0) (j := 2) (by decide) rfl w3 pd_I rfl rfl (Nat.le_of_ble_eq_true rfl) (sp_1_2 hk0) (Option.some.inj e3) dX1_copyFrom_21 (fun H locs hH => ?_)
  refine lv_aload_n hx hb dX1_copyFrom_24 rfl (lv_at hl 0 rfl) ?_
  refine lv_aload_n hx hb dX1_copyFrom_25 rfl (lv_at hl 1 rfl) ?_
  refine mm_get (v := .int (x3 k1 3)) C hH hin1 rfl hk1l (mm_e1 hk1) (j := 3) (by decide) rfl w4 rfl dX1_copyFrom_26 ?_
  obtain ⟨g2, h⟩ := mm_grd h
  obtain ⟨x4, e4, h⟩ := mm_bnd h
  refine mm_put (ty := .boolean) C hH hin1 tyX1_ok nmX1 rfl hk0l (mm_e1 hk0) (j := 3) (by decide) rfl w4 pd_Z (mm_narZ g2) (mm_fitZ g2) (Nat.le_of_ble_eq_true rfl) (sp_1_3 hk0) (Option.some.inj e4) dX1_copyFrom_29 (fun H locs hH => ?_)
  refine lv_aload_n hx hb dX1_copyFrom_32 rfl (lv_at hl 0 rfl) ?_
  refine lv_aload_n hx hb dX1_copyFrom_33 rfl (lv_at hl 1 rfl) ?_
  refine mm_get (v := .int (x4 k1 4)) C hH hin1 rfl hk1l (mm_e1 hk1) (j := 4) (by decide) rfl w5 rfl dX1_copyFrom_34 ?_
  obtain ⟨x5, e5, h⟩ := mm_bnd h
  refine mm_put (ty := .int) C hH hin1 tyX1_ok nmX1 rfl hk0l (mm_e1 hk0) (j := 4) (by decide) rfl w5 pd_I rfl rfl (Nat.le_of_ble_eq_true rfl) (sp_1_4 hk0) (Option.some.inj e5) dX1_copyFrom_37 (fun H locs hH => ?_)
  refine lv_aload_n hx hb dX1_copyFrom_40 rfl (lv_at hl 0 rfl) ?_
  refine lv_aload_n hx hb dX1_copyFrom_41 rfl (lv_at hl 1 rfl) ?_
  refine mm_get (v := .int (x5 k1 5)) C hH hin1 rfl hk1l (mm_e1 hk1) (j := 5) (by decide) rfl w6 rfl dX1_copyFrom_42 ?_
  obtain ⟨x6, e6, h⟩ := mm_bnd h
  refine mm_put (ty := .int) C hH hin1 tyX1_ok nmX1 rfl hk0l (mm_e1 hk0) (j := 5) (by decide) rfl w6 pd_I rfl rfl (Nat.le_of_ble_eq_true rfl) (sp_1_5 hk0) (Option.some.inj e6) dX1_copyFrom_45 (fun H locs hH => ?_)
  refine lv_aload_n hx hb dX1_copyFrom_48 rfl (lv_at hl 0 rfl) ?_
  refine lv_aload_n hx hb dX1_copyFrom_49 rfl (lv_at hl 1 rfl) ?_
  refine mm_get (v := .int (x6 k1 6)) C hH hin1 rfl hk1l (mm_e1 hk1) (j := 6) (by decide) rfl w7 rfl dX1_copyFrom_50 ?_
  obtain ⟨x7, e7, h⟩ := mm_bnd h
  refine mm_put (ty := .int) C hH hin1 tyX1_ok nmX1 rfl hk0l (mm_e1 hk0) (j := 6) (by decide) rfl w7 pd_I rfl rfl (Nat.le_of_ble_eq_true rfl) (sp_1_6 hk0) (Option.some.inj e7) dX1_copyFrom_53 (fun H locs hH => ?_)
  refine lv_aload_n hx hb dX1_copyFrom_56 rfl (lv_at hl 0 rfl) ?_
  refine lv_aload_n hx hb dX1_copyFrom_57 rfl (lv_at hl 1 rfl) ?_
  refine mm_get (v := .int (x7 k1 7)) C hH hin1 rfl hk1l (mm_e1 hk1) (j := 7) (by decide) rfl w8 rfl dX1_copyFrom_58 ?_
  obtain ⟨x8, e8, h⟩ := mm_bnd h
  refine mm_put (ty := .int) C hH hin1 tyX1_ok nmX1 rfl hk0l (mm_e1 hk0) (j := 7) (by decide) rfl w8 pd_I rfl rfl (Nat.le_of_ble_eq_true rfl) (sp_1_7 hk0) (Option.some.inj e8) dX1_copyFrom_61 (fun H locs hH => ?_)
  exact mm_vret C hH hr hlk h dX1_copyFrom_64
def fn_X1_canBeTaken (k0 : Nat) (x : mm_M) : Option Int32 :=
  if mm_kd k0 = 1 then if (x k0 0) = 0 then some (0 : Int32) else if (x k0 3) = 0 then some (1 : Int32) else some (0 : Int32) else none
abbrev rm_X1_canBeTaken : Room := { frames := 0, cells := 0, slots := 0, locals := 0 }
theorem df_X1_canBeTaken : yX1_canBeTaken.cls = RX1 ∧ yX1_canBeTaken.cls ≠ "java/lang/invoke/MethodHandle" ∧ yX1_canBeTaken.cls ≠ "java/lang/invoke/VarHandle" ∧ (parseMethodDescriptor yX1_canBeTaken.desc).map (fun d => d.parameters.length) = some 0 := by decide +kernel
set_option maxRecDepth 100000 in
set_option maxHeartbeats 4000000 in
theorem ct_X1_canBeTaken (l : Launch) (G : va_G) (T : Nat → ClassId) (b : Nat) (z : Nat → Nat) (k0 : Nat) (x : mm_M) {r : Int32} (h : fn_X1_canBeTaken k0 x = some r) : mm_Ci l yX1_canBeTaken wsX1_canBeTaken rm_X1_canBeTaken G T b z [.ref (b + k0)] x r x := by
  unfold fn_X1_canBeTaken at h
  refine mm_start (cc := cX1_canBeTaken) (maxL := 1) (ret := (some .boolean)) (by decide) rfl (Nat.le_of_ble_eq_true rfl) (fun p e s m below meth c ls C hr hlk hH hl => ?_)
  have hl : lv_has ls 1 [(0, .ref (b + k0))] := hl
  have hx := C.1
  have hb := C.2.1
  have w1 := C.2.2.2.2.1 (.fieldLink RX1 9 "LandingFines$Landing" "isOpen" "Z") (by decide +kernel)
  have w2 := C.2.2.2.2.1 (.fieldLink RX1 22 "LandingFines$Landing" "isShunned" "Z") (by decide +kernel)
  have hin1 : ∀ w ∈ wsX10, w ∈ wsX1_canBeTaken := by decide +kernel
  obtain ⟨hk0, h⟩ := mm_grd h
  have hk0l := mm_lt hk0 (by decide)
  refine lv_aload_n hx hb dX1_canBeTaken_0 rfl (lv_at hl 0 rfl) ?_
  refine mm_get (v := .int (x k0 0)) C hH hin1 rfl hk0l (mm_e1 hk0) (j := 0) (by decide) rfl w1 rfl dX1_canBeTaken_1 ?_
  refine lv_if_eq (tgt := 18) hx hb dX1_canBeTaken_4 (by decide) (fun c1 => ?_) (fun c1 => ?_)
  · have h := mm_pos c1 h
    have hl := lv_sub (l' := []) hl [] rfl
    refine lv_iconst (v := 0) hx hb dX1_canBeTaken_18 (by decide) ?_
    exact mm_iretP C hH hr hlk rfl h dX1_canBeTaken_19
  · have h := mm_neg c1 h
    refine lv_aload_n hx hb dX1_canBeTaken_7 rfl (lv_at hl 0 rfl) ?_
    refine mm_get (v := .int (x k0 3)) C hH hin1 rfl hk0l (mm_e1 hk0) (j := 3) (by decide) rfl w2 rfl dX1_canBeTaken_8 ?_
    refine lv_if_ne (tgt := 18) hx hb dX1_canBeTaken_11 (by decide) (fun c2 => ?_) (fun c2 => ?_)
    · have h := mm_neg c2 h
      have hl := lv_sub (l' := []) hl [] rfl
      refine lv_iconst (v := 0) hx hb dX1_canBeTaken_18 (by decide) ?_
      exact mm_iretP C hH hr hlk rfl h dX1_canBeTaken_19
    · have h := mm_pos c2 h
      have hl := lv_sub (l' := []) hl [] rfl
      refine lv_iconst (v := 1) hx hb dX1_canBeTaken_14 (by decide) ?_
      refine lv_goto (tgt := 19) hx hb dX1_canBeTaken_15 (by decide) ?_
      exact mm_iretP C hH hr hlk rfl h dX1_canBeTaken_19
def fn_X1_addFine (k0 : Nat) (a1 : Int32) (a2 : Int32) (x : mm_M) : Option (mm_M × Int32) :=
  if mm_kd k0 = 1 then (some (mm_up x k0 6 ((x k0 6) + 1))).bind fun x1 => (some (mm_up x1 k0 2 (if (99999 : Int32) < ((x1 k0 2) + a1) then (99999 : Int32) else ((x1 k0 2) + a1)))).bind fun x2 => if (x2 k0 3) = 0 then if a2 < (x2 k0 2) then (some (mm_up x2 k0 3 1)).bind fun x3 => (some (mm_up x3 k0 4 0)).bind fun x4 => (some (mm_up x4 k0 7 ((x4 k0 7) + 1))).bind fun x5 => some (x5, 1) else some (x2, 0) else some (x2, 0) else none
abbrev rm_X1_addFine : Room := { frames := 1, cells := 0, slots := 0, locals := 21 }
theorem df_X1_addFine : yX1_addFine.cls = RX1 ∧ yX1_addFine.cls ≠ "java/lang/invoke/MethodHandle" ∧ yX1_addFine.cls ≠ "java/lang/invoke/VarHandle" ∧ (parseMethodDescriptor yX1_addFine.desc).map (fun d => d.parameters.length) = some 2 := by decide +kernel
set_option maxRecDepth 100000 in
set_option maxHeartbeats 4000000 in
theorem ct_X1_addFine (l : Launch) (G : va_G) (T : Nat → ClassId) (b : Nat) (z : Nat → Nat) (k0 : Nat) (a1 : Int32) (a2 : Int32) (x : mm_M) {x1 : mm_M} {r : Int32} (h : fn_X1_addFine k0 a1 a2 x = some (x1, r)) : mm_Ci l yX1_addFine wsX1_addFine rm_X1_addFine G T b z [.ref (b + k0), .int a1, .int a2] x r x1 := by
  unfold fn_X1_addFine at h
  refine mm_start (cc := cX1_addFine) (maxL := 3) (ret := (some .boolean)) (by decide) rfl (Nat.le_of_ble_eq_true rfl) (fun p e s m below meth c ls C hr hlk hH hl => ?_)
  have hl : lv_has ls 3 [(0, .ref (b + k0)), (1, .int a1), (2, .int a2)] := hl
  have hx := C.1
  have hb := C.2.1
  have w1 := C.2.2.2.2.1 (.fieldLink RX1 31 "LandingFines$Landing" "changes" "I") (by decide +kernel)
  have w2 := C.2.2.2.2.1 (.fieldLink RX1 19 "LandingFines$Landing" "fine" "I") (by decide +kernel)
  have w3 := C.2.2.2.2.1 (.constant RX1 37 (99999)) (by decide +kernel)
  have w4 := C.2.2.2.2.1 (.methodLink RX1 38 Lib.Math.min.name) (by decide +kernel)
  have w5 := C.2.2.2.2.1 (.static Lib.Math.min.name) (by decide +kernel)
  have w6 := C.2.2.2.2.1 (.initialized "java/lang/Math") (by decide +kernel)
  have w7 := C.2.2.2.2.1 (.code Lib.Math.min.name Lib.Math.min.code 2 (some .int)) (by decide +kernel)
  have w8 := C.2.2.2.2.1 (.fieldLink RX1 22 "LandingFines$Landing" "isShunned" "Z") (by decide +kernel)
  have w9 := C.2.2.2.2.1 (.fieldLink RX1 25 "LandingFines$Landing" "minutesShunned" "I") (by decide +kernel)
  have w10 := C.2.2.2.2.1 (.fieldLink RX1 34 "LandingFines$Landing" "timesShunned" "I") (by decide +kernel)
  have hin1 : ∀ w ∈ wsX10, w ∈ wsX1_addFine := by decide +kernel
  obtain ⟨hk0, h⟩ := mm_grd h
  have hk0l := mm_lt hk0 (by decide)
  refine lv_aload_n hx hb dX1_addFine_0 rfl (lv_at hl 0 rfl) ?_
  refine lv_dup hx hb dX1_addFine_1 rfl ?_
  refine mm_get (v := .int (x k0 6)) C hH hin1 rfl hk0l (mm_e1 hk0) (j := 6) (by decide) rfl w1 rfl dX1_addFine_2 ?_
  refine lv_iconst (v := 1) hx hb dX1_addFine_5 (by decide) ?_
  refine lv_iadd hx hb dX1_addFine_6 ?_
  obtain ⟨x1, e1, h⟩ := mm_bnd h
  refine mm_put (ty := .int) C hH hin1 tyX1_ok nmX1 rfl hk0l (mm_e1 hk0) (j := 6) (by decide) rfl w1 pd_I rfl rfl (Nat.le_of_ble_eq_true rfl) (sp_1_6 hk0) (Option.some.inj e1) dX1_addFine_7 (fun H locs hH => ?_)
  refine lv_aload_n hx hb dX1_addFine_10 rfl (lv_at hl 0 rfl) ?_
  refine lv_aload_n hx hb dX1_addFine_11 rfl (lv_at hl 0 rfl) ?_
  refine mm_get (v := .int (x1 k0 2)) C hH hin1 rfl hk0l (mm_e1 hk0) (j := 2) (by decide) rfl w2 rfl dX1_addFine_12 ?_
  refine lv_iload_n hx hb dX1_addFine_15 rfl (lv_at hl 1 rfl) ?_
  refine lv_iadd hx hb dX1_addFine_16 ?_
  refine lv_ldc (own := RX1) (v := 99999) hx hb C.2.2.2.1 w3 dX1_addFine_17 ?_
  refine mm_minv C hl.1.symm w4 w5 w6 w7 (Nat.le_of_ble_eq_true rfl) (Nat.le_of_ble_eq_true rfl) (Nat.zero_le _) (Nat.zero_le _) dX1_addFine_19 ?_
  obtain ⟨x2, e2, h⟩ := mm_bnd h
  refine mm_put (ty := .int) C hH hin1 tyX1_ok nmX1 rfl hk0l (mm_e1 hk0) (j := 2) (by decide) rfl w2 pd_I rfl rfl (Nat.le_of_ble_eq_true rfl) (sp_1_2 hk0) (Option.some.inj e2) dX1_addFine_22 (fun H locs hH => ?_)
  refine lv_aload_n hx hb dX1_addFine_25 rfl (lv_at hl 0 rfl) ?_
  refine mm_get (v := .int (x2 k0 3)) C hH hin1 rfl hk0l (mm_e1 hk0) (j := 3) (by decide) rfl w8 rfl dX1_addFine_26 ?_
  refine lv_if_ne (tgt := 40) hx hb dX1_addFine_29 (by decide) (fun c1 => ?_) (fun c1 => ?_)
  · have h := mm_neg c1 h
    have hl := lv_sub (l' := []) hl [] rfl
    refine lv_iconst (v := 0) hx hb dX1_addFine_40 (by decide) ?_
    exact mm_iret C hH hr hlk rfl h dX1_addFine_41
  · have h := mm_pos c1 h
    have hl := lv_sub (l' := [(0, .ref (b + k0)), (2, .int a2)]) hl [0, 2] rfl
    refine lv_aload_n hx hb dX1_addFine_32 rfl (lv_at hl 0 rfl) ?_
    refine mm_get (v := .int (x2 k0 2)) C hH hin1 rfl hk0l (mm_e1 hk0) (j := 2) (by decide) rfl w2 rfl dX1_addFine_33 ?_
    refine lv_iload_n hx hb dX1_addFine_36 rfl (lv_at hl 1 rfl) ?_
    refine lv_icmp_gt (tgt := 42) hx hb dX1_addFine_37 (by decide) (fun c2 => ?_) (fun c2 => ?_)
    · have h := mm_pos c2 h
      have hl := lv_sub (l' := [(0, .ref (b + k0))]) hl [0] rfl
      refine lv_aload_n hx hb dX1_addFine_42 rfl (lv_at hl 0 rfl) ?_
      refine lv_iconst (v := 1) hx hb dX1_addFine_43 (by decide) ?_
      obtain ⟨x3, e3, h⟩ := mm_bnd h
      refine mm_put (ty := .boolean) C hH hin1 tyX1_ok nmX1 rfl hk0l (mm_e1 hk0) (j := 3) (by decide) rfl w8 pd_Z rfl rfl (Nat.le_of_ble_eq_true rfl) (sp_1_3 hk0) (Option.some.inj e3) dX1_addFine_44 (fun H locs hH => ?_)
      refine lv_aload_n hx hb dX1_addFine_47 rfl (lv_at hl 0 rfl) ?_
      refine lv_iconst (v := 0) hx hb dX1_addFine_48 (by decide) ?_
      obtain ⟨x4, e4, h⟩ := mm_bnd h
      refine mm_put (ty := .int) C hH hin1 tyX1_ok nmX1 rfl hk0l (mm_e1 hk0) (j := 4) (by decide) rfl w9 pd_I rfl rfl (Nat.le_of_ble_eq_true rfl) (sp_1_4 hk0) (Option.some.inj e4) dX1_addFine_49 (fun H locs hH => ?_)
      refine lv_aload_n hx hb dX1_addFine_52 rfl (lv_at hl 0 rfl) ?_
      refine lv_dup hx hb dX1_addFine_53 rfl ?_
      refine mm_get (v := .int (x4 k0 7)) C hH hin1 rfl hk0l (mm_e1 hk0) (j := 7) (by decide) rfl w10 rfl dX1_addFine_54 ?_
      refine lv_iconst (v := 1) hx hb dX1_addFine_57 (by decide) ?_
      refine lv_iadd hx hb dX1_addFine_58 ?_
      obtain ⟨x5, e5, h⟩ := mm_bnd h
      refine mm_put (ty := .int) C hH hin1 tyX1_ok nmX1 rfl hk0l (mm_e1 hk0) (j := 7) (by decide) rfl w10 pd_I rfl rfl (Nat.le_of_ble_eq_true rfl) (sp_1_7 hk0) (Option.some.inj e5) dX1_addFine_59 (fun H locs hH => ?_)
      refine lv_iconst (v := 1) hx hb dX1_addFine_62 (by decide) ?_
      exact mm_iret C hH hr hlk rfl h dX1_addFine_63
    · have h := mm_neg c2 h
      have hl := lv_sub (l' := []) hl [] rfl
      refine lv_iconst (v := 0) hx hb dX1_addFine_40 (by decide) ?_
      exact mm_iret C hH hr hlk rfl h dX1_addFine_41
def fn_X1_passMinute (k0 : Nat) (a1 : Int32) (a2 : Int32) (a3 : Int32) (x : mm_M) : Option (mm_M × Int32) :=
  if mm_kd k0 = 1 then (some (mm_up x k0 5 ((x k0 5) + 1))).bind fun x1 => if (x1 k0 5) < a1 then if (x1 k0 3) = 0 then some (x1, 0) else (some (mm_up x1 k0 4 ((x1 k0 4) + 1))).bind fun x2 => if (x2 k0 2) < a2 then (some (mm_up x2 k0 3 0)).bind fun x3 => (some (mm_up x3 k0 4 0)).bind fun x4 => (some (mm_up x4 k0 2 (if (a2 - 1) < (x4 k0 2) then (a2 - 1) else (x4 k0 2)))).bind fun x5 => some (x5, 1) else if a3 ≤ (x2 k0 4) then (some (mm_up x2 k0 3 0)).bind fun x6 => (some (mm_up x6 k0 4 0)).bind fun x7 => (some (mm_up x7 k0 2 (if (a2 - 1) < (x7 k0 2) then (a2 - 1) else (x7 k0 2)))).bind fun x8 => some (x8, 1) else some (x2, 0) else (some (mm_up x1 k0 2 ((x1 k0 2) / 2))).bind fun x9 => (some (mm_up x9 k0 5 0)).bind fun x10 => if (x10 k0 3) = 0 then some (x10, 0) else (some (mm_up x10 k0 4 ((x10 k0 4) + 1))).bind fun x11 => if (x11 k0 2) < a2 then (some (mm_up x11 k0 3 0)).bind fun x12 => (some (mm_up x12 k0 4 0)).bind fun x13 => (some (mm_up x13 k0 2 (if (a2 - 1) < (x13 k0 2) then (a2 - 1) else (x13 k0 2)))).bind fun x14 => some (x14, 1) else if a3 ≤ (x11 k0 4) then (some (mm_up x11 k0 3 0)).bind fun x15 => (some (mm_up x15 k0 4 0)).bind fun x16 => (some (mm_up x16 k0 2 (if (a2 - 1) < (x16 k0 2) then (a2 - 1) else (x16 k0 2)))).bind fun x17 => some (x17, 1) else some (x11, 0) else none
abbrev rm_X1_passMinute : Room := { frames := 1, cells := 0, slots := 0, locals := 21 }
theorem df_X1_passMinute : yX1_passMinute.cls = RX1 ∧ yX1_passMinute.cls ≠ "java/lang/invoke/MethodHandle" ∧ yX1_passMinute.cls ≠ "java/lang/invoke/VarHandle" ∧ (parseMethodDescriptor yX1_passMinute.desc).map (fun d => d.parameters.length) = some 3 := by decide +kernel
set_option maxRecDepth 100000 in
set_option maxHeartbeats 4000000 in
theorem ct_X1_passMinute (l : Launch) (G : va_G) (T : Nat → ClassId) (b : Nat) (z : Nat → Nat) (k0 : Nat) (a1 : Int32) (a2 : Int32) (a3 : Int32) (x : mm_M) {x1 : mm_M} {r : Int32} (h : fn_X1_passMinute k0 a1 a2 a3 x = some (x1, r)) : mm_Ci l yX1_passMinute wsX1_passMinute rm_X1_passMinute G T b z [.ref (b + k0), .int a1, .int a2, .int a3] x r x1 := by
  unfold fn_X1_passMinute at h
  refine mm_start (cc := cX1_passMinute) (maxL := 4) (ret := (some .boolean)) (by decide) rfl (Nat.le_of_ble_eq_true rfl) (fun p e s m below meth c ls C hr hlk hH hl => ?_)
  have hl : lv_has ls 4 [(0, .ref (b + k0)), (1, .int a1), (2, .int a2), (3, .int a3)] := hl
  have hx := C.1
  have hb := C.2.1
  have w1 := C.2.2.2.2.1 (.fieldLink RX1 28 "LandingFines$Landing" "minutesSinceHalving" "I") (by decide +kernel)
  have w2 := C.2.2.2.2.1 (.fieldLink RX1 22 "LandingFines$Landing" "isShunned" "Z") (by decide +kernel)
  have w3 := C.2.2.2.2.1 (.fieldLink RX1 25 "LandingFines$Landing" "minutesShunned" "I") (by decide +kernel)
  have w4 := C.2.2.2.2.1 (.fieldLink RX1 19 "LandingFines$Landing" "fine" "I") (by decide +kernel)
  have w5 := C.2.2.2.2.1 (.methodLink RX1 38 Lib.Math.min.name) (by decide +kernel)
  have w6 := C.2.2.2.2.1 (.static Lib.Math.min.name) (by decide +kernel)
  have w7 := C.2.2.2.2.1 (.initialized "java/lang/Math") (by decide +kernel)
  have w8 := C.2.2.2.2.1 (.code Lib.Math.min.name Lib.Math.min.code 2 (some .int)) (by decide +kernel)
  have hin1 : ∀ w ∈ wsX10, w ∈ wsX1_passMinute := by decide +kernel
  obtain ⟨hk0, h⟩ := mm_grd h
  have hk0l := mm_lt hk0 (by decide)
  refine lv_aload_n hx hb dX1_passMinute_0 rfl (lv_at hl 0 rfl) ?_
  refine lv_dup hx hb dX1_passMinute_1 rfl ?_
  refine mm_get (v := .int (x k0 5)) C hH hin1 rfl hk0l (mm_e1 hk0) (j := 5) (by decide) rfl w1 rfl dX1_passMinute_2 ?_
  refine lv_iconst (v := 1) hx hb dX1_passMinute_5 (by decide) ?_
  refine lv_iadd hx hb dX1_passMinute_6 ?_
  obtain ⟨x1, e1, h⟩ := mm_bnd h
  refine mm_put (ty := .int) C hH hin1 tyX1_ok nmX1 rfl hk0l (mm_e1 hk0) (j := 5) (by decide) rfl w1 pd_I rfl rfl (Nat.le_of_ble_eq_true rfl) (sp_1_5 hk0) (Option.some.inj e1) dX1_passMinute_7 (fun H locs hH => ?_)
  refine lv_aload_n hx hb dX1_passMinute_10 rfl (lv_at hl 0 rfl) ?_
  refine mm_get (v := .int (x1 k0 5)) C hH hin1 rfl hk0l (mm_e1 hk0) (j := 5) (by decide) rfl w1 rfl dX1_passMinute_11 ?_
  refine lv_iload_n hx hb dX1_passMinute_14 rfl (lv_at hl 1 rfl) ?_
  refine lv_icmp_lt (tgt := 33) hx hb dX1_passMinute_15 (by decide) (fun c1 => ?_) (fun c1 => ?_)
  · have h := mm_pos c1 h
    have hl := lv_sub (l' := [(0, .ref (b + k0)), (2, .int a2), (3, .int a3)]) hl [0, 2, 3] rfl
    refine lv_aload_n hx hb dX1_passMinute_33 rfl (lv_at hl 0 rfl) ?_
    refine mm_get (v := .int (x1 k0 3)) C hH hin1 rfl hk0l (mm_e1 hk0) (j := 3) (by decide) rfl w2 rfl dX1_passMinute_34 ?_
    refine lv_if_ne (tgt := 42) hx hb dX1_passMinute_37 (by decide) (fun c2 => ?_) (fun c2 => ?_)
    · have h := mm_neg c2 h
      refine lv_aload_n hx hb dX1_passMinute_42 rfl (lv_at hl 0 rfl) ?_
      refine lv_dup hx hb dX1_passMinute_43 rfl ?_
      refine mm_get (v := .int (x1 k0 4)) C hH hin1 rfl hk0l (mm_e1 hk0) (j := 4) (by decide) rfl w3 rfl dX1_passMinute_44 ?_
      refine lv_iconst (v := 1) hx hb dX1_passMinute_47 (by decide) ?_
      refine lv_iadd hx hb dX1_passMinute_48 ?_
      obtain ⟨x2, e2, h⟩ := mm_bnd h
      refine mm_put (ty := .int) C hH hin1 tyX1_ok nmX1 rfl hk0l (mm_e1 hk0) (j := 4) (by decide) rfl w3 pd_I rfl rfl (Nat.le_of_ble_eq_true rfl) (sp_1_4 hk0) (Option.some.inj e2) dX1_passMinute_49 (fun H locs hH => ?_)
      refine lv_aload_n hx hb dX1_passMinute_52 rfl (lv_at hl 0 rfl) ?_
      refine mm_get (v := .int (x2 k0 2)) C hH hin1 rfl hk0l (mm_e1 hk0) (j := 2) (by decide) rfl w4 rfl dX1_passMinute_53 ?_
      refine lv_iload_n hx hb dX1_passMinute_56 rfl (lv_at hl 1 rfl) ?_
      refine lv_icmp_lt (tgt := 70) hx hb dX1_passMinute_57 (by decide) (fun c3 => ?_) (fun c3 => ?_)
      · have h := mm_pos c3 h
        have hl := lv_sub (l' := [(0, .ref (b + k0)), (2, .int a2)]) hl [0, 1] rfl
        refine lv_aload_n hx hb dX1_passMinute_70 rfl (lv_at hl 0 rfl) ?_
        refine lv_iconst (v := 0) hx hb dX1_passMinute_71 (by decide) ?_
        obtain ⟨x3, e3, h⟩ := mm_bnd h
        refine mm_put (ty := .boolean) C hH hin1 tyX1_ok nmX1 rfl hk0l (mm_e1 hk0) (j := 3) (by decide) rfl w2 pd_Z rfl rfl (Nat.le_of_ble_eq_true rfl) (sp_1_3 hk0) (Option.some.inj e3) dX1_passMinute_72 (fun H locs hH => ?_)
        refine lv_aload_n hx hb dX1_passMinute_75 rfl (lv_at hl 0 rfl) ?_
        refine lv_iconst (v := 0) hx hb dX1_passMinute_76 (by decide) ?_
        obtain ⟨x4, e4, h⟩ := mm_bnd h
        refine mm_put (ty := .int) C hH hin1 tyX1_ok nmX1 rfl hk0l (mm_e1 hk0) (j := 4) (by decide) rfl w3 pd_I rfl rfl (Nat.le_of_ble_eq_true rfl) (sp_1_4 hk0) (Option.some.inj e4) dX1_passMinute_77 (fun H locs hH => ?_)
        refine lv_aload_n hx hb dX1_passMinute_80 rfl (lv_at hl 0 rfl) ?_
        refine lv_aload_n hx hb dX1_passMinute_81 rfl (lv_at hl 0 rfl) ?_
        refine mm_get (v := .int (x4 k0 2)) C hH hin1 rfl hk0l (mm_e1 hk0) (j := 2) (by decide) rfl w4 rfl dX1_passMinute_82 ?_
        refine lv_iload_n hx hb dX1_passMinute_85 rfl (lv_at hl 1 rfl) ?_
        refine lv_iconst (v := 1) hx hb dX1_passMinute_86 (by decide) ?_
        refine lv_isub hx hb dX1_passMinute_87 ?_
        refine mm_minv C hl.1.symm w5 w6 w7 w8 (Nat.le_of_ble_eq_true rfl) (Nat.le_of_ble_eq_true rfl) (Nat.zero_le _) (Nat.zero_le _) dX1_passMinute_88 ?_
        obtain ⟨x5, e5, h⟩ := mm_bnd h
        refine mm_put (ty := .int) C hH hin1 tyX1_ok nmX1 rfl hk0l (mm_e1 hk0) (j := 2) (by decide) rfl w4 pd_I rfl rfl (Nat.le_of_ble_eq_true rfl) (sp_1_2 hk0) (Option.some.inj e5) dX1_passMinute_91 (fun H locs hH => ?_)
        refine lv_iconst (v := 1) hx hb dX1_passMinute_94 (by decide) ?_
        exact mm_iret C hH hr hlk rfl h dX1_passMinute_95
      · have h := mm_neg c3 h
        refine lv_aload_n hx hb dX1_passMinute_60 rfl (lv_at hl 0 rfl) ?_
        refine mm_get (v := .int (x2 k0 4)) C hH hin1 rfl hk0l (mm_e1 hk0) (j := 4) (by decide) rfl w3 rfl dX1_passMinute_61 ?_
        refine lv_iload_n hx hb dX1_passMinute_64 rfl (lv_at hl 2 rfl) ?_
        refine lv_icmp_ge (tgt := 70) hx hb dX1_passMinute_65 (by decide) (fun c4 => ?_) (fun c4 => ?_)
        · have h := mm_pos c4 h
          have hl := lv_sub (l' := [(0, .ref (b + k0)), (2, .int a2)]) hl [0, 1] rfl
          refine lv_aload_n hx hb dX1_passMinute_70 rfl (lv_at hl 0 rfl) ?_
          refine lv_iconst (v := 0) hx hb dX1_passMinute_71 (by decide) ?_
          obtain ⟨x6, e6, h⟩ := mm_bnd h
          refine mm_put (ty := .boolean) C hH hin1 tyX1_ok nmX1 rfl hk0l (mm_e1 hk0) (j := 3) (by decide) rfl w2 pd_Z rfl rfl (Nat.le_of_ble_eq_true rfl) (sp_1_3 hk0) (Option.some.inj e6) dX1_passMinute_72 (fun H locs hH => ?_)
          refine lv_aload_n hx hb dX1_passMinute_75 rfl (lv_at hl 0 rfl) ?_
          refine lv_iconst (v := 0) hx hb dX1_passMinute_76 (by decide) ?_
          obtain ⟨x7, e7, h⟩ := mm_bnd h
          refine mm_put (ty := .int) C hH hin1 tyX1_ok nmX1 rfl hk0l (mm_e1 hk0) (j := 4) (by decide) rfl w3 pd_I rfl rfl (Nat.le_of_ble_eq_true rfl) (sp_1_4 hk0) (Option.some.inj e7) dX1_passMinute_77 (fun H locs hH => ?_)
          refine lv_aload_n hx hb dX1_passMinute_80 rfl (lv_at hl 0 rfl) ?_
          refine lv_aload_n hx hb dX1_passMinute_81 rfl (lv_at hl 0 rfl) ?_
          refine mm_get (v := .int (x7 k0 2)) C hH hin1 rfl hk0l (mm_e1 hk0) (j := 2) (by decide) rfl w4 rfl dX1_passMinute_82 ?_
          refine lv_iload_n hx hb dX1_passMinute_85 rfl (lv_at hl 1 rfl) ?_
          refine lv_iconst (v := 1) hx hb dX1_passMinute_86 (by decide) ?_
          refine lv_isub hx hb dX1_passMinute_87 ?_
          refine mm_minv C hl.1.symm w5 w6 w7 w8 (Nat.le_of_ble_eq_true rfl) (Nat.le_of_ble_eq_true rfl) (Nat.zero_le _) (Nat.zero_le _) dX1_passMinute_88 ?_
          obtain ⟨x8, e8, h⟩ := mm_bnd h
          refine mm_put (ty := .int) C hH hin1 tyX1_ok nmX1 rfl hk0l (mm_e1 hk0) (j := 2) (by decide) rfl w4 pd_I rfl rfl (Nat.le_of_ble_eq_true rfl) (sp_1_2 hk0) (Option.some.inj e8) dX1_passMinute_91 (fun H locs hH => ?_)
          refine lv_iconst (v := 1) hx hb dX1_passMinute_94 (by decide) ?_
          exact mm_iret C hH hr hlk rfl h dX1_passMinute_95
        · have h := mm_neg c4 h
          have hl := lv_sub (l' := []) hl [] rfl
          refine lv_iconst (v := 0) hx hb dX1_passMinute_68 (by decide) ?_
          exact mm_iret C hH hr hlk rfl h dX1_passMinute_69
    · have h := mm_pos c2 h
      have hl := lv_sub (l' := []) hl [] rfl
      refine lv_iconst (v := 0) hx hb dX1_passMinute_40 (by decide) ?_
      exact mm_iret C hH hr hlk rfl h dX1_passMinute_41
  · have h := mm_neg c1 h
    have hl := lv_sub (l' := [(0, .ref (b + k0)), (2, .int a2), (3, .int a3)]) hl [0, 2, 3] rfl
    refine lv_aload_n hx hb dX1_passMinute_18 rfl (lv_at hl 0 rfl) ?_
    refine lv_dup hx hb dX1_passMinute_19 rfl ?_
    refine mm_get (v := .int (x1 k0 2)) C hH hin1 rfl hk0l (mm_e1 hk0) (j := 2) (by decide) rfl w4 rfl dX1_passMinute_20 ?_
    refine lv_iconst (v := 2) hx hb dX1_passMinute_23 (by decide) ?_
    refine lv_idiv hx hb dX1_passMinute_24 (by decide) ?_
    obtain ⟨x9, e9, h⟩ := mm_bnd h
    refine mm_put (ty := .int) C hH hin1 tyX1_ok nmX1 rfl hk0l (mm_e1 hk0) (j := 2) (by decide) rfl w4 pd_I rfl rfl (Nat.le_of_ble_eq_true rfl) (sp_1_2 hk0) (Option.some.inj e9) dX1_passMinute_25 (fun H locs hH => ?_)
    refine lv_aload_n hx hb dX1_passMinute_28 rfl (lv_at hl 0 rfl) ?_
    refine lv_iconst (v := 0) hx hb dX1_passMinute_29 (by decide) ?_
    obtain ⟨x10, e10, h⟩ := mm_bnd h
    refine mm_put (ty := .int) C hH hin1 tyX1_ok nmX1 rfl hk0l (mm_e1 hk0) (j := 5) (by decide) rfl w1 pd_I rfl rfl (Nat.le_of_ble_eq_true rfl) (sp_1_5 hk0) (Option.some.inj e10) dX1_passMinute_30 (fun H locs hH => ?_)
    refine lv_aload_n hx hb dX1_passMinute_33 rfl (lv_at hl 0 rfl) ?_
    refine mm_get (v := .int (x10 k0 3)) C hH hin1 rfl hk0l (mm_e1 hk0) (j := 3) (by decide) rfl w2 rfl dX1_passMinute_34 ?_
    refine lv_if_ne (tgt := 42) hx hb dX1_passMinute_37 (by decide) (fun c5 => ?_) (fun c5 => ?_)
    · have h := mm_neg c5 h
      refine lv_aload_n hx hb dX1_passMinute_42 rfl (lv_at hl 0 rfl) ?_
      refine lv_dup hx hb dX1_passMinute_43 rfl ?_
      refine mm_get (v := .int (x10 k0 4)) C hH hin1 rfl hk0l (mm_e1 hk0) (j := 4) (by decide) rfl w3 rfl dX1_passMinute_44 ?_
      refine lv_iconst (v := 1) hx hb dX1_passMinute_47 (by decide) ?_
      refine lv_iadd hx hb dX1_passMinute_48 ?_
      obtain ⟨x11, e11, h⟩ := mm_bnd h
      refine mm_put (ty := .int) C hH hin1 tyX1_ok nmX1 rfl hk0l (mm_e1 hk0) (j := 4) (by decide) rfl w3 pd_I rfl rfl (Nat.le_of_ble_eq_true rfl) (sp_1_4 hk0) (Option.some.inj e11) dX1_passMinute_49 (fun H locs hH => ?_)
      refine lv_aload_n hx hb dX1_passMinute_52 rfl (lv_at hl 0 rfl) ?_
      refine mm_get (v := .int (x11 k0 2)) C hH hin1 rfl hk0l (mm_e1 hk0) (j := 2) (by decide) rfl w4 rfl dX1_passMinute_53 ?_
      refine lv_iload_n hx hb dX1_passMinute_56 rfl (lv_at hl 1 rfl) ?_
      refine lv_icmp_lt (tgt := 70) hx hb dX1_passMinute_57 (by decide) (fun c6 => ?_) (fun c6 => ?_)
      · have h := mm_pos c6 h
        have hl := lv_sub (l' := [(0, .ref (b + k0)), (2, .int a2)]) hl [0, 1] rfl
        refine lv_aload_n hx hb dX1_passMinute_70 rfl (lv_at hl 0 rfl) ?_
        refine lv_iconst (v := 0) hx hb dX1_passMinute_71 (by decide) ?_
        obtain ⟨x12, e12, h⟩ := mm_bnd h
        refine mm_put (ty := .boolean) C hH hin1 tyX1_ok nmX1 rfl hk0l (mm_e1 hk0) (j := 3) (by decide) rfl w2 pd_Z rfl rfl (Nat.le_of_ble_eq_true rfl) (sp_1_3 hk0) (Option.some.inj e12) dX1_passMinute_72 (fun H locs hH => ?_)
        refine lv_aload_n hx hb dX1_passMinute_75 rfl (lv_at hl 0 rfl) ?_
        refine lv_iconst (v := 0) hx hb dX1_passMinute_76 (by decide) ?_
        obtain ⟨x13, e13, h⟩ := mm_bnd h
        refine mm_put (ty := .int) C hH hin1 tyX1_ok nmX1 rfl hk0l (mm_e1 hk0) (j := 4) (by decide) rfl w3 pd_I rfl rfl (Nat.le_of_ble_eq_true rfl) (sp_1_4 hk0) (Option.some.inj e13) dX1_passMinute_77 (fun H locs hH => ?_)
        refine lv_aload_n hx hb dX1_passMinute_80 rfl (lv_at hl 0 rfl) ?_
        refine lv_aload_n hx hb dX1_passMinute_81 rfl (lv_at hl 0 rfl) ?_
        refine mm_get (v := .int (x13 k0 2)) C hH hin1 rfl hk0l (mm_e1 hk0) (j := 2) (by decide) rfl w4 rfl dX1_passMinute_82 ?_
        refine lv_iload_n hx hb dX1_passMinute_85 rfl (lv_at hl 1 rfl) ?_
        refine lv_iconst (v := 1) hx hb dX1_passMinute_86 (by decide) ?_
        refine lv_isub hx hb dX1_passMinute_87 ?_
        refine mm_minv C hl.1.symm w5 w6 w7 w8 (Nat.le_of_ble_eq_true rfl) (Nat.le_of_ble_eq_true rfl) (Nat.zero_le _) (Nat.zero_le _) dX1_passMinute_88 ?_
        obtain ⟨x14, e14, h⟩ := mm_bnd h
        refine mm_put (ty := .int) C hH hin1 tyX1_ok nmX1 rfl hk0l (mm_e1 hk0) (j := 2) (by decide) rfl w4 pd_I rfl rfl (Nat.le_of_ble_eq_true rfl) (sp_1_2 hk0) (Option.some.inj e14) dX1_passMinute_91 (fun H locs hH => ?_)
        refine lv_iconst (v := 1) hx hb dX1_passMinute_94 (by decide) ?_
        exact mm_iret C hH hr hlk rfl h dX1_passMinute_95
      · have h := mm_neg c6 h
        refine lv_aload_n hx hb dX1_passMinute_60 rfl (lv_at hl 0 rfl) ?_
        refine mm_get (v := .int (x11 k0 4)) C hH hin1 rfl hk0l (mm_e1 hk0) (j := 4) (by decide) rfl w3 rfl dX1_passMinute_61 ?_
        refine lv_iload_n hx hb dX1_passMinute_64 rfl (lv_at hl 2 rfl) ?_
        refine lv_icmp_ge (tgt := 70) hx hb dX1_passMinute_65 (by decide) (fun c7 => ?_) (fun c7 => ?_)
        · have h := mm_pos c7 h
          have hl := lv_sub (l' := [(0, .ref (b + k0)), (2, .int a2)]) hl [0, 1] rfl
          refine lv_aload_n hx hb dX1_passMinute_70 rfl (lv_at hl 0 rfl) ?_
          refine lv_iconst (v := 0) hx hb dX1_passMinute_71 (by decide) ?_
          obtain ⟨x15, e15, h⟩ := mm_bnd h
          refine mm_put (ty := .boolean) C hH hin1 tyX1_ok nmX1 rfl hk0l (mm_e1 hk0) (j := 3) (by decide) rfl w2 pd_Z rfl rfl (Nat.le_of_ble_eq_true rfl) (sp_1_3 hk0) (Option.some.inj e15) dX1_passMinute_72 (fun H locs hH => ?_)
          refine lv_aload_n hx hb dX1_passMinute_75 rfl (lv_at hl 0 rfl) ?_
          refine lv_iconst (v := 0) hx hb dX1_passMinute_76 (by decide) ?_
          obtain ⟨x16, e16, h⟩ := mm_bnd h
          refine mm_put (ty := .int) C hH hin1 tyX1_ok nmX1 rfl hk0l (mm_e1 hk0) (j := 4) (by decide) rfl w3 pd_I rfl rfl (Nat.le_of_ble_eq_true rfl) (sp_1_4 hk0) (Option.some.inj e16) dX1_passMinute_77 (fun H locs hH => ?_)
          refine lv_aload_n hx hb dX1_passMinute_80 rfl (lv_at hl 0 rfl) ?_
          refine lv_aload_n hx hb dX1_passMinute_81 rfl (lv_at hl 0 rfl) ?_
          refine mm_get (v := .int (x16 k0 2)) C hH hin1 rfl hk0l (mm_e1 hk0) (j := 2) (by decide) rfl w4 rfl dX1_passMinute_82 ?_
          refine lv_iload_n hx hb dX1_passMinute_85 rfl (lv_at hl 1 rfl) ?_
          refine lv_iconst (v := 1) hx hb dX1_passMinute_86 (by decide) ?_
          refine lv_isub hx hb dX1_passMinute_87 ?_
          refine mm_minv C hl.1.symm w5 w6 w7 w8 (Nat.le_of_ble_eq_true rfl) (Nat.le_of_ble_eq_true rfl) (Nat.zero_le _) (Nat.zero_le _) dX1_passMinute_88 ?_
          obtain ⟨x17, e17, h⟩ := mm_bnd h
          refine mm_put (ty := .int) C hH hin1 tyX1_ok nmX1 rfl hk0l (mm_e1 hk0) (j := 2) (by decide) rfl w4 pd_I rfl rfl (Nat.le_of_ble_eq_true rfl) (sp_1_2 hk0) (Option.some.inj e17) dX1_passMinute_91 (fun H locs hH => ?_)
          refine lv_iconst (v := 1) hx hb dX1_passMinute_94 (by decide) ?_
          exact mm_iret C hH hr hlk rfl h dX1_passMinute_95
        · have h := mm_neg c7 h
          have hl := lv_sub (l' := []) hl [] rfl
          refine lv_iconst (v := 0) hx hb dX1_passMinute_68 (by decide) ?_
          exact mm_iret C hH hr hlk rfl h dX1_passMinute_69
    · have h := mm_pos c5 h
      have hl := lv_sub (l' := []) hl [] rfl
      refine lv_iconst (v := 0) hx hb dX1_passMinute_40 (by decide) ?_
      exact mm_iret C hH hr hlk rfl h dX1_passMinute_41
def fn_X1_tell (k0 : Nat) (a1 : Int32) (x : mm_M) : Option Int32 :=
  if mm_kd k0 = 1 then if a1 = 0 then if (x k0 0) = 0 then some (0 : Int32) else some (1 : Int32) else if a1 = 1 then some (x k0 1) else if a1 = 2 then some (x k0 2) else if a1 = 3 then if (x k0 3) = 0 then some (0 : Int32) else some (1 : Int32) else if a1 = 4 then some (x k0 4) else if a1 = 5 then some (x k0 5) else if a1 = 6 then some (x k0 6) else if a1 = 7 then some (x k0 7) else some ((-2) : Int32) else none
abbrev rm_X1_tell : Room := { frames := 0, cells := 0, slots := 0, locals := 0 }
theorem df_X1_tell : yX1_tell.cls = RX1 ∧ yX1_tell.cls ≠ "java/lang/invoke/MethodHandle" ∧ yX1_tell.cls ≠ "java/lang/invoke/VarHandle" ∧ (parseMethodDescriptor yX1_tell.desc).map (fun d => d.parameters.length) = some 1 := by decide +kernel
set_option maxRecDepth 100000 in
set_option maxHeartbeats 4000000 in
theorem ct_X1_tell (l : Launch) (G : va_G) (T : Nat → ClassId) (b : Nat) (z : Nat → Nat) (k0 : Nat) (a1 : Int32) (x : mm_M) {r : Int32} (h : fn_X1_tell k0 a1 x = some r) : mm_Ci l yX1_tell wsX1_tell rm_X1_tell G T b z [.ref (b + k0), .int a1] x r x := by
  unfold fn_X1_tell at h
  refine mm_start (cc := cX1_tell) (maxL := 2) (ret := (some .int)) (by decide) rfl (Nat.le_of_ble_eq_true rfl) (fun p e s m below meth c ls C hr hlk hH hl => ?_)
  have hl : lv_has ls 2 [(0, .ref (b + k0)), (1, .int a1)] := hl
  have hx := C.1
  have hb := C.2.1
  have w1 := C.2.2.2.2.1 (.fieldLink RX1 9 "LandingFines$Landing" "isOpen" "Z") (by decide +kernel)
  have w2 := C.2.2.2.2.1 (.fieldLink RX1 15 "LandingFines$Landing" "fare" "I") (by decide +kernel)
  have w3 := C.2.2.2.2.1 (.fieldLink RX1 19 "LandingFines$Landing" "fine" "I") (by decide +kernel)
  have w4 := C.2.2.2.2.1 (.fieldLink RX1 22 "LandingFines$Landing" "isShunned" "Z") (by decide +kernel)
  have w5 := C.2.2.2.2.1 (.fieldLink RX1 25 "LandingFines$Landing" "minutesShunned" "I") (by decide +kernel)
  have w6 := C.2.2.2.2.1 (.fieldLink RX1 28 "LandingFines$Landing" "minutesSinceHalving" "I") (by decide +kernel)
  have w7 := C.2.2.2.2.1 (.fieldLink RX1 31 "LandingFines$Landing" "changes" "I") (by decide +kernel)
  have w8 := C.2.2.2.2.1 (.fieldLink RX1 34 "LandingFines$Landing" "timesShunned" "I") (by decide +kernel)
  have hin1 : ∀ w ∈ wsX10, w ∈ wsX1_tell := by decide +kernel
  obtain ⟨hk0, h⟩ := mm_grd h
  have hk0l := mm_lt hk0 (by decide)
  refine lv_iload_n hx hb dX1_tell_0 rfl (lv_at hl 1 rfl) ?_
  by_cases c1 : a1 = 0
  · have h := mm_pos c1 h
    refine lv_tableIn (off := 47) (tgt := 48) hx hb dX1_tell_1 (by rw [c1]; decide) (by rw [c1]; decide) (by rw [c1]; decide) (by decide) ?_
    have hl := lv_sub (l' := [(0, .ref (b + k0))]) hl [0] rfl
    refine lv_aload_n hx hb dX1_tell_48 rfl (lv_at hl 0 rfl) ?_
    refine mm_get (v := .int (x k0 0)) C hH hin1 rfl hk0l (mm_e1 hk0) (j := 0) (by decide) rfl w1 rfl dX1_tell_49 ?_
    refine lv_if_eq (tgt := 59) hx hb dX1_tell_52 (by decide) (fun c2 => ?_) (fun c2 => ?_)
    · have h := mm_pos c2 h
      have hl := lv_sub (l' := []) hl [] rfl
      refine lv_iconst (v := 0) hx hb dX1_tell_59 (by decide) ?_
      exact mm_iretP C hH hr hlk rfl h dX1_tell_60
    · have h := mm_neg c2 h
      have hl := lv_sub (l' := []) hl [] rfl
      refine lv_iconst (v := 1) hx hb dX1_tell_55 (by decide) ?_
      refine lv_goto (tgt := 60) hx hb dX1_tell_56 (by decide) ?_
      exact mm_iretP C hH hr hlk rfl h dX1_tell_60
  have h := mm_neg c1 h
  by_cases c3 : a1 = 1
  · have h := mm_pos c3 h
    refine lv_tableIn (off := 60) (tgt := 61) hx hb dX1_tell_1 (by rw [c3]; decide) (by rw [c3]; decide) (by rw [c3]; decide) (by decide) ?_
    have hl := lv_sub (l' := [(0, .ref (b + k0))]) hl [0] rfl
    refine lv_aload_n hx hb dX1_tell_61 rfl (lv_at hl 0 rfl) ?_
    refine mm_get (v := .int (x k0 1)) C hH hin1 rfl hk0l (mm_e1 hk0) (j := 1) (by decide) rfl w2 rfl dX1_tell_62 ?_
    exact mm_iretP C hH hr hlk rfl h dX1_tell_65
  have h := mm_neg c3 h
  by_cases c4 : a1 = 2
  · have h := mm_pos c4 h
    refine lv_tableIn (off := 65) (tgt := 66) hx hb dX1_tell_1 (by rw [c4]; decide) (by rw [c4]; decide) (by rw [c4]; decide) (by decide) ?_
    have hl := lv_sub (l' := [(0, .ref (b + k0))]) hl [0] rfl
    refine lv_aload_n hx hb dX1_tell_66 rfl (lv_at hl 0 rfl) ?_
    refine mm_get (v := .int (x k0 2)) C hH hin1 rfl hk0l (mm_e1 hk0) (j := 2) (by decide) rfl w3 rfl dX1_tell_67 ?_
    exact mm_iretP C hH hr hlk rfl h dX1_tell_70
  have h := mm_neg c4 h
  by_cases c5 : a1 = 3
  · have h := mm_pos c5 h
    refine lv_tableIn (off := 70) (tgt := 71) hx hb dX1_tell_1 (by rw [c5]; decide) (by rw [c5]; decide) (by rw [c5]; decide) (by decide) ?_
    have hl := lv_sub (l' := [(0, .ref (b + k0))]) hl [0] rfl
    refine lv_aload_n hx hb dX1_tell_71 rfl (lv_at hl 0 rfl) ?_
    refine mm_get (v := .int (x k0 3)) C hH hin1 rfl hk0l (mm_e1 hk0) (j := 3) (by decide) rfl w4 rfl dX1_tell_72 ?_
    refine lv_if_eq (tgt := 82) hx hb dX1_tell_75 (by decide) (fun c6 => ?_) (fun c6 => ?_)
    · have h := mm_pos c6 h
      have hl := lv_sub (l' := []) hl [] rfl
      refine lv_iconst (v := 0) hx hb dX1_tell_82 (by decide) ?_
      exact mm_iretP C hH hr hlk rfl h dX1_tell_83
    · have h := mm_neg c6 h
      have hl := lv_sub (l' := []) hl [] rfl
      refine lv_iconst (v := 1) hx hb dX1_tell_78 (by decide) ?_
      refine lv_goto (tgt := 83) hx hb dX1_tell_79 (by decide) ?_
      exact mm_iretP C hH hr hlk rfl h dX1_tell_83
  have h := mm_neg c5 h
  by_cases c7 : a1 = 4
  · have h := mm_pos c7 h
    refine lv_tableIn (off := 83) (tgt := 84) hx hb dX1_tell_1 (by rw [c7]; decide) (by rw [c7]; decide) (by rw [c7]; decide) (by decide) ?_
    have hl := lv_sub (l' := [(0, .ref (b + k0))]) hl [0] rfl
    refine lv_aload_n hx hb dX1_tell_84 rfl (lv_at hl 0 rfl) ?_
    refine mm_get (v := .int (x k0 4)) C hH hin1 rfl hk0l (mm_e1 hk0) (j := 4) (by decide) rfl w5 rfl dX1_tell_85 ?_
    exact mm_iretP C hH hr hlk rfl h dX1_tell_88
  have h := mm_neg c7 h
  by_cases c8 : a1 = 5
  · have h := mm_pos c8 h
    refine lv_tableIn (off := 88) (tgt := 89) hx hb dX1_tell_1 (by rw [c8]; decide) (by rw [c8]; decide) (by rw [c8]; decide) (by decide) ?_
    have hl := lv_sub (l' := [(0, .ref (b + k0))]) hl [0] rfl
    refine lv_aload_n hx hb dX1_tell_89 rfl (lv_at hl 0 rfl) ?_
    refine mm_get (v := .int (x k0 5)) C hH hin1 rfl hk0l (mm_e1 hk0) (j := 5) (by decide) rfl w6 rfl dX1_tell_90 ?_
    exact mm_iretP C hH hr hlk rfl h dX1_tell_93
  have h := mm_neg c8 h
  by_cases c9 : a1 = 6
  · have h := mm_pos c9 h
    refine lv_tableIn (off := 93) (tgt := 94) hx hb dX1_tell_1 (by rw [c9]; decide) (by rw [c9]; decide) (by rw [c9]; decide) (by decide) ?_
    have hl := lv_sub (l' := [(0, .ref (b + k0))]) hl [0] rfl
    refine lv_aload_n hx hb dX1_tell_94 rfl (lv_at hl 0 rfl) ?_
    refine mm_get (v := .int (x k0 6)) C hH hin1 rfl hk0l (mm_e1 hk0) (j := 6) (by decide) rfl w7 rfl dX1_tell_95 ?_
    exact mm_iretP C hH hr hlk rfl h dX1_tell_98
  have h := mm_neg c9 h
  by_cases c10 : a1 = 7
  · have h := mm_pos c10 h
    refine lv_tableIn (off := 98) (tgt := 99) hx hb dX1_tell_1 (by rw [c10]; decide) (by rw [c10]; decide) (by rw [c10]; decide) (by decide) ?_
    have hl := lv_sub (l' := [(0, .ref (b + k0))]) hl [0] rfl
    refine lv_aload_n hx hb dX1_tell_99 rfl (lv_at hl 0 rfl) ?_
    refine mm_get (v := .int (x k0 7)) C hH hin1 rfl hk0l (mm_e1 hk0) (j := 7) (by decide) rfl w8 rfl dX1_tell_100 ?_
    exact mm_iretP C hH hr hlk rfl h dX1_tell_103
  have h := mm_neg c10 h
  have nc1 := mm_tn (a := 0) c1 (by decide)
  have nc3 := mm_tn (a := 1) c3 (by decide)
  have nc4 := mm_tn (a := 2) c4 (by decide)
  have nc5 := mm_tn (a := 3) c5 (by decide)
  have nc7 := mm_tn (a := 4) c7 (by decide)
  have nc8 := mm_tn (a := 5) c8 (by decide)
  have nc9 := mm_tn (a := 6) c9 (by decide)
  have nc10 := mm_tn (a := 7) c10 (by decide)
  refine lv_tableOut (tgt := 104) hx hb dX1_tell_1 (by omega) (by decide) ?_
  have hl := lv_sub (l' := []) hl [] rfl
  refine lv_bipush (v := (-2)) hx hb dX1_tell_104 (by decide) ?_
  exact mm_iretP C hH hr hlk rfl h dX1_tell_106
end
section
set_option maxRecDepth 20000 in
theorem ggX3_init_X0_init : GoodIn wsX3_init wsX0_init := goodIn_r _ [24, 25, 2, 3, 26, 27, 28, 29, 30, 31, 42, 43, 44, 45, 46] (by decide +kernel) (by decide +kernel)
set_option maxRecDepth 20000 in
theorem gX3_init_X0_init_n44 : GoodIn wsX3_init (wsX0_init) := ggX3_init_X0_init
set_option maxRecDepth 20000 in
theorem ggX3_init_X1_init : GoodIn wsX3_init wsX1_init := goodIn_r _ [33, 34, 2, 3] (by decide +kernel) (by decide +kernel)
set_option maxRecDepth 20000 in
theorem gX3_init_X1_init_n49 : GoodIn wsX3_init (wsX1_init) := ggX3_init_X1_init
theorem dX3_init_0 : decode cX3_init 0 = .ok (.aload_n 0, 1) := by decide +kernel
theorem dX3_init_1 : decode cX3_init 1 = .ok (.invokespecial 3, 3) := by decide +kernel
theorem dX3_init_4 : decode cX3_init 4 = .ok (.aload_n 0, 1) := by decide +kernel
theorem dX3_init_5 : decode cX3_init 5 = .ok (.getstatic 9, 3) := by decide +kernel
theorem dX3_init_8 : decode cX3_init 8 = .ok (.invokevirtual 13, 3) := by decide +kernel
theorem dX3_init_11 : decode cX3_init 11 = .ok (.checkcast 14, 3) := by decide +kernel
theorem dX3_init_14 : decode cX3_init 14 = .ok (.putfield 18, 3) := by decide +kernel
theorem dX3_init_17 : decode cX3_init 17 = .ok (.aload_n 0, 1) := by decide +kernel
theorem dX3_init_18 : decode cX3_init 18 = .ok (.bipush 8, 2) := by decide +kernel
theorem dX3_init_20 : decode cX3_init 20 = .ok (.anewarray 23, 3) := by decide +kernel
theorem dX3_init_23 : decode cX3_init 23 = .ok (.putfield 25, 3) := by decide +kernel
theorem dX3_init_26 : decode cX3_init 26 = .ok (.aload_n 0, 1) := by decide +kernel
theorem dX3_init_27 : decode cX3_init 27 = .ok (.iconst 0, 1) := by decide +kernel
theorem dX3_init_28 : decode cX3_init 28 = .ok (.putfield 29, 3) := by decide +kernel
theorem dX3_init_31 : decode cX3_init 31 = .ok (.aload_n 0, 1) := by decide +kernel
theorem dX3_init_32 : decode cX3_init 32 = .ok (.iconst 0, 1) := by decide +kernel
theorem dX3_init_33 : decode cX3_init 33 = .ok (.putfield 33, 3) := by decide +kernel
theorem dX3_init_36 : decode cX3_init 36 = .ok (.aload_n 0, 1) := by decide +kernel
theorem dX3_init_37 : decode cX3_init 37 = .ok (.bipush (-6), 2) := by decide +kernel
theorem dX3_init_39 : decode cX3_init 39 = .ok (.putfield 36, 3) := by decide +kernel
theorem dX3_init_42 : decode cX3_init 42 = .ok (.aload_n 0, 1) := by decide +kernel
theorem dX3_init_43 : decode cX3_init 43 = .ok (.iconst 0, 1) := by decide +kernel
theorem dX3_init_44 : decode cX3_init 44 = .ok (.putfield 39, 3) := by decide +kernel
theorem dX3_init_47 : decode cX3_init 47 = .ok (.aload_n 0, 1) := by decide +kernel
theorem dX3_init_48 : decode cX3_init 48 = .ok (.new 42, 3) := by decide +kernel
theorem dX3_init_51 : decode cX3_init 51 = .ok (.dup, 1) := by decide +kernel
theorem dX3_init_52 : decode cX3_init 52 = .ok (.invokespecial 44, 3) := by decide +kernel
theorem dX3_init_55 : decode cX3_init 55 = .ok (.putfield 45, 3) := by decide +kernel
theorem dX3_init_58 : decode cX3_init 58 = .ok (.iconst 0, 1) := by decide +kernel
theorem dX3_init_59 : decode cX3_init 59 = .ok (.istore_n 1, 1) := by decide +kernel
theorem dX3_init_60 : decode cX3_init 60 = .ok (.iload_n 1, 1) := by decide +kernel
theorem dX3_init_61 : decode cX3_init 61 = .ok (.aload_n 0, 1) := by decide +kernel
theorem dX3_init_62 : decode cX3_init 62 = .ok (.getfield 25, 3) := by decide +kernel
theorem dX3_init_65 : decode cX3_init 65 = .ok (.arraylength, 1) := by decide +kernel
theorem dX3_init_66 : decode cX3_init 66 = .ok (.if_icmp .ge 22, 3) := by decide +kernel
theorem dX3_init_69 : decode cX3_init 69 = .ok (.aload_n 0, 1) := by decide +kernel
theorem dX3_init_70 : decode cX3_init 70 = .ok (.getfield 25, 3) := by decide +kernel
theorem dX3_init_73 : decode cX3_init 73 = .ok (.iload_n 1, 1) := by decide +kernel
theorem dX3_init_74 : decode cX3_init 74 = .ok (.new 23, 3) := by decide +kernel
theorem dX3_init_77 : decode cX3_init 77 = .ok (.dup, 1) := by decide +kernel
theorem dX3_init_78 : decode cX3_init 78 = .ok (.invokespecial 49, 3) := by decide +kernel
theorem dX3_init_81 : decode cX3_init 81 = .ok (.aastore, 1) := by decide +kernel
theorem dX3_init_82 : decode cX3_init 82 = .ok (.iinc 1 1, 3) := by decide +kernel
theorem dX3_init_85 : decode cX3_init 85 = .ok (.goto (-25), 3) := by decide +kernel
theorem dX3_init_88 : decode cX3_init 88 = .ok (.return_, 1) := by decide +kernel
set_option maxRecDepth 20000 in
theorem ggX3_copyFrom_X1_copyFrom : GoodIn wsX3_copyFrom wsX1_copyFrom := goodIn_r _ [16, 17, 18, 19, 20, 21, 22, 23, 24, 43, 44, 45, 46, 47, 48, 49, 50] (by decide +kernel) (by decide +kernel)
set_option maxRecDepth 20000 in
theorem gX3_copyFrom_X1_copyFrom : GoodIn wsX3_copyFrom (wsV RX3 56 RX1 yX1_copyFrom wsX1_copyFrom) := goodIn_app (goodIn_of _ (by decide +kernel)) ggX3_copyFrom_X1_copyFrom
set_option maxRecDepth 20000 in
theorem ggX3_copyFrom_X0_copyFrom : GoodIn wsX3_copyFrom wsX0_copyFrom := goodIn_r _ [29, 30, 31, 3, 4, 5, 32, 33, 34, 35, 51, 52, 53, 54, 55] (by decide +kernel) (by decide +kernel)
set_option maxRecDepth 20000 in
theorem gX3_copyFrom_X0_copyFrom : GoodIn wsX3_copyFrom (wsV RX3 60 RX0 yX0_copyFrom wsX0_copyFrom) := goodIn_app (goodIn_of _ (by decide +kernel)) ggX3_copyFrom_X0_copyFrom
theorem dX3_copyFrom_0 : decode cX3_copyFrom 0 = .ok (.aload_n 1, 1) := by decide +kernel
theorem dX3_copyFrom_1 : decode cX3_copyFrom 1 = .ok (.getfield 18, 3) := by decide +kernel
theorem dX3_copyFrom_4 : decode cX3_copyFrom 4 = .ok (.iconst 0, 1) := by decide +kernel
theorem dX3_copyFrom_5 : decode cX3_copyFrom 5 = .ok (.aload_n 0, 1) := by decide +kernel
theorem dX3_copyFrom_6 : decode cX3_copyFrom 6 = .ok (.getfield 18, 3) := by decide +kernel
theorem dX3_copyFrom_9 : decode cX3_copyFrom 9 = .ok (.iconst 0, 1) := by decide +kernel
theorem dX3_copyFrom_10 : decode cX3_copyFrom 10 = .ok (.aload_n 0, 1) := by decide +kernel
theorem dX3_copyFrom_11 : decode cX3_copyFrom 11 = .ok (.getfield 18, 3) := by decide +kernel
theorem dX3_copyFrom_14 : decode cX3_copyFrom 14 = .ok (.arraylength, 1) := by decide +kernel
theorem dX3_copyFrom_15 : decode cX3_copyFrom 15 = .ok (.invokestatic 50, 3) := by decide +kernel
theorem dX3_copyFrom_18 : decode cX3_copyFrom 18 = .ok (.iconst 0, 1) := by decide +kernel
theorem dX3_copyFrom_19 : decode cX3_copyFrom 19 = .ok (.istore_n 2, 1) := by decide +kernel
theorem dX3_copyFrom_20 : decode cX3_copyFrom 20 = .ok (.iload_n 2, 1) := by decide +kernel
theorem dX3_copyFrom_21 : decode cX3_copyFrom 21 = .ok (.aload_n 0, 1) := by decide +kernel
theorem dX3_copyFrom_22 : decode cX3_copyFrom 22 = .ok (.getfield 25, 3) := by decide +kernel
theorem dX3_copyFrom_25 : decode cX3_copyFrom 25 = .ok (.arraylength, 1) := by decide +kernel
theorem dX3_copyFrom_26 : decode cX3_copyFrom 26 = .ok (.if_icmp .ge 24, 3) := by decide +kernel
theorem dX3_copyFrom_29 : decode cX3_copyFrom 29 = .ok (.aload_n 0, 1) := by decide +kernel
theorem dX3_copyFrom_30 : decode cX3_copyFrom 30 = .ok (.getfield 25, 3) := by decide +kernel
theorem dX3_copyFrom_33 : decode cX3_copyFrom 33 = .ok (.iload_n 2, 1) := by decide +kernel
theorem dX3_copyFrom_34 : decode cX3_copyFrom 34 = .ok (.aaload, 1) := by decide +kernel
theorem dX3_copyFrom_35 : decode cX3_copyFrom 35 = .ok (.aload_n 1, 1) := by decide +kernel
theorem dX3_copyFrom_36 : decode cX3_copyFrom 36 = .ok (.getfield 25, 3) := by decide +kernel
theorem dX3_copyFrom_39 : decode cX3_copyFrom 39 = .ok (.iload_n 2, 1) := by decide +kernel
theorem dX3_copyFrom_40 : decode cX3_copyFrom 40 = .ok (.aaload, 1) := by decide +kernel
theorem dX3_copyFrom_41 : decode cX3_copyFrom 41 = .ok (.invokevirtual 56, 3) := by decide +kernel
theorem dX3_copyFrom_44 : decode cX3_copyFrom 44 = .ok (.iinc 2 1, 3) := by decide +kernel
theorem dX3_copyFrom_47 : decode cX3_copyFrom 47 = .ok (.goto (-27), 3) := by decide +kernel
theorem dX3_copyFrom_50 : decode cX3_copyFrom 50 = .ok (.aload_n 0, 1) := by decide +kernel
theorem dX3_copyFrom_51 : decode cX3_copyFrom 51 = .ok (.aload_n 1, 1) := by decide +kernel
theorem dX3_copyFrom_52 : decode cX3_copyFrom 52 = .ok (.getfield 29, 3) := by decide +kernel
theorem dX3_copyFrom_55 : decode cX3_copyFrom 55 = .ok (.putfield 29, 3) := by decide +kernel
theorem dX3_copyFrom_58 : decode cX3_copyFrom 58 = .ok (.aload_n 0, 1) := by decide +kernel
theorem dX3_copyFrom_59 : decode cX3_copyFrom 59 = .ok (.aload_n 1, 1) := by decide +kernel
theorem dX3_copyFrom_60 : decode cX3_copyFrom 60 = .ok (.getfield 33, 3) := by decide +kernel
theorem dX3_copyFrom_63 : decode cX3_copyFrom 63 = .ok (.putfield 33, 3) := by decide +kernel
theorem dX3_copyFrom_66 : decode cX3_copyFrom 66 = .ok (.aload_n 0, 1) := by decide +kernel
theorem dX3_copyFrom_67 : decode cX3_copyFrom 67 = .ok (.aload_n 1, 1) := by decide +kernel
theorem dX3_copyFrom_68 : decode cX3_copyFrom 68 = .ok (.getfield 36, 3) := by decide +kernel
theorem dX3_copyFrom_71 : decode cX3_copyFrom 71 = .ok (.putfield 36, 3) := by decide +kernel
theorem dX3_copyFrom_74 : decode cX3_copyFrom 74 = .ok (.aload_n 0, 1) := by decide +kernel
theorem dX3_copyFrom_75 : decode cX3_copyFrom 75 = .ok (.aload_n 1, 1) := by decide +kernel
theorem dX3_copyFrom_76 : decode cX3_copyFrom 76 = .ok (.getfield 39, 3) := by decide +kernel
theorem dX3_copyFrom_79 : decode cX3_copyFrom 79 = .ok (.putfield 39, 3) := by decide +kernel
theorem dX3_copyFrom_82 : decode cX3_copyFrom 82 = .ok (.aload_n 0, 1) := by decide +kernel
theorem dX3_copyFrom_83 : decode cX3_copyFrom 83 = .ok (.getfield 45, 3) := by decide +kernel
theorem dX3_copyFrom_86 : decode cX3_copyFrom 86 = .ok (.aload_n 1, 1) := by decide +kernel
theorem dX3_copyFrom_87 : decode cX3_copyFrom 87 = .ok (.getfield 45, 3) := by decide +kernel
theorem dX3_copyFrom_90 : decode cX3_copyFrom 90 = .ok (.invokevirtual 60, 3) := by decide +kernel
theorem dX3_copyFrom_93 : decode cX3_copyFrom 93 = .ok (.return_, 1) := by decide +kernel
theorem dX3_find_0 : decode cX3_find 0 = .ok (.iload_n 1, 1) := by decide +kernel
theorem dX3_find_1 : decode cX3_find 1 = .ok (.ifCond .lt 11, 3) := by decide +kernel
theorem dX3_find_4 : decode cX3_find 4 = .ok (.iload_n 1, 1) := by decide +kernel
theorem dX3_find_5 : decode cX3_find 5 = .ok (.aload_n 0, 1) := by decide +kernel
theorem dX3_find_6 : decode cX3_find 6 = .ok (.getfield 29, 3) := by decide +kernel
theorem dX3_find_9 : decode cX3_find 9 = .ok (.if_icmp .lt 7, 3) := by decide +kernel
theorem dX3_find_12 : decode cX3_find 12 = .ok (.aconst_null, 1) := by decide +kernel
theorem dX3_find_13 : decode cX3_find 13 = .ok (.goto 9, 3) := by decide +kernel
theorem dX3_find_16 : decode cX3_find 16 = .ok (.aload_n 0, 1) := by decide +kernel
theorem dX3_find_17 : decode cX3_find 17 = .ok (.getfield 25, 3) := by decide +kernel
theorem dX3_find_20 : decode cX3_find 20 = .ok (.iload_n 1, 1) := by decide +kernel
theorem dX3_find_21 : decode cX3_find 21 = .ok (.aaload, 1) := by decide +kernel
theorem dX3_find_22 : decode cX3_find 22 = .ok (.areturn, 1) := by decide +kernel
theorem dX3_changeSetting_0 : decode cX3_changeSetting 0 = .ok (.iload_n 1, 1) := by decide +kernel
theorem dX3_changeSetting_1 : decode cX3_changeSetting 1 = .ok (.ifCond .lt 12, 3) := by decide +kernel
theorem dX3_changeSetting_4 : decode cX3_changeSetting 4 = .ok (.iload_n 1, 1) := by decide +kernel
theorem dX3_changeSetting_5 : decode cX3_changeSetting 5 = .ok (.aload_n 0, 1) := by decide +kernel
theorem dX3_changeSetting_6 : decode cX3_changeSetting 6 = .ok (.getfield 18, 3) := by decide +kernel
theorem dX3_changeSetting_9 : decode cX3_changeSetting 9 = .ok (.arraylength, 1) := by decide +kernel
theorem dX3_changeSetting_10 : decode cX3_changeSetting 10 = .ok (.if_icmp .lt 6, 3) := by decide +kernel
theorem dX3_changeSetting_13 : decode cX3_changeSetting 13 = .ok (.bipush (-2), 2) := by decide +kernel
theorem dX3_changeSetting_15 : decode cX3_changeSetting 15 = .ok (.ireturn, 1) := by decide +kernel
theorem dX3_changeSetting_16 : decode cX3_changeSetting 16 = .ok (.iload_n 2, 1) := by decide +kernel
theorem dX3_changeSetting_17 : decode cX3_changeSetting 17 = .ok (.getstatic 63, 3) := by decide +kernel
theorem dX3_changeSetting_20 : decode cX3_changeSetting 20 = .ok (.iload_n 1, 1) := by decide +kernel
theorem dX3_changeSetting_21 : decode cX3_changeSetting 21 = .ok (.iaload, 1) := by decide +kernel
theorem dX3_changeSetting_22 : decode cX3_changeSetting 22 = .ok (.if_icmp .lt 12, 3) := by decide +kernel
theorem dX3_changeSetting_25 : decode cX3_changeSetting 25 = .ok (.iload_n 2, 1) := by decide +kernel
theorem dX3_changeSetting_26 : decode cX3_changeSetting 26 = .ok (.getstatic 66, 3) := by decide +kernel
theorem dX3_changeSetting_29 : decode cX3_changeSetting 29 = .ok (.iload_n 1, 1) := by decide +kernel
theorem dX3_changeSetting_30 : decode cX3_changeSetting 30 = .ok (.iaload, 1) := by decide +kernel
theorem dX3_changeSetting_31 : decode cX3_changeSetting 31 = .ok (.if_icmp .le 6, 3) := by decide +kernel
theorem dX3_changeSetting_34 : decode cX3_changeSetting 34 = .ok (.bipush (-2), 2) := by decide +kernel
theorem dX3_changeSetting_36 : decode cX3_changeSetting 36 = .ok (.ireturn, 1) := by decide +kernel
theorem dX3_changeSetting_37 : decode cX3_changeSetting 37 = .ok (.aload_n 0, 1) := by decide +kernel
theorem dX3_changeSetting_38 : decode cX3_changeSetting 38 = .ok (.getfield 18, 3) := by decide +kernel
theorem dX3_changeSetting_41 : decode cX3_changeSetting 41 = .ok (.iload_n 1, 1) := by decide +kernel
theorem dX3_changeSetting_42 : decode cX3_changeSetting 42 = .ok (.iaload, 1) := by decide +kernel
theorem dX3_changeSetting_43 : decode cX3_changeSetting 43 = .ok (.istore_n 3, 1) := by decide +kernel
theorem dX3_changeSetting_44 : decode cX3_changeSetting 44 = .ok (.aload_n 0, 1) := by decide +kernel
theorem dX3_changeSetting_45 : decode cX3_changeSetting 45 = .ok (.getfield 18, 3) := by decide +kernel
theorem dX3_changeSetting_48 : decode cX3_changeSetting 48 = .ok (.iload_n 1, 1) := by decide +kernel
theorem dX3_changeSetting_49 : decode cX3_changeSetting 49 = .ok (.iload_n 2, 1) := by decide +kernel
theorem dX3_changeSetting_50 : decode cX3_changeSetting 50 = .ok (.iastore, 1) := by decide +kernel
theorem dX3_changeSetting_51 : decode cX3_changeSetting 51 = .ok (.iload_n 3, 1) := by decide +kernel
theorem dX3_changeSetting_52 : decode cX3_changeSetting 52 = .ok (.ireturn, 1) := by decide +kernel
set_option maxRecDepth 20000 in
theorem ggX3_addLanding_X1_arrive : GoodIn wsX3_addLanding wsX1_arrive := goodIn_r _ [7, 8, 9, 10, 11, 12, 13, 14, 15, 35, 36, 37, 38, 39, 40, 41, 42] (by decide +kernel) (by decide +kernel)
set_option maxRecDepth 20000 in
theorem gX3_addLanding_X1_arrive : GoodIn wsX3_addLanding (wsV RX3 69 RX1 yX1_arrive wsX1_arrive) := goodIn_app (goodIn_of _ (by decide +kernel)) ggX3_addLanding_X1_arrive
set_option maxRecDepth 20000 in
theorem ggX3_addLanding_X3_followTaken : GoodIn wsX3_addLanding wsX3_followTaken := goodIn_r _ [20, 1, 2, 21, 22, 23, 24, 25, 26, 6, 27, 8, 11, 28, 29, 30, 31, 32, 33, 34, 35, 36, 37, 38, 39, 40, 41, 42] (by decide +kernel) (by decide +kernel)
set_option maxRecDepth 20000 in
theorem gX3_addLanding_X3_followTaken : GoodIn wsX3_addLanding (wsV RX3 73 RX3 yX3_followTaken wsX3_followTaken) := goodIn_app (goodIn_of _ (by decide +kernel)) ggX3_addLanding_X3_followTaken
theorem dX3_addLanding_0 : decode cX3_addLanding 0 = .ok (.iload_n 1, 1) := by decide +kernel
theorem dX3_addLanding_1 : decode cX3_addLanding 1 = .ok (.ifCond .lt 10, 3) := by decide +kernel
theorem dX3_addLanding_4 : decode cX3_addLanding 4 = .ok (.iload_n 1, 1) := by decide +kernel
theorem dX3_addLanding_5 : decode cX3_addLanding 5 = .ok (.sipush 999, 3) := by decide +kernel
theorem dX3_addLanding_8 : decode cX3_addLanding 8 = .ok (.if_icmp .le 6, 3) := by decide +kernel
theorem dX3_addLanding_11 : decode cX3_addLanding 11 = .ok (.bipush (-2), 2) := by decide +kernel
theorem dX3_addLanding_13 : decode cX3_addLanding 13 = .ok (.ireturn, 1) := by decide +kernel
theorem dX3_addLanding_14 : decode cX3_addLanding 14 = .ok (.aload_n 0, 1) := by decide +kernel
theorem dX3_addLanding_15 : decode cX3_addLanding 15 = .ok (.getfield 29, 3) := by decide +kernel
theorem dX3_addLanding_18 : decode cX3_addLanding 18 = .ok (.bipush 8, 2) := by decide +kernel
theorem dX3_addLanding_20 : decode cX3_addLanding 20 = .ok (.if_icmp .lt 6, 3) := by decide +kernel
theorem dX3_addLanding_23 : decode cX3_addLanding 23 = .ok (.bipush (-4), 2) := by decide +kernel
theorem dX3_addLanding_25 : decode cX3_addLanding 25 = .ok (.ireturn, 1) := by decide +kernel
theorem dX3_addLanding_26 : decode cX3_addLanding 26 = .ok (.aload_n 0, 1) := by decide +kernel
theorem dX3_addLanding_27 : decode cX3_addLanding 27 = .ok (.getfield 25, 3) := by decide +kernel
theorem dX3_addLanding_30 : decode cX3_addLanding 30 = .ok (.aload_n 0, 1) := by decide +kernel
theorem dX3_addLanding_31 : decode cX3_addLanding 31 = .ok (.getfield 29, 3) := by decide +kernel
theorem dX3_addLanding_34 : decode cX3_addLanding 34 = .ok (.aaload, 1) := by decide +kernel
theorem dX3_addLanding_35 : decode cX3_addLanding 35 = .ok (.iload_n 1, 1) := by decide +kernel
theorem dX3_addLanding_36 : decode cX3_addLanding 36 = .ok (.invokevirtual 69, 3) := by decide +kernel
theorem dX3_addLanding_39 : decode cX3_addLanding 39 = .ok (.aload_n 0, 1) := by decide +kernel
theorem dX3_addLanding_40 : decode cX3_addLanding 40 = .ok (.dup, 1) := by decide +kernel
theorem dX3_addLanding_41 : decode cX3_addLanding 41 = .ok (.getfield 29, 3) := by decide +kernel
theorem dX3_addLanding_44 : decode cX3_addLanding 44 = .ok (.iconst 1, 1) := by decide +kernel
theorem dX3_addLanding_45 : decode cX3_addLanding 45 = .ok (.iadd, 1) := by decide +kernel
theorem dX3_addLanding_46 : decode cX3_addLanding 46 = .ok (.putfield 29, 3) := by decide +kernel
theorem dX3_addLanding_49 : decode cX3_addLanding 49 = .ok (.aload_n 0, 1) := by decide +kernel
theorem dX3_addLanding_50 : decode cX3_addLanding 50 = .ok (.invokevirtual 73, 3) := by decide +kernel
theorem dX3_addLanding_53 : decode cX3_addLanding 53 = .ok (.aload_n 0, 1) := by decide +kernel
theorem dX3_addLanding_54 : decode cX3_addLanding 54 = .ok (.getfield 29, 3) := by decide +kernel
theorem dX3_addLanding_57 : decode cX3_addLanding 57 = .ok (.iconst 1, 1) := by decide +kernel
theorem dX3_addLanding_58 : decode cX3_addLanding 58 = .ok (.isub, 1) := by decide +kernel
theorem dX3_addLanding_59 : decode cX3_addLanding 59 = .ok (.ireturn, 1) := by decide +kernel
set_option maxRecDepth 20000 in
theorem ggX3_openLanding_X3_find : GoodIn wsX3_openLanding wsX3_find := goodIn_r _ [6, 7, 8, 67, 68, 69, 70, 71, 72, 73] (by decide +kernel) (by decide +kernel)
set_option maxRecDepth 20000 in
theorem gX3_openLanding_X3_find : GoodIn wsX3_openLanding (wsV RX3 76 RX3 yX3_find wsX3_find) := goodIn_app (goodIn_of _ (by decide +kernel)) ggX3_openLanding_X3_find
set_option maxRecDepth 20000 in
theorem ggX3_openLanding_X3_finishChange : GoodIn wsX3_openLanding wsX3_finishChange := goodIn_r _ [12, 13, 14, 15, 16, 17, 18, 19, 20, 21, 22, 23, 24, 25, 26, 27, 28, 29, 30, 31, 32, 5, 33, 34, 35, 36, 37, 38, 39, 40, 41, 42, 43, 44, 45, 46, 47, 48, 49, 50, 7, 8, 51, 52, 53, 54, 55, 56, 57, 58, 67, 68, 69, 70, 71, 72, 73, 59, 60, 61, 62, 63, 64, 65, 66, 74, 75, 76, 77, 78] (by decide +kernel) (by decide +kernel)
set_option maxRecDepth 20000 in
theorem gX3_openLanding_X3_finishChange : GoodIn wsX3_openLanding (wsV RX3 84 RX3 yX3_finishChange wsX3_finishChange) := goodIn_app (goodIn_of _ (by decide +kernel)) ggX3_openLanding_X3_finishChange
theorem dX3_openLanding_0 : decode cX3_openLanding 0 = .ok (.aload_n 0, 1) := by decide +kernel
theorem dX3_openLanding_1 : decode cX3_openLanding 1 = .ok (.iload_n 1, 1) := by decide +kernel
theorem dX3_openLanding_2 : decode cX3_openLanding 2 = .ok (.invokevirtual 76, 3) := by decide +kernel
theorem dX3_openLanding_5 : decode cX3_openLanding 5 = .ok (.astore_n 2, 1) := by decide +kernel
theorem dX3_openLanding_6 : decode cX3_openLanding 6 = .ok (.aload_n 2, 1) := by decide +kernel
theorem dX3_openLanding_7 : decode cX3_openLanding 7 = .ok (.ifnonnull 5, 3) := by decide +kernel
theorem dX3_openLanding_10 : decode cX3_openLanding 10 = .ok (.iconst (-1), 1) := by decide +kernel
theorem dX3_openLanding_11 : decode cX3_openLanding 11 = .ok (.ireturn, 1) := by decide +kernel
theorem dX3_openLanding_12 : decode cX3_openLanding 12 = .ok (.aload_n 2, 1) := by decide +kernel
theorem dX3_openLanding_13 : decode cX3_openLanding 13 = .ok (.getfield 80, 3) := by decide +kernel
theorem dX3_openLanding_16 : decode cX3_openLanding 16 = .ok (.ifCond .eq 6, 3) := by decide +kernel
theorem dX3_openLanding_19 : decode cX3_openLanding 19 = .ok (.bipush (-5), 2) := by decide +kernel
theorem dX3_openLanding_21 : decode cX3_openLanding 21 = .ok (.ireturn, 1) := by decide +kernel
theorem dX3_openLanding_22 : decode cX3_openLanding 22 = .ok (.aload_n 2, 1) := by decide +kernel
theorem dX3_openLanding_23 : decode cX3_openLanding 23 = .ok (.iconst 1, 1) := by decide +kernel
theorem dX3_openLanding_24 : decode cX3_openLanding 24 = .ok (.putfield 80, 3) := by decide +kernel
theorem dX3_openLanding_27 : decode cX3_openLanding 27 = .ok (.aload_n 0, 1) := by decide +kernel
theorem dX3_openLanding_28 : decode cX3_openLanding 28 = .ok (.aload_n 2, 1) := by decide +kernel
theorem dX3_openLanding_29 : decode cX3_openLanding 29 = .ok (.iload_n 1, 1) := by decide +kernel
theorem dX3_openLanding_30 : decode cX3_openLanding 30 = .ok (.iconst 1, 1) := by decide +kernel
theorem dX3_openLanding_31 : decode cX3_openLanding 31 = .ok (.invokevirtual 84, 3) := by decide +kernel
theorem dX3_openLanding_34 : decode cX3_openLanding 34 = .ok (.ireturn, 1) := by decide +kernel
set_option maxRecDepth 20000 in
theorem ggX3_closeLanding_X3_find : GoodIn wsX3_closeLanding wsX3_find := goodIn_r _ [6, 7, 8, 67, 68, 69, 70, 71, 72, 73] (by decide +kernel) (by decide +kernel)
set_option maxRecDepth 20000 in
theorem gX3_closeLanding_X3_find : GoodIn wsX3_closeLanding (wsV RX3 76 RX3 yX3_find wsX3_find) := goodIn_app (goodIn_of _ (by decide +kernel)) ggX3_closeLanding_X3_find
set_option maxRecDepth 20000 in
theorem ggX3_closeLanding_X3_finishChange : GoodIn wsX3_closeLanding wsX3_finishChange := goodIn_r _ [12, 13, 14, 15, 16, 17, 18, 19, 20, 21, 22, 23, 24, 25, 26, 27, 28, 29, 30, 31, 32, 5, 33, 34, 35, 36, 37, 38, 39, 40, 41, 42, 43, 44, 45, 46, 47, 48, 49, 50, 7, 8, 51, 52, 53, 54, 55, 56, 57, 58, 67, 68, 69, 70, 71, 72, 73, 59, 60, 61, 62, 63, 64, 65, 66, 74, 75, 76, 77, 78] (by decide +kernel) (by decide +kernel)
set_option maxRecDepth 20000 in
theorem gX3_closeLanding_X3_finishChange : GoodIn wsX3_closeLanding (wsV RX3 84 RX3 yX3_finishChange wsX3_finishChange) := goodIn_app (goodIn_of _ (by decide +kernel)) ggX3_closeLanding_X3_finishChange
theorem dX3_closeLanding_0 : decode cX3_closeLanding 0 = .ok (.aload_n 0, 1) := by decide +kernel
theorem dX3_closeLanding_1 : decode cX3_closeLanding 1 = .ok (.iload_n 1, 1) := by decide +kernel
theorem dX3_closeLanding_2 : decode cX3_closeLanding 2 = .ok (.invokevirtual 76, 3) := by decide +kernel
theorem dX3_closeLanding_5 : decode cX3_closeLanding 5 = .ok (.astore_n 2, 1) := by decide +kernel
theorem dX3_closeLanding_6 : decode cX3_closeLanding 6 = .ok (.aload_n 2, 1) := by decide +kernel
theorem dX3_closeLanding_7 : decode cX3_closeLanding 7 = .ok (.ifnonnull 5, 3) := by decide +kernel
theorem dX3_closeLanding_10 : decode cX3_closeLanding 10 = .ok (.iconst (-1), 1) := by decide +kernel
theorem dX3_closeLanding_11 : decode cX3_closeLanding 11 = .ok (.ireturn, 1) := by decide +kernel
theorem dX3_closeLanding_12 : decode cX3_closeLanding 12 = .ok (.aload_n 2, 1) := by decide +kernel
theorem dX3_closeLanding_13 : decode cX3_closeLanding 13 = .ok (.getfield 80, 3) := by decide +kernel
theorem dX3_closeLanding_16 : decode cX3_closeLanding 16 = .ok (.ifCond .ne 6, 3) := by decide +kernel
theorem dX3_closeLanding_19 : decode cX3_closeLanding 19 = .ok (.bipush (-5), 2) := by decide +kernel
theorem dX3_closeLanding_21 : decode cX3_closeLanding 21 = .ok (.ireturn, 1) := by decide +kernel
theorem dX3_closeLanding_22 : decode cX3_closeLanding 22 = .ok (.aload_n 2, 1) := by decide +kernel
theorem dX3_closeLanding_23 : decode cX3_closeLanding 23 = .ok (.iconst 0, 1) := by decide +kernel
theorem dX3_closeLanding_24 : decode cX3_closeLanding 24 = .ok (.putfield 80, 3) := by decide +kernel
theorem dX3_closeLanding_27 : decode cX3_closeLanding 27 = .ok (.aload_n 0, 1) := by decide +kernel
theorem dX3_closeLanding_28 : decode cX3_closeLanding 28 = .ok (.aload_n 2, 1) := by decide +kernel
theorem dX3_closeLanding_29 : decode cX3_closeLanding 29 = .ok (.iload_n 1, 1) := by decide +kernel
theorem dX3_closeLanding_30 : decode cX3_closeLanding 30 = .ok (.iconst 0, 1) := by decide +kernel
theorem dX3_closeLanding_31 : decode cX3_closeLanding 31 = .ok (.invokevirtual 84, 3) := by decide +kernel
theorem dX3_closeLanding_34 : decode cX3_closeLanding 34 = .ok (.ireturn, 1) := by decide +kernel
set_option maxRecDepth 20000 in
theorem ggX3_changePrice_X3_find : GoodIn wsX3_changePrice wsX3_find := goodIn_r _ [6, 7, 8, 66, 67, 68, 69, 70, 71, 72] (by decide +kernel) (by decide +kernel)
set_option maxRecDepth 20000 in
theorem gX3_changePrice_X3_find : GoodIn wsX3_changePrice (wsV RX3 76 RX3 yX3_find wsX3_find) := goodIn_app (goodIn_of _ (by decide +kernel)) ggX3_changePrice_X3_find
set_option maxRecDepth 20000 in
theorem ggX3_changePrice_X3_finishChange : GoodIn wsX3_changePrice wsX3_finishChange := goodIn_r _ [12, 13, 14, 15, 16, 17, 18, 19, 20, 21, 22, 23, 24, 25, 26, 27, 28, 29, 30, 31, 32, 5, 33, 34, 35, 36, 37, 38, 39, 40, 41, 42, 43, 44, 45, 46, 47, 48, 49, 50, 7, 8, 1, 51, 52, 53, 54, 55, 56, 57, 66, 67, 68, 69, 70, 71, 72, 58, 59, 60, 61, 62, 63, 64, 65, 73, 74, 75, 76, 77] (by decide +kernel) (by decide +kernel)
set_option maxRecDepth 20000 in
theorem gX3_changePrice_X3_finishChange : GoodIn wsX3_changePrice (wsV RX3 84 RX3 yX3_finishChange wsX3_finishChange) := goodIn_app (goodIn_of _ (by decide +kernel)) ggX3_changePrice_X3_finishChange
theorem dX3_changePrice_0 : decode cX3_changePrice 0 = .ok (.aload_n 0, 1) := by decide +kernel
theorem dX3_changePrice_1 : decode cX3_changePrice 1 = .ok (.iload_n 1, 1) := by decide +kernel
theorem dX3_changePrice_2 : decode cX3_changePrice 2 = .ok (.invokevirtual 76, 3) := by decide +kernel
theorem dX3_changePrice_5 : decode cX3_changePrice 5 = .ok (.astore_n 3, 1) := by decide +kernel
theorem dX3_changePrice_6 : decode cX3_changePrice 6 = .ok (.aload_n 3, 1) := by decide +kernel
theorem dX3_changePrice_7 : decode cX3_changePrice 7 = .ok (.ifnonnull 5, 3) := by decide +kernel
theorem dX3_changePrice_10 : decode cX3_changePrice 10 = .ok (.iconst (-1), 1) := by decide +kernel
theorem dX3_changePrice_11 : decode cX3_changePrice 11 = .ok (.ireturn, 1) := by decide +kernel
theorem dX3_changePrice_12 : decode cX3_changePrice 12 = .ok (.iload_n 2, 1) := by decide +kernel
theorem dX3_changePrice_13 : decode cX3_changePrice 13 = .ok (.ifCond .lt 10, 3) := by decide +kernel
theorem dX3_changePrice_16 : decode cX3_changePrice 16 = .ok (.iload_n 2, 1) := by decide +kernel
theorem dX3_changePrice_17 : decode cX3_changePrice 17 = .ok (.sipush 999, 3) := by decide +kernel
theorem dX3_changePrice_20 : decode cX3_changePrice 20 = .ok (.if_icmp .le 6, 3) := by decide +kernel
theorem dX3_changePrice_23 : decode cX3_changePrice 23 = .ok (.bipush (-2), 2) := by decide +kernel
theorem dX3_changePrice_25 : decode cX3_changePrice 25 = .ok (.ireturn, 1) := by decide +kernel
theorem dX3_changePrice_26 : decode cX3_changePrice 26 = .ok (.aload_n 3, 1) := by decide +kernel
theorem dX3_changePrice_27 : decode cX3_changePrice 27 = .ok (.getfield 88, 3) := by decide +kernel
theorem dX3_changePrice_30 : decode cX3_changePrice 30 = .ok (.iload_n 2, 1) := by decide +kernel
theorem dX3_changePrice_31 : decode cX3_changePrice 31 = .ok (.if_icmp .ne 6, 3) := by decide +kernel
theorem dX3_changePrice_34 : decode cX3_changePrice 34 = .ok (.bipush (-5), 2) := by decide +kernel
theorem dX3_changePrice_36 : decode cX3_changePrice 36 = .ok (.ireturn, 1) := by decide +kernel
theorem dX3_changePrice_37 : decode cX3_changePrice 37 = .ok (.aload_n 3, 1) := by decide +kernel
theorem dX3_changePrice_38 : decode cX3_changePrice 38 = .ok (.iload_n 2, 1) := by decide +kernel
theorem dX3_changePrice_39 : decode cX3_changePrice 39 = .ok (.putfield 88, 3) := by decide +kernel
theorem dX3_changePrice_42 : decode cX3_changePrice 42 = .ok (.aload_n 0, 1) := by decide +kernel
theorem dX3_changePrice_43 : decode cX3_changePrice 43 = .ok (.aload_n 3, 1) := by decide +kernel
theorem dX3_changePrice_44 : decode cX3_changePrice 44 = .ok (.iload_n 1, 1) := by decide +kernel
theorem dX3_changePrice_45 : decode cX3_changePrice 45 = .ok (.iconst 2, 1) := by decide +kernel
theorem dX3_changePrice_46 : decode cX3_changePrice 46 = .ok (.invokevirtual 84, 3) := by decide +kernel
theorem dX3_changePrice_49 : decode cX3_changePrice 49 = .ok (.ireturn, 1) := by decide +kernel
set_option maxRecDepth 20000 in
theorem ggX3_finishChange_X0_add : GoodIn wsX3_finishChange wsX0_add := goodIn_r _ [8, 9, 10, 11, 12, 13, 14, 15, 16, 17, 65, 66, 67, 68, 69] (by decide +kernel) (by decide +kernel)
set_option maxRecDepth 20000 in
theorem gX3_finishChange_X0_add : GoodIn wsX3_finishChange (wsV RX3 91 RX0 yX0_add wsX0_add) := goodIn_app (goodIn_of _ (by decide +kernel)) ggX3_finishChange_X0_add
set_option maxRecDepth 20000 in
theorem ggX3_finishChange_X3_fineBySort : GoodIn wsX3_finishChange wsX3_fineBySort := goodIn_r _ [22, 23, 24, 25, 26, 27, 28, 29, 30, 31, 32, 15, 16, 17, 33, 34, 35, 50, 51, 52, 53, 54, 55, 56, 57, 58, 59, 60, 61, 62, 63, 64] (by decide +kernel) (by decide +kernel)
set_option maxRecDepth 20000 in
theorem gX3_finishChange_X3_fineBySort : GoodIn wsX3_finishChange (wsV RX3 95 RX3 yX3_fineBySort wsX3_fineBySort) := goodIn_app (goodIn_of _ (by decide +kernel)) ggX3_finishChange_X3_fineBySort
set_option maxRecDepth 20000 in
theorem ggX3_finishChange_X3_followTaken : GoodIn wsX3_finishChange wsX3_followTaken := goodIn_r _ [39, 40, 41, 42, 43, 44, 45, 46, 47, 27, 48, 49, 33, 50, 51, 52, 53, 54, 55, 56, 57, 58, 59, 60, 61, 62, 63, 64] (by decide +kernel) (by decide +kernel)
set_option maxRecDepth 20000 in
theorem gX3_finishChange_X3_followTaken : GoodIn wsX3_finishChange (wsV RX3 73 RX3 yX3_followTaken wsX3_followTaken) := goodIn_app (goodIn_of _ (by decide +kernel)) ggX3_finishChange_X3_followTaken
theorem dX3_finishChange_0 : decode cX3_finishChange 0 = .ok (.aload_n 0, 1) := by decide +kernel
theorem dX3_finishChange_1 : decode cX3_finishChange 1 = .ok (.getfield 45, 3) := by decide +kernel
theorem dX3_finishChange_4 : decode cX3_finishChange 4 = .ok (.iload_n 3, 1) := by decide +kernel
theorem dX3_finishChange_5 : decode cX3_finishChange 5 = .ok (.iload_n 2, 1) := by decide +kernel
theorem dX3_finishChange_6 : decode cX3_finishChange 6 = .ok (.aload_n 0, 1) := by decide +kernel
theorem dX3_finishChange_7 : decode cX3_finishChange 7 = .ok (.getfield 33, 3) := by decide +kernel
theorem dX3_finishChange_10 : decode cX3_finishChange 10 = .ok (.invokevirtual 91, 3) := by decide +kernel
theorem dX3_finishChange_13 : decode cX3_finishChange 13 = .ok (.aload_n 0, 1) := by decide +kernel
theorem dX3_finishChange_14 : decode cX3_finishChange 14 = .ok (.aload_n 1, 1) := by decide +kernel
theorem dX3_finishChange_15 : decode cX3_finishChange 15 = .ok (.iload_n 3, 1) := by decide +kernel
theorem dX3_finishChange_16 : decode cX3_finishChange 16 = .ok (.invokevirtual 95, 3) := by decide +kernel
theorem dX3_finishChange_19 : decode cX3_finishChange 19 = .ok (.ifCond .eq 16, 3) := by decide +kernel
theorem dX3_finishChange_22 : decode cX3_finishChange 22 = .ok (.aload_n 0, 1) := by decide +kernel
theorem dX3_finishChange_23 : decode cX3_finishChange 23 = .ok (.getfield 45, 3) := by decide +kernel
theorem dX3_finishChange_26 : decode cX3_finishChange 26 = .ok (.iconst 3, 1) := by decide +kernel
theorem dX3_finishChange_27 : decode cX3_finishChange 27 = .ok (.iload_n 2, 1) := by decide +kernel
theorem dX3_finishChange_28 : decode cX3_finishChange 28 = .ok (.aload_n 0, 1) := by decide +kernel
theorem dX3_finishChange_29 : decode cX3_finishChange 29 = .ok (.getfield 33, 3) := by decide +kernel
theorem dX3_finishChange_32 : decode cX3_finishChange 32 = .ok (.invokevirtual 91, 3) := by decide +kernel
theorem dX3_finishChange_35 : decode cX3_finishChange 35 = .ok (.aload_n 0, 1) := by decide +kernel
theorem dX3_finishChange_36 : decode cX3_finishChange 36 = .ok (.invokevirtual 73, 3) := by decide +kernel
theorem dX3_finishChange_39 : decode cX3_finishChange 39 = .ok (.aload_n 1, 1) := by decide +kernel
theorem dX3_finishChange_40 : decode cX3_finishChange 40 = .ok (.getfield 99, 3) := by decide +kernel
theorem dX3_finishChange_43 : decode cX3_finishChange 43 = .ok (.ireturn, 1) := by decide +kernel
set_option maxRecDepth 20000 in
theorem ggX3_fineBySort_X1_addFine : GoodIn wsX3_fineBySort wsX1_addFine := goodIn_r _ [6, 7, 8, 9, 10, 11, 12, 13, 14, 15, 16, 24, 25, 26, 27, 28, 29, 30, 31] (by decide +kernel) (by decide +kernel)
set_option maxRecDepth 20000 in
theorem gX3_fineBySort_X1_addFine : GoodIn wsX3_fineBySort (wsV RX3 102 RX1 yX1_addFine wsX1_addFine) := goodIn_app (goodIn_of _ (by decide +kernel)) ggX3_fineBySort_X1_addFine
theorem dX3_fineBySort_0 : decode cX3_fineBySort 0 = .ok (.aload_n 1, 1) := by decide +kernel
theorem dX3_fineBySort_1 : decode cX3_fineBySort 1 = .ok (.aload_n 0, 1) := by decide +kernel
theorem dX3_fineBySort_2 : decode cX3_fineBySort 2 = .ok (.getfield 18, 3) := by decide +kernel
theorem dX3_fineBySort_5 : decode cX3_fineBySort 5 = .ok (.iload_n 2, 1) := by decide +kernel
theorem dX3_fineBySort_6 : decode cX3_fineBySort 6 = .ok (.iaload, 1) := by decide +kernel
theorem dX3_fineBySort_7 : decode cX3_fineBySort 7 = .ok (.aload_n 0, 1) := by decide +kernel
theorem dX3_fineBySort_8 : decode cX3_fineBySort 8 = .ok (.getfield 18, 3) := by decide +kernel
theorem dX3_fineBySort_11 : decode cX3_fineBySort 11 = .ok (.iconst 4, 1) := by decide +kernel
theorem dX3_fineBySort_12 : decode cX3_fineBySort 12 = .ok (.iaload, 1) := by decide +kernel
theorem dX3_fineBySort_13 : decode cX3_fineBySort 13 = .ok (.invokevirtual 102, 3) := by decide +kernel
theorem dX3_fineBySort_16 : decode cX3_fineBySort 16 = .ok (.ireturn, 1) := by decide +kernel
set_option maxRecDepth 20000 in
theorem ggX3_passMinutes_X3_passOneMinute : GoodIn wsX3_passMinutes wsX3_passOneMinute := goodIn_r _ [7, 1, 8, 9, 10, 11, 12, 13, 6, 14, 15, 16, 17, 18, 19, 20, 21, 22, 23, 24, 25, 26, 27, 28, 29, 30, 31, 32, 33, 34, 35, 36, 37, 38, 39, 40, 41, 42, 43, 44, 45, 46, 47, 48, 49, 50, 51, 52, 53, 54, 55, 56, 57, 58, 59, 60, 61, 62, 63, 64, 65, 66, 67, 68, 69, 70, 71] (by decide +kernel) (by decide +kernel)
set_option maxRecDepth 20000 in
theorem gX3_passMinutes_X3_passOneMinute : GoodIn wsX3_passMinutes (wsV RX3 107 RX3 yX3_passOneMinute wsX3_passOneMinute) := goodIn_app (goodIn_of _ (by decide +kernel)) ggX3_passMinutes_X3_passOneMinute
theorem dX3_passMinutes_0 : decode cX3_passMinutes 0 = .ok (.iload_n 1, 1) := by decide +kernel
theorem dX3_passMinutes_1 : decode cX3_passMinutes 1 = .ok (.iconst 1, 1) := by decide +kernel
theorem dX3_passMinutes_2 : decode cX3_passMinutes 2 = .ok (.if_icmp .lt 10, 3) := by decide +kernel
theorem dX3_passMinutes_5 : decode cX3_passMinutes 5 = .ok (.iload_n 1, 1) := by decide +kernel
theorem dX3_passMinutes_6 : decode cX3_passMinutes 6 = .ok (.sipush 999, 3) := by decide +kernel
theorem dX3_passMinutes_9 : decode cX3_passMinutes 9 = .ok (.if_icmp .le 6, 3) := by decide +kernel
theorem dX3_passMinutes_12 : decode cX3_passMinutes 12 = .ok (.bipush (-2), 2) := by decide +kernel
theorem dX3_passMinutes_14 : decode cX3_passMinutes 14 = .ok (.ireturn, 1) := by decide +kernel
theorem dX3_passMinutes_15 : decode cX3_passMinutes 15 = .ok (.aload_n 0, 1) := by decide +kernel
theorem dX3_passMinutes_16 : decode cX3_passMinutes 16 = .ok (.getfield 33, 3) := by decide +kernel
theorem dX3_passMinutes_19 : decode cX3_passMinutes 19 = .ok (.iload_n 1, 1) := by decide +kernel
theorem dX3_passMinutes_20 : decode cX3_passMinutes 20 = .ok (.iadd, 1) := by decide +kernel
theorem dX3_passMinutes_21 : decode cX3_passMinutes 21 = .ok (.ldc 106, 2) := by decide +kernel
theorem dX3_passMinutes_23 : decode cX3_passMinutes 23 = .ok (.if_icmp .le 6, 3) := by decide +kernel
theorem dX3_passMinutes_26 : decode cX3_passMinutes 26 = .ok (.bipush (-5), 2) := by decide +kernel
theorem dX3_passMinutes_28 : decode cX3_passMinutes 28 = .ok (.ireturn, 1) := by decide +kernel
theorem dX3_passMinutes_29 : decode cX3_passMinutes 29 = .ok (.iconst 0, 1) := by decide +kernel
theorem dX3_passMinutes_30 : decode cX3_passMinutes 30 = .ok (.istore_n 2, 1) := by decide +kernel
theorem dX3_passMinutes_31 : decode cX3_passMinutes 31 = .ok (.iconst 0, 1) := by decide +kernel
theorem dX3_passMinutes_32 : decode cX3_passMinutes 32 = .ok (.istore_n 3, 1) := by decide +kernel
theorem dX3_passMinutes_33 : decode cX3_passMinutes 33 = .ok (.iload_n 3, 1) := by decide +kernel
theorem dX3_passMinutes_34 : decode cX3_passMinutes 34 = .ok (.iload_n 1, 1) := by decide +kernel
theorem dX3_passMinutes_35 : decode cX3_passMinutes 35 = .ok (.if_icmp .ge 16, 3) := by decide +kernel
theorem dX3_passMinutes_38 : decode cX3_passMinutes 38 = .ok (.iload_n 2, 1) := by decide +kernel
theorem dX3_passMinutes_39 : decode cX3_passMinutes 39 = .ok (.aload_n 0, 1) := by decide +kernel
theorem dX3_passMinutes_40 : decode cX3_passMinutes 40 = .ok (.invokevirtual 107, 3) := by decide +kernel
theorem dX3_passMinutes_43 : decode cX3_passMinutes 43 = .ok (.iadd, 1) := by decide +kernel
theorem dX3_passMinutes_44 : decode cX3_passMinutes 44 = .ok (.istore_n 2, 1) := by decide +kernel
theorem dX3_passMinutes_45 : decode cX3_passMinutes 45 = .ok (.iinc 3 1, 3) := by decide +kernel
theorem dX3_passMinutes_48 : decode cX3_passMinutes 48 = .ok (.goto (-15), 3) := by decide +kernel
theorem dX3_passMinutes_51 : decode cX3_passMinutes 51 = .ok (.iload_n 2, 1) := by decide +kernel
theorem dX3_passMinutes_52 : decode cX3_passMinutes 52 = .ok (.ireturn, 1) := by decide +kernel
set_option maxRecDepth 20000 in
theorem ggX3_passOneMinute_X3_passMinuteOf : GoodIn wsX3_passOneMinute wsX3_passMinuteOf := goodIn_r _ [9, 10, 11, 12, 13, 14, 15, 16, 17, 18, 19, 20, 21, 22, 23, 47, 48, 49, 50, 51, 52, 53, 54, 55, 56, 57, 58, 59, 60, 61] (by decide +kernel) (by decide +kernel)
set_option maxRecDepth 20000 in
theorem gX3_passOneMinute_X3_passMinuteOf : GoodIn wsX3_passOneMinute (wsV RX3 111 RX3 yX3_passMinuteOf wsX3_passMinuteOf) := goodIn_app (goodIn_of _ (by decide +kernel)) ggX3_passOneMinute_X3_passMinuteOf
set_option maxRecDepth 20000 in
theorem ggX3_passOneMinute_X0_add : GoodIn wsX3_passOneMinute wsX0_add := goodIn_r _ [28, 29, 30, 31, 32, 33, 34, 21, 22, 23, 62, 63, 64, 65, 66] (by decide +kernel) (by decide +kernel)
set_option maxRecDepth 20000 in
theorem gX3_passOneMinute_X0_add : GoodIn wsX3_passOneMinute (wsV RX3 91 RX0 yX0_add wsX0_add) := goodIn_app (goodIn_of _ (by decide +kernel)) ggX3_passOneMinute_X0_add
set_option maxRecDepth 20000 in
theorem ggX3_passOneMinute_X3_followTaken : GoodIn wsX3_passOneMinute wsX3_followTaken := goodIn_r _ [38, 2, 3, 39, 40, 41, 42, 43, 44, 14, 45, 46, 18, 47, 48, 49, 50, 51, 52, 53, 54, 55, 56, 57, 58, 59, 60, 61] (by decide +kernel) (by decide +kernel)
set_option maxRecDepth 20000 in
theorem gX3_passOneMinute_X3_followTaken : GoodIn wsX3_passOneMinute (wsV RX3 73 RX3 yX3_followTaken wsX3_followTaken) := goodIn_app (goodIn_of _ (by decide +kernel)) ggX3_passOneMinute_X3_followTaken
theorem dX3_passOneMinute_0 : decode cX3_passOneMinute 0 = .ok (.aload_n 0, 1) := by decide +kernel
theorem dX3_passOneMinute_1 : decode cX3_passOneMinute 1 = .ok (.dup, 1) := by decide +kernel
theorem dX3_passOneMinute_2 : decode cX3_passOneMinute 2 = .ok (.getfield 33, 3) := by decide +kernel
theorem dX3_passOneMinute_5 : decode cX3_passOneMinute 5 = .ok (.iconst 1, 1) := by decide +kernel
theorem dX3_passOneMinute_6 : decode cX3_passOneMinute 6 = .ok (.iadd, 1) := by decide +kernel
theorem dX3_passOneMinute_7 : decode cX3_passOneMinute 7 = .ok (.putfield 33, 3) := by decide +kernel
theorem dX3_passOneMinute_10 : decode cX3_passOneMinute 10 = .ok (.iconst 0, 1) := by decide +kernel
theorem dX3_passOneMinute_11 : decode cX3_passOneMinute 11 = .ok (.istore_n 1, 1) := by decide +kernel
theorem dX3_passOneMinute_12 : decode cX3_passOneMinute 12 = .ok (.iconst 0, 1) := by decide +kernel
theorem dX3_passOneMinute_13 : decode cX3_passOneMinute 13 = .ok (.istore_n 2, 1) := by decide +kernel
theorem dX3_passOneMinute_14 : decode cX3_passOneMinute 14 = .ok (.iload_n 2, 1) := by decide +kernel
theorem dX3_passOneMinute_15 : decode cX3_passOneMinute 15 = .ok (.aload_n 0, 1) := by decide +kernel
theorem dX3_passOneMinute_16 : decode cX3_passOneMinute 16 = .ok (.getfield 29, 3) := by decide +kernel
theorem dX3_passOneMinute_19 : decode cX3_passOneMinute 19 = .ok (.if_icmp .ge 38, 3) := by decide +kernel
theorem dX3_passOneMinute_22 : decode cX3_passOneMinute 22 = .ok (.aload_n 0, 1) := by decide +kernel
theorem dX3_passOneMinute_23 : decode cX3_passOneMinute 23 = .ok (.aload_n 0, 1) := by decide +kernel
theorem dX3_passOneMinute_24 : decode cX3_passOneMinute 24 = .ok (.getfield 25, 3) := by decide +kernel
theorem dX3_passOneMinute_27 : decode cX3_passOneMinute 27 = .ok (.iload_n 2, 1) := by decide +kernel
theorem dX3_passOneMinute_28 : decode cX3_passOneMinute 28 = .ok (.aaload, 1) := by decide +kernel
theorem dX3_passOneMinute_29 : decode cX3_passOneMinute 29 = .ok (.invokevirtual 111, 3) := by decide +kernel
theorem dX3_passOneMinute_32 : decode cX3_passOneMinute 32 = .ok (.ifCond .eq 19, 3) := by decide +kernel
theorem dX3_passOneMinute_35 : decode cX3_passOneMinute 35 = .ok (.aload_n 0, 1) := by decide +kernel
theorem dX3_passOneMinute_36 : decode cX3_passOneMinute 36 = .ok (.getfield 45, 3) := by decide +kernel
theorem dX3_passOneMinute_39 : decode cX3_passOneMinute 39 = .ok (.iconst 4, 1) := by decide +kernel
theorem dX3_passOneMinute_40 : decode cX3_passOneMinute 40 = .ok (.iload_n 2, 1) := by decide +kernel
theorem dX3_passOneMinute_41 : decode cX3_passOneMinute 41 = .ok (.aload_n 0, 1) := by decide +kernel
theorem dX3_passOneMinute_42 : decode cX3_passOneMinute 42 = .ok (.getfield 33, 3) := by decide +kernel
theorem dX3_passOneMinute_45 : decode cX3_passOneMinute 45 = .ok (.invokevirtual 91, 3) := by decide +kernel
theorem dX3_passOneMinute_48 : decode cX3_passOneMinute 48 = .ok (.iinc 1 1, 3) := by decide +kernel
theorem dX3_passOneMinute_51 : decode cX3_passOneMinute 51 = .ok (.iinc 2 1, 3) := by decide +kernel
theorem dX3_passOneMinute_54 : decode cX3_passOneMinute 54 = .ok (.goto (-40), 3) := by decide +kernel
theorem dX3_passOneMinute_57 : decode cX3_passOneMinute 57 = .ok (.iload_n 1, 1) := by decide +kernel
theorem dX3_passOneMinute_58 : decode cX3_passOneMinute 58 = .ok (.ifCond .le 7, 3) := by decide +kernel
theorem dX3_passOneMinute_61 : decode cX3_passOneMinute 61 = .ok (.aload_n 0, 1) := by decide +kernel
theorem dX3_passOneMinute_62 : decode cX3_passOneMinute 62 = .ok (.invokevirtual 73, 3) := by decide +kernel
theorem dX3_passOneMinute_65 : decode cX3_passOneMinute 65 = .ok (.iload_n 1, 1) := by decide +kernel
theorem dX3_passOneMinute_66 : decode cX3_passOneMinute 66 = .ok (.ireturn, 1) := by decide +kernel
set_option maxRecDepth 20000 in
theorem ggX3_passMinuteOf_X1_passMinute : GoodIn wsX3_passMinuteOf wsX1_passMinute := goodIn_r _ [6, 7, 8, 9, 10, 11, 12, 13, 14, 22, 23, 24, 25, 26, 27, 28, 29] (by decide +kernel) (by decide +kernel)
set_option maxRecDepth 20000 in
theorem gX3_passMinuteOf_X1_passMinute : GoodIn wsX3_passMinuteOf (wsV RX3 115 RX1 yX1_passMinute wsX1_passMinute) := goodIn_app (goodIn_of _ (by decide +kernel)) ggX3_passMinuteOf_X1_passMinute
theorem dX3_passMinuteOf_0 : decode cX3_passMinuteOf 0 = .ok (.aload_n 1, 1) := by decide +kernel
theorem dX3_passMinuteOf_1 : decode cX3_passMinuteOf 1 = .ok (.aload_n 0, 1) := by decide +kernel
theorem dX3_passMinuteOf_2 : decode cX3_passMinuteOf 2 = .ok (.getfield 18, 3) := by decide +kernel
theorem dX3_passMinuteOf_5 : decode cX3_passMinuteOf 5 = .ok (.iconst 3, 1) := by decide +kernel
theorem dX3_passMinuteOf_6 : decode cX3_passMinuteOf 6 = .ok (.iaload, 1) := by decide +kernel
theorem dX3_passMinuteOf_7 : decode cX3_passMinuteOf 7 = .ok (.aload_n 0, 1) := by decide +kernel
theorem dX3_passMinuteOf_8 : decode cX3_passMinuteOf 8 = .ok (.getfield 18, 3) := by decide +kernel
theorem dX3_passMinuteOf_11 : decode cX3_passMinuteOf 11 = .ok (.iconst 5, 1) := by decide +kernel
theorem dX3_passMinuteOf_12 : decode cX3_passMinuteOf 12 = .ok (.iaload, 1) := by decide +kernel
theorem dX3_passMinuteOf_13 : decode cX3_passMinuteOf 13 = .ok (.aload_n 0, 1) := by decide +kernel
theorem dX3_passMinuteOf_14 : decode cX3_passMinuteOf 14 = .ok (.getfield 18, 3) := by decide +kernel
theorem dX3_passMinuteOf_17 : decode cX3_passMinuteOf 17 = .ok (.bipush 6, 2) := by decide +kernel
theorem dX3_passMinuteOf_19 : decode cX3_passMinuteOf 19 = .ok (.iaload, 1) := by decide +kernel
theorem dX3_passMinuteOf_20 : decode cX3_passMinuteOf 20 = .ok (.invokevirtual 115, 3) := by decide +kernel
theorem dX3_passMinuteOf_23 : decode cX3_passMinuteOf 23 = .ok (.ireturn, 1) := by decide +kernel
set_option maxRecDepth 20000 in
theorem ggX3_followTaken_X1_canBeTaken : GoodIn wsX3_followTaken wsX1_canBeTaken := goodIn_r _ [10, 11, 12, 20, 21, 22, 23, 24, 25, 26, 27] (by decide +kernel) (by decide +kernel)
set_option maxRecDepth 20000 in
theorem gX3_followTaken_X1_canBeTaken : GoodIn wsX3_followTaken (wsV RX3 131 RX1 yX1_canBeTaken wsX1_canBeTaken) := goodIn_app (goodIn_of _ (by decide +kernel)) ggX3_followTaken_X1_canBeTaken
theorem dX3_followTaken_0 : decode cX3_followTaken 0 = .ok (.bipush (-6), 2) := by decide +kernel
theorem dX3_followTaken_2 : decode cX3_followTaken 2 = .ok (.istore_n 1, 1) := by decide +kernel
theorem dX3_followTaken_3 : decode cX3_followTaken 3 = .ok (.iconst 0, 1) := by decide +kernel
theorem dX3_followTaken_4 : decode cX3_followTaken 4 = .ok (.istore_n 2, 1) := by decide +kernel
theorem dX3_followTaken_5 : decode cX3_followTaken 5 = .ok (.iload_n 2, 1) := by decide +kernel
theorem dX3_followTaken_6 : decode cX3_followTaken 6 = .ok (.aload_n 0, 1) := by decide +kernel
theorem dX3_followTaken_7 : decode cX3_followTaken 7 = .ok (.getfield 29, 3) := by decide +kernel
theorem dX3_followTaken_10 : decode cX3_followTaken 10 = .ok (.if_icmp .ge 48, 3) := by decide +kernel
theorem dX3_followTaken_13 : decode cX3_followTaken 13 = .ok (.aload_n 0, 1) := by decide +kernel
theorem dX3_followTaken_14 : decode cX3_followTaken 14 = .ok (.getfield 25, 3) := by decide +kernel
theorem dX3_followTaken_17 : decode cX3_followTaken 17 = .ok (.iload_n 2, 1) := by decide +kernel
theorem dX3_followTaken_18 : decode cX3_followTaken 18 = .ok (.aaload, 1) := by decide +kernel
theorem dX3_followTaken_19 : decode cX3_followTaken 19 = .ok (.invokevirtual 131, 3) := by decide +kernel
theorem dX3_followTaken_22 : decode cX3_followTaken 22 = .ok (.ifCond .eq 30, 3) := by decide +kernel
theorem dX3_followTaken_25 : decode cX3_followTaken 25 = .ok (.iload_n 1, 1) := by decide +kernel
theorem dX3_followTaken_26 : decode cX3_followTaken 26 = .ok (.ifCond .lt 24, 3) := by decide +kernel
theorem dX3_followTaken_29 : decode cX3_followTaken 29 = .ok (.aload_n 0, 1) := by decide +kernel
theorem dX3_followTaken_30 : decode cX3_followTaken 30 = .ok (.getfield 25, 3) := by decide +kernel
theorem dX3_followTaken_33 : decode cX3_followTaken 33 = .ok (.iload_n 2, 1) := by decide +kernel
theorem dX3_followTaken_34 : decode cX3_followTaken 34 = .ok (.aaload, 1) := by decide +kernel
theorem dX3_followTaken_35 : decode cX3_followTaken 35 = .ok (.getfield 88, 3) := by decide +kernel
theorem dX3_followTaken_38 : decode cX3_followTaken 38 = .ok (.aload_n 0, 1) := by decide +kernel
theorem dX3_followTaken_39 : decode cX3_followTaken 39 = .ok (.getfield 25, 3) := by decide +kernel
theorem dX3_followTaken_42 : decode cX3_followTaken 42 = .ok (.iload_n 1, 1) := by decide +kernel
theorem dX3_followTaken_43 : decode cX3_followTaken 43 = .ok (.aaload, 1) := by decide +kernel
theorem dX3_followTaken_44 : decode cX3_followTaken 44 = .ok (.getfield 88, 3) := by decide +kernel
theorem dX3_followTaken_47 : decode cX3_followTaken 47 = .ok (.if_icmp .ge 5, 3) := by decide +kernel
theorem dX3_followTaken_50 : decode cX3_followTaken 50 = .ok (.iload_n 2, 1) := by decide +kernel
theorem dX3_followTaken_51 : decode cX3_followTaken 51 = .ok (.istore_n 1, 1) := by decide +kernel
theorem dX3_followTaken_52 : decode cX3_followTaken 52 = .ok (.iinc 2 1, 3) := by decide +kernel
theorem dX3_followTaken_55 : decode cX3_followTaken 55 = .ok (.goto (-50), 3) := by decide +kernel
theorem dX3_followTaken_58 : decode cX3_followTaken 58 = .ok (.iload_n 1, 1) := by decide +kernel
theorem dX3_followTaken_59 : decode cX3_followTaken 59 = .ok (.aload_n 0, 1) := by decide +kernel
theorem dX3_followTaken_60 : decode cX3_followTaken 60 = .ok (.getfield 36, 3) := by decide +kernel
theorem dX3_followTaken_63 : decode cX3_followTaken 63 = .ok (.if_icmp .eq 18, 3) := by decide +kernel
theorem dX3_followTaken_66 : decode cX3_followTaken 66 = .ok (.aload_n 0, 1) := by decide +kernel
theorem dX3_followTaken_67 : decode cX3_followTaken 67 = .ok (.iload_n 1, 1) := by decide +kernel
theorem dX3_followTaken_68 : decode cX3_followTaken 68 = .ok (.putfield 36, 3) := by decide +kernel
theorem dX3_followTaken_71 : decode cX3_followTaken 71 = .ok (.aload_n 0, 1) := by decide +kernel
theorem dX3_followTaken_72 : decode cX3_followTaken 72 = .ok (.dup, 1) := by decide +kernel
theorem dX3_followTaken_73 : decode cX3_followTaken 73 = .ok (.getfield 39, 3) := by decide +kernel
theorem dX3_followTaken_76 : decode cX3_followTaken 76 = .ok (.iconst 1, 1) := by decide +kernel
theorem dX3_followTaken_77 : decode cX3_followTaken 77 = .ok (.iadd, 1) := by decide +kernel
theorem dX3_followTaken_78 : decode cX3_followTaken 78 = .ok (.putfield 39, 3) := by decide +kernel
theorem dX3_followTaken_81 : decode cX3_followTaken 81 = .ok (.return_, 1) := by decide +kernel
set_option maxRecDepth 20000 in
theorem ggX3_chosen_X1_canBeTaken : GoodIn wsX3_chosen wsX1_canBeTaken := goodIn_r _ [7, 8, 9, 23, 24, 25, 26, 27, 28, 29, 30] (by decide +kernel) (by decide +kernel)
set_option maxRecDepth 20000 in
theorem gX3_chosen_X1_canBeTaken : GoodIn wsX3_chosen (wsV RX3 131 RX1 yX1_canBeTaken wsX1_canBeTaken) := goodIn_app (goodIn_of _ (by decide +kernel)) ggX3_chosen_X1_canBeTaken
set_option maxRecDepth 20000 in
theorem ggX3_chosen_X3_rankOf : GoodIn wsX3_chosen wsX3_rankOf := goodIn_r _ [14, 2, 15, 1, 3, 4, 5, 6, 7, 8, 9, 16, 17, 18, 19, 20, 21, 22, 23, 24, 25, 26, 27, 28, 29, 30] (by decide +kernel) (by decide +kernel)
set_option maxRecDepth 20000 in
theorem gX3_chosen_X3_rankOf : GoodIn wsX3_chosen (wsV RX3 135 RX3 yX3_rankOf wsX3_rankOf) := goodIn_app (goodIn_of _ (by decide +kernel)) ggX3_chosen_X3_rankOf
theorem dX3_chosen_0 : decode cX3_chosen 0 = .ok (.iconst 0, 1) := by decide +kernel
theorem dX3_chosen_1 : decode cX3_chosen 1 = .ok (.istore_n 2, 1) := by decide +kernel
theorem dX3_chosen_2 : decode cX3_chosen 2 = .ok (.iload_n 2, 1) := by decide +kernel
theorem dX3_chosen_3 : decode cX3_chosen 3 = .ok (.aload_n 0, 1) := by decide +kernel
theorem dX3_chosen_4 : decode cX3_chosen 4 = .ok (.getfield 29, 3) := by decide +kernel
theorem dX3_chosen_7 : decode cX3_chosen 7 = .ok (.if_icmp .ge 32, 3) := by decide +kernel
theorem dX3_chosen_10 : decode cX3_chosen 10 = .ok (.aload_n 0, 1) := by decide +kernel
theorem dX3_chosen_11 : decode cX3_chosen 11 = .ok (.getfield 25, 3) := by decide +kernel
theorem dX3_chosen_14 : decode cX3_chosen 14 = .ok (.iload_n 2, 1) := by decide +kernel
theorem dX3_chosen_15 : decode cX3_chosen 15 = .ok (.aaload, 1) := by decide +kernel
theorem dX3_chosen_16 : decode cX3_chosen 16 = .ok (.invokevirtual 131, 3) := by decide +kernel
theorem dX3_chosen_19 : decode cX3_chosen 19 = .ok (.ifCond .eq 14, 3) := by decide +kernel
theorem dX3_chosen_22 : decode cX3_chosen 22 = .ok (.aload_n 0, 1) := by decide +kernel
theorem dX3_chosen_23 : decode cX3_chosen 23 = .ok (.iload_n 2, 1) := by decide +kernel
theorem dX3_chosen_24 : decode cX3_chosen 24 = .ok (.invokevirtual 135, 3) := by decide +kernel
theorem dX3_chosen_27 : decode cX3_chosen 27 = .ok (.iload_n 1, 1) := by decide +kernel
theorem dX3_chosen_28 : decode cX3_chosen 28 = .ok (.if_icmp .ne 5, 3) := by decide +kernel
theorem dX3_chosen_31 : decode cX3_chosen 31 = .ok (.iload_n 2, 1) := by decide +kernel
theorem dX3_chosen_32 : decode cX3_chosen 32 = .ok (.ireturn, 1) := by decide +kernel
theorem dX3_chosen_33 : decode cX3_chosen 33 = .ok (.iinc 2 1, 3) := by decide +kernel
theorem dX3_chosen_36 : decode cX3_chosen 36 = .ok (.goto (-34), 3) := by decide +kernel
theorem dX3_chosen_39 : decode cX3_chosen 39 = .ok (.iconst (-1), 1) := by decide +kernel
theorem dX3_chosen_40 : decode cX3_chosen 40 = .ok (.ireturn, 1) := by decide +kernel
set_option maxRecDepth 20000 in
theorem ggX3_rankOf_X1_canBeTaken : GoodIn wsX3_rankOf wsX1_canBeTaken := goodIn_r _ [8, 9, 10, 18, 19, 20, 21, 22, 23, 24, 25] (by decide +kernel) (by decide +kernel)
set_option maxRecDepth 20000 in
theorem gX3_rankOf_X1_canBeTaken : GoodIn wsX3_rankOf (wsV RX3 131 RX1 yX1_canBeTaken wsX1_canBeTaken) := goodIn_app (goodIn_of _ (by decide +kernel)) ggX3_rankOf_X1_canBeTaken
theorem dX3_rankOf_0 : decode cX3_rankOf 0 = .ok (.iconst 0, 1) := by decide +kernel
theorem dX3_rankOf_1 : decode cX3_rankOf 1 = .ok (.istore_n 2, 1) := by decide +kernel
theorem dX3_rankOf_2 : decode cX3_rankOf 2 = .ok (.aload_n 0, 1) := by decide +kernel
theorem dX3_rankOf_3 : decode cX3_rankOf 3 = .ok (.getfield 25, 3) := by decide +kernel
theorem dX3_rankOf_6 : decode cX3_rankOf 6 = .ok (.iload_n 1, 1) := by decide +kernel
theorem dX3_rankOf_7 : decode cX3_rankOf 7 = .ok (.aaload, 1) := by decide +kernel
theorem dX3_rankOf_8 : decode cX3_rankOf 8 = .ok (.getfield 88, 3) := by decide +kernel
theorem dX3_rankOf_11 : decode cX3_rankOf 11 = .ok (.istore_n 3, 1) := by decide +kernel
theorem dX3_rankOf_12 : decode cX3_rankOf 12 = .ok (.iconst 0, 1) := by decide +kernel
theorem dX3_rankOf_13 : decode cX3_rankOf 13 = .ok (.istore 4, 2) := by decide +kernel
theorem dX3_rankOf_15 : decode cX3_rankOf 15 = .ok (.iload 4, 2) := by decide +kernel
theorem dX3_rankOf_17 : decode cX3_rankOf 17 = .ok (.aload_n 0, 1) := by decide +kernel
theorem dX3_rankOf_18 : decode cX3_rankOf 18 = .ok (.getfield 29, 3) := by decide +kernel
theorem dX3_rankOf_21 : decode cX3_rankOf 21 = .ok (.if_icmp .ge 53, 3) := by decide +kernel
theorem dX3_rankOf_24 : decode cX3_rankOf 24 = .ok (.aload_n 0, 1) := by decide +kernel
theorem dX3_rankOf_25 : decode cX3_rankOf 25 = .ok (.getfield 25, 3) := by decide +kernel
theorem dX3_rankOf_28 : decode cX3_rankOf 28 = .ok (.iload 4, 2) := by decide +kernel
theorem dX3_rankOf_30 : decode cX3_rankOf 30 = .ok (.aaload, 1) := by decide +kernel
theorem dX3_rankOf_31 : decode cX3_rankOf 31 = .ok (.astore 5, 2) := by decide +kernel
theorem dX3_rankOf_33 : decode cX3_rankOf 33 = .ok (.aload 5, 2) := by decide +kernel
theorem dX3_rankOf_35 : decode cX3_rankOf 35 = .ok (.invokevirtual 131, 3) := by decide +kernel
theorem dX3_rankOf_38 : decode cX3_rankOf 38 = .ok (.ifCond .eq 30, 3) := by decide +kernel
theorem dX3_rankOf_41 : decode cX3_rankOf 41 = .ok (.aload 5, 2) := by decide +kernel
theorem dX3_rankOf_43 : decode cX3_rankOf 43 = .ok (.getfield 88, 3) := by decide +kernel
theorem dX3_rankOf_46 : decode cX3_rankOf 46 = .ok (.iload_n 3, 1) := by decide +kernel
theorem dX3_rankOf_47 : decode cX3_rankOf 47 = .ok (.if_icmp .lt 18, 3) := by decide +kernel
theorem dX3_rankOf_50 : decode cX3_rankOf 50 = .ok (.aload 5, 2) := by decide +kernel
theorem dX3_rankOf_52 : decode cX3_rankOf 52 = .ok (.getfield 88, 3) := by decide +kernel
theorem dX3_rankOf_55 : decode cX3_rankOf 55 = .ok (.iload_n 3, 1) := by decide +kernel
theorem dX3_rankOf_56 : decode cX3_rankOf 56 = .ok (.if_icmp .ne 12, 3) := by decide +kernel
theorem dX3_rankOf_59 : decode cX3_rankOf 59 = .ok (.iload 4, 2) := by decide +kernel
theorem dX3_rankOf_61 : decode cX3_rankOf 61 = .ok (.iload_n 1, 1) := by decide +kernel
theorem dX3_rankOf_62 : decode cX3_rankOf 62 = .ok (.if_icmp .ge 6, 3) := by decide +kernel
theorem dX3_rankOf_65 : decode cX3_rankOf 65 = .ok (.iinc 2 1, 3) := by decide +kernel
theorem dX3_rankOf_68 : decode cX3_rankOf 68 = .ok (.iinc 4 1, 3) := by decide +kernel
theorem dX3_rankOf_71 : decode cX3_rankOf 71 = .ok (.goto (-56), 3) := by decide +kernel
theorem dX3_rankOf_74 : decode cX3_rankOf 74 = .ok (.iload_n 2, 1) := by decide +kernel
theorem dX3_rankOf_75 : decode cX3_rankOf 75 = .ok (.ireturn, 1) := by decide +kernel
set_option maxRecDepth 20000 in
theorem ggX3_tell_X3_openOnes : GoodIn wsX3_tell wsX3_openOnes := goodIn_r _ [12, 2, 13, 14, 20, 21, 22, 23, 24, 25, 26, 32, 33, 34, 35, 36, 37, 38, 39] (by decide +kernel) (by decide +kernel)
set_option maxRecDepth 20000 in
theorem gX3_tell_X3_openOnes : GoodIn wsX3_tell (wsV RX3 139 RX3 yX3_openOnes wsX3_openOnes) := goodIn_app (goodIn_of _ (by decide +kernel)) ggX3_tell_X3_openOnes
set_option maxRecDepth 20000 in
theorem ggX3_tell_X3_shunnedOnes : GoodIn wsX3_tell wsX3_shunnedOnes := goodIn_r _ [18, 2, 13, 19, 20, 21, 22, 23, 24, 25, 26, 32, 33, 34, 35, 36, 37, 38, 39] (by decide +kernel) (by decide +kernel)
set_option maxRecDepth 20000 in
theorem gX3_tell_X3_shunnedOnes : GoodIn wsX3_tell (wsV RX3 142 RX3 yX3_shunnedOnes wsX3_shunnedOnes) := goodIn_app (goodIn_of _ (by decide +kernel)) ggX3_tell_X3_shunnedOnes
theorem dX3_tell_0 : decode cX3_tell 0 = .ok (.iload_n 1, 1) := by decide +kernel
theorem dX3_tell_1 : decode cX3_tell 1 = .ok (.tableswitch 81 0 6 #[43, 48, 53, 58, 63, 68, 73], 43) := by decide +kernel
theorem dX3_tell_44 : decode cX3_tell 44 = .ok (.aload_n 0, 1) := by decide +kernel
theorem dX3_tell_45 : decode cX3_tell 45 = .ok (.getfield 33, 3) := by decide +kernel
theorem dX3_tell_48 : decode cX3_tell 48 = .ok (.ireturn, 1) := by decide +kernel
theorem dX3_tell_49 : decode cX3_tell 49 = .ok (.aload_n 0, 1) := by decide +kernel
theorem dX3_tell_50 : decode cX3_tell 50 = .ok (.getfield 29, 3) := by decide +kernel
theorem dX3_tell_53 : decode cX3_tell 53 = .ok (.ireturn, 1) := by decide +kernel
theorem dX3_tell_54 : decode cX3_tell 54 = .ok (.aload_n 0, 1) := by decide +kernel
theorem dX3_tell_55 : decode cX3_tell 55 = .ok (.invokevirtual 139, 3) := by decide +kernel
theorem dX3_tell_58 : decode cX3_tell 58 = .ok (.ireturn, 1) := by decide +kernel
theorem dX3_tell_59 : decode cX3_tell 59 = .ok (.aload_n 0, 1) := by decide +kernel
theorem dX3_tell_60 : decode cX3_tell 60 = .ok (.invokevirtual 142, 3) := by decide +kernel
theorem dX3_tell_63 : decode cX3_tell 63 = .ok (.ireturn, 1) := by decide +kernel
theorem dX3_tell_64 : decode cX3_tell 64 = .ok (.aload_n 0, 1) := by decide +kernel
theorem dX3_tell_65 : decode cX3_tell 65 = .ok (.getfield 36, 3) := by decide +kernel
theorem dX3_tell_68 : decode cX3_tell 68 = .ok (.ireturn, 1) := by decide +kernel
theorem dX3_tell_69 : decode cX3_tell 69 = .ok (.aload_n 0, 1) := by decide +kernel
theorem dX3_tell_70 : decode cX3_tell 70 = .ok (.getfield 39, 3) := by decide +kernel
theorem dX3_tell_73 : decode cX3_tell 73 = .ok (.ireturn, 1) := by decide +kernel
theorem dX3_tell_74 : decode cX3_tell 74 = .ok (.aload_n 0, 1) := by decide +kernel
theorem dX3_tell_75 : decode cX3_tell 75 = .ok (.getfield 45, 3) := by decide +kernel
theorem dX3_tell_78 : decode cX3_tell 78 = .ok (.getfield 145, 3) := by decide +kernel
theorem dX3_tell_81 : decode cX3_tell 81 = .ok (.ireturn, 1) := by decide +kernel
theorem dX3_tell_82 : decode cX3_tell 82 = .ok (.iload_n 1, 1) := by decide +kernel
theorem dX3_tell_83 : decode cX3_tell 83 = .ok (.bipush 7, 2) := by decide +kernel
theorem dX3_tell_85 : decode cX3_tell 85 = .ok (.if_icmp .lt 27, 3) := by decide +kernel
theorem dX3_tell_88 : decode cX3_tell 88 = .ok (.iload_n 1, 1) := by decide +kernel
theorem dX3_tell_89 : decode cX3_tell 89 = .ok (.bipush 7, 2) := by decide +kernel
theorem dX3_tell_91 : decode cX3_tell 91 = .ok (.isub, 1) := by decide +kernel
theorem dX3_tell_92 : decode cX3_tell 92 = .ok (.aload_n 0, 1) := by decide +kernel
theorem dX3_tell_93 : decode cX3_tell 93 = .ok (.getfield 18, 3) := by decide +kernel
theorem dX3_tell_96 : decode cX3_tell 96 = .ok (.arraylength, 1) := by decide +kernel
theorem dX3_tell_97 : decode cX3_tell 97 = .ok (.if_icmp .ge 15, 3) := by decide +kernel
theorem dX3_tell_100 : decode cX3_tell 100 = .ok (.aload_n 0, 1) := by decide +kernel
theorem dX3_tell_101 : decode cX3_tell 101 = .ok (.getfield 18, 3) := by decide +kernel
theorem dX3_tell_104 : decode cX3_tell 104 = .ok (.iload_n 1, 1) := by decide +kernel
theorem dX3_tell_105 : decode cX3_tell 105 = .ok (.bipush 7, 2) := by decide +kernel
theorem dX3_tell_107 : decode cX3_tell 107 = .ok (.isub, 1) := by decide +kernel
theorem dX3_tell_108 : decode cX3_tell 108 = .ok (.iaload, 1) := by decide +kernel
theorem dX3_tell_109 : decode cX3_tell 109 = .ok (.goto 5, 3) := by decide +kernel
theorem dX3_tell_112 : decode cX3_tell 112 = .ok (.bipush (-2), 2) := by decide +kernel
theorem dX3_tell_114 : decode cX3_tell 114 = .ok (.ireturn, 1) := by decide +kernel
theorem dX3_openOnes_0 : decode cX3_openOnes 0 = .ok (.iconst 0, 1) := by decide +kernel
theorem dX3_openOnes_1 : decode cX3_openOnes 1 = .ok (.istore_n 1, 1) := by decide +kernel
theorem dX3_openOnes_2 : decode cX3_openOnes 2 = .ok (.iconst 0, 1) := by decide +kernel
theorem dX3_openOnes_3 : decode cX3_openOnes 3 = .ok (.istore_n 2, 1) := by decide +kernel
theorem dX3_openOnes_4 : decode cX3_openOnes 4 = .ok (.iload_n 2, 1) := by decide +kernel
theorem dX3_openOnes_5 : decode cX3_openOnes 5 = .ok (.aload_n 0, 1) := by decide +kernel
theorem dX3_openOnes_6 : decode cX3_openOnes 6 = .ok (.getfield 29, 3) := by decide +kernel
theorem dX3_openOnes_9 : decode cX3_openOnes 9 = .ok (.if_icmp .ge 27, 3) := by decide +kernel
theorem dX3_openOnes_12 : decode cX3_openOnes 12 = .ok (.aload_n 0, 1) := by decide +kernel
theorem dX3_openOnes_13 : decode cX3_openOnes 13 = .ok (.getfield 25, 3) := by decide +kernel
theorem dX3_openOnes_16 : decode cX3_openOnes 16 = .ok (.iload_n 2, 1) := by decide +kernel
theorem dX3_openOnes_17 : decode cX3_openOnes 17 = .ok (.aaload, 1) := by decide +kernel
theorem dX3_openOnes_18 : decode cX3_openOnes 18 = .ok (.getfield 80, 3) := by decide +kernel
theorem dX3_openOnes_21 : decode cX3_openOnes 21 = .ok (.ifCond .eq 9, 3) := by decide +kernel
theorem dX3_openOnes_24 : decode cX3_openOnes 24 = .ok (.iload_n 1, 1) := by decide +kernel
theorem dX3_openOnes_25 : decode cX3_openOnes 25 = .ok (.iconst 1, 1) := by decide +kernel
theorem dX3_openOnes_26 : decode cX3_openOnes 26 = .ok (.iload_n 2, 1) := by decide +kernel
theorem dX3_openOnes_27 : decode cX3_openOnes 27 = .ok (.ishl, 1) := by decide +kernel
theorem dX3_openOnes_28 : decode cX3_openOnes 28 = .ok (.ior, 1) := by decide +kernel
theorem dX3_openOnes_29 : decode cX3_openOnes 29 = .ok (.istore_n 1, 1) := by decide +kernel
theorem dX3_openOnes_30 : decode cX3_openOnes 30 = .ok (.iinc 2 1, 3) := by decide +kernel
theorem dX3_openOnes_33 : decode cX3_openOnes 33 = .ok (.goto (-29), 3) := by decide +kernel
theorem dX3_openOnes_36 : decode cX3_openOnes 36 = .ok (.iload_n 1, 1) := by decide +kernel
theorem dX3_openOnes_37 : decode cX3_openOnes 37 = .ok (.ireturn, 1) := by decide +kernel
theorem dX3_shunnedOnes_0 : decode cX3_shunnedOnes 0 = .ok (.iconst 0, 1) := by decide +kernel
theorem dX3_shunnedOnes_1 : decode cX3_shunnedOnes 1 = .ok (.istore_n 1, 1) := by decide +kernel
theorem dX3_shunnedOnes_2 : decode cX3_shunnedOnes 2 = .ok (.iconst 0, 1) := by decide +kernel
theorem dX3_shunnedOnes_3 : decode cX3_shunnedOnes 3 = .ok (.istore_n 2, 1) := by decide +kernel
theorem dX3_shunnedOnes_4 : decode cX3_shunnedOnes 4 = .ok (.iload_n 2, 1) := by decide +kernel
theorem dX3_shunnedOnes_5 : decode cX3_shunnedOnes 5 = .ok (.aload_n 0, 1) := by decide +kernel
theorem dX3_shunnedOnes_6 : decode cX3_shunnedOnes 6 = .ok (.getfield 29, 3) := by decide +kernel
theorem dX3_shunnedOnes_9 : decode cX3_shunnedOnes 9 = .ok (.if_icmp .ge 27, 3) := by decide +kernel
theorem dX3_shunnedOnes_12 : decode cX3_shunnedOnes 12 = .ok (.aload_n 0, 1) := by decide +kernel
theorem dX3_shunnedOnes_13 : decode cX3_shunnedOnes 13 = .ok (.getfield 25, 3) := by decide +kernel
theorem dX3_shunnedOnes_16 : decode cX3_shunnedOnes 16 = .ok (.iload_n 2, 1) := by decide +kernel
theorem dX3_shunnedOnes_17 : decode cX3_shunnedOnes 17 = .ok (.aaload, 1) := by decide +kernel
theorem dX3_shunnedOnes_18 : decode cX3_shunnedOnes 18 = .ok (.getfield 148, 3) := by decide +kernel
theorem dX3_shunnedOnes_21 : decode cX3_shunnedOnes 21 = .ok (.ifCond .eq 9, 3) := by decide +kernel
theorem dX3_shunnedOnes_24 : decode cX3_shunnedOnes 24 = .ok (.iload_n 1, 1) := by decide +kernel
theorem dX3_shunnedOnes_25 : decode cX3_shunnedOnes 25 = .ok (.iconst 1, 1) := by decide +kernel
theorem dX3_shunnedOnes_26 : decode cX3_shunnedOnes 26 = .ok (.iload_n 2, 1) := by decide +kernel
theorem dX3_shunnedOnes_27 : decode cX3_shunnedOnes 27 = .ok (.ishl, 1) := by decide +kernel
theorem dX3_shunnedOnes_28 : decode cX3_shunnedOnes 28 = .ok (.ior, 1) := by decide +kernel
theorem dX3_shunnedOnes_29 : decode cX3_shunnedOnes 29 = .ok (.istore_n 1, 1) := by decide +kernel
theorem dX3_shunnedOnes_30 : decode cX3_shunnedOnes 30 = .ok (.iinc 2 1, 3) := by decide +kernel
theorem dX3_shunnedOnes_33 : decode cX3_shunnedOnes 33 = .ok (.goto (-29), 3) := by decide +kernel
theorem dX3_shunnedOnes_36 : decode cX3_shunnedOnes 36 = .ok (.iload_n 1, 1) := by decide +kernel
theorem dX3_shunnedOnes_37 : decode cX3_shunnedOnes 37 = .ok (.ireturn, 1) := by decide +kernel
end
section
def fn_X3_copyFrom_20 : Nat → Nat → Nat → Int32 → mm_M → Option mm_M
  | 0, _, _, _, _ => none
  | n + 1, k0, k1, i2, x => if (8 : Int32) ≤ i2 then some (x) else if i2 < 0 ∨ 8 ≤ Int32.toNatClampNeg i2 then none else if i2 < 0 ∨ 8 ≤ Int32.toNatClampNeg i2 then none else (fn_X1_copyFrom ((k0 + 2) + 5 + Int32.toNatClampNeg i2) ((k1 + 2) + 5 + Int32.toNatClampNeg i2) x).bind fun x1 => (some (i2 + 1)).bind fun v1 => fn_X3_copyFrom_20 n k0 k1 v1 x1
def fn_X3_copyFrom (k0 : Nat) (k1 : Nat) (x : mm_M) : Option mm_M :=
  if mm_kd k0 = 3 then if mm_kd k1 = 3 then (some (mm_cy x (k1 + 1) (k0 + 1) 0 0 7)).bind fun x1 => (fn_X3_copyFrom_20 9 k0 k1 0 x1).bind fun x2 => (some (mm_up x2 k0 2 (x2 k1 2))).bind fun x3 => (some (mm_up x3 k0 3 (x3 k1 3))).bind fun x4 => (some (mm_up x4 k0 4 (x4 k1 4))).bind fun x5 => (some (mm_up x5 k0 5 (x5 k1 5))).bind fun x6 => (fn_X0_copyFrom (k0 + 3) (k1 + 3) x6).bind fun x7 => some x7 else none else none
abbrev rm_X3_copyFrom : Room := { frames := 2, cells := 0, slots := 0, locals := 47 }
theorem df_X3_copyFrom : yX3_copyFrom.cls = RX3 ∧ yX3_copyFrom.cls ≠ "java/lang/invoke/MethodHandle" ∧ yX3_copyFrom.cls ≠ "java/lang/invoke/VarHandle" ∧ (parseMethodDescriptor yX3_copyFrom.desc).map (fun d => d.parameters.length) = some 1 := by decide +kernel
set_option maxRecDepth 100000 in
set_option maxHeartbeats 4000000 in
theorem lp_X3_copyFrom_20 {p : Program} {l : Launch} {e : Env} {s : State} {m : MethodId} {args : Array Value} {below : List Frame} {meth : Method} {c : Code} {Q : State → Prop} {G : va_G} {T : Nat → ClassId} {b : Nat} {z : Nat → Nat} (C : mm_C p m c cX3_copyFrom 3 s args wsX3_copyFrom RX3 G T b z) (k0 : Nat) (k1 : Nat) (hk0 : mm_kd k0 = 3) (hk1 : mm_kd k1 = 3) : ∀ (n : Nat) (i2 : Int32) (x : mm_M) (H : Heap) (locs : List Loc) (ls : Array Slot) (x1 : mm_M), fn_X3_copyFrom_20 n k0 k1 i2 x = some (x1) → mm_H G T b x s H locs → lv_has ls 3 [(0, .ref (b + k0)), (1, .ref (b + k1)), (2, .int i2)] → (∀ (H1 : Heap) (locs1 : List Loc) (ls1 : Array Slot), mm_H G T b x1 s H1 locs1 → lv_has ls1 3 [(0, .ref (b + k0)), (1, .ref (b + k1))] → W p l e rm_X3_copyFrom s m args below meth c H1 locs1 0 0 Q (F0 m 50 ls1 [])) → W p l e rm_X3_copyFrom s m args below meth c H locs 0 0 Q (F0 m 20 ls []) := by
  have hx := C.1
  have hb := C.2.1
  have w1 := C.2.2.2.2.1 (.fieldLink RX3 25 "LandingFines$River" "landings" "[LLandingFines$Landing;") (by decide +kernel)
  have hin3 : ∀ w ∈ wsX30, w ∈ wsX3_copyFrom := by decide +kernel
  have hk0l := mm_lt hk0 (by decide)
  have hk1l := mm_lt hk1 (by decide)
  intro n
  induction n with
  | zero => intro _ _ _ _ _ _ h; cases (show (none : Option mm_M) = some _ from h)
  | succ n ih =>
    intro i2 x H locs ls x1 h hH hl kk
    rw [fn_X3_copyFrom_20] at h
    refine lv_iload_n hx hb dX3_copyFrom_20 rfl (lv_at hl 2 rfl) ?_
    refine lv_aload_n hx hb dX3_copyFrom_21 rfl (lv_at hl 0 rfl) ?_
    refine mm_get (v := .ref (b + (k0 + 2))) C hH hin3 rfl hk0l (mm_e3 hk0) (j := 1) (by decide) rfl w1 rfl dX3_copyFrom_22 ?_
    refine mm_alen (v := 8) C hH (mm_lt (mm_rv2 hk0) (by decide)) (mm_e9 (mm_rv2 hk0)) 3 rfl rfl dX3_copyFrom_25 ?_
    refine lv_icmp_ge (tgt := 50) hx hb dX3_copyFrom_26 (by decide) (fun c1 => ?_) (fun c1 => ?_)
    · have h := mm_pos c1 h
      have hl := lv_sub (l' := [(0, .ref (b + k0)), (1, .ref (b + k1))]) hl [0, 1] rfl
      cases h
      exact kk _ _ _ hH (lv_sub hl [0, 1] rfl)
    · have h := mm_neg c1 h
      refine lv_aload_n hx hb dX3_copyFrom_29 rfl (lv_at hl 0 rfl) ?_
      refine mm_get (v := .ref (b + (k0 + 2))) C hH hin3 rfl hk0l (mm_e3 hk0) (j := 1) (by decide) rfl w1 rfl dX3_copyFrom_30 ?_
      refine lv_iload_n hx hb dX3_copyFrom_33 rfl (lv_at hl 2 rfl) ?_
      obtain ⟨g1, h⟩ := mm_grn h
      refine mm_ald9 C hH (mm_rv2 hk0) g1 dX3_copyFrom_34 ?_
      refine lv_aload_n hx hb dX3_copyFrom_35 rfl (lv_at hl 1 rfl) ?_
      refine mm_get (v := .ref (b + (k1 + 2))) C hH hin3 rfl hk1l (mm_e3 hk1) (j := 1) (by decide) rfl w1 rfl dX3_copyFrom_36 ?_
      refine lv_iload_n hx hb dX3_copyFrom_39 rfl (lv_at hl 2 rfl) ?_
      obtain ⟨g2, h⟩ := mm_grn h
      refine mm_ald9 C hH (mm_rv2 hk1) g2 dX3_copyFrom_40 ?_
      obtain ⟨x1, e1, h⟩ := mm_bnd h
      refine mm_gov hH (va_runV (As := [.ref (b + ((k1 + 2) + 5 + Int32.toNatClampNeg i2))]) (rest := []) ⟨hx, hb, C.2.2.1, C.2.2.2.1, C.2.2.2.2.1⟩ (ct_X1_copyFrom l G T b z ((k0 + 2) + 5 + Int32.toNatClampNeg i2) ((k1 + 2) + 5 + Int32.toNatClampNeg i2) x e1) (cwV 1 C.2.2.2.2.1 gX3_copyFrom_X1_copyFrom rfl rfl rfl df_X1_copyFrom ⟨Nat.le_of_ble_eq_true rfl, Nat.le_of_ble_eq_true rfl⟩) ⟨mm_B.blind, mm_recv (q := (RX1, TX1, 8)) C hH (mm_lt (mm_ldr hk0 g1) (by decide)) (mm_e1 (mm_ldr hk0 g1)) rfl, mm_pre C hH⟩ rfl rfl hl.1 rfl (lv_room (Nat.le_of_ble_eq_true rfl)) dX3_copyFrom_41 ⟨Nat.zero_le _, Nat.zero_le _⟩) (fun H locs hH => ?_)
      obtain ⟨v1, e2, h⟩ := mm_bnd h
      refine lv_iinc (v := v1) (lv' := [(2, .int v1), (0, .ref (b + k0)), (1, .ref (b + k1))]) hx hb dX3_copyFrom_44 hl (k := 2) rfl (Option.some.inj e2) (by decide) rfl (fun ls hl => ?_)
      refine lv_goto (tgt := 20) hx hb dX3_copyFrom_47 (by decide) ?_
      exact ih v1 x1 _ _ _ _ h hH (lv_sub hl [1, 2, 0] rfl) kk
set_option maxRecDepth 100000 in
set_option maxHeartbeats 4000000 in
theorem ct_X3_copyFrom (l : Launch) (G : va_G) (T : Nat → ClassId) (b : Nat) (z : Nat → Nat) (k0 : Nat) (k1 : Nat) (x : mm_M) {x1 : mm_M} (h : fn_X3_copyFrom k0 k1 x = some x1) : mm_Cv l yX3_copyFrom wsX3_copyFrom rm_X3_copyFrom G T b z [.ref (b + k0), .ref (b + k1)] x x1 := by
  unfold fn_X3_copyFrom at h
  refine mm_start (cc := cX3_copyFrom) (maxL := 3) (ret := none) (by decide) rfl (Nat.le_of_ble_eq_true rfl) (fun p e s m below meth c ls C hr hlk hH hl => ?_)
  have hl : lv_has ls 3 [(0, .ref (b + k0)), (1, .ref (b + k1))] := hl
  have hx := C.1
  have hb := C.2.1
  have w1 := C.2.2.2.2.1 (.fieldLink RX3 18 "LandingFines$River" "settings" "[I") (by decide +kernel)
  have w2 := C.2.2.2.2.1 (.methodLink RX3 50 arraycopyName) (by decide +kernel)
  have w3 := C.2.2.2.2.1 (.native arraycopyName) (by decide +kernel)
  have w4 := C.2.2.2.2.1 (.static arraycopyName) (by decide +kernel)
  have w5 := C.2.2.2.2.1 (.initialized "java/lang/System") (by decide +kernel)
  have w6 := C.2.2.2.2.1 (.fieldLink RX3 29 "LandingFines$River" "landingCount" "I") (by decide +kernel)
  have w7 := C.2.2.2.2.1 (.fieldLink RX3 33 "LandingFines$River" "minutesSoFar" "I") (by decide +kernel)
  have w8 := C.2.2.2.2.1 (.fieldLink RX3 36 "LandingFines$River" "taken" "I") (by decide +kernel)
  have w9 := C.2.2.2.2.1 (.fieldLink RX3 39 "LandingFines$River" "switches" "I") (by decide +kernel)
  have w10 := C.2.2.2.2.1 (.fieldLink RX3 45 "LandingFines$River" "journal" "LLandingFines$Journal;") (by decide +kernel)
  have hin3 : ∀ w ∈ wsX30, w ∈ wsX3_copyFrom := by decide +kernel
  obtain ⟨hk0, h⟩ := mm_grd h
  have hk0l := mm_lt hk0 (by decide)
  obtain ⟨hk1, h⟩ := mm_grd h
  have hk1l := mm_lt hk1 (by decide)
  refine lv_aload_n hx hb dX3_copyFrom_0 rfl (lv_at hl 1 rfl) ?_
  refine mm_get (v := .ref (b + (k1 + 1))) C hH hin3 rfl hk1l (mm_e3 hk1) (j := 0) (by decide) rfl w1 rfl dX3_copyFrom_1 ?_
  refine lv_iconst (v := 0) hx hb dX3_copyFrom_4 (by decide) ?_
  refine lv_aload_n hx hb dX3_copyFrom_5 rfl (lv_at hl 0 rfl) ?_
  refine mm_get (v := .ref (b + (k0 + 1))) C hH hin3 rfl hk0l (mm_e3 hk0) (j := 0) (by decide) rfl w1 rfl dX3_copyFrom_6 ?_
  refine lv_iconst (v := 0) hx hb dX3_copyFrom_9 (by decide) ?_
  refine lv_aload_n hx hb dX3_copyFrom_10 rfl (lv_at hl 0 rfl) ?_
  refine mm_get (v := .ref (b + (k0 + 1))) C hH hin3 rfl hk0l (mm_e3 hk0) (j := 0) (by decide) rfl w1 rfl dX3_copyFrom_11 ?_
  refine mm_alen (v := 7) C hH (mm_lt (mm_rv1 hk0).1 (by decide)) (mm_e6 (mm_rv1 hk0).1) 0 rfl (by rw [(mm_rv1 hk0).2]; rfl) dX3_copyFrom_14 ?_
  obtain ⟨x1, e1, h⟩ := mm_bnd h
  refine mm_copy (n0 := 7) (n1 := 7) C hl.1.symm hH (mm_rv1 hk1).1 (mm_rv1 hk0).1 (mm_rv1 hk1).2 (mm_rv1 hk0).2 w2 w3 w4 w5 (by decide) (by decide) (by decide) (by decide) (by decide) (Nat.le_of_ble_eq_true rfl) (Nat.le_of_ble_eq_true rfl) (Option.some.inj e1) dX3_copyFrom_15 (fun H locs hH => ?_)
  refine lv_iconst (v := 0) hx hb dX3_copyFrom_18 (by decide) ?_
  refine lv_istore_n (lv' := [(2, .int 0), (0, .ref (b + k0)), (1, .ref (b + k1))]) hx hb dX3_copyFrom_19 rfl hl (by decide) rfl (fun ls hl => ?_)
  obtain ⟨x2, e2, h⟩ := mm_bnd h
  refine lp_X3_copyFrom_20 C k0 k1 hk0 hk1 9 0 x1 _ _ _ _ e2 hH (lv_sub hl [1, 2, 0] rfl) (fun H locs ls hH hl => ?_)
  refine lv_aload_n hx hb dX3_copyFrom_50 rfl (lv_at hl 0 rfl) ?_
  refine lv_aload_n hx hb dX3_copyFrom_51 rfl (lv_at hl 1 rfl) ?_
  refine mm_get (v := .int (x2 k1 2)) C hH hin3 rfl hk1l (mm_e3 hk1) (j := 2) (by decide) rfl w6 rfl dX3_copyFrom_52 ?_
  obtain ⟨x3, e3, h⟩ := mm_bnd h
  refine mm_put (ty := .int) C hH hin3 tyX3_ok nmX3 rfl hk0l (mm_e3 hk0) (j := 2) (by decide) rfl w6 pd_I rfl rfl (Nat.le_of_ble_eq_true rfl) (sp_3_2 hk0) (Option.some.inj e3) dX3_copyFrom_55 (fun H locs hH => ?_)
  refine lv_aload_n hx hb dX3_copyFrom_58 rfl (lv_at hl 0 rfl) ?_
  refine lv_aload_n hx hb dX3_copyFrom_59 rfl (lv_at hl 1 rfl) ?_
  refine mm_get (v := .int (x3 k1 3)) C hH hin3 rfl hk1l (mm_e3 hk1) (j := 3) (by decide) rfl w7 rfl dX3_copyFrom_60 ?_
  obtain ⟨x4, e4, h⟩ := mm_bnd h
  refine mm_put (ty := .int) C hH hin3 tyX3_ok nmX3 rfl hk0l (mm_e3 hk0) (j := 3) (by decide) rfl w7 pd_I rfl rfl (Nat.le_of_ble_eq_true rfl) (sp_3_3 hk0) (Option.some.inj e4) dX3_copyFrom_63 (fun H locs hH => ?_)
  refine lv_aload_n hx hb dX3_copyFrom_66 rfl (lv_at hl 0 rfl) ?_
  refine lv_aload_n hx hb dX3_copyFrom_67 rfl (lv_at hl 1 rfl) ?_
  refine mm_get (v := .int (x4 k1 4)) C hH hin3 rfl hk1l (mm_e3 hk1) (j := 4) (by decide) rfl w8 rfl dX3_copyFrom_68 ?_
  obtain ⟨x5, e5, h⟩ := mm_bnd h
  refine mm_put (ty := .int) C hH hin3 tyX3_ok nmX3 rfl hk0l (mm_e3 hk0) (j := 4) (by decide) rfl w8 pd_I rfl rfl (Nat.le_of_ble_eq_true rfl) (sp_3_4 hk0) (Option.some.inj e5) dX3_copyFrom_71 (fun H locs hH => ?_)
  refine lv_aload_n hx hb dX3_copyFrom_74 rfl (lv_at hl 0 rfl) ?_
  refine lv_aload_n hx hb dX3_copyFrom_75 rfl (lv_at hl 1 rfl) ?_
  refine mm_get (v := .int (x5 k1 5)) C hH hin3 rfl hk1l (mm_e3 hk1) (j := 5) (by decide) rfl w9 rfl dX3_copyFrom_76 ?_
  obtain ⟨x6, e6, h⟩ := mm_bnd h
  refine mm_put (ty := .int) C hH hin3 tyX3_ok nmX3 rfl hk0l (mm_e3 hk0) (j := 5) (by decide) rfl w9 pd_I rfl rfl (Nat.le_of_ble_eq_true rfl) (sp_3_5 hk0) (Option.some.inj e6) dX3_copyFrom_79 (fun H locs hH => ?_)
  refine lv_aload_n hx hb dX3_copyFrom_82 rfl (lv_at hl 0 rfl) ?_
  refine mm_get (v := .ref (b + (k0 + 3))) C hH hin3 rfl hk0l (mm_e3 hk0) (j := 6) (by decide) rfl w10 rfl dX3_copyFrom_83 ?_
  refine lv_aload_n hx hb dX3_copyFrom_86 rfl (lv_at hl 1 rfl) ?_
  refine mm_get (v := .ref (b + (k1 + 3))) C hH hin3 rfl hk1l (mm_e3 hk1) (j := 6) (by decide) rfl w10 rfl dX3_copyFrom_87 ?_
  obtain ⟨x7, e7, h⟩ := mm_bnd h
  refine mm_gov hH (va_runV (As := [.ref (b + (k1 + 3))]) (rest := []) ⟨hx, hb, C.2.2.1, C.2.2.2.1, C.2.2.2.2.1⟩ (ct_X0_copyFrom l G T b z (k0 + 3) (k1 + 3) x6 e7) (cwV 1 C.2.2.2.2.1 gX3_copyFrom_X0_copyFrom rfl rfl rfl df_X0_copyFrom ⟨Nat.le_of_ble_eq_true rfl, Nat.le_of_ble_eq_true rfl⟩) ⟨mm_B.blind, mm_recv (q := (RX0, TX0, 5)) C hH (mm_lt (mm_rv3 hk0) (by decide)) (mm_e0 (mm_rv3 hk0)) rfl, mm_pre C hH⟩ rfl rfl hl.1 rfl (lv_room (Nat.le_of_ble_eq_true rfl)) dX3_copyFrom_90 ⟨Nat.zero_le _, Nat.zero_le _⟩) (fun H locs hH => ?_)
  exact mm_vret C hH hr hlk h dX3_copyFrom_93
def fn_X3_find (a1 : Int32) (x : mm_M) : Option (Option Nat) :=
  if a1 < 0 then some none else if a1 < (x 1 2) then if a1 < 0 ∨ 8 ≤ Int32.toNatClampNeg a1 then none else some (some (3 + 5 + Int32.toNatClampNeg a1)) else some none
abbrev rm_X3_find : Room := { frames := 0, cells := 0, slots := 0, locals := 0 }
theorem df_X3_find : yX3_find.cls = RX3 ∧ yX3_find.cls ≠ "java/lang/invoke/MethodHandle" ∧ yX3_find.cls ≠ "java/lang/invoke/VarHandle" ∧ (parseMethodDescriptor yX3_find.desc).map (fun d => d.parameters.length) = some 1 := by decide +kernel
set_option maxRecDepth 100000 in
set_option maxHeartbeats 4000000 in
theorem ct_X3_find (l : Launch) (G : va_G) (T : Nat → ClassId) (b : Nat) (z : Nat → Nat) (a1 : Int32) (x : mm_M) {r : Option Nat} (h : fn_X3_find a1 x = some r) : mm_Ce l yX3_find wsX3_find rm_X3_find G T b z [.ref (b + 1), .int a1] x r x := by
  unfold fn_X3_find at h
  refine mm_start (cc := cX3_find) (maxL := 2) (ret := (some (.object "LandingFines$Landing"))) (by decide) rfl (Nat.le_of_ble_eq_true rfl) (fun p e s m below meth c ls C hr hlk hH hl => ?_)
  have hl : lv_has ls 2 [(0, .ref (b + 1)), (1, .int a1)] := hl
  have hx := C.1
  have hb := C.2.1
  have w1 := C.2.2.2.2.1 (.fieldLink RX3 29 "LandingFines$River" "landingCount" "I") (by decide +kernel)
  have w2 := C.2.2.2.2.1 (.fieldLink RX3 25 "LandingFines$River" "landings" "[LLandingFines$Landing;") (by decide +kernel)
  have hin3 : ∀ w ∈ wsX30, w ∈ wsX3_find := by decide +kernel
  refine lv_iload_n hx hb dX3_find_0 rfl (lv_at hl 1 rfl) ?_
  refine lv_if_lt (tgt := 12) hx hb dX3_find_1 (by decide) (fun c1 => ?_) (fun c1 => ?_)
  · have h := mm_pos c1 h
    have hl := lv_sub (l' := []) hl [] rfl
    refine lv_null hx hb dX3_find_12 ?_
    refine lv_goto (tgt := 22) hx hb dX3_find_13 (by decide) ?_
    exact mm_eretP C hH hr (Or.inl ⟨_, rfl⟩) hlk rfl h dX3_find_22
  · have h := mm_neg c1 h
    refine lv_iload_n hx hb dX3_find_4 rfl (lv_at hl 1 rfl) ?_
    refine lv_aload_n hx hb dX3_find_5 rfl (lv_at hl 0 rfl) ?_
    refine mm_get (v := .int (x 1 2)) C hH hin3 rfl kl_1 (mm_e3 kd_1) (j := 2) (by decide) rfl w1 rfl dX3_find_6 ?_
    refine lv_icmp_lt (tgt := 16) hx hb dX3_find_9 (by decide) (fun c2 => ?_) (fun c2 => ?_)
    · have h := mm_pos c2 h
      refine lv_aload_n hx hb dX3_find_16 rfl (lv_at hl 0 rfl) ?_
      refine mm_get (v := .ref (b + 3)) C hH hin3 rfl kl_1 (mm_e3 kd_1) (j := 1) (by decide) rfl w2 rfl dX3_find_17 ?_
      refine lv_iload_n hx hb dX3_find_20 rfl (lv_at hl 1 rfl) ?_
      obtain ⟨g1, h⟩ := mm_grn h
      refine mm_ald9 C hH kd_3 g1 dX3_find_21 ?_
      exact mm_eretP C hH hr (Or.inl ⟨_, rfl⟩) hlk rfl h dX3_find_22
    · have h := mm_neg c2 h
      have hl := lv_sub (l' := []) hl [] rfl
      refine lv_null hx hb dX3_find_12 ?_
      refine lv_goto (tgt := 22) hx hb dX3_find_13 (by decide) ?_
      exact mm_eretP C hH hr (Or.inl ⟨_, rfl⟩) hlk rfl h dX3_find_22
def fn_X3_changeSetting (a1 : Int32) (a2 : Int32) (x : mm_M) : Option (mm_M × Int32) :=
  if a1 < 0 then some (x, (-2)) else if a1 < 7 then if a1 < 0 ∨ 7 ≤ Int32.toNatClampNeg a1 then none else if a2 < (mm_st 0 (Int32.toNatClampNeg a1)) then some (x, (-2)) else if a1 < 0 ∨ 7 ≤ Int32.toNatClampNeg a1 then none else if a2 ≤ (mm_st 1 (Int32.toNatClampNeg a1)) then if a1 < 0 ∨ 7 ≤ Int32.toNatClampNeg a1 then none else (some ((x 2 (Int32.toNatClampNeg a1)) : Int32)).bind fun v1 => if a1 < 0 ∨ 7 ≤ Int32.toNatClampNeg a1 then none else (some (mm_up x 2 (Int32.toNatClampNeg a1) a2)).bind fun x1 => some (x1, v1) else some (x, (-2)) else some (x, (-2))
abbrev rm_X3_changeSetting : Room := { frames := 0, cells := 0, slots := 0, locals := 0 }
theorem df_X3_changeSetting : yX3_changeSetting.cls = RX3 ∧ yX3_changeSetting.cls ≠ "java/lang/invoke/MethodHandle" ∧ yX3_changeSetting.cls ≠ "java/lang/invoke/VarHandle" ∧ (parseMethodDescriptor yX3_changeSetting.desc).map (fun d => d.parameters.length) = some 2 := by decide +kernel
set_option maxRecDepth 100000 in
set_option maxHeartbeats 4000000 in
theorem ct_X3_changeSetting (l : Launch) (G : va_G) (T : Nat → ClassId) (b : Nat) (z : Nat → Nat) (a1 : Int32) (a2 : Int32) (x : mm_M) {x1 : mm_M} {r : Int32} (h : fn_X3_changeSetting a1 a2 x = some (x1, r)) : mm_Ci l yX3_changeSetting wsX3_changeSetting rm_X3_changeSetting G T b z [.ref (b + 1), .int a1, .int a2] x r x1 := by
  unfold fn_X3_changeSetting at h
  refine mm_start (cc := cX3_changeSetting) (maxL := 4) (ret := (some .int)) (by decide) rfl (Nat.le_of_ble_eq_true rfl) (fun p e s m below meth c ls C hr hlk hH hl => ?_)
  have hl : lv_has ls 4 [(0, .ref (b + 1)), (1, .int a1), (2, .int a2)] := hl
  have hx := C.1
  have hb := C.2.1
  have w1 := C.2.2.2.2.1 (.fieldLink RX3 18 "LandingFines$River" "settings" "[I") (by decide +kernel)
  have hin3 : ∀ w ∈ wsX30, w ∈ wsX3_changeSetting := by decide +kernel
  refine lv_iload_n hx hb dX3_changeSetting_0 rfl (lv_at hl 1 rfl) ?_
  refine lv_if_lt (tgt := 13) hx hb dX3_changeSetting_1 (by decide) (fun c1 => ?_) (fun c1 => ?_)
  · have h := mm_pos c1 h
    have hl := lv_sub (l' := []) hl [] rfl
    refine lv_bipush (v := (-2)) hx hb dX3_changeSetting_13 (by decide) ?_
    exact mm_iret C hH hr hlk rfl h dX3_changeSetting_15
  · have h := mm_neg c1 h
    refine lv_iload_n hx hb dX3_changeSetting_4 rfl (lv_at hl 1 rfl) ?_
    refine lv_aload_n hx hb dX3_changeSetting_5 rfl (lv_at hl 0 rfl) ?_
    refine mm_get (v := .ref (b + 2)) C hH hin3 rfl kl_1 (mm_e3 kd_1) (j := 0) (by decide) rfl w1 rfl dX3_changeSetting_6 ?_
    refine mm_alen (v := 7) C hH kl_2 (mm_e6 kd_2) 0 rfl rfl dX3_changeSetting_9 ?_
    refine lv_icmp_lt (tgt := 16) hx hb dX3_changeSetting_10 (by decide) (fun c2 => ?_) (fun c2 => ?_)
    · have h := mm_pos c2 h
      refine lv_iload_n hx hb dX3_changeSetting_16 rfl (lv_at hl 2 rfl) ?_
      refine mm_gets (i := 0) C rfl hH (by decide) rfl dX3_changeSetting_17 ?_
      refine lv_iload_n hx hb dX3_changeSetting_20 rfl (lv_at hl 1 rfl) ?_
      obtain ⟨g1, h⟩ := mm_grn h
      refine mm_sld (i := 0) C hH (by decide) g1 dX3_changeSetting_21 ?_
      refine lv_icmp_lt (tgt := 34) hx hb dX3_changeSetting_22 (by decide) (fun c3 => ?_) (fun c3 => ?_)
      · have h := mm_pos c3 h
        have hl := lv_sub (l' := []) hl [] rfl
        refine lv_bipush (v := (-2)) hx hb dX3_changeSetting_34 (by decide) ?_
        exact mm_iret C hH hr hlk rfl h dX3_changeSetting_36
      · have h := mm_neg c3 h
        refine lv_iload_n hx hb dX3_changeSetting_25 rfl (lv_at hl 2 rfl) ?_
        refine mm_gets (i := 1) C rfl hH (by decide) rfl dX3_changeSetting_26 ?_
        refine lv_iload_n hx hb dX3_changeSetting_29 rfl (lv_at hl 1 rfl) ?_
        obtain ⟨g2, h⟩ := mm_grn h
        refine mm_sld (i := 1) C hH (by decide) g2 dX3_changeSetting_30 ?_
        refine lv_icmp_le (tgt := 37) hx hb dX3_changeSetting_31 (by decide) (fun c4 => ?_) (fun c4 => ?_)
        · have h := mm_pos c4 h
          refine lv_aload_n hx hb dX3_changeSetting_37 rfl (lv_at hl 0 rfl) ?_
          refine mm_get (v := .ref (b + 2)) C hH hin3 rfl kl_1 (mm_e3 kd_1) (j := 0) (by decide) rfl w1 rfl dX3_changeSetting_38 ?_
          refine lv_iload_n hx hb dX3_changeSetting_41 rfl (lv_at hl 1 rfl) ?_
          obtain ⟨g3, h⟩ := mm_grn h
          refine mm_iald (n := 7) (jn := (Int32.toNatClampNeg a1)) C hH kd_2 ln_2 g3 rfl dX3_changeSetting_42 ?_
          obtain ⟨v1, e1, h⟩ := mm_bnd h
          refine mm_nmi e1 ?_
          refine lv_istore_n (lv' := [(3, .int v1), (0, .ref (b + 1)), (1, .int a1), (2, .int a2)]) hx hb dX3_changeSetting_43 rfl hl (by decide) rfl (fun ls hl => ?_)
          refine lv_aload_n hx hb dX3_changeSetting_44 rfl (lv_at hl 1 rfl) ?_
          refine mm_get (v := .ref (b + 2)) C hH hin3 rfl kl_1 (mm_e3 kd_1) (j := 0) (by decide) rfl w1 rfl dX3_changeSetting_45 ?_
          refine lv_iload_n hx hb dX3_changeSetting_48 rfl (lv_at hl 2 rfl) ?_
          refine lv_iload_n hx hb dX3_changeSetting_49 rfl (lv_at hl 3 rfl) ?_
          obtain ⟨g4, h⟩ := mm_grn h
          obtain ⟨x1, e2, h⟩ := mm_bnd h
          refine mm_iast (n := 7) (jn := (Int32.toNatClampNeg a1)) C hH kd_2 ln_2 g4 rfl (Option.some.inj e2) dX3_changeSetting_50 (fun H locs hH => ?_)
          refine lv_iload_n hx hb dX3_changeSetting_51 rfl (lv_at hl 0 rfl) ?_
          exact mm_iret C hH hr hlk rfl h dX3_changeSetting_52
        · have h := mm_neg c4 h
          have hl := lv_sub (l' := []) hl [] rfl
          refine lv_bipush (v := (-2)) hx hb dX3_changeSetting_34 (by decide) ?_
          exact mm_iret C hH hr hlk rfl h dX3_changeSetting_36
    · have h := mm_neg c2 h
      have hl := lv_sub (l' := []) hl [] rfl
      refine lv_bipush (v := (-2)) hx hb dX3_changeSetting_13 (by decide) ?_
      exact mm_iret C hH hr hlk rfl h dX3_changeSetting_15
def fn_X3_followTaken_5 : Nat → Int32 → Int32 → mm_M → Option Int32
  | 0, _, _, _ => none
  | n + 1, i1, i2, x => if (x 1 2) ≤ i2 then some (i1) else if i2 < 0 ∨ 8 ≤ Int32.toNatClampNeg i2 then none else (fn_X1_canBeTaken (3 + 5 + Int32.toNatClampNeg i2) x).bind fun v1 => if v1 = 0 then (some (i2 + 1)).bind fun v2 => fn_X3_followTaken_5 n  i1 v2 x else if i1 < 0 then (some (i2 + 1)).bind fun v3 => fn_X3_followTaken_5 n  i2 v3 x else if i2 < 0 ∨ 8 ≤ Int32.toNatClampNeg i2 then none else if i1 < 0 ∨ 8 ≤ Int32.toNatClampNeg i1 then none else if (x (3 + 5 + Int32.toNatClampNeg i1) 1) ≤ (x (3 + 5 + Int32.toNatClampNeg i2) 1) then (some (i2 + 1)).bind fun v4 => fn_X3_followTaken_5 n  i1 v4 x else (some (i2 + 1)).bind fun v5 => fn_X3_followTaken_5 n  i2 v5 x
def fn_X3_followTaken  (x : mm_M) : Option mm_M :=
  (fn_X3_followTaken_5 9 (-6) 0 x).bind fun v1 => if v1 = (x 1 4) then some x else (some (mm_up x 1 4 v1)).bind fun x1 => (some (mm_up x1 1 5 ((x1 1 5) + 1))).bind fun x2 => some x2
abbrev rm_X3_followTaken : Room := { frames := 1, cells := 0, slots := 0, locals := 20 }
theorem df_X3_followTaken : yX3_followTaken.cls = RX3 ∧ yX3_followTaken.cls ≠ "java/lang/invoke/MethodHandle" ∧ yX3_followTaken.cls ≠ "java/lang/invoke/VarHandle" ∧ (parseMethodDescriptor yX3_followTaken.desc).map (fun d => d.parameters.length) = some 0 := by decide +kernel
set_option maxRecDepth 100000 in
set_option maxHeartbeats 4000000 in
theorem lp_X3_followTaken_5 {p : Program} {l : Launch} {e : Env} {s : State} {m : MethodId} {args : Array Value} {below : List Frame} {meth : Method} {c : Code} {Q : State → Prop} {G : va_G} {T : Nat → ClassId} {b : Nat} {z : Nat → Nat} (C : mm_C p m c cX3_followTaken 3 s args wsX3_followTaken RX3 G T b z)  : ∀ (n : Nat) (i1 : Int32) (i2 : Int32) (x : mm_M) (H : Heap) (locs : List Loc) (ls : Array Slot) (r1 : Int32), fn_X3_followTaken_5 n i1 i2 x = some (r1) → mm_H G T b x s H locs → lv_has ls 3 [(0, .ref (b + 1)), (1, .int i1), (2, .int i2)] → (∀ (H1 : Heap) (locs1 : List Loc) (ls1 : Array Slot), mm_H G T b x s H1 locs1 → lv_has ls1 3 [(0, .ref (b + 1)), (1, .int r1)] → W p l e rm_X3_followTaken s m args below meth c H1 locs1 0 0 Q (F0 m 58 ls1 [])) → W p l e rm_X3_followTaken s m args below meth c H locs 0 0 Q (F0 m 5 ls []) := by
  have hx := C.1
  have hb := C.2.1
  have w1 := C.2.2.2.2.1 (.fieldLink RX3 29 "LandingFines$River" "landingCount" "I") (by decide +kernel)
  have w2 := C.2.2.2.2.1 (.fieldLink RX3 25 "LandingFines$River" "landings" "[LLandingFines$Landing;") (by decide +kernel)
  have w3 := C.2.2.2.2.1 (.fieldLink RX3 88 "LandingFines$Landing" "fare" "I") (by decide +kernel)
  have hin1 : ∀ w ∈ wsX10, w ∈ wsX3_followTaken := by decide +kernel
  have hin3 : ∀ w ∈ wsX30, w ∈ wsX3_followTaken := by decide +kernel
  intro n
  induction n with
  | zero => intro _ _ _ _ _ _ _ h; cases (show (none : Option Int32) = some _ from h)
  | succ n ih =>
    intro i1 i2 x H locs ls r1 h hH hl kk
    rw [fn_X3_followTaken_5] at h
    refine lv_iload_n hx hb dX3_followTaken_5 rfl (lv_at hl 2 rfl) ?_
    refine lv_aload_n hx hb dX3_followTaken_6 rfl (lv_at hl 0 rfl) ?_
    refine mm_get (v := .int (x 1 2)) C hH hin3 rfl kl_1 (mm_e3 kd_1) (j := 2) (by decide) rfl w1 rfl dX3_followTaken_7 ?_
    refine lv_icmp_ge (tgt := 58) hx hb dX3_followTaken_10 (by decide) (fun c1 => ?_) (fun c1 => ?_)
    · have h := mm_pos c1 h
      have hl := lv_sub (l' := [(0, .ref (b + 1)), (1, .int i1)]) hl [0, 1] rfl
      cases h
      exact kk _ _ _ hH (lv_sub hl [0, 1] rfl)
    · have h := mm_neg c1 h
      refine lv_aload_n hx hb dX3_followTaken_13 rfl (lv_at hl 0 rfl) ?_
      refine mm_get (v := .ref (b + 3)) C hH hin3 rfl kl_1 (mm_e3 kd_1) (j := 1) (by decide) rfl w2 rfl dX3_followTaken_14 ?_
      refine lv_iload_n hx hb dX3_followTaken_17 rfl (lv_at hl 2 rfl) ?_
      obtain ⟨g1, h⟩ := mm_grn h
      refine mm_ald9 C hH kd_3 g1 dX3_followTaken_18 ?_
      obtain ⟨v1, e1, h⟩ := mm_bnd h
      refine mm_goi hH (va_runV (As := []) (rest := []) ⟨hx, hb, C.2.2.1, C.2.2.2.1, C.2.2.2.2.1⟩ (ct_X1_canBeTaken l G T b z (3 + 5 + Int32.toNatClampNeg i2) x e1) (cwV 0 C.2.2.2.2.1 gX3_followTaken_X1_canBeTaken rfl rfl rfl df_X1_canBeTaken ⟨Nat.le_of_ble_eq_true rfl, Nat.le_of_ble_eq_true rfl⟩) ⟨mm_B.blind, mm_recv (q := (RX1, TX1, 8)) C hH (mm_lt (mm_ldc g1) (by decide)) (mm_e1 (mm_ldc g1)) rfl, mm_pre C hH⟩ rfl rfl hl.1 rfl (lv_room (Nat.le_of_ble_eq_true rfl)) dX3_followTaken_19 ⟨Nat.zero_le _, Nat.zero_le _⟩) (fun H locs hH => ?_)
      refine lv_if_eq (tgt := 52) hx hb dX3_followTaken_22 (by decide) (fun c2 => ?_) (fun c2 => ?_)
      · have h := mm_pos c2 h
        obtain ⟨v2, e2, h⟩ := mm_bnd h
        refine lv_iinc (v := v2) (lv' := [(2, .int v2), (0, .ref (b + 1)), (1, .int i1)]) hx hb dX3_followTaken_52 hl (k := 2) rfl (Option.some.inj e2) (by decide) rfl (fun ls hl => ?_)
        refine lv_goto (tgt := 5) hx hb dX3_followTaken_55 (by decide) ?_
        exact ih i1 v2 x _ _ _ _ h hH (lv_sub hl [1, 2, 0] rfl) kk
      · have h := mm_neg c2 h
        refine lv_iload_n hx hb dX3_followTaken_25 rfl (lv_at hl 1 rfl) ?_
        refine lv_if_lt (tgt := 50) hx hb dX3_followTaken_26 (by decide) (fun c3 => ?_) (fun c3 => ?_)
        · have h := mm_pos c3 h
          have hl := lv_sub (l' := [(0, .ref (b + 1)), (2, .int i2)]) hl [0, 2] rfl
          refine lv_iload_n hx hb dX3_followTaken_50 rfl (lv_at hl 1 rfl) ?_
          refine lv_istore_n (lv' := [(1, .int i2), (0, .ref (b + 1)), (2, .int i2)]) hx hb dX3_followTaken_51 rfl hl (by decide) rfl (fun ls hl => ?_)
          obtain ⟨v3, e3, h⟩ := mm_bnd h
          refine lv_iinc (v := v3) (lv' := [(2, .int v3), (1, .int i2), (0, .ref (b + 1))]) hx hb dX3_followTaken_52 hl (k := 2) rfl (Option.some.inj e3) (by decide) rfl (fun ls hl => ?_)
          refine lv_goto (tgt := 5) hx hb dX3_followTaken_55 (by decide) ?_
          exact ih i2 v3 x _ _ _ _ h hH (lv_sub hl [2, 1, 0] rfl) kk
        · have h := mm_neg c3 h
          refine lv_aload_n hx hb dX3_followTaken_29 rfl (lv_at hl 0 rfl) ?_
          refine mm_get (v := .ref (b + 3)) C hH hin3 rfl kl_1 (mm_e3 kd_1) (j := 1) (by decide) rfl w2 rfl dX3_followTaken_30 ?_
          refine lv_iload_n hx hb dX3_followTaken_33 rfl (lv_at hl 2 rfl) ?_
          obtain ⟨g2, h⟩ := mm_grn h
          refine mm_ald9 C hH kd_3 g2 dX3_followTaken_34 ?_
          refine mm_get (v := .int (x (3 + 5 + Int32.toNatClampNeg i2) 1)) C hH hin1 rfl (mm_lt (mm_ldc g2) (by decide)) (mm_e1 (mm_ldc g2)) (j := 1) (by decide) rfl w3 rfl dX3_followTaken_35 ?_
          refine lv_aload_n hx hb dX3_followTaken_38 rfl (lv_at hl 0 rfl) ?_
          refine mm_get (v := .ref (b + 3)) C hH hin3 rfl kl_1 (mm_e3 kd_1) (j := 1) (by decide) rfl w2 rfl dX3_followTaken_39 ?_
          refine lv_iload_n hx hb dX3_followTaken_42 rfl (lv_at hl 1 rfl) ?_
          obtain ⟨g3, h⟩ := mm_grn h
          refine mm_ald9 C hH kd_3 g3 dX3_followTaken_43 ?_
          refine mm_get (v := .int (x (3 + 5 + Int32.toNatClampNeg i1) 1)) C hH hin1 rfl (mm_lt (mm_ldc g3) (by decide)) (mm_e1 (mm_ldc g3)) (j := 1) (by decide) rfl w3 rfl dX3_followTaken_44 ?_
          refine lv_icmp_ge (tgt := 52) hx hb dX3_followTaken_47 (by decide) (fun c4 => ?_) (fun c4 => ?_)
          · have h := mm_pos c4 h
            obtain ⟨v4, e4, h⟩ := mm_bnd h
            refine lv_iinc (v := v4) (lv' := [(2, .int v4), (0, .ref (b + 1)), (1, .int i1)]) hx hb dX3_followTaken_52 hl (k := 2) rfl (Option.some.inj e4) (by decide) rfl (fun ls hl => ?_)
            refine lv_goto (tgt := 5) hx hb dX3_followTaken_55 (by decide) ?_
            exact ih i1 v4 x _ _ _ _ h hH (lv_sub hl [1, 2, 0] rfl) kk
          · have h := mm_neg c4 h
            have hl := lv_sub (l' := [(0, .ref (b + 1)), (2, .int i2)]) hl [0, 2] rfl
            refine lv_iload_n hx hb dX3_followTaken_50 rfl (lv_at hl 1 rfl) ?_
            refine lv_istore_n (lv' := [(1, .int i2), (0, .ref (b + 1)), (2, .int i2)]) hx hb dX3_followTaken_51 rfl hl (by decide) rfl (fun ls hl => ?_)
            obtain ⟨v5, e5, h⟩ := mm_bnd h
            refine lv_iinc (v := v5) (lv' := [(2, .int v5), (1, .int i2), (0, .ref (b + 1))]) hx hb dX3_followTaken_52 hl (k := 2) rfl (Option.some.inj e5) (by decide) rfl (fun ls hl => ?_)
            refine lv_goto (tgt := 5) hx hb dX3_followTaken_55 (by decide) ?_
            exact ih i2 v5 x _ _ _ _ h hH (lv_sub hl [2, 1, 0] rfl) kk
set_option maxRecDepth 100000 in
set_option maxHeartbeats 4000000 in
theorem ct_X3_followTaken (l : Launch) (G : va_G) (T : Nat → ClassId) (b : Nat) (z : Nat → Nat)  (x : mm_M) {x1 : mm_M} (h : fn_X3_followTaken  x = some x1) : mm_Cv l yX3_followTaken wsX3_followTaken rm_X3_followTaken G T b z [.ref (b + 1)] x x1 := by
  unfold fn_X3_followTaken at h
  refine mm_start (cc := cX3_followTaken) (maxL := 3) (ret := none) (by decide) rfl (Nat.le_of_ble_eq_true rfl) (fun p e s m below meth c ls C hr hlk hH hl => ?_)
  have hl : lv_has ls 3 [(0, .ref (b + 1))] := hl
  have hx := C.1
  have hb := C.2.1
  have w1 := C.2.2.2.2.1 (.fieldLink RX3 36 "LandingFines$River" "taken" "I") (by decide +kernel)
  have w2 := C.2.2.2.2.1 (.fieldLink RX3 39 "LandingFines$River" "switches" "I") (by decide +kernel)
  have hin3 : ∀ w ∈ wsX30, w ∈ wsX3_followTaken := by decide +kernel
  refine lv_bipush (v := (-6)) hx hb dX3_followTaken_0 (by decide) ?_
  refine lv_istore_n (lv' := [(1, .int (-6)), (0, .ref (b + 1))]) hx hb dX3_followTaken_2 rfl hl (by decide) rfl (fun ls hl => ?_)
  refine lv_iconst (v := 0) hx hb dX3_followTaken_3 (by decide) ?_
  refine lv_istore_n (lv' := [(2, .int 0), (1, .int (-6)), (0, .ref (b + 1))]) hx hb dX3_followTaken_4 rfl hl (by decide) rfl (fun ls hl => ?_)
  obtain ⟨v1, e1, h⟩ := mm_bnd h
  refine lp_X3_followTaken_5 C 9 (-6) 0 x _ _ _ _ e1 hH (lv_sub hl [2, 1, 0] rfl) (fun H locs ls hH hl => ?_)
  refine lv_iload_n hx hb dX3_followTaken_58 rfl (lv_at hl 1 rfl) ?_
  refine lv_aload_n hx hb dX3_followTaken_59 rfl (lv_at hl 0 rfl) ?_
  refine mm_get (v := .int (x 1 4)) C hH hin3 rfl kl_1 (mm_e3 kd_1) (j := 4) (by decide) rfl w1 rfl dX3_followTaken_60 ?_
  refine lv_icmp_eq (tgt := 81) hx hb dX3_followTaken_63 (by decide) (fun c1 => ?_) (fun c1 => ?_)
  · have h := mm_pos c1 h
    have hl := lv_sub (l' := []) hl [] rfl
    exact mm_vret C hH hr hlk h dX3_followTaken_81
  · have h := mm_neg c1 h
    refine lv_aload_n hx hb dX3_followTaken_66 rfl (lv_at hl 0 rfl) ?_
    refine lv_iload_n hx hb dX3_followTaken_67 rfl (lv_at hl 1 rfl) ?_
    obtain ⟨x1, e2, h⟩ := mm_bnd h
    refine mm_put (ty := .int) C hH hin3 tyX3_ok nmX3 rfl kl_1 (mm_e3 kd_1) (j := 4) (by decide) rfl w1 pd_I rfl rfl (Nat.le_of_ble_eq_true rfl) (sp_3_4 kd_1) (Option.some.inj e2) dX3_followTaken_68 (fun H locs hH => ?_)
    refine lv_aload_n hx hb dX3_followTaken_71 rfl (lv_at hl 0 rfl) ?_
    refine lv_dup hx hb dX3_followTaken_72 rfl ?_
    refine mm_get (v := .int (x1 1 5)) C hH hin3 rfl kl_1 (mm_e3 kd_1) (j := 5) (by decide) rfl w2 rfl dX3_followTaken_73 ?_
    refine lv_iconst (v := 1) hx hb dX3_followTaken_76 (by decide) ?_
    refine lv_iadd hx hb dX3_followTaken_77 ?_
    obtain ⟨x2, e3, h⟩ := mm_bnd h
    refine mm_put (ty := .int) C hH hin3 tyX3_ok nmX3 rfl kl_1 (mm_e3 kd_1) (j := 5) (by decide) rfl w2 pd_I rfl rfl (Nat.le_of_ble_eq_true rfl) (sp_3_5 kd_1) (Option.some.inj e3) dX3_followTaken_78 (fun H locs hH => ?_)
    exact mm_vret C hH hr hlk h dX3_followTaken_81
def fn_X3_addLanding (a1 : Int32) (x : mm_M) : Option (mm_M × Int32) :=
  if a1 < 0 then some (x, (-2)) else if a1 ≤ 999 then if (x 1 2) < 8 then if (x 1 2) < 0 ∨ 8 ≤ Int32.toNatClampNeg (x 1 2) then none else (fn_X1_arrive (3 + 5 + Int32.toNatClampNeg (x 1 2)) a1 x).bind fun x1 => (some (mm_up x1 1 2 ((x1 1 2) + 1))).bind fun x2 => (fn_X3_followTaken x2).bind fun x3 => some (x3, ((x3 1 2) - 1)) else some (x, (-4)) else some (x, (-2))
abbrev rm_X3_addLanding : Room := { frames := 2, cells := 0, slots := 0, locals := 42 }
theorem df_X3_addLanding : yX3_addLanding.cls = RX3 ∧ yX3_addLanding.cls ≠ "java/lang/invoke/MethodHandle" ∧ yX3_addLanding.cls ≠ "java/lang/invoke/VarHandle" ∧ (parseMethodDescriptor yX3_addLanding.desc).map (fun d => d.parameters.length) = some 1 := by decide +kernel
set_option maxRecDepth 100000 in
set_option maxHeartbeats 4000000 in
theorem ct_X3_addLanding (l : Launch) (G : va_G) (T : Nat → ClassId) (b : Nat) (z : Nat → Nat) (a1 : Int32) (x : mm_M) {x1 : mm_M} {r : Int32} (h : fn_X3_addLanding a1 x = some (x1, r)) : mm_Ci l yX3_addLanding wsX3_addLanding rm_X3_addLanding G T b z [.ref (b + 1), .int a1] x r x1 := by
  unfold fn_X3_addLanding at h
  refine mm_start (cc := cX3_addLanding) (maxL := 2) (ret := (some .int)) (by decide) rfl (Nat.le_of_ble_eq_true rfl) (fun p e s m below meth c ls C hr hlk hH hl => ?_)
  have hl : lv_has ls 2 [(0, .ref (b + 1)), (1, .int a1)] := hl
  have hx := C.1
  have hb := C.2.1
  have w1 := C.2.2.2.2.1 (.fieldLink RX3 29 "LandingFines$River" "landingCount" "I") (by decide +kernel)
  have w2 := C.2.2.2.2.1 (.fieldLink RX3 25 "LandingFines$River" "landings" "[LLandingFines$Landing;") (by decide +kernel)
  have hin3 : ∀ w ∈ wsX30, w ∈ wsX3_addLanding := by decide +kernel
  refine lv_iload_n hx hb dX3_addLanding_0 rfl (lv_at hl 1 rfl) ?_
  refine lv_if_lt (tgt := 11) hx hb dX3_addLanding_1 (by decide) (fun c1 => ?_) (fun c1 => ?_)
  · have h := mm_pos c1 h
    have hl := lv_sub (l' := []) hl [] rfl
    refine lv_bipush (v := (-2)) hx hb dX3_addLanding_11 (by decide) ?_
    exact mm_iret C hH hr hlk rfl h dX3_addLanding_13
  · have h := mm_neg c1 h
    refine lv_iload_n hx hb dX3_addLanding_4 rfl (lv_at hl 1 rfl) ?_
    refine lv_sipush (v := 999) hx hb dX3_addLanding_5 (by decide) ?_
    refine lv_icmp_le (tgt := 14) hx hb dX3_addLanding_8 (by decide) (fun c2 => ?_) (fun c2 => ?_)
    · have h := mm_pos c2 h
      refine lv_aload_n hx hb dX3_addLanding_14 rfl (lv_at hl 0 rfl) ?_
      refine mm_get (v := .int (x 1 2)) C hH hin3 rfl kl_1 (mm_e3 kd_1) (j := 2) (by decide) rfl w1 rfl dX3_addLanding_15 ?_
      refine lv_bipush (v := 8) hx hb dX3_addLanding_18 (by decide) ?_
      refine lv_icmp_lt (tgt := 26) hx hb dX3_addLanding_20 (by decide) (fun c3 => ?_) (fun c3 => ?_)
      · have h := mm_pos c3 h
        refine lv_aload_n hx hb dX3_addLanding_26 rfl (lv_at hl 0 rfl) ?_
        refine mm_get (v := .ref (b + 3)) C hH hin3 rfl kl_1 (mm_e3 kd_1) (j := 1) (by decide) rfl w2 rfl dX3_addLanding_27 ?_
        refine lv_aload_n hx hb dX3_addLanding_30 rfl (lv_at hl 0 rfl) ?_
        refine mm_get (v := .int (x 1 2)) C hH hin3 rfl kl_1 (mm_e3 kd_1) (j := 2) (by decide) rfl w1 rfl dX3_addLanding_31 ?_
        obtain ⟨g1, h⟩ := mm_grn h
        refine mm_ald9 C hH kd_3 g1 dX3_addLanding_34 ?_
        refine lv_iload_n hx hb dX3_addLanding_35 rfl (lv_at hl 1 rfl) ?_
        obtain ⟨x1, e1, h⟩ := mm_bnd h
        refine mm_gov hH (va_runV (As := [.int a1]) (rest := []) ⟨hx, hb, C.2.2.1, C.2.2.2.1, C.2.2.2.2.1⟩ (ct_X1_arrive l G T b z (3 + 5 + Int32.toNatClampNeg (x 1 2)) a1 x e1) (cwV 1 C.2.2.2.2.1 gX3_addLanding_X1_arrive rfl rfl rfl df_X1_arrive ⟨Nat.le_of_ble_eq_true rfl, Nat.le_of_ble_eq_true rfl⟩) ⟨mm_B.blind, mm_recv (q := (RX1, TX1, 8)) C hH (mm_lt (mm_ldc g1) (by decide)) (mm_e1 (mm_ldc g1)) rfl, mm_pre C hH⟩ rfl rfl hl.1 rfl (lv_room (Nat.le_of_ble_eq_true rfl)) dX3_addLanding_36 ⟨Nat.zero_le _, Nat.zero_le _⟩) (fun H locs hH => ?_)
        refine lv_aload_n hx hb dX3_addLanding_39 rfl (lv_at hl 0 rfl) ?_
        refine lv_dup hx hb dX3_addLanding_40 rfl ?_
        refine mm_get (v := .int (x1 1 2)) C hH hin3 rfl kl_1 (mm_e3 kd_1) (j := 2) (by decide) rfl w1 rfl dX3_addLanding_41 ?_
        refine lv_iconst (v := 1) hx hb dX3_addLanding_44 (by decide) ?_
        refine lv_iadd hx hb dX3_addLanding_45 ?_
        obtain ⟨x2, e2, h⟩ := mm_bnd h
        refine mm_put (ty := .int) C hH hin3 tyX3_ok nmX3 rfl kl_1 (mm_e3 kd_1) (j := 2) (by decide) rfl w1 pd_I rfl rfl (Nat.le_of_ble_eq_true rfl) (sp_3_2 kd_1) (Option.some.inj e2) dX3_addLanding_46 (fun H locs hH => ?_)
        refine lv_aload_n hx hb dX3_addLanding_49 rfl (lv_at hl 0 rfl) ?_
        obtain ⟨x3, e3, h⟩ := mm_bnd h
        refine mm_gov hH (va_runV (As := []) (rest := []) ⟨hx, hb, C.2.2.1, C.2.2.2.1, C.2.2.2.2.1⟩ (ct_X3_followTaken l G T b z x2 e3) (cwV 0 C.2.2.2.2.1 gX3_addLanding_X3_followTaken rfl rfl rfl df_X3_followTaken ⟨Nat.le_of_ble_eq_true rfl, Nat.le_of_ble_eq_true rfl⟩) ⟨mm_B.blind, mm_recv (q := (RX3, TX3, 7)) C hH kl_1 (mm_e3 kd_1) rfl, mm_pre C hH⟩ rfl rfl hl.1 rfl (lv_room (Nat.le_of_ble_eq_true rfl)) dX3_addLanding_50 ⟨Nat.zero_le _, Nat.zero_le _⟩) (fun H locs hH => ?_)
        refine lv_aload_n hx hb dX3_addLanding_53 rfl (lv_at hl 0 rfl) ?_
        refine mm_get (v := .int (x3 1 2)) C hH hin3 rfl kl_1 (mm_e3 kd_1) (j := 2) (by decide) rfl w1 rfl dX3_addLanding_54 ?_
        refine lv_iconst (v := 1) hx hb dX3_addLanding_57 (by decide) ?_
        refine lv_isub hx hb dX3_addLanding_58 ?_
        exact mm_iret C hH hr hlk rfl h dX3_addLanding_59
      · have h := mm_neg c3 h
        have hl := lv_sub (l' := []) hl [] rfl
        refine lv_bipush (v := (-4)) hx hb dX3_addLanding_23 (by decide) ?_
        exact mm_iret C hH hr hlk rfl h dX3_addLanding_25
    · have h := mm_neg c2 h
      have hl := lv_sub (l' := []) hl [] rfl
      refine lv_bipush (v := (-2)) hx hb dX3_addLanding_11 (by decide) ?_
      exact mm_iret C hH hr hlk rfl h dX3_addLanding_13
def fn_X3_fineBySort (k1 : Nat) (a2 : Int32) (x : mm_M) : Option (mm_M × Int32) :=
  if mm_kd k1 = 1 then if a2 < 0 ∨ 7 ≤ Int32.toNatClampNeg a2 then none else mm_b2 (fn_X1_addFine k1 (x 2 (Int32.toNatClampNeg a2)) (x 2 4) x) fun x1 v1 => if vp_nar .boolean v1 = v1 then some (x1, v1) else none else none
abbrev rm_X3_fineBySort : Room := { frames := 2, cells := 0, slots := 0, locals := 43 }
theorem df_X3_fineBySort : yX3_fineBySort.cls = RX3 ∧ yX3_fineBySort.cls ≠ "java/lang/invoke/MethodHandle" ∧ yX3_fineBySort.cls ≠ "java/lang/invoke/VarHandle" ∧ (parseMethodDescriptor yX3_fineBySort.desc).map (fun d => d.parameters.length) = some 2 := by decide +kernel
set_option maxRecDepth 100000 in
set_option maxHeartbeats 4000000 in
theorem ct_X3_fineBySort (l : Launch) (G : va_G) (T : Nat → ClassId) (b : Nat) (z : Nat → Nat) (k1 : Nat) (a2 : Int32) (x : mm_M) {x1 : mm_M} {r : Int32} (h : fn_X3_fineBySort k1 a2 x = some (x1, r)) : mm_Ci l yX3_fineBySort wsX3_fineBySort rm_X3_fineBySort G T b z [.ref (b + 1), .ref (b + k1), .int a2] x r x1 := by
  unfold fn_X3_fineBySort at h
  refine mm_start (cc := cX3_fineBySort) (maxL := 3) (ret := (some .boolean)) (by decide) rfl (Nat.le_of_ble_eq_true rfl) (fun p e s m below meth c ls C hr hlk hH hl => ?_)
  have hl : lv_has ls 3 [(0, .ref (b + 1)), (1, .ref (b + k1)), (2, .int a2)] := hl
  have hx := C.1
  have hb := C.2.1
  have w1 := C.2.2.2.2.1 (.fieldLink RX3 18 "LandingFines$River" "settings" "[I") (by decide +kernel)
  have hin3 : ∀ w ∈ wsX30, w ∈ wsX3_fineBySort := by decide +kernel
  obtain ⟨hk1, h⟩ := mm_grd h
  have hk1l := mm_lt hk1 (by decide)
  refine lv_aload_n hx hb dX3_fineBySort_0 rfl (lv_at hl 1 rfl) ?_
  refine lv_aload_n hx hb dX3_fineBySort_1 rfl (lv_at hl 0 rfl) ?_
  refine mm_get (v := .ref (b + 2)) C hH hin3 rfl kl_1 (mm_e3 kd_1) (j := 0) (by decide) rfl w1 rfl dX3_fineBySort_2 ?_
  refine lv_iload_n hx hb dX3_fineBySort_5 rfl (lv_at hl 2 rfl) ?_
  obtain ⟨g1, h⟩ := mm_grn h
  refine mm_iald (n := 7) (jn := (Int32.toNatClampNeg a2)) C hH kd_2 ln_2 g1 rfl dX3_fineBySort_6 ?_
  refine lv_aload_n hx hb dX3_fineBySort_7 rfl (lv_at hl 0 rfl) ?_
  refine mm_get (v := .ref (b + 2)) C hH hin3 rfl kl_1 (mm_e3 kd_1) (j := 0) (by decide) rfl w1 rfl dX3_fineBySort_8 ?_
  refine lv_iconst (v := 4) hx hb dX3_fineBySort_11 (by decide) ?_
  refine mm_iald (n := 7) (jn := 4) C hH kd_2 ln_2 (by decide) (by decide) dX3_fineBySort_12 ?_
  obtain ⟨x1, v1, e1, h⟩ := mm_bnd2 h
  refine mm_goi hH (va_runV (As := [.int (x 2 (Int32.toNatClampNeg a2)), .int (x 2 4)]) (rest := []) ⟨hx, hb, C.2.2.1, C.2.2.2.1, C.2.2.2.2.1⟩ (ct_X1_addFine l G T b z k1 (x 2 (Int32.toNatClampNeg a2)) (x 2 4) x e1) (cwV 2 C.2.2.2.2.1 gX3_fineBySort_X1_addFine rfl rfl rfl df_X1_addFine ⟨Nat.le_of_ble_eq_true rfl, Nat.le_of_ble_eq_true rfl⟩) ⟨mm_B.blind, mm_recv (q := (RX1, TX1, 8)) C hH hk1l (mm_e1 hk1) rfl, mm_pre C hH⟩ rfl rfl hl.1 rfl (lv_room (Nat.le_of_ble_eq_true rfl)) dX3_fineBySort_13 ⟨Nat.zero_le _, Nat.zero_le _⟩) (fun H locs hH => ?_)
  obtain ⟨g2, h⟩ := mm_grd h
  exact mm_iret C hH hr hlk (mm_narZ g2) h dX3_fineBySort_16
def fn_X3_finishChange (k1 : Nat) (a2 : Int32) (a3 : Int32) (x : mm_M) : Option (mm_M × Int32) :=
  if mm_kd k1 = 1 then (fn_X0_add a3 a2 (x 1 3) x).bind fun x1 => mm_b2 (fn_X3_fineBySort k1 a3 x1) fun x2 v1 => if v1 = 0 then (fn_X3_followTaken x2).bind fun x3 => some (x3, (x3 k1 2)) else (fn_X0_add 3 a2 (x2 1 3) x2).bind fun x4 => (fn_X3_followTaken x4).bind fun x5 => some (x5, (x5 k1 2)) else none
abbrev rm_X3_finishChange : Room := { frames := 3, cells := 0, slots := 0, locals := 65 }
theorem df_X3_finishChange : yX3_finishChange.cls = RX3 ∧ yX3_finishChange.cls ≠ "java/lang/invoke/MethodHandle" ∧ yX3_finishChange.cls ≠ "java/lang/invoke/VarHandle" ∧ (parseMethodDescriptor yX3_finishChange.desc).map (fun d => d.parameters.length) = some 3 := by decide +kernel
set_option maxRecDepth 100000 in
set_option maxHeartbeats 4000000 in
theorem ct_X3_finishChange (l : Launch) (G : va_G) (T : Nat → ClassId) (b : Nat) (z : Nat → Nat) (k1 : Nat) (a2 : Int32) (a3 : Int32) (x : mm_M) {x1 : mm_M} {r : Int32} (h : fn_X3_finishChange k1 a2 a3 x = some (x1, r)) : mm_Ci l yX3_finishChange wsX3_finishChange rm_X3_finishChange G T b z [.ref (b + 1), .ref (b + k1), .int a2, .int a3] x r x1 := by
  unfold fn_X3_finishChange at h
  refine mm_start (cc := cX3_finishChange) (maxL := 4) (ret := (some .int)) (by decide) rfl (Nat.le_of_ble_eq_true rfl) (fun p e s m below meth c ls C hr hlk hH hl => ?_)
  have hl : lv_has ls 4 [(0, .ref (b + 1)), (1, .ref (b + k1)), (2, .int a2), (3, .int a3)] := hl
  have hx := C.1
  have hb := C.2.1
  have w1 := C.2.2.2.2.1 (.fieldLink RX3 45 "LandingFines$River" "journal" "LLandingFines$Journal;") (by decide +kernel)
  have w2 := C.2.2.2.2.1 (.fieldLink RX3 33 "LandingFines$River" "minutesSoFar" "I") (by decide +kernel)
  have w3 := C.2.2.2.2.1 (.fieldLink RX3 99 "LandingFines$Landing" "fine" "I") (by decide +kernel)
  have hin1 : ∀ w ∈ wsX10, w ∈ wsX3_finishChange := by decide +kernel
  have hin3 : ∀ w ∈ wsX30, w ∈ wsX3_finishChange := by decide +kernel
  obtain ⟨hk1, h⟩ := mm_grd h
  have hk1l := mm_lt hk1 (by decide)
  refine lv_aload_n hx hb dX3_finishChange_0 rfl (lv_at hl 0 rfl) ?_
  refine mm_get (v := .ref (b + 4)) C hH hin3 rfl kl_1 (mm_e3 kd_1) (j := 6) (by decide) rfl w1 rfl dX3_finishChange_1 ?_
  refine lv_iload_n hx hb dX3_finishChange_4 rfl (lv_at hl 3 rfl) ?_
  refine lv_iload_n hx hb dX3_finishChange_5 rfl (lv_at hl 2 rfl) ?_
  refine lv_aload_n hx hb dX3_finishChange_6 rfl (lv_at hl 0 rfl) ?_
  refine mm_get (v := .int (x 1 3)) C hH hin3 rfl kl_1 (mm_e3 kd_1) (j := 3) (by decide) rfl w2 rfl dX3_finishChange_7 ?_
  obtain ⟨x1, e1, h⟩ := mm_bnd h
  refine mm_gov hH (va_runV (As := [.int a3, .int a2, .int (x 1 3)]) (rest := []) ⟨hx, hb, C.2.2.1, C.2.2.2.1, C.2.2.2.2.1⟩ (ct_X0_add l G T b z a3 a2 (x 1 3) x e1) (cwV 3 C.2.2.2.2.1 gX3_finishChange_X0_add rfl rfl rfl df_X0_add ⟨Nat.le_of_ble_eq_true rfl, Nat.le_of_ble_eq_true rfl⟩) ⟨mm_B.blind, mm_recv (q := (RX0, TX0, 5)) C hH kl_4 (mm_e0 kd_4) rfl, mm_pre C hH⟩ rfl rfl hl.1 rfl (lv_room (Nat.le_of_ble_eq_true rfl)) dX3_finishChange_10 ⟨Nat.zero_le _, Nat.zero_le _⟩) (fun H locs hH => ?_)
  refine lv_aload_n hx hb dX3_finishChange_13 rfl (lv_at hl 0 rfl) ?_
  refine lv_aload_n hx hb dX3_finishChange_14 rfl (lv_at hl 1 rfl) ?_
  refine lv_iload_n hx hb dX3_finishChange_15 rfl (lv_at hl 3 rfl) ?_
  obtain ⟨x2, v1, e2, h⟩ := mm_bnd2 h
  refine mm_goi hH (va_runV (As := [.ref (b + k1), .int a3]) (rest := []) ⟨hx, hb, C.2.2.1, C.2.2.2.1, C.2.2.2.2.1⟩ (ct_X3_fineBySort l G T b z k1 a3 x1 e2) (cwV 2 C.2.2.2.2.1 gX3_finishChange_X3_fineBySort rfl rfl rfl df_X3_fineBySort ⟨Nat.le_of_ble_eq_true rfl, Nat.le_of_ble_eq_true rfl⟩) ⟨mm_B.blind, mm_recv (q := (RX3, TX3, 7)) C hH kl_1 (mm_e3 kd_1) rfl, mm_pre C hH⟩ rfl rfl hl.1 rfl (lv_room (Nat.le_of_ble_eq_true rfl)) dX3_finishChange_16 ⟨Nat.zero_le _, Nat.zero_le _⟩) (fun H locs hH => ?_)
  refine lv_if_eq (tgt := 35) hx hb dX3_finishChange_19 (by decide) (fun c1 => ?_) (fun c1 => ?_)
  · have h := mm_pos c1 h
    have hl := lv_sub (l' := [(0, .ref (b + 1)), (1, .ref (b + k1))]) hl [0, 1] rfl
    refine lv_aload_n hx hb dX3_finishChange_35 rfl (lv_at hl 0 rfl) ?_
    obtain ⟨x3, e3, h⟩ := mm_bnd h
    refine mm_gov hH (va_runV (As := []) (rest := []) ⟨hx, hb, C.2.2.1, C.2.2.2.1, C.2.2.2.2.1⟩ (ct_X3_followTaken l G T b z x2 e3) (cwV 0 C.2.2.2.2.1 gX3_finishChange_X3_followTaken rfl rfl rfl df_X3_followTaken ⟨Nat.le_of_ble_eq_true rfl, Nat.le_of_ble_eq_true rfl⟩) ⟨mm_B.blind, mm_recv (q := (RX3, TX3, 7)) C hH kl_1 (mm_e3 kd_1) rfl, mm_pre C hH⟩ rfl rfl hl.1 rfl (lv_room (Nat.le_of_ble_eq_true rfl)) dX3_finishChange_36 ⟨Nat.zero_le _, Nat.zero_le _⟩) (fun H locs hH => ?_)
    refine lv_aload_n hx hb dX3_finishChange_39 rfl (lv_at hl 1 rfl) ?_
    refine mm_get (v := .int (x3 k1 2)) C hH hin1 rfl hk1l (mm_e1 hk1) (j := 2) (by decide) rfl w3 rfl dX3_finishChange_40 ?_
    exact mm_iret C hH hr hlk rfl h dX3_finishChange_43
  · have h := mm_neg c1 h
    have hl := lv_sub (l' := [(0, .ref (b + 1)), (1, .ref (b + k1)), (2, .int a2)]) hl [0, 1, 2] rfl
    refine lv_aload_n hx hb dX3_finishChange_22 rfl (lv_at hl 0 rfl) ?_
    refine mm_get (v := .ref (b + 4)) C hH hin3 rfl kl_1 (mm_e3 kd_1) (j := 6) (by decide) rfl w1 rfl dX3_finishChange_23 ?_
    refine lv_iconst (v := 3) hx hb dX3_finishChange_26 (by decide) ?_
    refine lv_iload_n hx hb dX3_finishChange_27 rfl (lv_at hl 2 rfl) ?_
    refine lv_aload_n hx hb dX3_finishChange_28 rfl (lv_at hl 0 rfl) ?_
    refine mm_get (v := .int (x2 1 3)) C hH hin3 rfl kl_1 (mm_e3 kd_1) (j := 3) (by decide) rfl w2 rfl dX3_finishChange_29 ?_
    obtain ⟨x4, e4, h⟩ := mm_bnd h
    refine mm_gov hH (va_runV (As := [.int 3, .int a2, .int (x2 1 3)]) (rest := []) ⟨hx, hb, C.2.2.1, C.2.2.2.1, C.2.2.2.2.1⟩ (ct_X0_add l G T b z 3 a2 (x2 1 3) x2 e4) (cwV 3 C.2.2.2.2.1 gX3_finishChange_X0_add rfl rfl rfl df_X0_add ⟨Nat.le_of_ble_eq_true rfl, Nat.le_of_ble_eq_true rfl⟩) ⟨mm_B.blind, mm_recv (q := (RX0, TX0, 5)) C hH kl_4 (mm_e0 kd_4) rfl, mm_pre C hH⟩ rfl rfl hl.1 rfl (lv_room (Nat.le_of_ble_eq_true rfl)) dX3_finishChange_32 ⟨Nat.zero_le _, Nat.zero_le _⟩) (fun H locs hH => ?_)
    refine lv_aload_n hx hb dX3_finishChange_35 rfl (lv_at hl 0 rfl) ?_
    obtain ⟨x5, e5, h⟩ := mm_bnd h
    refine mm_gov hH (va_runV (As := []) (rest := []) ⟨hx, hb, C.2.2.1, C.2.2.2.1, C.2.2.2.2.1⟩ (ct_X3_followTaken l G T b z x4 e5) (cwV 0 C.2.2.2.2.1 gX3_finishChange_X3_followTaken rfl rfl rfl df_X3_followTaken ⟨Nat.le_of_ble_eq_true rfl, Nat.le_of_ble_eq_true rfl⟩) ⟨mm_B.blind, mm_recv (q := (RX3, TX3, 7)) C hH kl_1 (mm_e3 kd_1) rfl, mm_pre C hH⟩ rfl rfl hl.1 rfl (lv_room (Nat.le_of_ble_eq_true rfl)) dX3_finishChange_36 ⟨Nat.zero_le _, Nat.zero_le _⟩) (fun H locs hH => ?_)
    refine lv_aload_n hx hb dX3_finishChange_39 rfl (lv_at hl 1 rfl) ?_
    refine mm_get (v := .int (x5 k1 2)) C hH hin1 rfl hk1l (mm_e1 hk1) (j := 2) (by decide) rfl w3 rfl dX3_finishChange_40 ?_
    exact mm_iret C hH hr hlk rfl h dX3_finishChange_43
def fn_X3_openLanding (a1 : Int32) (x : mm_M) : Option (mm_M × Int32) :=
  (fn_X3_find a1 x).bind fun o1 => mm_oc o1 (some (x, (-1))) fun k1 => if mm_kd k1 = 1 then if (x k1 0) = 0 then (some (mm_up x k1 0 1)).bind fun x1 => mm_b2 (fn_X3_finishChange k1 a1 1 x1) fun x2 v1 => some (x2, v1) else some (x, (-5)) else none
abbrev rm_X3_openLanding : Room := { frames := 4, cells := 0, slots := 0, locals := 88 }
theorem df_X3_openLanding : yX3_openLanding.cls = RX3 ∧ yX3_openLanding.cls ≠ "java/lang/invoke/MethodHandle" ∧ yX3_openLanding.cls ≠ "java/lang/invoke/VarHandle" ∧ (parseMethodDescriptor yX3_openLanding.desc).map (fun d => d.parameters.length) = some 1 := by decide +kernel
set_option maxRecDepth 100000 in
set_option maxHeartbeats 4000000 in
theorem ct_X3_openLanding (l : Launch) (G : va_G) (T : Nat → ClassId) (b : Nat) (z : Nat → Nat) (a1 : Int32) (x : mm_M) {x1 : mm_M} {r : Int32} (h : fn_X3_openLanding a1 x = some (x1, r)) : mm_Ci l yX3_openLanding wsX3_openLanding rm_X3_openLanding G T b z [.ref (b + 1), .int a1] x r x1 := by
  unfold fn_X3_openLanding at h
  refine mm_start (cc := cX3_openLanding) (maxL := 3) (ret := (some .int)) (by decide) rfl (Nat.le_of_ble_eq_true rfl) (fun p e s m below meth c ls C hr hlk hH hl => ?_)
  have hl : lv_has ls 3 [(0, .ref (b + 1)), (1, .int a1)] := hl
  have hx := C.1
  have hb := C.2.1
  have w1 := C.2.2.2.2.1 (.fieldLink RX3 80 "LandingFines$Landing" "isOpen" "Z") (by decide +kernel)
  have hin1 : ∀ w ∈ wsX10, w ∈ wsX3_openLanding := by decide +kernel
  refine lv_aload_n hx hb dX3_openLanding_0 rfl (lv_at hl 0 rfl) ?_
  refine lv_iload_n hx hb dX3_openLanding_1 rfl (lv_at hl 1 rfl) ?_
  obtain ⟨o1, e1, h⟩ := mm_bnd h
  refine mm_goe hH (va_runV (As := [.int a1]) (rest := []) ⟨hx, hb, C.2.2.1, C.2.2.2.1, C.2.2.2.2.1⟩ (ct_X3_find l G T b z a1 x e1) (cwV 1 C.2.2.2.2.1 gX3_openLanding_X3_find rfl rfl rfl df_X3_find ⟨Nat.le_of_ble_eq_true rfl, Nat.le_of_ble_eq_true rfl⟩) ⟨mm_B.blind, mm_recv (q := (RX3, TX3, 7)) C hH kl_1 (mm_e3 kd_1) rfl, mm_pre C hH⟩ rfl rfl hl.1 rfl (lv_room (Nat.le_of_ble_eq_true rfl)) dX3_openLanding_2 ⟨Nat.zero_le _, Nat.zero_le _⟩) (fun H locs hH => ?_)
  rcases o1 with _ | k1
  · have h := mm_oc0 h
    refine mm_nul ?_
    refine lv_astore_nN (lv' := [(2, .null), (0, .ref (b + 1)), (1, .int a1)]) hx hb dX3_openLanding_5 rfl hl (by decide) rfl (fun ls hl => ?_)
    refine lv_aload_nN hx hb dX3_openLanding_6 rfl (lv_at hl 0 rfl) ?_
    refine lv_ifnonnullN hx hb dX3_openLanding_7 ?_
    have hl := lv_sub (l' := []) hl [] rfl
    refine lv_iconst (v := (-1)) hx hb dX3_openLanding_10 (by decide) ?_
    exact mm_iret C hH hr hlk rfl h dX3_openLanding_11
  · have h := mm_oc1 h
    obtain ⟨g1, h⟩ := mm_grd h
    refine mm_nun ?_
    refine lv_astore_n (lv' := [(2, .ref (b + k1)), (0, .ref (b + 1)), (1, .int a1)]) hx hb dX3_openLanding_5 rfl hl (by decide) rfl (fun ls hl => ?_)
    refine lv_aload_n hx hb dX3_openLanding_6 rfl (lv_at hl 0 rfl) ?_
    refine lv_ifnonnull (tgt := 12) hx hb dX3_openLanding_7 (by decide) ?_
    refine lv_aload_n hx hb dX3_openLanding_12 rfl (lv_at hl 0 rfl) ?_
    refine mm_get (v := .int (x k1 0)) C hH hin1 rfl (mm_lt g1 (by decide)) (mm_e1 g1) (j := 0) (by decide) rfl w1 rfl dX3_openLanding_13 ?_
    refine lv_if_eq (tgt := 22) hx hb dX3_openLanding_16 (by decide) (fun c1 => ?_) (fun c1 => ?_)
    · have h := mm_pos c1 h
      refine lv_aload_n hx hb dX3_openLanding_22 rfl (lv_at hl 0 rfl) ?_
      refine lv_iconst (v := 1) hx hb dX3_openLanding_23 (by decide) ?_
      obtain ⟨x1, e2, h⟩ := mm_bnd h
      refine mm_put (ty := .boolean) C hH hin1 tyX1_ok nmX1 rfl (mm_lt g1 (by decide)) (mm_e1 g1) (j := 0) (by decide) rfl w1 pd_Z rfl rfl (Nat.le_of_ble_eq_true rfl) (sp_1_0 g1) (Option.some.inj e2) dX3_openLanding_24 (fun H locs hH => ?_)
      refine lv_aload_n hx hb dX3_openLanding_27 rfl (lv_at hl 1 rfl) ?_
      refine lv_aload_n hx hb dX3_openLanding_28 rfl (lv_at hl 0 rfl) ?_
      refine lv_iload_n hx hb dX3_openLanding_29 rfl (lv_at hl 2 rfl) ?_
      refine lv_iconst (v := 1) hx hb dX3_openLanding_30 (by decide) ?_
      obtain ⟨x2, v1, e3, h⟩ := mm_bnd2 h
      refine mm_goi hH (va_runV (As := [.ref (b + k1), .int a1, .int 1]) (rest := []) ⟨hx, hb, C.2.2.1, C.2.2.2.1, C.2.2.2.2.1⟩ (ct_X3_finishChange l G T b z k1 a1 1 x1 e3) (cwV 3 C.2.2.2.2.1 gX3_openLanding_X3_finishChange rfl rfl rfl df_X3_finishChange ⟨Nat.le_of_ble_eq_true rfl, Nat.le_of_ble_eq_true rfl⟩) ⟨mm_B.blind, mm_recv (q := (RX3, TX3, 7)) C hH kl_1 (mm_e3 kd_1) rfl, mm_pre C hH⟩ rfl rfl hl.1 rfl (lv_room (Nat.le_of_ble_eq_true rfl)) dX3_openLanding_31 ⟨Nat.zero_le _, Nat.zero_le _⟩) (fun H locs hH => ?_)
      exact mm_iret C hH hr hlk rfl h dX3_openLanding_34
    · have h := mm_neg c1 h
      have hl := lv_sub (l' := []) hl [] rfl
      refine lv_bipush (v := (-5)) hx hb dX3_openLanding_19 (by decide) ?_
      exact mm_iret C hH hr hlk rfl h dX3_openLanding_21
def fn_X3_closeLanding (a1 : Int32) (x : mm_M) : Option (mm_M × Int32) :=
  (fn_X3_find a1 x).bind fun o1 => mm_oc o1 (some (x, (-1))) fun k1 => if mm_kd k1 = 1 then if (x k1 0) = 0 then some (x, (-5)) else (some (mm_up x k1 0 0)).bind fun x1 => mm_b2 (fn_X3_finishChange k1 a1 0 x1) fun x2 v1 => some (x2, v1) else none
abbrev rm_X3_closeLanding : Room := { frames := 4, cells := 0, slots := 0, locals := 88 }
theorem df_X3_closeLanding : yX3_closeLanding.cls = RX3 ∧ yX3_closeLanding.cls ≠ "java/lang/invoke/MethodHandle" ∧ yX3_closeLanding.cls ≠ "java/lang/invoke/VarHandle" ∧ (parseMethodDescriptor yX3_closeLanding.desc).map (fun d => d.parameters.length) = some 1 := by decide +kernel
set_option maxRecDepth 100000 in
set_option maxHeartbeats 4000000 in
theorem ct_X3_closeLanding (l : Launch) (G : va_G) (T : Nat → ClassId) (b : Nat) (z : Nat → Nat) (a1 : Int32) (x : mm_M) {x1 : mm_M} {r : Int32} (h : fn_X3_closeLanding a1 x = some (x1, r)) : mm_Ci l yX3_closeLanding wsX3_closeLanding rm_X3_closeLanding G T b z [.ref (b + 1), .int a1] x r x1 := by
  unfold fn_X3_closeLanding at h
  refine mm_start (cc := cX3_closeLanding) (maxL := 3) (ret := (some .int)) (by decide) rfl (Nat.le_of_ble_eq_true rfl) (fun p e s m below meth c ls C hr hlk hH hl => ?_)
  have hl : lv_has ls 3 [(0, .ref (b + 1)), (1, .int a1)] := hl
  have hx := C.1
  have hb := C.2.1
  have w1 := C.2.2.2.2.1 (.fieldLink RX3 80 "LandingFines$Landing" "isOpen" "Z") (by decide +kernel)
  have hin1 : ∀ w ∈ wsX10, w ∈ wsX3_closeLanding := by decide +kernel
  refine lv_aload_n hx hb dX3_closeLanding_0 rfl (lv_at hl 0 rfl) ?_
  refine lv_iload_n hx hb dX3_closeLanding_1 rfl (lv_at hl 1 rfl) ?_
  obtain ⟨o1, e1, h⟩ := mm_bnd h
  refine mm_goe hH (va_runV (As := [.int a1]) (rest := []) ⟨hx, hb, C.2.2.1, C.2.2.2.1, C.2.2.2.2.1⟩ (ct_X3_find l G T b z a1 x e1) (cwV 1 C.2.2.2.2.1 gX3_closeLanding_X3_find rfl rfl rfl df_X3_find ⟨Nat.le_of_ble_eq_true rfl, Nat.le_of_ble_eq_true rfl⟩) ⟨mm_B.blind, mm_recv (q := (RX3, TX3, 7)) C hH kl_1 (mm_e3 kd_1) rfl, mm_pre C hH⟩ rfl rfl hl.1 rfl (lv_room (Nat.le_of_ble_eq_true rfl)) dX3_closeLanding_2 ⟨Nat.zero_le _, Nat.zero_le _⟩) (fun H locs hH => ?_)
  rcases o1 with _ | k1
  · have h := mm_oc0 h
    refine mm_nul ?_
    refine lv_astore_nN (lv' := [(2, .null), (0, .ref (b + 1)), (1, .int a1)]) hx hb dX3_closeLanding_5 rfl hl (by decide) rfl (fun ls hl => ?_)
    refine lv_aload_nN hx hb dX3_closeLanding_6 rfl (lv_at hl 0 rfl) ?_
    refine lv_ifnonnullN hx hb dX3_closeLanding_7 ?_
    have hl := lv_sub (l' := []) hl [] rfl
    refine lv_iconst (v := (-1)) hx hb dX3_closeLanding_10 (by decide) ?_
    exact mm_iret C hH hr hlk rfl h dX3_closeLanding_11
  · have h := mm_oc1 h
    obtain ⟨g1, h⟩ := mm_grd h
    refine mm_nun ?_
    refine lv_astore_n (lv' := [(2, .ref (b + k1)), (0, .ref (b + 1)), (1, .int a1)]) hx hb dX3_closeLanding_5 rfl hl (by decide) rfl (fun ls hl => ?_)
    refine lv_aload_n hx hb dX3_closeLanding_6 rfl (lv_at hl 0 rfl) ?_
    refine lv_ifnonnull (tgt := 12) hx hb dX3_closeLanding_7 (by decide) ?_
    refine lv_aload_n hx hb dX3_closeLanding_12 rfl (lv_at hl 0 rfl) ?_
    refine mm_get (v := .int (x k1 0)) C hH hin1 rfl (mm_lt g1 (by decide)) (mm_e1 g1) (j := 0) (by decide) rfl w1 rfl dX3_closeLanding_13 ?_
    refine lv_if_ne (tgt := 22) hx hb dX3_closeLanding_16 (by decide) (fun c1 => ?_) (fun c1 => ?_)
    · have h := mm_neg c1 h
      refine lv_aload_n hx hb dX3_closeLanding_22 rfl (lv_at hl 0 rfl) ?_
      refine lv_iconst (v := 0) hx hb dX3_closeLanding_23 (by decide) ?_
      obtain ⟨x1, e2, h⟩ := mm_bnd h
      refine mm_put (ty := .boolean) C hH hin1 tyX1_ok nmX1 rfl (mm_lt g1 (by decide)) (mm_e1 g1) (j := 0) (by decide) rfl w1 pd_Z rfl rfl (Nat.le_of_ble_eq_true rfl) (sp_1_0 g1) (Option.some.inj e2) dX3_closeLanding_24 (fun H locs hH => ?_)
      refine lv_aload_n hx hb dX3_closeLanding_27 rfl (lv_at hl 1 rfl) ?_
      refine lv_aload_n hx hb dX3_closeLanding_28 rfl (lv_at hl 0 rfl) ?_
      refine lv_iload_n hx hb dX3_closeLanding_29 rfl (lv_at hl 2 rfl) ?_
      refine lv_iconst (v := 0) hx hb dX3_closeLanding_30 (by decide) ?_
      obtain ⟨x2, v1, e3, h⟩ := mm_bnd2 h
      refine mm_goi hH (va_runV (As := [.ref (b + k1), .int a1, .int 0]) (rest := []) ⟨hx, hb, C.2.2.1, C.2.2.2.1, C.2.2.2.2.1⟩ (ct_X3_finishChange l G T b z k1 a1 0 x1 e3) (cwV 3 C.2.2.2.2.1 gX3_closeLanding_X3_finishChange rfl rfl rfl df_X3_finishChange ⟨Nat.le_of_ble_eq_true rfl, Nat.le_of_ble_eq_true rfl⟩) ⟨mm_B.blind, mm_recv (q := (RX3, TX3, 7)) C hH kl_1 (mm_e3 kd_1) rfl, mm_pre C hH⟩ rfl rfl hl.1 rfl (lv_room (Nat.le_of_ble_eq_true rfl)) dX3_closeLanding_31 ⟨Nat.zero_le _, Nat.zero_le _⟩) (fun H locs hH => ?_)
      exact mm_iret C hH hr hlk rfl h dX3_closeLanding_34
    · have h := mm_pos c1 h
      have hl := lv_sub (l' := []) hl [] rfl
      refine lv_bipush (v := (-5)) hx hb dX3_closeLanding_19 (by decide) ?_
      exact mm_iret C hH hr hlk rfl h dX3_closeLanding_21
def fn_X3_changePrice (a1 : Int32) (a2 : Int32) (x : mm_M) : Option (mm_M × Int32) :=
  (fn_X3_find a1 x).bind fun o1 => mm_oc o1 (some (x, (-1))) fun k1 => if mm_kd k1 = 1 then if a2 < 0 then some (x, (-2)) else if a2 ≤ 999 then if (x k1 1) = a2 then some (x, (-5)) else (some (mm_up x k1 1 a2)).bind fun x1 => mm_b2 (fn_X3_finishChange k1 a1 2 x1) fun x2 v1 => some (x2, v1) else some (x, (-2)) else none
abbrev rm_X3_changePrice : Room := { frames := 4, cells := 0, slots := 0, locals := 88 }
theorem df_X3_changePrice : yX3_changePrice.cls = RX3 ∧ yX3_changePrice.cls ≠ "java/lang/invoke/MethodHandle" ∧ yX3_changePrice.cls ≠ "java/lang/invoke/VarHandle" ∧ (parseMethodDescriptor yX3_changePrice.desc).map (fun d => d.parameters.length) = some 2 := by decide +kernel
set_option maxRecDepth 100000 in
set_option maxHeartbeats 4000000 in
theorem ct_X3_changePrice (l : Launch) (G : va_G) (T : Nat → ClassId) (b : Nat) (z : Nat → Nat) (a1 : Int32) (a2 : Int32) (x : mm_M) {x1 : mm_M} {r : Int32} (h : fn_X3_changePrice a1 a2 x = some (x1, r)) : mm_Ci l yX3_changePrice wsX3_changePrice rm_X3_changePrice G T b z [.ref (b + 1), .int a1, .int a2] x r x1 := by
  unfold fn_X3_changePrice at h
  refine mm_start (cc := cX3_changePrice) (maxL := 4) (ret := (some .int)) (by decide) rfl (Nat.le_of_ble_eq_true rfl) (fun p e s m below meth c ls C hr hlk hH hl => ?_)
  have hl : lv_has ls 4 [(0, .ref (b + 1)), (1, .int a1), (2, .int a2)] := hl
  have hx := C.1
  have hb := C.2.1
  have w1 := C.2.2.2.2.1 (.fieldLink RX3 88 "LandingFines$Landing" "fare" "I") (by decide +kernel)
  have hin1 : ∀ w ∈ wsX10, w ∈ wsX3_changePrice := by decide +kernel
  refine lv_aload_n hx hb dX3_changePrice_0 rfl (lv_at hl 0 rfl) ?_
  refine lv_iload_n hx hb dX3_changePrice_1 rfl (lv_at hl 1 rfl) ?_
  obtain ⟨o1, e1, h⟩ := mm_bnd h
  refine mm_goe hH (va_runV (As := [.int a1]) (rest := []) ⟨hx, hb, C.2.2.1, C.2.2.2.1, C.2.2.2.2.1⟩ (ct_X3_find l G T b z a1 x e1) (cwV 1 C.2.2.2.2.1 gX3_changePrice_X3_find rfl rfl rfl df_X3_find ⟨Nat.le_of_ble_eq_true rfl, Nat.le_of_ble_eq_true rfl⟩) ⟨mm_B.blind, mm_recv (q := (RX3, TX3, 7)) C hH kl_1 (mm_e3 kd_1) rfl, mm_pre C hH⟩ rfl rfl hl.1 rfl (lv_room (Nat.le_of_ble_eq_true rfl)) dX3_changePrice_2 ⟨Nat.zero_le _, Nat.zero_le _⟩) (fun H locs hH => ?_)
  rcases o1 with _ | k1
  · have h := mm_oc0 h
    refine mm_nul ?_
    refine lv_astore_nN (lv' := [(3, .null), (0, .ref (b + 1)), (1, .int a1), (2, .int a2)]) hx hb dX3_changePrice_5 rfl hl (by decide) rfl (fun ls hl => ?_)
    refine lv_aload_nN hx hb dX3_changePrice_6 rfl (lv_at hl 0 rfl) ?_
    refine lv_ifnonnullN hx hb dX3_changePrice_7 ?_
    have hl := lv_sub (l' := []) hl [] rfl
    refine lv_iconst (v := (-1)) hx hb dX3_changePrice_10 (by decide) ?_
    exact mm_iret C hH hr hlk rfl h dX3_changePrice_11
  · have h := mm_oc1 h
    obtain ⟨g1, h⟩ := mm_grd h
    refine mm_nun ?_
    refine lv_astore_n (lv' := [(3, .ref (b + k1)), (0, .ref (b + 1)), (1, .int a1), (2, .int a2)]) hx hb dX3_changePrice_5 rfl hl (by decide) rfl (fun ls hl => ?_)
    refine lv_aload_n hx hb dX3_changePrice_6 rfl (lv_at hl 0 rfl) ?_
    refine lv_ifnonnull (tgt := 12) hx hb dX3_changePrice_7 (by decide) ?_
    refine lv_iload_n hx hb dX3_changePrice_12 rfl (lv_at hl 3 rfl) ?_
    refine lv_if_lt (tgt := 23) hx hb dX3_changePrice_13 (by decide) (fun c1 => ?_) (fun c1 => ?_)
    · have h := mm_pos c1 h
      have hl := lv_sub (l' := []) hl [] rfl
      refine lv_bipush (v := (-2)) hx hb dX3_changePrice_23 (by decide) ?_
      exact mm_iret C hH hr hlk rfl h dX3_changePrice_25
    · have h := mm_neg c1 h
      refine lv_iload_n hx hb dX3_changePrice_16 rfl (lv_at hl 3 rfl) ?_
      refine lv_sipush (v := 999) hx hb dX3_changePrice_17 (by decide) ?_
      refine lv_icmp_le (tgt := 26) hx hb dX3_changePrice_20 (by decide) (fun c2 => ?_) (fun c2 => ?_)
      · have h := mm_pos c2 h
        refine lv_aload_n hx hb dX3_changePrice_26 rfl (lv_at hl 0 rfl) ?_
        refine mm_get (v := .int (x k1 1)) C hH hin1 rfl (mm_lt g1 (by decide)) (mm_e1 g1) (j := 1) (by decide) rfl w1 rfl dX3_changePrice_27 ?_
        refine lv_iload_n hx hb dX3_changePrice_30 rfl (lv_at hl 3 rfl) ?_
        refine lv_icmp_ne (tgt := 37) hx hb dX3_changePrice_31 (by decide) (fun c3 => ?_) (fun c3 => ?_)
        · have h := mm_neg c3 h
          refine lv_aload_n hx hb dX3_changePrice_37 rfl (lv_at hl 0 rfl) ?_
          refine lv_iload_n hx hb dX3_changePrice_38 rfl (lv_at hl 3 rfl) ?_
          obtain ⟨x1, e2, h⟩ := mm_bnd h
          refine mm_put (ty := .int) C hH hin1 tyX1_ok nmX1 rfl (mm_lt g1 (by decide)) (mm_e1 g1) (j := 1) (by decide) rfl w1 pd_I rfl rfl (Nat.le_of_ble_eq_true rfl) (sp_1_1 g1) (Option.some.inj e2) dX3_changePrice_39 (fun H locs hH => ?_)
          refine lv_aload_n hx hb dX3_changePrice_42 rfl (lv_at hl 1 rfl) ?_
          refine lv_aload_n hx hb dX3_changePrice_43 rfl (lv_at hl 0 rfl) ?_
          refine lv_iload_n hx hb dX3_changePrice_44 rfl (lv_at hl 2 rfl) ?_
          refine lv_iconst (v := 2) hx hb dX3_changePrice_45 (by decide) ?_
          obtain ⟨x2, v1, e3, h⟩ := mm_bnd2 h
          refine mm_goi hH (va_runV (As := [.ref (b + k1), .int a1, .int 2]) (rest := []) ⟨hx, hb, C.2.2.1, C.2.2.2.1, C.2.2.2.2.1⟩ (ct_X3_finishChange l G T b z k1 a1 2 x1 e3) (cwV 3 C.2.2.2.2.1 gX3_changePrice_X3_finishChange rfl rfl rfl df_X3_finishChange ⟨Nat.le_of_ble_eq_true rfl, Nat.le_of_ble_eq_true rfl⟩) ⟨mm_B.blind, mm_recv (q := (RX3, TX3, 7)) C hH kl_1 (mm_e3 kd_1) rfl, mm_pre C hH⟩ rfl rfl hl.1 rfl (lv_room (Nat.le_of_ble_eq_true rfl)) dX3_changePrice_46 ⟨Nat.zero_le _, Nat.zero_le _⟩) (fun H locs hH => ?_)
          exact mm_iret C hH hr hlk rfl h dX3_changePrice_49
        · have h := mm_pos c3 h
          have hl := lv_sub (l' := []) hl [] rfl
          refine lv_bipush (v := (-5)) hx hb dX3_changePrice_34 (by decide) ?_
          exact mm_iret C hH hr hlk rfl h dX3_changePrice_36
      · have h := mm_neg c2 h
        have hl := lv_sub (l' := []) hl [] rfl
        refine lv_bipush (v := (-2)) hx hb dX3_changePrice_23 (by decide) ?_
        exact mm_iret C hH hr hlk rfl h dX3_changePrice_25
def fn_X3_passMinuteOf (k1 : Nat) (x : mm_M) : Option (mm_M × Int32) :=
  if mm_kd k1 = 1 then mm_b2 (fn_X1_passMinute k1 (x 2 3) (x 2 5) (x 2 6) x) fun x1 v1 => if vp_nar .boolean v1 = v1 then some (x1, v1) else none else none
abbrev rm_X3_passMinuteOf : Room := { frames := 2, cells := 0, slots := 0, locals := 44 }
theorem df_X3_passMinuteOf : yX3_passMinuteOf.cls = RX3 ∧ yX3_passMinuteOf.cls ≠ "java/lang/invoke/MethodHandle" ∧ yX3_passMinuteOf.cls ≠ "java/lang/invoke/VarHandle" ∧ (parseMethodDescriptor yX3_passMinuteOf.desc).map (fun d => d.parameters.length) = some 1 := by decide +kernel
set_option maxRecDepth 100000 in
set_option maxHeartbeats 4000000 in
theorem ct_X3_passMinuteOf (l : Launch) (G : va_G) (T : Nat → ClassId) (b : Nat) (z : Nat → Nat) (k1 : Nat) (x : mm_M) {x1 : mm_M} {r : Int32} (h : fn_X3_passMinuteOf k1 x = some (x1, r)) : mm_Ci l yX3_passMinuteOf wsX3_passMinuteOf rm_X3_passMinuteOf G T b z [.ref (b + 1), .ref (b + k1)] x r x1 := by
  unfold fn_X3_passMinuteOf at h
  refine mm_start (cc := cX3_passMinuteOf) (maxL := 2) (ret := (some .boolean)) (by decide) rfl (Nat.le_of_ble_eq_true rfl) (fun p e s m below meth c ls C hr hlk hH hl => ?_)
  have hl : lv_has ls 2 [(0, .ref (b + 1)), (1, .ref (b + k1))] := hl
  have hx := C.1
  have hb := C.2.1
  have w1 := C.2.2.2.2.1 (.fieldLink RX3 18 "LandingFines$River" "settings" "[I") (by decide +kernel)
  have hin3 : ∀ w ∈ wsX30, w ∈ wsX3_passMinuteOf := by decide +kernel
  obtain ⟨hk1, h⟩ := mm_grd h
  have hk1l := mm_lt hk1 (by decide)
  refine lv_aload_n hx hb dX3_passMinuteOf_0 rfl (lv_at hl 1 rfl) ?_
  refine lv_aload_n hx hb dX3_passMinuteOf_1 rfl (lv_at hl 0 rfl) ?_
  refine mm_get (v := .ref (b + 2)) C hH hin3 rfl kl_1 (mm_e3 kd_1) (j := 0) (by decide) rfl w1 rfl dX3_passMinuteOf_2 ?_
  refine lv_iconst (v := 3) hx hb dX3_passMinuteOf_5 (by decide) ?_
  refine mm_iald (n := 7) (jn := 3) C hH kd_2 ln_2 (by decide) (by decide) dX3_passMinuteOf_6 ?_
  refine lv_aload_n hx hb dX3_passMinuteOf_7 rfl (lv_at hl 0 rfl) ?_
  refine mm_get (v := .ref (b + 2)) C hH hin3 rfl kl_1 (mm_e3 kd_1) (j := 0) (by decide) rfl w1 rfl dX3_passMinuteOf_8 ?_
  refine lv_iconst (v := 5) hx hb dX3_passMinuteOf_11 (by decide) ?_
  refine mm_iald (n := 7) (jn := 5) C hH kd_2 ln_2 (by decide) (by decide) dX3_passMinuteOf_12 ?_
  refine lv_aload_n hx hb dX3_passMinuteOf_13 rfl (lv_at hl 0 rfl) ?_
  refine mm_get (v := .ref (b + 2)) C hH hin3 rfl kl_1 (mm_e3 kd_1) (j := 0) (by decide) rfl w1 rfl dX3_passMinuteOf_14 ?_
  refine lv_bipush (v := 6) hx hb dX3_passMinuteOf_17 (by decide) ?_
  refine mm_iald (n := 7) (jn := 6) C hH kd_2 ln_2 (by decide) (by decide) dX3_passMinuteOf_19 ?_
  obtain ⟨x1, v1, e1, h⟩ := mm_bnd2 h
  refine mm_goi hH (va_runV (As := [.int (x 2 3), .int (x 2 5), .int (x 2 6)]) (rest := []) ⟨hx, hb, C.2.2.1, C.2.2.2.1, C.2.2.2.2.1⟩ (ct_X1_passMinute l G T b z k1 (x 2 3) (x 2 5) (x 2 6) x e1) (cwV 3 C.2.2.2.2.1 gX3_passMinuteOf_X1_passMinute rfl rfl rfl df_X1_passMinute ⟨Nat.le_of_ble_eq_true rfl, Nat.le_of_ble_eq_true rfl⟩) ⟨mm_B.blind, mm_recv (q := (RX1, TX1, 8)) C hH hk1l (mm_e1 hk1) rfl, mm_pre C hH⟩ rfl rfl hl.1 rfl (lv_room (Nat.le_of_ble_eq_true rfl)) dX3_passMinuteOf_20 ⟨Nat.zero_le _, Nat.zero_le _⟩) (fun H locs hH => ?_)
  obtain ⟨g1, h⟩ := mm_grd h
  exact mm_iret C hH hr hlk (mm_narZ g1) h dX3_passMinuteOf_23
def fn_X3_passOneMinute_14 : Nat → Int32 → Int32 → mm_M → Option (mm_M × Int32)
  | 0, _, _, _ => none
  | n + 1, i1, i2, x => if (x 1 2) ≤ i2 then some (x, i1) else if i2 < 0 ∨ 8 ≤ Int32.toNatClampNeg i2 then none else mm_b2 (fn_X3_passMinuteOf (3 + 5 + Int32.toNatClampNeg i2) x) fun x1 v1 => if v1 = 0 then (some (i2 + 1)).bind fun v2 => fn_X3_passOneMinute_14 n  i1 v2 x1 else (fn_X0_add 4 i2 (x1 1 3) x1).bind fun x2 => (some (i1 + 1)).bind fun v3 => (some (i2 + 1)).bind fun v4 => fn_X3_passOneMinute_14 n  v3 v4 x2
def fn_X3_passOneMinute  (x : mm_M) : Option (mm_M × Int32) :=
  (some (mm_up x 1 3 ((x 1 3) + 1))).bind fun x1 => mm_b2 (fn_X3_passOneMinute_14 9 0 0 x1) fun x2 v1 => if v1 ≤ 0 then some (x2, v1) else (fn_X3_followTaken x2).bind fun x3 => some (x3, v1)
abbrev rm_X3_passOneMinute : Room := { frames := 3, cells := 0, slots := 0, locals := 65 }
theorem df_X3_passOneMinute : yX3_passOneMinute.cls = RX3 ∧ yX3_passOneMinute.cls ≠ "java/lang/invoke/MethodHandle" ∧ yX3_passOneMinute.cls ≠ "java/lang/invoke/VarHandle" ∧ (parseMethodDescriptor yX3_passOneMinute.desc).map (fun d => d.parameters.length) = some 0 := by decide +kernel
set_option maxRecDepth 100000 in
set_option maxHeartbeats 4000000 in
theorem lp_X3_passOneMinute_14 {p : Program} {l : Launch} {e : Env} {s : State} {m : MethodId} {args : Array Value} {below : List Frame} {meth : Method} {c : Code} {Q : State → Prop} {G : va_G} {T : Nat → ClassId} {b : Nat} {z : Nat → Nat} (C : mm_C p m c cX3_passOneMinute 3 s args wsX3_passOneMinute RX3 G T b z)  : ∀ (n : Nat) (i1 : Int32) (i2 : Int32) (x : mm_M) (H : Heap) (locs : List Loc) (ls : Array Slot) (x1 : mm_M) (r1 : Int32), fn_X3_passOneMinute_14 n i1 i2 x = some (x1, r1) → mm_H G T b x s H locs → lv_has ls 3 [(0, .ref (b + 1)), (1, .int i1), (2, .int i2)] → (∀ (H1 : Heap) (locs1 : List Loc) (ls1 : Array Slot), mm_H G T b x1 s H1 locs1 → lv_has ls1 3 [(0, .ref (b + 1)), (1, .int r1)] → W p l e rm_X3_passOneMinute s m args below meth c H1 locs1 0 0 Q (F0 m 57 ls1 [])) → W p l e rm_X3_passOneMinute s m args below meth c H locs 0 0 Q (F0 m 14 ls []) := by
  have hx := C.1
  have hb := C.2.1
  have w1 := C.2.2.2.2.1 (.fieldLink RX3 29 "LandingFines$River" "landingCount" "I") (by decide +kernel)
  have w2 := C.2.2.2.2.1 (.fieldLink RX3 25 "LandingFines$River" "landings" "[LLandingFines$Landing;") (by decide +kernel)
  have w3 := C.2.2.2.2.1 (.fieldLink RX3 45 "LandingFines$River" "journal" "LLandingFines$Journal;") (by decide +kernel)
  have w4 := C.2.2.2.2.1 (.fieldLink RX3 33 "LandingFines$River" "minutesSoFar" "I") (by decide +kernel)
  have hin3 : ∀ w ∈ wsX30, w ∈ wsX3_passOneMinute := by decide +kernel
  intro n
  induction n with
  | zero => intro _ _ _ _ _ _ _ _ h; cases (show (none : Option (mm_M × Int32)) = some _ from h)
  | succ n ih =>
    intro i1 i2 x H locs ls x1 r1 h hH hl kk
    rw [fn_X3_passOneMinute_14] at h
    refine lv_iload_n hx hb dX3_passOneMinute_14 rfl (lv_at hl 2 rfl) ?_
    refine lv_aload_n hx hb dX3_passOneMinute_15 rfl (lv_at hl 0 rfl) ?_
    refine mm_get (v := .int (x 1 2)) C hH hin3 rfl kl_1 (mm_e3 kd_1) (j := 2) (by decide) rfl w1 rfl dX3_passOneMinute_16 ?_
    refine lv_icmp_ge (tgt := 57) hx hb dX3_passOneMinute_19 (by decide) (fun c1 => ?_) (fun c1 => ?_)
    · have h := mm_pos c1 h
      have hl := lv_sub (l' := [(0, .ref (b + 1)), (1, .int i1)]) hl [0, 1] rfl
      cases h
      exact kk _ _ _ hH (lv_sub hl [0, 1] rfl)
    · have h := mm_neg c1 h
      refine lv_aload_n hx hb dX3_passOneMinute_22 rfl (lv_at hl 0 rfl) ?_
      refine lv_aload_n hx hb dX3_passOneMinute_23 rfl (lv_at hl 0 rfl) ?_
      refine mm_get (v := .ref (b + 3)) C hH hin3 rfl kl_1 (mm_e3 kd_1) (j := 1) (by decide) rfl w2 rfl dX3_passOneMinute_24 ?_
      refine lv_iload_n hx hb dX3_passOneMinute_27 rfl (lv_at hl 2 rfl) ?_
      obtain ⟨g1, h⟩ := mm_grn h
      refine mm_ald9 C hH kd_3 g1 dX3_passOneMinute_28 ?_
      obtain ⟨x1, v1, e1, h⟩ := mm_bnd2 h
      refine mm_goi hH (va_runV (As := [.ref (b + (3 + 5 + Int32.toNatClampNeg i2))]) (rest := []) ⟨hx, hb, C.2.2.1, C.2.2.2.1, C.2.2.2.2.1⟩ (ct_X3_passMinuteOf l G T b z (3 + 5 + Int32.toNatClampNeg i2) x e1) (cwV 1 C.2.2.2.2.1 gX3_passOneMinute_X3_passMinuteOf rfl rfl rfl df_X3_passMinuteOf ⟨Nat.le_of_ble_eq_true rfl, Nat.le_of_ble_eq_true rfl⟩) ⟨mm_B.blind, mm_recv (q := (RX3, TX3, 7)) C hH kl_1 (mm_e3 kd_1) rfl, mm_pre C hH⟩ rfl rfl hl.1 rfl (lv_room (Nat.le_of_ble_eq_true rfl)) dX3_passOneMinute_29 ⟨Nat.zero_le _, Nat.zero_le _⟩) (fun H locs hH => ?_)
      refine lv_if_eq (tgt := 51) hx hb dX3_passOneMinute_32 (by decide) (fun c2 => ?_) (fun c2 => ?_)
      · have h := mm_pos c2 h
        obtain ⟨v2, e2, h⟩ := mm_bnd h
        refine lv_iinc (v := v2) (lv' := [(2, .int v2), (0, .ref (b + 1)), (1, .int i1)]) hx hb dX3_passOneMinute_51 hl (k := 2) rfl (Option.some.inj e2) (by decide) rfl (fun ls hl => ?_)
        refine lv_goto (tgt := 14) hx hb dX3_passOneMinute_54 (by decide) ?_
        exact ih i1 v2 x1 _ _ _ _ _ h hH (lv_sub hl [1, 2, 0] rfl) kk
      · have h := mm_neg c2 h
        refine lv_aload_n hx hb dX3_passOneMinute_35 rfl (lv_at hl 0 rfl) ?_
        refine mm_get (v := .ref (b + 4)) C hH hin3 rfl kl_1 (mm_e3 kd_1) (j := 6) (by decide) rfl w3 rfl dX3_passOneMinute_36 ?_
        refine lv_iconst (v := 4) hx hb dX3_passOneMinute_39 (by decide) ?_
        refine lv_iload_n hx hb dX3_passOneMinute_40 rfl (lv_at hl 2 rfl) ?_
        refine lv_aload_n hx hb dX3_passOneMinute_41 rfl (lv_at hl 0 rfl) ?_
        refine mm_get (v := .int (x1 1 3)) C hH hin3 rfl kl_1 (mm_e3 kd_1) (j := 3) (by decide) rfl w4 rfl dX3_passOneMinute_42 ?_
        obtain ⟨x2, e3, h⟩ := mm_bnd h
        refine mm_gov hH (va_runV (As := [.int 4, .int i2, .int (x1 1 3)]) (rest := []) ⟨hx, hb, C.2.2.1, C.2.2.2.1, C.2.2.2.2.1⟩ (ct_X0_add l G T b z 4 i2 (x1 1 3) x1 e3) (cwV 3 C.2.2.2.2.1 gX3_passOneMinute_X0_add rfl rfl rfl df_X0_add ⟨Nat.le_of_ble_eq_true rfl, Nat.le_of_ble_eq_true rfl⟩) ⟨mm_B.blind, mm_recv (q := (RX0, TX0, 5)) C hH kl_4 (mm_e0 kd_4) rfl, mm_pre C hH⟩ rfl rfl hl.1 rfl (lv_room (Nat.le_of_ble_eq_true rfl)) dX3_passOneMinute_45 ⟨Nat.zero_le _, Nat.zero_le _⟩) (fun H locs hH => ?_)
        obtain ⟨v3, e4, h⟩ := mm_bnd h
        refine lv_iinc (v := v3) (lv' := [(1, .int v3), (0, .ref (b + 1)), (2, .int i2)]) hx hb dX3_passOneMinute_48 hl (k := 1) rfl (Option.some.inj e4) (by decide) rfl (fun ls hl => ?_)
        obtain ⟨v4, e5, h⟩ := mm_bnd h
        refine lv_iinc (v := v4) (lv' := [(2, .int v4), (1, .int v3), (0, .ref (b + 1))]) hx hb dX3_passOneMinute_51 hl (k := 2) rfl (Option.some.inj e5) (by decide) rfl (fun ls hl => ?_)
        refine lv_goto (tgt := 14) hx hb dX3_passOneMinute_54 (by decide) ?_
        exact ih v3 v4 x2 _ _ _ _ _ h hH (lv_sub hl [2, 1, 0] rfl) kk
set_option maxRecDepth 100000 in
set_option maxHeartbeats 4000000 in
theorem ct_X3_passOneMinute (l : Launch) (G : va_G) (T : Nat → ClassId) (b : Nat) (z : Nat → Nat)  (x : mm_M) {x1 : mm_M} {r : Int32} (h : fn_X3_passOneMinute  x = some (x1, r)) : mm_Ci l yX3_passOneMinute wsX3_passOneMinute rm_X3_passOneMinute G T b z [.ref (b + 1)] x r x1 := by
  unfold fn_X3_passOneMinute at h
  refine mm_start (cc := cX3_passOneMinute) (maxL := 3) (ret := (some .int)) (by decide) rfl (Nat.le_of_ble_eq_true rfl) (fun p e s m below meth c ls C hr hlk hH hl => ?_)
  have hl : lv_has ls 3 [(0, .ref (b + 1))] := hl
  have hx := C.1
  have hb := C.2.1
  have w1 := C.2.2.2.2.1 (.fieldLink RX3 33 "LandingFines$River" "minutesSoFar" "I") (by decide +kernel)
  have hin3 : ∀ w ∈ wsX30, w ∈ wsX3_passOneMinute := by decide +kernel
  refine lv_aload_n hx hb dX3_passOneMinute_0 rfl (lv_at hl 0 rfl) ?_
  refine lv_dup hx hb dX3_passOneMinute_1 rfl ?_
  refine mm_get (v := .int (x 1 3)) C hH hin3 rfl kl_1 (mm_e3 kd_1) (j := 3) (by decide) rfl w1 rfl dX3_passOneMinute_2 ?_
  refine lv_iconst (v := 1) hx hb dX3_passOneMinute_5 (by decide) ?_
  refine lv_iadd hx hb dX3_passOneMinute_6 ?_
  obtain ⟨x1, e1, h⟩ := mm_bnd h
  refine mm_put (ty := .int) C hH hin3 tyX3_ok nmX3 rfl kl_1 (mm_e3 kd_1) (j := 3) (by decide) rfl w1 pd_I rfl rfl (Nat.le_of_ble_eq_true rfl) (sp_3_3 kd_1) (Option.some.inj e1) dX3_passOneMinute_7 (fun H locs hH => ?_)
  refine lv_iconst (v := 0) hx hb dX3_passOneMinute_10 (by decide) ?_
  refine lv_istore_n (lv' := [(1, .int 0), (0, .ref (b + 1))]) hx hb dX3_passOneMinute_11 rfl hl (by decide) rfl (fun ls hl => ?_)
  refine lv_iconst (v := 0) hx hb dX3_passOneMinute_12 (by decide) ?_
  refine lv_istore_n (lv' := [(2, .int 0), (1, .int 0), (0, .ref (b + 1))]) hx hb dX3_passOneMinute_13 rfl hl (by decide) rfl (fun ls hl => ?_)
  obtain ⟨x2, v1, e2, h⟩ := mm_bnd2 h
  refine lp_X3_passOneMinute_14 C 9 0 0 x1 _ _ _ _ _ e2 hH (lv_sub hl [2, 1, 0] rfl) (fun H locs ls hH hl => ?_)
  refine lv_iload_n hx hb dX3_passOneMinute_57 rfl (lv_at hl 1 rfl) ?_
  refine lv_if_le (tgt := 65) hx hb dX3_passOneMinute_58 (by decide) (fun c1 => ?_) (fun c1 => ?_)
  · have h := mm_pos c1 h
    have hl := lv_sub (l' := [(1, .int v1)]) hl [1] rfl
    refine lv_iload_n hx hb dX3_passOneMinute_65 rfl (lv_at hl 0 rfl) ?_
    exact mm_iret C hH hr hlk rfl h dX3_passOneMinute_66
  · have h := mm_neg c1 h
    refine lv_aload_n hx hb dX3_passOneMinute_61 rfl (lv_at hl 0 rfl) ?_
    obtain ⟨x3, e3, h⟩ := mm_bnd h
    refine mm_gov hH (va_runV (As := []) (rest := []) ⟨hx, hb, C.2.2.1, C.2.2.2.1, C.2.2.2.2.1⟩ (ct_X3_followTaken l G T b z x2 e3) (cwV 0 C.2.2.2.2.1 gX3_passOneMinute_X3_followTaken rfl rfl rfl df_X3_followTaken ⟨Nat.le_of_ble_eq_true rfl, Nat.le_of_ble_eq_true rfl⟩) ⟨mm_B.blind, mm_recv (q := (RX3, TX3, 7)) C hH kl_1 (mm_e3 kd_1) rfl, mm_pre C hH⟩ rfl rfl hl.1 rfl (lv_room (Nat.le_of_ble_eq_true rfl)) dX3_passOneMinute_62 ⟨Nat.zero_le _, Nat.zero_le _⟩) (fun H locs hH => ?_)
    refine lv_iload_n hx hb dX3_passOneMinute_65 rfl (lv_at hl 1 rfl) ?_
    exact mm_iret C hH hr hlk rfl h dX3_passOneMinute_66
def fn_X3_passMinutes_33 : Nat → Int32 → Int32 → Int32 → mm_M → Option (mm_M × Int32)
  | 0, _, _, _, _ => none
  | n + 1, a1, i2, i3, x => if a1 ≤ i3 then some (x, i2) else mm_b2 (fn_X3_passOneMinute x) fun x1 v1 => (some ((i2 + v1) : Int32)).bind fun v2 => (some (i3 + 1)).bind fun v3 => fn_X3_passMinutes_33 n a1 v2 v3 x1
def fn_X3_passMinutes (a1 : Int32) (x : mm_M) : Option (mm_M × Int32) :=
  if a1 < 1 then some (x, (-2)) else if a1 ≤ 999 then if ((x 1 3) + a1) ≤ 99999 then mm_b2 (fn_X3_passMinutes_33 1000 a1 0 0 x) fun x1 v1 => some (x1, v1) else some (x, (-5)) else some (x, (-2))
abbrev rm_X3_passMinutes : Room := { frames := 4, cells := 0, slots := 0, locals := 87 }
theorem df_X3_passMinutes : yX3_passMinutes.cls = RX3 ∧ yX3_passMinutes.cls ≠ "java/lang/invoke/MethodHandle" ∧ yX3_passMinutes.cls ≠ "java/lang/invoke/VarHandle" ∧ (parseMethodDescriptor yX3_passMinutes.desc).map (fun d => d.parameters.length) = some 1 := by decide +kernel
set_option maxRecDepth 100000 in
set_option maxHeartbeats 4000000 in
theorem lp_X3_passMinutes_33 {p : Program} {l : Launch} {e : Env} {s : State} {m : MethodId} {args : Array Value} {below : List Frame} {meth : Method} {c : Code} {Q : State → Prop} {G : va_G} {T : Nat → ClassId} {b : Nat} {z : Nat → Nat} (C : mm_C p m c cX3_passMinutes 4 s args wsX3_passMinutes RX3 G T b z) (a1 : Int32) : ∀ (n : Nat) (i2 : Int32) (i3 : Int32) (x : mm_M) (H : Heap) (locs : List Loc) (ls : Array Slot) (x1 : mm_M) (r2 : Int32), fn_X3_passMinutes_33 n a1 i2 i3 x = some (x1, r2) → mm_H G T b x s H locs → lv_has ls 4 [(0, .ref (b + 1)), (1, .int a1), (2, .int i2), (3, .int i3)] → (∀ (H1 : Heap) (locs1 : List Loc) (ls1 : Array Slot), mm_H G T b x1 s H1 locs1 → lv_has ls1 4 [(2, .int r2)] → W p l e rm_X3_passMinutes s m args below meth c H1 locs1 0 0 Q (F0 m 51 ls1 [])) → W p l e rm_X3_passMinutes s m args below meth c H locs 0 0 Q (F0 m 33 ls []) := by
  have hx := C.1
  have hb := C.2.1
  intro n
  induction n with
  | zero => intro _ _ _ _ _ _ _ _ h; cases (show (none : Option (mm_M × Int32)) = some _ from h)
  | succ n ih =>
    intro i2 i3 x H locs ls x1 r2 h hH hl kk
    rw [fn_X3_passMinutes_33] at h
    refine lv_iload_n hx hb dX3_passMinutes_33 rfl (lv_at hl 3 rfl) ?_
    refine lv_iload_n hx hb dX3_passMinutes_34 rfl (lv_at hl 1 rfl) ?_
    refine lv_icmp_ge (tgt := 51) hx hb dX3_passMinutes_35 (by decide) (fun c1 => ?_) (fun c1 => ?_)
    · have h := mm_pos c1 h
      have hl := lv_sub (l' := [(2, .int i2)]) hl [2] rfl
      cases h
      exact kk _ _ _ hH (lv_sub hl [0] rfl)
    · have h := mm_neg c1 h
      refine lv_iload_n hx hb dX3_passMinutes_38 rfl (lv_at hl 2 rfl) ?_
      refine lv_aload_n hx hb dX3_passMinutes_39 rfl (lv_at hl 0 rfl) ?_
      obtain ⟨x1, v1, e1, h⟩ := mm_bnd2 h
      refine mm_goi hH (va_runV (As := []) (rest := [.int i2]) ⟨hx, hb, C.2.2.1, C.2.2.2.1, C.2.2.2.2.1⟩ (ct_X3_passOneMinute l G T b z x e1) (cwV 0 C.2.2.2.2.1 gX3_passMinutes_X3_passOneMinute rfl rfl rfl df_X3_passOneMinute ⟨Nat.le_of_ble_eq_true rfl, Nat.le_of_ble_eq_true rfl⟩) ⟨mm_B.blind, mm_recv (q := (RX3, TX3, 7)) C hH kl_1 (mm_e3 kd_1) rfl, mm_pre C hH⟩ rfl rfl hl.1 rfl (lv_room (Nat.le_of_ble_eq_true rfl)) dX3_passMinutes_40 ⟨Nat.zero_le _, Nat.zero_le _⟩) (fun H locs hH => ?_)
      refine lv_iadd hx hb dX3_passMinutes_43 ?_
      obtain ⟨v2, e2, h⟩ := mm_bnd h
      refine mm_nmi e2 ?_
      refine lv_istore_n (lv' := [(2, .int v2), (0, .ref (b + 1)), (1, .int a1), (3, .int i3)]) hx hb dX3_passMinutes_44 rfl hl (by decide) rfl (fun ls hl => ?_)
      obtain ⟨v3, e3, h⟩ := mm_bnd h
      refine lv_iinc (v := v3) (lv' := [(3, .int v3), (2, .int v2), (0, .ref (b + 1)), (1, .int a1)]) hx hb dX3_passMinutes_45 hl (k := 3) rfl (Option.some.inj e3) (by decide) rfl (fun ls hl => ?_)
      refine lv_goto (tgt := 33) hx hb dX3_passMinutes_48 (by decide) ?_
      exact ih v2 v3 x1 _ _ _ _ _ h hH (lv_sub hl [2, 3, 1, 0] rfl) kk
set_option maxRecDepth 100000 in
set_option maxHeartbeats 4000000 in
theorem ct_X3_passMinutes (l : Launch) (G : va_G) (T : Nat → ClassId) (b : Nat) (z : Nat → Nat) (a1 : Int32) (x : mm_M) {x1 : mm_M} {r : Int32} (h : fn_X3_passMinutes a1 x = some (x1, r)) : mm_Ci l yX3_passMinutes wsX3_passMinutes rm_X3_passMinutes G T b z [.ref (b + 1), .int a1] x r x1 := by
  unfold fn_X3_passMinutes at h
  refine mm_start (cc := cX3_passMinutes) (maxL := 4) (ret := (some .int)) (by decide) rfl (Nat.le_of_ble_eq_true rfl) (fun p e s m below meth c ls C hr hlk hH hl => ?_)
  have hl : lv_has ls 4 [(0, .ref (b + 1)), (1, .int a1)] := hl
  have hx := C.1
  have hb := C.2.1
  have w1 := C.2.2.2.2.1 (.fieldLink RX3 33 "LandingFines$River" "minutesSoFar" "I") (by decide +kernel)
  have w2 := C.2.2.2.2.1 (.constant RX3 106 (99999)) (by decide +kernel)
  have hin3 : ∀ w ∈ wsX30, w ∈ wsX3_passMinutes := by decide +kernel
  refine lv_iload_n hx hb dX3_passMinutes_0 rfl (lv_at hl 1 rfl) ?_
  refine lv_iconst (v := 1) hx hb dX3_passMinutes_1 (by decide) ?_
  refine lv_icmp_lt (tgt := 12) hx hb dX3_passMinutes_2 (by decide) (fun c1 => ?_) (fun c1 => ?_)
  · have h := mm_pos c1 h
    have hl := lv_sub (l' := []) hl [] rfl
    refine lv_bipush (v := (-2)) hx hb dX3_passMinutes_12 (by decide) ?_
    exact mm_iret C hH hr hlk rfl h dX3_passMinutes_14
  · have h := mm_neg c1 h
    refine lv_iload_n hx hb dX3_passMinutes_5 rfl (lv_at hl 1 rfl) ?_
    refine lv_sipush (v := 999) hx hb dX3_passMinutes_6 (by decide) ?_
    refine lv_icmp_le (tgt := 15) hx hb dX3_passMinutes_9 (by decide) (fun c2 => ?_) (fun c2 => ?_)
    · have h := mm_pos c2 h
      refine lv_aload_n hx hb dX3_passMinutes_15 rfl (lv_at hl 0 rfl) ?_
      refine mm_get (v := .int (x 1 3)) C hH hin3 rfl kl_1 (mm_e3 kd_1) (j := 3) (by decide) rfl w1 rfl dX3_passMinutes_16 ?_
      refine lv_iload_n hx hb dX3_passMinutes_19 rfl (lv_at hl 1 rfl) ?_
      refine lv_iadd hx hb dX3_passMinutes_20 ?_
      refine lv_ldc (own := RX3) (v := 99999) hx hb C.2.2.2.1 w2 dX3_passMinutes_21 ?_
      refine lv_icmp_le (tgt := 29) hx hb dX3_passMinutes_23 (by decide) (fun c3 => ?_) (fun c3 => ?_)
      · have h := mm_pos c3 h
        refine lv_iconst (v := 0) hx hb dX3_passMinutes_29 (by decide) ?_
        refine lv_istore_n (lv' := [(2, .int 0), (0, .ref (b + 1)), (1, .int a1)]) hx hb dX3_passMinutes_30 rfl hl (by decide) rfl (fun ls hl => ?_)
        refine lv_iconst (v := 0) hx hb dX3_passMinutes_31 (by decide) ?_
        refine lv_istore_n (lv' := [(3, .int 0), (2, .int 0), (0, .ref (b + 1)), (1, .int a1)]) hx hb dX3_passMinutes_32 rfl hl (by decide) rfl (fun ls hl => ?_)
        obtain ⟨x1, v1, e1, h⟩ := mm_bnd2 h
        refine lp_X3_passMinutes_33 C a1 1000 0 0 x _ _ _ _ _ e1 hH (lv_sub hl [2, 3, 1, 0] rfl) (fun H locs ls hH hl => ?_)
        refine lv_iload_n hx hb dX3_passMinutes_51 rfl (lv_at hl 0 rfl) ?_
        exact mm_iret C hH hr hlk rfl h dX3_passMinutes_52
      · have h := mm_neg c3 h
        have hl := lv_sub (l' := []) hl [] rfl
        refine lv_bipush (v := (-5)) hx hb dX3_passMinutes_26 (by decide) ?_
        exact mm_iret C hH hr hlk rfl h dX3_passMinutes_28
    · have h := mm_neg c2 h
      have hl := lv_sub (l' := []) hl [] rfl
      refine lv_bipush (v := (-2)) hx hb dX3_passMinutes_12 (by decide) ?_
      exact mm_iret C hH hr hlk rfl h dX3_passMinutes_14
def fn_X3_rankOf_15 : Nat → Int32 → Int32 → Int32 → Int32 → mm_M → Option Int32
  | 0, _, _, _, _, _ => none
  | n + 1, a1, a3, i2, i4, x => if (x 1 2) ≤ i4 then some (i2) else if i4 < 0 ∨ 8 ≤ Int32.toNatClampNeg i4 then none else (fn_X1_canBeTaken (3 + 5 + Int32.toNatClampNeg i4) x).bind fun v1 => if v1 = 0 then (some (i4 + 1)).bind fun v2 => fn_X3_rankOf_15 n a1 a3 i2 v2 x else if (x (3 + 5 + Int32.toNatClampNeg i4) 1) < a3 then (some (i2 + 1)).bind fun v3 => (some (i4 + 1)).bind fun v4 => fn_X3_rankOf_15 n a1 a3 v3 v4 x else if (x (3 + 5 + Int32.toNatClampNeg i4) 1) = a3 then if a1 ≤ i4 then (some (i4 + 1)).bind fun v6 => fn_X3_rankOf_15 n a1 a3 i2 v6 x else (some (i2 + 1)).bind fun v7 => (some (i4 + 1)).bind fun v8 => fn_X3_rankOf_15 n a1 a3 v7 v8 x else (some (i4 + 1)).bind fun v5 => fn_X3_rankOf_15 n a1 a3 i2 v5 x
def fn_X3_rankOf (a1 : Int32) (x : mm_M) : Option Int32 :=
  if a1 < 0 ∨ 8 ≤ Int32.toNatClampNeg a1 then none else (some ((x (3 + 5 + Int32.toNatClampNeg a1) 1) : Int32)).bind fun v1 => (fn_X3_rankOf_15 9 a1 v1 0 0 x).bind fun v2 => some v2
abbrev rm_X3_rankOf : Room := { frames := 1, cells := 0, slots := 0, locals := 20 }
theorem df_X3_rankOf : yX3_rankOf.cls = RX3 ∧ yX3_rankOf.cls ≠ "java/lang/invoke/MethodHandle" ∧ yX3_rankOf.cls ≠ "java/lang/invoke/VarHandle" ∧ (parseMethodDescriptor yX3_rankOf.desc).map (fun d => d.parameters.length) = some 1 := by decide +kernel
set_option maxRecDepth 100000 in
set_option maxHeartbeats 4000000 in
theorem lp_X3_rankOf_15 {p : Program} {l : Launch} {e : Env} {s : State} {m : MethodId} {args : Array Value} {below : List Frame} {meth : Method} {c : Code} {Q : State → Prop} {G : va_G} {T : Nat → ClassId} {b : Nat} {z : Nat → Nat} (C : mm_C p m c cX3_rankOf 6 s args wsX3_rankOf RX3 G T b z) (a1 : Int32) (a3 : Int32) : ∀ (n : Nat) (i2 : Int32) (i4 : Int32) (x : mm_M) (H : Heap) (locs : List Loc) (ls : Array Slot) (r2 : Int32), fn_X3_rankOf_15 n a1 a3 i2 i4 x = some (r2) → mm_H G T b x s H locs → lv_has ls 6 [(0, .ref (b + 1)), (1, .int a1), (2, .int i2), (3, .int a3), (4, .int i4)] → (∀ (H1 : Heap) (locs1 : List Loc) (ls1 : Array Slot), mm_H G T b x s H1 locs1 → lv_has ls1 6 [(2, .int r2)] → W p l e rm_X3_rankOf s m args below meth c H1 locs1 0 0 Q (F0 m 74 ls1 [])) → W p l e rm_X3_rankOf s m args below meth c H locs 0 0 Q (F0 m 15 ls []) := by
  have hx := C.1
  have hb := C.2.1
  have w1 := C.2.2.2.2.1 (.fieldLink RX3 29 "LandingFines$River" "landingCount" "I") (by decide +kernel)
  have w2 := C.2.2.2.2.1 (.fieldLink RX3 25 "LandingFines$River" "landings" "[LLandingFines$Landing;") (by decide +kernel)
  have w3 := C.2.2.2.2.1 (.fieldLink RX3 88 "LandingFines$Landing" "fare" "I") (by decide +kernel)
  have hin1 : ∀ w ∈ wsX10, w ∈ wsX3_rankOf := by decide +kernel
  have hin3 : ∀ w ∈ wsX30, w ∈ wsX3_rankOf := by decide +kernel
  intro n
  induction n with
  | zero => intro _ _ _ _ _ _ _ h; cases (show (none : Option Int32) = some _ from h)
  | succ n ih =>
    intro i2 i4 x H locs ls r2 h hH hl kk
    rw [fn_X3_rankOf_15] at h
    refine lv_iload hx hb dX3_rankOf_15 (lv_at hl 4 rfl) ?_
    refine lv_aload_n hx hb dX3_rankOf_17 rfl (lv_at hl 0 rfl) ?_
    refine mm_get (v := .int (x 1 2)) C hH hin3 rfl kl_1 (mm_e3 kd_1) (j := 2) (by decide) rfl w1 rfl dX3_rankOf_18 ?_
    refine lv_icmp_ge (tgt := 74) hx hb dX3_rankOf_21 (by decide) (fun c1 => ?_) (fun c1 => ?_)
    · have h := mm_pos c1 h
      have hl := lv_sub (l' := [(2, .int i2)]) hl [2] rfl
      cases h
      exact kk _ _ _ hH (lv_sub hl [0] rfl)
    · have h := mm_neg c1 h
      refine lv_aload_n hx hb dX3_rankOf_24 rfl (lv_at hl 0 rfl) ?_
      refine mm_get (v := .ref (b + 3)) C hH hin3 rfl kl_1 (mm_e3 kd_1) (j := 1) (by decide) rfl w2 rfl dX3_rankOf_25 ?_
      refine lv_iload hx hb dX3_rankOf_28 (lv_at hl 4 rfl) ?_
      obtain ⟨g1, h⟩ := mm_grn h
      refine mm_ald9 C hH kd_3 g1 dX3_rankOf_30 ?_
      refine lv_astore (lv' := [(5, .ref (b + (3 + 5 + Int32.toNatClampNeg i4))), (0, .ref (b + 1)), (1, .int a1), (2, .int i2), (3, .int a3), (4, .int i4)]) hx hb dX3_rankOf_31 hl (by decide) rfl (fun ls hl => ?_)
      refine lv_aload hx hb dX3_rankOf_33 (lv_at hl 0 rfl) ?_
      obtain ⟨v1, e1, h⟩ := mm_bnd h
      refine mm_goi hH (va_runV (As := []) (rest := []) ⟨hx, hb, C.2.2.1, C.2.2.2.1, C.2.2.2.2.1⟩ (ct_X1_canBeTaken l G T b z (3 + 5 + Int32.toNatClampNeg i4) x e1) (cwV 0 C.2.2.2.2.1 gX3_rankOf_X1_canBeTaken rfl rfl rfl df_X1_canBeTaken ⟨Nat.le_of_ble_eq_true rfl, Nat.le_of_ble_eq_true rfl⟩) ⟨mm_B.blind, mm_recv (q := (RX1, TX1, 8)) C hH (mm_lt (mm_ldc g1) (by decide)) (mm_e1 (mm_ldc g1)) rfl, mm_pre C hH⟩ rfl rfl hl.1 rfl (lv_room (Nat.le_of_ble_eq_true rfl)) dX3_rankOf_35 ⟨Nat.zero_le _, Nat.zero_le _⟩) (fun H locs hH => ?_)
      refine lv_if_eq (tgt := 68) hx hb dX3_rankOf_38 (by decide) (fun c2 => ?_) (fun c2 => ?_)
      · have h := mm_pos c2 h
        have hl := lv_sub (l' := [(0, .ref (b + 1)), (1, .int a1), (2, .int i2), (3, .int a3), (4, .int i4)]) hl [1, 2, 3, 4, 5] rfl
        obtain ⟨v2, e2, h⟩ := mm_bnd h
        refine lv_iinc (v := v2) (lv' := [(4, .int v2), (0, .ref (b + 1)), (1, .int a1), (2, .int i2), (3, .int a3)]) hx hb dX3_rankOf_68 hl (k := 4) rfl (Option.some.inj e2) (by decide) rfl (fun ls hl => ?_)
        refine lv_goto (tgt := 15) hx hb dX3_rankOf_71 (by decide) ?_
        exact ih i2 v2 x _ _ _ _ h hH (lv_sub hl [1, 2, 3, 4, 0] rfl) kk
      · have h := mm_neg c2 h
        refine lv_aload hx hb dX3_rankOf_41 (lv_at hl 0 rfl) ?_
        refine mm_get (v := .int (x (3 + 5 + Int32.toNatClampNeg i4) 1)) C hH hin1 rfl (mm_lt (mm_ldc g1) (by decide)) (mm_e1 (mm_ldc g1)) (j := 1) (by decide) rfl w3 rfl dX3_rankOf_43 ?_
        refine lv_iload_n hx hb dX3_rankOf_46 rfl (lv_at hl 4 rfl) ?_
        refine lv_icmp_lt (tgt := 65) hx hb dX3_rankOf_47 (by decide) (fun c3 => ?_) (fun c3 => ?_)
        · have h := mm_pos c3 h
          have hl := lv_sub (l' := [(0, .ref (b + 1)), (1, .int a1), (2, .int i2), (3, .int a3), (4, .int i4)]) hl [1, 2, 3, 4, 5] rfl
          obtain ⟨v3, e3, h⟩ := mm_bnd h
          refine lv_iinc (v := v3) (lv' := [(2, .int v3), (0, .ref (b + 1)), (1, .int a1), (3, .int a3), (4, .int i4)]) hx hb dX3_rankOf_65 hl (k := 2) rfl (Option.some.inj e3) (by decide) rfl (fun ls hl => ?_)
          obtain ⟨v4, e4, h⟩ := mm_bnd h
          refine lv_iinc (v := v4) (lv' := [(4, .int v4), (2, .int v3), (0, .ref (b + 1)), (1, .int a1), (3, .int a3)]) hx hb dX3_rankOf_68 hl (k := 4) rfl (Option.some.inj e4) (by decide) rfl (fun ls hl => ?_)
          refine lv_goto (tgt := 15) hx hb dX3_rankOf_71 (by decide) ?_
          exact ih v3 v4 x _ _ _ _ h hH (lv_sub hl [2, 3, 1, 4, 0] rfl) kk
        · have h := mm_neg c3 h
          refine lv_aload hx hb dX3_rankOf_50 (lv_at hl 0 rfl) ?_
          refine mm_get (v := .int (x (3 + 5 + Int32.toNatClampNeg i4) 1)) C hH hin1 rfl (mm_lt (mm_ldc g1) (by decide)) (mm_e1 (mm_ldc g1)) (j := 1) (by decide) rfl w3 rfl dX3_rankOf_52 ?_
          refine lv_iload_n hx hb dX3_rankOf_55 rfl (lv_at hl 4 rfl) ?_
          refine lv_icmp_ne (tgt := 68) hx hb dX3_rankOf_56 (by decide) (fun c4 => ?_) (fun c4 => ?_)
          · have h := mm_neg c4 h
            have hl := lv_sub (l' := [(0, .ref (b + 1)), (1, .int a1), (2, .int i2), (3, .int a3), (4, .int i4)]) hl [1, 2, 3, 4, 5] rfl
            obtain ⟨v5, e5, h⟩ := mm_bnd h
            refine lv_iinc (v := v5) (lv' := [(4, .int v5), (0, .ref (b + 1)), (1, .int a1), (2, .int i2), (3, .int a3)]) hx hb dX3_rankOf_68 hl (k := 4) rfl (Option.some.inj e5) (by decide) rfl (fun ls hl => ?_)
            refine lv_goto (tgt := 15) hx hb dX3_rankOf_71 (by decide) ?_
            exact ih i2 v5 x _ _ _ _ h hH (lv_sub hl [1, 2, 3, 4, 0] rfl) kk
          · have h := mm_pos c4 h
            have hl := lv_sub (l' := [(0, .ref (b + 1)), (1, .int a1), (2, .int i2), (3, .int a3), (4, .int i4)]) hl [1, 2, 3, 4, 5] rfl
            refine lv_iload hx hb dX3_rankOf_59 (lv_at hl 4 rfl) ?_
            refine lv_iload_n hx hb dX3_rankOf_61 rfl (lv_at hl 1 rfl) ?_
            refine lv_icmp_ge (tgt := 68) hx hb dX3_rankOf_62 (by decide) (fun c5 => ?_) (fun c5 => ?_)
            · have h := mm_pos c5 h
              obtain ⟨v6, e6, h⟩ := mm_bnd h
              refine lv_iinc (v := v6) (lv' := [(4, .int v6), (0, .ref (b + 1)), (1, .int a1), (2, .int i2), (3, .int a3)]) hx hb dX3_rankOf_68 hl (k := 4) rfl (Option.some.inj e6) (by decide) rfl (fun ls hl => ?_)
              refine lv_goto (tgt := 15) hx hb dX3_rankOf_71 (by decide) ?_
              exact ih i2 v6 x _ _ _ _ h hH (lv_sub hl [1, 2, 3, 4, 0] rfl) kk
            · have h := mm_neg c5 h
              obtain ⟨v7, e7, h⟩ := mm_bnd h
              refine lv_iinc (v := v7) (lv' := [(2, .int v7), (0, .ref (b + 1)), (1, .int a1), (3, .int a3), (4, .int i4)]) hx hb dX3_rankOf_65 hl (k := 2) rfl (Option.some.inj e7) (by decide) rfl (fun ls hl => ?_)
              obtain ⟨v8, e8, h⟩ := mm_bnd h
              refine lv_iinc (v := v8) (lv' := [(4, .int v8), (2, .int v7), (0, .ref (b + 1)), (1, .int a1), (3, .int a3)]) hx hb dX3_rankOf_68 hl (k := 4) rfl (Option.some.inj e8) (by decide) rfl (fun ls hl => ?_)
              refine lv_goto (tgt := 15) hx hb dX3_rankOf_71 (by decide) ?_
              exact ih v7 v8 x _ _ _ _ h hH (lv_sub hl [2, 3, 1, 4, 0] rfl) kk
set_option maxRecDepth 100000 in
set_option maxHeartbeats 4000000 in
theorem ct_X3_rankOf (l : Launch) (G : va_G) (T : Nat → ClassId) (b : Nat) (z : Nat → Nat) (a1 : Int32) (x : mm_M) {r : Int32} (h : fn_X3_rankOf a1 x = some r) : mm_Ci l yX3_rankOf wsX3_rankOf rm_X3_rankOf G T b z [.ref (b + 1), .int a1] x r x := by
  unfold fn_X3_rankOf at h
  refine mm_start (cc := cX3_rankOf) (maxL := 6) (ret := (some .int)) (by decide) rfl (Nat.le_of_ble_eq_true rfl) (fun p e s m below meth c ls C hr hlk hH hl => ?_)
  have hl : lv_has ls 6 [(0, .ref (b + 1)), (1, .int a1)] := hl
  have hx := C.1
  have hb := C.2.1
  have w1 := C.2.2.2.2.1 (.fieldLink RX3 25 "LandingFines$River" "landings" "[LLandingFines$Landing;") (by decide +kernel)
  have w2 := C.2.2.2.2.1 (.fieldLink RX3 88 "LandingFines$Landing" "fare" "I") (by decide +kernel)
  have hin1 : ∀ w ∈ wsX10, w ∈ wsX3_rankOf := by decide +kernel
  have hin3 : ∀ w ∈ wsX30, w ∈ wsX3_rankOf := by decide +kernel
  refine lv_iconst (v := 0) hx hb dX3_rankOf_0 (by decide) ?_
  refine lv_istore_n (lv' := [(2, .int 0), (0, .ref (b + 1)), (1, .int a1)]) hx hb dX3_rankOf_1 rfl hl (by decide) rfl (fun ls hl => ?_)
  refine lv_aload_n hx hb dX3_rankOf_2 rfl (lv_at hl 1 rfl) ?_
  refine mm_get (v := .ref (b + 3)) C hH hin3 rfl kl_1 (mm_e3 kd_1) (j := 1) (by decide) rfl w1 rfl dX3_rankOf_3 ?_
  refine lv_iload_n hx hb dX3_rankOf_6 rfl (lv_at hl 2 rfl) ?_
  obtain ⟨g1, h⟩ := mm_grn h
  refine mm_ald9 C hH kd_3 g1 dX3_rankOf_7 ?_
  refine mm_get (v := .int (x (3 + 5 + Int32.toNatClampNeg a1) 1)) C hH hin1 rfl (mm_lt (mm_ldc g1) (by decide)) (mm_e1 (mm_ldc g1)) (j := 1) (by decide) rfl w2 rfl dX3_rankOf_8 ?_
  obtain ⟨v1, e1, h⟩ := mm_bnd h
  refine mm_nmi e1 ?_
  refine lv_istore_n (lv' := [(3, .int v1), (2, .int 0), (0, .ref (b + 1)), (1, .int a1)]) hx hb dX3_rankOf_11 rfl hl (by decide) rfl (fun ls hl => ?_)
  refine lv_iconst (v := 0) hx hb dX3_rankOf_12 (by decide) ?_
  refine lv_istore (lv' := [(4, .int 0), (3, .int v1), (2, .int 0), (0, .ref (b + 1)), (1, .int a1)]) hx hb dX3_rankOf_13 hl (by decide) rfl (fun ls hl => ?_)
  obtain ⟨v2, e2, h⟩ := mm_bnd h
  refine lp_X3_rankOf_15 C a1 v1 9 0 0 x _ _ _ _ e2 hH (lv_sub hl [3, 4, 2, 1, 0] rfl) (fun H locs ls hH hl => ?_)
  refine lv_iload_n hx hb dX3_rankOf_74 rfl (lv_at hl 0 rfl) ?_
  exact mm_iretP C hH hr hlk rfl h dX3_rankOf_75
def fn_X3_chosen_2 : Nat → Int32 → Int32 → mm_M → Option Int32
  | 0, _, _, _ => none
  | n + 1, a1, i2, x => if (x 1 2) ≤ i2 then some ((-1) : Int32) else if i2 < 0 ∨ 8 ≤ Int32.toNatClampNeg i2 then none else (fn_X1_canBeTaken (3 + 5 + Int32.toNatClampNeg i2) x).bind fun v1 => if v1 = 0 then (some (i2 + 1)).bind fun v2 => fn_X3_chosen_2 n a1 v2 x else (fn_X3_rankOf i2 x).bind fun v3 => if v3 = a1 then some i2 else (some (i2 + 1)).bind fun v4 => fn_X3_chosen_2 n a1 v4 x
def fn_X3_chosen (a1 : Int32) (x : mm_M) : Option Int32 :=
  fn_X3_chosen_2 9 a1 0 x
abbrev rm_X3_chosen : Room := { frames := 2, cells := 0, slots := 0, locals := 45 }
theorem df_X3_chosen : yX3_chosen.cls = RX3 ∧ yX3_chosen.cls ≠ "java/lang/invoke/MethodHandle" ∧ yX3_chosen.cls ≠ "java/lang/invoke/VarHandle" ∧ (parseMethodDescriptor yX3_chosen.desc).map (fun d => d.parameters.length) = some 1 := by decide +kernel
set_option maxRecDepth 100000 in
set_option maxHeartbeats 4000000 in
theorem lp_X3_chosen_2 {p : Program} {l : Launch} {e : Env} {s : State} {m : MethodId} {args : Array Value} {below : List Frame} {meth : Method} {c : Code} {G : va_G} {T : Nat → ClassId} {b : Nat} {z : Nat → Nat} (C : mm_C p m c cX3_chosen 3 s args wsX3_chosen RX3 G T b z) (a1 : Int32) (hr : meth.sig.returnType = (some .int)) (hlk : meth.locks = false) : ∀ (n : Nat) (i2 : Int32) (x : mm_M) (H : Heap) (locs : List Loc) (ls : Array Slot) (r : Int32), fn_X3_chosen_2 n a1 i2 x = some r → mm_H G T b x s H locs → lv_has ls 3 [(0, .ref (b + 1)), (1, .int a1), (2, .int i2)] → W p l e rm_X3_chosen s m args below meth c H locs 0 0 (MQ below (mm_Qi G T b r x) args s 0 0 (mm_A b)) (F0 m 2 ls []) := by
  have hx := C.1
  have hb := C.2.1
  have w1 := C.2.2.2.2.1 (.fieldLink RX3 29 "LandingFines$River" "landingCount" "I") (by decide +kernel)
  have w2 := C.2.2.2.2.1 (.fieldLink RX3 25 "LandingFines$River" "landings" "[LLandingFines$Landing;") (by decide +kernel)
  have hin3 : ∀ w ∈ wsX30, w ∈ wsX3_chosen := by decide +kernel
  intro n
  induction n with
  | zero => intro _ _ _ _ _ _ h; cases (show (none : Option Int32) = some _ from h)
  | succ n ih =>
    intro i2 x H locs ls r h hH hl
    rw [fn_X3_chosen_2] at h
    refine lv_iload_n hx hb dX3_chosen_2 rfl (lv_at hl 2 rfl) ?_
    refine lv_aload_n hx hb dX3_chosen_3 rfl (lv_at hl 0 rfl) ?_
    refine mm_get (v := .int (x 1 2)) C hH hin3 rfl kl_1 (mm_e3 kd_1) (j := 2) (by decide) rfl w1 rfl dX3_chosen_4 ?_
    refine lv_icmp_ge (tgt := 39) hx hb dX3_chosen_7 (by decide) (fun c1 => ?_) (fun c1 => ?_)
    · have h := mm_pos c1 h
      have hl := lv_sub (l' := []) hl [] rfl
      refine lv_iconst (v := (-1)) hx hb dX3_chosen_39 (by decide) ?_
      exact mm_iretP C hH hr hlk rfl h dX3_chosen_40
    · have h := mm_neg c1 h
      refine lv_aload_n hx hb dX3_chosen_10 rfl (lv_at hl 0 rfl) ?_
      refine mm_get (v := .ref (b + 3)) C hH hin3 rfl kl_1 (mm_e3 kd_1) (j := 1) (by decide) rfl w2 rfl dX3_chosen_11 ?_
      refine lv_iload_n hx hb dX3_chosen_14 rfl (lv_at hl 2 rfl) ?_
      obtain ⟨g1, h⟩ := mm_grn h
      refine mm_ald9 C hH kd_3 g1 dX3_chosen_15 ?_
      obtain ⟨v1, e1, h⟩ := mm_bnd h
      refine mm_goi hH (va_runV (As := []) (rest := []) ⟨hx, hb, C.2.2.1, C.2.2.2.1, C.2.2.2.2.1⟩ (ct_X1_canBeTaken l G T b z (3 + 5 + Int32.toNatClampNeg i2) x e1) (cwV 0 C.2.2.2.2.1 gX3_chosen_X1_canBeTaken rfl rfl rfl df_X1_canBeTaken ⟨Nat.le_of_ble_eq_true rfl, Nat.le_of_ble_eq_true rfl⟩) ⟨mm_B.blind, mm_recv (q := (RX1, TX1, 8)) C hH (mm_lt (mm_ldc g1) (by decide)) (mm_e1 (mm_ldc g1)) rfl, mm_pre C hH⟩ rfl rfl hl.1 rfl (lv_room (Nat.le_of_ble_eq_true rfl)) dX3_chosen_16 ⟨Nat.zero_le _, Nat.zero_le _⟩) (fun H locs hH => ?_)
      refine lv_if_eq (tgt := 33) hx hb dX3_chosen_19 (by decide) (fun c2 => ?_) (fun c2 => ?_)
      · have h := mm_pos c2 h
        obtain ⟨v2, e2, h⟩ := mm_bnd h
        refine lv_iinc (v := v2) (lv' := [(2, .int v2), (0, .ref (b + 1)), (1, .int a1)]) hx hb dX3_chosen_33 hl (k := 2) rfl (Option.some.inj e2) (by decide) rfl (fun ls hl => ?_)
        refine lv_goto (tgt := 2) hx hb dX3_chosen_36 (by decide) ?_
        exact ih v2 x _ _ _ _ h hH (lv_sub hl [1, 2, 0] rfl)
      · have h := mm_neg c2 h
        refine lv_aload_n hx hb dX3_chosen_22 rfl (lv_at hl 0 rfl) ?_
        refine lv_iload_n hx hb dX3_chosen_23 rfl (lv_at hl 2 rfl) ?_
        obtain ⟨v3, e3, h⟩ := mm_bnd h
        refine mm_goi hH (va_runV (As := [.int i2]) (rest := []) ⟨hx, hb, C.2.2.1, C.2.2.2.1, C.2.2.2.2.1⟩ (ct_X3_rankOf l G T b z i2 x e3) (cwV 1 C.2.2.2.2.1 gX3_chosen_X3_rankOf rfl rfl rfl df_X3_rankOf ⟨Nat.le_of_ble_eq_true rfl, Nat.le_of_ble_eq_true rfl⟩) ⟨mm_B.blind, mm_recv (q := (RX3, TX3, 7)) C hH kl_1 (mm_e3 kd_1) rfl, mm_pre C hH⟩ rfl rfl hl.1 rfl (lv_room (Nat.le_of_ble_eq_true rfl)) dX3_chosen_24 ⟨Nat.zero_le _, Nat.zero_le _⟩) (fun H locs hH => ?_)
        refine lv_iload_n hx hb dX3_chosen_27 rfl (lv_at hl 1 rfl) ?_
        refine lv_icmp_ne (tgt := 33) hx hb dX3_chosen_28 (by decide) (fun c3 => ?_) (fun c3 => ?_)
        · have h := mm_neg c3 h
          obtain ⟨v4, e4, h⟩ := mm_bnd h
          refine lv_iinc (v := v4) (lv' := [(2, .int v4), (0, .ref (b + 1)), (1, .int a1)]) hx hb dX3_chosen_33 hl (k := 2) rfl (Option.some.inj e4) (by decide) rfl (fun ls hl => ?_)
          refine lv_goto (tgt := 2) hx hb dX3_chosen_36 (by decide) ?_
          exact ih v4 x _ _ _ _ h hH (lv_sub hl [1, 2, 0] rfl)
        · have h := mm_pos c3 h
          have hl := lv_sub (l' := [(2, .int i2)]) hl [2] rfl
          refine lv_iload_n hx hb dX3_chosen_31 rfl (lv_at hl 0 rfl) ?_
          exact mm_iretP C hH hr hlk rfl h dX3_chosen_32
set_option maxRecDepth 100000 in
set_option maxHeartbeats 4000000 in
theorem ct_X3_chosen (l : Launch) (G : va_G) (T : Nat → ClassId) (b : Nat) (z : Nat → Nat) (a1 : Int32) (x : mm_M) {r : Int32} (h : fn_X3_chosen a1 x = some r) : mm_Ci l yX3_chosen wsX3_chosen rm_X3_chosen G T b z [.ref (b + 1), .int a1] x r x := by
  unfold fn_X3_chosen at h
  refine mm_start (cc := cX3_chosen) (maxL := 3) (ret := (some .int)) (by decide) rfl (Nat.le_of_ble_eq_true rfl) (fun p e s m below meth c ls C hr hlk hH hl => ?_)
  have hl : lv_has ls 3 [(0, .ref (b + 1)), (1, .int a1)] := hl
  have hx := C.1
  have hb := C.2.1
  refine lv_iconst (v := 0) hx hb dX3_chosen_0 (by decide) ?_
  refine lv_istore_n (lv' := [(2, .int 0), (0, .ref (b + 1)), (1, .int a1)]) hx hb dX3_chosen_1 rfl hl (by decide) rfl (fun ls hl => ?_)
  exact lp_X3_chosen_2 C a1  hr hlk 9 0 x _ _ _ _ h hH (lv_sub hl [1, 2, 0] rfl)
def fn_X3_openOnes_4 : Nat → Int32 → Int32 → mm_M → Option Int32
  | 0, _, _, _ => none
  | n + 1, i1, i2, x => if (x 1 2) ≤ i2 then some (i1) else if i2 < 0 ∨ 8 ≤ Int32.toNatClampNeg i2 then none else if (x (3 + 5 + Int32.toNatClampNeg i2) 0) = 0 then (some (i2 + 1)).bind fun v1 => fn_X3_openOnes_4 n  i1 v1 x else (some ((i1 ||| ((1 : Int32) <<< (i2 &&& 31))) : Int32)).bind fun v2 => (some (i2 + 1)).bind fun v3 => fn_X3_openOnes_4 n  v2 v3 x
def fn_X3_openOnes  (x : mm_M) : Option Int32 :=
  (fn_X3_openOnes_4 9 0 0 x).bind fun v1 => some v1
abbrev rm_X3_openOnes : Room := { frames := 0, cells := 0, slots := 0, locals := 0 }
theorem df_X3_openOnes : yX3_openOnes.cls = RX3 ∧ yX3_openOnes.cls ≠ "java/lang/invoke/MethodHandle" ∧ yX3_openOnes.cls ≠ "java/lang/invoke/VarHandle" ∧ (parseMethodDescriptor yX3_openOnes.desc).map (fun d => d.parameters.length) = some 0 := by decide +kernel
set_option maxRecDepth 100000 in
set_option maxHeartbeats 4000000 in
theorem lp_X3_openOnes_4 {p : Program} {l : Launch} {e : Env} {s : State} {m : MethodId} {args : Array Value} {below : List Frame} {meth : Method} {c : Code} {Q : State → Prop} {G : va_G} {T : Nat → ClassId} {b : Nat} {z : Nat → Nat} (C : mm_C p m c cX3_openOnes 3 s args wsX3_openOnes RX3 G T b z)  : ∀ (n : Nat) (i1 : Int32) (i2 : Int32) (x : mm_M) (H : Heap) (locs : List Loc) (ls : Array Slot) (r1 : Int32), fn_X3_openOnes_4 n i1 i2 x = some (r1) → mm_H G T b x s H locs → lv_has ls 3 [(0, .ref (b + 1)), (1, .int i1), (2, .int i2)] → (∀ (H1 : Heap) (locs1 : List Loc) (ls1 : Array Slot), mm_H G T b x s H1 locs1 → lv_has ls1 3 [(1, .int r1)] → W p l e rm_X3_openOnes s m args below meth c H1 locs1 0 0 Q (F0 m 36 ls1 [])) → W p l e rm_X3_openOnes s m args below meth c H locs 0 0 Q (F0 m 4 ls []) := by
  have hx := C.1
  have hb := C.2.1
  have w1 := C.2.2.2.2.1 (.fieldLink RX3 29 "LandingFines$River" "landingCount" "I") (by decide +kernel)
  have w2 := C.2.2.2.2.1 (.fieldLink RX3 25 "LandingFines$River" "landings" "[LLandingFines$Landing;") (by decide +kernel)
  have w3 := C.2.2.2.2.1 (.fieldLink RX3 80 "LandingFines$Landing" "isOpen" "Z") (by decide +kernel)
  have hin1 : ∀ w ∈ wsX10, w ∈ wsX3_openOnes := by decide +kernel
  have hin3 : ∀ w ∈ wsX30, w ∈ wsX3_openOnes := by decide +kernel
  intro n
  induction n with
  | zero => intro _ _ _ _ _ _ _ h; cases (show (none : Option Int32) = some _ from h)
  | succ n ih =>
    intro i1 i2 x H locs ls r1 h hH hl kk
    rw [fn_X3_openOnes_4] at h
    refine lv_iload_n hx hb dX3_openOnes_4 rfl (lv_at hl 2 rfl) ?_
    refine lv_aload_n hx hb dX3_openOnes_5 rfl (lv_at hl 0 rfl) ?_
    refine mm_get (v := .int (x 1 2)) C hH hin3 rfl kl_1 (mm_e3 kd_1) (j := 2) (by decide) rfl w1 rfl dX3_openOnes_6 ?_
    refine lv_icmp_ge (tgt := 36) hx hb dX3_openOnes_9 (by decide) (fun c1 => ?_) (fun c1 => ?_)
    · have h := mm_pos c1 h
      have hl := lv_sub (l' := [(1, .int i1)]) hl [1] rfl
      cases h
      exact kk _ _ _ hH (lv_sub hl [0] rfl)
    · have h := mm_neg c1 h
      refine lv_aload_n hx hb dX3_openOnes_12 rfl (lv_at hl 0 rfl) ?_
      refine mm_get (v := .ref (b + 3)) C hH hin3 rfl kl_1 (mm_e3 kd_1) (j := 1) (by decide) rfl w2 rfl dX3_openOnes_13 ?_
      refine lv_iload_n hx hb dX3_openOnes_16 rfl (lv_at hl 2 rfl) ?_
      obtain ⟨g1, h⟩ := mm_grn h
      refine mm_ald9 C hH kd_3 g1 dX3_openOnes_17 ?_
      refine mm_get (v := .int (x (3 + 5 + Int32.toNatClampNeg i2) 0)) C hH hin1 rfl (mm_lt (mm_ldc g1) (by decide)) (mm_e1 (mm_ldc g1)) (j := 0) (by decide) rfl w3 rfl dX3_openOnes_18 ?_
      refine lv_if_eq (tgt := 30) hx hb dX3_openOnes_21 (by decide) (fun c2 => ?_) (fun c2 => ?_)
      · have h := mm_pos c2 h
        obtain ⟨v1, e1, h⟩ := mm_bnd h
        refine lv_iinc (v := v1) (lv' := [(2, .int v1), (0, .ref (b + 1)), (1, .int i1)]) hx hb dX3_openOnes_30 hl (k := 2) rfl (Option.some.inj e1) (by decide) rfl (fun ls hl => ?_)
        refine lv_goto (tgt := 4) hx hb dX3_openOnes_33 (by decide) ?_
        exact ih i1 v1 x _ _ _ _ h hH (lv_sub hl [1, 2, 0] rfl) kk
      · have h := mm_neg c2 h
        refine lv_iload_n hx hb dX3_openOnes_24 rfl (lv_at hl 1 rfl) ?_
        refine lv_iconst (v := 1) hx hb dX3_openOnes_25 (by decide) ?_
        refine lv_iload_n hx hb dX3_openOnes_26 rfl (lv_at hl 2 rfl) ?_
        refine lv_ishl hx hb dX3_openOnes_27 ?_
        refine lv_ior hx hb dX3_openOnes_28 ?_
        obtain ⟨v2, e2, h⟩ := mm_bnd h
        refine mm_nmi e2 ?_
        refine lv_istore_n (lv' := [(1, .int v2), (0, .ref (b + 1)), (2, .int i2)]) hx hb dX3_openOnes_29 rfl hl (by decide) rfl (fun ls hl => ?_)
        obtain ⟨v3, e3, h⟩ := mm_bnd h
        refine lv_iinc (v := v3) (lv' := [(2, .int v3), (1, .int v2), (0, .ref (b + 1))]) hx hb dX3_openOnes_30 hl (k := 2) rfl (Option.some.inj e3) (by decide) rfl (fun ls hl => ?_)
        refine lv_goto (tgt := 4) hx hb dX3_openOnes_33 (by decide) ?_
        exact ih v2 v3 x _ _ _ _ h hH (lv_sub hl [2, 1, 0] rfl) kk
set_option maxRecDepth 100000 in
set_option maxHeartbeats 4000000 in
theorem ct_X3_openOnes (l : Launch) (G : va_G) (T : Nat → ClassId) (b : Nat) (z : Nat → Nat)  (x : mm_M) {r : Int32} (h : fn_X3_openOnes  x = some r) : mm_Ci l yX3_openOnes wsX3_openOnes rm_X3_openOnes G T b z [.ref (b + 1)] x r x := by
  unfold fn_X3_openOnes at h
  refine mm_start (cc := cX3_openOnes) (maxL := 3) (ret := (some .int)) (by decide) rfl (Nat.le_of_ble_eq_true rfl) (fun p e s m below meth c ls C hr hlk hH hl => ?_)
  have hl : lv_has ls 3 [(0, .ref (b + 1))] := hl
  have hx := C.1
  have hb := C.2.1
  refine lv_iconst (v := 0) hx hb dX3_openOnes_0 (by decide) ?_
  refine lv_istore_n (lv' := [(1, .int 0), (0, .ref (b + 1))]) hx hb dX3_openOnes_1 rfl hl (by decide) rfl (fun ls hl => ?_)
  refine lv_iconst (v := 0) hx hb dX3_openOnes_2 (by decide) ?_
  refine lv_istore_n (lv' := [(2, .int 0), (1, .int 0), (0, .ref (b + 1))]) hx hb dX3_openOnes_3 rfl hl (by decide) rfl (fun ls hl => ?_)
  obtain ⟨v1, e1, h⟩ := mm_bnd h
  refine lp_X3_openOnes_4 C 9 0 0 x _ _ _ _ e1 hH (lv_sub hl [2, 1, 0] rfl) (fun H locs ls hH hl => ?_)
  refine lv_iload_n hx hb dX3_openOnes_36 rfl (lv_at hl 0 rfl) ?_
  exact mm_iretP C hH hr hlk rfl h dX3_openOnes_37
def fn_X3_shunnedOnes_4 : Nat → Int32 → Int32 → mm_M → Option Int32
  | 0, _, _, _ => none
  | n + 1, i1, i2, x => if (x 1 2) ≤ i2 then some (i1) else if i2 < 0 ∨ 8 ≤ Int32.toNatClampNeg i2 then none else if (x (3 + 5 + Int32.toNatClampNeg i2) 3) = 0 then (some (i2 + 1)).bind fun v1 => fn_X3_shunnedOnes_4 n  i1 v1 x else (some ((i1 ||| ((1 : Int32) <<< (i2 &&& 31))) : Int32)).bind fun v2 => (some (i2 + 1)).bind fun v3 => fn_X3_shunnedOnes_4 n  v2 v3 x
def fn_X3_shunnedOnes  (x : mm_M) : Option Int32 :=
  (fn_X3_shunnedOnes_4 9 0 0 x).bind fun v1 => some v1
abbrev rm_X3_shunnedOnes : Room := { frames := 0, cells := 0, slots := 0, locals := 0 }
theorem df_X3_shunnedOnes : yX3_shunnedOnes.cls = RX3 ∧ yX3_shunnedOnes.cls ≠ "java/lang/invoke/MethodHandle" ∧ yX3_shunnedOnes.cls ≠ "java/lang/invoke/VarHandle" ∧ (parseMethodDescriptor yX3_shunnedOnes.desc).map (fun d => d.parameters.length) = some 0 := by decide +kernel
set_option maxRecDepth 100000 in
set_option maxHeartbeats 4000000 in
theorem lp_X3_shunnedOnes_4 {p : Program} {l : Launch} {e : Env} {s : State} {m : MethodId} {args : Array Value} {below : List Frame} {meth : Method} {c : Code} {Q : State → Prop} {G : va_G} {T : Nat → ClassId} {b : Nat} {z : Nat → Nat} (C : mm_C p m c cX3_shunnedOnes 3 s args wsX3_shunnedOnes RX3 G T b z)  : ∀ (n : Nat) (i1 : Int32) (i2 : Int32) (x : mm_M) (H : Heap) (locs : List Loc) (ls : Array Slot) (r1 : Int32), fn_X3_shunnedOnes_4 n i1 i2 x = some (r1) → mm_H G T b x s H locs → lv_has ls 3 [(0, .ref (b + 1)), (1, .int i1), (2, .int i2)] → (∀ (H1 : Heap) (locs1 : List Loc) (ls1 : Array Slot), mm_H G T b x s H1 locs1 → lv_has ls1 3 [(1, .int r1)] → W p l e rm_X3_shunnedOnes s m args below meth c H1 locs1 0 0 Q (F0 m 36 ls1 [])) → W p l e rm_X3_shunnedOnes s m args below meth c H locs 0 0 Q (F0 m 4 ls []) := by
  have hx := C.1
  have hb := C.2.1
  have w1 := C.2.2.2.2.1 (.fieldLink RX3 29 "LandingFines$River" "landingCount" "I") (by decide +kernel)
  have w2 := C.2.2.2.2.1 (.fieldLink RX3 25 "LandingFines$River" "landings" "[LLandingFines$Landing;") (by decide +kernel)
  have w3 := C.2.2.2.2.1 (.fieldLink RX3 148 "LandingFines$Landing" "isShunned" "Z") (by decide +kernel)
  have hin1 : ∀ w ∈ wsX10, w ∈ wsX3_shunnedOnes := by decide +kernel
  have hin3 : ∀ w ∈ wsX30, w ∈ wsX3_shunnedOnes := by decide +kernel
  intro n
  induction n with
  | zero => intro _ _ _ _ _ _ _ h; cases (show (none : Option Int32) = some _ from h)
  | succ n ih =>
    intro i1 i2 x H locs ls r1 h hH hl kk
    rw [fn_X3_shunnedOnes_4] at h
    refine lv_iload_n hx hb dX3_shunnedOnes_4 rfl (lv_at hl 2 rfl) ?_
    refine lv_aload_n hx hb dX3_shunnedOnes_5 rfl (lv_at hl 0 rfl) ?_
    refine mm_get (v := .int (x 1 2)) C hH hin3 rfl kl_1 (mm_e3 kd_1) (j := 2) (by decide) rfl w1 rfl dX3_shunnedOnes_6 ?_
    refine lv_icmp_ge (tgt := 36) hx hb dX3_shunnedOnes_9 (by decide) (fun c1 => ?_) (fun c1 => ?_)
    · have h := mm_pos c1 h
      have hl := lv_sub (l' := [(1, .int i1)]) hl [1] rfl
      cases h
      exact kk _ _ _ hH (lv_sub hl [0] rfl)
    · have h := mm_neg c1 h
      refine lv_aload_n hx hb dX3_shunnedOnes_12 rfl (lv_at hl 0 rfl) ?_
      refine mm_get (v := .ref (b + 3)) C hH hin3 rfl kl_1 (mm_e3 kd_1) (j := 1) (by decide) rfl w2 rfl dX3_shunnedOnes_13 ?_
      refine lv_iload_n hx hb dX3_shunnedOnes_16 rfl (lv_at hl 2 rfl) ?_
      obtain ⟨g1, h⟩ := mm_grn h
      refine mm_ald9 C hH kd_3 g1 dX3_shunnedOnes_17 ?_
      refine mm_get (v := .int (x (3 + 5 + Int32.toNatClampNeg i2) 3)) C hH hin1 rfl (mm_lt (mm_ldc g1) (by decide)) (mm_e1 (mm_ldc g1)) (j := 3) (by decide) rfl w3 rfl dX3_shunnedOnes_18 ?_
      refine lv_if_eq (tgt := 30) hx hb dX3_shunnedOnes_21 (by decide) (fun c2 => ?_) (fun c2 => ?_)
      · have h := mm_pos c2 h
        obtain ⟨v1, e1, h⟩ := mm_bnd h
        refine lv_iinc (v := v1) (lv' := [(2, .int v1), (0, .ref (b + 1)), (1, .int i1)]) hx hb dX3_shunnedOnes_30 hl (k := 2) rfl (Option.some.inj e1) (by decide) rfl (fun ls hl => ?_)
        refine lv_goto (tgt := 4) hx hb dX3_shunnedOnes_33 (by decide) ?_
        exact ih i1 v1 x _ _ _ _ h hH (lv_sub hl [1, 2, 0] rfl) kk
      · have h := mm_neg c2 h
        refine lv_iload_n hx hb dX3_shunnedOnes_24 rfl (lv_at hl 1 rfl) ?_
        refine lv_iconst (v := 1) hx hb dX3_shunnedOnes_25 (by decide) ?_
        refine lv_iload_n hx hb dX3_shunnedOnes_26 rfl (lv_at hl 2 rfl) ?_
        refine lv_ishl hx hb dX3_shunnedOnes_27 ?_
        refine lv_ior hx hb dX3_shunnedOnes_28 ?_
        obtain ⟨v2, e2, h⟩ := mm_bnd h
        refine mm_nmi e2 ?_
        refine lv_istore_n (lv' := [(1, .int v2), (0, .ref (b + 1)), (2, .int i2)]) hx hb dX3_shunnedOnes_29 rfl hl (by decide) rfl (fun ls hl => ?_)
        obtain ⟨v3, e3, h⟩ := mm_bnd h
        refine lv_iinc (v := v3) (lv' := [(2, .int v3), (1, .int v2), (0, .ref (b + 1))]) hx hb dX3_shunnedOnes_30 hl (k := 2) rfl (Option.some.inj e3) (by decide) rfl (fun ls hl => ?_)
        refine lv_goto (tgt := 4) hx hb dX3_shunnedOnes_33 (by decide) ?_
        exact ih v2 v3 x _ _ _ _ h hH (lv_sub hl [2, 1, 0] rfl) kk
set_option maxRecDepth 100000 in
set_option maxHeartbeats 4000000 in
theorem ct_X3_shunnedOnes (l : Launch) (G : va_G) (T : Nat → ClassId) (b : Nat) (z : Nat → Nat)  (x : mm_M) {r : Int32} (h : fn_X3_shunnedOnes  x = some r) : mm_Ci l yX3_shunnedOnes wsX3_shunnedOnes rm_X3_shunnedOnes G T b z [.ref (b + 1)] x r x := by
  unfold fn_X3_shunnedOnes at h
  refine mm_start (cc := cX3_shunnedOnes) (maxL := 3) (ret := (some .int)) (by decide) rfl (Nat.le_of_ble_eq_true rfl) (fun p e s m below meth c ls C hr hlk hH hl => ?_)
  have hl : lv_has ls 3 [(0, .ref (b + 1))] := hl
  have hx := C.1
  have hb := C.2.1
  refine lv_iconst (v := 0) hx hb dX3_shunnedOnes_0 (by decide) ?_
  refine lv_istore_n (lv' := [(1, .int 0), (0, .ref (b + 1))]) hx hb dX3_shunnedOnes_1 rfl hl (by decide) rfl (fun ls hl => ?_)
  refine lv_iconst (v := 0) hx hb dX3_shunnedOnes_2 (by decide) ?_
  refine lv_istore_n (lv' := [(2, .int 0), (1, .int 0), (0, .ref (b + 1))]) hx hb dX3_shunnedOnes_3 rfl hl (by decide) rfl (fun ls hl => ?_)
  obtain ⟨v1, e1, h⟩ := mm_bnd h
  refine lp_X3_shunnedOnes_4 C 9 0 0 x _ _ _ _ e1 hH (lv_sub hl [2, 1, 0] rfl) (fun H locs ls hH hl => ?_)
  refine lv_iload_n hx hb dX3_shunnedOnes_36 rfl (lv_at hl 0 rfl) ?_
  exact mm_iretP C hH hr hlk rfl h dX3_shunnedOnes_37
def fn_X3_tell (a1 : Int32) (x : mm_M) : Option Int32 :=
  if a1 = 0 then some (x 1 3) else if a1 = 1 then some (x 1 2) else if a1 = 2 then (fn_X3_openOnes x).bind fun v1 => some v1 else if a1 = 3 then (fn_X3_shunnedOnes x).bind fun v2 => some v2 else if a1 = 4 then some (x 1 4) else if a1 = 5 then some (x 1 5) else if a1 = 6 then some (x 4 3) else if a1 < 7 then some ((-2) : Int32) else if (7 : Int32) ≤ (a1 - 7) then some ((-2) : Int32) else if (a1 - 7) < 0 ∨ 7 ≤ Int32.toNatClampNeg (a1 - 7) then none else some (x 2 (Int32.toNatClampNeg (a1 - 7)))
abbrev rm_X3_tell : Room := { frames := 1, cells := 0, slots := 0, locals := 22 }
theorem df_X3_tell : yX3_tell.cls = RX3 ∧ yX3_tell.cls ≠ "java/lang/invoke/MethodHandle" ∧ yX3_tell.cls ≠ "java/lang/invoke/VarHandle" ∧ (parseMethodDescriptor yX3_tell.desc).map (fun d => d.parameters.length) = some 1 := by decide +kernel
set_option maxRecDepth 100000 in
set_option maxHeartbeats 4000000 in
theorem ct_X3_tell (l : Launch) (G : va_G) (T : Nat → ClassId) (b : Nat) (z : Nat → Nat) (a1 : Int32) (x : mm_M) {r : Int32} (h : fn_X3_tell a1 x = some r) : mm_Ci l yX3_tell wsX3_tell rm_X3_tell G T b z [.ref (b + 1), .int a1] x r x := by
  unfold fn_X3_tell at h
  refine mm_start (cc := cX3_tell) (maxL := 2) (ret := (some .int)) (by decide) rfl (Nat.le_of_ble_eq_true rfl) (fun p e s m below meth c ls C hr hlk hH hl => ?_)
  have hl : lv_has ls 2 [(0, .ref (b + 1)), (1, .int a1)] := hl
  have hx := C.1
  have hb := C.2.1
  have w1 := C.2.2.2.2.1 (.fieldLink RX3 33 "LandingFines$River" "minutesSoFar" "I") (by decide +kernel)
  have w2 := C.2.2.2.2.1 (.fieldLink RX3 29 "LandingFines$River" "landingCount" "I") (by decide +kernel)
  have w3 := C.2.2.2.2.1 (.fieldLink RX3 36 "LandingFines$River" "taken" "I") (by decide +kernel)
  have w4 := C.2.2.2.2.1 (.fieldLink RX3 39 "LandingFines$River" "switches" "I") (by decide +kernel)
  have w5 := C.2.2.2.2.1 (.fieldLink RX3 45 "LandingFines$River" "journal" "LLandingFines$Journal;") (by decide +kernel)
  have w6 := C.2.2.2.2.1 (.fieldLink RX3 145 "LandingFines$Journal" "size" "I") (by decide +kernel)
  have w7 := C.2.2.2.2.1 (.fieldLink RX3 18 "LandingFines$River" "settings" "[I") (by decide +kernel)
  have hin0 : ∀ w ∈ wsX00, w ∈ wsX3_tell := by decide +kernel
  have hin3 : ∀ w ∈ wsX30, w ∈ wsX3_tell := by decide +kernel
  refine lv_iload_n hx hb dX3_tell_0 rfl (lv_at hl 1 rfl) ?_
  by_cases c1 : a1 = 0
  · have h := mm_pos c1 h
    refine lv_tableIn (off := 43) (tgt := 44) hx hb dX3_tell_1 (by rw [c1]; decide) (by rw [c1]; decide) (by rw [c1]; decide) (by decide) ?_
    have hl := lv_sub (l' := [(0, .ref (b + 1))]) hl [0] rfl
    refine lv_aload_n hx hb dX3_tell_44 rfl (lv_at hl 0 rfl) ?_
    refine mm_get (v := .int (x 1 3)) C hH hin3 rfl kl_1 (mm_e3 kd_1) (j := 3) (by decide) rfl w1 rfl dX3_tell_45 ?_
    exact mm_iretP C hH hr hlk rfl h dX3_tell_48
  have h := mm_neg c1 h
  by_cases c2 : a1 = 1
  · have h := mm_pos c2 h
    refine lv_tableIn (off := 48) (tgt := 49) hx hb dX3_tell_1 (by rw [c2]; decide) (by rw [c2]; decide) (by rw [c2]; decide) (by decide) ?_
    have hl := lv_sub (l' := [(0, .ref (b + 1))]) hl [0] rfl
    refine lv_aload_n hx hb dX3_tell_49 rfl (lv_at hl 0 rfl) ?_
    refine mm_get (v := .int (x 1 2)) C hH hin3 rfl kl_1 (mm_e3 kd_1) (j := 2) (by decide) rfl w2 rfl dX3_tell_50 ?_
    exact mm_iretP C hH hr hlk rfl h dX3_tell_53
  have h := mm_neg c2 h
  by_cases c3 : a1 = 2
  · have h := mm_pos c3 h
    refine lv_tableIn (off := 53) (tgt := 54) hx hb dX3_tell_1 (by rw [c3]; decide) (by rw [c3]; decide) (by rw [c3]; decide) (by decide) ?_
    have hl := lv_sub (l' := [(0, .ref (b + 1))]) hl [0] rfl
    refine lv_aload_n hx hb dX3_tell_54 rfl (lv_at hl 0 rfl) ?_
    obtain ⟨v1, e1, h⟩ := mm_bnd h
    refine mm_goi hH (va_runV (As := []) (rest := []) ⟨hx, hb, C.2.2.1, C.2.2.2.1, C.2.2.2.2.1⟩ (ct_X3_openOnes l G T b z x e1) (cwV 0 C.2.2.2.2.1 gX3_tell_X3_openOnes rfl rfl rfl df_X3_openOnes ⟨Nat.le_of_ble_eq_true rfl, Nat.le_of_ble_eq_true rfl⟩) ⟨mm_B.blind, mm_recv (q := (RX3, TX3, 7)) C hH kl_1 (mm_e3 kd_1) rfl, mm_pre C hH⟩ rfl rfl hl.1 rfl (lv_room (Nat.le_of_ble_eq_true rfl)) dX3_tell_55 ⟨Nat.zero_le _, Nat.zero_le _⟩) (fun H locs hH => ?_)
    exact mm_iretP C hH hr hlk rfl h dX3_tell_58
  have h := mm_neg c3 h
  by_cases c4 : a1 = 3
  · have h := mm_pos c4 h
    refine lv_tableIn (off := 58) (tgt := 59) hx hb dX3_tell_1 (by rw [c4]; decide) (by rw [c4]; decide) (by rw [c4]; decide) (by decide) ?_
    have hl := lv_sub (l' := [(0, .ref (b + 1))]) hl [0] rfl
    refine lv_aload_n hx hb dX3_tell_59 rfl (lv_at hl 0 rfl) ?_
    obtain ⟨v2, e2, h⟩ := mm_bnd h
    refine mm_goi hH (va_runV (As := []) (rest := []) ⟨hx, hb, C.2.2.1, C.2.2.2.1, C.2.2.2.2.1⟩ (ct_X3_shunnedOnes l G T b z x e2) (cwV 0 C.2.2.2.2.1 gX3_tell_X3_shunnedOnes rfl rfl rfl df_X3_shunnedOnes ⟨Nat.le_of_ble_eq_true rfl, Nat.le_of_ble_eq_true rfl⟩) ⟨mm_B.blind, mm_recv (q := (RX3, TX3, 7)) C hH kl_1 (mm_e3 kd_1) rfl, mm_pre C hH⟩ rfl rfl hl.1 rfl (lv_room (Nat.le_of_ble_eq_true rfl)) dX3_tell_60 ⟨Nat.zero_le _, Nat.zero_le _⟩) (fun H locs hH => ?_)
    exact mm_iretP C hH hr hlk rfl h dX3_tell_63
  have h := mm_neg c4 h
  by_cases c5 : a1 = 4
  · have h := mm_pos c5 h
    refine lv_tableIn (off := 63) (tgt := 64) hx hb dX3_tell_1 (by rw [c5]; decide) (by rw [c5]; decide) (by rw [c5]; decide) (by decide) ?_
    have hl := lv_sub (l' := [(0, .ref (b + 1))]) hl [0] rfl
    refine lv_aload_n hx hb dX3_tell_64 rfl (lv_at hl 0 rfl) ?_
    refine mm_get (v := .int (x 1 4)) C hH hin3 rfl kl_1 (mm_e3 kd_1) (j := 4) (by decide) rfl w3 rfl dX3_tell_65 ?_
    exact mm_iretP C hH hr hlk rfl h dX3_tell_68
  have h := mm_neg c5 h
  by_cases c6 : a1 = 5
  · have h := mm_pos c6 h
    refine lv_tableIn (off := 68) (tgt := 69) hx hb dX3_tell_1 (by rw [c6]; decide) (by rw [c6]; decide) (by rw [c6]; decide) (by decide) ?_
    have hl := lv_sub (l' := [(0, .ref (b + 1))]) hl [0] rfl
    refine lv_aload_n hx hb dX3_tell_69 rfl (lv_at hl 0 rfl) ?_
    refine mm_get (v := .int (x 1 5)) C hH hin3 rfl kl_1 (mm_e3 kd_1) (j := 5) (by decide) rfl w4 rfl dX3_tell_70 ?_
    exact mm_iretP C hH hr hlk rfl h dX3_tell_73
  have h := mm_neg c6 h
  by_cases c7 : a1 = 6
  · have h := mm_pos c7 h
    refine lv_tableIn (off := 73) (tgt := 74) hx hb dX3_tell_1 (by rw [c7]; decide) (by rw [c7]; decide) (by rw [c7]; decide) (by decide) ?_
    have hl := lv_sub (l' := [(0, .ref (b + 1))]) hl [0] rfl
    refine lv_aload_n hx hb dX3_tell_74 rfl (lv_at hl 0 rfl) ?_
    refine mm_get (v := .ref (b + 4)) C hH hin3 rfl kl_1 (mm_e3 kd_1) (j := 6) (by decide) rfl w5 rfl dX3_tell_75 ?_
    refine mm_get (v := .int (x 4 3)) C hH hin0 rfl kl_4 (mm_e0 kd_4) (j := 3) (by decide) rfl w6 rfl dX3_tell_78 ?_
    exact mm_iretP C hH hr hlk rfl h dX3_tell_81
  have h := mm_neg c7 h
  have nc1 := mm_tn (a := 0) c1 (by decide)
  have nc2 := mm_tn (a := 1) c2 (by decide)
  have nc3 := mm_tn (a := 2) c3 (by decide)
  have nc4 := mm_tn (a := 3) c4 (by decide)
  have nc5 := mm_tn (a := 4) c5 (by decide)
  have nc6 := mm_tn (a := 5) c6 (by decide)
  have nc7 := mm_tn (a := 6) c7 (by decide)
  refine lv_tableOut (tgt := 82) hx hb dX3_tell_1 (by omega) (by decide) ?_
  refine lv_iload_n hx hb dX3_tell_82 rfl (lv_at hl 1 rfl) ?_
  refine lv_bipush (v := 7) hx hb dX3_tell_83 (by decide) ?_
  refine lv_icmp_lt (tgt := 112) hx hb dX3_tell_85 (by decide) (fun c8 => ?_) (fun c8 => ?_)
  · have h := mm_pos c8 h
    have hl := lv_sub (l' := []) hl [] rfl
    refine lv_bipush (v := (-2)) hx hb dX3_tell_112 (by decide) ?_
    exact mm_iretP C hH hr hlk rfl h dX3_tell_114
  · have h := mm_neg c8 h
    refine lv_iload_n hx hb dX3_tell_88 rfl (lv_at hl 1 rfl) ?_
    refine lv_bipush (v := 7) hx hb dX3_tell_89 (by decide) ?_
    refine lv_isub hx hb dX3_tell_91 ?_
    refine lv_aload_n hx hb dX3_tell_92 rfl (lv_at hl 0 rfl) ?_
    refine mm_get (v := .ref (b + 2)) C hH hin3 rfl kl_1 (mm_e3 kd_1) (j := 0) (by decide) rfl w7 rfl dX3_tell_93 ?_
    refine mm_alen (v := 7) C hH kl_2 (mm_e6 kd_2) 0 rfl rfl dX3_tell_96 ?_
    refine lv_icmp_ge (tgt := 112) hx hb dX3_tell_97 (by decide) (fun c9 => ?_) (fun c9 => ?_)
    · have h := mm_pos c9 h
      have hl := lv_sub (l' := []) hl [] rfl
      refine lv_bipush (v := (-2)) hx hb dX3_tell_112 (by decide) ?_
      exact mm_iretP C hH hr hlk rfl h dX3_tell_114
    · have h := mm_neg c9 h
      refine lv_aload_n hx hb dX3_tell_100 rfl (lv_at hl 0 rfl) ?_
      refine mm_get (v := .ref (b + 2)) C hH hin3 rfl kl_1 (mm_e3 kd_1) (j := 0) (by decide) rfl w7 rfl dX3_tell_101 ?_
      refine lv_iload_n hx hb dX3_tell_104 rfl (lv_at hl 1 rfl) ?_
      refine lv_bipush (v := 7) hx hb dX3_tell_105 (by decide) ?_
      refine lv_isub hx hb dX3_tell_107 ?_
      obtain ⟨g1, h⟩ := mm_grn h
      refine mm_iald (n := 7) (jn := (Int32.toNatClampNeg (a1 - 7))) C hH kd_2 ln_2 g1 rfl dX3_tell_108 ?_
      refine lv_goto (tgt := 114) hx hb dX3_tell_109 (by decide) ?_
      have hl := lv_sub (l' := []) hl [] rfl
      exact mm_iretP C hH hr hlk rfl h dX3_tell_114
end
section
set_option maxRecDepth 20000 in
theorem ggX4_init_X3_init : GoodIn wsX4_init wsX3_init := goodIn_r _ [23, 24, 2, 3, 25, 26, 27, 28, 29, 30, 31, 32, 33, 34, 35, 36, 37, 38, 39, 40, 41, 18, 19, 42, 43, 44, 45, 46, 47, 48, 49, 50, 51, 52, 53, 64, 65, 66, 67, 68, 69, 70, 92, 93, 94, 95, 96, 84, 85, 86, 87, 88, 89, 90, 91] (by decide +kernel) (by decide +kernel)
set_option maxRecDepth 20000 in
theorem gX4_init_X3_init : GoodIn wsX4_init (wsX3_init) := ggX4_init_X3_init
set_option maxRecDepth 20000 in
theorem ggX4_init_X2_init : GoodIn wsX4_init wsX2_init := goodIn_r _ [55, 56, 2, 3, 57, 58, 59, 60, 61, 62, 63, 78, 79, 80, 81, 82, 83] (by decide +kernel) (by decide +kernel)
set_option maxRecDepth 20000 in
theorem gX4_init_X2_init_n33 : GoodIn wsX4_init (wsX2_init) := ggX4_init_X2_init
set_option maxRecDepth 20000 in
theorem ggX4_init_X1_init : GoodIn wsX4_init wsX1_init := goodIn_r _ [52, 53, 2, 3] (by decide +kernel) (by decide +kernel)
set_option maxRecDepth 20000 in
theorem gX4_init_X1_init_n40 : GoodIn wsX4_init (wsX1_init) := ggX4_init_X1_init
theorem dX4_init_0 : decode cX4_init 0 = .ok (.aload_n 0, 1) := by decide +kernel
theorem dX4_init_1 : decode cX4_init 1 = .ok (.invokespecial 1, 3) := by decide +kernel
theorem dX4_init_4 : decode cX4_init 4 = .ok (.aload_n 0, 1) := by decide +kernel
theorem dX4_init_5 : decode cX4_init 5 = .ok (.new 7, 3) := by decide +kernel
theorem dX4_init_8 : decode cX4_init 8 = .ok (.dup, 1) := by decide +kernel
theorem dX4_init_9 : decode cX4_init 9 = .ok (.invokespecial 9, 3) := by decide +kernel
theorem dX4_init_12 : decode cX4_init 12 = .ok (.putfield 10, 3) := by decide +kernel
theorem dX4_init_15 : decode cX4_init 15 = .ok (.aload_n 0, 1) := by decide +kernel
theorem dX4_init_16 : decode cX4_init 16 = .ok (.bipush 7, 2) := by decide +kernel
theorem dX4_init_18 : decode cX4_init 18 = .ok (.anewarray 7, 3) := by decide +kernel
theorem dX4_init_21 : decode cX4_init 21 = .ok (.putfield 16, 3) := by decide +kernel
theorem dX4_init_24 : decode cX4_init 24 = .ok (.aload_n 0, 1) := by decide +kernel
theorem dX4_init_25 : decode cX4_init 25 = .ok (.iconst 0, 1) := by decide +kernel
theorem dX4_init_26 : decode cX4_init 26 = .ok (.putfield 20, 3) := by decide +kernel
theorem dX4_init_29 : decode cX4_init 29 = .ok (.aload_n 0, 1) := by decide +kernel
theorem dX4_init_30 : decode cX4_init 30 = .ok (.iconst 2, 1) := by decide +kernel
theorem dX4_init_31 : decode cX4_init 31 = .ok (.anewarray 7, 3) := by decide +kernel
theorem dX4_init_34 : decode cX4_init 34 = .ok (.putfield 24, 3) := by decide +kernel
theorem dX4_init_37 : decode cX4_init 37 = .ok (.aload_n 0, 1) := by decide +kernel
theorem dX4_init_38 : decode cX4_init 38 = .ok (.iconst 2, 1) := by decide +kernel
theorem dX4_init_39 : decode cX4_init 39 = .ok (.newarray .boolean, 2) := by decide +kernel
theorem dX4_init_41 : decode cX4_init 41 = .ok (.putfield 27, 3) := by decide +kernel
theorem dX4_init_44 : decode cX4_init 44 = .ok (.aload_n 0, 1) := by decide +kernel
theorem dX4_init_45 : decode cX4_init 45 = .ok (.new 31, 3) := by decide +kernel
theorem dX4_init_48 : decode cX4_init 48 = .ok (.dup, 1) := by decide +kernel
theorem dX4_init_49 : decode cX4_init 49 = .ok (.invokespecial 33, 3) := by decide +kernel
theorem dX4_init_52 : decode cX4_init 52 = .ok (.putfield 34, 3) := by decide +kernel
theorem dX4_init_55 : decode cX4_init 55 = .ok (.aload_n 0, 1) := by decide +kernel
theorem dX4_init_56 : decode cX4_init 56 = .ok (.new 38, 3) := by decide +kernel
theorem dX4_init_59 : decode cX4_init 59 = .ok (.dup, 1) := by decide +kernel
theorem dX4_init_60 : decode cX4_init 60 = .ok (.invokespecial 40, 3) := by decide +kernel
theorem dX4_init_63 : decode cX4_init 63 = .ok (.putfield 41, 3) := by decide +kernel
theorem dX4_init_66 : decode cX4_init 66 = .ok (.iconst 0, 1) := by decide +kernel
theorem dX4_init_67 : decode cX4_init 67 = .ok (.istore_n 1, 1) := by decide +kernel
theorem dX4_init_68 : decode cX4_init 68 = .ok (.iload_n 1, 1) := by decide +kernel
theorem dX4_init_69 : decode cX4_init 69 = .ok (.aload_n 0, 1) := by decide +kernel
theorem dX4_init_70 : decode cX4_init 70 = .ok (.getfield 16, 3) := by decide +kernel
theorem dX4_init_73 : decode cX4_init 73 = .ok (.arraylength, 1) := by decide +kernel
theorem dX4_init_74 : decode cX4_init 74 = .ok (.if_icmp .ge 22, 3) := by decide +kernel
theorem dX4_init_77 : decode cX4_init 77 = .ok (.aload_n 0, 1) := by decide +kernel
theorem dX4_init_78 : decode cX4_init 78 = .ok (.getfield 16, 3) := by decide +kernel
theorem dX4_init_81 : decode cX4_init 81 = .ok (.iload_n 1, 1) := by decide +kernel
theorem dX4_init_82 : decode cX4_init 82 = .ok (.new 7, 3) := by decide +kernel
theorem dX4_init_85 : decode cX4_init 85 = .ok (.dup, 1) := by decide +kernel
theorem dX4_init_86 : decode cX4_init 86 = .ok (.invokespecial 9, 3) := by decide +kernel
theorem dX4_init_89 : decode cX4_init 89 = .ok (.aastore, 1) := by decide +kernel
theorem dX4_init_90 : decode cX4_init 90 = .ok (.iinc 1 1, 3) := by decide +kernel
theorem dX4_init_93 : decode cX4_init 93 = .ok (.goto (-25), 3) := by decide +kernel
theorem dX4_init_96 : decode cX4_init 96 = .ok (.iconst 0, 1) := by decide +kernel
theorem dX4_init_97 : decode cX4_init 97 = .ok (.istore_n 1, 1) := by decide +kernel
theorem dX4_init_98 : decode cX4_init 98 = .ok (.iload_n 1, 1) := by decide +kernel
theorem dX4_init_99 : decode cX4_init 99 = .ok (.aload_n 0, 1) := by decide +kernel
theorem dX4_init_100 : decode cX4_init 100 = .ok (.getfield 24, 3) := by decide +kernel
theorem dX4_init_103 : decode cX4_init 103 = .ok (.arraylength, 1) := by decide +kernel
theorem dX4_init_104 : decode cX4_init 104 = .ok (.if_icmp .ge 22, 3) := by decide +kernel
theorem dX4_init_107 : decode cX4_init 107 = .ok (.aload_n 0, 1) := by decide +kernel
theorem dX4_init_108 : decode cX4_init 108 = .ok (.getfield 24, 3) := by decide +kernel
theorem dX4_init_111 : decode cX4_init 111 = .ok (.iload_n 1, 1) := by decide +kernel
theorem dX4_init_112 : decode cX4_init 112 = .ok (.new 7, 3) := by decide +kernel
theorem dX4_init_115 : decode cX4_init 115 = .ok (.dup, 1) := by decide +kernel
theorem dX4_init_116 : decode cX4_init 116 = .ok (.invokespecial 9, 3) := by decide +kernel
theorem dX4_init_119 : decode cX4_init 119 = .ok (.aastore, 1) := by decide +kernel
theorem dX4_init_120 : decode cX4_init 120 = .ok (.iinc 1 1, 3) := by decide +kernel
theorem dX4_init_123 : decode cX4_init 123 = .ok (.goto (-25), 3) := by decide +kernel
theorem dX4_init_126 : decode cX4_init 126 = .ok (.return_, 1) := by decide +kernel
set_option maxRecDepth 20000 in
theorem ggX4_set_X4_keepState : GoodIn wsX4_set wsX4_keepState := goodIn_r _ [6, 7, 8, 1, 9, 10, 11, 12, 13, 14, 15, 16, 17, 18, 19, 20, 21, 22, 23, 24, 25, 26, 27, 28, 29, 30, 31, 32, 33, 34, 35, 36, 37, 38, 39, 40, 41, 42, 43, 44, 45, 46, 47, 48, 61, 62, 63, 64, 65, 66, 67, 68, 69, 70, 71, 72, 73, 74, 75, 76, 77, 78, 79, 80, 81, 82, 83, 84, 85, 86, 87] (by decide +kernel) (by decide +kernel)
set_option maxRecDepth 20000 in
theorem gX4_set_X4_keepState : GoodIn wsX4_set (wsV RX4 45 RX4 yX4_keepState wsX4_keepState) := goodIn_app (goodIn_of _ (by decide +kernel)) ggX4_set_X4_keepState
set_option maxRecDepth 20000 in
theorem ggX4_set_X3_changeSetting : GoodIn wsX4_set wsX3_changeSetting := goodIn_r _ [52, 14, 68, 69, 70, 71, 72, 73, 74] (by decide +kernel) (by decide +kernel)
set_option maxRecDepth 20000 in
theorem gX4_set_X3_changeSetting : GoodIn wsX4_set (wsV RX4 48 RX3 yX3_changeSetting wsX3_changeSetting) := goodIn_app (goodIn_of _ (by decide +kernel)) ggX4_set_X3_changeSetting
set_option maxRecDepth 20000 in
theorem ggX4_set_X4_recordUnlessError : GoodIn wsX4_set wsX4_recordUnlessError := goodIn_r _ [56, 8, 57, 58, 59, 5, 60, 7, 61, 62, 63, 64, 65, 66, 67] (by decide +kernel) (by decide +kernel)
set_option maxRecDepth 20000 in
theorem gX4_set_X4_recordUnlessError : GoodIn wsX4_set (wsV RX4 52 RX4 yX4_recordUnlessError wsX4_recordUnlessError) := goodIn_app (goodIn_of _ (by decide +kernel)) ggX4_set_X4_recordUnlessError
theorem dX4_set_0 : decode cX4_set 0 = .ok (.aload_n 0, 1) := by decide +kernel
theorem dX4_set_1 : decode cX4_set 1 = .ok (.invokevirtual 45, 3) := by decide +kernel
theorem dX4_set_4 : decode cX4_set 4 = .ok (.aload_n 0, 1) := by decide +kernel
theorem dX4_set_5 : decode cX4_set 5 = .ok (.aload_n 0, 1) := by decide +kernel
theorem dX4_set_6 : decode cX4_set 6 = .ok (.getfield 10, 3) := by decide +kernel
theorem dX4_set_9 : decode cX4_set 9 = .ok (.iload_n 1, 1) := by decide +kernel
theorem dX4_set_10 : decode cX4_set 10 = .ok (.iload_n 2, 1) := by decide +kernel
theorem dX4_set_11 : decode cX4_set 11 = .ok (.invokevirtual 48, 3) := by decide +kernel
theorem dX4_set_14 : decode cX4_set 14 = .ok (.invokevirtual 52, 3) := by decide +kernel
theorem dX4_set_17 : decode cX4_set 17 = .ok (.ireturn, 1) := by decide +kernel
set_option maxRecDepth 20000 in
theorem ggX4_landing_X4_keepState : GoodIn wsX4_landing wsX4_keepState := goodIn_r _ [6, 7, 8, 1, 9, 10, 11, 12, 13, 14, 15, 16, 17, 18, 19, 20, 21, 22, 23, 24, 25, 26, 27, 28, 29, 30, 31, 32, 33, 34, 35, 36, 37, 38, 39, 40, 41, 42, 43, 44, 45, 46, 47, 48, 74, 75, 76, 77, 78, 79, 80, 81, 82, 83, 84, 85, 86, 87, 88, 89, 90, 91, 92, 93, 94, 95, 96, 97, 98, 99, 100] (by decide +kernel) (by decide +kernel)
set_option maxRecDepth 20000 in
theorem gX4_landing_X4_keepState : GoodIn wsX4_landing (wsV RX4 45 RX4 yX4_keepState wsX4_keepState) := goodIn_app (goodIn_of _ (by decide +kernel)) ggX4_landing_X4_keepState
set_option maxRecDepth 20000 in
theorem ggX4_landing_X3_addLanding : GoodIn wsX4_landing wsX3_addLanding := goodIn_r _ [52, 20, 19, 53, 54, 55, 28, 56, 30, 31, 32, 33, 34, 35, 36, 37, 57, 58, 59, 12, 60, 61, 22, 23, 62, 63, 64, 65, 81, 82, 83, 84, 85, 86, 87, 88, 89, 90, 91, 92, 93, 94, 95] (by decide +kernel) (by decide +kernel)
set_option maxRecDepth 20000 in
theorem gX4_landing_X3_addLanding : GoodIn wsX4_landing (wsV RX4 56 RX3 yX3_addLanding wsX3_addLanding) := goodIn_app (goodIn_of _ (by decide +kernel)) ggX4_landing_X3_addLanding
set_option maxRecDepth 20000 in
theorem ggX4_landing_X4_recordUnlessError : GoodIn wsX4_landing wsX4_recordUnlessError := goodIn_r _ [69, 8, 70, 71, 72, 5, 73, 7, 74, 75, 76, 77, 78, 79, 80] (by decide +kernel) (by decide +kernel)
set_option maxRecDepth 20000 in
theorem gX4_landing_X4_recordUnlessError : GoodIn wsX4_landing (wsV RX4 52 RX4 yX4_recordUnlessError wsX4_recordUnlessError) := goodIn_app (goodIn_of _ (by decide +kernel)) ggX4_landing_X4_recordUnlessError
theorem dX4_landing_0 : decode cX4_landing 0 = .ok (.aload_n 0, 1) := by decide +kernel
theorem dX4_landing_1 : decode cX4_landing 1 = .ok (.invokevirtual 45, 3) := by decide +kernel
theorem dX4_landing_4 : decode cX4_landing 4 = .ok (.aload_n 0, 1) := by decide +kernel
theorem dX4_landing_5 : decode cX4_landing 5 = .ok (.aload_n 0, 1) := by decide +kernel
theorem dX4_landing_6 : decode cX4_landing 6 = .ok (.getfield 10, 3) := by decide +kernel
theorem dX4_landing_9 : decode cX4_landing 9 = .ok (.iload_n 1, 1) := by decide +kernel
theorem dX4_landing_10 : decode cX4_landing 10 = .ok (.invokevirtual 56, 3) := by decide +kernel
theorem dX4_landing_13 : decode cX4_landing 13 = .ok (.invokevirtual 52, 3) := by decide +kernel
theorem dX4_landing_16 : decode cX4_landing 16 = .ok (.ireturn, 1) := by decide +kernel
set_option maxRecDepth 20000 in
theorem ggX4_open_X4_keepState : GoodIn wsX4_open wsX4_keepState := goodIn_r _ [6, 7, 8, 1, 9, 10, 11, 12, 13, 14, 15, 16, 17, 18, 19, 20, 21, 22, 23, 24, 25, 26, 27, 28, 29, 30, 31, 32, 33, 34, 35, 36, 37, 38, 39, 40, 41, 42, 43, 44, 45, 46, 47, 48, 98, 99, 100, 101, 102, 103, 104, 105, 106, 107, 108, 109, 110, 111, 112, 113, 114, 115, 116, 117, 118, 119, 120, 121, 122, 123, 124] (by decide +kernel) (by decide +kernel)
set_option maxRecDepth 20000 in
theorem gX4_open_X4_keepState : GoodIn wsX4_open (wsV RX4 45 RX4 yX4_keepState wsX4_keepState) := goodIn_app (goodIn_of _ (by decide +kernel)) ggX4_open_X4_keepState
set_option maxRecDepth 20000 in
theorem ggX4_open_X3_openLanding : GoodIn wsX4_open wsX3_openLanding := goodIn_r _ [52, 53, 54, 55, 56, 12, 57, 20, 19, 58, 59, 60, 61, 24, 21, 62, 63, 64, 65, 41, 66, 43, 48, 45, 46, 47, 67, 68, 69, 70, 71, 72, 73, 74, 14, 75, 76, 77, 28, 78, 36, 32, 79, 80, 33, 34, 37, 81, 82, 83, 84, 85, 22, 23, 86, 87, 88, 89, 30, 112, 113, 114, 115, 116, 117, 118, 119, 105, 106, 107, 108, 109, 110, 111, 120, 121, 122, 123, 124] (by decide +kernel) (by decide +kernel)
set_option maxRecDepth 20000 in
theorem gX4_open_X3_openLanding : GoodIn wsX4_open (wsV RX4 59 RX3 yX3_openLanding wsX3_openLanding) := goodIn_app (goodIn_of _ (by decide +kernel)) ggX4_open_X3_openLanding
set_option maxRecDepth 20000 in
theorem ggX4_open_X4_recordUnlessError : GoodIn wsX4_open wsX4_recordUnlessError := goodIn_r _ [93, 8, 94, 95, 96, 5, 97, 7, 98, 99, 100, 101, 102, 103, 104] (by decide +kernel) (by decide +kernel)
set_option maxRecDepth 20000 in
theorem gX4_open_X4_recordUnlessError : GoodIn wsX4_open (wsV RX4 52 RX4 yX4_recordUnlessError wsX4_recordUnlessError) := goodIn_app (goodIn_of _ (by decide +kernel)) ggX4_open_X4_recordUnlessError
theorem dX4_open_0 : decode cX4_open 0 = .ok (.aload_n 0, 1) := by decide +kernel
theorem dX4_open_1 : decode cX4_open 1 = .ok (.invokevirtual 45, 3) := by decide +kernel
theorem dX4_open_4 : decode cX4_open 4 = .ok (.aload_n 0, 1) := by decide +kernel
theorem dX4_open_5 : decode cX4_open 5 = .ok (.aload_n 0, 1) := by decide +kernel
theorem dX4_open_6 : decode cX4_open 6 = .ok (.getfield 10, 3) := by decide +kernel
theorem dX4_open_9 : decode cX4_open 9 = .ok (.iload_n 1, 1) := by decide +kernel
theorem dX4_open_10 : decode cX4_open 10 = .ok (.invokevirtual 59, 3) := by decide +kernel
theorem dX4_open_13 : decode cX4_open 13 = .ok (.invokevirtual 52, 3) := by decide +kernel
theorem dX4_open_16 : decode cX4_open 16 = .ok (.ireturn, 1) := by decide +kernel
set_option maxRecDepth 20000 in
theorem ggX4_close_X4_keepState : GoodIn wsX4_close wsX4_keepState := goodIn_r _ [6, 7, 8, 1, 9, 10, 11, 12, 13, 14, 15, 16, 17, 18, 19, 20, 21, 22, 23, 24, 25, 26, 27, 28, 29, 30, 31, 32, 33, 34, 35, 36, 37, 38, 39, 40, 41, 42, 43, 44, 45, 46, 47, 48, 98, 99, 100, 101, 102, 103, 104, 105, 106, 107, 108, 109, 110, 111, 112, 113, 114, 115, 116, 117, 118, 119, 120, 121, 122, 123, 124] (by decide +kernel) (by decide +kernel)
set_option maxRecDepth 20000 in
theorem gX4_close_X4_keepState : GoodIn wsX4_close (wsV RX4 45 RX4 yX4_keepState wsX4_keepState) := goodIn_app (goodIn_of _ (by decide +kernel)) ggX4_close_X4_keepState
set_option maxRecDepth 20000 in
theorem ggX4_close_X3_closeLanding : GoodIn wsX4_close wsX3_closeLanding := goodIn_r _ [52, 53, 54, 55, 56, 12, 57, 20, 19, 58, 59, 60, 61, 24, 21, 62, 63, 64, 65, 41, 66, 43, 48, 45, 46, 47, 67, 68, 69, 70, 71, 72, 73, 74, 14, 75, 76, 77, 28, 78, 36, 32, 79, 80, 33, 34, 37, 81, 82, 83, 84, 85, 22, 23, 86, 87, 88, 89, 30, 112, 113, 114, 115, 116, 117, 118, 119, 105, 106, 107, 108, 109, 110, 111, 120, 121, 122, 123, 124] (by decide +kernel) (by decide +kernel)
set_option maxRecDepth 20000 in
theorem gX4_close_X3_closeLanding : GoodIn wsX4_close (wsV RX4 62 RX3 yX3_closeLanding wsX3_closeLanding) := goodIn_app (goodIn_of _ (by decide +kernel)) ggX4_close_X3_closeLanding
set_option maxRecDepth 20000 in
theorem ggX4_close_X4_recordUnlessError : GoodIn wsX4_close wsX4_recordUnlessError := goodIn_r _ [93, 8, 94, 95, 96, 5, 97, 7, 98, 99, 100, 101, 102, 103, 104] (by decide +kernel) (by decide +kernel)
set_option maxRecDepth 20000 in
theorem gX4_close_X4_recordUnlessError : GoodIn wsX4_close (wsV RX4 52 RX4 yX4_recordUnlessError wsX4_recordUnlessError) := goodIn_app (goodIn_of _ (by decide +kernel)) ggX4_close_X4_recordUnlessError
theorem dX4_close_0 : decode cX4_close 0 = .ok (.aload_n 0, 1) := by decide +kernel
theorem dX4_close_1 : decode cX4_close 1 = .ok (.invokevirtual 45, 3) := by decide +kernel
theorem dX4_close_4 : decode cX4_close 4 = .ok (.aload_n 0, 1) := by decide +kernel
theorem dX4_close_5 : decode cX4_close 5 = .ok (.aload_n 0, 1) := by decide +kernel
theorem dX4_close_6 : decode cX4_close 6 = .ok (.getfield 10, 3) := by decide +kernel
theorem dX4_close_9 : decode cX4_close 9 = .ok (.iload_n 1, 1) := by decide +kernel
theorem dX4_close_10 : decode cX4_close 10 = .ok (.invokevirtual 62, 3) := by decide +kernel
theorem dX4_close_13 : decode cX4_close 13 = .ok (.invokevirtual 52, 3) := by decide +kernel
theorem dX4_close_16 : decode cX4_close 16 = .ok (.ireturn, 1) := by decide +kernel
set_option maxRecDepth 20000 in
theorem ggX4_price_X4_keepState : GoodIn wsX4_price wsX4_keepState := goodIn_r _ [6, 7, 8, 1, 9, 10, 11, 12, 13, 14, 15, 16, 17, 18, 19, 20, 21, 22, 23, 24, 25, 26, 27, 28, 29, 30, 31, 32, 33, 34, 35, 36, 37, 38, 39, 40, 41, 42, 43, 44, 45, 46, 47, 48, 97, 98, 99, 100, 101, 102, 103, 104, 105, 106, 107, 108, 109, 110, 111, 112, 113, 114, 115, 116, 117, 118, 119, 120, 121, 122, 123] (by decide +kernel) (by decide +kernel)
set_option maxRecDepth 20000 in
theorem gX4_price_X4_keepState : GoodIn wsX4_price (wsV RX4 45 RX4 yX4_keepState wsX4_keepState) := goodIn_app (goodIn_of _ (by decide +kernel)) ggX4_price_X4_keepState
set_option maxRecDepth 20000 in
theorem ggX4_price_X3_changePrice : GoodIn wsX4_price wsX3_changePrice := goodIn_r _ [52, 53, 54, 55, 56, 12, 57, 20, 19, 58, 59, 60, 61, 24, 21, 62, 63, 64, 65, 41, 66, 43, 48, 45, 46, 47, 67, 68, 69, 70, 71, 72, 73, 74, 14, 75, 76, 77, 28, 78, 36, 32, 79, 80, 33, 34, 37, 81, 82, 83, 84, 22, 23, 85, 86, 87, 88, 30, 111, 112, 113, 114, 115, 116, 117, 118, 104, 105, 106, 107, 108, 109, 110, 119, 120, 121, 122, 123] (by decide +kernel) (by decide +kernel)
set_option maxRecDepth 20000 in
theorem gX4_price_X3_changePrice : GoodIn wsX4_price (wsV RX4 65 RX3 yX3_changePrice wsX3_changePrice) := goodIn_app (goodIn_of _ (by decide +kernel)) ggX4_price_X3_changePrice
set_option maxRecDepth 20000 in
theorem ggX4_price_X4_recordUnlessError : GoodIn wsX4_price wsX4_recordUnlessError := goodIn_r _ [92, 8, 93, 94, 95, 5, 96, 7, 97, 98, 99, 100, 101, 102, 103] (by decide +kernel) (by decide +kernel)
set_option maxRecDepth 20000 in
theorem gX4_price_X4_recordUnlessError : GoodIn wsX4_price (wsV RX4 52 RX4 yX4_recordUnlessError wsX4_recordUnlessError) := goodIn_app (goodIn_of _ (by decide +kernel)) ggX4_price_X4_recordUnlessError
theorem dX4_price_0 : decode cX4_price 0 = .ok (.aload_n 0, 1) := by decide +kernel
theorem dX4_price_1 : decode cX4_price 1 = .ok (.invokevirtual 45, 3) := by decide +kernel
theorem dX4_price_4 : decode cX4_price 4 = .ok (.aload_n 0, 1) := by decide +kernel
theorem dX4_price_5 : decode cX4_price 5 = .ok (.aload_n 0, 1) := by decide +kernel
theorem dX4_price_6 : decode cX4_price 6 = .ok (.getfield 10, 3) := by decide +kernel
theorem dX4_price_9 : decode cX4_price 9 = .ok (.iload_n 1, 1) := by decide +kernel
theorem dX4_price_10 : decode cX4_price 10 = .ok (.iload_n 2, 1) := by decide +kernel
theorem dX4_price_11 : decode cX4_price 11 = .ok (.invokevirtual 65, 3) := by decide +kernel
theorem dX4_price_14 : decode cX4_price 14 = .ok (.invokevirtual 52, 3) := by decide +kernel
theorem dX4_price_17 : decode cX4_price 17 = .ok (.ireturn, 1) := by decide +kernel
set_option maxRecDepth 20000 in
theorem ggX4_pass_X4_keepState : GoodIn wsX4_pass wsX4_keepState := goodIn_r _ [6, 7, 8, 1, 9, 10, 11, 12, 13, 14, 15, 16, 17, 18, 19, 20, 21, 22, 23, 24, 25, 26, 27, 28, 29, 30, 31, 32, 33, 34, 35, 36, 37, 38, 39, 40, 41, 42, 43, 44, 45, 46, 47, 48, 92, 93, 94, 95, 96, 97, 98, 99, 100, 101, 102, 103, 104, 105, 106, 107, 108, 109, 110, 111, 112, 113, 114, 115, 116, 117, 118] (by decide +kernel) (by decide +kernel)
set_option maxRecDepth 20000 in
theorem gX4_pass_X4_keepState : GoodIn wsX4_pass (wsV RX4 45 RX4 yX4_keepState wsX4_keepState) := goodIn_app (goodIn_of _ (by decide +kernel)) ggX4_pass_X4_keepState
set_option maxRecDepth 20000 in
theorem ggX4_pass_X3_passMinutes : GoodIn wsX4_pass wsX3_passMinutes := goodIn_r _ [52, 21, 53, 54, 55, 56, 12, 57, 20, 19, 24, 58, 59, 60, 61, 14, 62, 63, 64, 28, 65, 35, 32, 33, 34, 66, 67, 68, 69, 70, 71, 72, 41, 73, 43, 48, 45, 46, 47, 74, 75, 76, 77, 78, 79, 22, 23, 80, 81, 82, 83, 30, 99, 100, 101, 102, 103, 104, 105, 106, 107, 108, 109, 110, 111, 112, 113, 114, 115, 116, 117, 118] (by decide +kernel) (by decide +kernel)
set_option maxRecDepth 20000 in
theorem gX4_pass_X3_passMinutes : GoodIn wsX4_pass (wsV RX4 68 RX3 yX3_passMinutes wsX3_passMinutes) := goodIn_app (goodIn_of _ (by decide +kernel)) ggX4_pass_X3_passMinutes
set_option maxRecDepth 20000 in
theorem ggX4_pass_X4_recordUnlessError : GoodIn wsX4_pass wsX4_recordUnlessError := goodIn_r _ [87, 8, 88, 89, 90, 5, 91, 7, 92, 93, 94, 95, 96, 97, 98] (by decide +kernel) (by decide +kernel)
set_option maxRecDepth 20000 in
theorem gX4_pass_X4_recordUnlessError : GoodIn wsX4_pass (wsV RX4 52 RX4 yX4_recordUnlessError wsX4_recordUnlessError) := goodIn_app (goodIn_of _ (by decide +kernel)) ggX4_pass_X4_recordUnlessError
theorem dX4_pass_0 : decode cX4_pass 0 = .ok (.aload_n 0, 1) := by decide +kernel
theorem dX4_pass_1 : decode cX4_pass 1 = .ok (.invokevirtual 45, 3) := by decide +kernel
theorem dX4_pass_4 : decode cX4_pass 4 = .ok (.aload_n 0, 1) := by decide +kernel
theorem dX4_pass_5 : decode cX4_pass 5 = .ok (.aload_n 0, 1) := by decide +kernel
theorem dX4_pass_6 : decode cX4_pass 6 = .ok (.getfield 10, 3) := by decide +kernel
theorem dX4_pass_9 : decode cX4_pass 9 = .ok (.iload_n 1, 1) := by decide +kernel
theorem dX4_pass_10 : decode cX4_pass 10 = .ok (.invokevirtual 68, 3) := by decide +kernel
theorem dX4_pass_13 : decode cX4_pass 13 = .ok (.invokevirtual 52, 3) := by decide +kernel
theorem dX4_pass_16 : decode cX4_pass 16 = .ok (.ireturn, 1) := by decide +kernel
set_option maxRecDepth 20000 in
theorem ggX4_of_X3_find : GoodIn wsX4_of wsX3_find := goodIn_r _ [6, 7, 8, 29, 30, 31, 32, 33, 34, 35] (by decide +kernel) (by decide +kernel)
set_option maxRecDepth 20000 in
theorem gX4_of_X3_find : GoodIn wsX4_of (wsV RX4 71 RX3 yX3_find wsX3_find) := goodIn_app (goodIn_of _ (by decide +kernel)) ggX4_of_X3_find
set_option maxRecDepth 20000 in
theorem ggX4_of_X1_tell : GoodIn wsX4_of wsX1_tell := goodIn_r _ [13, 14, 15, 16, 17, 18, 19, 20, 21, 36, 37, 38, 39, 40, 41, 42, 43] (by decide +kernel) (by decide +kernel)
set_option maxRecDepth 20000 in
theorem gX4_of_X1_tell : GoodIn wsX4_of (wsV RX4 75 RX1 yX1_tell wsX1_tell) := goodIn_app (goodIn_of _ (by decide +kernel)) ggX4_of_X1_tell
theorem dX4_of_0 : decode cX4_of 0 = .ok (.aload_n 0, 1) := by decide +kernel
theorem dX4_of_1 : decode cX4_of 1 = .ok (.getfield 10, 3) := by decide +kernel
theorem dX4_of_4 : decode cX4_of 4 = .ok (.iload_n 1, 1) := by decide +kernel
theorem dX4_of_5 : decode cX4_of 5 = .ok (.invokevirtual 71, 3) := by decide +kernel
theorem dX4_of_8 : decode cX4_of 8 = .ok (.astore_n 3, 1) := by decide +kernel
theorem dX4_of_9 : decode cX4_of 9 = .ok (.aload_n 3, 1) := by decide +kernel
theorem dX4_of_10 : decode cX4_of 10 = .ok (.ifnonnull 7, 3) := by decide +kernel
theorem dX4_of_13 : decode cX4_of 13 = .ok (.iconst (-1), 1) := by decide +kernel
theorem dX4_of_14 : decode cX4_of 14 = .ok (.goto 8, 3) := by decide +kernel
theorem dX4_of_17 : decode cX4_of 17 = .ok (.aload_n 3, 1) := by decide +kernel
theorem dX4_of_18 : decode cX4_of 18 = .ok (.iload_n 2, 1) := by decide +kernel
theorem dX4_of_19 : decode cX4_of 19 = .ok (.invokevirtual 75, 3) := by decide +kernel
theorem dX4_of_22 : decode cX4_of 22 = .ok (.ireturn, 1) := by decide +kernel
set_option maxRecDepth 20000 in
theorem ggX4_count_X3_tell : GoodIn wsX4_count wsX3_tell := goodIn_r _ [9, 10, 11, 12, 13, 14, 15, 16, 17, 18, 19, 8, 20, 21, 22, 23, 24, 25, 26, 27, 41, 42, 43, 44, 45, 46, 47, 48, 49, 50, 51, 52, 53, 54, 55, 56, 57, 58, 59, 60] (by decide +kernel) (by decide +kernel)
set_option maxRecDepth 20000 in
theorem gX4_count_X3_tell : GoodIn wsX4_count (wsV RX4 81 RX3 yX3_tell wsX3_tell) := goodIn_app (goodIn_of _ (by decide +kernel)) ggX4_count_X3_tell
theorem dX4_count_0 : decode cX4_count 0 = .ok (.iload_n 1, 1) := by decide +kernel
theorem dX4_count_1 : decode cX4_count 1 = .ok (.bipush 14, 2) := by decide +kernel
theorem dX4_count_3 : decode cX4_count 3 = .ok (.if_icmp .ne 11, 3) := by decide +kernel
theorem dX4_count_6 : decode cX4_count 6 = .ok (.aload_n 0, 1) := by decide +kernel
theorem dX4_count_7 : decode cX4_count 7 = .ok (.getfield 34, 3) := by decide +kernel
theorem dX4_count_10 : decode cX4_count 10 = .ok (.getfield 78, 3) := by decide +kernel
theorem dX4_count_13 : decode cX4_count 13 = .ok (.ireturn, 1) := by decide +kernel
theorem dX4_count_14 : decode cX4_count 14 = .ok (.iload_n 1, 1) := by decide +kernel
theorem dX4_count_15 : decode cX4_count 15 = .ok (.bipush 15, 2) := by decide +kernel
theorem dX4_count_17 : decode cX4_count 17 = .ok (.if_icmp .ne 8, 3) := by decide +kernel
theorem dX4_count_20 : decode cX4_count 20 = .ok (.aload_n 0, 1) := by decide +kernel
theorem dX4_count_21 : decode cX4_count 21 = .ok (.getfield 20, 3) := by decide +kernel
theorem dX4_count_24 : decode cX4_count 24 = .ok (.ireturn, 1) := by decide +kernel
theorem dX4_count_25 : decode cX4_count 25 = .ok (.aload_n 0, 1) := by decide +kernel
theorem dX4_count_26 : decode cX4_count 26 = .ok (.getfield 10, 3) := by decide +kernel
theorem dX4_count_29 : decode cX4_count 29 = .ok (.iload_n 1, 1) := by decide +kernel
theorem dX4_count_30 : decode cX4_count 30 = .ok (.invokevirtual 81, 3) := by decide +kernel
theorem dX4_count_33 : decode cX4_count 33 = .ok (.ireturn, 1) := by decide +kernel
set_option maxRecDepth 20000 in
theorem ggX4_choice_X3_chosen : GoodIn wsX4_choice wsX3_chosen := goodIn_r _ [6, 7, 8, 9, 10, 11, 12, 13, 14, 15, 16, 17, 18, 5, 19, 20, 28, 29, 30, 31, 32, 33, 34, 35, 36, 37, 38, 39, 40, 41, 42] (by decide +kernel) (by decide +kernel)
set_option maxRecDepth 20000 in
theorem gX4_choice_X3_chosen : GoodIn wsX4_choice (wsV RX4 82 RX3 yX3_chosen wsX3_chosen) := goodIn_app (goodIn_of _ (by decide +kernel)) ggX4_choice_X3_chosen
theorem dX4_choice_0 : decode cX4_choice 0 = .ok (.aload_n 0, 1) := by decide +kernel
theorem dX4_choice_1 : decode cX4_choice 1 = .ok (.getfield 10, 3) := by decide +kernel
theorem dX4_choice_4 : decode cX4_choice 4 = .ok (.iload_n 1, 1) := by decide +kernel
theorem dX4_choice_5 : decode cX4_choice 5 = .ok (.invokevirtual 82, 3) := by decide +kernel
theorem dX4_choice_8 : decode cX4_choice 8 = .ok (.ireturn, 1) := by decide +kernel
set_option maxRecDepth 20000 in
theorem ggX4_log_X0_tell : GoodIn wsX4_log wsX0_tell := goodIn_r _ [7, 8, 9, 10, 11, 12, 27, 28, 29, 30, 31] (by decide +kernel) (by decide +kernel)
set_option maxRecDepth 20000 in
theorem gX4_log_X0_tell : GoodIn wsX4_log (wsV RX4 89 RX0 yX0_tell wsX0_tell) := goodIn_app (goodIn_of _ (by decide +kernel)) ggX4_log_X0_tell
theorem dX4_log_0 : decode cX4_log 0 = .ok (.aload_n 0, 1) := by decide +kernel
theorem dX4_log_1 : decode cX4_log 1 = .ok (.getfield 10, 3) := by decide +kernel
theorem dX4_log_4 : decode cX4_log 4 = .ok (.getfield 85, 3) := by decide +kernel
theorem dX4_log_7 : decode cX4_log 7 = .ok (.iload_n 1, 1) := by decide +kernel
theorem dX4_log_8 : decode cX4_log 8 = .ok (.iload_n 2, 1) := by decide +kernel
theorem dX4_log_9 : decode cX4_log 9 = .ok (.invokevirtual 89, 3) := by decide +kernel
theorem dX4_log_12 : decode cX4_log 12 = .ok (.ireturn, 1) := by decide +kernel
set_option maxRecDepth 20000 in
theorem ggX4_why_X3_find : GoodIn wsX4_why wsX3_find := goodIn_r _ [9, 10, 11, 19, 20, 21, 22, 23, 24, 25] (by decide +kernel) (by decide +kernel)
set_option maxRecDepth 20000 in
theorem gX4_why_X3_find : GoodIn wsX4_why (wsV RX4 71 RX3 yX3_find wsX3_find) := goodIn_app (goodIn_of _ (by decide +kernel)) ggX4_why_X3_find
theorem dX4_why_0 : decode cX4_why 0 = .ok (.aload_n 0, 1) := by decide +kernel
theorem dX4_why_1 : decode cX4_why 1 = .ok (.getfield 10, 3) := by decide +kernel
theorem dX4_why_4 : decode cX4_why 4 = .ok (.iload_n 1, 1) := by decide +kernel
theorem dX4_why_5 : decode cX4_why 5 = .ok (.invokevirtual 71, 3) := by decide +kernel
theorem dX4_why_8 : decode cX4_why 8 = .ok (.astore_n 2, 1) := by decide +kernel
theorem dX4_why_9 : decode cX4_why 9 = .ok (.aload_n 2, 1) := by decide +kernel
theorem dX4_why_10 : decode cX4_why 10 = .ok (.ifnonnull 5, 3) := by decide +kernel
theorem dX4_why_13 : decode cX4_why 13 = .ok (.iconst (-1), 1) := by decide +kernel
theorem dX4_why_14 : decode cX4_why 14 = .ok (.ireturn, 1) := by decide +kernel
theorem dX4_why_15 : decode cX4_why 15 = .ok (.iload_n 1, 1) := by decide +kernel
theorem dX4_why_16 : decode cX4_why 16 = .ok (.aload_n 0, 1) := by decide +kernel
theorem dX4_why_17 : decode cX4_why 17 = .ok (.getfield 10, 3) := by decide +kernel
theorem dX4_why_20 : decode cX4_why 20 = .ok (.getfield 93, 3) := by decide +kernel
theorem dX4_why_23 : decode cX4_why 23 = .ok (.if_icmp .ne 5, 3) := by decide +kernel
theorem dX4_why_26 : decode cX4_why 26 = .ok (.iconst 0, 1) := by decide +kernel
theorem dX4_why_27 : decode cX4_why 27 = .ok (.ireturn, 1) := by decide +kernel
theorem dX4_why_28 : decode cX4_why 28 = .ok (.aload_n 2, 1) := by decide +kernel
theorem dX4_why_29 : decode cX4_why 29 = .ok (.getfield 96, 3) := by decide +kernel
theorem dX4_why_32 : decode cX4_why 32 = .ok (.ifCond .ne 5, 3) := by decide +kernel
theorem dX4_why_35 : decode cX4_why 35 = .ok (.iconst 1, 1) := by decide +kernel
theorem dX4_why_36 : decode cX4_why 36 = .ok (.ireturn, 1) := by decide +kernel
theorem dX4_why_37 : decode cX4_why 37 = .ok (.aload_n 2, 1) := by decide +kernel
theorem dX4_why_38 : decode cX4_why 38 = .ok (.getfield 100, 3) := by decide +kernel
theorem dX4_why_41 : decode cX4_why 41 = .ok (.ifCond .eq 7, 3) := by decide +kernel
theorem dX4_why_44 : decode cX4_why 44 = .ok (.iconst 2, 1) := by decide +kernel
theorem dX4_why_45 : decode cX4_why 45 = .ok (.goto 4, 3) := by decide +kernel
theorem dX4_why_48 : decode cX4_why 48 = .ok (.iconst 3, 1) := by decide +kernel
theorem dX4_why_49 : decode cX4_why 49 = .ok (.ireturn, 1) := by decide +kernel
set_option maxRecDepth 20000 in
theorem ggX4_keepState_X3_copyFrom : GoodIn wsX4_keepState wsX3_copyFrom := goodIn_r _ [8, 9, 10, 11, 12, 13, 14, 15, 16, 17, 18, 19, 20, 21, 22, 23, 24, 25, 26, 27, 28, 29, 30, 31, 32, 33, 34, 35, 36, 37, 38, 39, 40, 41, 42, 43, 51, 52, 53, 54, 55, 56, 57, 58, 59, 60, 61, 62, 63, 64, 65, 66, 67, 68, 69, 70] (by decide +kernel) (by decide +kernel)
set_option maxRecDepth 20000 in
theorem gX4_keepState_X3_copyFrom : GoodIn wsX4_keepState (wsV RX4 171 RX3 yX3_copyFrom wsX3_copyFrom) := goodIn_app (goodIn_of _ (by decide +kernel)) ggX4_keepState_X3_copyFrom
theorem dX4_keepState_0 : decode cX4_keepState 0 = .ok (.aload_n 0, 1) := by decide +kernel
theorem dX4_keepState_1 : decode cX4_keepState 1 = .ok (.getfield 16, 3) := by decide +kernel
theorem dX4_keepState_4 : decode cX4_keepState 4 = .ok (.aload_n 0, 1) := by decide +kernel
theorem dX4_keepState_5 : decode cX4_keepState 5 = .ok (.getfield 20, 3) := by decide +kernel
theorem dX4_keepState_8 : decode cX4_keepState 8 = .ok (.aaload, 1) := by decide +kernel
theorem dX4_keepState_9 : decode cX4_keepState 9 = .ok (.aload_n 0, 1) := by decide +kernel
theorem dX4_keepState_10 : decode cX4_keepState 10 = .ok (.getfield 10, 3) := by decide +kernel
theorem dX4_keepState_13 : decode cX4_keepState 13 = .ok (.invokevirtual 171, 3) := by decide +kernel
theorem dX4_keepState_16 : decode cX4_keepState 16 = .ok (.return_, 1) := by decide +kernel
set_option maxRecDepth 20000 in
theorem ggX4_recordUnlessError_X4_dropOldest : GoodIn wsX4_recordUnlessError wsX4_dropOldest := goodIn_r _ [6, 7, 8, 9, 10, 11, 12, 13, 14] (by decide +kernel) (by decide +kernel)
set_option maxRecDepth 20000 in
theorem gX4_recordUnlessError_X4_dropOldest : GoodIn wsX4_recordUnlessError (wsV RX4 177 RX4 yX4_dropOldest wsX4_dropOldest) := goodIn_app (goodIn_of _ (by decide +kernel)) ggX4_recordUnlessError_X4_dropOldest
theorem dX4_recordUnlessError_0 : decode cX4_recordUnlessError 0 = .ok (.iload_n 1, 1) := by decide +kernel
theorem dX4_recordUnlessError_1 : decode cX4_recordUnlessError 1 = .ok (.ifCond .ge 5, 3) := by decide +kernel
theorem dX4_recordUnlessError_4 : decode cX4_recordUnlessError 4 = .ok (.iload_n 1, 1) := by decide +kernel
theorem dX4_recordUnlessError_5 : decode cX4_recordUnlessError 5 = .ok (.ireturn, 1) := by decide +kernel
theorem dX4_recordUnlessError_6 : decode cX4_recordUnlessError 6 = .ok (.aload_n 0, 1) := by decide +kernel
theorem dX4_recordUnlessError_7 : decode cX4_recordUnlessError 7 = .ok (.getfield 20, 3) := by decide +kernel
theorem dX4_recordUnlessError_10 : decode cX4_recordUnlessError 10 = .ok (.bipush 6, 2) := by decide +kernel
theorem dX4_recordUnlessError_12 : decode cX4_recordUnlessError 12 = .ok (.if_icmp .ge 16, 3) := by decide +kernel
theorem dX4_recordUnlessError_15 : decode cX4_recordUnlessError 15 = .ok (.aload_n 0, 1) := by decide +kernel
theorem dX4_recordUnlessError_16 : decode cX4_recordUnlessError 16 = .ok (.dup, 1) := by decide +kernel
theorem dX4_recordUnlessError_17 : decode cX4_recordUnlessError 17 = .ok (.getfield 20, 3) := by decide +kernel
theorem dX4_recordUnlessError_20 : decode cX4_recordUnlessError 20 = .ok (.iconst 1, 1) := by decide +kernel
theorem dX4_recordUnlessError_21 : decode cX4_recordUnlessError 21 = .ok (.iadd, 1) := by decide +kernel
theorem dX4_recordUnlessError_22 : decode cX4_recordUnlessError 22 = .ok (.putfield 20, 3) := by decide +kernel
theorem dX4_recordUnlessError_25 : decode cX4_recordUnlessError 25 = .ok (.goto 7, 3) := by decide +kernel
theorem dX4_recordUnlessError_28 : decode cX4_recordUnlessError 28 = .ok (.aload_n 0, 1) := by decide +kernel
theorem dX4_recordUnlessError_29 : decode cX4_recordUnlessError 29 = .ok (.invokevirtual 177, 3) := by decide +kernel
theorem dX4_recordUnlessError_32 : decode cX4_recordUnlessError 32 = .ok (.iload_n 1, 1) := by decide +kernel
theorem dX4_recordUnlessError_33 : decode cX4_recordUnlessError 33 = .ok (.ireturn, 1) := by decide +kernel
theorem dX4_dropOldest_0 : decode cX4_dropOldest 0 = .ok (.aload_n 0, 1) := by decide +kernel
theorem dX4_dropOldest_1 : decode cX4_dropOldest 1 = .ok (.getfield 16, 3) := by decide +kernel
theorem dX4_dropOldest_4 : decode cX4_dropOldest 4 = .ok (.iconst 0, 1) := by decide +kernel
theorem dX4_dropOldest_5 : decode cX4_dropOldest 5 = .ok (.aaload, 1) := by decide +kernel
theorem dX4_dropOldest_6 : decode cX4_dropOldest 6 = .ok (.astore_n 1, 1) := by decide +kernel
theorem dX4_dropOldest_7 : decode cX4_dropOldest 7 = .ok (.iconst 0, 1) := by decide +kernel
theorem dX4_dropOldest_8 : decode cX4_dropOldest 8 = .ok (.istore_n 2, 1) := by decide +kernel
theorem dX4_dropOldest_9 : decode cX4_dropOldest 9 = .ok (.iload_n 2, 1) := by decide +kernel
theorem dX4_dropOldest_10 : decode cX4_dropOldest 10 = .ok (.bipush 6, 2) := by decide +kernel
theorem dX4_dropOldest_12 : decode cX4_dropOldest 12 = .ok (.if_icmp .ge 23, 3) := by decide +kernel
theorem dX4_dropOldest_15 : decode cX4_dropOldest 15 = .ok (.aload_n 0, 1) := by decide +kernel
theorem dX4_dropOldest_16 : decode cX4_dropOldest 16 = .ok (.getfield 16, 3) := by decide +kernel
theorem dX4_dropOldest_19 : decode cX4_dropOldest 19 = .ok (.iload_n 2, 1) := by decide +kernel
theorem dX4_dropOldest_20 : decode cX4_dropOldest 20 = .ok (.aload_n 0, 1) := by decide +kernel
theorem dX4_dropOldest_21 : decode cX4_dropOldest 21 = .ok (.getfield 16, 3) := by decide +kernel
theorem dX4_dropOldest_24 : decode cX4_dropOldest 24 = .ok (.iload_n 2, 1) := by decide +kernel
theorem dX4_dropOldest_25 : decode cX4_dropOldest 25 = .ok (.iconst 1, 1) := by decide +kernel
theorem dX4_dropOldest_26 : decode cX4_dropOldest 26 = .ok (.iadd, 1) := by decide +kernel
theorem dX4_dropOldest_27 : decode cX4_dropOldest 27 = .ok (.aaload, 1) := by decide +kernel
theorem dX4_dropOldest_28 : decode cX4_dropOldest 28 = .ok (.aastore, 1) := by decide +kernel
theorem dX4_dropOldest_29 : decode cX4_dropOldest 29 = .ok (.iinc 2 1, 3) := by decide +kernel
theorem dX4_dropOldest_32 : decode cX4_dropOldest 32 = .ok (.goto (-23), 3) := by decide +kernel
theorem dX4_dropOldest_35 : decode cX4_dropOldest 35 = .ok (.aload_n 0, 1) := by decide +kernel
theorem dX4_dropOldest_36 : decode cX4_dropOldest 36 = .ok (.getfield 16, 3) := by decide +kernel
theorem dX4_dropOldest_39 : decode cX4_dropOldest 39 = .ok (.bipush 6, 2) := by decide +kernel
theorem dX4_dropOldest_41 : decode cX4_dropOldest 41 = .ok (.aload_n 1, 1) := by decide +kernel
theorem dX4_dropOldest_42 : decode cX4_dropOldest 42 = .ok (.aastore, 1) := by decide +kernel
theorem dX4_dropOldest_43 : decode cX4_dropOldest 43 = .ok (.return_, 1) := by decide +kernel
end
section
def fn_X4_keepState  (x : mm_M) : Option mm_M :=
  if (x 0 2) < 0 ∨ 7 ≤ Int32.toNatClampNeg (x 0 2) then none else if mm_kd (Int32.toNatClampNeg (x 16 (Int32.toNatClampNeg (x 0 2)))) = 3 then (fn_X3_copyFrom (Int32.toNatClampNeg (x 16 (Int32.toNatClampNeg (x 0 2)))) 1 x).bind fun x1 => some x1 else none
abbrev rm_X4_keepState : Room := { frames := 3, cells := 0, slots := 0, locals := 69 }
theorem df_X4_keepState : yX4_keepState.cls = RX4 ∧ yX4_keepState.cls ≠ "java/lang/invoke/MethodHandle" ∧ yX4_keepState.cls ≠ "java/lang/invoke/VarHandle" ∧ (parseMethodDescriptor yX4_keepState.desc).map (fun d => d.parameters.length) = some 0 := by decide +kernel
set_option maxRecDepth 100000 in
set_option maxHeartbeats 4000000 in
theorem ct_X4_keepState (l : Launch) (G : va_G) (T : Nat → ClassId) (b : Nat) (z : Nat → Nat)  (x : mm_M) {x1 : mm_M} (h : fn_X4_keepState  x = some x1) : mm_Cv l yX4_keepState wsX4_keepState rm_X4_keepState G T b z [.ref (b + 0)] x x1 := by
  unfold fn_X4_keepState at h
  refine mm_start (cc := cX4_keepState) (maxL := 1) (ret := none) (by decide) rfl (Nat.le_of_ble_eq_true rfl) (fun p e s m below meth c ls C hr hlk hH hl => ?_)
  have hl : lv_has ls 1 [(0, .ref (b + 0))] := hl
  have hx := C.1
  have hb := C.2.1
  have w1 := C.2.2.2.2.1 (.fieldLink RX4 16 "LandingFines" "history" "[LLandingFines$River;") (by decide +kernel)
  have w2 := C.2.2.2.2.1 (.fieldLink RX4 20 "LandingFines" "historySize" "I") (by decide +kernel)
  have w3 := C.2.2.2.2.1 (.fieldLink RX4 10 "LandingFines" "river" "LLandingFines$River;") (by decide +kernel)
  have hin4 : ∀ w ∈ wsX40, w ∈ wsX4_keepState := by decide +kernel
  refine lv_aload_n hx hb dX4_keepState_0 rfl (lv_at hl 0 rfl) ?_
  refine mm_get (v := .ref (b + 16)) C hH hin4 rfl kl_0 (mm_e4 kd_0) (j := 1) (by decide) rfl w1 rfl dX4_keepState_1 ?_
  refine lv_aload_n hx hb dX4_keepState_4 rfl (lv_at hl 0 rfl) ?_
  refine mm_get (v := .int (x 0 2)) C hH hin4 rfl kl_0 (mm_e4 kd_0) (j := 2) (by decide) rfl w2 rfl dX4_keepState_5 ?_
  obtain ⟨g1, h⟩ := mm_grn h
  refine mm_ald10 C hH kd_16 g1 dX4_keepState_8 ?_
  obtain ⟨g2, h⟩ := mm_grd h
  refine lv_aload_n hx hb dX4_keepState_9 rfl (lv_at hl 0 rfl) ?_
  refine mm_get (v := .ref (b + 1)) C hH hin4 rfl kl_0 (mm_e4 kd_0) (j := 0) (by decide) rfl w3 rfl dX4_keepState_10 ?_
  obtain ⟨x1, e1, h⟩ := mm_bnd h
  refine mm_gov hH (va_runV (As := [.ref (b + 1)]) (rest := []) ⟨hx, hb, C.2.2.1, C.2.2.2.1, C.2.2.2.2.1⟩ (ct_X3_copyFrom l G T b z (Int32.toNatClampNeg (x 16 (Int32.toNatClampNeg (x 0 2)))) 1 x e1) (cwV 1 C.2.2.2.2.1 gX4_keepState_X3_copyFrom rfl rfl rfl df_X3_copyFrom ⟨Nat.le_of_ble_eq_true rfl, Nat.le_of_ble_eq_true rfl⟩) ⟨mm_B.blind, mm_recv (q := (RX3, TX3, 7)) C hH (mm_lt g2 (by decide)) (mm_e3 g2) rfl, mm_pre C hH⟩ rfl rfl hl.1 rfl (lv_room (Nat.le_of_ble_eq_true rfl)) dX4_keepState_13 ⟨Nat.zero_le _, Nat.zero_le _⟩) (fun H locs hH => ?_)
  exact mm_vret C hH hr hlk h dX4_keepState_16
def fn_X4_dropOldest_9 : Nat → Nat → Int32 → mm_M → Option mm_M
  | 0, _, _, _ => none
  | n + 1, k1, i2, x => if (6 : Int32) ≤ i2 then some (x) else if (i2 + 1) < 0 ∨ 7 ≤ Int32.toNatClampNeg (i2 + 1) then none else if mm_kd (Int32.toNatClampNeg (x 16 (Int32.toNatClampNeg (i2 + 1)))) = 3 then if i2 < 0 ∨ 7 ≤ Int32.toNatClampNeg i2 then none else (some (mm_up x 16 (Int32.toNatClampNeg i2) (nI (Int32.toNatClampNeg (x 16 (Int32.toNatClampNeg (i2 + 1))))))).bind fun x1 => (some (i2 + 1)).bind fun v1 => fn_X4_dropOldest_9 n k1 v1 x1 else none
def fn_X4_dropOldest  (x : mm_M) : Option mm_M :=
  if mm_kd (Int32.toNatClampNeg (x 16 (Int32.toNatClampNeg 0))) = 3 then (fn_X4_dropOldest_9 7 (Int32.toNatClampNeg (x 16 (Int32.toNatClampNeg 0))) 0 x).bind fun x1 => (some (mm_up x1 16 (Int32.toNatClampNeg 6) (nI (Int32.toNatClampNeg (x 16 (Int32.toNatClampNeg 0)))))).bind fun x2 => some x2 else none
abbrev rm_X4_dropOldest : Room := { frames := 0, cells := 0, slots := 0, locals := 0 }
theorem df_X4_dropOldest : yX4_dropOldest.cls = RX4 ∧ yX4_dropOldest.cls ≠ "java/lang/invoke/MethodHandle" ∧ yX4_dropOldest.cls ≠ "java/lang/invoke/VarHandle" ∧ (parseMethodDescriptor yX4_dropOldest.desc).map (fun d => d.parameters.length) = some 0 := by decide +kernel
set_option maxRecDepth 100000 in
set_option maxHeartbeats 4000000 in
theorem lp_X4_dropOldest_9 {p : Program} {l : Launch} {e : Env} {s : State} {m : MethodId} {args : Array Value} {below : List Frame} {meth : Method} {c : Code} {Q : State → Prop} {G : va_G} {T : Nat → ClassId} {b : Nat} {z : Nat → Nat} (C : mm_C p m c cX4_dropOldest 3 s args wsX4_dropOldest RX4 G T b z) (k1 : Nat) (hk1 : mm_kd k1 = 3) : ∀ (n : Nat) (i2 : Int32) (x : mm_M) (H : Heap) (locs : List Loc) (ls : Array Slot) (x1 : mm_M), fn_X4_dropOldest_9 n k1 i2 x = some (x1) → mm_H G T b x s H locs → lv_has ls 3 [(0, .ref (b + 0)), (1, .ref (b + k1)), (2, .int i2)] → (∀ (H1 : Heap) (locs1 : List Loc) (ls1 : Array Slot), mm_H G T b x1 s H1 locs1 → lv_has ls1 3 [(0, .ref (b + 0)), (1, .ref (b + k1))] → W p l e rm_X4_dropOldest s m args below meth c H1 locs1 0 0 Q (F0 m 35 ls1 [])) → W p l e rm_X4_dropOldest s m args below meth c H locs 0 0 Q (F0 m 9 ls []) := by
  have hx := C.1
  have hb := C.2.1
  have w1 := C.2.2.2.2.1 (.fieldLink RX4 16 "LandingFines" "history" "[LLandingFines$River;") (by decide +kernel)
  have hin4 : ∀ w ∈ wsX40, w ∈ wsX4_dropOldest := by decide +kernel
  have hk1l := mm_lt hk1 (by decide)
  intro n
  induction n with
  | zero => intro _ _ _ _ _ _ h; cases (show (none : Option mm_M) = some _ from h)
  | succ n ih =>
    intro i2 x H locs ls x1 h hH hl kk
    rw [fn_X4_dropOldest_9] at h
    refine lv_iload_n hx hb dX4_dropOldest_9 rfl (lv_at hl 2 rfl) ?_
    refine lv_bipush (v := 6) hx hb dX4_dropOldest_10 (by decide) ?_
    refine lv_icmp_ge (tgt := 35) hx hb dX4_dropOldest_12 (by decide) (fun c1 => ?_) (fun c1 => ?_)
    · have h := mm_pos c1 h
      have hl := lv_sub (l' := [(0, .ref (b + 0)), (1, .ref (b + k1))]) hl [0, 1] rfl
      cases h
      exact kk _ _ _ hH (lv_sub hl [0, 1] rfl)
    · have h := mm_neg c1 h
      refine lv_aload_n hx hb dX4_dropOldest_15 rfl (lv_at hl 0 rfl) ?_
      refine mm_get (v := .ref (b + 16)) C hH hin4 rfl kl_0 (mm_e4 kd_0) (j := 1) (by decide) rfl w1 rfl dX4_dropOldest_16 ?_
      refine lv_iload_n hx hb dX4_dropOldest_19 rfl (lv_at hl 2 rfl) ?_
      refine lv_aload_n hx hb dX4_dropOldest_20 rfl (lv_at hl 0 rfl) ?_
      refine mm_get (v := .ref (b + 16)) C hH hin4 rfl kl_0 (mm_e4 kd_0) (j := 1) (by decide) rfl w1 rfl dX4_dropOldest_21 ?_
      refine lv_iload_n hx hb dX4_dropOldest_24 rfl (lv_at hl 2 rfl) ?_
      refine lv_iconst (v := 1) hx hb dX4_dropOldest_25 (by decide) ?_
      refine lv_iadd hx hb dX4_dropOldest_26 ?_
      obtain ⟨g1, h⟩ := mm_grn h
      refine mm_ald10 C hH kd_16 g1 dX4_dropOldest_27 ?_
      obtain ⟨g2, h⟩ := mm_grd h
      obtain ⟨g3, h⟩ := mm_grn h
      obtain ⟨x1, e1, h⟩ := mm_bnd h
      refine mm_ast10 C hH kd_16 g2 g3 (Option.some.inj e1) dX4_dropOldest_28 (fun H locs hH => ?_)
      obtain ⟨v1, e2, h⟩ := mm_bnd h
      refine lv_iinc (v := v1) (lv' := [(2, .int v1), (0, .ref (b + 0)), (1, .ref (b + k1))]) hx hb dX4_dropOldest_29 hl (k := 2) rfl (Option.some.inj e2) (by decide) rfl (fun ls hl => ?_)
      refine lv_goto (tgt := 9) hx hb dX4_dropOldest_32 (by decide) ?_
      exact ih v1 x1 _ _ _ _ h hH (lv_sub hl [1, 2, 0] rfl) kk
set_option maxRecDepth 100000 in
set_option maxHeartbeats 4000000 in
theorem ct_X4_dropOldest (l : Launch) (G : va_G) (T : Nat → ClassId) (b : Nat) (z : Nat → Nat)  (x : mm_M) {x1 : mm_M} (h : fn_X4_dropOldest  x = some x1) : mm_Cv l yX4_dropOldest wsX4_dropOldest rm_X4_dropOldest G T b z [.ref (b + 0)] x x1 := by
  unfold fn_X4_dropOldest at h
  refine mm_start (cc := cX4_dropOldest) (maxL := 3) (ret := none) (by decide) rfl (Nat.le_of_ble_eq_true rfl) (fun p e s m below meth c ls C hr hlk hH hl => ?_)
  have hl : lv_has ls 3 [(0, .ref (b + 0))] := hl
  have hx := C.1
  have hb := C.2.1
  have w1 := C.2.2.2.2.1 (.fieldLink RX4 16 "LandingFines" "history" "[LLandingFines$River;") (by decide +kernel)
  have hin4 : ∀ w ∈ wsX40, w ∈ wsX4_dropOldest := by decide +kernel
  refine lv_aload_n hx hb dX4_dropOldest_0 rfl (lv_at hl 0 rfl) ?_
  refine mm_get (v := .ref (b + 16)) C hH hin4 rfl kl_0 (mm_e4 kd_0) (j := 1) (by decide) rfl w1 rfl dX4_dropOldest_1 ?_
  refine lv_iconst (v := 0) hx hb dX4_dropOldest_4 (by decide) ?_
  refine mm_ald10 C hH kd_16 (by decide) dX4_dropOldest_5 ?_
  obtain ⟨g1, h⟩ := mm_grd h
  refine lv_astore_n (lv' := [(1, .ref (b + (Int32.toNatClampNeg (x 16 (Int32.toNatClampNeg 0))))), (0, .ref (b + 0))]) hx hb dX4_dropOldest_6 rfl hl (by decide) rfl (fun ls hl => ?_)
  refine lv_iconst (v := 0) hx hb dX4_dropOldest_7 (by decide) ?_
  refine lv_istore_n (lv' := [(2, .int 0), (1, .ref (b + (Int32.toNatClampNeg (x 16 (Int32.toNatClampNeg 0))))), (0, .ref (b + 0))]) hx hb dX4_dropOldest_8 rfl hl (by decide) rfl (fun ls hl => ?_)
  obtain ⟨x1, e1, h⟩ := mm_bnd h
  refine lp_X4_dropOldest_9 C (Int32.toNatClampNeg (x 16 (Int32.toNatClampNeg 0))) g1 7 0 x _ _ _ _ e1 hH (lv_sub hl [2, 1, 0] rfl) (fun H locs ls hH hl => ?_)
  refine lv_aload_n hx hb dX4_dropOldest_35 rfl (lv_at hl 0 rfl) ?_
  refine mm_get (v := .ref (b + 16)) C hH hin4 rfl kl_0 (mm_e4 kd_0) (j := 1) (by decide) rfl w1 rfl dX4_dropOldest_36 ?_
  refine lv_bipush (v := 6) hx hb dX4_dropOldest_39 (by decide) ?_
  refine lv_aload_n hx hb dX4_dropOldest_41 rfl (lv_at hl 1 rfl) ?_
  obtain ⟨x2, e2, h⟩ := mm_bnd h
  refine mm_ast10 C hH kd_16 g1 (by decide) (Option.some.inj e2) dX4_dropOldest_42 (fun H locs hH => ?_)
  exact mm_vret C hH hr hlk h dX4_dropOldest_43
def fn_X4_recordUnlessError (a1 : Int32) (x : mm_M) : Option (mm_M × Int32) :=
  if (0 : Int32) ≤ a1 then if (6 : Int32) ≤ (x 0 2) then (fn_X4_dropOldest x).bind fun x1 => some (x1, a1) else (some (mm_up x 0 2 ((x 0 2) + 1))).bind fun x2 => some (x2, a1) else some (x, a1)
abbrev rm_X4_recordUnlessError : Room := { frames := 1, cells := 0, slots := 0, locals := 22 }
theorem df_X4_recordUnlessError : yX4_recordUnlessError.cls = RX4 ∧ yX4_recordUnlessError.cls ≠ "java/lang/invoke/MethodHandle" ∧ yX4_recordUnlessError.cls ≠ "java/lang/invoke/VarHandle" ∧ (parseMethodDescriptor yX4_recordUnlessError.desc).map (fun d => d.parameters.length) = some 1 := by decide +kernel
set_option maxRecDepth 100000 in
set_option maxHeartbeats 4000000 in
theorem ct_X4_recordUnlessError (l : Launch) (G : va_G) (T : Nat → ClassId) (b : Nat) (z : Nat → Nat) (a1 : Int32) (x : mm_M) {x1 : mm_M} {r : Int32} (h : fn_X4_recordUnlessError a1 x = some (x1, r)) : mm_Ci l yX4_recordUnlessError wsX4_recordUnlessError rm_X4_recordUnlessError G T b z [.ref (b + 0), .int a1] x r x1 := by
  unfold fn_X4_recordUnlessError at h
  refine mm_start (cc := cX4_recordUnlessError) (maxL := 2) (ret := (some .int)) (by decide) rfl (Nat.le_of_ble_eq_true rfl) (fun p e s m below meth c ls C hr hlk hH hl => ?_)
  have hl : lv_has ls 2 [(0, .ref (b + 0)), (1, .int a1)] := hl
  have hx := C.1
  have hb := C.2.1
  have w1 := C.2.2.2.2.1 (.fieldLink RX4 20 "LandingFines" "historySize" "I") (by decide +kernel)
  have hin4 : ∀ w ∈ wsX40, w ∈ wsX4_recordUnlessError := by decide +kernel
  refine lv_iload_n hx hb dX4_recordUnlessError_0 rfl (lv_at hl 1 rfl) ?_
  refine lv_if_ge (tgt := 6) hx hb dX4_recordUnlessError_1 (by decide) (fun c1 => ?_) (fun c1 => ?_)
  · have h := mm_pos c1 h
    refine lv_aload_n hx hb dX4_recordUnlessError_6 rfl (lv_at hl 0 rfl) ?_
    refine mm_get (v := .int (x 0 2)) C hH hin4 rfl kl_0 (mm_e4 kd_0) (j := 2) (by decide) rfl w1 rfl dX4_recordUnlessError_7 ?_
    refine lv_bipush (v := 6) hx hb dX4_recordUnlessError_10 (by decide) ?_
    refine lv_icmp_ge (tgt := 28) hx hb dX4_recordUnlessError_12 (by decide) (fun c2 => ?_) (fun c2 => ?_)
    · have h := mm_pos c2 h
      refine lv_aload_n hx hb dX4_recordUnlessError_28 rfl (lv_at hl 0 rfl) ?_
      obtain ⟨x1, e1, h⟩ := mm_bnd h
      refine mm_gov hH (va_runV (As := []) (rest := []) ⟨hx, hb, C.2.2.1, C.2.2.2.1, C.2.2.2.2.1⟩ (ct_X4_dropOldest l G T b z x e1) (cwV 0 C.2.2.2.2.1 gX4_recordUnlessError_X4_dropOldest rfl rfl rfl df_X4_dropOldest ⟨Nat.le_of_ble_eq_true rfl, Nat.le_of_ble_eq_true rfl⟩) ⟨mm_B.blind, mm_recv (q := (RX4, TX4, 7)) C hH kl_0 (mm_e4 kd_0) rfl, mm_pre C hH⟩ rfl rfl hl.1 rfl (lv_room (Nat.le_of_ble_eq_true rfl)) dX4_recordUnlessError_29 ⟨Nat.zero_le _, Nat.zero_le _⟩) (fun H locs hH => ?_)
      refine lv_iload_n hx hb dX4_recordUnlessError_32 rfl (lv_at hl 1 rfl) ?_
      exact mm_iret C hH hr hlk rfl h dX4_recordUnlessError_33
    · have h := mm_neg c2 h
      refine lv_aload_n hx hb dX4_recordUnlessError_15 rfl (lv_at hl 0 rfl) ?_
      refine lv_dup hx hb dX4_recordUnlessError_16 rfl ?_
      refine mm_get (v := .int (x 0 2)) C hH hin4 rfl kl_0 (mm_e4 kd_0) (j := 2) (by decide) rfl w1 rfl dX4_recordUnlessError_17 ?_
      refine lv_iconst (v := 1) hx hb dX4_recordUnlessError_20 (by decide) ?_
      refine lv_iadd hx hb dX4_recordUnlessError_21 ?_
      obtain ⟨x2, e2, h⟩ := mm_bnd h
      refine mm_put (ty := .int) C hH hin4 tyX4_ok nmX4 rfl kl_0 (mm_e4 kd_0) (j := 2) (by decide) rfl w1 pd_I rfl rfl (Nat.le_of_ble_eq_true rfl) (sp_4_2 kd_0) (Option.some.inj e2) dX4_recordUnlessError_22 (fun H locs hH => ?_)
      refine lv_goto (tgt := 32) hx hb dX4_recordUnlessError_25 (by decide) ?_
      have hl := lv_sub (l' := [(1, .int a1)]) hl [1] rfl
      refine lv_iload_n hx hb dX4_recordUnlessError_32 rfl (lv_at hl 0 rfl) ?_
      exact mm_iret C hH hr hlk rfl h dX4_recordUnlessError_33
  · have h := mm_neg c1 h
    have hl := lv_sub (l' := [(1, .int a1)]) hl [1] rfl
    refine lv_iload_n hx hb dX4_recordUnlessError_4 rfl (lv_at hl 0 rfl) ?_
    exact mm_iret C hH hr hlk rfl h dX4_recordUnlessError_5
def fn_X4_set (a1 : Int32) (a2 : Int32) (x : mm_M) : Option (mm_M × Int32) :=
  (fn_X4_keepState x).bind fun x1 => mm_b2 (fn_X3_changeSetting a1 a2 x1) fun x2 v1 => mm_b2 (fn_X4_recordUnlessError v1 x2) fun x3 v2 => some (x3, v2)
abbrev rm_X4_set : Room := { frames := 4, cells := 0, slots := 0, locals := 89 }
theorem df_X4_set : yX4_set.cls = RX4 ∧ yX4_set.cls ≠ "java/lang/invoke/MethodHandle" ∧ yX4_set.cls ≠ "java/lang/invoke/VarHandle" ∧ (parseMethodDescriptor yX4_set.desc).map (fun d => d.parameters.length) = some 2 := by decide +kernel
set_option maxRecDepth 100000 in
set_option maxHeartbeats 4000000 in
theorem ct_X4_set (l : Launch) (G : va_G) (T : Nat → ClassId) (b : Nat) (z : Nat → Nat) (a1 : Int32) (a2 : Int32) (x : mm_M) {x1 : mm_M} {r : Int32} (h : fn_X4_set a1 a2 x = some (x1, r)) : mm_Ci l yX4_set wsX4_set rm_X4_set G T b z [.ref (b + 0), .int a1, .int a2] x r x1 := by
  unfold fn_X4_set at h
  refine mm_start (cc := cX4_set) (maxL := 3) (ret := (some .int)) (by decide) rfl (Nat.le_of_ble_eq_true rfl) (fun p e s m below meth c ls C hr hlk hH hl => ?_)
  have hl : lv_has ls 3 [(0, .ref (b + 0)), (1, .int a1), (2, .int a2)] := hl
  have hx := C.1
  have hb := C.2.1
  have w1 := C.2.2.2.2.1 (.fieldLink RX4 10 "LandingFines" "river" "LLandingFines$River;") (by decide +kernel)
  have hin4 : ∀ w ∈ wsX40, w ∈ wsX4_set := by decide +kernel
  refine lv_aload_n hx hb dX4_set_0 rfl (lv_at hl 0 rfl) ?_
  obtain ⟨x1, e1, h⟩ := mm_bnd h
  refine mm_gov hH (va_runV (As := []) (rest := []) ⟨hx, hb, C.2.2.1, C.2.2.2.1, C.2.2.2.2.1⟩ (ct_X4_keepState l G T b z x e1) (cwV 0 C.2.2.2.2.1 gX4_set_X4_keepState rfl rfl rfl df_X4_keepState ⟨Nat.le_of_ble_eq_true rfl, Nat.le_of_ble_eq_true rfl⟩) ⟨mm_B.blind, mm_recv (q := (RX4, TX4, 7)) C hH kl_0 (mm_e4 kd_0) rfl, mm_pre C hH⟩ rfl rfl hl.1 rfl (lv_room (Nat.le_of_ble_eq_true rfl)) dX4_set_1 ⟨Nat.zero_le _, Nat.zero_le _⟩) (fun H locs hH => ?_)
  refine lv_aload_n hx hb dX4_set_4 rfl (lv_at hl 0 rfl) ?_
  refine lv_aload_n hx hb dX4_set_5 rfl (lv_at hl 0 rfl) ?_
  refine mm_get (v := .ref (b + 1)) C hH hin4 rfl kl_0 (mm_e4 kd_0) (j := 0) (by decide) rfl w1 rfl dX4_set_6 ?_
  refine lv_iload_n hx hb dX4_set_9 rfl (lv_at hl 1 rfl) ?_
  refine lv_iload_n hx hb dX4_set_10 rfl (lv_at hl 2 rfl) ?_
  obtain ⟨x2, v1, e2, h⟩ := mm_bnd2 h
  refine mm_goi hH (va_runV (As := [.int a1, .int a2]) (rest := [.ref (b + 0)]) ⟨hx, hb, C.2.2.1, C.2.2.2.1, C.2.2.2.2.1⟩ (ct_X3_changeSetting l G T b z a1 a2 x1 e2) (cwV 2 C.2.2.2.2.1 gX4_set_X3_changeSetting rfl rfl rfl df_X3_changeSetting ⟨Nat.le_of_ble_eq_true rfl, Nat.le_of_ble_eq_true rfl⟩) ⟨mm_B.blind, mm_recv (q := (RX3, TX3, 7)) C hH kl_1 (mm_e3 kd_1) rfl, mm_pre C hH⟩ rfl rfl hl.1 rfl (lv_room (Nat.le_of_ble_eq_true rfl)) dX4_set_11 ⟨Nat.zero_le _, Nat.zero_le _⟩) (fun H locs hH => ?_)
  obtain ⟨x3, v2, e3, h⟩ := mm_bnd2 h
  refine mm_goi hH (va_runV (As := [.int v1]) (rest := []) ⟨hx, hb, C.2.2.1, C.2.2.2.1, C.2.2.2.2.1⟩ (ct_X4_recordUnlessError l G T b z v1 x2 e3) (cwV 1 C.2.2.2.2.1 gX4_set_X4_recordUnlessError rfl rfl rfl df_X4_recordUnlessError ⟨Nat.le_of_ble_eq_true rfl, Nat.le_of_ble_eq_true rfl⟩) ⟨mm_B.blind, mm_recv (q := (RX4, TX4, 7)) C hH kl_0 (mm_e4 kd_0) rfl, mm_pre C hH⟩ rfl rfl hl.1 rfl (lv_room (Nat.le_of_ble_eq_true rfl)) dX4_set_14 ⟨Nat.zero_le _, Nat.zero_le _⟩) (fun H locs hH => ?_)
  exact mm_iret C hH hr hlk rfl h dX4_set_17
def fn_X4_landing (a1 : Int32) (x : mm_M) : Option (mm_M × Int32) :=
  (fn_X4_keepState x).bind fun x1 => mm_b2 (fn_X3_addLanding a1 x1) fun x2 v1 => mm_b2 (fn_X4_recordUnlessError v1 x2) fun x3 v2 => some (x3, v2)
abbrev rm_X4_landing : Room := { frames := 4, cells := 0, slots := 0, locals := 89 }
theorem df_X4_landing : yX4_landing.cls = RX4 ∧ yX4_landing.cls ≠ "java/lang/invoke/MethodHandle" ∧ yX4_landing.cls ≠ "java/lang/invoke/VarHandle" ∧ (parseMethodDescriptor yX4_landing.desc).map (fun d => d.parameters.length) = some 1 := by decide +kernel
set_option maxRecDepth 100000 in
set_option maxHeartbeats 4000000 in
theorem ct_X4_landing (l : Launch) (G : va_G) (T : Nat → ClassId) (b : Nat) (z : Nat → Nat) (a1 : Int32) (x : mm_M) {x1 : mm_M} {r : Int32} (h : fn_X4_landing a1 x = some (x1, r)) : mm_Ci l yX4_landing wsX4_landing rm_X4_landing G T b z [.ref (b + 0), .int a1] x r x1 := by
  unfold fn_X4_landing at h
  refine mm_start (cc := cX4_landing) (maxL := 2) (ret := (some .int)) (by decide) rfl (Nat.le_of_ble_eq_true rfl) (fun p e s m below meth c ls C hr hlk hH hl => ?_)
  have hl : lv_has ls 2 [(0, .ref (b + 0)), (1, .int a1)] := hl
  have hx := C.1
  have hb := C.2.1
  have w1 := C.2.2.2.2.1 (.fieldLink RX4 10 "LandingFines" "river" "LLandingFines$River;") (by decide +kernel)
  have hin4 : ∀ w ∈ wsX40, w ∈ wsX4_landing := by decide +kernel
  refine lv_aload_n hx hb dX4_landing_0 rfl (lv_at hl 0 rfl) ?_
  obtain ⟨x1, e1, h⟩ := mm_bnd h
  refine mm_gov hH (va_runV (As := []) (rest := []) ⟨hx, hb, C.2.2.1, C.2.2.2.1, C.2.2.2.2.1⟩ (ct_X4_keepState l G T b z x e1) (cwV 0 C.2.2.2.2.1 gX4_landing_X4_keepState rfl rfl rfl df_X4_keepState ⟨Nat.le_of_ble_eq_true rfl, Nat.le_of_ble_eq_true rfl⟩) ⟨mm_B.blind, mm_recv (q := (RX4, TX4, 7)) C hH kl_0 (mm_e4 kd_0) rfl, mm_pre C hH⟩ rfl rfl hl.1 rfl (lv_room (Nat.le_of_ble_eq_true rfl)) dX4_landing_1 ⟨Nat.zero_le _, Nat.zero_le _⟩) (fun H locs hH => ?_)
  refine lv_aload_n hx hb dX4_landing_4 rfl (lv_at hl 0 rfl) ?_
  refine lv_aload_n hx hb dX4_landing_5 rfl (lv_at hl 0 rfl) ?_
  refine mm_get (v := .ref (b + 1)) C hH hin4 rfl kl_0 (mm_e4 kd_0) (j := 0) (by decide) rfl w1 rfl dX4_landing_6 ?_
  refine lv_iload_n hx hb dX4_landing_9 rfl (lv_at hl 1 rfl) ?_
  obtain ⟨x2, v1, e2, h⟩ := mm_bnd2 h
  refine mm_goi hH (va_runV (As := [.int a1]) (rest := [.ref (b + 0)]) ⟨hx, hb, C.2.2.1, C.2.2.2.1, C.2.2.2.2.1⟩ (ct_X3_addLanding l G T b z a1 x1 e2) (cwV 1 C.2.2.2.2.1 gX4_landing_X3_addLanding rfl rfl rfl df_X3_addLanding ⟨Nat.le_of_ble_eq_true rfl, Nat.le_of_ble_eq_true rfl⟩) ⟨mm_B.blind, mm_recv (q := (RX3, TX3, 7)) C hH kl_1 (mm_e3 kd_1) rfl, mm_pre C hH⟩ rfl rfl hl.1 rfl (lv_room (Nat.le_of_ble_eq_true rfl)) dX4_landing_10 ⟨Nat.zero_le _, Nat.zero_le _⟩) (fun H locs hH => ?_)
  obtain ⟨x3, v2, e3, h⟩ := mm_bnd2 h
  refine mm_goi hH (va_runV (As := [.int v1]) (rest := []) ⟨hx, hb, C.2.2.1, C.2.2.2.1, C.2.2.2.2.1⟩ (ct_X4_recordUnlessError l G T b z v1 x2 e3) (cwV 1 C.2.2.2.2.1 gX4_landing_X4_recordUnlessError rfl rfl rfl df_X4_recordUnlessError ⟨Nat.le_of_ble_eq_true rfl, Nat.le_of_ble_eq_true rfl⟩) ⟨mm_B.blind, mm_recv (q := (RX4, TX4, 7)) C hH kl_0 (mm_e4 kd_0) rfl, mm_pre C hH⟩ rfl rfl hl.1 rfl (lv_room (Nat.le_of_ble_eq_true rfl)) dX4_landing_13 ⟨Nat.zero_le _, Nat.zero_le _⟩) (fun H locs hH => ?_)
  exact mm_iret C hH hr hlk rfl h dX4_landing_16
def fn_X4_open (a1 : Int32) (x : mm_M) : Option (mm_M × Int32) :=
  (fn_X4_keepState x).bind fun x1 => mm_b2 (fn_X3_openLanding a1 x1) fun x2 v1 => mm_b2 (fn_X4_recordUnlessError v1 x2) fun x3 v2 => some (x3, v2)
abbrev rm_X4_open : Room := { frames := 5, cells := 0, slots := 0, locals := 110 }
theorem df_X4_open : yX4_open.cls = RX4 ∧ yX4_open.cls ≠ "java/lang/invoke/MethodHandle" ∧ yX4_open.cls ≠ "java/lang/invoke/VarHandle" ∧ (parseMethodDescriptor yX4_open.desc).map (fun d => d.parameters.length) = some 1 := by decide +kernel
set_option maxRecDepth 100000 in
set_option maxHeartbeats 4000000 in
theorem ct_X4_open (l : Launch) (G : va_G) (T : Nat → ClassId) (b : Nat) (z : Nat → Nat) (a1 : Int32) (x : mm_M) {x1 : mm_M} {r : Int32} (h : fn_X4_open a1 x = some (x1, r)) : mm_Ci l yX4_open wsX4_open rm_X4_open G T b z [.ref (b + 0), .int a1] x r x1 := by
  unfold fn_X4_open at h
  refine mm_start (cc := cX4_open) (maxL := 2) (ret := (some .int)) (by decide) rfl (Nat.le_of_ble_eq_true rfl) (fun p e s m below meth c ls C hr hlk hH hl => ?_)
  have hl : lv_has ls 2 [(0, .ref (b + 0)), (1, .int a1)] := hl
  have hx := C.1
  have hb := C.2.1
  have w1 := C.2.2.2.2.1 (.fieldLink RX4 10 "LandingFines" "river" "LLandingFines$River;") (by decide +kernel)
  have hin4 : ∀ w ∈ wsX40, w ∈ wsX4_open := by decide +kernel
  refine lv_aload_n hx hb dX4_open_0 rfl (lv_at hl 0 rfl) ?_
  obtain ⟨x1, e1, h⟩ := mm_bnd h
  refine mm_gov hH (va_runV (As := []) (rest := []) ⟨hx, hb, C.2.2.1, C.2.2.2.1, C.2.2.2.2.1⟩ (ct_X4_keepState l G T b z x e1) (cwV 0 C.2.2.2.2.1 gX4_open_X4_keepState rfl rfl rfl df_X4_keepState ⟨Nat.le_of_ble_eq_true rfl, Nat.le_of_ble_eq_true rfl⟩) ⟨mm_B.blind, mm_recv (q := (RX4, TX4, 7)) C hH kl_0 (mm_e4 kd_0) rfl, mm_pre C hH⟩ rfl rfl hl.1 rfl (lv_room (Nat.le_of_ble_eq_true rfl)) dX4_open_1 ⟨Nat.zero_le _, Nat.zero_le _⟩) (fun H locs hH => ?_)
  refine lv_aload_n hx hb dX4_open_4 rfl (lv_at hl 0 rfl) ?_
  refine lv_aload_n hx hb dX4_open_5 rfl (lv_at hl 0 rfl) ?_
  refine mm_get (v := .ref (b + 1)) C hH hin4 rfl kl_0 (mm_e4 kd_0) (j := 0) (by decide) rfl w1 rfl dX4_open_6 ?_
  refine lv_iload_n hx hb dX4_open_9 rfl (lv_at hl 1 rfl) ?_
  obtain ⟨x2, v1, e2, h⟩ := mm_bnd2 h
  refine mm_goi hH (va_runV (As := [.int a1]) (rest := [.ref (b + 0)]) ⟨hx, hb, C.2.2.1, C.2.2.2.1, C.2.2.2.2.1⟩ (ct_X3_openLanding l G T b z a1 x1 e2) (cwV 1 C.2.2.2.2.1 gX4_open_X3_openLanding rfl rfl rfl df_X3_openLanding ⟨Nat.le_of_ble_eq_true rfl, Nat.le_of_ble_eq_true rfl⟩) ⟨mm_B.blind, mm_recv (q := (RX3, TX3, 7)) C hH kl_1 (mm_e3 kd_1) rfl, mm_pre C hH⟩ rfl rfl hl.1 rfl (lv_room (Nat.le_of_ble_eq_true rfl)) dX4_open_10 ⟨Nat.zero_le _, Nat.zero_le _⟩) (fun H locs hH => ?_)
  obtain ⟨x3, v2, e3, h⟩ := mm_bnd2 h
  refine mm_goi hH (va_runV (As := [.int v1]) (rest := []) ⟨hx, hb, C.2.2.1, C.2.2.2.1, C.2.2.2.2.1⟩ (ct_X4_recordUnlessError l G T b z v1 x2 e3) (cwV 1 C.2.2.2.2.1 gX4_open_X4_recordUnlessError rfl rfl rfl df_X4_recordUnlessError ⟨Nat.le_of_ble_eq_true rfl, Nat.le_of_ble_eq_true rfl⟩) ⟨mm_B.blind, mm_recv (q := (RX4, TX4, 7)) C hH kl_0 (mm_e4 kd_0) rfl, mm_pre C hH⟩ rfl rfl hl.1 rfl (lv_room (Nat.le_of_ble_eq_true rfl)) dX4_open_13 ⟨Nat.zero_le _, Nat.zero_le _⟩) (fun H locs hH => ?_)
  exact mm_iret C hH hr hlk rfl h dX4_open_16
def fn_X4_close (a1 : Int32) (x : mm_M) : Option (mm_M × Int32) :=
  (fn_X4_keepState x).bind fun x1 => mm_b2 (fn_X3_closeLanding a1 x1) fun x2 v1 => mm_b2 (fn_X4_recordUnlessError v1 x2) fun x3 v2 => some (x3, v2)
abbrev rm_X4_close : Room := { frames := 5, cells := 0, slots := 0, locals := 110 }
theorem df_X4_close : yX4_close.cls = RX4 ∧ yX4_close.cls ≠ "java/lang/invoke/MethodHandle" ∧ yX4_close.cls ≠ "java/lang/invoke/VarHandle" ∧ (parseMethodDescriptor yX4_close.desc).map (fun d => d.parameters.length) = some 1 := by decide +kernel
set_option maxRecDepth 100000 in
set_option maxHeartbeats 4000000 in
theorem ct_X4_close (l : Launch) (G : va_G) (T : Nat → ClassId) (b : Nat) (z : Nat → Nat) (a1 : Int32) (x : mm_M) {x1 : mm_M} {r : Int32} (h : fn_X4_close a1 x = some (x1, r)) : mm_Ci l yX4_close wsX4_close rm_X4_close G T b z [.ref (b + 0), .int a1] x r x1 := by
  unfold fn_X4_close at h
  refine mm_start (cc := cX4_close) (maxL := 2) (ret := (some .int)) (by decide) rfl (Nat.le_of_ble_eq_true rfl) (fun p e s m below meth c ls C hr hlk hH hl => ?_)
  have hl : lv_has ls 2 [(0, .ref (b + 0)), (1, .int a1)] := hl
  have hx := C.1
  have hb := C.2.1
  have w1 := C.2.2.2.2.1 (.fieldLink RX4 10 "LandingFines" "river" "LLandingFines$River;") (by decide +kernel)
  have hin4 : ∀ w ∈ wsX40, w ∈ wsX4_close := by decide +kernel
  refine lv_aload_n hx hb dX4_close_0 rfl (lv_at hl 0 rfl) ?_
  obtain ⟨x1, e1, h⟩ := mm_bnd h
  refine mm_gov hH (va_runV (As := []) (rest := []) ⟨hx, hb, C.2.2.1, C.2.2.2.1, C.2.2.2.2.1⟩ (ct_X4_keepState l G T b z x e1) (cwV 0 C.2.2.2.2.1 gX4_close_X4_keepState rfl rfl rfl df_X4_keepState ⟨Nat.le_of_ble_eq_true rfl, Nat.le_of_ble_eq_true rfl⟩) ⟨mm_B.blind, mm_recv (q := (RX4, TX4, 7)) C hH kl_0 (mm_e4 kd_0) rfl, mm_pre C hH⟩ rfl rfl hl.1 rfl (lv_room (Nat.le_of_ble_eq_true rfl)) dX4_close_1 ⟨Nat.zero_le _, Nat.zero_le _⟩) (fun H locs hH => ?_)
  refine lv_aload_n hx hb dX4_close_4 rfl (lv_at hl 0 rfl) ?_
  refine lv_aload_n hx hb dX4_close_5 rfl (lv_at hl 0 rfl) ?_
  refine mm_get (v := .ref (b + 1)) C hH hin4 rfl kl_0 (mm_e4 kd_0) (j := 0) (by decide) rfl w1 rfl dX4_close_6 ?_
  refine lv_iload_n hx hb dX4_close_9 rfl (lv_at hl 1 rfl) ?_
  obtain ⟨x2, v1, e2, h⟩ := mm_bnd2 h
  refine mm_goi hH (va_runV (As := [.int a1]) (rest := [.ref (b + 0)]) ⟨hx, hb, C.2.2.1, C.2.2.2.1, C.2.2.2.2.1⟩ (ct_X3_closeLanding l G T b z a1 x1 e2) (cwV 1 C.2.2.2.2.1 gX4_close_X3_closeLanding rfl rfl rfl df_X3_closeLanding ⟨Nat.le_of_ble_eq_true rfl, Nat.le_of_ble_eq_true rfl⟩) ⟨mm_B.blind, mm_recv (q := (RX3, TX3, 7)) C hH kl_1 (mm_e3 kd_1) rfl, mm_pre C hH⟩ rfl rfl hl.1 rfl (lv_room (Nat.le_of_ble_eq_true rfl)) dX4_close_10 ⟨Nat.zero_le _, Nat.zero_le _⟩) (fun H locs hH => ?_)
  obtain ⟨x3, v2, e3, h⟩ := mm_bnd2 h
  refine mm_goi hH (va_runV (As := [.int v1]) (rest := []) ⟨hx, hb, C.2.2.1, C.2.2.2.1, C.2.2.2.2.1⟩ (ct_X4_recordUnlessError l G T b z v1 x2 e3) (cwV 1 C.2.2.2.2.1 gX4_close_X4_recordUnlessError rfl rfl rfl df_X4_recordUnlessError ⟨Nat.le_of_ble_eq_true rfl, Nat.le_of_ble_eq_true rfl⟩) ⟨mm_B.blind, mm_recv (q := (RX4, TX4, 7)) C hH kl_0 (mm_e4 kd_0) rfl, mm_pre C hH⟩ rfl rfl hl.1 rfl (lv_room (Nat.le_of_ble_eq_true rfl)) dX4_close_13 ⟨Nat.zero_le _, Nat.zero_le _⟩) (fun H locs hH => ?_)
  exact mm_iret C hH hr hlk rfl h dX4_close_16
def fn_X4_price (a1 : Int32) (a2 : Int32) (x : mm_M) : Option (mm_M × Int32) :=
  (fn_X4_keepState x).bind fun x1 => mm_b2 (fn_X3_changePrice a1 a2 x1) fun x2 v1 => mm_b2 (fn_X4_recordUnlessError v1 x2) fun x3 v2 => some (x3, v2)
abbrev rm_X4_price : Room := { frames := 5, cells := 0, slots := 0, locals := 111 }
theorem df_X4_price : yX4_price.cls = RX4 ∧ yX4_price.cls ≠ "java/lang/invoke/MethodHandle" ∧ yX4_price.cls ≠ "java/lang/invoke/VarHandle" ∧ (parseMethodDescriptor yX4_price.desc).map (fun d => d.parameters.length) = some 2 := by decide +kernel
set_option maxRecDepth 100000 in
set_option maxHeartbeats 4000000 in
theorem ct_X4_price (l : Launch) (G : va_G) (T : Nat → ClassId) (b : Nat) (z : Nat → Nat) (a1 : Int32) (a2 : Int32) (x : mm_M) {x1 : mm_M} {r : Int32} (h : fn_X4_price a1 a2 x = some (x1, r)) : mm_Ci l yX4_price wsX4_price rm_X4_price G T b z [.ref (b + 0), .int a1, .int a2] x r x1 := by
  unfold fn_X4_price at h
  refine mm_start (cc := cX4_price) (maxL := 3) (ret := (some .int)) (by decide) rfl (Nat.le_of_ble_eq_true rfl) (fun p e s m below meth c ls C hr hlk hH hl => ?_)
  have hl : lv_has ls 3 [(0, .ref (b + 0)), (1, .int a1), (2, .int a2)] := hl
  have hx := C.1
  have hb := C.2.1
  have w1 := C.2.2.2.2.1 (.fieldLink RX4 10 "LandingFines" "river" "LLandingFines$River;") (by decide +kernel)
  have hin4 : ∀ w ∈ wsX40, w ∈ wsX4_price := by decide +kernel
  refine lv_aload_n hx hb dX4_price_0 rfl (lv_at hl 0 rfl) ?_
  obtain ⟨x1, e1, h⟩ := mm_bnd h
  refine mm_gov hH (va_runV (As := []) (rest := []) ⟨hx, hb, C.2.2.1, C.2.2.2.1, C.2.2.2.2.1⟩ (ct_X4_keepState l G T b z x e1) (cwV 0 C.2.2.2.2.1 gX4_price_X4_keepState rfl rfl rfl df_X4_keepState ⟨Nat.le_of_ble_eq_true rfl, Nat.le_of_ble_eq_true rfl⟩) ⟨mm_B.blind, mm_recv (q := (RX4, TX4, 7)) C hH kl_0 (mm_e4 kd_0) rfl, mm_pre C hH⟩ rfl rfl hl.1 rfl (lv_room (Nat.le_of_ble_eq_true rfl)) dX4_price_1 ⟨Nat.zero_le _, Nat.zero_le _⟩) (fun H locs hH => ?_)
  refine lv_aload_n hx hb dX4_price_4 rfl (lv_at hl 0 rfl) ?_
  refine lv_aload_n hx hb dX4_price_5 rfl (lv_at hl 0 rfl) ?_
  refine mm_get (v := .ref (b + 1)) C hH hin4 rfl kl_0 (mm_e4 kd_0) (j := 0) (by decide) rfl w1 rfl dX4_price_6 ?_
  refine lv_iload_n hx hb dX4_price_9 rfl (lv_at hl 1 rfl) ?_
  refine lv_iload_n hx hb dX4_price_10 rfl (lv_at hl 2 rfl) ?_
  obtain ⟨x2, v1, e2, h⟩ := mm_bnd2 h
  refine mm_goi hH (va_runV (As := [.int a1, .int a2]) (rest := [.ref (b + 0)]) ⟨hx, hb, C.2.2.1, C.2.2.2.1, C.2.2.2.2.1⟩ (ct_X3_changePrice l G T b z a1 a2 x1 e2) (cwV 2 C.2.2.2.2.1 gX4_price_X3_changePrice rfl rfl rfl df_X3_changePrice ⟨Nat.le_of_ble_eq_true rfl, Nat.le_of_ble_eq_true rfl⟩) ⟨mm_B.blind, mm_recv (q := (RX3, TX3, 7)) C hH kl_1 (mm_e3 kd_1) rfl, mm_pre C hH⟩ rfl rfl hl.1 rfl (lv_room (Nat.le_of_ble_eq_true rfl)) dX4_price_11 ⟨Nat.zero_le _, Nat.zero_le _⟩) (fun H locs hH => ?_)
  obtain ⟨x3, v2, e3, h⟩ := mm_bnd2 h
  refine mm_goi hH (va_runV (As := [.int v1]) (rest := []) ⟨hx, hb, C.2.2.1, C.2.2.2.1, C.2.2.2.2.1⟩ (ct_X4_recordUnlessError l G T b z v1 x2 e3) (cwV 1 C.2.2.2.2.1 gX4_price_X4_recordUnlessError rfl rfl rfl df_X4_recordUnlessError ⟨Nat.le_of_ble_eq_true rfl, Nat.le_of_ble_eq_true rfl⟩) ⟨mm_B.blind, mm_recv (q := (RX4, TX4, 7)) C hH kl_0 (mm_e4 kd_0) rfl, mm_pre C hH⟩ rfl rfl hl.1 rfl (lv_room (Nat.le_of_ble_eq_true rfl)) dX4_price_14 ⟨Nat.zero_le _, Nat.zero_le _⟩) (fun H locs hH => ?_)
  exact mm_iret C hH hr hlk rfl h dX4_price_17
def fn_X4_pass (a1 : Int32) (x : mm_M) : Option (mm_M × Int32) :=
  (fn_X4_keepState x).bind fun x1 => mm_b2 (fn_X3_passMinutes a1 x1) fun x2 v1 => mm_b2 (fn_X4_recordUnlessError v1 x2) fun x3 v2 => some (x3, v2)
abbrev rm_X4_pass : Room := { frames := 5, cells := 0, slots := 0, locals := 110 }
theorem df_X4_pass : yX4_pass.cls = RX4 ∧ yX4_pass.cls ≠ "java/lang/invoke/MethodHandle" ∧ yX4_pass.cls ≠ "java/lang/invoke/VarHandle" ∧ (parseMethodDescriptor yX4_pass.desc).map (fun d => d.parameters.length) = some 1 := by decide +kernel
set_option maxRecDepth 100000 in
set_option maxHeartbeats 4000000 in
theorem ct_X4_pass (l : Launch) (G : va_G) (T : Nat → ClassId) (b : Nat) (z : Nat → Nat) (a1 : Int32) (x : mm_M) {x1 : mm_M} {r : Int32} (h : fn_X4_pass a1 x = some (x1, r)) : mm_Ci l yX4_pass wsX4_pass rm_X4_pass G T b z [.ref (b + 0), .int a1] x r x1 := by
  unfold fn_X4_pass at h
  refine mm_start (cc := cX4_pass) (maxL := 2) (ret := (some .int)) (by decide) rfl (Nat.le_of_ble_eq_true rfl) (fun p e s m below meth c ls C hr hlk hH hl => ?_)
  have hl : lv_has ls 2 [(0, .ref (b + 0)), (1, .int a1)] := hl
  have hx := C.1
  have hb := C.2.1
  have w1 := C.2.2.2.2.1 (.fieldLink RX4 10 "LandingFines" "river" "LLandingFines$River;") (by decide +kernel)
  have hin4 : ∀ w ∈ wsX40, w ∈ wsX4_pass := by decide +kernel
  refine lv_aload_n hx hb dX4_pass_0 rfl (lv_at hl 0 rfl) ?_
  obtain ⟨x1, e1, h⟩ := mm_bnd h
  refine mm_gov hH (va_runV (As := []) (rest := []) ⟨hx, hb, C.2.2.1, C.2.2.2.1, C.2.2.2.2.1⟩ (ct_X4_keepState l G T b z x e1) (cwV 0 C.2.2.2.2.1 gX4_pass_X4_keepState rfl rfl rfl df_X4_keepState ⟨Nat.le_of_ble_eq_true rfl, Nat.le_of_ble_eq_true rfl⟩) ⟨mm_B.blind, mm_recv (q := (RX4, TX4, 7)) C hH kl_0 (mm_e4 kd_0) rfl, mm_pre C hH⟩ rfl rfl hl.1 rfl (lv_room (Nat.le_of_ble_eq_true rfl)) dX4_pass_1 ⟨Nat.zero_le _, Nat.zero_le _⟩) (fun H locs hH => ?_)
  refine lv_aload_n hx hb dX4_pass_4 rfl (lv_at hl 0 rfl) ?_
  refine lv_aload_n hx hb dX4_pass_5 rfl (lv_at hl 0 rfl) ?_
  refine mm_get (v := .ref (b + 1)) C hH hin4 rfl kl_0 (mm_e4 kd_0) (j := 0) (by decide) rfl w1 rfl dX4_pass_6 ?_
  refine lv_iload_n hx hb dX4_pass_9 rfl (lv_at hl 1 rfl) ?_
  obtain ⟨x2, v1, e2, h⟩ := mm_bnd2 h
  refine mm_goi hH (va_runV (As := [.int a1]) (rest := [.ref (b + 0)]) ⟨hx, hb, C.2.2.1, C.2.2.2.1, C.2.2.2.2.1⟩ (ct_X3_passMinutes l G T b z a1 x1 e2) (cwV 1 C.2.2.2.2.1 gX4_pass_X3_passMinutes rfl rfl rfl df_X3_passMinutes ⟨Nat.le_of_ble_eq_true rfl, Nat.le_of_ble_eq_true rfl⟩) ⟨mm_B.blind, mm_recv (q := (RX3, TX3, 7)) C hH kl_1 (mm_e3 kd_1) rfl, mm_pre C hH⟩ rfl rfl hl.1 rfl (lv_room (Nat.le_of_ble_eq_true rfl)) dX4_pass_10 ⟨Nat.zero_le _, Nat.zero_le _⟩) (fun H locs hH => ?_)
  obtain ⟨x3, v2, e3, h⟩ := mm_bnd2 h
  refine mm_goi hH (va_runV (As := [.int v1]) (rest := []) ⟨hx, hb, C.2.2.1, C.2.2.2.1, C.2.2.2.2.1⟩ (ct_X4_recordUnlessError l G T b z v1 x2 e3) (cwV 1 C.2.2.2.2.1 gX4_pass_X4_recordUnlessError rfl rfl rfl df_X4_recordUnlessError ⟨Nat.le_of_ble_eq_true rfl, Nat.le_of_ble_eq_true rfl⟩) ⟨mm_B.blind, mm_recv (q := (RX4, TX4, 7)) C hH kl_0 (mm_e4 kd_0) rfl, mm_pre C hH⟩ rfl rfl hl.1 rfl (lv_room (Nat.le_of_ble_eq_true rfl)) dX4_pass_13 ⟨Nat.zero_le _, Nat.zero_le _⟩) (fun H locs hH => ?_)
  exact mm_iret C hH hr hlk rfl h dX4_pass_16
def fn_X4_of (a1 : Int32) (a2 : Int32) (x : mm_M) : Option Int32 :=
  (fn_X3_find a1 x).bind fun o1 => mm_oc o1 (some ((-1) : Int32)) fun k1 => if mm_kd k1 = 1 then (fn_X1_tell k1 a2 x).bind fun v1 => some v1 else none
abbrev rm_X4_of : Room := { frames := 1, cells := 0, slots := 0, locals := 21 }
theorem df_X4_of : yX4_of.cls = RX4 ∧ yX4_of.cls ≠ "java/lang/invoke/MethodHandle" ∧ yX4_of.cls ≠ "java/lang/invoke/VarHandle" ∧ (parseMethodDescriptor yX4_of.desc).map (fun d => d.parameters.length) = some 2 := by decide +kernel
set_option maxRecDepth 100000 in
set_option maxHeartbeats 4000000 in
theorem ct_X4_of (l : Launch) (G : va_G) (T : Nat → ClassId) (b : Nat) (z : Nat → Nat) (a1 : Int32) (a2 : Int32) (x : mm_M) {r : Int32} (h : fn_X4_of a1 a2 x = some r) : mm_Ci l yX4_of wsX4_of rm_X4_of G T b z [.ref (b + 0), .int a1, .int a2] x r x := by
  unfold fn_X4_of at h
  refine mm_start (cc := cX4_of) (maxL := 4) (ret := (some .int)) (by decide) rfl (Nat.le_of_ble_eq_true rfl) (fun p e s m below meth c ls C hr hlk hH hl => ?_)
  have hl : lv_has ls 4 [(0, .ref (b + 0)), (1, .int a1), (2, .int a2)] := hl
  have hx := C.1
  have hb := C.2.1
  have w1 := C.2.2.2.2.1 (.fieldLink RX4 10 "LandingFines" "river" "LLandingFines$River;") (by decide +kernel)
  have hin4 : ∀ w ∈ wsX40, w ∈ wsX4_of := by decide +kernel
  refine lv_aload_n hx hb dX4_of_0 rfl (lv_at hl 0 rfl) ?_
  refine mm_get (v := .ref (b + 1)) C hH hin4 rfl kl_0 (mm_e4 kd_0) (j := 0) (by decide) rfl w1 rfl dX4_of_1 ?_
  refine lv_iload_n hx hb dX4_of_4 rfl (lv_at hl 1 rfl) ?_
  obtain ⟨o1, e1, h⟩ := mm_bnd h
  refine mm_goe hH (va_runV (As := [.int a1]) (rest := []) ⟨hx, hb, C.2.2.1, C.2.2.2.1, C.2.2.2.2.1⟩ (ct_X3_find l G T b z a1 x e1) (cwV 1 C.2.2.2.2.1 gX4_of_X3_find rfl rfl rfl df_X3_find ⟨Nat.le_of_ble_eq_true rfl, Nat.le_of_ble_eq_true rfl⟩) ⟨mm_B.blind, mm_recv (q := (RX3, TX3, 7)) C hH kl_1 (mm_e3 kd_1) rfl, mm_pre C hH⟩ rfl rfl hl.1 rfl (lv_room (Nat.le_of_ble_eq_true rfl)) dX4_of_5 ⟨Nat.zero_le _, Nat.zero_le _⟩) (fun H locs hH => ?_)
  rcases o1 with _ | k1
  · have h := mm_oc0 h
    refine mm_nul ?_
    refine lv_astore_nN (lv' := [(3, .null), (0, .ref (b + 0)), (1, .int a1), (2, .int a2)]) hx hb dX4_of_8 rfl hl (by decide) rfl (fun ls hl => ?_)
    have hl := lv_sub (l' := [(3, .null), (2, .int a2)]) hl [0, 3] rfl
    refine lv_aload_nN hx hb dX4_of_9 rfl (lv_at hl 0 rfl) ?_
    refine lv_ifnonnullN hx hb dX4_of_10 ?_
    have hl := lv_sub (l' := []) hl [] rfl
    refine lv_iconst (v := (-1)) hx hb dX4_of_13 (by decide) ?_
    refine lv_goto (tgt := 22) hx hb dX4_of_14 (by decide) ?_
    exact mm_iretP C hH hr hlk rfl h dX4_of_22
  · have h := mm_oc1 h
    obtain ⟨g1, h⟩ := mm_grd h
    refine mm_nun ?_
    refine lv_astore_n (lv' := [(3, .ref (b + k1)), (0, .ref (b + 0)), (1, .int a1), (2, .int a2)]) hx hb dX4_of_8 rfl hl (by decide) rfl (fun ls hl => ?_)
    have hl := lv_sub (l' := [(3, .ref (b + k1)), (2, .int a2)]) hl [0, 3] rfl
    refine lv_aload_n hx hb dX4_of_9 rfl (lv_at hl 0 rfl) ?_
    refine lv_ifnonnull (tgt := 17) hx hb dX4_of_10 (by decide) ?_
    refine lv_aload_n hx hb dX4_of_17 rfl (lv_at hl 0 rfl) ?_
    refine lv_iload_n hx hb dX4_of_18 rfl (lv_at hl 1 rfl) ?_
    obtain ⟨v1, e2, h⟩ := mm_bnd h
    refine mm_goi hH (va_runV (As := [.int a2]) (rest := []) ⟨hx, hb, C.2.2.1, C.2.2.2.1, C.2.2.2.2.1⟩ (ct_X1_tell l G T b z k1 a2 x e2) (cwV 1 C.2.2.2.2.1 gX4_of_X1_tell rfl rfl rfl df_X1_tell ⟨Nat.le_of_ble_eq_true rfl, Nat.le_of_ble_eq_true rfl⟩) ⟨mm_B.blind, mm_recv (q := (RX1, TX1, 8)) C hH (mm_lt g1 (by decide)) (mm_e1 g1) rfl, mm_pre C hH⟩ rfl rfl hl.1 rfl (lv_room (Nat.le_of_ble_eq_true rfl)) dX4_of_19 ⟨Nat.zero_le _, Nat.zero_le _⟩) (fun H locs hH => ?_)
    exact mm_iretP C hH hr hlk rfl h dX4_of_22
def fn_X4_count (a1 : Int32) (x : mm_M) : Option Int32 :=
  if a1 = 14 then some (x 19 1) else if a1 = 15 then some (x 0 2) else (fn_X3_tell a1 x).bind fun v1 => some v1
abbrev rm_X4_count : Room := { frames := 2, cells := 0, slots := 0, locals := 43 }
theorem df_X4_count : yX4_count.cls = RX4 ∧ yX4_count.cls ≠ "java/lang/invoke/MethodHandle" ∧ yX4_count.cls ≠ "java/lang/invoke/VarHandle" ∧ (parseMethodDescriptor yX4_count.desc).map (fun d => d.parameters.length) = some 1 := by decide +kernel
set_option maxRecDepth 100000 in
set_option maxHeartbeats 4000000 in
theorem ct_X4_count (l : Launch) (G : va_G) (T : Nat → ClassId) (b : Nat) (z : Nat → Nat) (a1 : Int32) (x : mm_M) {r : Int32} (h : fn_X4_count a1 x = some r) : mm_Ci l yX4_count wsX4_count rm_X4_count G T b z [.ref (b + 0), .int a1] x r x := by
  unfold fn_X4_count at h
  refine mm_start (cc := cX4_count) (maxL := 2) (ret := (some .int)) (by decide) rfl (Nat.le_of_ble_eq_true rfl) (fun p e s m below meth c ls C hr hlk hH hl => ?_)
  have hl : lv_has ls 2 [(0, .ref (b + 0)), (1, .int a1)] := hl
  have hx := C.1
  have hb := C.2.1
  have w1 := C.2.2.2.2.1 (.fieldLink RX4 10 "LandingFines" "river" "LLandingFines$River;") (by decide +kernel)
  have w2 := C.2.2.2.2.1 (.fieldLink RX4 20 "LandingFines" "historySize" "I") (by decide +kernel)
  have w3 := C.2.2.2.2.1 (.fieldLink RX4 34 "LandingFines" "pad" "LLandingFines$Pad;") (by decide +kernel)
  have w4 := C.2.2.2.2.1 (.fieldLink RX4 78 "LandingFines$Pad" "length" "I") (by decide +kernel)
  have hin2 : ∀ w ∈ wsX20, w ∈ wsX4_count := by decide +kernel
  have hin4 : ∀ w ∈ wsX40, w ∈ wsX4_count := by decide +kernel
  refine lv_iload_n hx hb dX4_count_0 rfl (lv_at hl 1 rfl) ?_
  refine lv_bipush (v := 14) hx hb dX4_count_1 (by decide) ?_
  refine lv_icmp_ne (tgt := 14) hx hb dX4_count_3 (by decide) (fun c1 => ?_) (fun c1 => ?_)
  · have h := mm_neg c1 h
    refine lv_iload_n hx hb dX4_count_14 rfl (lv_at hl 1 rfl) ?_
    refine lv_bipush (v := 15) hx hb dX4_count_15 (by decide) ?_
    refine lv_icmp_ne (tgt := 25) hx hb dX4_count_17 (by decide) (fun c2 => ?_) (fun c2 => ?_)
    · have h := mm_neg c2 h
      refine lv_aload_n hx hb dX4_count_25 rfl (lv_at hl 0 rfl) ?_
      refine mm_get (v := .ref (b + 1)) C hH hin4 rfl kl_0 (mm_e4 kd_0) (j := 0) (by decide) rfl w1 rfl dX4_count_26 ?_
      refine lv_iload_n hx hb dX4_count_29 rfl (lv_at hl 1 rfl) ?_
      obtain ⟨v1, e1, h⟩ := mm_bnd h
      refine mm_goi hH (va_runV (As := [.int a1]) (rest := []) ⟨hx, hb, C.2.2.1, C.2.2.2.1, C.2.2.2.2.1⟩ (ct_X3_tell l G T b z a1 x e1) (cwV 1 C.2.2.2.2.1 gX4_count_X3_tell rfl rfl rfl df_X3_tell ⟨Nat.le_of_ble_eq_true rfl, Nat.le_of_ble_eq_true rfl⟩) ⟨mm_B.blind, mm_recv (q := (RX3, TX3, 7)) C hH kl_1 (mm_e3 kd_1) rfl, mm_pre C hH⟩ rfl rfl hl.1 rfl (lv_room (Nat.le_of_ble_eq_true rfl)) dX4_count_30 ⟨Nat.zero_le _, Nat.zero_le _⟩) (fun H locs hH => ?_)
      exact mm_iretP C hH hr hlk rfl h dX4_count_33
    · have h := mm_pos c2 h
      have hl := lv_sub (l' := [(0, .ref (b + 0))]) hl [0] rfl
      refine lv_aload_n hx hb dX4_count_20 rfl (lv_at hl 0 rfl) ?_
      refine mm_get (v := .int (x 0 2)) C hH hin4 rfl kl_0 (mm_e4 kd_0) (j := 2) (by decide) rfl w2 rfl dX4_count_21 ?_
      exact mm_iretP C hH hr hlk rfl h dX4_count_24
  · have h := mm_pos c1 h
    have hl := lv_sub (l' := [(0, .ref (b + 0))]) hl [0] rfl
    refine lv_aload_n hx hb dX4_count_6 rfl (lv_at hl 0 rfl) ?_
    refine mm_get (v := .ref (b + 19)) C hH hin4 rfl kl_0 (mm_e4 kd_0) (j := 5) (by decide) rfl w3 rfl dX4_count_7 ?_
    refine mm_get (v := .int (x 19 1)) C hH hin2 rfl kl_19 (mm_e2 kd_19) (j := 1) (by decide) rfl w4 rfl dX4_count_10 ?_
    exact mm_iretP C hH hr hlk rfl h dX4_count_13
def fn_X4_choice (a1 : Int32) (x : mm_M) : Option Int32 :=
  (fn_X3_chosen a1 x).bind fun v1 => some v1
abbrev rm_X4_choice : Room := { frames := 3, cells := 0, slots := 0, locals := 67 }
theorem df_X4_choice : yX4_choice.cls = RX4 ∧ yX4_choice.cls ≠ "java/lang/invoke/MethodHandle" ∧ yX4_choice.cls ≠ "java/lang/invoke/VarHandle" ∧ (parseMethodDescriptor yX4_choice.desc).map (fun d => d.parameters.length) = some 1 := by decide +kernel
set_option maxRecDepth 100000 in
set_option maxHeartbeats 4000000 in
theorem ct_X4_choice (l : Launch) (G : va_G) (T : Nat → ClassId) (b : Nat) (z : Nat → Nat) (a1 : Int32) (x : mm_M) {r : Int32} (h : fn_X4_choice a1 x = some r) : mm_Ci l yX4_choice wsX4_choice rm_X4_choice G T b z [.ref (b + 0), .int a1] x r x := by
  unfold fn_X4_choice at h
  refine mm_start (cc := cX4_choice) (maxL := 2) (ret := (some .int)) (by decide) rfl (Nat.le_of_ble_eq_true rfl) (fun p e s m below meth c ls C hr hlk hH hl => ?_)
  have hl : lv_has ls 2 [(0, .ref (b + 0)), (1, .int a1)] := hl
  have hx := C.1
  have hb := C.2.1
  have w1 := C.2.2.2.2.1 (.fieldLink RX4 10 "LandingFines" "river" "LLandingFines$River;") (by decide +kernel)
  have hin4 : ∀ w ∈ wsX40, w ∈ wsX4_choice := by decide +kernel
  refine lv_aload_n hx hb dX4_choice_0 rfl (lv_at hl 0 rfl) ?_
  refine mm_get (v := .ref (b + 1)) C hH hin4 rfl kl_0 (mm_e4 kd_0) (j := 0) (by decide) rfl w1 rfl dX4_choice_1 ?_
  refine lv_iload_n hx hb dX4_choice_4 rfl (lv_at hl 1 rfl) ?_
  obtain ⟨v1, e1, h⟩ := mm_bnd h
  refine mm_goi hH (va_runV (As := [.int a1]) (rest := []) ⟨hx, hb, C.2.2.1, C.2.2.2.1, C.2.2.2.2.1⟩ (ct_X3_chosen l G T b z a1 x e1) (cwV 1 C.2.2.2.2.1 gX4_choice_X3_chosen rfl rfl rfl df_X3_chosen ⟨Nat.le_of_ble_eq_true rfl, Nat.le_of_ble_eq_true rfl⟩) ⟨mm_B.blind, mm_recv (q := (RX3, TX3, 7)) C hH kl_1 (mm_e3 kd_1) rfl, mm_pre C hH⟩ rfl rfl hl.1 rfl (lv_room (Nat.le_of_ble_eq_true rfl)) dX4_choice_5 ⟨Nat.zero_le _, Nat.zero_le _⟩) (fun H locs hH => ?_)
  exact mm_iretP C hH hr hlk rfl h dX4_choice_8
def fn_X4_log (a1 : Int32) (a2 : Int32) (x : mm_M) : Option Int32 :=
  (fn_X0_tell a1 a2 x).bind fun v1 => some v1
abbrev rm_X4_log : Room := { frames := 1, cells := 0, slots := 0, locals := 23 }
theorem df_X4_log : yX4_log.cls = RX4 ∧ yX4_log.cls ≠ "java/lang/invoke/MethodHandle" ∧ yX4_log.cls ≠ "java/lang/invoke/VarHandle" ∧ (parseMethodDescriptor yX4_log.desc).map (fun d => d.parameters.length) = some 2 := by decide +kernel
set_option maxRecDepth 100000 in
set_option maxHeartbeats 4000000 in
theorem ct_X4_log (l : Launch) (G : va_G) (T : Nat → ClassId) (b : Nat) (z : Nat → Nat) (a1 : Int32) (a2 : Int32) (x : mm_M) {r : Int32} (h : fn_X4_log a1 a2 x = some r) : mm_Ci l yX4_log wsX4_log rm_X4_log G T b z [.ref (b + 0), .int a1, .int a2] x r x := by
  unfold fn_X4_log at h
  refine mm_start (cc := cX4_log) (maxL := 3) (ret := (some .int)) (by decide) rfl (Nat.le_of_ble_eq_true rfl) (fun p e s m below meth c ls C hr hlk hH hl => ?_)
  have hl : lv_has ls 3 [(0, .ref (b + 0)), (1, .int a1), (2, .int a2)] := hl
  have hx := C.1
  have hb := C.2.1
  have w1 := C.2.2.2.2.1 (.fieldLink RX4 10 "LandingFines" "river" "LLandingFines$River;") (by decide +kernel)
  have w2 := C.2.2.2.2.1 (.fieldLink RX4 85 "LandingFines$River" "journal" "LLandingFines$Journal;") (by decide +kernel)
  have hin3 : ∀ w ∈ wsX30, w ∈ wsX4_log := by decide +kernel
  have hin4 : ∀ w ∈ wsX40, w ∈ wsX4_log := by decide +kernel
  refine lv_aload_n hx hb dX4_log_0 rfl (lv_at hl 0 rfl) ?_
  refine mm_get (v := .ref (b + 1)) C hH hin4 rfl kl_0 (mm_e4 kd_0) (j := 0) (by decide) rfl w1 rfl dX4_log_1 ?_
  refine mm_get (v := .ref (b + 4)) C hH hin3 rfl kl_1 (mm_e3 kd_1) (j := 6) (by decide) rfl w2 rfl dX4_log_4 ?_
  refine lv_iload_n hx hb dX4_log_7 rfl (lv_at hl 1 rfl) ?_
  refine lv_iload_n hx hb dX4_log_8 rfl (lv_at hl 2 rfl) ?_
  obtain ⟨v1, e1, h⟩ := mm_bnd h
  refine mm_goi hH (va_runV (As := [.int a1, .int a2]) (rest := []) ⟨hx, hb, C.2.2.1, C.2.2.2.1, C.2.2.2.2.1⟩ (ct_X0_tell l G T b z a1 a2 x e1) (cwV 2 C.2.2.2.2.1 gX4_log_X0_tell rfl rfl rfl df_X0_tell ⟨Nat.le_of_ble_eq_true rfl, Nat.le_of_ble_eq_true rfl⟩) ⟨mm_B.blind, mm_recv (q := (RX0, TX0, 5)) C hH kl_4 (mm_e0 kd_4) rfl, mm_pre C hH⟩ rfl rfl hl.1 rfl (lv_room (Nat.le_of_ble_eq_true rfl)) dX4_log_9 ⟨Nat.zero_le _, Nat.zero_le _⟩) (fun H locs hH => ?_)
  exact mm_iretP C hH hr hlk rfl h dX4_log_12
def fn_X4_why (a1 : Int32) (x : mm_M) : Option Int32 :=
  (fn_X3_find a1 x).bind fun o1 => mm_oc o1 (some ((-1) : Int32)) fun k1 => if mm_kd k1 = 1 then if a1 = (x 1 4) then some (0 : Int32) else if (x k1 0) = 0 then some (1 : Int32) else if (x k1 3) = 0 then some (3 : Int32) else some (2 : Int32) else none
abbrev rm_X4_why : Room := { frames := 1, cells := 0, slots := 0, locals := 21 }
theorem df_X4_why : yX4_why.cls = RX4 ∧ yX4_why.cls ≠ "java/lang/invoke/MethodHandle" ∧ yX4_why.cls ≠ "java/lang/invoke/VarHandle" ∧ (parseMethodDescriptor yX4_why.desc).map (fun d => d.parameters.length) = some 1 := by decide +kernel
set_option maxRecDepth 100000 in
set_option maxHeartbeats 4000000 in
theorem ct_X4_why (l : Launch) (G : va_G) (T : Nat → ClassId) (b : Nat) (z : Nat → Nat) (a1 : Int32) (x : mm_M) {r : Int32} (h : fn_X4_why a1 x = some r) : mm_Ci l yX4_why wsX4_why rm_X4_why G T b z [.ref (b + 0), .int a1] x r x := by
  unfold fn_X4_why at h
  refine mm_start (cc := cX4_why) (maxL := 3) (ret := (some .int)) (by decide) rfl (Nat.le_of_ble_eq_true rfl) (fun p e s m below meth c ls C hr hlk hH hl => ?_)
  have hl : lv_has ls 3 [(0, .ref (b + 0)), (1, .int a1)] := hl
  have hx := C.1
  have hb := C.2.1
  have w1 := C.2.2.2.2.1 (.fieldLink RX4 10 "LandingFines" "river" "LLandingFines$River;") (by decide +kernel)
  have w2 := C.2.2.2.2.1 (.fieldLink RX4 93 "LandingFines$River" "taken" "I") (by decide +kernel)
  have w3 := C.2.2.2.2.1 (.fieldLink RX4 96 "LandingFines$Landing" "isOpen" "Z") (by decide +kernel)
  have w4 := C.2.2.2.2.1 (.fieldLink RX4 100 "LandingFines$Landing" "isShunned" "Z") (by decide +kernel)
  have hin1 : ∀ w ∈ wsX10, w ∈ wsX4_why := by decide +kernel
  have hin3 : ∀ w ∈ wsX30, w ∈ wsX4_why := by decide +kernel
  have hin4 : ∀ w ∈ wsX40, w ∈ wsX4_why := by decide +kernel
  refine lv_aload_n hx hb dX4_why_0 rfl (lv_at hl 0 rfl) ?_
  refine mm_get (v := .ref (b + 1)) C hH hin4 rfl kl_0 (mm_e4 kd_0) (j := 0) (by decide) rfl w1 rfl dX4_why_1 ?_
  refine lv_iload_n hx hb dX4_why_4 rfl (lv_at hl 1 rfl) ?_
  obtain ⟨o1, e1, h⟩ := mm_bnd h
  refine mm_goe hH (va_runV (As := [.int a1]) (rest := []) ⟨hx, hb, C.2.2.1, C.2.2.2.1, C.2.2.2.2.1⟩ (ct_X3_find l G T b z a1 x e1) (cwV 1 C.2.2.2.2.1 gX4_why_X3_find rfl rfl rfl df_X3_find ⟨Nat.le_of_ble_eq_true rfl, Nat.le_of_ble_eq_true rfl⟩) ⟨mm_B.blind, mm_recv (q := (RX3, TX3, 7)) C hH kl_1 (mm_e3 kd_1) rfl, mm_pre C hH⟩ rfl rfl hl.1 rfl (lv_room (Nat.le_of_ble_eq_true rfl)) dX4_why_5 ⟨Nat.zero_le _, Nat.zero_le _⟩) (fun H locs hH => ?_)
  rcases o1 with _ | k1
  · have h := mm_oc0 h
    refine mm_nul ?_
    refine lv_astore_nN (lv' := [(2, .null), (0, .ref (b + 0)), (1, .int a1)]) hx hb dX4_why_8 rfl hl (by decide) rfl (fun ls hl => ?_)
    refine lv_aload_nN hx hb dX4_why_9 rfl (lv_at hl 0 rfl) ?_
    refine lv_ifnonnullN hx hb dX4_why_10 ?_
    have hl := lv_sub (l' := []) hl [] rfl
    refine lv_iconst (v := (-1)) hx hb dX4_why_13 (by decide) ?_
    exact mm_iretP C hH hr hlk rfl h dX4_why_14
  · have h := mm_oc1 h
    obtain ⟨g1, h⟩ := mm_grd h
    refine mm_nun ?_
    refine lv_astore_n (lv' := [(2, .ref (b + k1)), (0, .ref (b + 0)), (1, .int a1)]) hx hb dX4_why_8 rfl hl (by decide) rfl (fun ls hl => ?_)
    refine lv_aload_n hx hb dX4_why_9 rfl (lv_at hl 0 rfl) ?_
    refine lv_ifnonnull (tgt := 15) hx hb dX4_why_10 (by decide) ?_
    refine lv_iload_n hx hb dX4_why_15 rfl (lv_at hl 2 rfl) ?_
    refine lv_aload_n hx hb dX4_why_16 rfl (lv_at hl 1 rfl) ?_
    refine mm_get (v := .ref (b + 1)) C hH hin4 rfl kl_0 (mm_e4 kd_0) (j := 0) (by decide) rfl w1 rfl dX4_why_17 ?_
    refine mm_get (v := .int (x 1 4)) C hH hin3 rfl kl_1 (mm_e3 kd_1) (j := 4) (by decide) rfl w2 rfl dX4_why_20 ?_
    refine lv_icmp_ne (tgt := 28) hx hb dX4_why_23 (by decide) (fun c1 => ?_) (fun c1 => ?_)
    · have h := mm_neg c1 h
      have hl := lv_sub (l' := [(2, .ref (b + k1))]) hl [0] rfl
      refine lv_aload_n hx hb dX4_why_28 rfl (lv_at hl 0 rfl) ?_
      refine mm_get (v := .int (x k1 0)) C hH hin1 rfl (mm_lt g1 (by decide)) (mm_e1 g1) (j := 0) (by decide) rfl w3 rfl dX4_why_29 ?_
      refine lv_if_ne (tgt := 37) hx hb dX4_why_32 (by decide) (fun c2 => ?_) (fun c2 => ?_)
      · have h := mm_neg c2 h
        refine lv_aload_n hx hb dX4_why_37 rfl (lv_at hl 0 rfl) ?_
        refine mm_get (v := .int (x k1 3)) C hH hin1 rfl (mm_lt g1 (by decide)) (mm_e1 g1) (j := 3) (by decide) rfl w4 rfl dX4_why_38 ?_
        refine lv_if_eq (tgt := 48) hx hb dX4_why_41 (by decide) (fun c3 => ?_) (fun c3 => ?_)
        · have h := mm_pos c3 h
          have hl := lv_sub (l' := []) hl [] rfl
          refine lv_iconst (v := 3) hx hb dX4_why_48 (by decide) ?_
          exact mm_iretP C hH hr hlk rfl h dX4_why_49
        · have h := mm_neg c3 h
          have hl := lv_sub (l' := []) hl [] rfl
          refine lv_iconst (v := 2) hx hb dX4_why_44 (by decide) ?_
          refine lv_goto (tgt := 49) hx hb dX4_why_45 (by decide) ?_
          exact mm_iretP C hH hr hlk rfl h dX4_why_49
      · have h := mm_pos c2 h
        have hl := lv_sub (l' := []) hl [] rfl
        refine lv_iconst (v := 1) hx hb dX4_why_35 (by decide) ?_
        exact mm_iretP C hH hr hlk rfl h dX4_why_36
    · have h := mm_pos c1 h
      have hl := lv_sub (l' := []) hl [] rfl
      refine lv_iconst (v := 0) hx hb dX4_why_26 (by decide) ?_
      exact mm_iretP C hH hr hlk rfl h dX4_why_27
end
section
/-! THE GROWING WORLD of the constructors: n cells at b, b + 1 ..; cell k holds f k -/
def mm_v (b n : Nat) (f : Nat → va_E) : va_W := (List.range n).map fun k => (b + k, f k)
theorem mm_vat {b n : Nat} {f : Nat → va_E} {k : Nat} (hk : k < n) : (mm_v b n f)[k]? = some (b + k, f k) := by simp [mm_v, hk]
theorem mm_vat' {b n : Nat} {f : Nat → va_E} {k : Nat} {q : Nat × va_E} (h : (mm_v b n f)[k]? = some q) : k < n ∧ q = (b + k, f k) := by
  have hl := (List.getElem?_eq_some_iff.mp h).1
  have hk : k < n := by simpa [mm_v] using hl
  rw [mm_vat hk] at h
  exact ⟨hk, (Option.some.inj h).symm⟩
theorem mm_vD (b n : Nat) (f : Nat → va_E) : va_D (fun q => b ≤ q) (mm_v b n f) := by
  refine ⟨fun i j p q hi hj h => ?_, fun k q hk => ?_⟩
  · obtain ⟨-, rfl⟩ := mm_vat' hi
    obtain ⟨-, rfl⟩ := mm_vat' hj
    have h' : b + i = b + j := h
    omega
  · obtain ⟨-, rfl⟩ := mm_vat' hk
    exact Nat.le_add_right _ _
theorem mm_ups {f f' : Nat → va_E} {k : Nat} {v : va_E} (h : va_up f k v = f') : f' k = v := by subst h; exact if_pos rfl
theorem mm_upn {f f' : Nat → va_E} {k j : Nat} {v : va_E} (h : va_up f k v = f') (hj : j ≠ k) : f' j = f j := by subst h; exact if_neg hj
theorem mm_vset {b n : Nat} {f f' : Nat → va_E} {k : Nat} {e : va_E} (hk : k < n) (hf : va_up f k e = f') : (mm_v b n f).set k (b + k, e) = mm_v b n f' := by
  apply List.ext_getElem?
  intro i
  by_cases hi : i < n
  · by_cases hik : i = k
    · subst hik
      rw [List.getElem?_set_self (by simpa [mm_v] using hi), mm_vat hi, mm_ups hf]
    · rw [List.getElem?_set_ne (fun q => hik q.symm), mm_vat hi, mm_vat hi, mm_upn hf hik]
  · rw [List.getElem?_eq_none (by simp [mm_v]; omega), List.getElem?_eq_none (by simp [mm_v]; omega)]
theorem mm_w_v (T : Nat → ClassId) (b : Nat) (x : mm_M) : mm_w T b x = mm_v b 157 (mm_ent T b x) := rfl
theorem mm_Pat {G : va_G} {b n : Nat} {f : Nat → va_E} {H : Heap} (h : va_P G vwCl (mm_v b n f) H) {k : Nat} (hk : k < n) : va_at G vwCl (b + k, f k) H := h k _ (mm_vat hk)
theorem mm_Pof {G : va_G} {b n : Nat} {f : Nat → va_E} {H : Heap} (h : ∀ k, k < n → va_at G vwCl (b + k, f k) H) : va_P G vwCl (mm_v b n f) H := by
  intro k q hq
  obtain ⟨hk, rfl⟩ := mm_vat' hq
  exact h k hk
/-- an array's cell says what it holds below its length alone -/
theorem mm_atq {G : va_G} {a : Nat} {cA : ClassId} {n : Nat} {f g : Nat → Option Nat} {H : Heap} (h : va_at G vwCl (a, .inl (cA, n, .inr (.inr (.inr (.inr f))))) H) (hfg : ∀ j, j < n → f j = g j) : va_at G vwCl (a, .inl (cA, n, .inr (.inr (.inr (.inr g))))) H := by
  have h1 : H[a]? = some (arrV cA n (fun j => va_rf (f j))) := h
  show H[a]? = some (arrV cA n (fun j => va_rf (g j)))
  rw [h1]
  refine congrArg some ?_
  unfold arrV
  refine congrArg (fun w => ({ cls := cA, slots := w, vm := .none } : Cell)) ?_
  apply Array.ext
  · simp
  · intro i h1 h2
    have hi : i < n := by simpa using h1
    simp [hfg i hi]
def mm_F (T : Nat → ClassId) (b : Nat) (z : Nat → Nat) (H : Heap) : Prop := z 2 < b ∧ ∃ cell : Cell, H[z 2]? = some cell ∧ cell.cls = T 0 ∧ (∀ k, cell.vm ≠ .statics k) ∧ cell.vm ≠ .unknown ∧ cell.slots.size = 7 ∧ ∀ j, j < 7 → cell.slots[j]? = some (.int (mm_st 2 j))
def mm_N2 (U : State) : Prop := va_Nw (.methodLinkNest RX4 33 yX2_init RX4) U ∧ va_Nw (.methodLinkNest RX4 40 yX1_init RX4) U ∧ va_Nw (.methodLinkNest RX3 44 yX0_init RX4) U ∧ va_Nw (.methodLinkNest RX3 49 yX1_init RX4) U ∧ va_Nw (.castable "[I" "java/lang/Cloneable") U ∧ va_AO RX1 U ∧ va_AO RX3 U
/-- what stands through a constructor's walk -/
def mm_E (p : Program) (m : MethodId) (c : Code) (cc : ByteArray) (nL : Nat) (s : State) (args : Array Value) (Ts : List Cond) (own : String) (G : va_G) (T : Nat → ClassId) (b : Nat) (z : Nat → Nat) (n0 : Nat) : Prop := mm_C p m c cc nL s args Ts own G T b z ∧ mm_F T b z s.heap ∧ mm_N2 s ∧ s.heap.size = b + n0
def mm_O (G : va_G) (b n : Nat) (f : Nat → va_E) (s : State) (H : Heap) (locs : List Loc) : Prop := va_P G vwCl (mm_v b n f) H ∧ va_S (fun q => b ≤ q) s.heap H locs
def mm_Bo (G : va_G) (T : Nat → ClassId) (b : Nat) (z : Nat → Nat) (n : Nat) (f : Nat → va_E) (U : State) : Prop := U.heap.size = b + n ∧ va_P G vwCl (mm_v b n f) U.heap ∧ va_K G vwCl (mm_T T) U ∧ mm_Z b z U U.heap ∧ mm_N U ∧ mm_F T b z U.heap ∧ mm_N2 U
def mm_Qo (G : va_G) (b n1 : Nat) (f1 : Nat → va_E) : Array Value → State → Outcome → State → Prop := va_Qv (fun (_ : Unit) => True) (fun _ t => t.heap.size = b + n1 ∧ va_P G vwCl (mm_v b n1 f1) t.heap) (fun q => b ≤ q)
def mm_Co (l : Launch) (y : MethodName) (ws : List Cond) (rm : Room) (G : va_G) (T : Nat → ClassId) (b : Nat) (z : Nat → Nat) (av : List Value) (n : Nat) (f : Nat → va_E) (n1 : Nat) (f1 : Nat → va_E) (mc ms : Nat) : Prop := Met l y ws rm (va_Pc av (mm_Bo G T b z n f)) (mm_Qo G b n1 f1) mc ms (fun q => b ≤ q)
theorem mm_N2.same {u U : State} (h : u.vm = U.vm) (q : mm_N2 u) : mm_N2 U := ⟨va_Nw.same rfl h q.1, va_Nw.same rfl h q.2.1, va_Nw.same rfl h q.2.2.1, va_Nw.same rfl h q.2.2.2.1, va_Nw.same rfl h q.2.2.2.2.1, va_AO.moved (by rw [h]; exact Vm.Alike.refl _) q.2.2.2.2.2.1, va_AO.moved (by rw [h]; exact Vm.Alike.refl _) q.2.2.2.2.2.2⟩
theorem mm_N2.warm {s U : State} (hW : s.WarmedH U.vm) (q : mm_N2 s) : mm_N2 U := ⟨va_Nw.warmM hW q.1, va_Nw.warmM hW q.2.1, va_Nw.warmM hW q.2.2.1, va_Nw.warmM hW q.2.2.2.1, va_Nw.warmC hW q.2.2.2.2.1, va_AO.moved hW.alike q.2.2.2.2.2.1, va_AO.moved hW.alike q.2.2.2.2.2.2⟩
theorem mm_Bo.blind {G : va_G} {T : Nat → ClassId} {b n : Nat} {z : Nat → Nat} {f : Nat → va_E} {av : List Value} : FrameBlind (va_Pc av (mm_Bo G T b z n f)) := by
  intro a U g mk q
  obtain ⟨q0, qs, qP, qK, qZ, qN, qF, q2⟩ := q
  exact ⟨q0, qs, qP, va_K.moved (u := U) (U := U.calling g mk a) (Vm.Alike.refl U.vm) qK, mm_Z.moved (u := U) (U := U.calling g mk a) (Vm.Alike.refl U.vm) qZ, fun i hi => va_Nw.same (u := U) (U := U.calling g mk a) rfl rfl (qN i hi), qF, mm_N2.same (u := U) (U := U.calling g mk a) rfl q2⟩
section MMO
variable {p : Program} {l : Launch} {e : Env} {R : Room} {s : State} {m : MethodId} {args : Array Value} {below : List Frame} {meth : Method} {c : Code} {H : Heap} {locs : List Loc} {cells slots : Nat} {Q : State → Prop}
variable {cc : ByteArray} {pc nL : Nat} {ls : Array Slot} {rest : List Value} {Ts : List Cond} {own : String} {G : va_G} {T : Nat → ClassId} {b n n0 : Nat} {z : Nat → Nat} {f f1 : Nat → va_E} {k : Nat}
theorem mo_A (E : mm_E p m c cc nL s args Ts own G T b z n0) : ∀ q, s.heap.size ≤ q → (fun q : Nat => b ≤ q) q := fun q h => by
  have := E.2.2.2
  show b ≤ q
  omega
theorem mo_low (hO : mm_O G b n f s H locs) (h0 : b ≤ H.size) : b + n ≤ H.size := by
  cases n with
  | zero => exact h0
  | succ n => exact (mm_Pat hO.1 (Nat.lt_succ_self n)).lt
theorem mo_sz {g : JFrame} (E : mm_E p m c cc nL s args Ts own G T b z n0) (hO : mm_O G b n f s H locs) (hn : n0 + cells = n) (kk : H.size = b + n → W p l e R s m args below meth c H locs cells slots Q g) : W p l e R s m args below meth c H locs cells slots Q g := by
  intro Tt hT X
  have h1 := X.heapSize
  rw [hT] at h1
  have h2 := E.2.2.2
  have h3 := mo_low hO (by have := hO.2.1; omega)
  exact kk (by omega) Tt hT X
theorem mo_get {Cn : String} {Tn : u_T} {N ci j index : Nat} {fs : List Value} {v : Value} {nm ds : String} (E : mm_E p m c cc nL s args Ts own G T b z n0) (hO : mm_O G b n f s H locs) (hin : ∀ w ∈ u_ws Cn Tn N, w ∈ Ts) (hc : vwCl[ci]? = some (Cn, Tn, N)) (hk : k < n) (he : f k = .inr (ci, fs)) (hj : j < N) (hT : Tn j = (Cn, nm, ds, (Tn j).2.2.2))
    (hlink : (Cond.fieldLink own index Cn nm ds).before args s = true) (hv : fs[j]? = some v) (hdg : decode cc pc = .ok (.getfield index, 3))
    (kk : W p l e R s m args below meth c H locs cells slots Q (F0 m (pc + 3) ls (v :: rest))) : W p l e R s m args below meth c H locs cells slots Q (F0 m pc ls (.ref (b + k) :: rest)) := by
  obtain ⟨⟨hx, hb, -, hown, hts, hK, -⟩, -⟩ := E
  have h1 : (Tn j).1 = Cn := by rw [hT]
  have h2 : (Tn j).2.1 = nm := by rw [hT]
  have h3 : (Tn j).2.2.1 = ds := by rw [hT]
  exact va_get hx hb hts hin hown hK hO.1 k (ref := Cn) ((mm_vat hk).trans (by rw [he])) hc j hj (by rw [h2, h3]; exact hlink) (fun y hy => by rw [h1] at hy; exact hy) hv hdg kk
theorem mo_put {Cn : String} {Tn : u_T} {N ci j index : Nat} {fs : List Value} {v : Value} {nm ds : String} {ty : FieldType} {ty0 : Nat → FieldType} (E : mm_E p m c cc nL s args Ts own G T b z n0) (hO : mm_O G b n f s H locs) (hin : ∀ w ∈ u_ws Cn Tn N, w ∈ Ts) (hty : ∀ k, k < N → parseFieldDescriptor (Tn k).2.2.1 = some (ty0 k)) (hnm : ∀ a, a < N → ∀ b, b < N → a ≠ b → (Tn a).2.1 ≠ (Tn b).2.1) (hc : vwCl[ci]? = some (Cn, Tn, N)) (hk : k < n) (he : f k = .inr (ci, fs)) (hj : j < N) (hT : Tn j = (Cn, nm, ds, false))
    (hlink : (Cond.fieldLink own index Cn nm ds).before args s = true) (hd : parseFieldDescriptor ds = some ty) (hn : narrow ty v = v) (hfit : fits ty v = true) (hl : j < fs.length) (hf : va_up f k (.inr (ci, fs.set j v)) = f1) (hdg : decode cc pc = .ok (.putfield index, 3))
    (kk : ∀ (H1 : Heap) (locs1 : List Loc), mm_O G b n f1 s H1 locs1 → W p l e R s m args below meth c H1 locs1 cells slots Q (F0 m (pc + 3) ls rest)) : W p l e R s m args below meth c H locs cells slots Q (F0 m pc ls (v :: .ref (b + k) :: rest)) := by
  obtain ⟨⟨hx, hb, -, hown, hts, hK, -⟩, -⟩ := E
  have h1 : (Tn j).1 = Cn := by rw [hT]
  have h2 : (Tn j).2.1 = nm := by rw [hT]
  have h3 : (Tn j).2.2.1 = ds := by rw [hT]
  have h4 : (Tn j).2.2.2 = false := by rw [hT]
  refine va_put hx hb hts hin ty0 hty hnm hown hK hO.1 (mm_vD b n f) hO.2 k (ref := Cn) ((mm_vat hk).trans (by rw [he])) hc j hj (by rw [h2, h3]; exact hlink) (fun y hy => by rw [h1] at hy; exact hy) h4 (by rw [h3]; exact hd) hn hfit hl hdg (fun H1 locs1 hP _ hS => kk H1 locs1 ⟨?_, hS⟩)
  rwa [mm_vset hk hf] at hP
theorem mo_putF {Cn : String} {Tn : u_T} {N ci j index : Nat} {fs : List Value} {v : Value} {nm ds : String} {ty : FieldType} {ty0 : Nat → FieldType} (E : mm_E p m c cc nL s args Ts own G T b z n0) (hO : mm_O G b n f s H locs) (hi : meth.name = "<init>") (ho : Cn = own) (hin : ∀ w ∈ u_ws Cn Tn N, w ∈ Ts) (hty : ∀ k, k < N → parseFieldDescriptor (Tn k).2.2.1 = some (ty0 k)) (hnm : ∀ a, a < N → ∀ b, b < N → a ≠ b → (Tn a).2.1 ≠ (Tn b).2.1) (hc : vwCl[ci]? = some (Cn, Tn, N)) (hk : k < n) (he : f k = .inr (ci, fs)) (hj : j < N) (hT : Tn j = (Cn, nm, ds, true))
    (hlink : (Cond.fieldLink own index Cn nm ds).before args s = true) (hd : parseFieldDescriptor ds = some ty) (hn : narrow ty v = v) (hfit : fits ty v = true) (hl : j < fs.length) (hf : va_up f k (.inr (ci, fs.set j v)) = f1) (hdg : decode cc pc = .ok (.putfield index, 3))
    (kk : ∀ (H1 : Heap) (locs1 : List Loc), mm_O G b n f1 s H1 locs1 → W p l e R s m args below meth c H1 locs1 cells slots Q (F0 m (pc + 3) ls rest)) : W p l e R s m args below meth c H locs cells slots Q (F0 m pc ls (v :: .ref (b + k) :: rest)) := by
  obtain ⟨⟨hx, hb, -, hown, hts, hK, -⟩, -⟩ := E
  have h1 : (Tn j).1 = Cn := by rw [hT]
  have h2 : (Tn j).2.1 = nm := by rw [hT]
  have h3 : (Tn j).2.2.1 = ds := by rw [hT]
  have h4 : (Tn j).2.2.2 = true := by rw [hT]
  refine va_putF hx hb hts hin ty0 hty hnm hown hK hO.1 (mm_vD b n f) hO.2 k (ref := Cn) ((mm_vat hk).trans (by rw [he])) hc j hj (by rw [h2, h3]; exact hlink) (fun y hy => by rw [h1] at hy; exact hy) h4 hi (h1.trans ho) (by rw [h3]; exact hd) hn hfit hl hdg (fun H1 locs1 hP _ hS => kk H1 locs1 ⟨?_, hS⟩)
  rwa [mm_vset hk hf] at hP
/-- the new cell's place: the next one -/
theorem mo_next {q : Nat} {H1 : Heap} {x : va_E} (E : mm_E p m c cc nL s args Ts own G T b z n0) (hn : n0 + cells = n) (hP : va_P G vwCl (mm_v b n f ++ [(q, x)]) H1) (hD : va_D (fun q => b ≤ q) (mm_v b n f ++ [(q, x)])) (hs : H1.size ≤ s.heap.size + (cells + 1)) : q = b + n := by
  have h2 := E.2.2.2
  have hl : (mm_v b n f).length = n := by simp [mm_v]
  have hq : (mm_v b n f ++ [(q, x)])[n]? = some (q, x) := by rw [List.getElem?_append_right (by omega), hl, Nat.sub_self]; rfl
  have h3 : q < H1.size := (hP n _ hq).lt
  have h4 : b ≤ q := hD.2 n _ hq
  rcases Nat.lt_or_ge q (b + n) with h5 | h5
  · have h6 : (mm_v b n f ++ [(q, x)])[q - b]? = some (b + (q - b), f (q - b)) := by
      rw [List.getElem?_append_left (by omega)]
      exact mm_vat (by omega)
    have h7 := hD.1 n (q - b) _ _ hq h6 (show q = b + (q - b) by omega)
    omega
  · omega
theorem mm_vpush {b n : Nat} {f f1 : Nat → va_E} {x : va_E} (hf : va_up f n x = f1) : mm_v b n f ++ [(b + n, x)] = mm_v b (n + 1) f1 := by
  apply List.ext_getElem?
  intro i
  have hl : (mm_v b n f).length = n := by simp [mm_v]
  rcases Nat.lt_trichotomy i n with h | h | h
  · rw [List.getElem?_append_left (by omega), mm_vat h, mm_vat (by omega), mm_upn hf (by omega)]
  · subst h
    rw [List.getElem?_append_right (by omega), hl, Nat.sub_self, mm_vat (by omega), mm_ups hf]; rfl
  · rw [List.getElem?_eq_none (by simp [mm_v]; omega), List.getElem?_eq_none (by simp [mm_v]; omega)]
theorem mo_sz' {H1 : Heap} {g : JFrame} (kk : H1.size ≤ s.heap.size + cells → W p l e R s m args below meth c H1 locs cells slots Q g) : W p l e R s m args below meth c H1 locs cells slots Q g := by
  intro Tt hT X
  have h1 := X.heapSize
  rw [hT] at h1
  exact kk h1 Tt hT X
theorem mo_new {Cn : String} {Tn : u_T} {N ci index : Nat} {fs : List Value} {ty0 : Nat → FieldType} (E : mm_E p m c cc nL s args Ts own G T b z n0) (hO : mm_O G b n f s H locs) (hn : n0 + cells = n) (hin : ∀ w ∈ u_ws Cn Tn N, w ∈ Ts) (hty : ∀ k, k < N → parseFieldDescriptor (Tn k).2.2.1 = some (ty0 k)) (hc : vwCl[ci]? = some (Cn, Tn, N))
    (hcl : (Cond.classLink own index Cn).before args s = true) (hinst : (Cond.instantiable Cn N).before args s = true) (hini : (Cond.initialized Cn).before args s = true) (hfs : ∀ j, j < N → defaultValue (ty0 j) = vp_V fs j) (hcells : cells + 1 ≤ R.cells) (hslots : slots + N ≤ R.slots) (hf : va_up f n (.inr (ci, fs)) = f1) (hdg : decode cc pc = .ok (.new index, 3))
    (kk : ∀ (H1 : Heap), mm_O G b (n + 1) f1 s H1 locs → W p l e R s m args below meth c H1 locs (cells + 1) (slots + N) Q (F0 m (pc + 3) ls (.ref (b + n) :: rest))) : W p l e R s m args below meth c H locs cells slots Q (F0 m pc ls rest) := by
  refine va_new E.1.1 E.1.2.1 E.1.2.2.2.2.1 hin ty0 hty E.1.2.2.2.1 hcl hinst hini E.1.2.2.2.2.2.1 hO.1 (mm_vD b n f) hO.2 (mo_A E) hc hfs hcells hslots hdg (fun q H1 hP hD hS => ?_)
  refine mo_sz' (fun hs => ?_)
  have hq := mo_next E hn hP hD hs
  subst hq
  rw [mm_vpush hf] at hP
  exact kk H1 ⟨hP, hS⟩
/-- which class an array of a type is -/
theorem mo_cls {cA : ClassId} {ty : FieldType} {t0 : Nat} (hK : va_K G vwCl (mm_T T) s) (ht : (mm_T T)[t0]? = some (T t0, ty)) (hK2 : va_K G vwCl (mm_T T ++ [(cA, ty)]) s) : cA = T t0 := by
  have h1 := (hK.2 t0 _ ht).2
  have h2 := (hK2.2 5 (cA, ty) rfl).2
  cases ty with
  | object C =>
    obtain ⟨_, _, -, -, -, h3⟩ := h1
    obtain ⟨_, _, -, -, -, h4⟩ := h2
    exact Option.some.inj (h4.symm.trans h3)
  | _ => exact Option.some.inj (h2.symm.trans h1)
theorem mo_newa {atype : ArrayType} {ty : FieldType} {N' : Nat} {nn : Int32} {a0 : vp_A} (t0 : Nat) (E : mm_E p m c cc nL s args Ts own G T b z n0) (hO : mm_O G b n f s H locs) (hn : n0 + cells = n) (harr : (Cond.arrayClass (newarray.typeOf atype)).before args s = true) (hty : newarray.typeOf atype = ty) (ht : (mm_T T)[t0]? = some (T t0, ty))
    (ha : ∀ cA : ClassId, vp_cell cA a0 = arrV cA N' (fun _ => defaultValue ty)) (h0 : ¬ nn < 0) (hN : nn.toNatClampNeg = N') (hbytes : N' * componentBytes ty ≤ 536870912) (hcells : cells + 1 ≤ R.cells) (hslots : slots + N' ≤ R.slots) (hf : va_up f n (.inl (T t0, a0)) = f1) (hdg : decode cc pc = .ok (.newarray atype, 2))
    (kk : ∀ (H1 : Heap), mm_O G b (n + 1) f1 s H1 locs → W p l e R s m args below meth c H1 locs (cells + 1) (slots + N') Q (F0 m (pc + 2) ls (.ref (b + n) :: rest))) : W p l e R s m args below meth c H locs cells slots Q (F0 m pc ls (.int nn :: rest)) := by
  refine va_newa E.1.1 E.1.2.1 harr hty E.1.2.2.2.2.2.1 hO.1 (mm_vD b n f) hO.2 (mo_A E) ha h0 hN hbytes hcells hslots hdg (fun q cA H1 hK2 hP hD hS => ?_)
  refine mo_sz' (fun hs => ?_)
  have hq := mo_next E hn hP hD hs
  have hcA := mo_cls (t0 := t0) E.1.2.2.2.2.2.1 ht hK2
  subst hq; subst hcA
  rw [mm_vpush hf] at hP
  exact kk H1 ⟨hP, hS⟩
theorem mo_newq {C : String} {index N' : Nat} {nn : Int32} (t0 : Nat) (E : mm_E p m c cc nL s args Ts own G T b z n0) (hO : mm_O G b n f s H locs) (hn : n0 + cells = n) (hclink : (Cond.classLink own index C).before args s = true) (hover : va_AO C s) (ht : (mm_T T)[t0]? = some (T t0, .object C))
    (h0 : ¬ nn < 0) (hN : nn.toNatClampNeg = N') (hbytes : N' * 4 ≤ 536870912) (hcells : cells + 1 ≤ R.cells) (hslots : slots + N' ≤ R.slots) (hf : va_up f n (.inl (T t0, N', .inr (.inr (.inr (.inr (fun _ => none)))))) = f1) (hdg : decode cc pc = .ok (.anewarray index, 3))
    (kk : ∀ (H1 : Heap), mm_O G b (n + 1) f1 s H1 locs → W p l e R s m args below meth c H1 locs (cells + 1) (slots + N') Q (F0 m (pc + 3) ls (.ref (b + n) :: rest))) : W p l e R s m args below meth c H locs cells slots Q (F0 m pc ls (.int nn :: rest)) := by
  refine va_newq E.1.1 E.1.2.1 E.1.2.2.2.1 hclink hover E.1.2.2.2.2.2.1 hO.1 (mm_vD b n f) hO.2 (mo_A E) h0 hN hbytes hcells hslots hdg (fun q cA H1 hK2 hP hD hS => ?_)
  refine mo_sz' (fun hs => ?_)
  have hq := mo_next E hn hP hD hs
  have hcA := mo_cls (t0 := t0) E.1.2.2.2.2.2.1 ht hK2
  subst hq; subst hcA
  rw [mm_vpush hf] at hP
  exact kk H1 ⟨hP, hS⟩
theorem mo_alen {cA : ClassId} {y : vp_A} {ty : FieldType} {v : Int32} (E : mm_E p m c cc nL s args Ts own G T b z n0) (hO : mm_O G b n f s H locs) (hk : k < n) (he : f k = .inl (cA, y)) (t0 : Nat) (ht : (mm_T T)[t0]? = some (cA, ty)) (hv : Int32.ofNat y.1 = v) (hdg : decode cc pc = .ok (.arraylength, 1))
    (kk : W p l e R s m args below meth c H locs cells slots Q (F0 m (pc + 1) ls (.int v :: rest))) : W p l e R s m args below meth c H locs cells slots Q (F0 m pc ls (.ref (b + k) :: rest)) :=
  va_alen E.1.1 E.1.2.1 E.1.2.2.2.2.2.1 hO.1 k t0 ((mm_vat hk).trans (by rw [he])) ht hv hdg kk
theorem mo_aast {N ci q : Nat} {r : vw_C} {vs : List Value} {g : Nat → Option Nat} {i : Int32} {jn : Nat} (t0 : Nat) (E : mm_E p m c cc nL s args Ts own G T b z n0) (hO : mm_O G b n f s H locs) (hk : k < n) (he : f k = .inl (T t0, N, .inr (.inr (.inr (.inr g))))) (ht : (mm_T T)[t0]? = some (T t0, .object r.1)) (hq : q < n) (hv : f q = .inr (ci, vs)) (hc : vwCl[ci]? = some r) (hin : ¬ (i < 0 ∨ N ≤ i.toNatClampNeg)) (hj : i.toNatClampNeg = jn)
    (hf : va_up f k (.inl (T t0, N, .inr (.inr (.inr (.inr (va_up g jn (some (b + q)))))))) = f1) (hdg : decode cc pc = .ok (.aastore, 1))
    (kk : ∀ (H1 : Heap) (locs1 : List Loc), mm_O G b n f1 s H1 locs1 → W p l e R s m args below meth c H1 locs1 cells slots Q (F0 m (pc + 1) ls rest)) : W p l e R s m args below meth c H locs cells slots Q (F0 m pc ls (.ref (b + q) :: .int i :: .ref (b + k) :: rest)) := by
  subst hj
  refine va_astq E.1.1 E.1.2.1 E.1.2.2.2.2.2.1 hO.1 (mm_vD b n f) hO.2 k t0 q ci ((mm_vat hk).trans (by rw [he])) ht ((mm_vat hq).trans (by rw [hv])) hc hin hdg (fun H1 locs1 hP _ hS => kk H1 locs1 ⟨?_, hS⟩)
  rwa [mm_vset hk hf] at hP
theorem mo_iast {N : Nat} {g : Nat → Int32} {i v : Int32} {jn : Nat} (E : mm_E p m c cc nL s args Ts own G T b z n0) (hO : mm_O G b n f s H locs) (hk : k < n) (he : f k = .inl (T 0, N, .inl g)) (hin : ¬ (i < 0 ∨ N ≤ i.toNatClampNeg)) (hj : i.toNatClampNeg = jn)
    (hf : va_up f k (.inl (T 0, N, .inl (upd g jn v))) = f1) (hdg : decode cc pc = .ok (.iastore, 1))
    (kk : ∀ (H1 : Heap) (locs1 : List Loc), mm_O G b n f1 s H1 locs1 → W p l e R s m args below meth c H1 locs1 cells slots Q (F0 m (pc + 1) ls rest)) : W p l e R s m args below meth c H locs cells slots Q (F0 m pc ls (.int v :: .int i :: .ref (b + k) :: rest)) := by
  subst hj
  refine va_iast E.1.1 E.1.2.1 E.1.2.2.2.2.2.1 hO.1 (mm_vD b n f) hO.2 k 0 ((mm_vat hk).trans (by rw [he])) rfl hin hdg (fun H1 locs1 hP _ hS => kk H1 locs1 ⟨?_, hS⟩)
  rwa [mm_vset hk hf] at hP
theorem mo_gets {i index : Nat} (E : mm_E p m c cc nL s args Ts own G T b z n0) (ho : own = RX3) (hO : mm_O G b n f s H locs) (hi : i < 3) (hidx : mm_si i = index) (hdg : decode cc pc = .ok (.getstatic index, 3))
    (kk : W p l e R s m args below meth c H locs cells slots Q (F0 m (pc + 3) ls (.ref (z i) :: rest))) : W p l e R s m args below meth c H locs cells slots Q (F0 m pc ls rest) := by
  subst ho; subst hidx
  exact va_getsN E.1.1 E.1.2.1 (E.1.2.2.2.2.2.2.1 i hi).1 hO.2 E.1.2.2.2.1 (va_Nw.use rfl (E.1.2.2.2.2.2.2.2 i hi)) (fun _ h => h) hdg kk
theorem mo_F (E : mm_E p m c cc nL s args Ts own G T b z n0) (hO : mm_O G b n f s H locs) : mm_F T b z H := by
  obtain ⟨h0, cell, h1, h2⟩ := E.2.1
  refine ⟨h0, cell, ?_, h2⟩
  rw [hO.2.2.1 (z 2) (Array.getElem?_eq_some_iff.mp h1).1 (by show ¬ b ≤ z 2; omega)]
  exact h1
/-- the clone of the first settings -/
theorem mo_clone {index : Nat} (E : mm_E p m c cc nL s args Ts own G T b z n0) (hls : nL = ls.size) (hO : mm_O G b n f s H locs) (hn : n0 + cells = n)
    (hlink : (Cond.methodLink own index ⟨"[I", "clone", "()Ljava/lang/Object;"⟩).before args s = true) (hsame : (Cond.sameMethod "[I" "java/lang/Object" "clone" "()Ljava/lang/Object;").before args s = true)
    (hnat : (Cond.native ⟨"java/lang/Object", "clone", "()Ljava/lang/Object;"⟩).before args s = true) (hinst : (Cond.instanceMethod ⟨"java/lang/Object", "clone", "()Ljava/lang/Object;"⟩).before args s = true)
    (hsel : (Cond.selects "[I" ⟨"[I", "clone", "()Ljava/lang/Object;"⟩ ⟨"java/lang/Object", "clone", "()Ljava/lang/Object;"⟩).before args s = true)
    (hframes : 1 ≤ R.frames) (hlocals : (rest.map fun v => v.category).sum + 14 ≤ R.locals) (hcells : cells + 1 ≤ R.cells) (hslots : slots + 7 ≤ R.slots) (hf : va_up f n (.inl (T 0, 7, .inl (mm_st 2))) = f1) (hdg : decode cc pc = .ok (.invokevirtual index, 3))
    (kk : ∀ (H1 : Heap), mm_O G b (n + 1) f1 s H1 locs → W p l e R s m args below meth c H1 locs (cells + 1) (slots + 7) Q (F0 m (pc + 3) ls (.ref (b + n) :: rest))) : W p l e R s m args below meth c H locs cells slots Q (F0 m pc ls (.ref (z 2) :: rest)) := by
  refine mo_sz E hO hn (fun hsz => ?_)
  obtain ⟨h0, cell, c1, c2, c3, c4, c5, c6⟩ := mo_F E hO
  have hK := E.1.2.2.2.2.2.1
  have hnm : s.vm.findClass "[I" = some cell.cls := by rw [c2]; exact va_nm_int (hK.2 0 _ rfl).2
  obtain ⟨cc0, t0', f1', f2, f3⟩ := Cond.castable_spec (va_Nw.use (A := args) rfl E.2.2.1.2.2.2.2.1)
  cases hnm.symm.trans f1'
  have hnew : ({ cls := cell.cls, slots := cell.slots } : Cell) = arrV (T 0) 7 (fun j => .int (mm_st 2 j)) := by
    unfold arrV
    rw [c2]
    refine congrArg (fun w => ({ cls := T 0, slots := w, vm := .none } : Cell)) ?_
    apply Array.ext
    · simp [c5]
    · intro i h1 h2
      have hi : i < 7 := by omega
      have := c6 i hi
      rw [Array.getElem?_eq_getElem h1] at this
      rw [Option.some.inj this]
      simp
  intro Tt hT X
  obtain ⟨-, kA, hkA, comp, hkind⟩ := State.isArrayOf_alike X.warmed.alike ((hK.2 0 _ rfl).1 0 (fun _ => .null))
  obtain ⟨-, kS, hkS, compS, hkindS⟩ := (hK.2 0 _ rfl).1 0 (fun _ => .null)
  obtain ⟨vm', X', st⟩ := X.cloneArray E.1.1 E.1.2.2.2.1 hlink hsame hnat hinst hsel (a := z 2) (cell := cell) (by rw [hT]; exact c1) c3 c4 hnm f2 f3
    (fun i v hv => by
      have hi : i < 7 := by rw [← c5]; exact (Array.getElem?_eq_some_iff.mp hv).1
      rw [c6 i hi] at hv
      cases hv
      have hk' : Tt.vm.classes[T 0]? = some kA := hkA
      rw [c2]
      simp [State.fitsSlot, State.slotType?, hk', hkind]
      rfl)
    (g := F0 m pc ls (.ref (z 2) :: rest)) rfl (by rw [E.1.2.2.1, hls]) rfl (by rw [E.1.2.1]; exact hdg) hframes (by show 2 * 0 + _ + 14 ≤ _; omega) hcells (by rw [c5]; exact hslots) (hloader := by rw [c2]; exact Vm.clonesLoader_of_array hkS hkindS)
  rw [hnew, c5] at X'
  rw [hnew] at st
  generalize hH1 : H.push (arrV (T 0) 7 (fun j => .int (mm_st 2 j))) = H1
  have e1 : H1[b + n]? = some (arrV (T 0) 7 (fun j => .int (mm_st 2 j))) := by rw [← hH1, ← hsz, Array.getElem?_push_size]
  have o1 : ∀ q : Nat, q < H.size → H1[q]? = H[q]? := fun q hq => by rw [← hH1, Array.getElem?_push, if_neg (Nat.ne_of_lt hq)]
  have z1 : H1.size = H.size + 1 := by rw [← hH1, Array.size_push]
  obtain ⟨t, b1, b2⟩ := kk H1 ⟨mm_Pof (fun k hk => by
      rcases Nat.lt_or_ge k n with h | h
      · rw [mm_upn hf (by omega)]
        exact (mm_Pat hO.1 h).kept (o1 _ (by show b + k < H.size; omega))
      · have hkn : k = n := by omega
        subst hkn
        rw [mm_ups hf]
        exact e1), ⟨Nat.le_trans hO.2.1 (by omega), fun y h1 h2 => (o1 y (Nat.lt_of_lt_of_le h1 hO.2.1)).trans (hO.2.2.1 y h1 h2), hO.2.2.2⟩⟩
    ((Tt.setVm vm').pushCell (arrV (T 0) 7 (fun j => .int (mm_st 2 j)))) (by rw [← hH1, ← hT]; rfl) X'
  refine ⟨t, st t ?_, b2⟩
  have : Tt.heap.size = b + n := by rw [hT]; exact hsz
  rw [this]
  exact b1
theorem mo_castI {index : Nat} {y : vp_A} (E : mm_E p m c cc nL s args Ts own G T b z n0) (hO : mm_O G b n f s H locs) (hk : k < n) (he : f k = .inl (T 0, y)) (hlink : (Cond.classLink own index "[I").before args s = true) (hdg : decode cc pc = .ok (.checkcast index, 3))
    (kk : W p l e R s m args below meth c H locs cells slots Q (F0 m (pc + 3) ls (.ref (b + k) :: rest))) : W p l e R s m args below meth c H locs cells slots Q (F0 m pc ls (.ref (b + k) :: rest)) :=
  va_castA E.1.1 E.1.2.1 E.1.2.2.2.1 hlink hO.1 k ((mm_vat hk).trans (by rw [he])) (va_nm_int (E.1.2.2.2.2.2.1.2 0 _ rfl).2) hdg kk
/-- a call's start -/
theorem mo_pre (E : mm_E p m c cc nL s args Ts own G T b z n0) (hO : mm_O G b n f s H locs) (hsz : H.size = b + n) {As : List Value} : ∀ U : State, U.heap = H → s.WarmedH U.vm → va_Pc As (mm_Bo G T b z n f) As.toArray U := by
  intro U hU hW
  refine ⟨rfl, by rw [hU]; exact hsz, by rw [hU]; exact hO.1, va_K.moved hW.alike E.1.2.2.2.2.2.1, ?_, fun i hi => va_Nw.warmF hW (E.1.2.2.2.2.2.2.2 i hi), by rw [hU]; exact mo_F E hO, mm_N2.warm hW E.2.2.1⟩
  have h1 : mm_Z b z U s.heap := mm_Z.moved hW.alike E.1.2.2.2.2.2.2.1
  exact h1.kept (fun a ha hb => by rw [hU]; exact hO.2.2.1 a ha hb)
theorem mo_go {mc ms n1 : Nat} {st0 : List Value} {a : Array Value} (hO : mm_O G b n f s H locs) (hr : va_Run p l e R s m args below meth c H locs cells slots mc ms (F0 m pc ls st0) rest (mm_Qo G b n1 f1 a) (fun q => b ≤ q))
    (kk : ∀ (H1 : Heap) (locs1 : List Loc), mm_O G b n1 f1 s H1 locs1 → W p l e R s m args below meth c H1 locs1 (cells + mc) (slots + ms) Q (F0 m (pc + 3) ls rest)) : W p l e R s m args below meth c H locs cells slots Q (F0 m pc ls st0) := by
  refine va_callv hr hO.2 (fun q _ h => h) (fun q h => h) (fun u t H1 locs1 ht _ _ hB _ _ hS => ?_)
  subst ht
  exact kk t.heap locs1 ⟨hB.2, hS⟩
theorem mo_ret {av : Array Value} {n1 : Nat} (E : mm_E p m c cc nL s av Ts own G T b z n0) (hO : mm_O G b n f s H locs) (hn : n0 + cells = n) (h1 : n = n1) (hf : ∀ k, k < n → va_at G vwCl (b + k, f k) H → va_at G vwCl (b + k, f1 k) H) (hr : meth.sig.returnType = none) (hlk : meth.locks = false) (hdg : decode cc pc = .ok (.return_, 1)) :
    W p l e R s m av below meth c H locs cells slots (MQ below (mm_Qo G b n1 f1) av s cells slots (fun q => b ≤ q)) (F0 m pc ls []) := by
  subst h1
  refine mo_sz E hO hn (fun hsz => ?_)
  exact W.vret E.1.1 E.1.2.1 hr (fun t ht _ => ⟨⟨(), rfl, trivial, by rw [ht]; exact hsz, by subst ht; exact mm_Pof (fun k hk => hf k hk (mm_Pat hO.1 hk))⟩, hO.2.F ht⟩) hO.2.2.2 hdg hlk
end MMO
section MMP
variable {l : Launch} {y : MethodName} {ws ws' : List Cond} {rm : Room} {cc : ByteArray} {maxL : Nat} {av : List Value} {n n1 mc ms : Nat} {f f1 : Nat → va_E} {G : va_G} {T : Nat → ClassId} {b : Nat} {z : Nat → Nat}
theorem mo_start (hy : plainName y.cls = true) (hy1 : y.name = "<init>") (hw : ws = .code y cc maxL none :: ws') (hav : (lg_sl av).length ≤ maxL)
    (body : ∀ (p : Program) (e : Env) (s : State) (m : MethodId) (below : List Frame) (meth : Method) (c : Code) (ls : Array Slot), mm_E p m c cc maxL s av.toArray ws y.cls G T b z n → meth.sig.returnType = none → meth.locks = false → meth.name = "<init>" → mm_O G b n f s s.heap [] → lv_has ls maxL (lv_args 0 av) → W p l e rm s m av.toArray below meth c s.heap [] 0 0 (MQ below (mm_Qo G b n1 f1) av.toArray s mc ms (fun q => b ≤ q)) (F0 m 0 ls [])) :
    mm_Co l y ws rm G T b z av n f n1 f1 mc ms := by
  refine Met.ofW (cc := cc) (maxL := maxL) (ret := none) hy hw ?_
  intro p e s m args below meth c s₁ B hml hv
  obtain ⟨rfl, hs, hP, hK, hZ, hN, hF, h2⟩ := hv
  have hts := atoms_spec (ws := ws) B.pre
  have hown : s.vm.findClass y.cls = some m.cls := findClass_of_methodNamed B.named
  rw [lg_entry_eq]
  exact body p e s m below meth c _ ⟨⟨B.exec, B.bytes, hml, hown, hts, hK, hZ, hN⟩, hF, h2, hs⟩ B.returns B.notSynchronized ((name_of_methodNamed B.named B.method).1.trans hy1) ⟨hP, va_S.rf⟩ (lv_entry av hav)
end MMP
end
section
def mm_x0 : mm_M := fun k j => if mm_kd k = 3 then (if j = 4 then -6 else 0) else if mm_kd k = 6 ∧ mm_ln k = 7 then mm_st 2 j else if k = 16 then nI (22 + 15 * j) else if k = 19 then (if j = 3 then 32 else 0) else 0
theorem x0_riv {k : Nat} (h : mm_kd k = 3) : mm_x0 k = fun j => if j = 4 then -6 else 0 := by funext j; simp [mm_x0, h]
theorem x0_set {k : Nat} (h : mm_kd k = 6) (h2 : mm_ln k = 7) : mm_x0 k = mm_st 2 := by funext j; simp [mm_x0, h, h2]
theorem x0_jar {k : Nat} (h : mm_kd k = 6) (h2 : mm_ln k = 20) : mm_x0 k = fun _ => 0 := by
  funext j
  have h3 : k ≠ 16 := by intro q; subst q; revert h; decide
  have h5 : k ≠ 19 := by intro q; subst q; revert h; decide
  simp [mm_x0, h, h2, h3, h5]
theorem x0_jou {k : Nat} (h : mm_kd k = 0) : mm_x0 k = fun _ => 0 := by
  funext j
  have h3 : k ≠ 16 := by intro q; subst q; revert h; decide
  have h5 : k ≠ 19 := by intro q; subst q; revert h; decide
  simp [mm_x0, h, h3, h5]
theorem x0_lan {k : Nat} (h : mm_kd k = 1) : mm_x0 k = fun _ => 0 := by
  funext j
  have h3 : k ≠ 16 := by intro q; subst q; revert h; decide
  have h5 : k ≠ 19 := by intro q; subst q; revert h; decide
  simp [mm_x0, h, h3, h5]
theorem mm_rvl {k j : Nat} (hk : mm_kd k = 3) (hj : j < 8) : mm_kd (k + (7 + j)) = 1 := by
  have key : ∀ k, k < 157 → mm_kd k = 3 → ∀ j, j < 8 → mm_kd (k + (7 + j)) = 1 := by decide +kernel
  exact key k (mm_lt hk (by decide)) hk j hj
def mf_0 (T : Nat → ClassId) (b : Nat) (f : Nat → va_E) (k n : Nat) : Nat → va_E := fun j => if j = k then .inr (0, [.ref (b + n), .ref (b + (n + 1)), .ref (b + (n + 2)), .int 0, .int 0]) else if n ≤ j then .inl (T 0, 20, .inl (fun _ => 0)) else f j
def mf_2 (T : Nat → ClassId) (b : Nat) (f : Nat → va_E) (k n : Nat) : Nat → va_E := fun j => if j = k then .inr (2, [.ref (b + n), .int 0, .int 0, .int 32, .int 0, .int 0]) else if n ≤ j then .inl (T 1, 80, .inl (fun _ => 0)) else f j
def mf_3 (T : Nat → ClassId) (b : Nat) (f : Nat → va_E) (k : Nat) : Nat → va_E := fun j => if j < k then f j else mm_ent T b mm_x0 j
section MF
variable {T : Nat → ClassId} {b k n j : Nat} {f f1 : Nat → va_E}
theorem mf0_k (h : mf_0 T b f k n = f1) : f1 k = .inr (0, [.ref (b + n), .ref (b + (n + 1)), .ref (b + (n + 2)), .int 0, .int 0]) := by subst h; exact if_pos rfl
theorem mf0_n (h : mf_0 T b f k n = f1) (h1 : j ≠ k) (h2 : n ≤ j) : f1 j = .inl (T 0, 20, .inl (fun _ => 0)) := by subst h; exact (if_neg h1).trans (if_pos h2)
theorem mf0_o (h : mf_0 T b f k n = f1) (h1 : j ≠ k) (h2 : j < n) : f1 j = f j := by subst h; exact (if_neg h1).trans (if_neg (by omega))
theorem mf2_k (h : mf_2 T b f k n = f1) : f1 k = .inr (2, [.ref (b + n), .int 0, .int 0, .int 32, .int 0, .int 0]) := by subst h; exact if_pos rfl
theorem mf2_n (h : mf_2 T b f k n = f1) (h1 : j ≠ k) (h2 : n ≤ j) : f1 j = .inl (T 1, 80, .inl (fun _ => 0)) := by subst h; exact (if_neg h1).trans (if_pos h2)
theorem mf2_o (h : mf_2 T b f k n = f1) (h1 : j ≠ k) (h2 : j < n) : f1 j = f j := by subst h; exact (if_neg h1).trans (if_neg (by omega))
theorem mf3_n (h : mf_3 T b f k = f1) (h2 : k ≤ j) : f1 j = mm_ent T b mm_x0 j := by subst h; exact if_neg (by omega)
theorem mf3_o (h : mf_3 T b f k = f1) (h2 : j < k) : f1 j = f j := by subst h; exact if_pos h2
end MF
theorem kr_1 : mm_kd 1 = 3 := by decide
theorem kr_22 : mm_kd 22 = 3 := by decide
theorem kr_37 : mm_kd 37 = 3 := by decide
theorem kr_52 : mm_kd 52 = 3 := by decide
theorem kr_67 : mm_kd 67 = 3 := by decide
theorem kr_82 : mm_kd 82 = 3 := by decide
theorem kr_97 : mm_kd 97 = 3 := by decide
theorem kr_112 : mm_kd 112 = 3 := by decide
theorem kr_127 : mm_kd 127 = 3 := by decide
theorem kr_142 : mm_kd 142 = 3 := by decide
abbrev rm_X1_init : Room := { frames := 1, cells := 0, slots := 0, locals := 12 }
theorem df_X1_init : yX1_init.cls = RX1 ∧ yX1_init.cls ≠ "java/lang/invoke/MethodHandle" ∧ yX1_init.cls ≠ "java/lang/invoke/VarHandle" ∧ (parseMethodDescriptor yX1_init.desc).map (fun d => d.parameters.length) = some 0 := by decide +kernel
set_option maxRecDepth 100000 in
set_option maxHeartbeats 8000000 in
theorem co_X1_init (l : Launch) (G : va_G) (T : Nat → ClassId) (b : Nat) (z : Nat → Nat) (k n : Nat) (f : Nat → va_E)  : mm_Co l yX1_init wsX1_init rm_X1_init G T b z [.ref (b + k)] n f n f 0 0 := by
  refine mo_start (cc := cX1_init) (maxL := 1) (by decide) rfl rfl (Nat.le_of_ble_eq_true rfl) (fun p e s m below meth c ls E hr hlk hi0 hO hl => ?_)
  have hl : lv_has ls 1 [(0, .ref (b + k))] := hl
  have hx := E.1.1
  have hb := E.1.2.1
  have w1 := E.1.2.2.2.2.1 (.methodLink RX1 3 objectInit) (by decide +kernel)
  have w2 := E.1.2.2.2.2.1 (.instanceMethod objectInit) (by decide +kernel)
  have w3 := E.1.2.2.2.2.1 (.code objectInit ⟨#[0xb1]⟩ 1 none) (by decide +kernel)
  refine lv_aload_n hx hb dX1_init_0 rfl (lv_at hl 0 rfl) ?_
  refine W.objInit hx hb E.1.2.2.2.1 w1 w2 w3 rfl (by rw [E.1.2.2.1]; exact hl.1) rfl dX1_init_1 (Nat.le_of_ble_eq_true rfl) (Nat.le_of_ble_eq_true rfl) ?_
  refine W.eq (g2 := F0 m 4 ls []) rfl ?_
  refine mo_ret E hO (by omega) rfl ?_ hr hlk dX1_init_4
  exact fun _ _ h => h
abbrev rm_X0_init : Room := { frames := 1, cells := 3, slots := 60, locals := 12 }
theorem df_X0_init : yX0_init.cls = RX0 ∧ yX0_init.cls ≠ "java/lang/invoke/MethodHandle" ∧ yX0_init.cls ≠ "java/lang/invoke/VarHandle" ∧ (parseMethodDescriptor yX0_init.desc).map (fun d => d.parameters.length) = some 0 := by decide +kernel
set_option maxRecDepth 100000 in
set_option maxHeartbeats 8000000 in
theorem co_X0_init (l : Launch) (G : va_G) (T : Nat → ClassId) (b : Nat) (z : Nat → Nat) (k n : Nat) (f : Nat → va_E) {f1 : Nat → va_E} (hkn : k < n) (hk0 : f k = .inr (0, [.null, .null, .null, .int 0, .int 0])) (hf : mf_0 T b f k n = f1) : mm_Co l yX0_init wsX0_init rm_X0_init G T b z [.ref (b + k)] n f (n + 3) f1 3 60 := by
  refine mo_start (cc := cX0_init) (maxL := 1) (by decide) rfl rfl (Nat.le_of_ble_eq_true rfl) (fun p e s m below meth c ls E hr hlk hi0 hO hl => ?_)
  have hl : lv_has ls 1 [(0, .ref (b + k))] := hl
  have hx := E.1.1
  have hb := E.1.2.1
  have w1 := E.1.2.2.2.2.1 (.methodLink RX0 3 objectInit) (by decide +kernel)
  have w2 := E.1.2.2.2.2.1 (.instanceMethod objectInit) (by decide +kernel)
  have w3 := E.1.2.2.2.2.1 (.code objectInit ⟨#[0xb1]⟩ 1 none) (by decide +kernel)
  have w4 := E.1.2.2.2.2.1 (.arrayClass .int) (by decide +kernel)
  have w5 := E.1.2.2.2.2.1 (.fieldLink RX0 9 "LandingFines$Journal" "sorts" "[I") (by decide +kernel)
  have w6 := E.1.2.2.2.2.1 (.fieldLink RX0 15 "LandingFines$Journal" "places" "[I") (by decide +kernel)
  have w7 := E.1.2.2.2.2.1 (.fieldLink RX0 18 "LandingFines$Journal" "minutes" "[I") (by decide +kernel)
  have w8 := E.1.2.2.2.2.1 (.fieldLink RX0 21 "LandingFines$Journal" "size" "I") (by decide +kernel)
  have w9 := E.1.2.2.2.2.1 (.fieldLink RX0 25 "LandingFines$Journal" "next" "I") (by decide +kernel)
  have hin0 : ∀ w ∈ wsX00, w ∈ wsX0_init := by decide +kernel
  have o0_0 : ∀ j, j ≠ k ∧ j < n → f j = f j := fun _ _ => rfl
  refine lv_aload_n hx hb dX0_init_0 rfl (lv_at hl 0 rfl) ?_
  refine W.objInit hx hb E.1.2.2.2.1 w1 w2 w3 rfl (by rw [E.1.2.2.1]; exact hl.1) rfl dX0_init_1 (Nat.le_of_ble_eq_true rfl) (Nat.le_of_ble_eq_true rfl) ?_
  refine W.eq (g2 := F0 m 4 ls []) rfl ?_
  refine lv_aload_n hx hb dX0_init_4 rfl (lv_at hl 0 rfl) ?_
  refine lv_bipush (v := 20) hx hb dX0_init_5 (by decide) ?_
  obtain ⟨f1, e1⟩ : ∃ y, va_up f n (.inl (T 0, 20, .inl (fun _ => 0)) : va_E) = y := ⟨_, rfl⟩
  refine mo_newa (atype := .int) (ty := .int) (N' := 20) (a0 := (20, .inl (fun _ => 0))) 0 E hO (by omega) w4 rfl rfl (fun _ => rfl) (by decide) (by decide) (by decide) (Nat.le_of_ble_eq_true rfl) (Nat.le_of_ble_eq_true rfl) e1 dX0_init_7 (fun H hO => ?_)
  have c1_8 := (mm_upn e1 (show k ≠ n by omega)).trans hk0
  have c1_9 := mm_ups e1
  have o1_0 : ∀ j, j ≠ k ∧ j < n → f1 j = f j := fun j hj => (mm_upn e1 (by omega)).trans (o0_0 j hj)
  obtain ⟨f2, e2⟩ : ∃ y, va_up f1 k (.inr (0, [.ref (b + n), .null, .null, .int 0, .int 0]) : va_E) = y := ⟨_, rfl⟩
  refine mo_putF (ty := .array .int) E hO hi0 rfl hin0 tyX0_ok nmX0 rfl (show k < _ by omega) c1_8 (j := 0) (by decide) rfl w5 (by decide +kernel) rfl rfl (Nat.le_of_ble_eq_true rfl) e2 dX0_init_9 (fun H locs hO => ?_)
  have c2_13 := (mm_upn e2 (show n ≠ k by omega)).trans c1_9
  have c2_14 := mm_ups e2
  have o2_0 : ∀ j, j ≠ k ∧ j < n → f2 j = f j := fun j hj => (mm_upn e2 (by omega)).trans (o1_0 j hj)
  refine lv_aload_n hx hb dX0_init_12 rfl (lv_at hl 0 rfl) ?_
  refine lv_bipush (v := 20) hx hb dX0_init_13 (by decide) ?_
  obtain ⟨f3, e3⟩ : ∃ y, va_up f2 (n + 1) (.inl (T 0, 20, .inl (fun _ => 0)) : va_E) = y := ⟨_, rfl⟩
  refine mo_newa (atype := .int) (ty := .int) (N' := 20) (a0 := (20, .inl (fun _ => 0))) 0 E hO (by omega) w4 rfl rfl (fun _ => rfl) (by decide) (by decide) (by decide) (Nat.le_of_ble_eq_true rfl) (Nat.le_of_ble_eq_true rfl) e3 dX0_init_15 (fun H hO => ?_)
  have c3_20 := (mm_upn e3 (show k ≠ (n + 1) by omega)).trans c2_14
  have c3_21 := (mm_upn e3 (show n ≠ (n + 1) by omega)).trans c2_13
  have c3_22 := mm_ups e3
  have o3_0 : ∀ j, j ≠ k ∧ j < n → f3 j = f j := fun j hj => (mm_upn e3 (by omega)).trans (o2_0 j hj)
  obtain ⟨f4, e4⟩ : ∃ y, va_up f3 k (.inr (0, [.ref (b + n), .ref (b + (n + 1)), .null, .int 0, .int 0]) : va_E) = y := ⟨_, rfl⟩
  refine mo_putF (ty := .array .int) E hO hi0 rfl hin0 tyX0_ok nmX0 rfl (show k < _ by omega) c3_20 (j := 1) (by decide) rfl w6 (by decide +kernel) rfl rfl (Nat.le_of_ble_eq_true rfl) e4 dX0_init_17 (fun H locs hO => ?_)
  have c4_26 := (mm_upn e4 (show n ≠ k by omega)).trans c3_21
  have c4_27 := (mm_upn e4 (show (n + 1) ≠ k by omega)).trans c3_22
  have c4_28 := mm_ups e4
  have o4_0 : ∀ j, j ≠ k ∧ j < n → f4 j = f j := fun j hj => (mm_upn e4 (by omega)).trans (o3_0 j hj)
  refine lv_aload_n hx hb dX0_init_20 rfl (lv_at hl 0 rfl) ?_
  refine lv_bipush (v := 20) hx hb dX0_init_21 (by decide) ?_
  obtain ⟨f5, e5⟩ : ∃ y, va_up f4 (n + 2) (.inl (T 0, 20, .inl (fun _ => 0)) : va_E) = y := ⟨_, rfl⟩
  refine mo_newa (atype := .int) (ty := .int) (N' := 20) (a0 := (20, .inl (fun _ => 0))) 0 E hO (by omega) w4 rfl rfl (fun _ => rfl) (by decide) (by decide) (by decide) (Nat.le_of_ble_eq_true rfl) (Nat.le_of_ble_eq_true rfl) e5 dX0_init_23 (fun H hO => ?_)
  have c5_34 := (mm_upn e5 (show k ≠ (n + 2) by omega)).trans c4_28
  have c5_35 := (mm_upn e5 (show n ≠ (n + 2) by omega)).trans c4_26
  have c5_36 := (mm_upn e5 (show (n + 1) ≠ (n + 2) by omega)).trans c4_27
  have c5_37 := mm_ups e5
  have o5_0 : ∀ j, j ≠ k ∧ j < n → f5 j = f j := fun j hj => (mm_upn e5 (by omega)).trans (o4_0 j hj)
  obtain ⟨f6, e6⟩ : ∃ y, va_up f5 k (.inr (0, [.ref (b + n), .ref (b + (n + 1)), .ref (b + (n + 2)), .int 0, .int 0]) : va_E) = y := ⟨_, rfl⟩
  refine mo_putF (ty := .array .int) E hO hi0 rfl hin0 tyX0_ok nmX0 rfl (show k < _ by omega) c5_34 (j := 2) (by decide) rfl w7 (by decide +kernel) rfl rfl (Nat.le_of_ble_eq_true rfl) e6 dX0_init_25 (fun H locs hO => ?_)
  have c6_41 := (mm_upn e6 (show n ≠ k by omega)).trans c5_35
  have c6_42 := (mm_upn e6 (show (n + 1) ≠ k by omega)).trans c5_36
  have c6_43 := (mm_upn e6 (show (n + 2) ≠ k by omega)).trans c5_37
  have c6_44 := mm_ups e6
  have o6_0 : ∀ j, j ≠ k ∧ j < n → f6 j = f j := fun j hj => (mm_upn e6 (by omega)).trans (o5_0 j hj)
  refine lv_aload_n hx hb dX0_init_28 rfl (lv_at hl 0 rfl) ?_
  refine lv_iconst (v := 0) hx hb dX0_init_29 (by decide) ?_
  obtain ⟨f7, e7⟩ : ∃ y, va_up f6 k (.inr (0, [.ref (b + n), .ref (b + (n + 1)), .ref (b + (n + 2)), .int 0, .int 0]) : va_E) = y := ⟨_, rfl⟩
  refine mo_put (ty := .int) E hO hin0 tyX0_ok nmX0 rfl (show k < _ by omega) c6_44 (j := 3) (by decide) rfl w8 (by decide +kernel) rfl rfl (Nat.le_of_ble_eq_true rfl) e7 dX0_init_30 (fun H locs hO => ?_)
  have c7_50 := (mm_upn e7 (show n ≠ k by omega)).trans c6_41
  have c7_51 := (mm_upn e7 (show (n + 1) ≠ k by omega)).trans c6_42
  have c7_52 := (mm_upn e7 (show (n + 2) ≠ k by omega)).trans c6_43
  have c7_53 := mm_ups e7
  have o7_0 : ∀ j, j ≠ k ∧ j < n → f7 j = f j := fun j hj => (mm_upn e7 (by omega)).trans (o6_0 j hj)
  refine lv_aload_n hx hb dX0_init_33 rfl (lv_at hl 0 rfl) ?_
  refine lv_iconst (v := 0) hx hb dX0_init_34 (by decide) ?_
  obtain ⟨f8, e8⟩ : ∃ y, va_up f7 k (.inr (0, [.ref (b + n), .ref (b + (n + 1)), .ref (b + (n + 2)), .int 0, .int 0]) : va_E) = y := ⟨_, rfl⟩
  refine mo_put (ty := .int) E hO hin0 tyX0_ok nmX0 rfl (show k < _ by omega) c7_53 (j := 4) (by decide) rfl w9 (by decide +kernel) rfl rfl (Nat.le_of_ble_eq_true rfl) e8 dX0_init_35 (fun H locs hO => ?_)
  have c8_59 := (mm_upn e8 (show n ≠ k by omega)).trans c7_50
  have c8_60 := (mm_upn e8 (show (n + 1) ≠ k by omega)).trans c7_51
  have c8_61 := (mm_upn e8 (show (n + 2) ≠ k by omega)).trans c7_52
  have c8_62 := mm_ups e8
  have o8_0 : ∀ j, j ≠ k ∧ j < n → f8 j = f j := fun j hj => (mm_upn e8 (by omega)).trans (o7_0 j hj)
  refine mo_ret E hO (by omega) rfl ?_ hr hlk dX0_init_38
  intro j hj h
  rcases (show j = k ∨ (j ≠ k ∧ j < n) ∨ j = n ∨ j = n + 1 ∨ j = n + 2 by omega) with q | q | q | q | q
  · subst q; rw [mf0_k hf]; rwa [c8_62] at h
  · rw [mf0_o hf q.1 q.2]; rwa [o8_0 j q] at h
  · subst q; rw [mf0_n hf (by omega) (by omega)]; rwa [c8_59] at h
  · subst q; rw [mf0_n hf (by omega) (by omega)]; rwa [c8_60] at h
  · subst q; rw [mf0_n hf (by omega) (by omega)]; rwa [c8_61] at h
abbrev rm_X2_init : Room := { frames := 1, cells := 1, slots := 80, locals := 12 }
theorem df_X2_init : yX2_init.cls = RX2 ∧ yX2_init.cls ≠ "java/lang/invoke/MethodHandle" ∧ yX2_init.cls ≠ "java/lang/invoke/VarHandle" ∧ (parseMethodDescriptor yX2_init.desc).map (fun d => d.parameters.length) = some 0 := by decide +kernel
set_option maxRecDepth 100000 in
set_option maxHeartbeats 8000000 in
theorem co_X2_init (l : Launch) (G : va_G) (T : Nat → ClassId) (b : Nat) (z : Nat → Nat) (k n : Nat) (f : Nat → va_E) {f1 : Nat → va_E} (hkn : k < n) (hk0 : f k = .inr (2, [.null, .int 0, .int 0, .int 0, .int 0, .int 0])) (hf : mf_2 T b f k n = f1) : mm_Co l yX2_init wsX2_init rm_X2_init G T b z [.ref (b + k)] n f (n + 1) f1 1 80 := by
  refine mo_start (cc := cX2_init) (maxL := 1) (by decide) rfl rfl (Nat.le_of_ble_eq_true rfl) (fun p e s m below meth c ls E hr hlk hi0 hO hl => ?_)
  have hl : lv_has ls 1 [(0, .ref (b + k))] := hl
  have hx := E.1.1
  have hb := E.1.2.1
  have w1 := E.1.2.2.2.2.1 (.methodLink RX2 3 objectInit) (by decide +kernel)
  have w2 := E.1.2.2.2.2.1 (.instanceMethod objectInit) (by decide +kernel)
  have w3 := E.1.2.2.2.2.1 (.code objectInit ⟨#[0xb1]⟩ 1 none) (by decide +kernel)
  have w4 := E.1.2.2.2.2.1 (.arrayClass .char) (by decide +kernel)
  have w5 := E.1.2.2.2.2.1 (.fieldLink RX2 9 "LandingFines$Pad" "signs" "[C") (by decide +kernel)
  have w6 := E.1.2.2.2.2.1 (.fieldLink RX2 15 "LandingFines$Pad" "length" "I") (by decide +kernel)
  have w7 := E.1.2.2.2.2.1 (.fieldLink RX2 19 "LandingFines$Pad" "place" "I") (by decide +kernel)
  have w8 := E.1.2.2.2.2.1 (.fieldLink RX2 22 "LandingFines$Pad" "orderSign" "C") (by decide +kernel)
  have w9 := E.1.2.2.2.2.1 (.fieldLink RX2 26 "LandingFines$Pad" "orderLanding" "I") (by decide +kernel)
  have w10 := E.1.2.2.2.2.1 (.fieldLink RX2 29 "LandingFines$Pad" "orderNumber" "I") (by decide +kernel)
  have hin2 : ∀ w ∈ wsX20, w ∈ wsX2_init := by decide +kernel
  have o0_0 : ∀ j, j ≠ k ∧ j < n → f j = f j := fun _ _ => rfl
  refine lv_aload_n hx hb dX2_init_0 rfl (lv_at hl 0 rfl) ?_
  refine W.objInit hx hb E.1.2.2.2.1 w1 w2 w3 rfl (by rw [E.1.2.2.1]; exact hl.1) rfl dX2_init_1 (Nat.le_of_ble_eq_true rfl) (Nat.le_of_ble_eq_true rfl) ?_
  refine W.eq (g2 := F0 m 4 ls []) rfl ?_
  refine lv_aload_n hx hb dX2_init_4 rfl (lv_at hl 0 rfl) ?_
  refine lv_bipush (v := 80) hx hb dX2_init_5 (by decide) ?_
  obtain ⟨f1, e1⟩ : ∃ y, va_up f n (.inl (T 1, 80, .inl (fun _ => 0)) : va_E) = y := ⟨_, rfl⟩
  refine mo_newa (atype := .char) (ty := .char) (N' := 80) (a0 := (80, .inl (fun _ => 0))) 1 E hO (by omega) w4 rfl rfl (fun _ => rfl) (by decide) (by decide) (by decide) (Nat.le_of_ble_eq_true rfl) (Nat.le_of_ble_eq_true rfl) e1 dX2_init_7 (fun H hO => ?_)
  have c1_8 := (mm_upn e1 (show k ≠ n by omega)).trans hk0
  have c1_9 := mm_ups e1
  have o1_0 : ∀ j, j ≠ k ∧ j < n → f1 j = f j := fun j hj => (mm_upn e1 (by omega)).trans (o0_0 j hj)
  obtain ⟨f2, e2⟩ : ∃ y, va_up f1 k (.inr (2, [.ref (b + n), .int 0, .int 0, .int 0, .int 0, .int 0]) : va_E) = y := ⟨_, rfl⟩
  refine mo_putF (ty := .array .char) E hO hi0 rfl hin2 tyX2_ok nmX2 rfl (show k < _ by omega) c1_8 (j := 0) (by decide) rfl w5 (by decide +kernel) rfl rfl (Nat.le_of_ble_eq_true rfl) e2 dX2_init_9 (fun H locs hO => ?_)
  have c2_13 := (mm_upn e2 (show n ≠ k by omega)).trans c1_9
  have c2_14 := mm_ups e2
  have o2_0 : ∀ j, j ≠ k ∧ j < n → f2 j = f j := fun j hj => (mm_upn e2 (by omega)).trans (o1_0 j hj)
  refine lv_aload_n hx hb dX2_init_12 rfl (lv_at hl 0 rfl) ?_
  refine lv_iconst (v := 0) hx hb dX2_init_13 (by decide) ?_
  obtain ⟨f3, e3⟩ : ∃ y, va_up f2 k (.inr (2, [.ref (b + n), .int 0, .int 0, .int 0, .int 0, .int 0]) : va_E) = y := ⟨_, rfl⟩
  refine mo_put (ty := .int) E hO hin2 tyX2_ok nmX2 rfl (show k < _ by omega) c2_14 (j := 1) (by decide) rfl w6 (by decide +kernel) rfl rfl (Nat.le_of_ble_eq_true rfl) e3 dX2_init_14 (fun H locs hO => ?_)
  have c3_20 := (mm_upn e3 (show n ≠ k by omega)).trans c2_13
  have c3_21 := mm_ups e3
  have o3_0 : ∀ j, j ≠ k ∧ j < n → f3 j = f j := fun j hj => (mm_upn e3 (by omega)).trans (o2_0 j hj)
  refine lv_aload_n hx hb dX2_init_17 rfl (lv_at hl 0 rfl) ?_
  refine lv_iconst (v := 0) hx hb dX2_init_18 (by decide) ?_
  obtain ⟨f4, e4⟩ : ∃ y, va_up f3 k (.inr (2, [.ref (b + n), .int 0, .int 0, .int 0, .int 0, .int 0]) : va_E) = y := ⟨_, rfl⟩
  refine mo_put (ty := .int) E hO hin2 tyX2_ok nmX2 rfl (show k < _ by omega) c3_21 (j := 2) (by decide) rfl w7 (by decide +kernel) rfl rfl (Nat.le_of_ble_eq_true rfl) e4 dX2_init_19 (fun H locs hO => ?_)
  have c4_27 := (mm_upn e4 (show n ≠ k by omega)).trans c3_20
  have c4_28 := mm_ups e4
  have o4_0 : ∀ j, j ≠ k ∧ j < n → f4 j = f j := fun j hj => (mm_upn e4 (by omega)).trans (o3_0 j hj)
  refine lv_aload_n hx hb dX2_init_22 rfl (lv_at hl 0 rfl) ?_
  refine lv_bipush (v := 32) hx hb dX2_init_23 (by decide) ?_
  obtain ⟨f5, e5⟩ : ∃ y, va_up f4 k (.inr (2, [.ref (b + n), .int 0, .int 0, .int 32, .int 0, .int 0]) : va_E) = y := ⟨_, rfl⟩
  refine mo_put (ty := .char) E hO hin2 tyX2_ok nmX2 rfl (show k < _ by omega) c4_28 (j := 3) (by decide) rfl w8 (by decide +kernel) rfl rfl (Nat.le_of_ble_eq_true rfl) e5 dX2_init_25 (fun H locs hO => ?_)
  have c5_34 := (mm_upn e5 (show n ≠ k by omega)).trans c4_27
  have c5_35 := mm_ups e5
  have o5_0 : ∀ j, j ≠ k ∧ j < n → f5 j = f j := fun j hj => (mm_upn e5 (by omega)).trans (o4_0 j hj)
  refine lv_aload_n hx hb dX2_init_28 rfl (lv_at hl 0 rfl) ?_
  refine lv_iconst (v := 0) hx hb dX2_init_29 (by decide) ?_
  obtain ⟨f6, e6⟩ : ∃ y, va_up f5 k (.inr (2, [.ref (b + n), .int 0, .int 0, .int 32, .int 0, .int 0]) : va_E) = y := ⟨_, rfl⟩
  refine mo_put (ty := .int) E hO hin2 tyX2_ok nmX2 rfl (show k < _ by omega) c5_35 (j := 4) (by decide) rfl w9 (by decide +kernel) rfl rfl (Nat.le_of_ble_eq_true rfl) e6 dX2_init_30 (fun H locs hO => ?_)
  have c6_41 := (mm_upn e6 (show n ≠ k by omega)).trans c5_34
  have c6_42 := mm_ups e6
  have o6_0 : ∀ j, j ≠ k ∧ j < n → f6 j = f j := fun j hj => (mm_upn e6 (by omega)).trans (o5_0 j hj)
  refine lv_aload_n hx hb dX2_init_33 rfl (lv_at hl 0 rfl) ?_
  refine lv_iconst (v := 0) hx hb dX2_init_34 (by decide) ?_
  obtain ⟨f7, e7⟩ : ∃ y, va_up f6 k (.inr (2, [.ref (b + n), .int 0, .int 0, .int 32, .int 0, .int 0]) : va_E) = y := ⟨_, rfl⟩
  refine mo_put (ty := .int) E hO hin2 tyX2_ok nmX2 rfl (show k < _ by omega) c6_42 (j := 5) (by decide) rfl w10 (by decide +kernel) rfl rfl (Nat.le_of_ble_eq_true rfl) e7 dX2_init_35 (fun H locs hO => ?_)
  have c7_48 := (mm_upn e7 (show n ≠ k by omega)).trans c6_41
  have c7_49 := mm_ups e7
  have o7_0 : ∀ j, j ≠ k ∧ j < n → f7 j = f j := fun j hj => (mm_upn e7 (by omega)).trans (o6_0 j hj)
  refine mo_ret E hO (by omega) rfl ?_ hr hlk dX2_init_38
  intro j hj h
  rcases (show j = k ∨ (j ≠ k ∧ j < n) ∨ j = n by omega) with q | q | q
  · subst q; rw [mf2_k hf]; rwa [c7_49] at h
  · rw [mf2_o hf q.1 q.2]; rwa [o7_0 j q] at h
  · subst q; rw [mf2_n hf (by omega) (by omega)]; rwa [c7_48] at h
abbrev rm_X3_init : Room := { frames := 2, cells := 14, slots := 144, locals := 32 }
theorem df_X3_init : yX3_init.cls = RX3 ∧ yX3_init.cls ≠ "java/lang/invoke/MethodHandle" ∧ yX3_init.cls ≠ "java/lang/invoke/VarHandle" ∧ (parseMethodDescriptor yX3_init.desc).map (fun d => d.parameters.length) = some 0 := by decide +kernel
set_option maxRecDepth 100000 in
set_option maxHeartbeats 8000000 in
theorem co_X3_init (l : Launch) (G : va_G) (T : Nat → ClassId) (b : Nat) (z : Nat → Nat) (k : Nat) (f : Nat → va_E) {f1 : Nat → va_E} (hk : mm_kd k = 3) (hk0 : f k = .inr (3, [.null, .null, .int 0, .int 0, .int 0, .int 0, .null])) (hf : mf_3 T b f k = f1) : mm_Co l yX3_init wsX3_init rm_X3_init G T b z [.ref (b + k)] (k + 1) f (k + 15) f1 14 144 := by
  refine mo_start (cc := cX3_init) (maxL := 2) (by decide) rfl rfl (Nat.le_of_ble_eq_true rfl) (fun p e s m below meth c ls E hr hlk hi0 hO hl => ?_)
  have hl : lv_has ls 2 [(0, .ref (b + k))] := hl
  have hx := E.1.1
  have hb := E.1.2.1
  have w1 := E.1.2.2.2.2.1 (.methodLink RX3 3 objectInit) (by decide +kernel)
  have w2 := E.1.2.2.2.2.1 (.instanceMethod objectInit) (by decide +kernel)
  have w3 := E.1.2.2.2.2.1 (.code objectInit ⟨#[0xb1]⟩ 1 none) (by decide +kernel)
  have w4 := E.1.2.2.2.2.1 (.methodLink RX3 13 ⟨"[I", "clone", "()Ljava/lang/Object;"⟩) (by decide +kernel)
  have w5 := E.1.2.2.2.2.1 (.sameMethod "[I" "java/lang/Object" "clone" "()Ljava/lang/Object;") (by decide +kernel)
  have w6 := E.1.2.2.2.2.1 (.native ⟨"java/lang/Object", "clone", "()Ljava/lang/Object;"⟩) (by decide +kernel)
  have w7 := E.1.2.2.2.2.1 (.instanceMethod ⟨"java/lang/Object", "clone", "()Ljava/lang/Object;"⟩) (by decide +kernel)
  have w8 := E.1.2.2.2.2.1 (.selects "[I" ⟨"[I", "clone", "()Ljava/lang/Object;"⟩ ⟨"java/lang/Object", "clone", "()Ljava/lang/Object;"⟩) (by decide +kernel)
  have w9 := E.1.2.2.2.2.1 (.classLink RX3 14 "[I") (by decide +kernel)
  have w10 := E.1.2.2.2.2.1 (.fieldLink RX3 18 "LandingFines$River" "settings" "[I") (by decide +kernel)
  have w11 := E.1.2.2.2.2.1 (.classLink RX3 23 RX1) (by decide +kernel)
  have w12 := E.1.2.2.2.2.1 (.fieldLink RX3 25 "LandingFines$River" "landings" "[LLandingFines$Landing;") (by decide +kernel)
  have w13 := E.1.2.2.2.2.1 (.fieldLink RX3 29 "LandingFines$River" "landingCount" "I") (by decide +kernel)
  have w14 := E.1.2.2.2.2.1 (.fieldLink RX3 33 "LandingFines$River" "minutesSoFar" "I") (by decide +kernel)
  have w15 := E.1.2.2.2.2.1 (.fieldLink RX3 36 "LandingFines$River" "taken" "I") (by decide +kernel)
  have w16 := E.1.2.2.2.2.1 (.fieldLink RX3 39 "LandingFines$River" "switches" "I") (by decide +kernel)
  have w17 := E.1.2.2.2.2.1 (.classLink RX3 42 RX0) (by decide +kernel)
  have w18 := E.1.2.2.2.2.1 (.instantiable RX0 5) (by decide +kernel)
  have w19 := E.1.2.2.2.2.1 (.initialized RX0) (by decide +kernel)
  have w20 := E.1.2.2.2.2.1 (.instanceMethod yX0_init) (by decide +kernel)
  have w21 := E.1.2.2.2.2.1 (.fieldLink RX3 45 "LandingFines$River" "journal" "LLandingFines$Journal;") (by decide +kernel)
  have w22 := E.1.2.2.2.2.1 (.instantiable RX1 8) (by decide +kernel)
  have w23 := E.1.2.2.2.2.1 (.initialized RX1) (by decide +kernel)
  have w24 := E.1.2.2.2.2.1 (.instanceMethod yX1_init) (by decide +kernel)
  have hin0 : ∀ w ∈ wsX00, w ∈ wsX3_init := by decide +kernel
  have hin1 : ∀ w ∈ wsX10, w ∈ wsX3_init := by decide +kernel
  have hin3 : ∀ w ∈ wsX30, w ∈ wsX3_init := by decide +kernel
  have o0_0 : ∀ j, j < k → f j = f j := fun _ _ => rfl
  refine lv_aload_n hx hb dX3_init_0 rfl (lv_at hl 0 rfl) ?_
  refine W.objInit hx hb E.1.2.2.2.1 w1 w2 w3 rfl (by rw [E.1.2.2.1]; exact hl.1) rfl dX3_init_1 (Nat.le_of_ble_eq_true rfl) (Nat.le_of_ble_eq_true rfl) ?_
  refine W.eq (g2 := F0 m 4 ls []) rfl ?_
  refine lv_aload_n hx hb dX3_init_4 rfl (lv_at hl 0 rfl) ?_
  refine mo_gets (i := 2) E rfl hO (by decide) rfl dX3_init_5 ?_
  obtain ⟨f1, e1⟩ : ∃ y, va_up f (k + 1) (.inl (T 0, 7, .inl (mm_st 2)) : va_E) = y := ⟨_, rfl⟩
  refine mo_clone E hl.1.symm hO (by omega) w4 w5 w6 w7 w8 (Nat.le_of_ble_eq_true rfl) (Nat.le_of_ble_eq_true rfl) (Nat.le_of_ble_eq_true rfl) (Nat.le_of_ble_eq_true rfl) e1 dX3_init_8 (fun H hO => ?_)
  have c1_8 := (mm_upn e1 (show k ≠ (k + 1) by omega)).trans hk0
  have c1_9 := mm_ups e1
  have o1_0 : ∀ j, j < k → f1 j = f j := fun j hj => (mm_upn e1 (by omega)).trans (o0_0 j hj)
  refine mo_castI E hO (show (k + 1) < _ by omega) c1_9 w9 dX3_init_11 ?_
  obtain ⟨f2, e2⟩ : ∃ y, va_up f1 k (.inr (3, [.ref (b + (k + 1)), .null, .int 0, .int 0, .int 0, .int 0, .null]) : va_E) = y := ⟨_, rfl⟩
  refine mo_putF (ty := .array .int) E hO hi0 rfl hin3 tyX3_ok nmX3 rfl (show k < _ by omega) c1_8 (j := 0) (by decide) rfl w10 (by decide +kernel) rfl rfl (Nat.le_of_ble_eq_true rfl) e2 dX3_init_14 (fun H locs hO => ?_)
  have c2_14 := (mm_upn e2 (show (k + 1) ≠ k by omega)).trans c1_9
  have c2_15 := mm_ups e2
  have o2_0 : ∀ j, j < k → f2 j = f j := fun j hj => (mm_upn e2 (by omega)).trans (o1_0 j hj)
  refine lv_aload_n hx hb dX3_init_17 rfl (lv_at hl 0 rfl) ?_
  refine lv_bipush (v := 8) hx hb dX3_init_18 (by decide) ?_
  obtain ⟨f3, e3⟩ : ∃ y, va_up f2 (k + 2) (.inl (T 3, 8, .inr (.inr (.inr (.inr (fun _ => none))))) : va_E) = y := ⟨_, rfl⟩
  refine mo_newq (C := RX1) (N' := 8) 3 E hO (by omega) w11 E.2.2.1.2.2.2.2.2.1 rfl (by decide) (by decide) (by decide) (Nat.le_of_ble_eq_true rfl) (Nat.le_of_ble_eq_true rfl) e3 dX3_init_20 (fun H hO => ?_)
  have c3_21 := (mm_upn e3 (show k ≠ (k + 2) by omega)).trans c2_15
  have c3_22 := (mm_upn e3 (show (k + 1) ≠ (k + 2) by omega)).trans c2_14
  have c3_23 := mm_ups e3
  have o3_0 : ∀ j, j < k → f3 j = f j := fun j hj => (mm_upn e3 (by omega)).trans (o2_0 j hj)
  obtain ⟨f4, e4⟩ : ∃ y, va_up f3 k (.inr (3, [.ref (b + (k + 1)), .ref (b + (k + 2)), .int 0, .int 0, .int 0, .int 0, .null]) : va_E) = y := ⟨_, rfl⟩
  refine mo_putF (ty := .array (.object "LandingFines$Landing")) E hO hi0 rfl hin3 tyX3_ok nmX3 rfl (show k < _ by omega) c3_21 (j := 1) (by decide) rfl w12 (by decide +kernel) rfl rfl (Nat.le_of_ble_eq_true rfl) e4 dX3_init_23 (fun H locs hO => ?_)
  have c4_27 := (mm_upn e4 (show (k + 1) ≠ k by omega)).trans c3_22
  have c4_28 := (mm_upn e4 (show (k + 2) ≠ k by omega)).trans c3_23
  have c4_29 := mm_ups e4
  have o4_0 : ∀ j, j < k → f4 j = f j := fun j hj => (mm_upn e4 (by omega)).trans (o3_0 j hj)
  refine lv_aload_n hx hb dX3_init_26 rfl (lv_at hl 0 rfl) ?_
  refine lv_iconst (v := 0) hx hb dX3_init_27 (by decide) ?_
  obtain ⟨f5, e5⟩ : ∃ y, va_up f4 k (.inr (3, [.ref (b + (k + 1)), .ref (b + (k + 2)), .int 0, .int 0, .int 0, .int 0, .null]) : va_E) = y := ⟨_, rfl⟩
  refine mo_put (ty := .int) E hO hin3 tyX3_ok nmX3 rfl (show k < _ by omega) c4_29 (j := 2) (by decide) rfl w13 (by decide +kernel) rfl rfl (Nat.le_of_ble_eq_true rfl) e5 dX3_init_28 (fun H locs hO => ?_)
  have c5_35 := (mm_upn e5 (show (k + 1) ≠ k by omega)).trans c4_27
  have c5_36 := (mm_upn e5 (show (k + 2) ≠ k by omega)).trans c4_28
  have c5_37 := mm_ups e5
  have o5_0 : ∀ j, j < k → f5 j = f j := fun j hj => (mm_upn e5 (by omega)).trans (o4_0 j hj)
  refine lv_aload_n hx hb dX3_init_31 rfl (lv_at hl 0 rfl) ?_
  refine lv_iconst (v := 0) hx hb dX3_init_32 (by decide) ?_
  obtain ⟨f6, e6⟩ : ∃ y, va_up f5 k (.inr (3, [.ref (b + (k + 1)), .ref (b + (k + 2)), .int 0, .int 0, .int 0, .int 0, .null]) : va_E) = y := ⟨_, rfl⟩
  refine mo_put (ty := .int) E hO hin3 tyX3_ok nmX3 rfl (show k < _ by omega) c5_37 (j := 3) (by decide) rfl w14 (by decide +kernel) rfl rfl (Nat.le_of_ble_eq_true rfl) e6 dX3_init_33 (fun H locs hO => ?_)
  have c6_43 := (mm_upn e6 (show (k + 1) ≠ k by omega)).trans c5_35
  have c6_44 := (mm_upn e6 (show (k + 2) ≠ k by omega)).trans c5_36
  have c6_45 := mm_ups e6
  have o6_0 : ∀ j, j < k → f6 j = f j := fun j hj => (mm_upn e6 (by omega)).trans (o5_0 j hj)
  refine lv_aload_n hx hb dX3_init_36 rfl (lv_at hl 0 rfl) ?_
  refine lv_bipush (v := (-6)) hx hb dX3_init_37 (by decide) ?_
  obtain ⟨f7, e7⟩ : ∃ y, va_up f6 k (.inr (3, [.ref (b + (k + 1)), .ref (b + (k + 2)), .int 0, .int 0, .int (-6), .int 0, .null]) : va_E) = y := ⟨_, rfl⟩
  refine mo_put (ty := .int) E hO hin3 tyX3_ok nmX3 rfl (show k < _ by omega) c6_45 (j := 4) (by decide) rfl w15 (by decide +kernel) rfl rfl (Nat.le_of_ble_eq_true rfl) e7 dX3_init_39 (fun H locs hO => ?_)
  have c7_51 := (mm_upn e7 (show (k + 1) ≠ k by omega)).trans c6_43
  have c7_52 := (mm_upn e7 (show (k + 2) ≠ k by omega)).trans c6_44
  have c7_53 := mm_ups e7
  have o7_0 : ∀ j, j < k → f7 j = f j := fun j hj => (mm_upn e7 (by omega)).trans (o6_0 j hj)
  refine lv_aload_n hx hb dX3_init_42 rfl (lv_at hl 0 rfl) ?_
  refine lv_iconst (v := 0) hx hb dX3_init_43 (by decide) ?_
  obtain ⟨f8, e8⟩ : ∃ y, va_up f7 k (.inr (3, [.ref (b + (k + 1)), .ref (b + (k + 2)), .int 0, .int 0, .int (-6), .int 0, .null]) : va_E) = y := ⟨_, rfl⟩
  refine mo_put (ty := .int) E hO hin3 tyX3_ok nmX3 rfl (show k < _ by omega) c7_53 (j := 5) (by decide) rfl w16 (by decide +kernel) rfl rfl (Nat.le_of_ble_eq_true rfl) e8 dX3_init_44 (fun H locs hO => ?_)
  have c8_59 := (mm_upn e8 (show (k + 1) ≠ k by omega)).trans c7_51
  have c8_60 := (mm_upn e8 (show (k + 2) ≠ k by omega)).trans c7_52
  have c8_61 := mm_ups e8
  have o8_0 : ∀ j, j < k → f8 j = f j := fun j hj => (mm_upn e8 (by omega)).trans (o7_0 j hj)
  refine lv_aload_n hx hb dX3_init_47 rfl (lv_at hl 0 rfl) ?_
  obtain ⟨f9, e9⟩ : ∃ y, va_up f8 (k + 3) (.inr (0, [.null, .null, .null, .int 0, .int 0]) : va_E) = y := ⟨_, rfl⟩
  refine mo_new (ci := 0) (fs := [.null, .null, .null, .int 0, .int 0]) E hO (by omega) hin0 tyX0_ok rfl w17 w18 w19 (fun j hj => by rcases (show j = 0 ∨ j = 1 ∨ j = 2 ∨ j = 3 ∨ j = 4 by omega) with rfl | rfl | rfl | rfl | rfl <;> rfl) (Nat.le_of_ble_eq_true rfl) (Nat.le_of_ble_eq_true rfl) e9 dX3_init_48 (fun H hO => ?_)
  have c9_66 := (mm_upn e9 (show k ≠ (k + 3) by omega)).trans c8_61
  have c9_67 := (mm_upn e9 (show (k + 1) ≠ (k + 3) by omega)).trans c8_59
  have c9_68 := (mm_upn e9 (show (k + 2) ≠ (k + 3) by omega)).trans c8_60
  have c9_69 := mm_ups e9
  have o9_0 : ∀ j, j < k → f9 j = f j := fun j hj => (mm_upn e9 (by omega)).trans (o8_0 j hj)
  refine lv_dup hx hb dX3_init_51 rfl ?_
  refine mo_sz E hO (by omega) (fun hsz => ?_)
  obtain ⟨f10, e10⟩ : ∃ y, mf_0 T b f9 (k + 3) (k + 4) = y := ⟨_, rfl⟩
  refine mo_go hO (va_runIN (As := []) (rest := [.ref (b + (k + 3)), .ref (b + k)]) ⟨hx, hb, E.1.2.2.1, E.1.2.2.2.1, E.1.2.2.2.2.1⟩ (co_X0_init l G T b z (k + 3) (k + 4) f9 (by omega) c9_69 e10) ⟨va_cnB 0 E.1.2.2.2.2.1 gX3_init_X0_init_n44 rfl rfl rfl E.2.2.1.2.2.1 w19 df_X0_init.2 ⟨Nat.le_of_ble_eq_true rfl, Nat.le_of_ble_eq_true rfl⟩, rfl, w20⟩ ⟨mm_Bo.blind, mo_pre E hO hsz⟩ rfl rfl hl.1 rfl (lv_room (Nat.le_of_ble_eq_true rfl)) dX3_init_52 ⟨Nat.le_of_ble_eq_true rfl, Nat.le_of_ble_eq_true rfl⟩) (fun H locs hO => ?_)
  have c10_75 := (mf0_o e10 (show k ≠ (k + 3) by omega) (show k < (k + 4) by omega)).trans c9_66
  have c10_76 := (mf0_o e10 (show (k + 1) ≠ (k + 3) by omega) (show (k + 1) < (k + 4) by omega)).trans c9_67
  have c10_77 := (mf0_o e10 (show (k + 2) ≠ (k + 3) by omega) (show (k + 2) < (k + 4) by omega)).trans c9_68
  have o10_0 : ∀ j, j < k → f10 j = f j := fun j hj => (mf0_o e10 (by omega) (by omega)).trans (o9_0 j hj)
  have c10_79 : f10 (k + 3) = (.inr (0, [.ref (b + (k + 4)), .ref (b + (k + 5)), .ref (b + (k + 6)), .int 0, .int 0]) : va_E) := mf0_k e10
  have c10_80 : f10 (k + 4) = (.inl (T 0, 20, .inl (fun _ => 0)) : va_E) := mf0_n e10 (by omega) (by omega)
  have c10_81 : f10 (k + 5) = (.inl (T 0, 20, .inl (fun _ => 0)) : va_E) := mf0_n e10 (by omega) (by omega)
  have c10_82 : f10 (k + 6) = (.inl (T 0, 20, .inl (fun _ => 0)) : va_E) := mf0_n e10 (by omega) (by omega)
  obtain ⟨f11, e11⟩ : ∃ y, va_up f10 k (.inr (3, [.ref (b + (k + 1)), .ref (b + (k + 2)), .int 0, .int 0, .int (-6), .int 0, .ref (b + (k + 3))]) : va_E) = y := ⟨_, rfl⟩
  refine mo_putF (ty := .object "LandingFines$Journal") E hO hi0 rfl hin3 tyX3_ok nmX3 rfl (show k < _ by omega) c10_75 (j := 6) (by decide) rfl w21 (by decide +kernel) rfl rfl (Nat.le_of_ble_eq_true rfl) e11 dX3_init_55 (fun H locs hO => ?_)
  have c11_85 := (mm_upn e11 (show (k + 1) ≠ k by omega)).trans c10_76
  have c11_86 := (mm_upn e11 (show (k + 2) ≠ k by omega)).trans c10_77
  have c11_87 := (mm_upn e11 (show (k + 3) ≠ k by omega)).trans c10_79
  have c11_88 := (mm_upn e11 (show (k + 4) ≠ k by omega)).trans c10_80
  have c11_89 := (mm_upn e11 (show (k + 5) ≠ k by omega)).trans c10_81
  have c11_90 := (mm_upn e11 (show (k + 6) ≠ k by omega)).trans c10_82
  have c11_91 := mm_ups e11
  have o11_0 : ∀ j, j < k → f11 j = f j := fun j hj => (mm_upn e11 (by omega)).trans (o10_0 j hj)
  refine lv_iconst (v := 0) hx hb dX3_init_58 (by decide) ?_
  refine lv_istore_n (lv' := [(1, .int 0), (0, .ref (b + k))]) hx hb dX3_init_59 rfl hl (by decide) rfl (fun ls hl => ?_)
  refine lv_iload_n hx hb dX3_init_60 rfl (lv_at hl 0 rfl) ?_
  refine lv_aload_n hx hb dX3_init_61 rfl (lv_at hl 1 rfl) ?_
  refine mo_get (v := .ref (b + (k + 2))) E hO hin3 rfl (show k < _ by omega) c11_91 (j := 1) (by decide) rfl w12 rfl dX3_init_62 ?_
  refine mo_alen (v := 8) E hO (show (k + 2) < _ by omega) c11_86 3 rfl rfl dX3_init_65 ?_
  refine lv_icmp_ge (tgt := 88) hx hb dX3_init_66 (by decide) (fun c => absurd c (by decide)) (fun _ => ?_)
  refine lv_aload_n hx hb dX3_init_69 rfl (lv_at hl 1 rfl) ?_
  refine mo_get (v := .ref (b + (k + 2))) E hO hin3 rfl (show k < _ by omega) c11_91 (j := 1) (by decide) rfl w12 rfl dX3_init_70 ?_
  refine lv_iload_n hx hb dX3_init_73 rfl (lv_at hl 0 rfl) ?_
  obtain ⟨f12, e12⟩ : ∃ y, va_up f11 (k + 7) (.inr (1, [.int 0, .int 0, .int 0, .int 0, .int 0, .int 0, .int 0, .int 0]) : va_E) = y := ⟨_, rfl⟩
  refine mo_new (ci := 1) (fs := [.int 0, .int 0, .int 0, .int 0, .int 0, .int 0, .int 0, .int 0]) E hO (by omega) hin1 tyX1_ok rfl w11 w22 w23 (fun j hj => by rcases (show j = 0 ∨ j = 1 ∨ j = 2 ∨ j = 3 ∨ j = 4 ∨ j = 5 ∨ j = 6 ∨ j = 7 by omega) with rfl | rfl | rfl | rfl | rfl | rfl | rfl | rfl <;> rfl) (Nat.le_of_ble_eq_true rfl) (Nat.le_of_ble_eq_true rfl) e12 dX3_init_74 (fun H hO => ?_)
  have c12_105 := (mm_upn e12 (show k ≠ (k + 7) by omega)).trans c11_91
  have c12_106 := (mm_upn e12 (show (k + 1) ≠ (k + 7) by omega)).trans c11_85
  have c12_107 := (mm_upn e12 (show (k + 2) ≠ (k + 7) by omega)).trans c11_86
  have c12_108 := (mm_upn e12 (show (k + 3) ≠ (k + 7) by omega)).trans c11_87
  have c12_109 := (mm_upn e12 (show (k + 4) ≠ (k + 7) by omega)).trans c11_88
  have c12_110 := (mm_upn e12 (show (k + 5) ≠ (k + 7) by omega)).trans c11_89
  have c12_111 := (mm_upn e12 (show (k + 6) ≠ (k + 7) by omega)).trans c11_90
  have c12_112 := mm_ups e12
  have o12_0 : ∀ j, j < k → f12 j = f j := fun j hj => (mm_upn e12 (by omega)).trans (o11_0 j hj)
  refine lv_dup hx hb dX3_init_77 rfl ?_
  refine mo_sz E hO (by omega) (fun hsz => ?_)
  refine mo_go hO (va_runIN (As := []) (rest := [.ref (b + (k + 7)), .int 0, .ref (b + (k + 2))]) ⟨hx, hb, E.1.2.2.1, E.1.2.2.2.1, E.1.2.2.2.2.1⟩ (co_X1_init l G T b z (k + 7) (k + 8) f12) ⟨va_cnB 0 E.1.2.2.2.2.1 gX3_init_X1_init_n49 rfl rfl rfl E.2.2.1.2.2.2.1 w23 df_X1_init.2 ⟨Nat.le_of_ble_eq_true rfl, Nat.le_of_ble_eq_true rfl⟩, rfl, w24⟩ ⟨mm_Bo.blind, mo_pre E hO hsz⟩ rfl rfl hl.1 rfl (lv_room (Nat.le_of_ble_eq_true rfl)) dX3_init_78 ⟨Nat.le_of_ble_eq_true rfl, Nat.le_of_ble_eq_true rfl⟩) (fun H locs hO => ?_)
  obtain ⟨f13, e13⟩ : ∃ y, va_up f12 (k + 2) (.inl (T 3, 8, .inr (.inr (.inr (.inr (va_up (fun _ => none) 0 (some (b + (k + 7)))))))) : va_E) = y := ⟨_, rfl⟩
  refine mo_aast (jn := 0) (ci := 1) (r := (RX1, TX1, 8)) 3 E hO (show (k + 2) < _ by omega) c12_107 rfl (show (k + 7) < _ by omega) c12_112 rfl (by decide) (by decide) e13 dX3_init_81 (fun H locs hO => ?_)
  have c13_119 := (mm_upn e13 (show k ≠ (k + 2) by omega)).trans c12_105
  have c13_120 := (mm_upn e13 (show (k + 1) ≠ (k + 2) by omega)).trans c12_106
  have c13_121 := (mm_upn e13 (show (k + 3) ≠ (k + 2) by omega)).trans c12_108
  have c13_122 := (mm_upn e13 (show (k + 4) ≠ (k + 2) by omega)).trans c12_109
  have c13_123 := (mm_upn e13 (show (k + 5) ≠ (k + 2) by omega)).trans c12_110
  have c13_124 := (mm_upn e13 (show (k + 6) ≠ (k + 2) by omega)).trans c12_111
  have c13_125 := (mm_upn e13 (show (k + 7) ≠ (k + 2) by omega)).trans c12_112
  have c13_126 := mm_ups e13
  have o13_0 : ∀ j, j < k → f13 j = f j := fun j hj => (mm_upn e13 (by omega)).trans (o12_0 j hj)
  refine lv_iinc (v := 1) (lv' := [(1, .int 1), (0, .ref (b + k))]) hx hb dX3_init_82 hl (k := 0) rfl (by decide) (by decide) rfl (fun ls hl => ?_)
  refine lv_goto (tgt := 60) hx hb dX3_init_85 (by decide) ?_
  refine lv_iload_n hx hb dX3_init_60 rfl (lv_at hl 0 rfl) ?_
  refine lv_aload_n hx hb dX3_init_61 rfl (lv_at hl 1 rfl) ?_
  refine mo_get (v := .ref (b + (k + 2))) E hO hin3 rfl (show k < _ by omega) c13_119 (j := 1) (by decide) rfl w12 rfl dX3_init_62 ?_
  refine mo_alen (v := 8) E hO (show (k + 2) < _ by omega) c13_126 3 rfl rfl dX3_init_65 ?_
  refine lv_icmp_ge (tgt := 88) hx hb dX3_init_66 (by decide) (fun c => absurd c (by decide)) (fun _ => ?_)
  refine lv_aload_n hx hb dX3_init_69 rfl (lv_at hl 1 rfl) ?_
  refine mo_get (v := .ref (b + (k + 2))) E hO hin3 rfl (show k < _ by omega) c13_119 (j := 1) (by decide) rfl w12 rfl dX3_init_70 ?_
  refine lv_iload_n hx hb dX3_init_73 rfl (lv_at hl 0 rfl) ?_
  obtain ⟨f14, e14⟩ : ∃ y, va_up f13 (k + 8) (.inr (1, [.int 0, .int 0, .int 0, .int 0, .int 0, .int 0, .int 0, .int 0]) : va_E) = y := ⟨_, rfl⟩
  refine mo_new (ci := 1) (fs := [.int 0, .int 0, .int 0, .int 0, .int 0, .int 0, .int 0, .int 0]) E hO (by omega) hin1 tyX1_ok rfl w11 w22 w23 (fun j hj => by rcases (show j = 0 ∨ j = 1 ∨ j = 2 ∨ j = 3 ∨ j = 4 ∨ j = 5 ∨ j = 6 ∨ j = 7 by omega) with rfl | rfl | rfl | rfl | rfl | rfl | rfl | rfl <;> rfl) (Nat.le_of_ble_eq_true rfl) (Nat.le_of_ble_eq_true rfl) e14 dX3_init_74 (fun H hO => ?_)
  have c14_140 := (mm_upn e14 (show k ≠ (k + 8) by omega)).trans c13_119
  have c14_141 := (mm_upn e14 (show (k + 1) ≠ (k + 8) by omega)).trans c13_120
  have c14_142 := (mm_upn e14 (show (k + 2) ≠ (k + 8) by omega)).trans c13_126
  have c14_143 := (mm_upn e14 (show (k + 3) ≠ (k + 8) by omega)).trans c13_121
  have c14_144 := (mm_upn e14 (show (k + 4) ≠ (k + 8) by omega)).trans c13_122
  have c14_145 := (mm_upn e14 (show (k + 5) ≠ (k + 8) by omega)).trans c13_123
  have c14_146 := (mm_upn e14 (show (k + 6) ≠ (k + 8) by omega)).trans c13_124
  have c14_147 := (mm_upn e14 (show (k + 7) ≠ (k + 8) by omega)).trans c13_125
  have c14_148 := mm_ups e14
  have o14_0 : ∀ j, j < k → f14 j = f j := fun j hj => (mm_upn e14 (by omega)).trans (o13_0 j hj)
  refine lv_dup hx hb dX3_init_77 rfl ?_
  refine mo_sz E hO (by omega) (fun hsz => ?_)
  refine mo_go hO (va_runIN (As := []) (rest := [.ref (b + (k + 8)), .int 1, .ref (b + (k + 2))]) ⟨hx, hb, E.1.2.2.1, E.1.2.2.2.1, E.1.2.2.2.2.1⟩ (co_X1_init l G T b z (k + 8) (k + 9) f14) ⟨va_cnB 0 E.1.2.2.2.2.1 gX3_init_X1_init_n49 rfl rfl rfl E.2.2.1.2.2.2.1 w23 df_X1_init.2 ⟨Nat.le_of_ble_eq_true rfl, Nat.le_of_ble_eq_true rfl⟩, rfl, w24⟩ ⟨mm_Bo.blind, mo_pre E hO hsz⟩ rfl rfl hl.1 rfl (lv_room (Nat.le_of_ble_eq_true rfl)) dX3_init_78 ⟨Nat.le_of_ble_eq_true rfl, Nat.le_of_ble_eq_true rfl⟩) (fun H locs hO => ?_)
  obtain ⟨f15, e15⟩ : ∃ y, va_up f14 (k + 2) (.inl (T 3, 8, .inr (.inr (.inr (.inr (va_up (va_up (fun _ => none) 0 (some (b + (k + 7)))) 1 (some (b + (k + 8)))))))) : va_E) = y := ⟨_, rfl⟩
  refine mo_aast (jn := 1) (ci := 1) (r := (RX1, TX1, 8)) 3 E hO (show (k + 2) < _ by omega) c14_142 rfl (show (k + 8) < _ by omega) c14_148 rfl (by decide) (by decide) e15 dX3_init_81 (fun H locs hO => ?_)
  have c15_155 := (mm_upn e15 (show k ≠ (k + 2) by omega)).trans c14_140
  have c15_156 := (mm_upn e15 (show (k + 1) ≠ (k + 2) by omega)).trans c14_141
  have c15_157 := (mm_upn e15 (show (k + 3) ≠ (k + 2) by omega)).trans c14_143
  have c15_158 := (mm_upn e15 (show (k + 4) ≠ (k + 2) by omega)).trans c14_144
  have c15_159 := (mm_upn e15 (show (k + 5) ≠ (k + 2) by omega)).trans c14_145
  have c15_160 := (mm_upn e15 (show (k + 6) ≠ (k + 2) by omega)).trans c14_146
  have c15_161 := (mm_upn e15 (show (k + 7) ≠ (k + 2) by omega)).trans c14_147
  have c15_162 := (mm_upn e15 (show (k + 8) ≠ (k + 2) by omega)).trans c14_148
  have c15_163 := mm_ups e15
  have o15_0 : ∀ j, j < k → f15 j = f j := fun j hj => (mm_upn e15 (by omega)).trans (o14_0 j hj)
  refine lv_iinc (v := 2) (lv' := [(1, .int 2), (0, .ref (b + k))]) hx hb dX3_init_82 hl (k := 0) rfl (by decide) (by decide) rfl (fun ls hl => ?_)
  refine lv_goto (tgt := 60) hx hb dX3_init_85 (by decide) ?_
  refine lv_iload_n hx hb dX3_init_60 rfl (lv_at hl 0 rfl) ?_
  refine lv_aload_n hx hb dX3_init_61 rfl (lv_at hl 1 rfl) ?_
  refine mo_get (v := .ref (b + (k + 2))) E hO hin3 rfl (show k < _ by omega) c15_155 (j := 1) (by decide) rfl w12 rfl dX3_init_62 ?_
  refine mo_alen (v := 8) E hO (show (k + 2) < _ by omega) c15_163 3 rfl rfl dX3_init_65 ?_
  refine lv_icmp_ge (tgt := 88) hx hb dX3_init_66 (by decide) (fun c => absurd c (by decide)) (fun _ => ?_)
  refine lv_aload_n hx hb dX3_init_69 rfl (lv_at hl 1 rfl) ?_
  refine mo_get (v := .ref (b + (k + 2))) E hO hin3 rfl (show k < _ by omega) c15_155 (j := 1) (by decide) rfl w12 rfl dX3_init_70 ?_
  refine lv_iload_n hx hb dX3_init_73 rfl (lv_at hl 0 rfl) ?_
  obtain ⟨f16, e16⟩ : ∃ y, va_up f15 (k + 9) (.inr (1, [.int 0, .int 0, .int 0, .int 0, .int 0, .int 0, .int 0, .int 0]) : va_E) = y := ⟨_, rfl⟩
  refine mo_new (ci := 1) (fs := [.int 0, .int 0, .int 0, .int 0, .int 0, .int 0, .int 0, .int 0]) E hO (by omega) hin1 tyX1_ok rfl w11 w22 w23 (fun j hj => by rcases (show j = 0 ∨ j = 1 ∨ j = 2 ∨ j = 3 ∨ j = 4 ∨ j = 5 ∨ j = 6 ∨ j = 7 by omega) with rfl | rfl | rfl | rfl | rfl | rfl | rfl | rfl <;> rfl) (Nat.le_of_ble_eq_true rfl) (Nat.le_of_ble_eq_true rfl) e16 dX3_init_74 (fun H hO => ?_)
  have c16_177 := (mm_upn e16 (show k ≠ (k + 9) by omega)).trans c15_155
  have c16_178 := (mm_upn e16 (show (k + 1) ≠ (k + 9) by omega)).trans c15_156
  have c16_179 := (mm_upn e16 (show (k + 2) ≠ (k + 9) by omega)).trans c15_163
  have c16_180 := (mm_upn e16 (show (k + 3) ≠ (k + 9) by omega)).trans c15_157
  have c16_181 := (mm_upn e16 (show (k + 4) ≠ (k + 9) by omega)).trans c15_158
  have c16_182 := (mm_upn e16 (show (k + 5) ≠ (k + 9) by omega)).trans c15_159
  have c16_183 := (mm_upn e16 (show (k + 6) ≠ (k + 9) by omega)).trans c15_160
  have c16_184 := (mm_upn e16 (show (k + 7) ≠ (k + 9) by omega)).trans c15_161
  have c16_185 := (mm_upn e16 (show (k + 8) ≠ (k + 9) by omega)).trans c15_162
  have c16_186 := mm_ups e16
  have o16_0 : ∀ j, j < k → f16 j = f j := fun j hj => (mm_upn e16 (by omega)).trans (o15_0 j hj)
  refine lv_dup hx hb dX3_init_77 rfl ?_
  refine mo_sz E hO (by omega) (fun hsz => ?_)
  refine mo_go hO (va_runIN (As := []) (rest := [.ref (b + (k + 9)), .int 2, .ref (b + (k + 2))]) ⟨hx, hb, E.1.2.2.1, E.1.2.2.2.1, E.1.2.2.2.2.1⟩ (co_X1_init l G T b z (k + 9) (k + 10) f16) ⟨va_cnB 0 E.1.2.2.2.2.1 gX3_init_X1_init_n49 rfl rfl rfl E.2.2.1.2.2.2.1 w23 df_X1_init.2 ⟨Nat.le_of_ble_eq_true rfl, Nat.le_of_ble_eq_true rfl⟩, rfl, w24⟩ ⟨mm_Bo.blind, mo_pre E hO hsz⟩ rfl rfl hl.1 rfl (lv_room (Nat.le_of_ble_eq_true rfl)) dX3_init_78 ⟨Nat.le_of_ble_eq_true rfl, Nat.le_of_ble_eq_true rfl⟩) (fun H locs hO => ?_)
  obtain ⟨f17, e17⟩ : ∃ y, va_up f16 (k + 2) (.inl (T 3, 8, .inr (.inr (.inr (.inr (va_up (va_up (va_up (fun _ => none) 0 (some (b + (k + 7)))) 1 (some (b + (k + 8)))) 2 (some (b + (k + 9)))))))) : va_E) = y := ⟨_, rfl⟩
  refine mo_aast (jn := 2) (ci := 1) (r := (RX1, TX1, 8)) 3 E hO (show (k + 2) < _ by omega) c16_179 rfl (show (k + 9) < _ by omega) c16_186 rfl (by decide) (by decide) e17 dX3_init_81 (fun H locs hO => ?_)
  have c17_193 := (mm_upn e17 (show k ≠ (k + 2) by omega)).trans c16_177
  have c17_194 := (mm_upn e17 (show (k + 1) ≠ (k + 2) by omega)).trans c16_178
  have c17_195 := (mm_upn e17 (show (k + 3) ≠ (k + 2) by omega)).trans c16_180
  have c17_196 := (mm_upn e17 (show (k + 4) ≠ (k + 2) by omega)).trans c16_181
  have c17_197 := (mm_upn e17 (show (k + 5) ≠ (k + 2) by omega)).trans c16_182
  have c17_198 := (mm_upn e17 (show (k + 6) ≠ (k + 2) by omega)).trans c16_183
  have c17_199 := (mm_upn e17 (show (k + 7) ≠ (k + 2) by omega)).trans c16_184
  have c17_200 := (mm_upn e17 (show (k + 8) ≠ (k + 2) by omega)).trans c16_185
  have c17_201 := (mm_upn e17 (show (k + 9) ≠ (k + 2) by omega)).trans c16_186
  have c17_202 := mm_ups e17
  have o17_0 : ∀ j, j < k → f17 j = f j := fun j hj => (mm_upn e17 (by omega)).trans (o16_0 j hj)
  refine lv_iinc (v := 3) (lv' := [(1, .int 3), (0, .ref (b + k))]) hx hb dX3_init_82 hl (k := 0) rfl (by decide) (by decide) rfl (fun ls hl => ?_)
  refine lv_goto (tgt := 60) hx hb dX3_init_85 (by decide) ?_
  refine lv_iload_n hx hb dX3_init_60 rfl (lv_at hl 0 rfl) ?_
  refine lv_aload_n hx hb dX3_init_61 rfl (lv_at hl 1 rfl) ?_
  refine mo_get (v := .ref (b + (k + 2))) E hO hin3 rfl (show k < _ by omega) c17_193 (j := 1) (by decide) rfl w12 rfl dX3_init_62 ?_
  refine mo_alen (v := 8) E hO (show (k + 2) < _ by omega) c17_202 3 rfl rfl dX3_init_65 ?_
  refine lv_icmp_ge (tgt := 88) hx hb dX3_init_66 (by decide) (fun c => absurd c (by decide)) (fun _ => ?_)
  refine lv_aload_n hx hb dX3_init_69 rfl (lv_at hl 1 rfl) ?_
  refine mo_get (v := .ref (b + (k + 2))) E hO hin3 rfl (show k < _ by omega) c17_193 (j := 1) (by decide) rfl w12 rfl dX3_init_70 ?_
  refine lv_iload_n hx hb dX3_init_73 rfl (lv_at hl 0 rfl) ?_
  obtain ⟨f18, e18⟩ : ∃ y, va_up f17 (k + 10) (.inr (1, [.int 0, .int 0, .int 0, .int 0, .int 0, .int 0, .int 0, .int 0]) : va_E) = y := ⟨_, rfl⟩
  refine mo_new (ci := 1) (fs := [.int 0, .int 0, .int 0, .int 0, .int 0, .int 0, .int 0, .int 0]) E hO (by omega) hin1 tyX1_ok rfl w11 w22 w23 (fun j hj => by rcases (show j = 0 ∨ j = 1 ∨ j = 2 ∨ j = 3 ∨ j = 4 ∨ j = 5 ∨ j = 6 ∨ j = 7 by omega) with rfl | rfl | rfl | rfl | rfl | rfl | rfl | rfl <;> rfl) (Nat.le_of_ble_eq_true rfl) (Nat.le_of_ble_eq_true rfl) e18 dX3_init_74 (fun H hO => ?_)
  have c18_216 := (mm_upn e18 (show k ≠ (k + 10) by omega)).trans c17_193
  have c18_217 := (mm_upn e18 (show (k + 1) ≠ (k + 10) by omega)).trans c17_194
  have c18_218 := (mm_upn e18 (show (k + 2) ≠ (k + 10) by omega)).trans c17_202
  have c18_219 := (mm_upn e18 (show (k + 3) ≠ (k + 10) by omega)).trans c17_195
  have c18_220 := (mm_upn e18 (show (k + 4) ≠ (k + 10) by omega)).trans c17_196
  have c18_221 := (mm_upn e18 (show (k + 5) ≠ (k + 10) by omega)).trans c17_197
  have c18_222 := (mm_upn e18 (show (k + 6) ≠ (k + 10) by omega)).trans c17_198
  have c18_223 := (mm_upn e18 (show (k + 7) ≠ (k + 10) by omega)).trans c17_199
  have c18_224 := (mm_upn e18 (show (k + 8) ≠ (k + 10) by omega)).trans c17_200
  have c18_225 := (mm_upn e18 (show (k + 9) ≠ (k + 10) by omega)).trans c17_201
  have c18_226 := mm_ups e18
  have o18_0 : ∀ j, j < k → f18 j = f j := fun j hj => (mm_upn e18 (by omega)).trans (o17_0 j hj)
  refine lv_dup hx hb dX3_init_77 rfl ?_
  refine mo_sz E hO (by omega) (fun hsz => ?_)
  refine mo_go hO (va_runIN (As := []) (rest := [.ref (b + (k + 10)), .int 3, .ref (b + (k + 2))]) ⟨hx, hb, E.1.2.2.1, E.1.2.2.2.1, E.1.2.2.2.2.1⟩ (co_X1_init l G T b z (k + 10) (k + 11) f18) ⟨va_cnB 0 E.1.2.2.2.2.1 gX3_init_X1_init_n49 rfl rfl rfl E.2.2.1.2.2.2.1 w23 df_X1_init.2 ⟨Nat.le_of_ble_eq_true rfl, Nat.le_of_ble_eq_true rfl⟩, rfl, w24⟩ ⟨mm_Bo.blind, mo_pre E hO hsz⟩ rfl rfl hl.1 rfl (lv_room (Nat.le_of_ble_eq_true rfl)) dX3_init_78 ⟨Nat.le_of_ble_eq_true rfl, Nat.le_of_ble_eq_true rfl⟩) (fun H locs hO => ?_)
  obtain ⟨f19, e19⟩ : ∃ y, va_up f18 (k + 2) (.inl (T 3, 8, .inr (.inr (.inr (.inr (va_up (va_up (va_up (va_up (fun _ => none) 0 (some (b + (k + 7)))) 1 (some (b + (k + 8)))) 2 (some (b + (k + 9)))) 3 (some (b + (k + 10)))))))) : va_E) = y := ⟨_, rfl⟩
  refine mo_aast (jn := 3) (ci := 1) (r := (RX1, TX1, 8)) 3 E hO (show (k + 2) < _ by omega) c18_218 rfl (show (k + 10) < _ by omega) c18_226 rfl (by decide) (by decide) e19 dX3_init_81 (fun H locs hO => ?_)
  have c19_233 := (mm_upn e19 (show k ≠ (k + 2) by omega)).trans c18_216
  have c19_234 := (mm_upn e19 (show (k + 1) ≠ (k + 2) by omega)).trans c18_217
  have c19_235 := (mm_upn e19 (show (k + 3) ≠ (k + 2) by omega)).trans c18_219
  have c19_236 := (mm_upn e19 (show (k + 4) ≠ (k + 2) by omega)).trans c18_220
  have c19_237 := (mm_upn e19 (show (k + 5) ≠ (k + 2) by omega)).trans c18_221
  have c19_238 := (mm_upn e19 (show (k + 6) ≠ (k + 2) by omega)).trans c18_222
  have c19_239 := (mm_upn e19 (show (k + 7) ≠ (k + 2) by omega)).trans c18_223
  have c19_240 := (mm_upn e19 (show (k + 8) ≠ (k + 2) by omega)).trans c18_224
  have c19_241 := (mm_upn e19 (show (k + 9) ≠ (k + 2) by omega)).trans c18_225
  have c19_242 := (mm_upn e19 (show (k + 10) ≠ (k + 2) by omega)).trans c18_226
  have c19_243 := mm_ups e19
  have o19_0 : ∀ j, j < k → f19 j = f j := fun j hj => (mm_upn e19 (by omega)).trans (o18_0 j hj)
  refine lv_iinc (v := 4) (lv' := [(1, .int 4), (0, .ref (b + k))]) hx hb dX3_init_82 hl (k := 0) rfl (by decide) (by decide) rfl (fun ls hl => ?_)
  refine lv_goto (tgt := 60) hx hb dX3_init_85 (by decide) ?_
  refine lv_iload_n hx hb dX3_init_60 rfl (lv_at hl 0 rfl) ?_
  refine lv_aload_n hx hb dX3_init_61 rfl (lv_at hl 1 rfl) ?_
  refine mo_get (v := .ref (b + (k + 2))) E hO hin3 rfl (show k < _ by omega) c19_233 (j := 1) (by decide) rfl w12 rfl dX3_init_62 ?_
  refine mo_alen (v := 8) E hO (show (k + 2) < _ by omega) c19_243 3 rfl rfl dX3_init_65 ?_
  refine lv_icmp_ge (tgt := 88) hx hb dX3_init_66 (by decide) (fun c => absurd c (by decide)) (fun _ => ?_)
  refine lv_aload_n hx hb dX3_init_69 rfl (lv_at hl 1 rfl) ?_
  refine mo_get (v := .ref (b + (k + 2))) E hO hin3 rfl (show k < _ by omega) c19_233 (j := 1) (by decide) rfl w12 rfl dX3_init_70 ?_
  refine lv_iload_n hx hb dX3_init_73 rfl (lv_at hl 0 rfl) ?_
  obtain ⟨f20, e20⟩ : ∃ y, va_up f19 (k + 11) (.inr (1, [.int 0, .int 0, .int 0, .int 0, .int 0, .int 0, .int 0, .int 0]) : va_E) = y := ⟨_, rfl⟩
  refine mo_new (ci := 1) (fs := [.int 0, .int 0, .int 0, .int 0, .int 0, .int 0, .int 0, .int 0]) E hO (by omega) hin1 tyX1_ok rfl w11 w22 w23 (fun j hj => by rcases (show j = 0 ∨ j = 1 ∨ j = 2 ∨ j = 3 ∨ j = 4 ∨ j = 5 ∨ j = 6 ∨ j = 7 by omega) with rfl | rfl | rfl | rfl | rfl | rfl | rfl | rfl <;> rfl) (Nat.le_of_ble_eq_true rfl) (Nat.le_of_ble_eq_true rfl) e20 dX3_init_74 (fun H hO => ?_)
  have c20_257 := (mm_upn e20 (show k ≠ (k + 11) by omega)).trans c19_233
  have c20_258 := (mm_upn e20 (show (k + 1) ≠ (k + 11) by omega)).trans c19_234
  have c20_259 := (mm_upn e20 (show (k + 2) ≠ (k + 11) by omega)).trans c19_243
  have c20_260 := (mm_upn e20 (show (k + 3) ≠ (k + 11) by omega)).trans c19_235
  have c20_261 := (mm_upn e20 (show (k + 4) ≠ (k + 11) by omega)).trans c19_236
  have c20_262 := (mm_upn e20 (show (k + 5) ≠ (k + 11) by omega)).trans c19_237
  have c20_263 := (mm_upn e20 (show (k + 6) ≠ (k + 11) by omega)).trans c19_238
  have c20_264 := (mm_upn e20 (show (k + 7) ≠ (k + 11) by omega)).trans c19_239
  have c20_265 := (mm_upn e20 (show (k + 8) ≠ (k + 11) by omega)).trans c19_240
  have c20_266 := (mm_upn e20 (show (k + 9) ≠ (k + 11) by omega)).trans c19_241
  have c20_267 := (mm_upn e20 (show (k + 10) ≠ (k + 11) by omega)).trans c19_242
  have c20_268 := mm_ups e20
  have o20_0 : ∀ j, j < k → f20 j = f j := fun j hj => (mm_upn e20 (by omega)).trans (o19_0 j hj)
  refine lv_dup hx hb dX3_init_77 rfl ?_
  refine mo_sz E hO (by omega) (fun hsz => ?_)
  refine mo_go hO (va_runIN (As := []) (rest := [.ref (b + (k + 11)), .int 4, .ref (b + (k + 2))]) ⟨hx, hb, E.1.2.2.1, E.1.2.2.2.1, E.1.2.2.2.2.1⟩ (co_X1_init l G T b z (k + 11) (k + 12) f20) ⟨va_cnB 0 E.1.2.2.2.2.1 gX3_init_X1_init_n49 rfl rfl rfl E.2.2.1.2.2.2.1 w23 df_X1_init.2 ⟨Nat.le_of_ble_eq_true rfl, Nat.le_of_ble_eq_true rfl⟩, rfl, w24⟩ ⟨mm_Bo.blind, mo_pre E hO hsz⟩ rfl rfl hl.1 rfl (lv_room (Nat.le_of_ble_eq_true rfl)) dX3_init_78 ⟨Nat.le_of_ble_eq_true rfl, Nat.le_of_ble_eq_true rfl⟩) (fun H locs hO => ?_)
  obtain ⟨f21, e21⟩ : ∃ y, va_up f20 (k + 2) (.inl (T 3, 8, .inr (.inr (.inr (.inr (va_up (va_up (va_up (va_up (va_up (fun _ => none) 0 (some (b + (k + 7)))) 1 (some (b + (k + 8)))) 2 (some (b + (k + 9)))) 3 (some (b + (k + 10)))) 4 (some (b + (k + 11)))))))) : va_E) = y := ⟨_, rfl⟩
  refine mo_aast (jn := 4) (ci := 1) (r := (RX1, TX1, 8)) 3 E hO (show (k + 2) < _ by omega) c20_259 rfl (show (k + 11) < _ by omega) c20_268 rfl (by decide) (by decide) e21 dX3_init_81 (fun H locs hO => ?_)
  have c21_275 := (mm_upn e21 (show k ≠ (k + 2) by omega)).trans c20_257
  have c21_276 := (mm_upn e21 (show (k + 1) ≠ (k + 2) by omega)).trans c20_258
  have c21_277 := (mm_upn e21 (show (k + 3) ≠ (k + 2) by omega)).trans c20_260
  have c21_278 := (mm_upn e21 (show (k + 4) ≠ (k + 2) by omega)).trans c20_261
  have c21_279 := (mm_upn e21 (show (k + 5) ≠ (k + 2) by omega)).trans c20_262
  have c21_280 := (mm_upn e21 (show (k + 6) ≠ (k + 2) by omega)).trans c20_263
  have c21_281 := (mm_upn e21 (show (k + 7) ≠ (k + 2) by omega)).trans c20_264
  have c21_282 := (mm_upn e21 (show (k + 8) ≠ (k + 2) by omega)).trans c20_265
  have c21_283 := (mm_upn e21 (show (k + 9) ≠ (k + 2) by omega)).trans c20_266
  have c21_284 := (mm_upn e21 (show (k + 10) ≠ (k + 2) by omega)).trans c20_267
  have c21_285 := (mm_upn e21 (show (k + 11) ≠ (k + 2) by omega)).trans c20_268
  have c21_286 := mm_ups e21
  have o21_0 : ∀ j, j < k → f21 j = f j := fun j hj => (mm_upn e21 (by omega)).trans (o20_0 j hj)
  refine lv_iinc (v := 5) (lv' := [(1, .int 5), (0, .ref (b + k))]) hx hb dX3_init_82 hl (k := 0) rfl (by decide) (by decide) rfl (fun ls hl => ?_)
  refine lv_goto (tgt := 60) hx hb dX3_init_85 (by decide) ?_
  refine lv_iload_n hx hb dX3_init_60 rfl (lv_at hl 0 rfl) ?_
  refine lv_aload_n hx hb dX3_init_61 rfl (lv_at hl 1 rfl) ?_
  refine mo_get (v := .ref (b + (k + 2))) E hO hin3 rfl (show k < _ by omega) c21_275 (j := 1) (by decide) rfl w12 rfl dX3_init_62 ?_
  refine mo_alen (v := 8) E hO (show (k + 2) < _ by omega) c21_286 3 rfl rfl dX3_init_65 ?_
  refine lv_icmp_ge (tgt := 88) hx hb dX3_init_66 (by decide) (fun c => absurd c (by decide)) (fun _ => ?_)
  refine lv_aload_n hx hb dX3_init_69 rfl (lv_at hl 1 rfl) ?_
  refine mo_get (v := .ref (b + (k + 2))) E hO hin3 rfl (show k < _ by omega) c21_275 (j := 1) (by decide) rfl w12 rfl dX3_init_70 ?_
  refine lv_iload_n hx hb dX3_init_73 rfl (lv_at hl 0 rfl) ?_
  obtain ⟨f22, e22⟩ : ∃ y, va_up f21 (k + 12) (.inr (1, [.int 0, .int 0, .int 0, .int 0, .int 0, .int 0, .int 0, .int 0]) : va_E) = y := ⟨_, rfl⟩
  refine mo_new (ci := 1) (fs := [.int 0, .int 0, .int 0, .int 0, .int 0, .int 0, .int 0, .int 0]) E hO (by omega) hin1 tyX1_ok rfl w11 w22 w23 (fun j hj => by rcases (show j = 0 ∨ j = 1 ∨ j = 2 ∨ j = 3 ∨ j = 4 ∨ j = 5 ∨ j = 6 ∨ j = 7 by omega) with rfl | rfl | rfl | rfl | rfl | rfl | rfl | rfl <;> rfl) (Nat.le_of_ble_eq_true rfl) (Nat.le_of_ble_eq_true rfl) e22 dX3_init_74 (fun H hO => ?_)
  have c22_300 := (mm_upn e22 (show k ≠ (k + 12) by omega)).trans c21_275
  have c22_301 := (mm_upn e22 (show (k + 1) ≠ (k + 12) by omega)).trans c21_276
  have c22_302 := (mm_upn e22 (show (k + 2) ≠ (k + 12) by omega)).trans c21_286
  have c22_303 := (mm_upn e22 (show (k + 3) ≠ (k + 12) by omega)).trans c21_277
  have c22_304 := (mm_upn e22 (show (k + 4) ≠ (k + 12) by omega)).trans c21_278
  have c22_305 := (mm_upn e22 (show (k + 5) ≠ (k + 12) by omega)).trans c21_279
  have c22_306 := (mm_upn e22 (show (k + 6) ≠ (k + 12) by omega)).trans c21_280
  have c22_307 := (mm_upn e22 (show (k + 7) ≠ (k + 12) by omega)).trans c21_281
  have c22_308 := (mm_upn e22 (show (k + 8) ≠ (k + 12) by omega)).trans c21_282
  have c22_309 := (mm_upn e22 (show (k + 9) ≠ (k + 12) by omega)).trans c21_283
  have c22_310 := (mm_upn e22 (show (k + 10) ≠ (k + 12) by omega)).trans c21_284
  have c22_311 := (mm_upn e22 (show (k + 11) ≠ (k + 12) by omega)).trans c21_285
  have c22_312 := mm_ups e22
  have o22_0 : ∀ j, j < k → f22 j = f j := fun j hj => (mm_upn e22 (by omega)).trans (o21_0 j hj)
  refine lv_dup hx hb dX3_init_77 rfl ?_
  refine mo_sz E hO (by omega) (fun hsz => ?_)
  refine mo_go hO (va_runIN (As := []) (rest := [.ref (b + (k + 12)), .int 5, .ref (b + (k + 2))]) ⟨hx, hb, E.1.2.2.1, E.1.2.2.2.1, E.1.2.2.2.2.1⟩ (co_X1_init l G T b z (k + 12) (k + 13) f22) ⟨va_cnB 0 E.1.2.2.2.2.1 gX3_init_X1_init_n49 rfl rfl rfl E.2.2.1.2.2.2.1 w23 df_X1_init.2 ⟨Nat.le_of_ble_eq_true rfl, Nat.le_of_ble_eq_true rfl⟩, rfl, w24⟩ ⟨mm_Bo.blind, mo_pre E hO hsz⟩ rfl rfl hl.1 rfl (lv_room (Nat.le_of_ble_eq_true rfl)) dX3_init_78 ⟨Nat.le_of_ble_eq_true rfl, Nat.le_of_ble_eq_true rfl⟩) (fun H locs hO => ?_)
  obtain ⟨f23, e23⟩ : ∃ y, va_up f22 (k + 2) (.inl (T 3, 8, .inr (.inr (.inr (.inr (va_up (va_up (va_up (va_up (va_up (va_up (fun _ => none) 0 (some (b + (k + 7)))) 1 (some (b + (k + 8)))) 2 (some (b + (k + 9)))) 3 (some (b + (k + 10)))) 4 (some (b + (k + 11)))) 5 (some (b + (k + 12)))))))) : va_E) = y := ⟨_, rfl⟩
  refine mo_aast (jn := 5) (ci := 1) (r := (RX1, TX1, 8)) 3 E hO (show (k + 2) < _ by omega) c22_302 rfl (show (k + 12) < _ by omega) c22_312 rfl (by decide) (by decide) e23 dX3_init_81 (fun H locs hO => ?_)
  have c23_319 := (mm_upn e23 (show k ≠ (k + 2) by omega)).trans c22_300
  have c23_320 := (mm_upn e23 (show (k + 1) ≠ (k + 2) by omega)).trans c22_301
  have c23_321 := (mm_upn e23 (show (k + 3) ≠ (k + 2) by omega)).trans c22_303
  have c23_322 := (mm_upn e23 (show (k + 4) ≠ (k + 2) by omega)).trans c22_304
  have c23_323 := (mm_upn e23 (show (k + 5) ≠ (k + 2) by omega)).trans c22_305
  have c23_324 := (mm_upn e23 (show (k + 6) ≠ (k + 2) by omega)).trans c22_306
  have c23_325 := (mm_upn e23 (show (k + 7) ≠ (k + 2) by omega)).trans c22_307
  have c23_326 := (mm_upn e23 (show (k + 8) ≠ (k + 2) by omega)).trans c22_308
  have c23_327 := (mm_upn e23 (show (k + 9) ≠ (k + 2) by omega)).trans c22_309
  have c23_328 := (mm_upn e23 (show (k + 10) ≠ (k + 2) by omega)).trans c22_310
  have c23_329 := (mm_upn e23 (show (k + 11) ≠ (k + 2) by omega)).trans c22_311
  have c23_330 := (mm_upn e23 (show (k + 12) ≠ (k + 2) by omega)).trans c22_312
  have c23_331 := mm_ups e23
  have o23_0 : ∀ j, j < k → f23 j = f j := fun j hj => (mm_upn e23 (by omega)).trans (o22_0 j hj)
  refine lv_iinc (v := 6) (lv' := [(1, .int 6), (0, .ref (b + k))]) hx hb dX3_init_82 hl (k := 0) rfl (by decide) (by decide) rfl (fun ls hl => ?_)
  refine lv_goto (tgt := 60) hx hb dX3_init_85 (by decide) ?_
  refine lv_iload_n hx hb dX3_init_60 rfl (lv_at hl 0 rfl) ?_
  refine lv_aload_n hx hb dX3_init_61 rfl (lv_at hl 1 rfl) ?_
  refine mo_get (v := .ref (b + (k + 2))) E hO hin3 rfl (show k < _ by omega) c23_319 (j := 1) (by decide) rfl w12 rfl dX3_init_62 ?_
  refine mo_alen (v := 8) E hO (show (k + 2) < _ by omega) c23_331 3 rfl rfl dX3_init_65 ?_
  refine lv_icmp_ge (tgt := 88) hx hb dX3_init_66 (by decide) (fun c => absurd c (by decide)) (fun _ => ?_)
  refine lv_aload_n hx hb dX3_init_69 rfl (lv_at hl 1 rfl) ?_
  refine mo_get (v := .ref (b + (k + 2))) E hO hin3 rfl (show k < _ by omega) c23_319 (j := 1) (by decide) rfl w12 rfl dX3_init_70 ?_
  refine lv_iload_n hx hb dX3_init_73 rfl (lv_at hl 0 rfl) ?_
  obtain ⟨f24, e24⟩ : ∃ y, va_up f23 (k + 13) (.inr (1, [.int 0, .int 0, .int 0, .int 0, .int 0, .int 0, .int 0, .int 0]) : va_E) = y := ⟨_, rfl⟩
  refine mo_new (ci := 1) (fs := [.int 0, .int 0, .int 0, .int 0, .int 0, .int 0, .int 0, .int 0]) E hO (by omega) hin1 tyX1_ok rfl w11 w22 w23 (fun j hj => by rcases (show j = 0 ∨ j = 1 ∨ j = 2 ∨ j = 3 ∨ j = 4 ∨ j = 5 ∨ j = 6 ∨ j = 7 by omega) with rfl | rfl | rfl | rfl | rfl | rfl | rfl | rfl <;> rfl) (Nat.le_of_ble_eq_true rfl) (Nat.le_of_ble_eq_true rfl) e24 dX3_init_74 (fun H hO => ?_)
  have c24_345 := (mm_upn e24 (show k ≠ (k + 13) by omega)).trans c23_319
  have c24_346 := (mm_upn e24 (show (k + 1) ≠ (k + 13) by omega)).trans c23_320
  have c24_347 := (mm_upn e24 (show (k + 2) ≠ (k + 13) by omega)).trans c23_331
  have c24_348 := (mm_upn e24 (show (k + 3) ≠ (k + 13) by omega)).trans c23_321
  have c24_349 := (mm_upn e24 (show (k + 4) ≠ (k + 13) by omega)).trans c23_322
  have c24_350 := (mm_upn e24 (show (k + 5) ≠ (k + 13) by omega)).trans c23_323
  have c24_351 := (mm_upn e24 (show (k + 6) ≠ (k + 13) by omega)).trans c23_324
  have c24_352 := (mm_upn e24 (show (k + 7) ≠ (k + 13) by omega)).trans c23_325
  have c24_353 := (mm_upn e24 (show (k + 8) ≠ (k + 13) by omega)).trans c23_326
  have c24_354 := (mm_upn e24 (show (k + 9) ≠ (k + 13) by omega)).trans c23_327
  have c24_355 := (mm_upn e24 (show (k + 10) ≠ (k + 13) by omega)).trans c23_328
  have c24_356 := (mm_upn e24 (show (k + 11) ≠ (k + 13) by omega)).trans c23_329
  have c24_357 := (mm_upn e24 (show (k + 12) ≠ (k + 13) by omega)).trans c23_330
  have c24_358 := mm_ups e24
  have o24_0 : ∀ j, j < k → f24 j = f j := fun j hj => (mm_upn e24 (by omega)).trans (o23_0 j hj)
  refine lv_dup hx hb dX3_init_77 rfl ?_
  refine mo_sz E hO (by omega) (fun hsz => ?_)
  refine mo_go hO (va_runIN (As := []) (rest := [.ref (b + (k + 13)), .int 6, .ref (b + (k + 2))]) ⟨hx, hb, E.1.2.2.1, E.1.2.2.2.1, E.1.2.2.2.2.1⟩ (co_X1_init l G T b z (k + 13) (k + 14) f24) ⟨va_cnB 0 E.1.2.2.2.2.1 gX3_init_X1_init_n49 rfl rfl rfl E.2.2.1.2.2.2.1 w23 df_X1_init.2 ⟨Nat.le_of_ble_eq_true rfl, Nat.le_of_ble_eq_true rfl⟩, rfl, w24⟩ ⟨mm_Bo.blind, mo_pre E hO hsz⟩ rfl rfl hl.1 rfl (lv_room (Nat.le_of_ble_eq_true rfl)) dX3_init_78 ⟨Nat.le_of_ble_eq_true rfl, Nat.le_of_ble_eq_true rfl⟩) (fun H locs hO => ?_)
  obtain ⟨f25, e25⟩ : ∃ y, va_up f24 (k + 2) (.inl (T 3, 8, .inr (.inr (.inr (.inr (va_up (va_up (va_up (va_up (va_up (va_up (va_up (fun _ => none) 0 (some (b + (k + 7)))) 1 (some (b + (k + 8)))) 2 (some (b + (k + 9)))) 3 (some (b + (k + 10)))) 4 (some (b + (k + 11)))) 5 (some (b + (k + 12)))) 6 (some (b + (k + 13)))))))) : va_E) = y := ⟨_, rfl⟩
  refine mo_aast (jn := 6) (ci := 1) (r := (RX1, TX1, 8)) 3 E hO (show (k + 2) < _ by omega) c24_347 rfl (show (k + 13) < _ by omega) c24_358 rfl (by decide) (by decide) e25 dX3_init_81 (fun H locs hO => ?_)
  have c25_365 := (mm_upn e25 (show k ≠ (k + 2) by omega)).trans c24_345
  have c25_366 := (mm_upn e25 (show (k + 1) ≠ (k + 2) by omega)).trans c24_346
  have c25_367 := (mm_upn e25 (show (k + 3) ≠ (k + 2) by omega)).trans c24_348
  have c25_368 := (mm_upn e25 (show (k + 4) ≠ (k + 2) by omega)).trans c24_349
  have c25_369 := (mm_upn e25 (show (k + 5) ≠ (k + 2) by omega)).trans c24_350
  have c25_370 := (mm_upn e25 (show (k + 6) ≠ (k + 2) by omega)).trans c24_351
  have c25_371 := (mm_upn e25 (show (k + 7) ≠ (k + 2) by omega)).trans c24_352
  have c25_372 := (mm_upn e25 (show (k + 8) ≠ (k + 2) by omega)).trans c24_353
  have c25_373 := (mm_upn e25 (show (k + 9) ≠ (k + 2) by omega)).trans c24_354
  have c25_374 := (mm_upn e25 (show (k + 10) ≠ (k + 2) by omega)).trans c24_355
  have c25_375 := (mm_upn e25 (show (k + 11) ≠ (k + 2) by omega)).trans c24_356
  have c25_376 := (mm_upn e25 (show (k + 12) ≠ (k + 2) by omega)).trans c24_357
  have c25_377 := (mm_upn e25 (show (k + 13) ≠ (k + 2) by omega)).trans c24_358
  have c25_378 := mm_ups e25
  have o25_0 : ∀ j, j < k → f25 j = f j := fun j hj => (mm_upn e25 (by omega)).trans (o24_0 j hj)
  refine lv_iinc (v := 7) (lv' := [(1, .int 7), (0, .ref (b + k))]) hx hb dX3_init_82 hl (k := 0) rfl (by decide) (by decide) rfl (fun ls hl => ?_)
  refine lv_goto (tgt := 60) hx hb dX3_init_85 (by decide) ?_
  refine lv_iload_n hx hb dX3_init_60 rfl (lv_at hl 0 rfl) ?_
  refine lv_aload_n hx hb dX3_init_61 rfl (lv_at hl 1 rfl) ?_
  refine mo_get (v := .ref (b + (k + 2))) E hO hin3 rfl (show k < _ by omega) c25_365 (j := 1) (by decide) rfl w12 rfl dX3_init_62 ?_
  refine mo_alen (v := 8) E hO (show (k + 2) < _ by omega) c25_378 3 rfl rfl dX3_init_65 ?_
  refine lv_icmp_ge (tgt := 88) hx hb dX3_init_66 (by decide) (fun c => absurd c (by decide)) (fun _ => ?_)
  refine lv_aload_n hx hb dX3_init_69 rfl (lv_at hl 1 rfl) ?_
  refine mo_get (v := .ref (b + (k + 2))) E hO hin3 rfl (show k < _ by omega) c25_365 (j := 1) (by decide) rfl w12 rfl dX3_init_70 ?_
  refine lv_iload_n hx hb dX3_init_73 rfl (lv_at hl 0 rfl) ?_
  obtain ⟨f26, e26⟩ : ∃ y, va_up f25 (k + 14) (.inr (1, [.int 0, .int 0, .int 0, .int 0, .int 0, .int 0, .int 0, .int 0]) : va_E) = y := ⟨_, rfl⟩
  refine mo_new (ci := 1) (fs := [.int 0, .int 0, .int 0, .int 0, .int 0, .int 0, .int 0, .int 0]) E hO (by omega) hin1 tyX1_ok rfl w11 w22 w23 (fun j hj => by rcases (show j = 0 ∨ j = 1 ∨ j = 2 ∨ j = 3 ∨ j = 4 ∨ j = 5 ∨ j = 6 ∨ j = 7 by omega) with rfl | rfl | rfl | rfl | rfl | rfl | rfl | rfl <;> rfl) (Nat.le_of_ble_eq_true rfl) (Nat.le_of_ble_eq_true rfl) e26 dX3_init_74 (fun H hO => ?_)
  have c26_392 := (mm_upn e26 (show k ≠ (k + 14) by omega)).trans c25_365
  have c26_393 := (mm_upn e26 (show (k + 1) ≠ (k + 14) by omega)).trans c25_366
  have c26_394 := (mm_upn e26 (show (k + 2) ≠ (k + 14) by omega)).trans c25_378
  have c26_395 := (mm_upn e26 (show (k + 3) ≠ (k + 14) by omega)).trans c25_367
  have c26_396 := (mm_upn e26 (show (k + 4) ≠ (k + 14) by omega)).trans c25_368
  have c26_397 := (mm_upn e26 (show (k + 5) ≠ (k + 14) by omega)).trans c25_369
  have c26_398 := (mm_upn e26 (show (k + 6) ≠ (k + 14) by omega)).trans c25_370
  have c26_399 := (mm_upn e26 (show (k + 7) ≠ (k + 14) by omega)).trans c25_371
  have c26_400 := (mm_upn e26 (show (k + 8) ≠ (k + 14) by omega)).trans c25_372
  have c26_401 := (mm_upn e26 (show (k + 9) ≠ (k + 14) by omega)).trans c25_373
  have c26_402 := (mm_upn e26 (show (k + 10) ≠ (k + 14) by omega)).trans c25_374
  have c26_403 := (mm_upn e26 (show (k + 11) ≠ (k + 14) by omega)).trans c25_375
  have c26_404 := (mm_upn e26 (show (k + 12) ≠ (k + 14) by omega)).trans c25_376
  have c26_405 := (mm_upn e26 (show (k + 13) ≠ (k + 14) by omega)).trans c25_377
  have c26_406 := mm_ups e26
  have o26_0 : ∀ j, j < k → f26 j = f j := fun j hj => (mm_upn e26 (by omega)).trans (o25_0 j hj)
  refine lv_dup hx hb dX3_init_77 rfl ?_
  refine mo_sz E hO (by omega) (fun hsz => ?_)
  refine mo_go hO (va_runIN (As := []) (rest := [.ref (b + (k + 14)), .int 7, .ref (b + (k + 2))]) ⟨hx, hb, E.1.2.2.1, E.1.2.2.2.1, E.1.2.2.2.2.1⟩ (co_X1_init l G T b z (k + 14) (k + 15) f26) ⟨va_cnB 0 E.1.2.2.2.2.1 gX3_init_X1_init_n49 rfl rfl rfl E.2.2.1.2.2.2.1 w23 df_X1_init.2 ⟨Nat.le_of_ble_eq_true rfl, Nat.le_of_ble_eq_true rfl⟩, rfl, w24⟩ ⟨mm_Bo.blind, mo_pre E hO hsz⟩ rfl rfl hl.1 rfl (lv_room (Nat.le_of_ble_eq_true rfl)) dX3_init_78 ⟨Nat.le_of_ble_eq_true rfl, Nat.le_of_ble_eq_true rfl⟩) (fun H locs hO => ?_)
  obtain ⟨f27, e27⟩ : ∃ y, va_up f26 (k + 2) (.inl (T 3, 8, .inr (.inr (.inr (.inr (va_up (va_up (va_up (va_up (va_up (va_up (va_up (va_up (fun _ => none) 0 (some (b + (k + 7)))) 1 (some (b + (k + 8)))) 2 (some (b + (k + 9)))) 3 (some (b + (k + 10)))) 4 (some (b + (k + 11)))) 5 (some (b + (k + 12)))) 6 (some (b + (k + 13)))) 7 (some (b + (k + 14)))))))) : va_E) = y := ⟨_, rfl⟩
  refine mo_aast (jn := 7) (ci := 1) (r := (RX1, TX1, 8)) 3 E hO (show (k + 2) < _ by omega) c26_394 rfl (show (k + 14) < _ by omega) c26_406 rfl (by decide) (by decide) e27 dX3_init_81 (fun H locs hO => ?_)
  have c27_413 := (mm_upn e27 (show k ≠ (k + 2) by omega)).trans c26_392
  have c27_414 := (mm_upn e27 (show (k + 1) ≠ (k + 2) by omega)).trans c26_393
  have c27_415 := (mm_upn e27 (show (k + 3) ≠ (k + 2) by omega)).trans c26_395
  have c27_416 := (mm_upn e27 (show (k + 4) ≠ (k + 2) by omega)).trans c26_396
  have c27_417 := (mm_upn e27 (show (k + 5) ≠ (k + 2) by omega)).trans c26_397
  have c27_418 := (mm_upn e27 (show (k + 6) ≠ (k + 2) by omega)).trans c26_398
  have c27_419 := (mm_upn e27 (show (k + 7) ≠ (k + 2) by omega)).trans c26_399
  have c27_420 := (mm_upn e27 (show (k + 8) ≠ (k + 2) by omega)).trans c26_400
  have c27_421 := (mm_upn e27 (show (k + 9) ≠ (k + 2) by omega)).trans c26_401
  have c27_422 := (mm_upn e27 (show (k + 10) ≠ (k + 2) by omega)).trans c26_402
  have c27_423 := (mm_upn e27 (show (k + 11) ≠ (k + 2) by omega)).trans c26_403
  have c27_424 := (mm_upn e27 (show (k + 12) ≠ (k + 2) by omega)).trans c26_404
  have c27_425 := (mm_upn e27 (show (k + 13) ≠ (k + 2) by omega)).trans c26_405
  have c27_426 := (mm_upn e27 (show (k + 14) ≠ (k + 2) by omega)).trans c26_406
  have c27_427 := mm_ups e27
  have o27_0 : ∀ j, j < k → f27 j = f j := fun j hj => (mm_upn e27 (by omega)).trans (o26_0 j hj)
  refine lv_iinc (v := 8) (lv' := [(1, .int 8), (0, .ref (b + k))]) hx hb dX3_init_82 hl (k := 0) rfl (by decide) (by decide) rfl (fun ls hl => ?_)
  refine lv_goto (tgt := 60) hx hb dX3_init_85 (by decide) ?_
  refine lv_iload_n hx hb dX3_init_60 rfl (lv_at hl 0 rfl) ?_
  refine lv_aload_n hx hb dX3_init_61 rfl (lv_at hl 1 rfl) ?_
  refine mo_get (v := .ref (b + (k + 2))) E hO hin3 rfl (show k < _ by omega) c27_413 (j := 1) (by decide) rfl w12 rfl dX3_init_62 ?_
  refine mo_alen (v := 8) E hO (show (k + 2) < _ by omega) c27_427 3 rfl rfl dX3_init_65 ?_
  refine lv_icmp_ge (tgt := 88) hx hb dX3_init_66 (by decide) (fun _ => ?_) (fun c => absurd (by decide) c)
  refine mo_ret E hO (by omega) rfl ?_ hr hlk dX3_init_88
  intro j hj h
  rcases (show j < k ∨ j = k ∨ j = k + 1 ∨ j = k + 2 ∨ j = k + 3 ∨ j = k + 4 ∨ j = k + 5 ∨ j = k + 6 ∨ j = k + 7 ∨ j = k + 8 ∨ j = k + 9 ∨ j = k + 10 ∨ j = k + 11 ∨ j = k + 12 ∨ j = k + 13 ∨ j = k + 14 by omega) with q | q | q | q | q | q | q | q | q | q | q | q | q | q | q | q
  · rw [mf3_o hf q]; rwa [o27_0 j q] at h
  · subst q; rw [mf3_n hf (by omega), mm_e3 hk, x0_riv hk]; rwa [c27_413] at h
  · subst q; rw [mf3_n hf (by omega), mm_e6 (mm_rv1 hk).1, x0_set (mm_rv1 hk).1 (mm_rv1 hk).2, (mm_rv1 hk).2]; rwa [c27_414] at h
  · subst q; rw [mf3_n hf (by omega), mm_e9 (mm_rv2 hk)]; rw [c27_427] at h; exact mm_atq h (fun j hj => by rcases (show j = 0 ∨ j = 1 ∨ j = 2 ∨ j = 3 ∨ j = 4 ∨ j = 5 ∨ j = 6 ∨ j = 7 by omega) with rfl | rfl | rfl | rfl | rfl | rfl | rfl | rfl <;> rfl)
  · subst q; rw [mf3_n hf (by omega), mm_e0 (mm_rv3 hk), x0_jou (mm_rv3 hk)]; rwa [c27_415] at h
  · subst q; have hj0 := mm_jn1 (mm_rv3 hk); rw [mf3_n hf (by omega), show k + 4 = k + 3 + 1 from rfl, mm_e6 hj0.1, x0_jar hj0.1 hj0.2, hj0.2]; rwa [c27_416] at h
  · subst q; have hj0 := mm_jn2 (mm_rv3 hk); rw [mf3_n hf (by omega), show k + 5 = k + 3 + 2 from rfl, mm_e6 hj0.1, x0_jar hj0.1 hj0.2, hj0.2]; rwa [c27_417] at h
  · subst q; have hj0 := mm_jn3 (mm_rv3 hk); rw [mf3_n hf (by omega), show k + 6 = k + 3 + 3 from rfl, mm_e6 hj0.1, x0_jar hj0.1 hj0.2, hj0.2]; rwa [c27_418] at h
  · subst q; have hj0 := mm_rvl (j := 0) hk (by decide); rw [mf3_n hf (by omega), show k + 7 = k + (7 + 0) from rfl, mm_e1 hj0, x0_lan hj0]; rwa [c27_419] at h
  · subst q; have hj0 := mm_rvl (j := 1) hk (by decide); rw [mf3_n hf (by omega), show k + 8 = k + (7 + 1) from rfl, mm_e1 hj0, x0_lan hj0]; rwa [c27_420] at h
  · subst q; have hj0 := mm_rvl (j := 2) hk (by decide); rw [mf3_n hf (by omega), show k + 9 = k + (7 + 2) from rfl, mm_e1 hj0, x0_lan hj0]; rwa [c27_421] at h
  · subst q; have hj0 := mm_rvl (j := 3) hk (by decide); rw [mf3_n hf (by omega), show k + 10 = k + (7 + 3) from rfl, mm_e1 hj0, x0_lan hj0]; rwa [c27_422] at h
  · subst q; have hj0 := mm_rvl (j := 4) hk (by decide); rw [mf3_n hf (by omega), show k + 11 = k + (7 + 4) from rfl, mm_e1 hj0, x0_lan hj0]; rwa [c27_423] at h
  · subst q; have hj0 := mm_rvl (j := 5) hk (by decide); rw [mf3_n hf (by omega), show k + 12 = k + (7 + 5) from rfl, mm_e1 hj0, x0_lan hj0]; rwa [c27_424] at h
  · subst q; have hj0 := mm_rvl (j := 6) hk (by decide); rw [mf3_n hf (by omega), show k + 13 = k + (7 + 6) from rfl, mm_e1 hj0, x0_lan hj0]; rwa [c27_425] at h
  · subst q; have hj0 := mm_rvl (j := 7) hk (by decide); rw [mf3_n hf (by omega), show k + 14 = k + (7 + 7) from rfl, mm_e1 hj0, x0_lan hj0]; rwa [c27_426] at h
end
section
abbrev rm_X4_init : Room := { frames := 3, cells := 156, slots := 1615, locals := 53 }
theorem df_X4_init : yX4_init.cls = RX4 ∧ yX4_init.cls ≠ "java/lang/invoke/MethodHandle" ∧ yX4_init.cls ≠ "java/lang/invoke/VarHandle" ∧ (parseMethodDescriptor yX4_init.desc).map (fun d => d.parameters.length) = some 0 := by decide +kernel
set_option maxRecDepth 100000 in
set_option maxHeartbeats 8000000 in
theorem co_X4_init (l : Launch) (G : va_G) (T : Nat → ClassId) (b : Nat) (z : Nat → Nat)  (f : Nat → va_E) (hk0 : f 0 = .inr (4, [.null, .null, .int 0, .null, .null, .null, .null])) : mm_Co l yX4_init wsX4_init rm_X4_init G T b z [.ref (b + 0)] 1 f 157 (mm_ent T b mm_x0) 156 1615 := by
  refine mo_start (cc := cX4_init) (maxL := 2) (by decide) rfl rfl (Nat.le_of_ble_eq_true rfl) (fun p e s m below meth c ls E hr hlk hi0 hO hl => ?_)
  have hl : lv_has ls 2 [(0, .ref (b + 0))] := hl
  have hx := E.1.1
  have hb := E.1.2.1
  have w1 := E.1.2.2.2.2.1 (.methodLink RX4 1 objectInit) (by decide +kernel)
  have w2 := E.1.2.2.2.2.1 (.instanceMethod objectInit) (by decide +kernel)
  have w3 := E.1.2.2.2.2.1 (.code objectInit ⟨#[0xb1]⟩ 1 none) (by decide +kernel)
  have w4 := E.1.2.2.2.2.1 (.classLink RX4 7 RX3) (by decide +kernel)
  have w5 := E.1.2.2.2.2.1 (.instantiable RX3 7) (by decide +kernel)
  have w6 := E.1.2.2.2.2.1 (.initialized RX3) (by decide +kernel)
  have w7 := E.1.2.2.2.2.1 (.instanceMethod yX3_init) (by decide +kernel)
  have w8 := E.1.2.2.2.2.1 (.methodLink RX4 9 yX3_init) (by decide +kernel)
  have w9 := E.1.2.2.2.2.1 (.fieldLink RX4 10 "LandingFines" "river" "LLandingFines$River;") (by decide +kernel)
  have w10 := E.1.2.2.2.2.1 (.fieldLink RX4 16 "LandingFines" "history" "[LLandingFines$River;") (by decide +kernel)
  have w11 := E.1.2.2.2.2.1 (.fieldLink RX4 20 "LandingFines" "historySize" "I") (by decide +kernel)
  have w12 := E.1.2.2.2.2.1 (.fieldLink RX4 24 "LandingFines" "slots" "[LLandingFines$River;") (by decide +kernel)
  have w13 := E.1.2.2.2.2.1 (.arrayClass .boolean) (by decide +kernel)
  have w14 := E.1.2.2.2.2.1 (.fieldLink RX4 27 "LandingFines" "slotUsed" "[Z") (by decide +kernel)
  have w15 := E.1.2.2.2.2.1 (.classLink RX4 31 RX2) (by decide +kernel)
  have w16 := E.1.2.2.2.2.1 (.instantiable RX2 6) (by decide +kernel)
  have w17 := E.1.2.2.2.2.1 (.initialized RX2) (by decide +kernel)
  have w18 := E.1.2.2.2.2.1 (.instanceMethod yX2_init) (by decide +kernel)
  have w19 := E.1.2.2.2.2.1 (.fieldLink RX4 34 "LandingFines" "pad" "LLandingFines$Pad;") (by decide +kernel)
  have w20 := E.1.2.2.2.2.1 (.classLink RX4 38 RX1) (by decide +kernel)
  have w21 := E.1.2.2.2.2.1 (.instantiable RX1 8) (by decide +kernel)
  have w22 := E.1.2.2.2.2.1 (.initialized RX1) (by decide +kernel)
  have w23 := E.1.2.2.2.2.1 (.instanceMethod yX1_init) (by decide +kernel)
  have w24 := E.1.2.2.2.2.1 (.fieldLink RX4 41 "LandingFines" "trial" "LLandingFines$Landing;") (by decide +kernel)
  have hin1 : ∀ w ∈ wsX10, w ∈ wsX4_init := by decide +kernel
  have hin2 : ∀ w ∈ wsX20, w ∈ wsX4_init := by decide +kernel
  have hin3 : ∀ w ∈ wsX30, w ∈ wsX4_init := by decide +kernel
  have hin4 : ∀ w ∈ wsX40, w ∈ wsX4_init := by decide +kernel
  refine lv_aload_n hx hb dX4_init_0 rfl (lv_at hl 0 rfl) ?_
  refine W.objInit hx hb E.1.2.2.2.1 w1 w2 w3 rfl (by rw [E.1.2.2.1]; exact hl.1) rfl dX4_init_1 (Nat.le_of_ble_eq_true rfl) (Nat.le_of_ble_eq_true rfl) ?_
  refine W.eq (g2 := F0 m 4 ls []) rfl ?_
  refine lv_aload_n hx hb dX4_init_4 rfl (lv_at hl 0 rfl) ?_
  obtain ⟨f1, e1⟩ : ∃ y, va_up f 1 (.inr (3, [.null, .null, .int 0, .int 0, .int 0, .int 0, .null]) : va_E) = y := ⟨_, rfl⟩
  refine mo_new (ci := 3) (fs := [.null, .null, .int 0, .int 0, .int 0, .int 0, .null]) E hO (by omega) hin3 tyX3_ok rfl w4 w5 w6 (fun j hj => by rcases (show j = 0 ∨ j = 1 ∨ j = 2 ∨ j = 3 ∨ j = 4 ∨ j = 5 ∨ j = 6 by omega) with rfl | rfl | rfl | rfl | rfl | rfl | rfl <;> rfl) (Nat.le_of_ble_eq_true rfl) (Nat.le_of_ble_eq_true rfl) e1 dX4_init_5 (fun H hO => ?_)
  have c1_6 := (mm_upn e1 (show 0 ≠ 1 by omega)).trans hk0
  have c1_7 := mm_ups e1
  refine lv_dup hx hb dX4_init_8 rfl ?_
  refine mo_sz E hO (by omega) (fun hsz => ?_)
  obtain ⟨f2, e2⟩ : ∃ y, mf_3 T b f1 1 = y := ⟨_, rfl⟩
  refine mo_go hO (va_runI (As := []) (rest := [.ref (b + 1), .ref (b + 0)]) ⟨hx, hb, E.1.2.2.1, E.1.2.2.2.1, E.1.2.2.2.2.1⟩ (co_X3_init l G T b z 1 f1 kr_1 c1_7 e2) (cwI 0 E.1.2.2.2.2.1 gX4_init_X3_init rfl rfl rfl w6 w8 w7 rfl df_X3_init.2 ⟨Nat.le_of_ble_eq_true rfl, Nat.le_of_ble_eq_true rfl⟩) ⟨mm_Bo.blind, mo_pre E hO hsz⟩ rfl rfl hl.1 rfl (lv_room (Nat.le_of_ble_eq_true rfl)) dX4_init_9 ⟨Nat.le_of_ble_eq_true rfl, Nat.le_of_ble_eq_true rfl⟩) (fun H locs hO => ?_)
  have c2_12 := (mf3_o e2 (show 0 < 1 by omega)).trans c1_6
  have o2_r : ∀ j, 1 ≤ j ∧ j < 16 → f2 j = mm_ent T b mm_x0 j := fun j hj => mf3_n e2 hj.1
  obtain ⟨f3, e3⟩ : ∃ y, va_up f2 0 (.inr (4, [.ref (b + 1), .null, .int 0, .null, .null, .null, .null]) : va_E) = y := ⟨_, rfl⟩
  refine mo_putF (ty := .object "LandingFines$River") E hO hi0 rfl hin4 tyX4_ok nmX4 rfl (show 0 < _ by omega) c2_12 (j := 0) (by decide) rfl w9 (by decide +kernel) rfl rfl (Nat.le_of_ble_eq_true rfl) e3 dX4_init_12 (fun H locs hO => ?_)
  have c3_16 := mm_ups e3
  have o3_0 : ∀ j, 1 ≤ j ∧ j < 16 → f3 j = mm_ent T b mm_x0 j := fun j hj => (mm_upn e3 (by omega)).trans (o2_r j hj)
  refine lv_aload_n hx hb dX4_init_15 rfl (lv_at hl 0 rfl) ?_
  refine lv_bipush (v := 7) hx hb dX4_init_16 (by decide) ?_
  obtain ⟨f4, e4⟩ : ∃ y, va_up f3 16 (.inl (T 4, 7, .inr (.inr (.inr (.inr (fun _ => none))))) : va_E) = y := ⟨_, rfl⟩
  refine mo_newq (C := RX3) (N' := 7) 4 E hO (by omega) w4 E.2.2.1.2.2.2.2.2.2 rfl (by decide) (by decide) (by decide) (Nat.le_of_ble_eq_true rfl) (Nat.le_of_ble_eq_true rfl) e4 dX4_init_18 (fun H hO => ?_)
  have c4_22 := (mm_upn e4 (show 0 ≠ 16 by omega)).trans c3_16
  have c4_23 := mm_ups e4
  have o4_0 : ∀ j, 1 ≤ j ∧ j < 16 → f4 j = mm_ent T b mm_x0 j := fun j hj => (mm_upn e4 (by omega)).trans (o3_0 j hj)
  obtain ⟨f5, e5⟩ : ∃ y, va_up f4 0 (.inr (4, [.ref (b + 1), .ref (b + 16), .int 0, .null, .null, .null, .null]) : va_E) = y := ⟨_, rfl⟩
  refine mo_putF (ty := .array (.object "LandingFines$River")) E hO hi0 rfl hin4 tyX4_ok nmX4 rfl (show 0 < _ by omega) c4_22 (j := 1) (by decide) rfl w10 (by decide +kernel) rfl rfl (Nat.le_of_ble_eq_true rfl) e5 dX4_init_21 (fun H locs hO => ?_)
  have c5_27 := (mm_upn e5 (show 16 ≠ 0 by omega)).trans c4_23
  have c5_28 := mm_ups e5
  have o5_0 : ∀ j, 1 ≤ j ∧ j < 16 → f5 j = mm_ent T b mm_x0 j := fun j hj => (mm_upn e5 (by omega)).trans (o4_0 j hj)
  refine lv_aload_n hx hb dX4_init_24 rfl (lv_at hl 0 rfl) ?_
  refine lv_iconst (v := 0) hx hb dX4_init_25 (by decide) ?_
  obtain ⟨f6, e6⟩ : ∃ y, va_up f5 0 (.inr (4, [.ref (b + 1), .ref (b + 16), .int 0, .null, .null, .null, .null]) : va_E) = y := ⟨_, rfl⟩
  refine mo_put (ty := .int) E hO hin4 tyX4_ok nmX4 rfl (show 0 < _ by omega) c5_28 (j := 2) (by decide) rfl w11 (by decide +kernel) rfl rfl (Nat.le_of_ble_eq_true rfl) e6 dX4_init_26 (fun H locs hO => ?_)
  have c6_34 := (mm_upn e6 (show 16 ≠ 0 by omega)).trans c5_27
  have c6_35 := mm_ups e6
  have o6_0 : ∀ j, 1 ≤ j ∧ j < 16 → f6 j = mm_ent T b mm_x0 j := fun j hj => (mm_upn e6 (by omega)).trans (o5_0 j hj)
  refine lv_aload_n hx hb dX4_init_29 rfl (lv_at hl 0 rfl) ?_
  refine lv_iconst (v := 2) hx hb dX4_init_30 (by decide) ?_
  obtain ⟨f7, e7⟩ : ∃ y, va_up f6 17 (.inl (T 4, 2, .inr (.inr (.inr (.inr (fun _ => none))))) : va_E) = y := ⟨_, rfl⟩
  refine mo_newq (C := RX3) (N' := 2) 4 E hO (by omega) w4 E.2.2.1.2.2.2.2.2.2 rfl (by decide) (by decide) (by decide) (Nat.le_of_ble_eq_true rfl) (Nat.le_of_ble_eq_true rfl) e7 dX4_init_31 (fun H hO => ?_)
  have c7_41 := (mm_upn e7 (show 0 ≠ 17 by omega)).trans c6_35
  have c7_42 := (mm_upn e7 (show 16 ≠ 17 by omega)).trans c6_34
  have c7_43 := mm_ups e7
  have o7_0 : ∀ j, 1 ≤ j ∧ j < 16 → f7 j = mm_ent T b mm_x0 j := fun j hj => (mm_upn e7 (by omega)).trans (o6_0 j hj)
  obtain ⟨f8, e8⟩ : ∃ y, va_up f7 0 (.inr (4, [.ref (b + 1), .ref (b + 16), .int 0, .ref (b + 17), .null, .null, .null]) : va_E) = y := ⟨_, rfl⟩
  refine mo_putF (ty := .array (.object "LandingFines$River")) E hO hi0 rfl hin4 tyX4_ok nmX4 rfl (show 0 < _ by omega) c7_41 (j := 3) (by decide) rfl w12 (by decide +kernel) rfl rfl (Nat.le_of_ble_eq_true rfl) e8 dX4_init_34 (fun H locs hO => ?_)
  have c8_47 := (mm_upn e8 (show 16 ≠ 0 by omega)).trans c7_42
  have c8_48 := (mm_upn e8 (show 17 ≠ 0 by omega)).trans c7_43
  have c8_49 := mm_ups e8
  have o8_0 : ∀ j, 1 ≤ j ∧ j < 16 → f8 j = mm_ent T b mm_x0 j := fun j hj => (mm_upn e8 (by omega)).trans (o7_0 j hj)
  refine lv_aload_n hx hb dX4_init_37 rfl (lv_at hl 0 rfl) ?_
  refine lv_iconst (v := 2) hx hb dX4_init_38 (by decide) ?_
  obtain ⟨f9, e9⟩ : ∃ y, va_up f8 18 (.inl (T 2, 2, .inl (fun _ => 0)) : va_E) = y := ⟨_, rfl⟩
  refine mo_newa (atype := .boolean) (ty := .boolean) (N' := 2) (a0 := (2, .inl (fun _ => 0))) 2 E hO (by omega) w13 rfl rfl (fun _ => rfl) (by decide) (by decide) (by decide) (Nat.le_of_ble_eq_true rfl) (Nat.le_of_ble_eq_true rfl) e9 dX4_init_39 (fun H hO => ?_)
  have c9_55 := (mm_upn e9 (show 0 ≠ 18 by omega)).trans c8_49
  have c9_56 := (mm_upn e9 (show 16 ≠ 18 by omega)).trans c8_47
  have c9_57 := (mm_upn e9 (show 17 ≠ 18 by omega)).trans c8_48
  have c9_58 := mm_ups e9
  have o9_0 : ∀ j, 1 ≤ j ∧ j < 16 → f9 j = mm_ent T b mm_x0 j := fun j hj => (mm_upn e9 (by omega)).trans (o8_0 j hj)
  obtain ⟨f10, e10⟩ : ∃ y, va_up f9 0 (.inr (4, [.ref (b + 1), .ref (b + 16), .int 0, .ref (b + 17), .ref (b + 18), .null, .null]) : va_E) = y := ⟨_, rfl⟩
  refine mo_putF (ty := .array .boolean) E hO hi0 rfl hin4 tyX4_ok nmX4 rfl (show 0 < _ by omega) c9_55 (j := 4) (by decide) rfl w14 (by decide +kernel) rfl rfl (Nat.le_of_ble_eq_true rfl) e10 dX4_init_41 (fun H locs hO => ?_)
  have c10_62 := (mm_upn e10 (show 16 ≠ 0 by omega)).trans c9_56
  have c10_63 := (mm_upn e10 (show 17 ≠ 0 by omega)).trans c9_57
  have c10_64 := (mm_upn e10 (show 18 ≠ 0 by omega)).trans c9_58
  have c10_65 := mm_ups e10
  have o10_0 : ∀ j, 1 ≤ j ∧ j < 16 → f10 j = mm_ent T b mm_x0 j := fun j hj => (mm_upn e10 (by omega)).trans (o9_0 j hj)
  refine lv_aload_n hx hb dX4_init_44 rfl (lv_at hl 0 rfl) ?_
  obtain ⟨f11, e11⟩ : ∃ y, va_up f10 19 (.inr (2, [.null, .int 0, .int 0, .int 0, .int 0, .int 0]) : va_E) = y := ⟨_, rfl⟩
  refine mo_new (ci := 2) (fs := [.null, .int 0, .int 0, .int 0, .int 0, .int 0]) E hO (by omega) hin2 tyX2_ok rfl w15 w16 w17 (fun j hj => by rcases (show j = 0 ∨ j = 1 ∨ j = 2 ∨ j = 3 ∨ j = 4 ∨ j = 5 by omega) with rfl | rfl | rfl | rfl | rfl | rfl <;> rfl) (Nat.le_of_ble_eq_true rfl) (Nat.le_of_ble_eq_true rfl) e11 dX4_init_45 (fun H hO => ?_)
  have c11_70 := (mm_upn e11 (show 0 ≠ 19 by omega)).trans c10_65
  have c11_71 := (mm_upn e11 (show 16 ≠ 19 by omega)).trans c10_62
  have c11_72 := (mm_upn e11 (show 17 ≠ 19 by omega)).trans c10_63
  have c11_73 := (mm_upn e11 (show 18 ≠ 19 by omega)).trans c10_64
  have c11_74 := mm_ups e11
  have o11_0 : ∀ j, 1 ≤ j ∧ j < 16 → f11 j = mm_ent T b mm_x0 j := fun j hj => (mm_upn e11 (by omega)).trans (o10_0 j hj)
  refine lv_dup hx hb dX4_init_48 rfl ?_
  refine mo_sz E hO (by omega) (fun hsz => ?_)
  obtain ⟨f12, e12⟩ : ∃ y, mf_2 T b f11 19 20 = y := ⟨_, rfl⟩
  refine mo_go hO (va_runIN (As := []) (rest := [.ref (b + 19), .ref (b + 0)]) ⟨hx, hb, E.1.2.2.1, E.1.2.2.2.1, E.1.2.2.2.2.1⟩ (co_X2_init l G T b z 19 20 f11 (by omega) c11_74 e12) ⟨va_cnB 0 E.1.2.2.2.2.1 gX4_init_X2_init_n33 rfl rfl rfl E.2.2.1.1 w17 df_X2_init.2 ⟨Nat.le_of_ble_eq_true rfl, Nat.le_of_ble_eq_true rfl⟩, rfl, w18⟩ ⟨mm_Bo.blind, mo_pre E hO hsz⟩ rfl rfl hl.1 rfl (lv_room (Nat.le_of_ble_eq_true rfl)) dX4_init_49 ⟨Nat.le_of_ble_eq_true rfl, Nat.le_of_ble_eq_true rfl⟩) (fun H locs hO => ?_)
  have c12_80 := (mf2_o e12 (show 0 ≠ 19 by omega) (show 0 < 20 by omega)).trans c11_70
  have c12_81 := (mf2_o e12 (show 16 ≠ 19 by omega) (show 16 < 20 by omega)).trans c11_71
  have c12_82 := (mf2_o e12 (show 17 ≠ 19 by omega) (show 17 < 20 by omega)).trans c11_72
  have c12_83 := (mf2_o e12 (show 18 ≠ 19 by omega) (show 18 < 20 by omega)).trans c11_73
  have o12_0 : ∀ j, 1 ≤ j ∧ j < 16 → f12 j = mm_ent T b mm_x0 j := fun j hj => (mf2_o e12 (by omega) (by omega)).trans (o11_0 j hj)
  have c12_85 : f12 19 = (.inr (2, [.ref (b + 20), .int 0, .int 0, .int 32, .int 0, .int 0]) : va_E) := mf2_k e12
  have c12_86 : f12 20 = (.inl (T 1, 80, .inl (fun _ => 0)) : va_E) := mf2_n e12 (by omega) (by omega)
  obtain ⟨f13, e13⟩ : ∃ y, va_up f12 0 (.inr (4, [.ref (b + 1), .ref (b + 16), .int 0, .ref (b + 17), .ref (b + 18), .ref (b + 19), .null]) : va_E) = y := ⟨_, rfl⟩
  refine mo_putF (ty := .object "LandingFines$Pad") E hO hi0 rfl hin4 tyX4_ok nmX4 rfl (show 0 < _ by omega) c12_80 (j := 5) (by decide) rfl w19 (by decide +kernel) rfl rfl (Nat.le_of_ble_eq_true rfl) e13 dX4_init_52 (fun H locs hO => ?_)
  have c13_89 := (mm_upn e13 (show 16 ≠ 0 by omega)).trans c12_81
  have c13_90 := (mm_upn e13 (show 17 ≠ 0 by omega)).trans c12_82
  have c13_91 := (mm_upn e13 (show 18 ≠ 0 by omega)).trans c12_83
  have c13_92 := (mm_upn e13 (show 19 ≠ 0 by omega)).trans c12_85
  have c13_93 := (mm_upn e13 (show 20 ≠ 0 by omega)).trans c12_86
  have c13_94 := mm_ups e13
  have o13_0 : ∀ j, 1 ≤ j ∧ j < 16 → f13 j = mm_ent T b mm_x0 j := fun j hj => (mm_upn e13 (by omega)).trans (o12_0 j hj)
  refine lv_aload_n hx hb dX4_init_55 rfl (lv_at hl 0 rfl) ?_
  obtain ⟨f14, e14⟩ : ∃ y, va_up f13 21 (.inr (1, [.int 0, .int 0, .int 0, .int 0, .int 0, .int 0, .int 0, .int 0]) : va_E) = y := ⟨_, rfl⟩
  refine mo_new (ci := 1) (fs := [.int 0, .int 0, .int 0, .int 0, .int 0, .int 0, .int 0, .int 0]) E hO (by omega) hin1 tyX1_ok rfl w20 w21 w22 (fun j hj => by rcases (show j = 0 ∨ j = 1 ∨ j = 2 ∨ j = 3 ∨ j = 4 ∨ j = 5 ∨ j = 6 ∨ j = 7 by omega) with rfl | rfl | rfl | rfl | rfl | rfl | rfl | rfl <;> rfl) (Nat.le_of_ble_eq_true rfl) (Nat.le_of_ble_eq_true rfl) e14 dX4_init_56 (fun H hO => ?_)
  have c14_99 := (mm_upn e14 (show 0 ≠ 21 by omega)).trans c13_94
  have c14_100 := (mm_upn e14 (show 16 ≠ 21 by omega)).trans c13_89
  have c14_101 := (mm_upn e14 (show 17 ≠ 21 by omega)).trans c13_90
  have c14_102 := (mm_upn e14 (show 18 ≠ 21 by omega)).trans c13_91
  have c14_103 := (mm_upn e14 (show 19 ≠ 21 by omega)).trans c13_92
  have c14_104 := (mm_upn e14 (show 20 ≠ 21 by omega)).trans c13_93
  have c14_105 := mm_ups e14
  have o14_0 : ∀ j, 1 ≤ j ∧ j < 16 → f14 j = mm_ent T b mm_x0 j := fun j hj => (mm_upn e14 (by omega)).trans (o13_0 j hj)
  refine lv_dup hx hb dX4_init_59 rfl ?_
  refine mo_sz E hO (by omega) (fun hsz => ?_)
  refine mo_go hO (va_runIN (As := []) (rest := [.ref (b + 21), .ref (b + 0)]) ⟨hx, hb, E.1.2.2.1, E.1.2.2.2.1, E.1.2.2.2.2.1⟩ (co_X1_init l G T b z 21 22 f14) ⟨va_cnB 0 E.1.2.2.2.2.1 gX4_init_X1_init_n40 rfl rfl rfl E.2.2.1.2.1 w22 df_X1_init.2 ⟨Nat.le_of_ble_eq_true rfl, Nat.le_of_ble_eq_true rfl⟩, rfl, w23⟩ ⟨mm_Bo.blind, mo_pre E hO hsz⟩ rfl rfl hl.1 rfl (lv_room (Nat.le_of_ble_eq_true rfl)) dX4_init_60 ⟨Nat.le_of_ble_eq_true rfl, Nat.le_of_ble_eq_true rfl⟩) (fun H locs hO => ?_)
  obtain ⟨f15, e15⟩ : ∃ y, va_up f14 0 (.inr (4, [.ref (b + 1), .ref (b + 16), .int 0, .ref (b + 17), .ref (b + 18), .ref (b + 19), .ref (b + 21)]) : va_E) = y := ⟨_, rfl⟩
  refine mo_putF (ty := .object "LandingFines$Landing") E hO hi0 rfl hin4 tyX4_ok nmX4 rfl (show 0 < _ by omega) c14_99 (j := 6) (by decide) rfl w24 (by decide +kernel) rfl rfl (Nat.le_of_ble_eq_true rfl) e15 dX4_init_63 (fun H locs hO => ?_)
  have c15_112 := (mm_upn e15 (show 16 ≠ 0 by omega)).trans c14_100
  have c15_113 := (mm_upn e15 (show 17 ≠ 0 by omega)).trans c14_101
  have c15_114 := (mm_upn e15 (show 18 ≠ 0 by omega)).trans c14_102
  have c15_115 := (mm_upn e15 (show 19 ≠ 0 by omega)).trans c14_103
  have c15_116 := (mm_upn e15 (show 20 ≠ 0 by omega)).trans c14_104
  have c15_117 := (mm_upn e15 (show 21 ≠ 0 by omega)).trans c14_105
  have c15_118 := mm_ups e15
  have o15_0 : ∀ j, 1 ≤ j ∧ j < 16 → f15 j = mm_ent T b mm_x0 j := fun j hj => (mm_upn e15 (by omega)).trans (o14_0 j hj)
  refine lv_iconst (v := 0) hx hb dX4_init_66 (by decide) ?_
  refine lv_istore_n (lv' := [(1, .int 0), (0, .ref (b + 0))]) hx hb dX4_init_67 rfl hl (by decide) rfl (fun ls hl => ?_)
  refine lv_iload_n hx hb dX4_init_68 rfl (lv_at hl 0 rfl) ?_
  refine lv_aload_n hx hb dX4_init_69 rfl (lv_at hl 1 rfl) ?_
  refine mo_get (v := .ref (b + 16)) E hO hin4 rfl (show 0 < _ by omega) c15_118 (j := 1) (by decide) rfl w10 rfl dX4_init_70 ?_
  refine mo_alen (v := 7) E hO (show 16 < _ by omega) c15_112 4 rfl rfl dX4_init_73 ?_
  refine lv_icmp_ge (tgt := 96) hx hb dX4_init_74 (by decide) (fun c => absurd c (by decide)) (fun _ => ?_)
  refine lv_aload_n hx hb dX4_init_77 rfl (lv_at hl 1 rfl) ?_
  refine mo_get (v := .ref (b + 16)) E hO hin4 rfl (show 0 < _ by omega) c15_118 (j := 1) (by decide) rfl w10 rfl dX4_init_78 ?_
  refine lv_iload_n hx hb dX4_init_81 rfl (lv_at hl 0 rfl) ?_
  obtain ⟨f16, e16⟩ : ∃ y, va_up f15 22 (.inr (3, [.null, .null, .int 0, .int 0, .int 0, .int 0, .null]) : va_E) = y := ⟨_, rfl⟩
  refine mo_new (ci := 3) (fs := [.null, .null, .int 0, .int 0, .int 0, .int 0, .null]) E hO (by omega) hin3 tyX3_ok rfl w4 w5 w6 (fun j hj => by rcases (show j = 0 ∨ j = 1 ∨ j = 2 ∨ j = 3 ∨ j = 4 ∨ j = 5 ∨ j = 6 by omega) with rfl | rfl | rfl | rfl | rfl | rfl | rfl <;> rfl) (Nat.le_of_ble_eq_true rfl) (Nat.le_of_ble_eq_true rfl) e16 dX4_init_82 (fun H hO => ?_)
  have c16_132 := (mm_upn e16 (show 0 ≠ 22 by omega)).trans c15_118
  have c16_133 := (mm_upn e16 (show 16 ≠ 22 by omega)).trans c15_112
  have c16_134 := (mm_upn e16 (show 17 ≠ 22 by omega)).trans c15_113
  have c16_135 := (mm_upn e16 (show 18 ≠ 22 by omega)).trans c15_114
  have c16_136 := (mm_upn e16 (show 19 ≠ 22 by omega)).trans c15_115
  have c16_137 := (mm_upn e16 (show 20 ≠ 22 by omega)).trans c15_116
  have c16_138 := (mm_upn e16 (show 21 ≠ 22 by omega)).trans c15_117
  have c16_139 := mm_ups e16
  have o16_0 : ∀ j, 1 ≤ j ∧ j < 16 → f16 j = mm_ent T b mm_x0 j := fun j hj => (mm_upn e16 (by omega)).trans (o15_0 j hj)
  refine lv_dup hx hb dX4_init_85 rfl ?_
  refine mo_sz E hO (by omega) (fun hsz => ?_)
  obtain ⟨f17, e17⟩ : ∃ y, mf_3 T b f16 22 = y := ⟨_, rfl⟩
  refine mo_go hO (va_runI (As := []) (rest := [.ref (b + 22), .int 0, .ref (b + 16)]) ⟨hx, hb, E.1.2.2.1, E.1.2.2.2.1, E.1.2.2.2.2.1⟩ (co_X3_init l G T b z 22 f16 kr_22 c16_139 e17) (cwI 0 E.1.2.2.2.2.1 gX4_init_X3_init rfl rfl rfl w6 w8 w7 rfl df_X3_init.2 ⟨Nat.le_of_ble_eq_true rfl, Nat.le_of_ble_eq_true rfl⟩) ⟨mm_Bo.blind, mo_pre E hO hsz⟩ rfl rfl hl.1 rfl (lv_room (Nat.le_of_ble_eq_true rfl)) dX4_init_86 ⟨Nat.le_of_ble_eq_true rfl, Nat.le_of_ble_eq_true rfl⟩) (fun H locs hO => ?_)
  have c17_145 := (mf3_o e17 (show 0 < 22 by omega)).trans c16_132
  have c17_146 := (mf3_o e17 (show 16 < 22 by omega)).trans c16_133
  have c17_147 := (mf3_o e17 (show 17 < 22 by omega)).trans c16_134
  have c17_148 := (mf3_o e17 (show 18 < 22 by omega)).trans c16_135
  have c17_149 := (mf3_o e17 (show 19 < 22 by omega)).trans c16_136
  have c17_150 := (mf3_o e17 (show 20 < 22 by omega)).trans c16_137
  have c17_151 := (mf3_o e17 (show 21 < 22 by omega)).trans c16_138
  have o17_0 : ∀ j, 1 ≤ j ∧ j < 16 → f17 j = mm_ent T b mm_x0 j := fun j hj => (mf3_o e17 (by omega)).trans (o16_0 j hj)
  have o17_r : ∀ j, 22 ≤ j ∧ j < 37 → f17 j = mm_ent T b mm_x0 j := fun j hj => mf3_n e17 hj.1
  obtain ⟨f18, e18⟩ : ∃ y, va_up f17 16 (.inl (T 4, 7, .inr (.inr (.inr (.inr (va_up (fun _ => none) 0 (some (b + 22))))))) : va_E) = y := ⟨_, rfl⟩
  refine mo_aast (jn := 0) (ci := 3) (r := (RX3, TX3, 7)) 4 E hO (show 16 < _ by omega) c17_146 rfl (show 22 < _ by omega) ((o17_r 22 (by omega)).trans (mm_e3 kr_22)) rfl (by decide) (by decide) e18 dX4_init_89 (fun H locs hO => ?_)
  have c18_156 := (mm_upn e18 (show 0 ≠ 16 by omega)).trans c17_145
  have c18_157 := (mm_upn e18 (show 17 ≠ 16 by omega)).trans c17_147
  have c18_158 := (mm_upn e18 (show 18 ≠ 16 by omega)).trans c17_148
  have c18_159 := (mm_upn e18 (show 19 ≠ 16 by omega)).trans c17_149
  have c18_160 := (mm_upn e18 (show 20 ≠ 16 by omega)).trans c17_150
  have c18_161 := (mm_upn e18 (show 21 ≠ 16 by omega)).trans c17_151
  have c18_162 := mm_ups e18
  have o18_0 : ∀ j, 1 ≤ j ∧ j < 16 → f18 j = mm_ent T b mm_x0 j := fun j hj => (mm_upn e18 (by omega)).trans (o17_0 j hj)
  have o18_1 : ∀ j, 22 ≤ j ∧ j < 37 → f18 j = mm_ent T b mm_x0 j := fun j hj => (mm_upn e18 (by omega)).trans (o17_r j hj)
  refine lv_iinc (v := 1) (lv' := [(1, .int 1), (0, .ref (b + 0))]) hx hb dX4_init_90 hl (k := 0) rfl (by decide) (by decide) rfl (fun ls hl => ?_)
  refine lv_goto (tgt := 68) hx hb dX4_init_93 (by decide) ?_
  refine lv_iload_n hx hb dX4_init_68 rfl (lv_at hl 0 rfl) ?_
  refine lv_aload_n hx hb dX4_init_69 rfl (lv_at hl 1 rfl) ?_
  refine mo_get (v := .ref (b + 16)) E hO hin4 rfl (show 0 < _ by omega) c18_156 (j := 1) (by decide) rfl w10 rfl dX4_init_70 ?_
  refine mo_alen (v := 7) E hO (show 16 < _ by omega) c18_162 4 rfl rfl dX4_init_73 ?_
  refine lv_icmp_ge (tgt := 96) hx hb dX4_init_74 (by decide) (fun c => absurd c (by decide)) (fun _ => ?_)
  refine lv_aload_n hx hb dX4_init_77 rfl (lv_at hl 1 rfl) ?_
  refine mo_get (v := .ref (b + 16)) E hO hin4 rfl (show 0 < _ by omega) c18_156 (j := 1) (by decide) rfl w10 rfl dX4_init_78 ?_
  refine lv_iload_n hx hb dX4_init_81 rfl (lv_at hl 0 rfl) ?_
  obtain ⟨f19, e19⟩ : ∃ y, va_up f18 37 (.inr (3, [.null, .null, .int 0, .int 0, .int 0, .int 0, .null]) : va_E) = y := ⟨_, rfl⟩
  refine mo_new (ci := 3) (fs := [.null, .null, .int 0, .int 0, .int 0, .int 0, .null]) E hO (by omega) hin3 tyX3_ok rfl w4 w5 w6 (fun j hj => by rcases (show j = 0 ∨ j = 1 ∨ j = 2 ∨ j = 3 ∨ j = 4 ∨ j = 5 ∨ j = 6 by omega) with rfl | rfl | rfl | rfl | rfl | rfl | rfl <;> rfl) (Nat.le_of_ble_eq_true rfl) (Nat.le_of_ble_eq_true rfl) e19 dX4_init_82 (fun H hO => ?_)
  have c19_177 := (mm_upn e19 (show 0 ≠ 37 by omega)).trans c18_156
  have c19_178 := (mm_upn e19 (show 16 ≠ 37 by omega)).trans c18_162
  have c19_179 := (mm_upn e19 (show 17 ≠ 37 by omega)).trans c18_157
  have c19_180 := (mm_upn e19 (show 18 ≠ 37 by omega)).trans c18_158
  have c19_181 := (mm_upn e19 (show 19 ≠ 37 by omega)).trans c18_159
  have c19_182 := (mm_upn e19 (show 20 ≠ 37 by omega)).trans c18_160
  have c19_183 := (mm_upn e19 (show 21 ≠ 37 by omega)).trans c18_161
  have c19_184 := mm_ups e19
  have o19_0 : ∀ j, 1 ≤ j ∧ j < 16 → f19 j = mm_ent T b mm_x0 j := fun j hj => (mm_upn e19 (by omega)).trans (o18_0 j hj)
  have o19_1 : ∀ j, 22 ≤ j ∧ j < 37 → f19 j = mm_ent T b mm_x0 j := fun j hj => (mm_upn e19 (by omega)).trans (o18_1 j hj)
  refine lv_dup hx hb dX4_init_85 rfl ?_
  refine mo_sz E hO (by omega) (fun hsz => ?_)
  obtain ⟨f20, e20⟩ : ∃ y, mf_3 T b f19 37 = y := ⟨_, rfl⟩
  refine mo_go hO (va_runI (As := []) (rest := [.ref (b + 37), .int 1, .ref (b + 16)]) ⟨hx, hb, E.1.2.2.1, E.1.2.2.2.1, E.1.2.2.2.2.1⟩ (co_X3_init l G T b z 37 f19 kr_37 c19_184 e20) (cwI 0 E.1.2.2.2.2.1 gX4_init_X3_init rfl rfl rfl w6 w8 w7 rfl df_X3_init.2 ⟨Nat.le_of_ble_eq_true rfl, Nat.le_of_ble_eq_true rfl⟩) ⟨mm_Bo.blind, mo_pre E hO hsz⟩ rfl rfl hl.1 rfl (lv_room (Nat.le_of_ble_eq_true rfl)) dX4_init_86 ⟨Nat.le_of_ble_eq_true rfl, Nat.le_of_ble_eq_true rfl⟩) (fun H locs hO => ?_)
  have c20_191 := (mf3_o e20 (show 0 < 37 by omega)).trans c19_177
  have c20_192 := (mf3_o e20 (show 16 < 37 by omega)).trans c19_178
  have c20_193 := (mf3_o e20 (show 17 < 37 by omega)).trans c19_179
  have c20_194 := (mf3_o e20 (show 18 < 37 by omega)).trans c19_180
  have c20_195 := (mf3_o e20 (show 19 < 37 by omega)).trans c19_181
  have c20_196 := (mf3_o e20 (show 20 < 37 by omega)).trans c19_182
  have c20_197 := (mf3_o e20 (show 21 < 37 by omega)).trans c19_183
  have o20_0 : ∀ j, 1 ≤ j ∧ j < 16 → f20 j = mm_ent T b mm_x0 j := fun j hj => (mf3_o e20 (by omega)).trans (o19_0 j hj)
  have o20_1 : ∀ j, 22 ≤ j ∧ j < 37 → f20 j = mm_ent T b mm_x0 j := fun j hj => (mf3_o e20 (by omega)).trans (o19_1 j hj)
  have o20_r : ∀ j, 37 ≤ j ∧ j < 52 → f20 j = mm_ent T b mm_x0 j := fun j hj => mf3_n e20 hj.1
  obtain ⟨f21, e21⟩ : ∃ y, va_up f20 16 (.inl (T 4, 7, .inr (.inr (.inr (.inr (va_up (va_up (fun _ => none) 0 (some (b + 22))) 1 (some (b + 37))))))) : va_E) = y := ⟨_, rfl⟩
  refine mo_aast (jn := 1) (ci := 3) (r := (RX3, TX3, 7)) 4 E hO (show 16 < _ by omega) c20_192 rfl (show 37 < _ by omega) ((o20_r 37 (by omega)).trans (mm_e3 kr_37)) rfl (by decide) (by decide) e21 dX4_init_89 (fun H locs hO => ?_)
  have c21_203 := (mm_upn e21 (show 0 ≠ 16 by omega)).trans c20_191
  have c21_204 := (mm_upn e21 (show 17 ≠ 16 by omega)).trans c20_193
  have c21_205 := (mm_upn e21 (show 18 ≠ 16 by omega)).trans c20_194
  have c21_206 := (mm_upn e21 (show 19 ≠ 16 by omega)).trans c20_195
  have c21_207 := (mm_upn e21 (show 20 ≠ 16 by omega)).trans c20_196
  have c21_208 := (mm_upn e21 (show 21 ≠ 16 by omega)).trans c20_197
  have c21_209 := mm_ups e21
  have o21_0 : ∀ j, 1 ≤ j ∧ j < 16 → f21 j = mm_ent T b mm_x0 j := fun j hj => (mm_upn e21 (by omega)).trans (o20_0 j hj)
  have o21_1 : ∀ j, 22 ≤ j ∧ j < 37 → f21 j = mm_ent T b mm_x0 j := fun j hj => (mm_upn e21 (by omega)).trans (o20_1 j hj)
  have o21_2 : ∀ j, 37 ≤ j ∧ j < 52 → f21 j = mm_ent T b mm_x0 j := fun j hj => (mm_upn e21 (by omega)).trans (o20_r j hj)
  refine lv_iinc (v := 2) (lv' := [(1, .int 2), (0, .ref (b + 0))]) hx hb dX4_init_90 hl (k := 0) rfl (by decide) (by decide) rfl (fun ls hl => ?_)
  refine lv_goto (tgt := 68) hx hb dX4_init_93 (by decide) ?_
  refine lv_iload_n hx hb dX4_init_68 rfl (lv_at hl 0 rfl) ?_
  refine lv_aload_n hx hb dX4_init_69 rfl (lv_at hl 1 rfl) ?_
  refine mo_get (v := .ref (b + 16)) E hO hin4 rfl (show 0 < _ by omega) c21_203 (j := 1) (by decide) rfl w10 rfl dX4_init_70 ?_
  refine mo_alen (v := 7) E hO (show 16 < _ by omega) c21_209 4 rfl rfl dX4_init_73 ?_
  refine lv_icmp_ge (tgt := 96) hx hb dX4_init_74 (by decide) (fun c => absurd c (by decide)) (fun _ => ?_)
  refine lv_aload_n hx hb dX4_init_77 rfl (lv_at hl 1 rfl) ?_
  refine mo_get (v := .ref (b + 16)) E hO hin4 rfl (show 0 < _ by omega) c21_203 (j := 1) (by decide) rfl w10 rfl dX4_init_78 ?_
  refine lv_iload_n hx hb dX4_init_81 rfl (lv_at hl 0 rfl) ?_
  obtain ⟨f22, e22⟩ : ∃ y, va_up f21 52 (.inr (3, [.null, .null, .int 0, .int 0, .int 0, .int 0, .null]) : va_E) = y := ⟨_, rfl⟩
  refine mo_new (ci := 3) (fs := [.null, .null, .int 0, .int 0, .int 0, .int 0, .null]) E hO (by omega) hin3 tyX3_ok rfl w4 w5 w6 (fun j hj => by rcases (show j = 0 ∨ j = 1 ∨ j = 2 ∨ j = 3 ∨ j = 4 ∨ j = 5 ∨ j = 6 by omega) with rfl | rfl | rfl | rfl | rfl | rfl | rfl <;> rfl) (Nat.le_of_ble_eq_true rfl) (Nat.le_of_ble_eq_true rfl) e22 dX4_init_82 (fun H hO => ?_)
  have c22_225 := (mm_upn e22 (show 0 ≠ 52 by omega)).trans c21_203
  have c22_226 := (mm_upn e22 (show 16 ≠ 52 by omega)).trans c21_209
  have c22_227 := (mm_upn e22 (show 17 ≠ 52 by omega)).trans c21_204
  have c22_228 := (mm_upn e22 (show 18 ≠ 52 by omega)).trans c21_205
  have c22_229 := (mm_upn e22 (show 19 ≠ 52 by omega)).trans c21_206
  have c22_230 := (mm_upn e22 (show 20 ≠ 52 by omega)).trans c21_207
  have c22_231 := (mm_upn e22 (show 21 ≠ 52 by omega)).trans c21_208
  have c22_232 := mm_ups e22
  have o22_0 : ∀ j, 1 ≤ j ∧ j < 16 → f22 j = mm_ent T b mm_x0 j := fun j hj => (mm_upn e22 (by omega)).trans (o21_0 j hj)
  have o22_1 : ∀ j, 22 ≤ j ∧ j < 37 → f22 j = mm_ent T b mm_x0 j := fun j hj => (mm_upn e22 (by omega)).trans (o21_1 j hj)
  have o22_2 : ∀ j, 37 ≤ j ∧ j < 52 → f22 j = mm_ent T b mm_x0 j := fun j hj => (mm_upn e22 (by omega)).trans (o21_2 j hj)
  refine lv_dup hx hb dX4_init_85 rfl ?_
  refine mo_sz E hO (by omega) (fun hsz => ?_)
  obtain ⟨f23, e23⟩ : ∃ y, mf_3 T b f22 52 = y := ⟨_, rfl⟩
  refine mo_go hO (va_runI (As := []) (rest := [.ref (b + 52), .int 2, .ref (b + 16)]) ⟨hx, hb, E.1.2.2.1, E.1.2.2.2.1, E.1.2.2.2.2.1⟩ (co_X3_init l G T b z 52 f22 kr_52 c22_232 e23) (cwI 0 E.1.2.2.2.2.1 gX4_init_X3_init rfl rfl rfl w6 w8 w7 rfl df_X3_init.2 ⟨Nat.le_of_ble_eq_true rfl, Nat.le_of_ble_eq_true rfl⟩) ⟨mm_Bo.blind, mo_pre E hO hsz⟩ rfl rfl hl.1 rfl (lv_room (Nat.le_of_ble_eq_true rfl)) dX4_init_86 ⟨Nat.le_of_ble_eq_true rfl, Nat.le_of_ble_eq_true rfl⟩) (fun H locs hO => ?_)
  have c23_240 := (mf3_o e23 (show 0 < 52 by omega)).trans c22_225
  have c23_241 := (mf3_o e23 (show 16 < 52 by omega)).trans c22_226
  have c23_242 := (mf3_o e23 (show 17 < 52 by omega)).trans c22_227
  have c23_243 := (mf3_o e23 (show 18 < 52 by omega)).trans c22_228
  have c23_244 := (mf3_o e23 (show 19 < 52 by omega)).trans c22_229
  have c23_245 := (mf3_o e23 (show 20 < 52 by omega)).trans c22_230
  have c23_246 := (mf3_o e23 (show 21 < 52 by omega)).trans c22_231
  have o23_0 : ∀ j, 1 ≤ j ∧ j < 16 → f23 j = mm_ent T b mm_x0 j := fun j hj => (mf3_o e23 (by omega)).trans (o22_0 j hj)
  have o23_1 : ∀ j, 22 ≤ j ∧ j < 37 → f23 j = mm_ent T b mm_x0 j := fun j hj => (mf3_o e23 (by omega)).trans (o22_1 j hj)
  have o23_2 : ∀ j, 37 ≤ j ∧ j < 52 → f23 j = mm_ent T b mm_x0 j := fun j hj => (mf3_o e23 (by omega)).trans (o22_2 j hj)
  have o23_r : ∀ j, 52 ≤ j ∧ j < 67 → f23 j = mm_ent T b mm_x0 j := fun j hj => mf3_n e23 hj.1
  obtain ⟨f24, e24⟩ : ∃ y, va_up f23 16 (.inl (T 4, 7, .inr (.inr (.inr (.inr (va_up (va_up (va_up (fun _ => none) 0 (some (b + 22))) 1 (some (b + 37))) 2 (some (b + 52))))))) : va_E) = y := ⟨_, rfl⟩
  refine mo_aast (jn := 2) (ci := 3) (r := (RX3, TX3, 7)) 4 E hO (show 16 < _ by omega) c23_241 rfl (show 52 < _ by omega) ((o23_r 52 (by omega)).trans (mm_e3 kr_52)) rfl (by decide) (by decide) e24 dX4_init_89 (fun H locs hO => ?_)
  have c24_253 := (mm_upn e24 (show 0 ≠ 16 by omega)).trans c23_240
  have c24_254 := (mm_upn e24 (show 17 ≠ 16 by omega)).trans c23_242
  have c24_255 := (mm_upn e24 (show 18 ≠ 16 by omega)).trans c23_243
  have c24_256 := (mm_upn e24 (show 19 ≠ 16 by omega)).trans c23_244
  have c24_257 := (mm_upn e24 (show 20 ≠ 16 by omega)).trans c23_245
  have c24_258 := (mm_upn e24 (show 21 ≠ 16 by omega)).trans c23_246
  have c24_259 := mm_ups e24
  have o24_0 : ∀ j, 1 ≤ j ∧ j < 16 → f24 j = mm_ent T b mm_x0 j := fun j hj => (mm_upn e24 (by omega)).trans (o23_0 j hj)
  have o24_1 : ∀ j, 22 ≤ j ∧ j < 37 → f24 j = mm_ent T b mm_x0 j := fun j hj => (mm_upn e24 (by omega)).trans (o23_1 j hj)
  have o24_2 : ∀ j, 37 ≤ j ∧ j < 52 → f24 j = mm_ent T b mm_x0 j := fun j hj => (mm_upn e24 (by omega)).trans (o23_2 j hj)
  have o24_3 : ∀ j, 52 ≤ j ∧ j < 67 → f24 j = mm_ent T b mm_x0 j := fun j hj => (mm_upn e24 (by omega)).trans (o23_r j hj)
  refine lv_iinc (v := 3) (lv' := [(1, .int 3), (0, .ref (b + 0))]) hx hb dX4_init_90 hl (k := 0) rfl (by decide) (by decide) rfl (fun ls hl => ?_)
  refine lv_goto (tgt := 68) hx hb dX4_init_93 (by decide) ?_
  refine lv_iload_n hx hb dX4_init_68 rfl (lv_at hl 0 rfl) ?_
  refine lv_aload_n hx hb dX4_init_69 rfl (lv_at hl 1 rfl) ?_
  refine mo_get (v := .ref (b + 16)) E hO hin4 rfl (show 0 < _ by omega) c24_253 (j := 1) (by decide) rfl w10 rfl dX4_init_70 ?_
  refine mo_alen (v := 7) E hO (show 16 < _ by omega) c24_259 4 rfl rfl dX4_init_73 ?_
  refine lv_icmp_ge (tgt := 96) hx hb dX4_init_74 (by decide) (fun c => absurd c (by decide)) (fun _ => ?_)
  refine lv_aload_n hx hb dX4_init_77 rfl (lv_at hl 1 rfl) ?_
  refine mo_get (v := .ref (b + 16)) E hO hin4 rfl (show 0 < _ by omega) c24_253 (j := 1) (by decide) rfl w10 rfl dX4_init_78 ?_
  refine lv_iload_n hx hb dX4_init_81 rfl (lv_at hl 0 rfl) ?_
  obtain ⟨f25, e25⟩ : ∃ y, va_up f24 67 (.inr (3, [.null, .null, .int 0, .int 0, .int 0, .int 0, .null]) : va_E) = y := ⟨_, rfl⟩
  refine mo_new (ci := 3) (fs := [.null, .null, .int 0, .int 0, .int 0, .int 0, .null]) E hO (by omega) hin3 tyX3_ok rfl w4 w5 w6 (fun j hj => by rcases (show j = 0 ∨ j = 1 ∨ j = 2 ∨ j = 3 ∨ j = 4 ∨ j = 5 ∨ j = 6 by omega) with rfl | rfl | rfl | rfl | rfl | rfl | rfl <;> rfl) (Nat.le_of_ble_eq_true rfl) (Nat.le_of_ble_eq_true rfl) e25 dX4_init_82 (fun H hO => ?_)
  have c25_276 := (mm_upn e25 (show 0 ≠ 67 by omega)).trans c24_253
  have c25_277 := (mm_upn e25 (show 16 ≠ 67 by omega)).trans c24_259
  have c25_278 := (mm_upn e25 (show 17 ≠ 67 by omega)).trans c24_254
  have c25_279 := (mm_upn e25 (show 18 ≠ 67 by omega)).trans c24_255
  have c25_280 := (mm_upn e25 (show 19 ≠ 67 by omega)).trans c24_256
  have c25_281 := (mm_upn e25 (show 20 ≠ 67 by omega)).trans c24_257
  have c25_282 := (mm_upn e25 (show 21 ≠ 67 by omega)).trans c24_258
  have c25_283 := mm_ups e25
  have o25_0 : ∀ j, 1 ≤ j ∧ j < 16 → f25 j = mm_ent T b mm_x0 j := fun j hj => (mm_upn e25 (by omega)).trans (o24_0 j hj)
  have o25_1 : ∀ j, 22 ≤ j ∧ j < 37 → f25 j = mm_ent T b mm_x0 j := fun j hj => (mm_upn e25 (by omega)).trans (o24_1 j hj)
  have o25_2 : ∀ j, 37 ≤ j ∧ j < 52 → f25 j = mm_ent T b mm_x0 j := fun j hj => (mm_upn e25 (by omega)).trans (o24_2 j hj)
  have o25_3 : ∀ j, 52 ≤ j ∧ j < 67 → f25 j = mm_ent T b mm_x0 j := fun j hj => (mm_upn e25 (by omega)).trans (o24_3 j hj)
  refine lv_dup hx hb dX4_init_85 rfl ?_
  refine mo_sz E hO (by omega) (fun hsz => ?_)
  obtain ⟨f26, e26⟩ : ∃ y, mf_3 T b f25 67 = y := ⟨_, rfl⟩
  refine mo_go hO (va_runI (As := []) (rest := [.ref (b + 67), .int 3, .ref (b + 16)]) ⟨hx, hb, E.1.2.2.1, E.1.2.2.2.1, E.1.2.2.2.2.1⟩ (co_X3_init l G T b z 67 f25 kr_67 c25_283 e26) (cwI 0 E.1.2.2.2.2.1 gX4_init_X3_init rfl rfl rfl w6 w8 w7 rfl df_X3_init.2 ⟨Nat.le_of_ble_eq_true rfl, Nat.le_of_ble_eq_true rfl⟩) ⟨mm_Bo.blind, mo_pre E hO hsz⟩ rfl rfl hl.1 rfl (lv_room (Nat.le_of_ble_eq_true rfl)) dX4_init_86 ⟨Nat.le_of_ble_eq_true rfl, Nat.le_of_ble_eq_true rfl⟩) (fun H locs hO => ?_)
  have c26_292 := (mf3_o e26 (show 0 < 67 by omega)).trans c25_276
  have c26_293 := (mf3_o e26 (show 16 < 67 by omega)).trans c25_277
  have c26_294 := (mf3_o e26 (show 17 < 67 by omega)).trans c25_278
  have c26_295 := (mf3_o e26 (show 18 < 67 by omega)).trans c25_279
  have c26_296 := (mf3_o e26 (show 19 < 67 by omega)).trans c25_280
  have c26_297 := (mf3_o e26 (show 20 < 67 by omega)).trans c25_281
  have c26_298 := (mf3_o e26 (show 21 < 67 by omega)).trans c25_282
  have o26_0 : ∀ j, 1 ≤ j ∧ j < 16 → f26 j = mm_ent T b mm_x0 j := fun j hj => (mf3_o e26 (by omega)).trans (o25_0 j hj)
  have o26_1 : ∀ j, 22 ≤ j ∧ j < 37 → f26 j = mm_ent T b mm_x0 j := fun j hj => (mf3_o e26 (by omega)).trans (o25_1 j hj)
  have o26_2 : ∀ j, 37 ≤ j ∧ j < 52 → f26 j = mm_ent T b mm_x0 j := fun j hj => (mf3_o e26 (by omega)).trans (o25_2 j hj)
  have o26_3 : ∀ j, 52 ≤ j ∧ j < 67 → f26 j = mm_ent T b mm_x0 j := fun j hj => (mf3_o e26 (by omega)).trans (o25_3 j hj)
  have o26_r : ∀ j, 67 ≤ j ∧ j < 82 → f26 j = mm_ent T b mm_x0 j := fun j hj => mf3_n e26 hj.1
  obtain ⟨f27, e27⟩ : ∃ y, va_up f26 16 (.inl (T 4, 7, .inr (.inr (.inr (.inr (va_up (va_up (va_up (va_up (fun _ => none) 0 (some (b + 22))) 1 (some (b + 37))) 2 (some (b + 52))) 3 (some (b + 67))))))) : va_E) = y := ⟨_, rfl⟩
  refine mo_aast (jn := 3) (ci := 3) (r := (RX3, TX3, 7)) 4 E hO (show 16 < _ by omega) c26_293 rfl (show 67 < _ by omega) ((o26_r 67 (by omega)).trans (mm_e3 kr_67)) rfl (by decide) (by decide) e27 dX4_init_89 (fun H locs hO => ?_)
  have c27_306 := (mm_upn e27 (show 0 ≠ 16 by omega)).trans c26_292
  have c27_307 := (mm_upn e27 (show 17 ≠ 16 by omega)).trans c26_294
  have c27_308 := (mm_upn e27 (show 18 ≠ 16 by omega)).trans c26_295
  have c27_309 := (mm_upn e27 (show 19 ≠ 16 by omega)).trans c26_296
  have c27_310 := (mm_upn e27 (show 20 ≠ 16 by omega)).trans c26_297
  have c27_311 := (mm_upn e27 (show 21 ≠ 16 by omega)).trans c26_298
  have c27_312 := mm_ups e27
  have o27_0 : ∀ j, 1 ≤ j ∧ j < 16 → f27 j = mm_ent T b mm_x0 j := fun j hj => (mm_upn e27 (by omega)).trans (o26_0 j hj)
  have o27_1 : ∀ j, 22 ≤ j ∧ j < 37 → f27 j = mm_ent T b mm_x0 j := fun j hj => (mm_upn e27 (by omega)).trans (o26_1 j hj)
  have o27_2 : ∀ j, 37 ≤ j ∧ j < 52 → f27 j = mm_ent T b mm_x0 j := fun j hj => (mm_upn e27 (by omega)).trans (o26_2 j hj)
  have o27_3 : ∀ j, 52 ≤ j ∧ j < 67 → f27 j = mm_ent T b mm_x0 j := fun j hj => (mm_upn e27 (by omega)).trans (o26_3 j hj)
  have o27_4 : ∀ j, 67 ≤ j ∧ j < 82 → f27 j = mm_ent T b mm_x0 j := fun j hj => (mm_upn e27 (by omega)).trans (o26_r j hj)
  refine lv_iinc (v := 4) (lv' := [(1, .int 4), (0, .ref (b + 0))]) hx hb dX4_init_90 hl (k := 0) rfl (by decide) (by decide) rfl (fun ls hl => ?_)
  refine lv_goto (tgt := 68) hx hb dX4_init_93 (by decide) ?_
  refine lv_iload_n hx hb dX4_init_68 rfl (lv_at hl 0 rfl) ?_
  refine lv_aload_n hx hb dX4_init_69 rfl (lv_at hl 1 rfl) ?_
  refine mo_get (v := .ref (b + 16)) E hO hin4 rfl (show 0 < _ by omega) c27_306 (j := 1) (by decide) rfl w10 rfl dX4_init_70 ?_
  refine mo_alen (v := 7) E hO (show 16 < _ by omega) c27_312 4 rfl rfl dX4_init_73 ?_
  refine lv_icmp_ge (tgt := 96) hx hb dX4_init_74 (by decide) (fun c => absurd c (by decide)) (fun _ => ?_)
  refine lv_aload_n hx hb dX4_init_77 rfl (lv_at hl 1 rfl) ?_
  refine mo_get (v := .ref (b + 16)) E hO hin4 rfl (show 0 < _ by omega) c27_306 (j := 1) (by decide) rfl w10 rfl dX4_init_78 ?_
  refine lv_iload_n hx hb dX4_init_81 rfl (lv_at hl 0 rfl) ?_
  obtain ⟨f28, e28⟩ : ∃ y, va_up f27 82 (.inr (3, [.null, .null, .int 0, .int 0, .int 0, .int 0, .null]) : va_E) = y := ⟨_, rfl⟩
  refine mo_new (ci := 3) (fs := [.null, .null, .int 0, .int 0, .int 0, .int 0, .null]) E hO (by omega) hin3 tyX3_ok rfl w4 w5 w6 (fun j hj => by rcases (show j = 0 ∨ j = 1 ∨ j = 2 ∨ j = 3 ∨ j = 4 ∨ j = 5 ∨ j = 6 by omega) with rfl | rfl | rfl | rfl | rfl | rfl | rfl <;> rfl) (Nat.le_of_ble_eq_true rfl) (Nat.le_of_ble_eq_true rfl) e28 dX4_init_82 (fun H hO => ?_)
  have c28_330 := (mm_upn e28 (show 0 ≠ 82 by omega)).trans c27_306
  have c28_331 := (mm_upn e28 (show 16 ≠ 82 by omega)).trans c27_312
  have c28_332 := (mm_upn e28 (show 17 ≠ 82 by omega)).trans c27_307
  have c28_333 := (mm_upn e28 (show 18 ≠ 82 by omega)).trans c27_308
  have c28_334 := (mm_upn e28 (show 19 ≠ 82 by omega)).trans c27_309
  have c28_335 := (mm_upn e28 (show 20 ≠ 82 by omega)).trans c27_310
  have c28_336 := (mm_upn e28 (show 21 ≠ 82 by omega)).trans c27_311
  have c28_337 := mm_ups e28
  have o28_0 : ∀ j, 1 ≤ j ∧ j < 16 → f28 j = mm_ent T b mm_x0 j := fun j hj => (mm_upn e28 (by omega)).trans (o27_0 j hj)
  have o28_1 : ∀ j, 22 ≤ j ∧ j < 37 → f28 j = mm_ent T b mm_x0 j := fun j hj => (mm_upn e28 (by omega)).trans (o27_1 j hj)
  have o28_2 : ∀ j, 37 ≤ j ∧ j < 52 → f28 j = mm_ent T b mm_x0 j := fun j hj => (mm_upn e28 (by omega)).trans (o27_2 j hj)
  have o28_3 : ∀ j, 52 ≤ j ∧ j < 67 → f28 j = mm_ent T b mm_x0 j := fun j hj => (mm_upn e28 (by omega)).trans (o27_3 j hj)
  have o28_4 : ∀ j, 67 ≤ j ∧ j < 82 → f28 j = mm_ent T b mm_x0 j := fun j hj => (mm_upn e28 (by omega)).trans (o27_4 j hj)
  refine lv_dup hx hb dX4_init_85 rfl ?_
  refine mo_sz E hO (by omega) (fun hsz => ?_)
  obtain ⟨f29, e29⟩ : ∃ y, mf_3 T b f28 82 = y := ⟨_, rfl⟩
  refine mo_go hO (va_runI (As := []) (rest := [.ref (b + 82), .int 4, .ref (b + 16)]) ⟨hx, hb, E.1.2.2.1, E.1.2.2.2.1, E.1.2.2.2.2.1⟩ (co_X3_init l G T b z 82 f28 kr_82 c28_337 e29) (cwI 0 E.1.2.2.2.2.1 gX4_init_X3_init rfl rfl rfl w6 w8 w7 rfl df_X3_init.2 ⟨Nat.le_of_ble_eq_true rfl, Nat.le_of_ble_eq_true rfl⟩) ⟨mm_Bo.blind, mo_pre E hO hsz⟩ rfl rfl hl.1 rfl (lv_room (Nat.le_of_ble_eq_true rfl)) dX4_init_86 ⟨Nat.le_of_ble_eq_true rfl, Nat.le_of_ble_eq_true rfl⟩) (fun H locs hO => ?_)
  have c29_347 := (mf3_o e29 (show 0 < 82 by omega)).trans c28_330
  have c29_348 := (mf3_o e29 (show 16 < 82 by omega)).trans c28_331
  have c29_349 := (mf3_o e29 (show 17 < 82 by omega)).trans c28_332
  have c29_350 := (mf3_o e29 (show 18 < 82 by omega)).trans c28_333
  have c29_351 := (mf3_o e29 (show 19 < 82 by omega)).trans c28_334
  have c29_352 := (mf3_o e29 (show 20 < 82 by omega)).trans c28_335
  have c29_353 := (mf3_o e29 (show 21 < 82 by omega)).trans c28_336
  have o29_0 : ∀ j, 1 ≤ j ∧ j < 16 → f29 j = mm_ent T b mm_x0 j := fun j hj => (mf3_o e29 (by omega)).trans (o28_0 j hj)
  have o29_1 : ∀ j, 22 ≤ j ∧ j < 37 → f29 j = mm_ent T b mm_x0 j := fun j hj => (mf3_o e29 (by omega)).trans (o28_1 j hj)
  have o29_2 : ∀ j, 37 ≤ j ∧ j < 52 → f29 j = mm_ent T b mm_x0 j := fun j hj => (mf3_o e29 (by omega)).trans (o28_2 j hj)
  have o29_3 : ∀ j, 52 ≤ j ∧ j < 67 → f29 j = mm_ent T b mm_x0 j := fun j hj => (mf3_o e29 (by omega)).trans (o28_3 j hj)
  have o29_4 : ∀ j, 67 ≤ j ∧ j < 82 → f29 j = mm_ent T b mm_x0 j := fun j hj => (mf3_o e29 (by omega)).trans (o28_4 j hj)
  have o29_r : ∀ j, 82 ≤ j ∧ j < 97 → f29 j = mm_ent T b mm_x0 j := fun j hj => mf3_n e29 hj.1
  obtain ⟨f30, e30⟩ : ∃ y, va_up f29 16 (.inl (T 4, 7, .inr (.inr (.inr (.inr (va_up (va_up (va_up (va_up (va_up (fun _ => none) 0 (some (b + 22))) 1 (some (b + 37))) 2 (some (b + 52))) 3 (some (b + 67))) 4 (some (b + 82))))))) : va_E) = y := ⟨_, rfl⟩
  refine mo_aast (jn := 4) (ci := 3) (r := (RX3, TX3, 7)) 4 E hO (show 16 < _ by omega) c29_348 rfl (show 82 < _ by omega) ((o29_r 82 (by omega)).trans (mm_e3 kr_82)) rfl (by decide) (by decide) e30 dX4_init_89 (fun H locs hO => ?_)
  have c30_362 := (mm_upn e30 (show 0 ≠ 16 by omega)).trans c29_347
  have c30_363 := (mm_upn e30 (show 17 ≠ 16 by omega)).trans c29_349
  have c30_364 := (mm_upn e30 (show 18 ≠ 16 by omega)).trans c29_350
  have c30_365 := (mm_upn e30 (show 19 ≠ 16 by omega)).trans c29_351
  have c30_366 := (mm_upn e30 (show 20 ≠ 16 by omega)).trans c29_352
  have c30_367 := (mm_upn e30 (show 21 ≠ 16 by omega)).trans c29_353
  have c30_368 := mm_ups e30
  have o30_0 : ∀ j, 1 ≤ j ∧ j < 16 → f30 j = mm_ent T b mm_x0 j := fun j hj => (mm_upn e30 (by omega)).trans (o29_0 j hj)
  have o30_1 : ∀ j, 22 ≤ j ∧ j < 37 → f30 j = mm_ent T b mm_x0 j := fun j hj => (mm_upn e30 (by omega)).trans (o29_1 j hj)
  have o30_2 : ∀ j, 37 ≤ j ∧ j < 52 → f30 j = mm_ent T b mm_x0 j := fun j hj => (mm_upn e30 (by omega)).trans (o29_2 j hj)
  have o30_3 : ∀ j, 52 ≤ j ∧ j < 67 → f30 j = mm_ent T b mm_x0 j := fun j hj => (mm_upn e30 (by omega)).trans (o29_3 j hj)
  have o30_4 : ∀ j, 67 ≤ j ∧ j < 82 → f30 j = mm_ent T b mm_x0 j := fun j hj => (mm_upn e30 (by omega)).trans (o29_4 j hj)
  have o30_5 : ∀ j, 82 ≤ j ∧ j < 97 → f30 j = mm_ent T b mm_x0 j := fun j hj => (mm_upn e30 (by omega)).trans (o29_r j hj)
  refine lv_iinc (v := 5) (lv' := [(1, .int 5), (0, .ref (b + 0))]) hx hb dX4_init_90 hl (k := 0) rfl (by decide) (by decide) rfl (fun ls hl => ?_)
  refine lv_goto (tgt := 68) hx hb dX4_init_93 (by decide) ?_
  refine lv_iload_n hx hb dX4_init_68 rfl (lv_at hl 0 rfl) ?_
  refine lv_aload_n hx hb dX4_init_69 rfl (lv_at hl 1 rfl) ?_
  refine mo_get (v := .ref (b + 16)) E hO hin4 rfl (show 0 < _ by omega) c30_362 (j := 1) (by decide) rfl w10 rfl dX4_init_70 ?_
  refine mo_alen (v := 7) E hO (show 16 < _ by omega) c30_368 4 rfl rfl dX4_init_73 ?_
  refine lv_icmp_ge (tgt := 96) hx hb dX4_init_74 (by decide) (fun c => absurd c (by decide)) (fun _ => ?_)
  refine lv_aload_n hx hb dX4_init_77 rfl (lv_at hl 1 rfl) ?_
  refine mo_get (v := .ref (b + 16)) E hO hin4 rfl (show 0 < _ by omega) c30_362 (j := 1) (by decide) rfl w10 rfl dX4_init_78 ?_
  refine lv_iload_n hx hb dX4_init_81 rfl (lv_at hl 0 rfl) ?_
  obtain ⟨f31, e31⟩ : ∃ y, va_up f30 97 (.inr (3, [.null, .null, .int 0, .int 0, .int 0, .int 0, .null]) : va_E) = y := ⟨_, rfl⟩
  refine mo_new (ci := 3) (fs := [.null, .null, .int 0, .int 0, .int 0, .int 0, .null]) E hO (by omega) hin3 tyX3_ok rfl w4 w5 w6 (fun j hj => by rcases (show j = 0 ∨ j = 1 ∨ j = 2 ∨ j = 3 ∨ j = 4 ∨ j = 5 ∨ j = 6 by omega) with rfl | rfl | rfl | rfl | rfl | rfl | rfl <;> rfl) (Nat.le_of_ble_eq_true rfl) (Nat.le_of_ble_eq_true rfl) e31 dX4_init_82 (fun H hO => ?_)
  have c31_387 := (mm_upn e31 (show 0 ≠ 97 by omega)).trans c30_362
  have c31_388 := (mm_upn e31 (show 16 ≠ 97 by omega)).trans c30_368
  have c31_389 := (mm_upn e31 (show 17 ≠ 97 by omega)).trans c30_363
  have c31_390 := (mm_upn e31 (show 18 ≠ 97 by omega)).trans c30_364
  have c31_391 := (mm_upn e31 (show 19 ≠ 97 by omega)).trans c30_365
  have c31_392 := (mm_upn e31 (show 20 ≠ 97 by omega)).trans c30_366
  have c31_393 := (mm_upn e31 (show 21 ≠ 97 by omega)).trans c30_367
  have c31_394 := mm_ups e31
  have o31_0 : ∀ j, 1 ≤ j ∧ j < 16 → f31 j = mm_ent T b mm_x0 j := fun j hj => (mm_upn e31 (by omega)).trans (o30_0 j hj)
  have o31_1 : ∀ j, 22 ≤ j ∧ j < 37 → f31 j = mm_ent T b mm_x0 j := fun j hj => (mm_upn e31 (by omega)).trans (o30_1 j hj)
  have o31_2 : ∀ j, 37 ≤ j ∧ j < 52 → f31 j = mm_ent T b mm_x0 j := fun j hj => (mm_upn e31 (by omega)).trans (o30_2 j hj)
  have o31_3 : ∀ j, 52 ≤ j ∧ j < 67 → f31 j = mm_ent T b mm_x0 j := fun j hj => (mm_upn e31 (by omega)).trans (o30_3 j hj)
  have o31_4 : ∀ j, 67 ≤ j ∧ j < 82 → f31 j = mm_ent T b mm_x0 j := fun j hj => (mm_upn e31 (by omega)).trans (o30_4 j hj)
  have o31_5 : ∀ j, 82 ≤ j ∧ j < 97 → f31 j = mm_ent T b mm_x0 j := fun j hj => (mm_upn e31 (by omega)).trans (o30_5 j hj)
  refine lv_dup hx hb dX4_init_85 rfl ?_
  refine mo_sz E hO (by omega) (fun hsz => ?_)
  obtain ⟨f32, e32⟩ : ∃ y, mf_3 T b f31 97 = y := ⟨_, rfl⟩
  refine mo_go hO (va_runI (As := []) (rest := [.ref (b + 97), .int 5, .ref (b + 16)]) ⟨hx, hb, E.1.2.2.1, E.1.2.2.2.1, E.1.2.2.2.2.1⟩ (co_X3_init l G T b z 97 f31 kr_97 c31_394 e32) (cwI 0 E.1.2.2.2.2.1 gX4_init_X3_init rfl rfl rfl w6 w8 w7 rfl df_X3_init.2 ⟨Nat.le_of_ble_eq_true rfl, Nat.le_of_ble_eq_true rfl⟩) ⟨mm_Bo.blind, mo_pre E hO hsz⟩ rfl rfl hl.1 rfl (lv_room (Nat.le_of_ble_eq_true rfl)) dX4_init_86 ⟨Nat.le_of_ble_eq_true rfl, Nat.le_of_ble_eq_true rfl⟩) (fun H locs hO => ?_)
  have c32_405 := (mf3_o e32 (show 0 < 97 by omega)).trans c31_387
  have c32_406 := (mf3_o e32 (show 16 < 97 by omega)).trans c31_388
  have c32_407 := (mf3_o e32 (show 17 < 97 by omega)).trans c31_389
  have c32_408 := (mf3_o e32 (show 18 < 97 by omega)).trans c31_390
  have c32_409 := (mf3_o e32 (show 19 < 97 by omega)).trans c31_391
  have c32_410 := (mf3_o e32 (show 20 < 97 by omega)).trans c31_392
  have c32_411 := (mf3_o e32 (show 21 < 97 by omega)).trans c31_393
  have o32_0 : ∀ j, 1 ≤ j ∧ j < 16 → f32 j = mm_ent T b mm_x0 j := fun j hj => (mf3_o e32 (by omega)).trans (o31_0 j hj)
  have o32_1 : ∀ j, 22 ≤ j ∧ j < 37 → f32 j = mm_ent T b mm_x0 j := fun j hj => (mf3_o e32 (by omega)).trans (o31_1 j hj)
  have o32_2 : ∀ j, 37 ≤ j ∧ j < 52 → f32 j = mm_ent T b mm_x0 j := fun j hj => (mf3_o e32 (by omega)).trans (o31_2 j hj)
  have o32_3 : ∀ j, 52 ≤ j ∧ j < 67 → f32 j = mm_ent T b mm_x0 j := fun j hj => (mf3_o e32 (by omega)).trans (o31_3 j hj)
  have o32_4 : ∀ j, 67 ≤ j ∧ j < 82 → f32 j = mm_ent T b mm_x0 j := fun j hj => (mf3_o e32 (by omega)).trans (o31_4 j hj)
  have o32_5 : ∀ j, 82 ≤ j ∧ j < 97 → f32 j = mm_ent T b mm_x0 j := fun j hj => (mf3_o e32 (by omega)).trans (o31_5 j hj)
  have o32_r : ∀ j, 97 ≤ j ∧ j < 112 → f32 j = mm_ent T b mm_x0 j := fun j hj => mf3_n e32 hj.1
  obtain ⟨f33, e33⟩ : ∃ y, va_up f32 16 (.inl (T 4, 7, .inr (.inr (.inr (.inr (va_up (va_up (va_up (va_up (va_up (va_up (fun _ => none) 0 (some (b + 22))) 1 (some (b + 37))) 2 (some (b + 52))) 3 (some (b + 67))) 4 (some (b + 82))) 5 (some (b + 97))))))) : va_E) = y := ⟨_, rfl⟩
  refine mo_aast (jn := 5) (ci := 3) (r := (RX3, TX3, 7)) 4 E hO (show 16 < _ by omega) c32_406 rfl (show 97 < _ by omega) ((o32_r 97 (by omega)).trans (mm_e3 kr_97)) rfl (by decide) (by decide) e33 dX4_init_89 (fun H locs hO => ?_)
  have c33_421 := (mm_upn e33 (show 0 ≠ 16 by omega)).trans c32_405
  have c33_422 := (mm_upn e33 (show 17 ≠ 16 by omega)).trans c32_407
  have c33_423 := (mm_upn e33 (show 18 ≠ 16 by omega)).trans c32_408
  have c33_424 := (mm_upn e33 (show 19 ≠ 16 by omega)).trans c32_409
  have c33_425 := (mm_upn e33 (show 20 ≠ 16 by omega)).trans c32_410
  have c33_426 := (mm_upn e33 (show 21 ≠ 16 by omega)).trans c32_411
  have c33_427 := mm_ups e33
  have o33_0 : ∀ j, 1 ≤ j ∧ j < 16 → f33 j = mm_ent T b mm_x0 j := fun j hj => (mm_upn e33 (by omega)).trans (o32_0 j hj)
  have o33_1 : ∀ j, 22 ≤ j ∧ j < 37 → f33 j = mm_ent T b mm_x0 j := fun j hj => (mm_upn e33 (by omega)).trans (o32_1 j hj)
  have o33_2 : ∀ j, 37 ≤ j ∧ j < 52 → f33 j = mm_ent T b mm_x0 j := fun j hj => (mm_upn e33 (by omega)).trans (o32_2 j hj)
  have o33_3 : ∀ j, 52 ≤ j ∧ j < 67 → f33 j = mm_ent T b mm_x0 j := fun j hj => (mm_upn e33 (by omega)).trans (o32_3 j hj)
  have o33_4 : ∀ j, 67 ≤ j ∧ j < 82 → f33 j = mm_ent T b mm_x0 j := fun j hj => (mm_upn e33 (by omega)).trans (o32_4 j hj)
  have o33_5 : ∀ j, 82 ≤ j ∧ j < 97 → f33 j = mm_ent T b mm_x0 j := fun j hj => (mm_upn e33 (by omega)).trans (o32_5 j hj)
  have o33_6 : ∀ j, 97 ≤ j ∧ j < 112 → f33 j = mm_ent T b mm_x0 j := fun j hj => (mm_upn e33 (by omega)).trans (o32_r j hj)
  refine lv_iinc (v := 6) (lv' := [(1, .int 6), (0, .ref (b + 0))]) hx hb dX4_init_90 hl (k := 0) rfl (by decide) (by decide) rfl (fun ls hl => ?_)
  refine lv_goto (tgt := 68) hx hb dX4_init_93 (by decide) ?_
  refine lv_iload_n hx hb dX4_init_68 rfl (lv_at hl 0 rfl) ?_
  refine lv_aload_n hx hb dX4_init_69 rfl (lv_at hl 1 rfl) ?_
  refine mo_get (v := .ref (b + 16)) E hO hin4 rfl (show 0 < _ by omega) c33_421 (j := 1) (by decide) rfl w10 rfl dX4_init_70 ?_
  refine mo_alen (v := 7) E hO (show 16 < _ by omega) c33_427 4 rfl rfl dX4_init_73 ?_
  refine lv_icmp_ge (tgt := 96) hx hb dX4_init_74 (by decide) (fun c => absurd c (by decide)) (fun _ => ?_)
  refine lv_aload_n hx hb dX4_init_77 rfl (lv_at hl 1 rfl) ?_
  refine mo_get (v := .ref (b + 16)) E hO hin4 rfl (show 0 < _ by omega) c33_421 (j := 1) (by decide) rfl w10 rfl dX4_init_78 ?_
  refine lv_iload_n hx hb dX4_init_81 rfl (lv_at hl 0 rfl) ?_
  obtain ⟨f34, e34⟩ : ∃ y, va_up f33 112 (.inr (3, [.null, .null, .int 0, .int 0, .int 0, .int 0, .null]) : va_E) = y := ⟨_, rfl⟩
  refine mo_new (ci := 3) (fs := [.null, .null, .int 0, .int 0, .int 0, .int 0, .null]) E hO (by omega) hin3 tyX3_ok rfl w4 w5 w6 (fun j hj => by rcases (show j = 0 ∨ j = 1 ∨ j = 2 ∨ j = 3 ∨ j = 4 ∨ j = 5 ∨ j = 6 by omega) with rfl | rfl | rfl | rfl | rfl | rfl | rfl <;> rfl) (Nat.le_of_ble_eq_true rfl) (Nat.le_of_ble_eq_true rfl) e34 dX4_init_82 (fun H hO => ?_)
  have c34_447 := (mm_upn e34 (show 0 ≠ 112 by omega)).trans c33_421
  have c34_448 := (mm_upn e34 (show 16 ≠ 112 by omega)).trans c33_427
  have c34_449 := (mm_upn e34 (show 17 ≠ 112 by omega)).trans c33_422
  have c34_450 := (mm_upn e34 (show 18 ≠ 112 by omega)).trans c33_423
  have c34_451 := (mm_upn e34 (show 19 ≠ 112 by omega)).trans c33_424
  have c34_452 := (mm_upn e34 (show 20 ≠ 112 by omega)).trans c33_425
  have c34_453 := (mm_upn e34 (show 21 ≠ 112 by omega)).trans c33_426
  have c34_454 := mm_ups e34
  have o34_0 : ∀ j, 1 ≤ j ∧ j < 16 → f34 j = mm_ent T b mm_x0 j := fun j hj => (mm_upn e34 (by omega)).trans (o33_0 j hj)
  have o34_1 : ∀ j, 22 ≤ j ∧ j < 37 → f34 j = mm_ent T b mm_x0 j := fun j hj => (mm_upn e34 (by omega)).trans (o33_1 j hj)
  have o34_2 : ∀ j, 37 ≤ j ∧ j < 52 → f34 j = mm_ent T b mm_x0 j := fun j hj => (mm_upn e34 (by omega)).trans (o33_2 j hj)
  have o34_3 : ∀ j, 52 ≤ j ∧ j < 67 → f34 j = mm_ent T b mm_x0 j := fun j hj => (mm_upn e34 (by omega)).trans (o33_3 j hj)
  have o34_4 : ∀ j, 67 ≤ j ∧ j < 82 → f34 j = mm_ent T b mm_x0 j := fun j hj => (mm_upn e34 (by omega)).trans (o33_4 j hj)
  have o34_5 : ∀ j, 82 ≤ j ∧ j < 97 → f34 j = mm_ent T b mm_x0 j := fun j hj => (mm_upn e34 (by omega)).trans (o33_5 j hj)
  have o34_6 : ∀ j, 97 ≤ j ∧ j < 112 → f34 j = mm_ent T b mm_x0 j := fun j hj => (mm_upn e34 (by omega)).trans (o33_6 j hj)
  refine lv_dup hx hb dX4_init_85 rfl ?_
  refine mo_sz E hO (by omega) (fun hsz => ?_)
  obtain ⟨f35, e35⟩ : ∃ y, mf_3 T b f34 112 = y := ⟨_, rfl⟩
  refine mo_go hO (va_runI (As := []) (rest := [.ref (b + 112), .int 6, .ref (b + 16)]) ⟨hx, hb, E.1.2.2.1, E.1.2.2.2.1, E.1.2.2.2.2.1⟩ (co_X3_init l G T b z 112 f34 kr_112 c34_454 e35) (cwI 0 E.1.2.2.2.2.1 gX4_init_X3_init rfl rfl rfl w6 w8 w7 rfl df_X3_init.2 ⟨Nat.le_of_ble_eq_true rfl, Nat.le_of_ble_eq_true rfl⟩) ⟨mm_Bo.blind, mo_pre E hO hsz⟩ rfl rfl hl.1 rfl (lv_room (Nat.le_of_ble_eq_true rfl)) dX4_init_86 ⟨Nat.le_of_ble_eq_true rfl, Nat.le_of_ble_eq_true rfl⟩) (fun H locs hO => ?_)
  have c35_466 := (mf3_o e35 (show 0 < 112 by omega)).trans c34_447
  have c35_467 := (mf3_o e35 (show 16 < 112 by omega)).trans c34_448
  have c35_468 := (mf3_o e35 (show 17 < 112 by omega)).trans c34_449
  have c35_469 := (mf3_o e35 (show 18 < 112 by omega)).trans c34_450
  have c35_470 := (mf3_o e35 (show 19 < 112 by omega)).trans c34_451
  have c35_471 := (mf3_o e35 (show 20 < 112 by omega)).trans c34_452
  have c35_472 := (mf3_o e35 (show 21 < 112 by omega)).trans c34_453
  have o35_0 : ∀ j, 1 ≤ j ∧ j < 16 → f35 j = mm_ent T b mm_x0 j := fun j hj => (mf3_o e35 (by omega)).trans (o34_0 j hj)
  have o35_1 : ∀ j, 22 ≤ j ∧ j < 37 → f35 j = mm_ent T b mm_x0 j := fun j hj => (mf3_o e35 (by omega)).trans (o34_1 j hj)
  have o35_2 : ∀ j, 37 ≤ j ∧ j < 52 → f35 j = mm_ent T b mm_x0 j := fun j hj => (mf3_o e35 (by omega)).trans (o34_2 j hj)
  have o35_3 : ∀ j, 52 ≤ j ∧ j < 67 → f35 j = mm_ent T b mm_x0 j := fun j hj => (mf3_o e35 (by omega)).trans (o34_3 j hj)
  have o35_4 : ∀ j, 67 ≤ j ∧ j < 82 → f35 j = mm_ent T b mm_x0 j := fun j hj => (mf3_o e35 (by omega)).trans (o34_4 j hj)
  have o35_5 : ∀ j, 82 ≤ j ∧ j < 97 → f35 j = mm_ent T b mm_x0 j := fun j hj => (mf3_o e35 (by omega)).trans (o34_5 j hj)
  have o35_6 : ∀ j, 97 ≤ j ∧ j < 112 → f35 j = mm_ent T b mm_x0 j := fun j hj => (mf3_o e35 (by omega)).trans (o34_6 j hj)
  have o35_r : ∀ j, 112 ≤ j ∧ j < 127 → f35 j = mm_ent T b mm_x0 j := fun j hj => mf3_n e35 hj.1
  obtain ⟨f36, e36⟩ : ∃ y, va_up f35 16 (.inl (T 4, 7, .inr (.inr (.inr (.inr (va_up (va_up (va_up (va_up (va_up (va_up (va_up (fun _ => none) 0 (some (b + 22))) 1 (some (b + 37))) 2 (some (b + 52))) 3 (some (b + 67))) 4 (some (b + 82))) 5 (some (b + 97))) 6 (some (b + 112))))))) : va_E) = y := ⟨_, rfl⟩
  refine mo_aast (jn := 6) (ci := 3) (r := (RX3, TX3, 7)) 4 E hO (show 16 < _ by omega) c35_467 rfl (show 112 < _ by omega) ((o35_r 112 (by omega)).trans (mm_e3 kr_112)) rfl (by decide) (by decide) e36 dX4_init_89 (fun H locs hO => ?_)
  have c36_483 := (mm_upn e36 (show 0 ≠ 16 by omega)).trans c35_466
  have c36_484 := (mm_upn e36 (show 17 ≠ 16 by omega)).trans c35_468
  have c36_485 := (mm_upn e36 (show 18 ≠ 16 by omega)).trans c35_469
  have c36_486 := (mm_upn e36 (show 19 ≠ 16 by omega)).trans c35_470
  have c36_487 := (mm_upn e36 (show 20 ≠ 16 by omega)).trans c35_471
  have c36_488 := (mm_upn e36 (show 21 ≠ 16 by omega)).trans c35_472
  have c36_489 := mm_ups e36
  have o36_0 : ∀ j, 1 ≤ j ∧ j < 16 → f36 j = mm_ent T b mm_x0 j := fun j hj => (mm_upn e36 (by omega)).trans (o35_0 j hj)
  have o36_1 : ∀ j, 22 ≤ j ∧ j < 37 → f36 j = mm_ent T b mm_x0 j := fun j hj => (mm_upn e36 (by omega)).trans (o35_1 j hj)
  have o36_2 : ∀ j, 37 ≤ j ∧ j < 52 → f36 j = mm_ent T b mm_x0 j := fun j hj => (mm_upn e36 (by omega)).trans (o35_2 j hj)
  have o36_3 : ∀ j, 52 ≤ j ∧ j < 67 → f36 j = mm_ent T b mm_x0 j := fun j hj => (mm_upn e36 (by omega)).trans (o35_3 j hj)
  have o36_4 : ∀ j, 67 ≤ j ∧ j < 82 → f36 j = mm_ent T b mm_x0 j := fun j hj => (mm_upn e36 (by omega)).trans (o35_4 j hj)
  have o36_5 : ∀ j, 82 ≤ j ∧ j < 97 → f36 j = mm_ent T b mm_x0 j := fun j hj => (mm_upn e36 (by omega)).trans (o35_5 j hj)
  have o36_6 : ∀ j, 97 ≤ j ∧ j < 112 → f36 j = mm_ent T b mm_x0 j := fun j hj => (mm_upn e36 (by omega)).trans (o35_6 j hj)
  have o36_7 : ∀ j, 112 ≤ j ∧ j < 127 → f36 j = mm_ent T b mm_x0 j := fun j hj => (mm_upn e36 (by omega)).trans (o35_r j hj)
  refine lv_iinc (v := 7) (lv' := [(1, .int 7), (0, .ref (b + 0))]) hx hb dX4_init_90 hl (k := 0) rfl (by decide) (by decide) rfl (fun ls hl => ?_)
  refine lv_goto (tgt := 68) hx hb dX4_init_93 (by decide) ?_
  refine lv_iload_n hx hb dX4_init_68 rfl (lv_at hl 0 rfl) ?_
  refine lv_aload_n hx hb dX4_init_69 rfl (lv_at hl 1 rfl) ?_
  refine mo_get (v := .ref (b + 16)) E hO hin4 rfl (show 0 < _ by omega) c36_483 (j := 1) (by decide) rfl w10 rfl dX4_init_70 ?_
  refine mo_alen (v := 7) E hO (show 16 < _ by omega) c36_489 4 rfl rfl dX4_init_73 ?_
  refine lv_icmp_ge (tgt := 96) hx hb dX4_init_74 (by decide) (fun _ => ?_) (fun c => absurd (by decide) c)
  refine lv_iconst (v := 0) hx hb dX4_init_96 (by decide) ?_
  refine lv_istore_n (lv' := [(1, .int 0), (0, .ref (b + 0))]) hx hb dX4_init_97 rfl hl (by decide) rfl (fun ls hl => ?_)
  refine lv_iload_n hx hb dX4_init_98 rfl (lv_at hl 0 rfl) ?_
  refine lv_aload_n hx hb dX4_init_99 rfl (lv_at hl 1 rfl) ?_
  refine mo_get (v := .ref (b + 17)) E hO hin4 rfl (show 0 < _ by omega) c36_483 (j := 3) (by decide) rfl w12 rfl dX4_init_100 ?_
  refine mo_alen (v := 2) E hO (show 17 < _ by omega) c36_484 4 rfl rfl dX4_init_103 ?_
  refine lv_icmp_ge (tgt := 126) hx hb dX4_init_104 (by decide) (fun c => absurd c (by decide)) (fun _ => ?_)
  refine lv_aload_n hx hb dX4_init_107 rfl (lv_at hl 1 rfl) ?_
  refine mo_get (v := .ref (b + 17)) E hO hin4 rfl (show 0 < _ by omega) c36_483 (j := 3) (by decide) rfl w12 rfl dX4_init_108 ?_
  refine lv_iload_n hx hb dX4_init_111 rfl (lv_at hl 0 rfl) ?_
  obtain ⟨f37, e37⟩ : ∃ y, va_up f36 127 (.inr (3, [.null, .null, .int 0, .int 0, .int 0, .int 0, .null]) : va_E) = y := ⟨_, rfl⟩
  refine mo_new (ci := 3) (fs := [.null, .null, .int 0, .int 0, .int 0, .int 0, .null]) E hO (by omega) hin3 tyX3_ok rfl w4 w5 w6 (fun j hj => by rcases (show j = 0 ∨ j = 1 ∨ j = 2 ∨ j = 3 ∨ j = 4 ∨ j = 5 ∨ j = 6 by omega) with rfl | rfl | rfl | rfl | rfl | rfl | rfl <;> rfl) (Nat.le_of_ble_eq_true rfl) (Nat.le_of_ble_eq_true rfl) e37 dX4_init_112 (fun H hO => ?_)
  have c37_517 := (mm_upn e37 (show 0 ≠ 127 by omega)).trans c36_483
  have c37_518 := (mm_upn e37 (show 16 ≠ 127 by omega)).trans c36_489
  have c37_519 := (mm_upn e37 (show 17 ≠ 127 by omega)).trans c36_484
  have c37_520 := (mm_upn e37 (show 18 ≠ 127 by omega)).trans c36_485
  have c37_521 := (mm_upn e37 (show 19 ≠ 127 by omega)).trans c36_486
  have c37_522 := (mm_upn e37 (show 20 ≠ 127 by omega)).trans c36_487
  have c37_523 := (mm_upn e37 (show 21 ≠ 127 by omega)).trans c36_488
  have c37_524 := mm_ups e37
  have o37_0 : ∀ j, 1 ≤ j ∧ j < 16 → f37 j = mm_ent T b mm_x0 j := fun j hj => (mm_upn e37 (by omega)).trans (o36_0 j hj)
  have o37_1 : ∀ j, 22 ≤ j ∧ j < 37 → f37 j = mm_ent T b mm_x0 j := fun j hj => (mm_upn e37 (by omega)).trans (o36_1 j hj)
  have o37_2 : ∀ j, 37 ≤ j ∧ j < 52 → f37 j = mm_ent T b mm_x0 j := fun j hj => (mm_upn e37 (by omega)).trans (o36_2 j hj)
  have o37_3 : ∀ j, 52 ≤ j ∧ j < 67 → f37 j = mm_ent T b mm_x0 j := fun j hj => (mm_upn e37 (by omega)).trans (o36_3 j hj)
  have o37_4 : ∀ j, 67 ≤ j ∧ j < 82 → f37 j = mm_ent T b mm_x0 j := fun j hj => (mm_upn e37 (by omega)).trans (o36_4 j hj)
  have o37_5 : ∀ j, 82 ≤ j ∧ j < 97 → f37 j = mm_ent T b mm_x0 j := fun j hj => (mm_upn e37 (by omega)).trans (o36_5 j hj)
  have o37_6 : ∀ j, 97 ≤ j ∧ j < 112 → f37 j = mm_ent T b mm_x0 j := fun j hj => (mm_upn e37 (by omega)).trans (o36_6 j hj)
  have o37_7 : ∀ j, 112 ≤ j ∧ j < 127 → f37 j = mm_ent T b mm_x0 j := fun j hj => (mm_upn e37 (by omega)).trans (o36_7 j hj)
  refine lv_dup hx hb dX4_init_115 rfl ?_
  refine mo_sz E hO (by omega) (fun hsz => ?_)
  obtain ⟨f38, e38⟩ : ∃ y, mf_3 T b f37 127 = y := ⟨_, rfl⟩
  refine mo_go hO (va_runI (As := []) (rest := [.ref (b + 127), .int 0, .ref (b + 17)]) ⟨hx, hb, E.1.2.2.1, E.1.2.2.2.1, E.1.2.2.2.2.1⟩ (co_X3_init l G T b z 127 f37 kr_127 c37_524 e38) (cwI 0 E.1.2.2.2.2.1 gX4_init_X3_init rfl rfl rfl w6 w8 w7 rfl df_X3_init.2 ⟨Nat.le_of_ble_eq_true rfl, Nat.le_of_ble_eq_true rfl⟩) ⟨mm_Bo.blind, mo_pre E hO hsz⟩ rfl rfl hl.1 rfl (lv_room (Nat.le_of_ble_eq_true rfl)) dX4_init_116 ⟨Nat.le_of_ble_eq_true rfl, Nat.le_of_ble_eq_true rfl⟩) (fun H locs hO => ?_)
  have c38_537 := (mf3_o e38 (show 0 < 127 by omega)).trans c37_517
  have c38_538 := (mf3_o e38 (show 16 < 127 by omega)).trans c37_518
  have c38_539 := (mf3_o e38 (show 17 < 127 by omega)).trans c37_519
  have c38_540 := (mf3_o e38 (show 18 < 127 by omega)).trans c37_520
  have c38_541 := (mf3_o e38 (show 19 < 127 by omega)).trans c37_521
  have c38_542 := (mf3_o e38 (show 20 < 127 by omega)).trans c37_522
  have c38_543 := (mf3_o e38 (show 21 < 127 by omega)).trans c37_523
  have o38_0 : ∀ j, 1 ≤ j ∧ j < 16 → f38 j = mm_ent T b mm_x0 j := fun j hj => (mf3_o e38 (by omega)).trans (o37_0 j hj)
  have o38_1 : ∀ j, 22 ≤ j ∧ j < 37 → f38 j = mm_ent T b mm_x0 j := fun j hj => (mf3_o e38 (by omega)).trans (o37_1 j hj)
  have o38_2 : ∀ j, 37 ≤ j ∧ j < 52 → f38 j = mm_ent T b mm_x0 j := fun j hj => (mf3_o e38 (by omega)).trans (o37_2 j hj)
  have o38_3 : ∀ j, 52 ≤ j ∧ j < 67 → f38 j = mm_ent T b mm_x0 j := fun j hj => (mf3_o e38 (by omega)).trans (o37_3 j hj)
  have o38_4 : ∀ j, 67 ≤ j ∧ j < 82 → f38 j = mm_ent T b mm_x0 j := fun j hj => (mf3_o e38 (by omega)).trans (o37_4 j hj)
  have o38_5 : ∀ j, 82 ≤ j ∧ j < 97 → f38 j = mm_ent T b mm_x0 j := fun j hj => (mf3_o e38 (by omega)).trans (o37_5 j hj)
  have o38_6 : ∀ j, 97 ≤ j ∧ j < 112 → f38 j = mm_ent T b mm_x0 j := fun j hj => (mf3_o e38 (by omega)).trans (o37_6 j hj)
  have o38_7 : ∀ j, 112 ≤ j ∧ j < 127 → f38 j = mm_ent T b mm_x0 j := fun j hj => (mf3_o e38 (by omega)).trans (o37_7 j hj)
  have o38_r : ∀ j, 127 ≤ j ∧ j < 142 → f38 j = mm_ent T b mm_x0 j := fun j hj => mf3_n e38 hj.1
  obtain ⟨f39, e39⟩ : ∃ y, va_up f38 17 (.inl (T 4, 2, .inr (.inr (.inr (.inr (va_up (fun _ => none) 0 (some (b + 127))))))) : va_E) = y := ⟨_, rfl⟩
  refine mo_aast (jn := 0) (ci := 3) (r := (RX3, TX3, 7)) 4 E hO (show 17 < _ by omega) c38_539 rfl (show 127 < _ by omega) ((o38_r 127 (by omega)).trans (mm_e3 kr_127)) rfl (by decide) (by decide) e39 dX4_init_119 (fun H locs hO => ?_)
  have c39_555 := (mm_upn e39 (show 0 ≠ 17 by omega)).trans c38_537
  have c39_556 := (mm_upn e39 (show 16 ≠ 17 by omega)).trans c38_538
  have c39_557 := (mm_upn e39 (show 18 ≠ 17 by omega)).trans c38_540
  have c39_558 := (mm_upn e39 (show 19 ≠ 17 by omega)).trans c38_541
  have c39_559 := (mm_upn e39 (show 20 ≠ 17 by omega)).trans c38_542
  have c39_560 := (mm_upn e39 (show 21 ≠ 17 by omega)).trans c38_543
  have c39_561 := mm_ups e39
  have o39_0 : ∀ j, 1 ≤ j ∧ j < 16 → f39 j = mm_ent T b mm_x0 j := fun j hj => (mm_upn e39 (by omega)).trans (o38_0 j hj)
  have o39_1 : ∀ j, 22 ≤ j ∧ j < 37 → f39 j = mm_ent T b mm_x0 j := fun j hj => (mm_upn e39 (by omega)).trans (o38_1 j hj)
  have o39_2 : ∀ j, 37 ≤ j ∧ j < 52 → f39 j = mm_ent T b mm_x0 j := fun j hj => (mm_upn e39 (by omega)).trans (o38_2 j hj)
  have o39_3 : ∀ j, 52 ≤ j ∧ j < 67 → f39 j = mm_ent T b mm_x0 j := fun j hj => (mm_upn e39 (by omega)).trans (o38_3 j hj)
  have o39_4 : ∀ j, 67 ≤ j ∧ j < 82 → f39 j = mm_ent T b mm_x0 j := fun j hj => (mm_upn e39 (by omega)).trans (o38_4 j hj)
  have o39_5 : ∀ j, 82 ≤ j ∧ j < 97 → f39 j = mm_ent T b mm_x0 j := fun j hj => (mm_upn e39 (by omega)).trans (o38_5 j hj)
  have o39_6 : ∀ j, 97 ≤ j ∧ j < 112 → f39 j = mm_ent T b mm_x0 j := fun j hj => (mm_upn e39 (by omega)).trans (o38_6 j hj)
  have o39_7 : ∀ j, 112 ≤ j ∧ j < 127 → f39 j = mm_ent T b mm_x0 j := fun j hj => (mm_upn e39 (by omega)).trans (o38_7 j hj)
  have o39_8 : ∀ j, 127 ≤ j ∧ j < 142 → f39 j = mm_ent T b mm_x0 j := fun j hj => (mm_upn e39 (by omega)).trans (o38_r j hj)
  refine lv_iinc (v := 1) (lv' := [(1, .int 1), (0, .ref (b + 0))]) hx hb dX4_init_120 hl (k := 0) rfl (by decide) (by decide) rfl (fun ls hl => ?_)
  refine lv_goto (tgt := 98) hx hb dX4_init_123 (by decide) ?_
  refine lv_iload_n hx hb dX4_init_98 rfl (lv_at hl 0 rfl) ?_
  refine lv_aload_n hx hb dX4_init_99 rfl (lv_at hl 1 rfl) ?_
  refine mo_get (v := .ref (b + 17)) E hO hin4 rfl (show 0 < _ by omega) c39_555 (j := 3) (by decide) rfl w12 rfl dX4_init_100 ?_
  refine mo_alen (v := 2) E hO (show 17 < _ by omega) c39_561 4 rfl rfl dX4_init_103 ?_
  refine lv_icmp_ge (tgt := 126) hx hb dX4_init_104 (by decide) (fun c => absurd c (by decide)) (fun _ => ?_)
  refine lv_aload_n hx hb dX4_init_107 rfl (lv_at hl 1 rfl) ?_
  refine mo_get (v := .ref (b + 17)) E hO hin4 rfl (show 0 < _ by omega) c39_555 (j := 3) (by decide) rfl w12 rfl dX4_init_108 ?_
  refine lv_iload_n hx hb dX4_init_111 rfl (lv_at hl 0 rfl) ?_
  obtain ⟨f40, e40⟩ : ∃ y, va_up f39 142 (.inr (3, [.null, .null, .int 0, .int 0, .int 0, .int 0, .null]) : va_E) = y := ⟨_, rfl⟩
  refine mo_new (ci := 3) (fs := [.null, .null, .int 0, .int 0, .int 0, .int 0, .null]) E hO (by omega) hin3 tyX3_ok rfl w4 w5 w6 (fun j hj => by rcases (show j = 0 ∨ j = 1 ∨ j = 2 ∨ j = 3 ∨ j = 4 ∨ j = 5 ∨ j = 6 by omega) with rfl | rfl | rfl | rfl | rfl | rfl | rfl <;> rfl) (Nat.le_of_ble_eq_true rfl) (Nat.le_of_ble_eq_true rfl) e40 dX4_init_112 (fun H hO => ?_)
  have c40_583 := (mm_upn e40 (show 0 ≠ 142 by omega)).trans c39_555
  have c40_584 := (mm_upn e40 (show 16 ≠ 142 by omega)).trans c39_556
  have c40_585 := (mm_upn e40 (show 17 ≠ 142 by omega)).trans c39_561
  have c40_586 := (mm_upn e40 (show 18 ≠ 142 by omega)).trans c39_557
  have c40_587 := (mm_upn e40 (show 19 ≠ 142 by omega)).trans c39_558
  have c40_588 := (mm_upn e40 (show 20 ≠ 142 by omega)).trans c39_559
  have c40_589 := (mm_upn e40 (show 21 ≠ 142 by omega)).trans c39_560
  have c40_590 := mm_ups e40
  have o40_0 : ∀ j, 1 ≤ j ∧ j < 16 → f40 j = mm_ent T b mm_x0 j := fun j hj => (mm_upn e40 (by omega)).trans (o39_0 j hj)
  have o40_1 : ∀ j, 22 ≤ j ∧ j < 37 → f40 j = mm_ent T b mm_x0 j := fun j hj => (mm_upn e40 (by omega)).trans (o39_1 j hj)
  have o40_2 : ∀ j, 37 ≤ j ∧ j < 52 → f40 j = mm_ent T b mm_x0 j := fun j hj => (mm_upn e40 (by omega)).trans (o39_2 j hj)
  have o40_3 : ∀ j, 52 ≤ j ∧ j < 67 → f40 j = mm_ent T b mm_x0 j := fun j hj => (mm_upn e40 (by omega)).trans (o39_3 j hj)
  have o40_4 : ∀ j, 67 ≤ j ∧ j < 82 → f40 j = mm_ent T b mm_x0 j := fun j hj => (mm_upn e40 (by omega)).trans (o39_4 j hj)
  have o40_5 : ∀ j, 82 ≤ j ∧ j < 97 → f40 j = mm_ent T b mm_x0 j := fun j hj => (mm_upn e40 (by omega)).trans (o39_5 j hj)
  have o40_6 : ∀ j, 97 ≤ j ∧ j < 112 → f40 j = mm_ent T b mm_x0 j := fun j hj => (mm_upn e40 (by omega)).trans (o39_6 j hj)
  have o40_7 : ∀ j, 112 ≤ j ∧ j < 127 → f40 j = mm_ent T b mm_x0 j := fun j hj => (mm_upn e40 (by omega)).trans (o39_7 j hj)
  have o40_8 : ∀ j, 127 ≤ j ∧ j < 142 → f40 j = mm_ent T b mm_x0 j := fun j hj => (mm_upn e40 (by omega)).trans (o39_8 j hj)
  refine lv_dup hx hb dX4_init_115 rfl ?_
  refine mo_sz E hO (by omega) (fun hsz => ?_)
  obtain ⟨f41, e41⟩ : ∃ y, mf_3 T b f40 142 = y := ⟨_, rfl⟩
  refine mo_go hO (va_runI (As := []) (rest := [.ref (b + 142), .int 1, .ref (b + 17)]) ⟨hx, hb, E.1.2.2.1, E.1.2.2.2.1, E.1.2.2.2.2.1⟩ (co_X3_init l G T b z 142 f40 kr_142 c40_590 e41) (cwI 0 E.1.2.2.2.2.1 gX4_init_X3_init rfl rfl rfl w6 w8 w7 rfl df_X3_init.2 ⟨Nat.le_of_ble_eq_true rfl, Nat.le_of_ble_eq_true rfl⟩) ⟨mm_Bo.blind, mo_pre E hO hsz⟩ rfl rfl hl.1 rfl (lv_room (Nat.le_of_ble_eq_true rfl)) dX4_init_116 ⟨Nat.le_of_ble_eq_true rfl, Nat.le_of_ble_eq_true rfl⟩) (fun H locs hO => ?_)
  have c41_604 := (mf3_o e41 (show 0 < 142 by omega)).trans c40_583
  have c41_605 := (mf3_o e41 (show 16 < 142 by omega)).trans c40_584
  have c41_606 := (mf3_o e41 (show 17 < 142 by omega)).trans c40_585
  have c41_607 := (mf3_o e41 (show 18 < 142 by omega)).trans c40_586
  have c41_608 := (mf3_o e41 (show 19 < 142 by omega)).trans c40_587
  have c41_609 := (mf3_o e41 (show 20 < 142 by omega)).trans c40_588
  have c41_610 := (mf3_o e41 (show 21 < 142 by omega)).trans c40_589
  have o41_0 : ∀ j, 1 ≤ j ∧ j < 16 → f41 j = mm_ent T b mm_x0 j := fun j hj => (mf3_o e41 (by omega)).trans (o40_0 j hj)
  have o41_1 : ∀ j, 22 ≤ j ∧ j < 37 → f41 j = mm_ent T b mm_x0 j := fun j hj => (mf3_o e41 (by omega)).trans (o40_1 j hj)
  have o41_2 : ∀ j, 37 ≤ j ∧ j < 52 → f41 j = mm_ent T b mm_x0 j := fun j hj => (mf3_o e41 (by omega)).trans (o40_2 j hj)
  have o41_3 : ∀ j, 52 ≤ j ∧ j < 67 → f41 j = mm_ent T b mm_x0 j := fun j hj => (mf3_o e41 (by omega)).trans (o40_3 j hj)
  have o41_4 : ∀ j, 67 ≤ j ∧ j < 82 → f41 j = mm_ent T b mm_x0 j := fun j hj => (mf3_o e41 (by omega)).trans (o40_4 j hj)
  have o41_5 : ∀ j, 82 ≤ j ∧ j < 97 → f41 j = mm_ent T b mm_x0 j := fun j hj => (mf3_o e41 (by omega)).trans (o40_5 j hj)
  have o41_6 : ∀ j, 97 ≤ j ∧ j < 112 → f41 j = mm_ent T b mm_x0 j := fun j hj => (mf3_o e41 (by omega)).trans (o40_6 j hj)
  have o41_7 : ∀ j, 112 ≤ j ∧ j < 127 → f41 j = mm_ent T b mm_x0 j := fun j hj => (mf3_o e41 (by omega)).trans (o40_7 j hj)
  have o41_8 : ∀ j, 127 ≤ j ∧ j < 142 → f41 j = mm_ent T b mm_x0 j := fun j hj => (mf3_o e41 (by omega)).trans (o40_8 j hj)
  have o41_r : ∀ j, 142 ≤ j ∧ j < 157 → f41 j = mm_ent T b mm_x0 j := fun j hj => mf3_n e41 hj.1
  obtain ⟨f42, e42⟩ : ∃ y, va_up f41 17 (.inl (T 4, 2, .inr (.inr (.inr (.inr (va_up (va_up (fun _ => none) 0 (some (b + 127))) 1 (some (b + 142))))))) : va_E) = y := ⟨_, rfl⟩
  refine mo_aast (jn := 1) (ci := 3) (r := (RX3, TX3, 7)) 4 E hO (show 17 < _ by omega) c41_606 rfl (show 142 < _ by omega) ((o41_r 142 (by omega)).trans (mm_e3 kr_142)) rfl (by decide) (by decide) e42 dX4_init_119 (fun H locs hO => ?_)
  have c42_623 := (mm_upn e42 (show 0 ≠ 17 by omega)).trans c41_604
  have c42_624 := (mm_upn e42 (show 16 ≠ 17 by omega)).trans c41_605
  have c42_625 := (mm_upn e42 (show 18 ≠ 17 by omega)).trans c41_607
  have c42_626 := (mm_upn e42 (show 19 ≠ 17 by omega)).trans c41_608
  have c42_627 := (mm_upn e42 (show 20 ≠ 17 by omega)).trans c41_609
  have c42_628 := (mm_upn e42 (show 21 ≠ 17 by omega)).trans c41_610
  have c42_629 := mm_ups e42
  have o42_0 : ∀ j, 1 ≤ j ∧ j < 16 → f42 j = mm_ent T b mm_x0 j := fun j hj => (mm_upn e42 (by omega)).trans (o41_0 j hj)
  have o42_1 : ∀ j, 22 ≤ j ∧ j < 37 → f42 j = mm_ent T b mm_x0 j := fun j hj => (mm_upn e42 (by omega)).trans (o41_1 j hj)
  have o42_2 : ∀ j, 37 ≤ j ∧ j < 52 → f42 j = mm_ent T b mm_x0 j := fun j hj => (mm_upn e42 (by omega)).trans (o41_2 j hj)
  have o42_3 : ∀ j, 52 ≤ j ∧ j < 67 → f42 j = mm_ent T b mm_x0 j := fun j hj => (mm_upn e42 (by omega)).trans (o41_3 j hj)
  have o42_4 : ∀ j, 67 ≤ j ∧ j < 82 → f42 j = mm_ent T b mm_x0 j := fun j hj => (mm_upn e42 (by omega)).trans (o41_4 j hj)
  have o42_5 : ∀ j, 82 ≤ j ∧ j < 97 → f42 j = mm_ent T b mm_x0 j := fun j hj => (mm_upn e42 (by omega)).trans (o41_5 j hj)
  have o42_6 : ∀ j, 97 ≤ j ∧ j < 112 → f42 j = mm_ent T b mm_x0 j := fun j hj => (mm_upn e42 (by omega)).trans (o41_6 j hj)
  have o42_7 : ∀ j, 112 ≤ j ∧ j < 127 → f42 j = mm_ent T b mm_x0 j := fun j hj => (mm_upn e42 (by omega)).trans (o41_7 j hj)
  have o42_8 : ∀ j, 127 ≤ j ∧ j < 142 → f42 j = mm_ent T b mm_x0 j := fun j hj => (mm_upn e42 (by omega)).trans (o41_8 j hj)
  have o42_9 : ∀ j, 142 ≤ j ∧ j < 157 → f42 j = mm_ent T b mm_x0 j := fun j hj => (mm_upn e42 (by omega)).trans (o41_r j hj)
  refine lv_iinc (v := 2) (lv' := [(1, .int 2), (0, .ref (b + 0))]) hx hb dX4_init_120 hl (k := 0) rfl (by decide) (by decide) rfl (fun ls hl => ?_)
  refine lv_goto (tgt := 98) hx hb dX4_init_123 (by decide) ?_
  refine lv_iload_n hx hb dX4_init_98 rfl (lv_at hl 0 rfl) ?_
  refine lv_aload_n hx hb dX4_init_99 rfl (lv_at hl 1 rfl) ?_
  refine mo_get (v := .ref (b + 17)) E hO hin4 rfl (show 0 < _ by omega) c42_623 (j := 3) (by decide) rfl w12 rfl dX4_init_100 ?_
  refine mo_alen (v := 2) E hO (show 17 < _ by omega) c42_629 4 rfl rfl dX4_init_103 ?_
  refine lv_icmp_ge (tgt := 126) hx hb dX4_init_104 (by decide) (fun _ => ?_) (fun c => absurd (by decide) c)
  refine mo_ret E hO (by omega) rfl ?_ hr hlk dX4_init_126
  intro j hj h
  rcases (show j = 0 ∨ (1 ≤ j ∧ j < 16) ∨ (22 ≤ j ∧ j < 37) ∨ (37 ≤ j ∧ j < 52) ∨ (52 ≤ j ∧ j < 67) ∨ (67 ≤ j ∧ j < 82) ∨ (82 ≤ j ∧ j < 97) ∨ (97 ≤ j ∧ j < 112) ∨ (112 ≤ j ∧ j < 127) ∨ (127 ≤ j ∧ j < 142) ∨ (142 ≤ j ∧ j < 157) ∨ j = 16 ∨ j = 17 ∨ j = 18 ∨ j = 19 ∨ j = 20 ∨ j = 21 by omega) with q | q | q | q | q | q | q | q | q | q | q | q | q | q | q | q | q
  · subst q; rw [mm_e4 kd_0, show mm_x0 0 2 = 0 from rfl]; rwa [c42_623] at h
  · rwa [o42_0 j q] at h
  · rwa [o42_1 j q] at h
  · rwa [o42_2 j q] at h
  · rwa [o42_3 j q] at h
  · rwa [o42_4 j q] at h
  · rwa [o42_5 j q] at h
  · rwa [o42_6 j q] at h
  · rwa [o42_7 j q] at h
  · rwa [o42_8 j q] at h
  · rwa [o42_9 j q] at h
  · subst q; rw [mm_e10 kd_16]; rw [c42_624] at h; exact mm_atq h (fun j hj => by rcases (show j = 0 ∨ j = 1 ∨ j = 2 ∨ j = 3 ∨ j = 4 ∨ j = 5 ∨ j = 6 by omega) with rfl | rfl | rfl | rfl | rfl | rfl | rfl <;> rfl)
  · subst q; rw [mm_e11 kd_17]; rw [c42_629] at h; exact mm_atq h (fun j hj => by rcases (show j = 0 ∨ j = 1 by omega) with rfl | rfl <;> rfl)
  · subst q; rw [mm_e8 kd_18, ln_18, show mm_x0 18 = (fun _ => 0) from rfl]; rwa [c42_625] at h
  · subst q; rw [mm_e2 kd_19]; rw [c42_626] at h; exact h
  · subst q; rw [mm_e7 kd_20, ln_20, show mm_x0 20 = (fun _ => 0) from rfl]; rwa [c42_627] at h
  · subst q; rw [mm_e1 kd_21, x0_lan kd_21]; rwa [c42_628] at h
end
