section
-- ===== PART A: goes FIRST, ahead of the names: the tables' words, and 'selects' of the private methods out of them =====
/-- a private method of a class that the tables say can be made, by its rows of tables_1 -/
def lw_okq (q : MethodName × Nat) : Prop := (q.1.cls ≠ "java/lang/invoke/MethodHandle" ∧ q.1.cls ≠ "java/lang/invoke/VarHandle") ∧ Cond.instantiable q.1.cls q.2 ∈ tables_1 ∧ Cond.privateMethod q.1 ∈ tables_1 ∧ Cond.instanceMethod q.1 ∈ tables_1
theorem lw_p0 : lw_okq (⟨"LandingFines", "keepState", "()V"⟩, 7) := ⟨⟨by decide +kernel, by decide +kernel⟩, List.mem_of_getElem? (i := 10) (by decide +kernel), List.mem_of_getElem? (i := 182) (by decide +kernel), List.mem_of_getElem? (i := 183) (by decide +kernel)⟩
theorem lw_p1 : lw_okq (⟨"LandingFines", "recordUnlessError", "(I)I"⟩, 7) := ⟨⟨by decide +kernel, by decide +kernel⟩, List.mem_of_getElem? (i := 10) (by decide +kernel), List.mem_of_getElem? (i := 210) (by decide +kernel), List.mem_of_getElem? (i := 211) (by decide +kernel)⟩
theorem lw_p2 : lw_okq (⟨"LandingFines", "dropOldest", "()V"⟩, 7) := ⟨⟨by decide +kernel, by decide +kernel⟩, List.mem_of_getElem? (i := 10) (by decide +kernel), List.mem_of_getElem? (i := 214) (by decide +kernel), List.mem_of_getElem? (i := 215) (by decide +kernel)⟩
theorem lw_p3 : lw_okq (⟨"LandingFines", "staysWelcome", "(I)Z"⟩, 7) := ⟨⟨by decide +kernel, by decide +kernel⟩, List.mem_of_getElem? (i := 10) (by decide +kernel), List.mem_of_getElem? (i := 376) (by decide +kernel), List.mem_of_getElem? (i := 377) (by decide +kernel)⟩
theorem lw_p4 : lw_okq (⟨"LandingFines", "carryOutOne", "()I"⟩, 7) := ⟨⟨by decide +kernel, by decide +kernel⟩, List.mem_of_getElem? (i := 10) (by decide +kernel), List.mem_of_getElem? (i := 448) (by decide +kernel), List.mem_of_getElem? (i := 449) (by decide +kernel)⟩
theorem lw_p5 : lw_okq (⟨"LandingFinesModel", "remember", "()V"⟩, 14) := ⟨⟨by decide +kernel, by decide +kernel⟩, List.mem_of_getElem? (i := 465) (by decide +kernel), List.mem_of_getElem? (i := 529) (by decide +kernel), List.mem_of_getElem? (i := 530) (by decide +kernel)⟩
theorem lw_p6 : lw_okq (⟨"LandingFinesModel", "record", "(I)I"⟩, 14) := ⟨⟨by decide +kernel, by decide +kernel⟩, List.mem_of_getElem? (i := 465) (by decide +kernel), List.mem_of_getElem? (i := 533) (by decide +kernel), List.mem_of_getElem? (i := 534) (by decide +kernel)⟩
theorem lw_p7 : lw_okq (⟨"LandingFinesModel", "comes", "(I)I"⟩, 14) := ⟨⟨by decide +kernel, by decide +kernel⟩, List.mem_of_getElem? (i := 465) (by decide +kernel), List.mem_of_getElem? (i := 546) (by decide +kernel), List.mem_of_getElem? (i := 547) (by decide +kernel)⟩
theorem lw_p8 : lw_okq (⟨"LandingFinesModel", "taken", "()I"⟩, 14) := ⟨⟨by decide +kernel, by decide +kernel⟩, List.mem_of_getElem? (i := 465) (by decide +kernel), List.mem_of_getElem? (i := 550) (by decide +kernel), List.mem_of_getElem? (i := 551) (by decide +kernel)⟩
theorem lw_p9 : lw_okq (⟨"LandingFinesModel", "its", "(II)I"⟩, 14) := ⟨⟨by decide +kernel, by decide +kernel⟩, List.mem_of_getElem? (i := 465) (by decide +kernel), List.mem_of_getElem? (i := 554) (by decide +kernel), List.mem_of_getElem? (i := 555) (by decide +kernel)⟩
theorem lw_p10 : lw_okq (⟨"LandingFinesModel", "lay", "(III)V"⟩, 14) := ⟨⟨by decide +kernel, by decide +kernel⟩, List.mem_of_getElem? (i := 465) (by decide +kernel), List.mem_of_getElem? (i := 558) (by decide +kernel), List.mem_of_getElem? (i := 559) (by decide +kernel)⟩
theorem lw_p11 : lw_okq (⟨"LandingFinesModel", "turns", "(II)I"⟩, 14) := ⟨⟨by decide +kernel, by decide +kernel⟩, List.mem_of_getElem? (i := 465) (by decide +kernel), List.mem_of_getElem? (i := 566) (by decide +kernel), List.mem_of_getElem? (i := 567) (by decide +kernel)⟩
theorem lw_p12 : lw_okq (⟨"LandingFinesModel", "isLanding", "(I)Z"⟩, 14) := ⟨⟨by decide +kernel, by decide +kernel⟩, List.mem_of_getElem? (i := 465) (by decide +kernel), List.mem_of_getElem? (i := 570) (by decide +kernel), List.mem_of_getElem? (i := 571) (by decide +kernel)⟩
theorem lw_p13 : lw_okq (⟨"LandingFinesModel", "change", "(IIII)I"⟩, 14) := ⟨⟨by decide +kernel, by decide +kernel⟩, List.mem_of_getElem? (i := 465) (by decide +kernel), List.mem_of_getElem? (i := 574) (by decide +kernel), List.mem_of_getElem? (i := 575) (by decide +kernel)⟩
theorem lw_p14 : lw_okq (⟨"LandingFinesModel", "note", "(II)V"⟩, 14) := ⟨⟨by decide +kernel, by decide +kernel⟩, List.mem_of_getElem? (i := 465) (by decide +kernel), List.mem_of_getElem? (i := 581) (by decide +kernel), List.mem_of_getElem? (i := 582) (by decide +kernel)⟩
theorem lw_p15 : lw_okq (⟨"LandingFinesModel", "costs", "(II)I"⟩, 14) := ⟨⟨by decide +kernel, by decide +kernel⟩, List.mem_of_getElem? (i := 465) (by decide +kernel), List.mem_of_getElem? (i := 593) (by decide +kernel), List.mem_of_getElem? (i := 594) (by decide +kernel)⟩
def lw_privs_1 : List (MethodName × Nat) := [(⟨"LandingFines", "keepState", "()V"⟩, 7), (⟨"LandingFines", "recordUnlessError", "(I)I"⟩, 7), (⟨"LandingFines", "dropOldest", "()V"⟩, 7), (⟨"LandingFines", "staysWelcome", "(I)Z"⟩, 7), (⟨"LandingFines", "carryOutOne", "()I"⟩, 7), (⟨"LandingFinesModel", "remember", "()V"⟩, 14), (⟨"LandingFinesModel", "record", "(I)I"⟩, 14), (⟨"LandingFinesModel", "comes", "(I)I"⟩, 14), (⟨"LandingFinesModel", "taken", "()I"⟩, 14), (⟨"LandingFinesModel", "its", "(II)I"⟩, 14), (⟨"LandingFinesModel", "lay", "(III)V"⟩, 14), (⟨"LandingFinesModel", "turns", "(II)I"⟩, 14), (⟨"LandingFinesModel", "isLanding", "(I)Z"⟩, 14), (⟨"LandingFinesModel", "change", "(IIII)I"⟩, 14), (⟨"LandingFinesModel", "note", "(II)V"⟩, 14), (⟨"LandingFinesModel", "costs", "(II)I"⟩, 14)]
theorem lw_r1 : ∀ q ∈ lw_privs_1, lw_okq q := List.forall_mem_cons.mpr ⟨lw_p0, List.forall_mem_cons.mpr ⟨lw_p1, List.forall_mem_cons.mpr ⟨lw_p2, List.forall_mem_cons.mpr ⟨lw_p3, List.forall_mem_cons.mpr ⟨lw_p4, List.forall_mem_cons.mpr ⟨lw_p5, List.forall_mem_cons.mpr ⟨lw_p6, List.forall_mem_cons.mpr ⟨lw_p7, List.forall_mem_cons.mpr ⟨lw_p8, List.forall_mem_cons.mpr ⟨lw_p9, List.forall_mem_cons.mpr ⟨lw_p10, List.forall_mem_cons.mpr ⟨lw_p11, List.forall_mem_cons.mpr ⟨lw_p12, List.forall_mem_cons.mpr ⟨lw_p13, List.forall_mem_cons.mpr ⟨lw_p14, List.forall_mem_cons.mpr ⟨lw_p15, fun _ h => absurd h List.not_mem_nil⟩⟩⟩⟩⟩⟩⟩⟩⟩⟩⟩⟩⟩⟩⟩⟩
theorem lw_p16 : lw_okq (⟨"LandingFinesModel", "waits", "(I)I"⟩, 14) := ⟨⟨by decide +kernel, by decide +kernel⟩, List.mem_of_getElem? (i := 465) (by decide +kernel), List.mem_of_getElem? (i := 601) (by decide +kernel), List.mem_of_getElem? (i := 602) (by decide +kernel)⟩
theorem lw_p17 : lw_okq (⟨"LandingFinesModel", "minute", "()I"⟩, 14) := ⟨⟨by decide +kernel, by decide +kernel⟩, List.mem_of_getElem? (i := 465) (by decide +kernel), List.mem_of_getElem? (i := 605) (by decide +kernel), List.mem_of_getElem? (i := 606) (by decide +kernel)⟩
theorem lw_p18 : lw_okq (⟨"LandingFinesModel", "tries", "(I)V"⟩, 14) := ⟨⟨by decide +kernel, by decide +kernel⟩, List.mem_of_getElem? (i := 465) (by decide +kernel), List.mem_of_getElem? (i := 609) (by decide +kernel), List.mem_of_getElem? (i := 610) (by decide +kernel)⟩
theorem lw_p19 : lw_okq (⟨"LandingFinesModel", "passes", "()Z"⟩, 14) := ⟨⟨by decide +kernel, by decide +kernel⟩, List.mem_of_getElem? (i := 465) (by decide +kernel), List.mem_of_getElem? (i := 613) (by decide +kernel), List.mem_of_getElem? (i := 614) (by decide +kernel)⟩
theorem lw_p20 : lw_okq (⟨"LandingFinesModel", "mask", "(I)I"⟩, 14) := ⟨⟨by decide +kernel, by decide +kernel⟩, List.mem_of_getElem? (i := 465) (by decide +kernel), List.mem_of_getElem? (i := 625) (by decide +kernel), List.mem_of_getElem? (i := 626) (by decide +kernel)⟩
theorem lw_p21 : lw_okq (⟨"LandingFinesModel", "rank", "(I)I"⟩, 14) := ⟨⟨by decide +kernel, by decide +kernel⟩, List.mem_of_getElem? (i := 465) (by decide +kernel), List.mem_of_getElem? (i := 633) (by decide +kernel), List.mem_of_getElem? (i := 634) (by decide +kernel)⟩
theorem lw_p22 : lw_okq (⟨"LandingFinesModel", "isSteady", "(I)Z"⟩, 14) := ⟨⟨by decide +kernel, by decide +kernel⟩, List.mem_of_getElem? (i := 465) (by decide +kernel), List.mem_of_getElem? (i := 661) (by decide +kernel), List.mem_of_getElem? (i := 662) (by decide +kernel)⟩
theorem lw_p23 : lw_okq (⟨"LandingFinesModel", "isWell", "()Z"⟩, 14) := ⟨⟨by decide +kernel, by decide +kernel⟩, List.mem_of_getElem? (i := 465) (by decide +kernel), List.mem_of_getElem? (i := 678) (by decide +kernel), List.mem_of_getElem? (i := 679) (by decide +kernel)⟩
theorem lw_p24 : lw_okq (⟨"LandingFinesModel", "order", "(Z)I"⟩, 14) := ⟨⟨by decide +kernel, by decide +kernel⟩, List.mem_of_getElem? (i := 465) (by decide +kernel), List.mem_of_getElem? (i := 682) (by decide +kernel), List.mem_of_getElem? (i := 683) (by decide +kernel)⟩
theorem lw_p25 : lw_okq (⟨"LandingFinesModel", "sees", "(II)Z"⟩, 14) := ⟨⟨by decide +kernel, by decide +kernel⟩, List.mem_of_getElem? (i := 465) (by decide +kernel), List.mem_of_getElem? (i := 686) (by decide +kernel), List.mem_of_getElem? (i := 687) (by decide +kernel)⟩
theorem lw_p26 : lw_okq (⟨"LandingFinesModel", "number", "()I"⟩, 14) := ⟨⟨by decide +kernel, by decide +kernel⟩, List.mem_of_getElem? (i := 465) (by decide +kernel), List.mem_of_getElem? (i := 690) (by decide +kernel), List.mem_of_getElem? (i := 691) (by decide +kernel)⟩
theorem lw_p27 : lw_okq (⟨"LandingFinesModel", "digit", "()I"⟩, 14) := ⟨⟨by decide +kernel, by decide +kernel⟩, List.mem_of_getElem? (i := 465) (by decide +kernel), List.mem_of_getElem? (i := 694) (by decide +kernel), List.mem_of_getElem? (i := 695) (by decide +kernel)⟩
def lw_privs_2 : List (MethodName × Nat) := [(⟨"LandingFinesModel", "waits", "(I)I"⟩, 14), (⟨"LandingFinesModel", "minute", "()I"⟩, 14), (⟨"LandingFinesModel", "tries", "(I)V"⟩, 14), (⟨"LandingFinesModel", "passes", "()Z"⟩, 14), (⟨"LandingFinesModel", "mask", "(I)I"⟩, 14), (⟨"LandingFinesModel", "rank", "(I)I"⟩, 14), (⟨"LandingFinesModel", "isSteady", "(I)Z"⟩, 14), (⟨"LandingFinesModel", "isWell", "()Z"⟩, 14), (⟨"LandingFinesModel", "order", "(Z)I"⟩, 14), (⟨"LandingFinesModel", "sees", "(II)Z"⟩, 14), (⟨"LandingFinesModel", "number", "()I"⟩, 14), (⟨"LandingFinesModel", "digit", "()I"⟩, 14)]
theorem lw_r2 : ∀ q ∈ lw_privs_2, lw_okq q := List.forall_mem_cons.mpr ⟨lw_p16, List.forall_mem_cons.mpr ⟨lw_p17, List.forall_mem_cons.mpr ⟨lw_p18, List.forall_mem_cons.mpr ⟨lw_p19, List.forall_mem_cons.mpr ⟨lw_p20, List.forall_mem_cons.mpr ⟨lw_p21, List.forall_mem_cons.mpr ⟨lw_p22, List.forall_mem_cons.mpr ⟨lw_p23, List.forall_mem_cons.mpr ⟨lw_p24, List.forall_mem_cons.mpr ⟨lw_p25, List.forall_mem_cons.mpr ⟨lw_p26, List.forall_mem_cons.mpr ⟨lw_p27, fun _ h => absurd h List.not_mem_nil⟩⟩⟩⟩⟩⟩⟩⟩⟩⟩⟩⟩
def lw_privs : List (MethodName × Nat) := lw_privs_1 ++ (lw_privs_2)
def lw_tbl : List Cond := k2_sels lw_privs ++ tables_1
theorem lw_privs_ok : ∀ q ∈ lw_privs, lw_okq q := by
  show ∀ q ∈ lw_privs_1 ++ (lw_privs_2), lw_okq q
  exact List.forall_mem_append.mpr ⟨lw_r1, lw_r2⟩
-- ===== end of PART A; then your names; then what follows =====
/-! ===== BEGIN words of one list among another's, by their places ===== -/
theorem goodIn_r {big : List Cond} (ws : List Cond) (ps : List Nat) (hp : ws = ps.filterMap (fun i => big[i]?)) (h : ws.all goodWord = true) : GoodIn big ws := by
  intro w hw
  have h1 := List.all_eq_true.mp h w hw
  rw [hp] at hw
  obtain ⟨i, -, hi⟩ := List.mem_filterMap.mp hw
  have hm : w ∈ big := by first | exact List.mem_of_getElem? hi | exact List.getElem?_mem hi
  exact ⟨hm, good_of_word h1⟩
theorem goodIn_app {big a b : List Cond} (ha : GoodIn big a) (hb : GoodIn big b) : GoodIn big (a ++ b) := fun w h => (List.mem_append.mp h).elim (ha w) (hb w)
theorem goodIn_ca {big a b : List Cond} {c : Cond} (ha : GoodIn big (c :: a)) (hb : GoodIn big b) : GoodIn big (c :: (a ++ b)) := fun w h => (List.mem_cons.mp h).elim (fun e => ha w (List.mem_cons.mpr (Or.inl e))) (fun h => (List.mem_append.mp h).elim (fun h => ha w (List.mem_cons.mpr (Or.inr h))) (hb w))
theorem goodIn_sub {big ws : List Cond} (hm : ∀ w ∈ ws, w ∈ big) (h : ws.all goodWord = true) : GoodIn big ws := fun w hw => ⟨hm w hw, good_of_word (List.all_eq_true.mp h w hw)⟩
/-! ===== END ===== -/

/-! ===== BEGIN printed: names, fields, word lists, decode rows ===== -/
def RX0 : String := "LandingFines$Journal"
def TX0 : u_T := fun k => match k with
  | 0 => ("LandingFines$Journal", "sorts", "[I", true)
  | 1 => ("LandingFines$Journal", "places", "[I", true)
  | 2 => ("LandingFines$Journal", "minutes", "[I", true)
  | 3 => ("LandingFines$Journal", "size", "I", false)
  | _ => ("LandingFines$Journal", "next", "I", false)
def tyX0 : Nat → FieldType := fun k => match k with
  | 0 => .array .int
  | 1 => .array .int
  | 2 => .array .int
  | 3 => .int
  | _ => .int
abbrev wsX00 : List Cond := u_ws RX0 TX0 5
theorem nmX0 : ∀ a, a < 5 → ∀ b, b < 5 → a ≠ b → (TX0 a).2.1 ≠ (TX0 b).2.1 := by decide +kernel
theorem tyX0_ok : ∀ k, k < 5 → parseFieldDescriptor (TX0 k).2.2.1 = some (tyX0 k) := by decide +kernel
abbrev cX0_init : ByteArray := prog_2_method_1_code
def yX0_init : MethodName := ⟨RX0, "<init>", "()V"⟩
abbrev cX0_add : ByteArray := prog_2_method_2_code
def yX0_add : MethodName := ⟨RX0, "add", "(III)V"⟩
abbrev cX0_tell : ByteArray := prog_2_method_3_code
def yX0_tell : MethodName := ⟨RX0, "tell", "(II)I"⟩
abbrev cX0_copyFrom : ByteArray := prog_2_method_4_code
def yX0_copyFrom : MethodName := ⟨RX0, "copyFrom", "(LLandingFines$Journal;)V"⟩
def RX1 : String := "LandingFines$Landing"
def TX1 : u_T := fun k => match k with
  | 0 => ("LandingFines$Landing", "isOpen", "Z", false)
  | 1 => ("LandingFines$Landing", "fare", "I", false)
  | 2 => ("LandingFines$Landing", "fine", "I", false)
  | 3 => ("LandingFines$Landing", "isShunned", "Z", false)
  | 4 => ("LandingFines$Landing", "minutesShunned", "I", false)
  | 5 => ("LandingFines$Landing", "minutesSinceHalving", "I", false)
  | 6 => ("LandingFines$Landing", "changes", "I", false)
  | _ => ("LandingFines$Landing", "timesShunned", "I", false)
def tyX1 : Nat → FieldType := fun k => match k with
  | 0 => .boolean
  | 1 => .int
  | 2 => .int
  | 3 => .boolean
  | 4 => .int
  | 5 => .int
  | 6 => .int
  | _ => .int
abbrev wsX10 : List Cond := u_ws RX1 TX1 8
theorem nmX1 : ∀ a, a < 8 → ∀ b, b < 8 → a ≠ b → (TX1 a).2.1 ≠ (TX1 b).2.1 := by decide +kernel
theorem tyX1_ok : ∀ k, k < 8 → parseFieldDescriptor (TX1 k).2.2.1 = some (tyX1 k) := by decide +kernel
abbrev cX1_init : ByteArray := prog_3_method_1_code
def yX1_init : MethodName := ⟨RX1, "<init>", "()V"⟩
abbrev cX1_arrive : ByteArray := prog_3_method_2_code
def yX1_arrive : MethodName := ⟨RX1, "arrive", "(I)V"⟩
abbrev cX1_copyFrom : ByteArray := prog_3_method_3_code
def yX1_copyFrom : MethodName := ⟨RX1, "copyFrom", "(LLandingFines$Landing;)V"⟩
abbrev cX1_canBeTaken : ByteArray := prog_3_method_4_code
def yX1_canBeTaken : MethodName := ⟨RX1, "canBeTaken", "()Z"⟩
abbrev cX1_addFine : ByteArray := prog_3_method_5_code
def yX1_addFine : MethodName := ⟨RX1, "addFine", "(II)Z"⟩
abbrev cX1_passMinute : ByteArray := prog_3_method_6_code
def yX1_passMinute : MethodName := ⟨RX1, "passMinute", "(III)Z"⟩
abbrev cX1_tell : ByteArray := prog_3_method_7_code
def yX1_tell : MethodName := ⟨RX1, "tell", "(I)I"⟩
def RX2 : String := "LandingFines$Pad"
def TX2 : u_T := fun k => match k with
  | 0 => ("LandingFines$Pad", "signs", "[C", true)
  | 1 => ("LandingFines$Pad", "length", "I", false)
  | 2 => ("LandingFines$Pad", "place", "I", false)
  | 3 => ("LandingFines$Pad", "orderSign", "C", false)
  | 4 => ("LandingFines$Pad", "orderLanding", "I", false)
  | _ => ("LandingFines$Pad", "orderNumber", "I", false)
def tyX2 : Nat → FieldType := fun k => match k with
  | 0 => .array .char
  | 1 => .int
  | 2 => .int
  | 3 => .char
  | 4 => .int
  | _ => .int
abbrev wsX20 : List Cond := u_ws RX2 TX2 6
theorem nmX2 : ∀ a, a < 6 → ∀ b, b < 6 → a ≠ b → (TX2 a).2.1 ≠ (TX2 b).2.1 := by decide +kernel
theorem tyX2_ok : ∀ k, k < 6 → parseFieldDescriptor (TX2 k).2.2.1 = some (tyX2 k) := by decide +kernel
abbrev cX2_init : ByteArray := prog_4_method_1_code
def yX2_init : MethodName := ⟨RX2, "<init>", "()V"⟩
abbrev cX2_append : ByteArray := prog_4_method_2_code
def yX2_append : MethodName := ⟨RX2, "append", "(JI)V"⟩
abbrev cX2_clear : ByteArray := prog_4_method_3_code
def yX2_clear : MethodName := ⟨RX2, "clear", "()I"⟩
abbrev cX2_findFault : ByteArray := prog_4_method_4_code
def yX2_findFault : MethodName := ⟨RX2, "findFault", "()I"⟩
abbrev cX2_startReading : ByteArray := prog_4_method_5_code
def yX2_startReading : MethodName := ⟨RX2, "startReading", "()V"⟩
abbrev cX2_readOrder : ByteArray := prog_4_method_6_code
def yX2_readOrder : MethodName := ⟨RX2, "readOrder", "()Z"⟩
abbrev cX2_readSign : ByteArray := prog_4_method_7_code
def yX2_readSign : MethodName := ⟨RX2, "readSign", "(C)Z"⟩
abbrev cX2_readLanding : ByteArray := prog_4_method_8_code
def yX2_readLanding : MethodName := ⟨RX2, "readLanding", "()Z"⟩
abbrev cX2_readNumber : ByteArray := prog_4_method_9_code
def yX2_readNumber : MethodName := ⟨RX2, "readNumber", "()Z"⟩
abbrev cX2_isAtDigit : ByteArray := prog_4_method_10_code
def yX2_isAtDigit : MethodName := ⟨RX2, "isAtDigit", "()Z"⟩
def RX3 : String := "LandingFines$River"
def TX3 : u_T := fun k => match k with
  | 0 => ("LandingFines$River", "settings", "[I", true)
  | 1 => ("LandingFines$River", "landings", "[LLandingFines$Landing;", true)
  | 2 => ("LandingFines$River", "landingCount", "I", false)
  | 3 => ("LandingFines$River", "minutesSoFar", "I", false)
  | 4 => ("LandingFines$River", "taken", "I", false)
  | 5 => ("LandingFines$River", "switches", "I", false)
  | _ => ("LandingFines$River", "journal", "LLandingFines$Journal;", true)
def tyX3 : Nat → FieldType := fun k => match k with
  | 0 => .array .int
  | 1 => .array (.object "LandingFines$Landing")
  | 2 => .int
  | 3 => .int
  | 4 => .int
  | 5 => .int
  | _ => .object "LandingFines$Journal"
abbrev wsX30 : List Cond := u_ws RX3 TX3 7
theorem nmX3 : ∀ a, a < 7 → ∀ b, b < 7 → a ≠ b → (TX3 a).2.1 ≠ (TX3 b).2.1 := by decide +kernel
theorem tyX3_ok : ∀ k, k < 7 → parseFieldDescriptor (TX3 k).2.2.1 = some (tyX3 k) := by decide +kernel
abbrev cX3_init : ByteArray := prog_5_method_1_code
def yX3_init : MethodName := ⟨RX3, "<init>", "()V"⟩
abbrev cX3_copyFrom : ByteArray := prog_5_method_2_code
def yX3_copyFrom : MethodName := ⟨RX3, "copyFrom", "(LLandingFines$River;)V"⟩
abbrev cX3_find : ByteArray := prog_5_method_3_code
def yX3_find : MethodName := ⟨RX3, "find", "(I)LLandingFines$Landing;"⟩
abbrev cX3_changeSetting : ByteArray := prog_5_method_4_code
def yX3_changeSetting : MethodName := ⟨RX3, "changeSetting", "(II)I"⟩
abbrev cX3_addLanding : ByteArray := prog_5_method_5_code
def yX3_addLanding : MethodName := ⟨RX3, "addLanding", "(I)I"⟩
abbrev cX3_openLanding : ByteArray := prog_5_method_6_code
def yX3_openLanding : MethodName := ⟨RX3, "openLanding", "(I)I"⟩
abbrev cX3_closeLanding : ByteArray := prog_5_method_7_code
def yX3_closeLanding : MethodName := ⟨RX3, "closeLanding", "(I)I"⟩
abbrev cX3_changePrice : ByteArray := prog_5_method_8_code
def yX3_changePrice : MethodName := ⟨RX3, "changePrice", "(II)I"⟩
abbrev cX3_finishChange : ByteArray := prog_5_method_9_code
def yX3_finishChange : MethodName := ⟨RX3, "finishChange", "(LLandingFines$Landing;II)I"⟩
abbrev cX3_fineBySort : ByteArray := prog_5_method_10_code
def yX3_fineBySort : MethodName := ⟨RX3, "fineBySort", "(LLandingFines$Landing;I)Z"⟩
abbrev cX3_passMinutes : ByteArray := prog_5_method_11_code
def yX3_passMinutes : MethodName := ⟨RX3, "passMinutes", "(I)I"⟩
abbrev cX3_passOneMinute : ByteArray := prog_5_method_12_code
def yX3_passOneMinute : MethodName := ⟨RX3, "passOneMinute", "()I"⟩
abbrev cX3_passMinuteOf : ByteArray := prog_5_method_13_code
def yX3_passMinuteOf : MethodName := ⟨RX3, "passMinuteOf", "(LLandingFines$Landing;)Z"⟩
abbrev cX3_fade : ByteArray := prog_5_method_14_code
def yX3_fade : MethodName := ⟨RX3, "fade", "(LLandingFines$Landing;I)V"⟩
abbrev cX3_followTaken : ByteArray := prog_5_method_15_code
def yX3_followTaken : MethodName := ⟨RX3, "followTaken", "()V"⟩
abbrev cX3_chosen : ByteArray := prog_5_method_16_code
def yX3_chosen : MethodName := ⟨RX3, "chosen", "(I)I"⟩
abbrev cX3_rankOf : ByteArray := prog_5_method_17_code
def yX3_rankOf : MethodName := ⟨RX3, "rankOf", "(I)I"⟩
abbrev cX3_tell : ByteArray := prog_5_method_18_code
def yX3_tell : MethodName := ⟨RX3, "tell", "(I)I"⟩
abbrev cX3_openOnes : ByteArray := prog_5_method_19_code
def yX3_openOnes : MethodName := ⟨RX3, "openOnes", "()I"⟩
abbrev cX3_shunnedOnes : ByteArray := prog_5_method_20_code
def yX3_shunnedOnes : MethodName := ⟨RX3, "shunnedOnes", "()I"⟩
def RX4 : String := "LandingFines"
def TX4 : u_T := fun k => match k with
  | 0 => ("LandingFines", "river", "LLandingFines$River;", true)
  | 1 => ("LandingFines", "history", "[LLandingFines$River;", true)
  | 2 => ("LandingFines", "historySize", "I", false)
  | 3 => ("LandingFines", "slots", "[LLandingFines$River;", true)
  | 4 => ("LandingFines", "slotUsed", "[Z", true)
  | 5 => ("LandingFines", "pad", "LLandingFines$Pad;", true)
  | _ => ("LandingFines", "trial", "LLandingFines$Landing;", true)
def tyX4 : Nat → FieldType := fun k => match k with
  | 0 => .object "LandingFines$River"
  | 1 => .array (.object "LandingFines$River")
  | 2 => .int
  | 3 => .array (.object "LandingFines$River")
  | 4 => .array .boolean
  | 5 => .object "LandingFines$Pad"
  | _ => .object "LandingFines$Landing"
abbrev wsX40 : List Cond := u_ws RX4 TX4 7
theorem nmX4 : ∀ a, a < 7 → ∀ b, b < 7 → a ≠ b → (TX4 a).2.1 ≠ (TX4 b).2.1 := by decide +kernel
theorem tyX4_ok : ∀ k, k < 7 → parseFieldDescriptor (TX4 k).2.2.1 = some (tyX4 k) := by decide +kernel
abbrev cX4_init : ByteArray := prog_1_method_1_code
def yX4_init : MethodName := ⟨RX4, "<init>", "()V"⟩
abbrev cX4_set : ByteArray := prog_1_method_2_code
def yX4_set : MethodName := ⟨RX4, "set", "(II)I"⟩
abbrev cX4_landing : ByteArray := prog_1_method_3_code
def yX4_landing : MethodName := ⟨RX4, "landing", "(I)I"⟩
abbrev cX4_open : ByteArray := prog_1_method_4_code
def yX4_open : MethodName := ⟨RX4, "open", "(I)I"⟩
abbrev cX4_close : ByteArray := prog_1_method_5_code
def yX4_close : MethodName := ⟨RX4, "close", "(I)I"⟩
abbrev cX4_price : ByteArray := prog_1_method_6_code
def yX4_price : MethodName := ⟨RX4, "price", "(II)I"⟩
abbrev cX4_pass : ByteArray := prog_1_method_7_code
def yX4_pass : MethodName := ⟨RX4, "pass", "(I)I"⟩
abbrev cX4_of : ByteArray := prog_1_method_8_code
def yX4_of : MethodName := ⟨RX4, "of", "(II)I"⟩
abbrev cX4_count : ByteArray := prog_1_method_9_code
def yX4_count : MethodName := ⟨RX4, "count", "(I)I"⟩
abbrev cX4_choice : ByteArray := prog_1_method_10_code
def yX4_choice : MethodName := ⟨RX4, "choice", "(I)I"⟩
abbrev cX4_log : ByteArray := prog_1_method_11_code
def yX4_log : MethodName := ⟨RX4, "log", "(II)I"⟩
abbrev cX4_why : ByteArray := prog_1_method_12_code
def yX4_why : MethodName := ⟨RX4, "why", "(I)I"⟩
abbrev cX4_welcomeIn : ByteArray := prog_1_method_13_code
def yX4_welcomeIn : MethodName := ⟨RX4, "welcomeIn", "(I)I"⟩
abbrev cX4_mayChange : ByteArray := prog_1_method_14_code
def yX4_mayChange : MethodName := ⟨RX4, "mayChange", "(I)I"⟩
abbrev cX4_fineIn : ByteArray := prog_1_method_15_code
def yX4_fineIn : MethodName := ⟨RX4, "fineIn", "(II)I"⟩
abbrev cX4_steady : ByteArray := prog_1_method_16_code
def yX4_steady : MethodName := ⟨RX4, "steady", "()I"⟩
abbrev cX4_staysWelcome : ByteArray := prog_1_method_17_code
def yX4_staysWelcome : MethodName := ⟨RX4, "staysWelcome", "(I)Z"⟩
abbrev cX4_put : ByteArray := prog_1_method_18_code
def yX4_put : MethodName := ⟨RX4, "put", "(J)I"⟩
abbrev cX4_charactersIn : ByteArray := prog_1_method_19_code
def yX4_charactersIn : MethodName := ⟨RX4, "charactersIn", "(J)I"⟩
abbrev cX4_wipe : ByteArray := prog_1_method_20_code
def yX4_wipe : MethodName := ⟨RX4, "wipe", "()I"⟩
abbrev cX4_fault : ByteArray := prog_1_method_21_code
def yX4_fault : MethodName := ⟨RX4, "fault", "()I"⟩
abbrev cX4_carryOut : ByteArray := prog_1_method_22_code
def yX4_carryOut : MethodName := ⟨RX4, "carryOut", "()I"⟩
abbrev cX4_carryOutOne : ByteArray := prog_1_method_23_code
def yX4_carryOutOne : MethodName := ⟨RX4, "carryOutOne", "()I"⟩
abbrev cX4_undo : ByteArray := prog_1_method_24_code
def yX4_undo : MethodName := ⟨RX4, "undo", "()I"⟩
abbrev cX4_save : ByteArray := prog_1_method_25_code
def yX4_save : MethodName := ⟨RX4, "save", "(I)I"⟩
abbrev cX4_restore : ByteArray := prog_1_method_26_code
def yX4_restore : MethodName := ⟨RX4, "restore", "(I)I"⟩
abbrev cX4_keepState : ByteArray := prog_1_method_27_code
def yX4_keepState : MethodName := ⟨RX4, "keepState", "()V"⟩
abbrev cX4_recordUnlessError : ByteArray := prog_1_method_28_code
def yX4_recordUnlessError : MethodName := ⟨RX4, "recordUnlessError", "(I)I"⟩
abbrev cX4_dropOldest : ByteArray := prog_1_method_29_code
def yX4_dropOldest : MethodName := ⟨RX4, "dropOldest", "()V"⟩
def RX5 : String := "LandingFinesModel"
def TX5 : u_T := fun k => match k with
  | 0 => ("LandingFinesModel", "row", "[I", true)
  | 1 => ("LandingFinesModel", "past", "[I", true)
  | 2 => ("LandingFinesModel", "before", "[I", true)
  | 3 => ("LandingFinesModel", "slots", "[I", true)
  | 4 => ("LandingFinesModel", "isSaved", "[Z", true)
  | 5 => ("LandingFinesModel", "states", "I", false)
  | 6 => ("LandingFinesModel", "pad", "[I", true)
  | 7 => ("LandingFinesModel", "length", "I", false)
  | 8 => ("LandingFinesModel", "at", "I", false)
  | 9 => ("LandingFinesModel", "codes", "[I", true)
  | 10 => ("LandingFinesModel", "fine", "I", false)
  | 11 => ("LandingFinesModel", "since", "I", false)
  | 12 => ("LandingFinesModel", "isShunned", "Z", false)
  | _ => ("LandingFinesModel", "shunnedFor", "I", false)
def tyX5 : Nat → FieldType := fun k => match k with
  | 0 => .array .int
  | 1 => .array .int
  | 2 => .array .int
  | 3 => .array .int
  | 4 => .array .boolean
  | 5 => .int
  | 6 => .array .int
  | 7 => .int
  | 8 => .int
  | 9 => .array .int
  | 10 => .int
  | 11 => .int
  | 12 => .boolean
  | _ => .int
abbrev wsX50 : List Cond := u_ws RX5 TX5 14
theorem nmX5 : ∀ a, a < 14 → ∀ b, b < 14 → a ≠ b → (TX5 a).2.1 ≠ (TX5 b).2.1 := by decide +kernel
theorem tyX5_ok : ∀ k, k < 14 → parseFieldDescriptor (TX5 k).2.2.1 = some (tyX5 k) := by decide +kernel
abbrev cX5_init : ByteArray := prog_7_method_1_code
def yX5_init : MethodName := ⟨RX5, "<init>", "()V"⟩
abbrev cX5_in : ByteArray := prog_7_method_2_code
def yX5_in : MethodName := ⟨RX5, "in", "(JII)Z"⟩
abbrev cX5_its : ByteArray := prog_7_method_3_code
def yX5_its : MethodName := ⟨RX5, "its", "(II)I"⟩
abbrev cX5_lay : ByteArray := prog_7_method_4_code
def yX5_lay : MethodName := ⟨RX5, "lay", "(III)V"⟩
abbrev cX5_isLanding : ByteArray := prog_7_method_5_code
def yX5_isLanding : MethodName := ⟨RX5, "isLanding", "(I)Z"⟩
abbrev cX5_remember : ByteArray := prog_7_method_6_code
def yX5_remember : MethodName := ⟨RX5, "remember", "()V"⟩
abbrev cX5_record : ByteArray := prog_7_method_7_code
def yX5_record : MethodName := ⟨RX5, "record", "(I)I"⟩
abbrev cX5_undo : ByteArray := prog_7_method_8_code
def yX5_undo : MethodName := ⟨RX5, "undo", "()I"⟩
abbrev cX5_save : ByteArray := prog_7_method_9_code
def yX5_save : MethodName := ⟨RX5, "save", "(I)I"⟩
abbrev cX5_restore : ByteArray := prog_7_method_10_code
def yX5_restore : MethodName := ⟨RX5, "restore", "(I)I"⟩
abbrev cX5_taken : ByteArray := prog_7_method_11_code
def yX5_taken : MethodName := ⟨RX5, "taken", "()I"⟩
abbrev cX5_note : ByteArray := prog_7_method_12_code
def yX5_note : MethodName := ⟨RX5, "note", "(II)V"⟩
abbrev cX5_held : ByteArray := prog_7_method_13_code
def yX5_held : MethodName := ⟨RX5, "held", "(I)I"⟩
abbrev cX5_change : ByteArray := prog_7_method_14_code
def yX5_change : MethodName := ⟨RX5, "change", "(IIII)I"⟩
abbrev cX5_passes : ByteArray := prog_7_method_15_code
def yX5_passes : MethodName := ⟨RX5, "passes", "()Z"⟩
abbrev cX5_tries : ByteArray := prog_7_method_16_code
def yX5_tries : MethodName := ⟨RX5, "tries", "(I)V"⟩
abbrev cX5_minute : ByteArray := prog_7_method_17_code
def yX5_minute : MethodName := ⟨RX5, "minute", "()I"⟩
abbrev cX5_comes : ByteArray := prog_7_method_18_code
def yX5_comes : MethodName := ⟨RX5, "comes", "(I)I"⟩
abbrev cX5_turns : ByteArray := prog_7_method_19_code
def yX5_turns : MethodName := ⟨RX5, "turns", "(II)I"⟩
abbrev cX5_costs : ByteArray := prog_7_method_20_code
def yX5_costs : MethodName := ⟨RX5, "costs", "(II)I"⟩
abbrev cX5_waits : ByteArray := prog_7_method_21_code
def yX5_waits : MethodName := ⟨RX5, "waits", "(I)I"⟩
abbrev cX5_set : ByteArray := prog_7_method_22_code
def yX5_set : MethodName := ⟨RX5, "set", "(II)I"⟩
abbrev cX5_landing : ByteArray := prog_7_method_23_code
def yX5_landing : MethodName := ⟨RX5, "landing", "(I)I"⟩
abbrev cX5_open : ByteArray := prog_7_method_24_code
def yX5_open : MethodName := ⟨RX5, "open", "(I)I"⟩
abbrev cX5_close : ByteArray := prog_7_method_25_code
def yX5_close : MethodName := ⟨RX5, "close", "(I)I"⟩
abbrev cX5_price : ByteArray := prog_7_method_26_code
def yX5_price : MethodName := ⟨RX5, "price", "(II)I"⟩
abbrev cX5_pass : ByteArray := prog_7_method_27_code
def yX5_pass : MethodName := ⟨RX5, "pass", "(I)I"⟩
abbrev cX5_of : ByteArray := prog_7_method_28_code
def yX5_of : MethodName := ⟨RX5, "of", "(II)I"⟩
abbrev cX5_mask : ByteArray := prog_7_method_29_code
def yX5_mask : MethodName := ⟨RX5, "mask", "(I)I"⟩
abbrev cX5_count : ByteArray := prog_7_method_30_code
def yX5_count : MethodName := ⟨RX5, "count", "(I)I"⟩
abbrev cX5_rank : ByteArray := prog_7_method_31_code
def yX5_rank : MethodName := ⟨RX5, "rank", "(I)I"⟩
abbrev cX5_choice : ByteArray := prog_7_method_32_code
def yX5_choice : MethodName := ⟨RX5, "choice", "(I)I"⟩
abbrev cX5_log : ByteArray := prog_7_method_33_code
def yX5_log : MethodName := ⟨RX5, "log", "(II)I"⟩
abbrev cX5_why : ByteArray := prog_7_method_34_code
def yX5_why : MethodName := ⟨RX5, "why", "(I)I"⟩
abbrev cX5_welcomeIn : ByteArray := prog_7_method_35_code
def yX5_welcomeIn : MethodName := ⟨RX5, "welcomeIn", "(I)I"⟩
abbrev cX5_mayChange : ByteArray := prog_7_method_36_code
def yX5_mayChange : MethodName := ⟨RX5, "mayChange", "(I)I"⟩
abbrev cX5_fineIn : ByteArray := prog_7_method_37_code
def yX5_fineIn : MethodName := ⟨RX5, "fineIn", "(II)I"⟩
abbrev cX5_isSteady : ByteArray := prog_7_method_38_code
def yX5_isSteady : MethodName := ⟨RX5, "isSteady", "(I)Z"⟩
abbrev cX5_steady : ByteArray := prog_7_method_39_code
def yX5_steady : MethodName := ⟨RX5, "steady", "()I"⟩
abbrev cX5_put : ByteArray := prog_7_method_40_code
def yX5_put : MethodName := ⟨RX5, "put", "(J)I"⟩
abbrev cX5_wipe : ByteArray := prog_7_method_41_code
def yX5_wipe : MethodName := ⟨RX5, "wipe", "()I"⟩
abbrev cX5_sees : ByteArray := prog_7_method_42_code
def yX5_sees : MethodName := ⟨RX5, "sees", "(II)Z"⟩
abbrev cX5_number : ByteArray := prog_7_method_43_code
def yX5_number : MethodName := ⟨RX5, "number", "()I"⟩
abbrev cX5_digit : ByteArray := prog_7_method_44_code
def yX5_digit : MethodName := ⟨RX5, "digit", "()I"⟩
abbrev cX5_order : ByteArray := prog_7_method_45_code
def yX5_order : MethodName := ⟨RX5, "order", "(Z)I"⟩
abbrev cX5_isWell : ByteArray := prog_7_method_46_code
def yX5_isWell : MethodName := ⟨RX5, "isWell", "()Z"⟩
abbrev cX5_fault : ByteArray := prog_7_method_47_code
def yX5_fault : MethodName := ⟨RX5, "fault", "()I"⟩
abbrev cX5_carryOut : ByteArray := prog_7_method_48_code
def yX5_carryOut : MethodName := ⟨RX5, "carryOut", "()I"⟩
def RJx8e188 : String := "java/lang/Cloneable"
def TJx8e188 : u_T := fun k => match k with
  | _ => ("", "", "", false)
def tyJx8e188 : Nat → FieldType := fun k => match k with
  | _ => .int
abbrev wsJx8e1880 : List Cond := u_ws RJx8e188 TJx8e188 0
theorem nmJx8e188 : ∀ a, a < 0 → ∀ b, b < 0 → a ≠ b → (TJx8e188 a).2.1 ≠ (TJx8e188 b).2.1 := by decide +kernel
theorem tyJx8e188_ok : ∀ k, k < 0 → parseFieldDescriptor (TJx8e188 k).2.2.1 = some (tyJx8e188 k) := by decide +kernel
def RJ9 : String := "java/lang/Math"
def TJ9 : u_T := fun k => match k with
  | _ => ("", "", "", false)
def tyJ9 : Nat → FieldType := fun k => match k with
  | _ => .int
abbrev wsJ90 : List Cond := u_ws RJ9 TJ9 0
theorem nmJ9 : ∀ a, a < 0 → ∀ b, b < 0 → a ≠ b → (TJ9 a).2.1 ≠ (TJ9 b).2.1 := by decide +kernel
theorem tyJ9_ok : ∀ k, k < 0 → parseFieldDescriptor (TJ9 k).2.2.1 = some (tyJ9 k) := by decide +kernel
abbrev cJ9_max_7cf53 : ByteArray := prog_9_method_65_code
def yJ9_max_7cf53 : MethodName := ⟨RJ9, "max", "(II)I"⟩
abbrev cJ9_min_7cf53 : ByteArray := prog_9_method_69_code
def yJ9_min_7cf53 : MethodName := ⟨RJ9, "min", "(II)I"⟩
def RJ10 : String := "java/lang/System"
def TJ10 : u_T := fun k => match k with
  | _ => ("", "", "", false)
def tyJ10 : Nat → FieldType := fun k => match k with
  | _ => .int
abbrev wsJ100 : List Cond := u_ws RJ10 TJ10 0
theorem nmJ10 : ∀ a, a < 0 → ∀ b, b < 0 → a ≠ b → (TJ10 a).2.1 ≠ (TJ10 b).2.1 := by decide +kernel
theorem tyJ10_ok : ∀ k, k < 0 → parseFieldDescriptor (TJ10 k).2.2.1 = some (tyJ10 k) := by decide +kernel
def RL : String := "LandingFinesLaw"
abbrev cL_law : ByteArray := code
def yL_law : MethodName := ⟨RL, "law", "([I)Z"⟩
def wsX0_init : List Cond := .code yX0_init cX0_init 1 none :: ([.methodLink RX0 3 objectInit, .instanceMethod objectInit, .code objectInit ⟨#[0xb1]⟩ 1 none, .arrayClass .int, .fieldLink RX0 9 "LandingFines$Journal" "sorts" "[I", .fieldLink RX0 15 "LandingFines$Journal" "places" "[I", .fieldLink RX0 18 "LandingFines$Journal" "minutes" "[I", .fieldLink RX0 21 "LandingFines$Journal" "size" "I", .fieldLink RX0 25 "LandingFines$Journal" "next" "I"] ++ wsX00)
def wsX0_add : List Cond := .code yX0_add cX0_add 4 none :: ([.fieldLink RX0 9 "LandingFines$Journal" "sorts" "[I", .fieldLink RX0 25 "LandingFines$Journal" "next" "I", .fieldLink RX0 15 "LandingFines$Journal" "places" "[I", .fieldLink RX0 18 "LandingFines$Journal" "minutes" "[I", .fieldLink RX0 21 "LandingFines$Journal" "size" "I", .methodLink RX0 28 Lib.Math.min.name, .static Lib.Math.min.name, .initialized "java/lang/Math", .code Lib.Math.min.name Lib.Math.min.code 2 (some .int)] ++ wsX00)
def wsX0_tell : List Cond := .code yX0_tell cX0_tell 4 (some .int) :: ([.fieldLink RX0 21 "LandingFines$Journal" "size" "I", .fieldLink RX0 25 "LandingFines$Journal" "next" "I", .fieldLink RX0 9 "LandingFines$Journal" "sorts" "[I", .fieldLink RX0 15 "LandingFines$Journal" "places" "[I", .fieldLink RX0 18 "LandingFines$Journal" "minutes" "[I"] ++ wsX00)
def wsX0_copyFrom : List Cond := .code yX0_copyFrom cX0_copyFrom 2 none :: ([.fieldLink RX0 9 "LandingFines$Journal" "sorts" "[I", .methodLink RX0 34 arraycopyName, .native arraycopyName, .static arraycopyName, .initialized "java/lang/System", .fieldLink RX0 15 "LandingFines$Journal" "places" "[I", .fieldLink RX0 18 "LandingFines$Journal" "minutes" "[I", .fieldLink RX0 21 "LandingFines$Journal" "size" "I", .fieldLink RX0 25 "LandingFines$Journal" "next" "I"] ++ wsX00)
def wsX1_init : List Cond := .code yX1_init cX1_init 1 none :: ([.methodLink RX1 3 objectInit, .instanceMethod objectInit, .code objectInit ⟨#[0xb1]⟩ 1 none])
def wsX1_arrive : List Cond := .code yX1_arrive cX1_arrive 2 none :: ([.fieldLink RX1 9 "LandingFines$Landing" "isOpen" "Z", .fieldLink RX1 15 "LandingFines$Landing" "fare" "I", .fieldLink RX1 19 "LandingFines$Landing" "fine" "I", .fieldLink RX1 22 "LandingFines$Landing" "isShunned" "Z", .fieldLink RX1 25 "LandingFines$Landing" "minutesShunned" "I", .fieldLink RX1 28 "LandingFines$Landing" "minutesSinceHalving" "I", .fieldLink RX1 31 "LandingFines$Landing" "changes" "I", .fieldLink RX1 34 "LandingFines$Landing" "timesShunned" "I"] ++ wsX10)
def wsX1_copyFrom : List Cond := .code yX1_copyFrom cX1_copyFrom 2 none :: ([.fieldLink RX1 9 "LandingFines$Landing" "isOpen" "Z", .fieldLink RX1 15 "LandingFines$Landing" "fare" "I", .fieldLink RX1 19 "LandingFines$Landing" "fine" "I", .fieldLink RX1 22 "LandingFines$Landing" "isShunned" "Z", .fieldLink RX1 25 "LandingFines$Landing" "minutesShunned" "I", .fieldLink RX1 28 "LandingFines$Landing" "minutesSinceHalving" "I", .fieldLink RX1 31 "LandingFines$Landing" "changes" "I", .fieldLink RX1 34 "LandingFines$Landing" "timesShunned" "I"] ++ wsX10)
def wsX1_canBeTaken : List Cond := .code yX1_canBeTaken cX1_canBeTaken 1 (some .boolean) :: ([.fieldLink RX1 9 "LandingFines$Landing" "isOpen" "Z", .fieldLink RX1 22 "LandingFines$Landing" "isShunned" "Z"] ++ wsX10)
def wsX1_addFine : List Cond := .code yX1_addFine cX1_addFine 3 (some .boolean) :: ([.fieldLink RX1 31 "LandingFines$Landing" "changes" "I", .fieldLink RX1 19 "LandingFines$Landing" "fine" "I", .constant RX1 37 (99999), .methodLink RX1 38 Lib.Math.min.name, .static Lib.Math.min.name, .initialized "java/lang/Math", .code Lib.Math.min.name Lib.Math.min.code 2 (some .int), .fieldLink RX1 22 "LandingFines$Landing" "isShunned" "Z", .fieldLink RX1 25 "LandingFines$Landing" "minutesShunned" "I", .fieldLink RX1 34 "LandingFines$Landing" "timesShunned" "I"] ++ wsX10)
def wsX1_passMinute : List Cond := .code yX1_passMinute cX1_passMinute 4 (some .boolean) :: ([.fieldLink RX1 28 "LandingFines$Landing" "minutesSinceHalving" "I", .fieldLink RX1 19 "LandingFines$Landing" "fine" "I", .fieldLink RX1 22 "LandingFines$Landing" "isShunned" "Z", .fieldLink RX1 25 "LandingFines$Landing" "minutesShunned" "I", .methodLink RX1 38 Lib.Math.min.name, .static Lib.Math.min.name, .initialized "java/lang/Math", .code Lib.Math.min.name Lib.Math.min.code 2 (some .int)] ++ wsX10)
def wsX1_tell : List Cond := .code yX1_tell cX1_tell 2 (some .int) :: ([.fieldLink RX1 9 "LandingFines$Landing" "isOpen" "Z", .fieldLink RX1 15 "LandingFines$Landing" "fare" "I", .fieldLink RX1 19 "LandingFines$Landing" "fine" "I", .fieldLink RX1 22 "LandingFines$Landing" "isShunned" "Z", .fieldLink RX1 25 "LandingFines$Landing" "minutesShunned" "I", .fieldLink RX1 28 "LandingFines$Landing" "minutesSinceHalving" "I", .fieldLink RX1 31 "LandingFines$Landing" "changes" "I", .fieldLink RX1 34 "LandingFines$Landing" "timesShunned" "I"] ++ wsX10)
def wsX2_init : List Cond := .code yX2_init cX2_init 1 none :: ([.methodLink RX2 3 objectInit, .instanceMethod objectInit, .code objectInit ⟨#[0xb1]⟩ 1 none, .arrayClass .char, .fieldLink RX2 9 "LandingFines$Pad" "signs" "[C", .fieldLink RX2 15 "LandingFines$Pad" "length" "I", .fieldLink RX2 19 "LandingFines$Pad" "place" "I", .fieldLink RX2 22 "LandingFines$Pad" "orderSign" "C", .fieldLink RX2 26 "LandingFines$Pad" "orderLanding" "I", .fieldLink RX2 29 "LandingFines$Pad" "orderNumber" "I"] ++ wsX20)
def wsX2_append : List Cond := .code yX2_append cX2_append 5 none :: ([.fieldLink RX2 15 "LandingFines$Pad" "length" "I", .fieldLink RX2 9 "LandingFines$Pad" "signs" "[C", .constantLong RX2 32 (255)] ++ wsX20)
def wsX2_clear : List Cond := .code yX2_clear cX2_clear 2 (some .int) :: ([.fieldLink RX2 15 "LandingFines$Pad" "length" "I"] ++ wsX20)
def wsX2_startReading : List Cond := .code yX2_startReading cX2_startReading 1 none :: ([.fieldLink RX2 19 "LandingFines$Pad" "place" "I"] ++ wsX20)
def wsX2_isAtDigit : List Cond := .code yX2_isAtDigit cX2_isAtDigit 1 (some .boolean) :: ([.fieldLink RX2 19 "LandingFines$Pad" "place" "I", .fieldLink RX2 15 "LandingFines$Pad" "length" "I", .fieldLink RX2 9 "LandingFines$Pad" "signs" "[C"] ++ wsX20)
def wsX2_readNumber : List Cond := .code yX2_readNumber cX2_readNumber 2 (some .boolean) :: ([.fieldLink RX2 29 "LandingFines$Pad" "orderNumber" "I", .fieldLink RX2 9 "LandingFines$Pad" "signs" "[C", .fieldLink RX2 19 "LandingFines$Pad" "place" "I", .methodLink RX2 51 yX2_isAtDigit, .instanceMethod yX2_isAtDigit, .selects RX2 yX2_isAtDigit yX2_isAtDigit, .initialized RX2, .code yX2_isAtDigit cX2_isAtDigit 1 (some .boolean), .fieldLink RX2 15 "LandingFines$Pad" "length" "I"] ++ wsX20)
def wsX2_readLanding : List Cond := .code yX2_readLanding cX2_readLanding 1 (some .boolean) :: ([.fieldLink RX2 9 "LandingFines$Pad" "signs" "[C", .fieldLink RX2 19 "LandingFines$Pad" "place" "I", .fieldLink RX2 26 "LandingFines$Pad" "orderLanding" "I", .methodLink RX2 51 yX2_isAtDigit, .instanceMethod yX2_isAtDigit, .selects RX2 yX2_isAtDigit yX2_isAtDigit, .initialized RX2, .code yX2_isAtDigit cX2_isAtDigit 1 (some .boolean), .fieldLink RX2 15 "LandingFines$Pad" "length" "I"] ++ wsX20)
def wsX2_readSign : List Cond := .code yX2_readSign cX2_readSign 2 (some .boolean) :: ([.fieldLink RX2 19 "LandingFines$Pad" "place" "I", .fieldLink RX2 15 "LandingFines$Pad" "length" "I", .fieldLink RX2 9 "LandingFines$Pad" "signs" "[C"] ++ wsX20)
def wsX2_readOrder : List Cond := .code yX2_readOrder cX2_readOrder 1 (some .boolean) :: ([.fieldLink RX2 19 "LandingFines$Pad" "place" "I", .fieldLink RX2 15 "LandingFines$Pad" "length" "I", .fieldLink RX2 9 "LandingFines$Pad" "signs" "[C", .fieldLink RX2 22 "LandingFines$Pad" "orderSign" "C", .methodLink RX2 45 yX2_readNumber, .instanceMethod yX2_readNumber, .selects RX2 yX2_readNumber yX2_readNumber, .initialized RX2, .code yX2_readNumber cX2_readNumber 2 (some .boolean), .fieldLink RX2 29 "LandingFines$Pad" "orderNumber" "I", .methodLink RX2 51 yX2_isAtDigit, .instanceMethod yX2_isAtDigit, .selects RX2 yX2_isAtDigit yX2_isAtDigit, .code yX2_isAtDigit cX2_isAtDigit 1 (some .boolean), .methodLink RX2 48 yX2_readLanding, .instanceMethod yX2_readLanding, .selects RX2 yX2_readLanding yX2_readLanding, .code yX2_readLanding cX2_readLanding 1 (some .boolean), .fieldLink RX2 26 "LandingFines$Pad" "orderLanding" "I", .methodLink RX2 41 yX2_readSign, .instanceMethod yX2_readSign, .selects RX2 yX2_readSign yX2_readSign, .code yX2_readSign cX2_readSign 2 (some .boolean)] ++ wsX20)
def wsX2_findFault_r1 : List Cond := [Cond.fieldLink RX2 19 "LandingFines$Pad" "place" "I", Cond.fieldLink RX2 15 "LandingFines$Pad" "length" "I", Cond.methodLink RX2 34 yX2_startReading, Cond.instanceMethod yX2_startReading, Cond.selects RX2 yX2_startReading yX2_startReading, Cond.initialized RX2, Cond.code yX2_startReading cX2_startReading 1 none, Cond.methodLink RX2 37 yX2_readOrder, Cond.instanceMethod yX2_readOrder, Cond.selects RX2 yX2_readOrder yX2_readOrder, Cond.code yX2_readOrder cX2_readOrder 1 (some .boolean), Cond.fieldLink RX2 9 "LandingFines$Pad" "signs" "[C", Cond.fieldLink RX2 22 "LandingFines$Pad" "orderSign" "C", Cond.methodLink RX2 45 yX2_readNumber, Cond.instanceMethod yX2_readNumber, Cond.selects RX2 yX2_readNumber yX2_readNumber, Cond.code yX2_readNumber cX2_readNumber 2 (some .boolean), Cond.fieldLink RX2 29 "LandingFines$Pad" "orderNumber" "I", Cond.methodLink RX2 51 yX2_isAtDigit, Cond.instanceMethod yX2_isAtDigit, Cond.selects RX2 yX2_isAtDigit yX2_isAtDigit, Cond.code yX2_isAtDigit cX2_isAtDigit 1 (some .boolean), Cond.methodLink RX2 48 yX2_readLanding, Cond.instanceMethod yX2_readLanding]
def wsX2_findFault_r2 : List Cond := [Cond.selects RX2 yX2_readLanding yX2_readLanding, Cond.code yX2_readLanding cX2_readLanding 1 (some .boolean), Cond.fieldLink RX2 26 "LandingFines$Pad" "orderLanding" "I", Cond.methodLink RX2 41 yX2_readSign, Cond.instanceMethod yX2_readSign, Cond.selects RX2 yX2_readSign yX2_readSign, Cond.code yX2_readSign cX2_readSign 2 (some .boolean)]
def wsX2_findFault : List Cond := .code yX2_findFault cX2_findFault 2 (some .int) :: ((wsX2_findFault_r1 ++ wsX2_findFault_r2) ++ wsX20)
def wsX3_init_r1 : List Cond := [Cond.methodLink RX3 3 objectInit, Cond.instanceMethod objectInit, Cond.code objectInit ⟨#[0xb1]⟩ 1 none, Cond.methodLink RX3 13 ⟨"[I", "clone", "()Ljava/lang/Object;"⟩, Cond.sameMethod "[I" "java/lang/Object" "clone" "()Ljava/lang/Object;", Cond.native ⟨"java/lang/Object", "clone", "()Ljava/lang/Object;"⟩, Cond.instanceMethod ⟨"java/lang/Object", "clone", "()Ljava/lang/Object;"⟩, Cond.selects "[I" ⟨"[I", "clone", "()Ljava/lang/Object;"⟩ ⟨"java/lang/Object", "clone", "()Ljava/lang/Object;"⟩, Cond.classLink RX3 14 "[I", Cond.fieldLink RX3 18 "LandingFines$River" "settings" "[I", Cond.classLink RX3 23 RX1, Cond.fieldLink RX3 25 "LandingFines$River" "landings" "[LLandingFines$Landing;", Cond.fieldLink RX3 29 "LandingFines$River" "landingCount" "I", Cond.fieldLink RX3 33 "LandingFines$River" "minutesSoFar" "I", Cond.fieldLink RX3 36 "LandingFines$River" "taken" "I", Cond.fieldLink RX3 39 "LandingFines$River" "switches" "I", Cond.classLink RX3 42 RX0, Cond.instantiable RX0 5, Cond.initialized RX0, Cond.fieldLink RX3 45 "LandingFines$River" "journal" "LLandingFines$Journal;", Cond.instantiable RX1 8, Cond.initialized RX1, Cond.instanceMethod yX0_init, Cond.code yX0_init cX0_init 1 none]
def wsX3_init_r2 : List Cond := [Cond.methodLink RX0 3 objectInit, Cond.arrayClass .int, Cond.fieldLink RX0 9 "LandingFines$Journal" "sorts" "[I", Cond.fieldLink RX0 15 "LandingFines$Journal" "places" "[I", Cond.fieldLink RX0 18 "LandingFines$Journal" "minutes" "[I", Cond.fieldLink RX0 21 "LandingFines$Journal" "size" "I", Cond.fieldLink RX0 25 "LandingFines$Journal" "next" "I", Cond.instanceMethod yX1_init, Cond.code yX1_init cX1_init 1 none, Cond.methodLink RX1 3 objectInit]
def wsX3_init : List Cond := .code yX3_init cX3_init 2 none :: ((wsX3_init_r1 ++ wsX3_init_r2) ++ wsX30 ++ wsX00 ++ wsX10)
def wsX3_copyFrom_r1 : List Cond := [Cond.fieldLink RX3 18 "LandingFines$River" "settings" "[I", Cond.methodLink RX3 50 arraycopyName, Cond.native arraycopyName, Cond.static arraycopyName, Cond.initialized "java/lang/System", Cond.fieldLink RX3 25 "LandingFines$River" "landings" "[LLandingFines$Landing;", Cond.fieldLink RX3 29 "LandingFines$River" "landingCount" "I", Cond.fieldLink RX3 33 "LandingFines$River" "minutesSoFar" "I", Cond.fieldLink RX3 36 "LandingFines$River" "taken" "I", Cond.fieldLink RX3 39 "LandingFines$River" "switches" "I", Cond.fieldLink RX3 45 "LandingFines$River" "journal" "LLandingFines$Journal;", Cond.methodLink RX3 56 yX1_copyFrom, Cond.instanceMethod yX1_copyFrom, Cond.selects RX1 yX1_copyFrom yX1_copyFrom, Cond.initialized RX1, Cond.code yX1_copyFrom cX1_copyFrom 2 none, Cond.fieldLink RX1 9 "LandingFines$Landing" "isOpen" "Z", Cond.fieldLink RX1 15 "LandingFines$Landing" "fare" "I", Cond.fieldLink RX1 19 "LandingFines$Landing" "fine" "I", Cond.fieldLink RX1 22 "LandingFines$Landing" "isShunned" "Z", Cond.fieldLink RX1 25 "LandingFines$Landing" "minutesShunned" "I", Cond.fieldLink RX1 28 "LandingFines$Landing" "minutesSinceHalving" "I", Cond.fieldLink RX1 31 "LandingFines$Landing" "changes" "I", Cond.fieldLink RX1 34 "LandingFines$Landing" "timesShunned" "I"]
def wsX3_copyFrom_r2 : List Cond := [Cond.methodLink RX3 60 yX0_copyFrom, Cond.instanceMethod yX0_copyFrom, Cond.selects RX0 yX0_copyFrom yX0_copyFrom, Cond.initialized RX0, Cond.code yX0_copyFrom cX0_copyFrom 2 none, Cond.fieldLink RX0 9 "LandingFines$Journal" "sorts" "[I", Cond.methodLink RX0 34 arraycopyName, Cond.fieldLink RX0 15 "LandingFines$Journal" "places" "[I", Cond.fieldLink RX0 18 "LandingFines$Journal" "minutes" "[I", Cond.fieldLink RX0 21 "LandingFines$Journal" "size" "I", Cond.fieldLink RX0 25 "LandingFines$Journal" "next" "I"]
def wsX3_copyFrom : List Cond := .code yX3_copyFrom cX3_copyFrom 3 none :: ((wsX3_copyFrom_r1 ++ wsX3_copyFrom_r2) ++ wsX30 ++ wsX10 ++ wsX00)
def wsX3_find : List Cond := .code yX3_find cX3_find 2 (some (.object "LandingFines$Landing")) :: ([.fieldLink RX3 29 "LandingFines$River" "landingCount" "I", .fieldLink RX3 25 "LandingFines$River" "landings" "[LLandingFines$Landing;"] ++ wsX30)
def wsX3_changeSetting : List Cond := .code yX3_changeSetting cX3_changeSetting 4 (some .int) :: ([.fieldLink RX3 18 "LandingFines$River" "settings" "[I"] ++ wsX30)
def wsX3_followTaken : List Cond := .code yX3_followTaken cX3_followTaken 3 none :: ([.fieldLink RX3 29 "LandingFines$River" "landingCount" "I", .fieldLink RX3 25 "LandingFines$River" "landings" "[LLandingFines$Landing;", .fieldLink RX3 88 "LandingFines$Landing" "fare" "I", .fieldLink RX3 36 "LandingFines$River" "taken" "I", .fieldLink RX3 39 "LandingFines$River" "switches" "I", .methodLink RX3 131 yX1_canBeTaken, .instanceMethod yX1_canBeTaken, .selects RX1 yX1_canBeTaken yX1_canBeTaken, .initialized RX1, .code yX1_canBeTaken cX1_canBeTaken 1 (some .boolean), .fieldLink RX1 9 "LandingFines$Landing" "isOpen" "Z", .fieldLink RX1 22 "LandingFines$Landing" "isShunned" "Z"] ++ wsX30 ++ wsX10)
def wsX3_addLanding_r1 : List Cond := [Cond.fieldLink RX3 29 "LandingFines$River" "landingCount" "I", Cond.fieldLink RX3 25 "LandingFines$River" "landings" "[LLandingFines$Landing;", Cond.methodLink RX3 69 yX1_arrive, Cond.instanceMethod yX1_arrive, Cond.selects RX1 yX1_arrive yX1_arrive, Cond.initialized RX1, Cond.code yX1_arrive cX1_arrive 2 none, Cond.fieldLink RX1 9 "LandingFines$Landing" "isOpen" "Z", Cond.fieldLink RX1 15 "LandingFines$Landing" "fare" "I", Cond.fieldLink RX1 19 "LandingFines$Landing" "fine" "I", Cond.fieldLink RX1 22 "LandingFines$Landing" "isShunned" "Z", Cond.fieldLink RX1 25 "LandingFines$Landing" "minutesShunned" "I", Cond.fieldLink RX1 28 "LandingFines$Landing" "minutesSinceHalving" "I", Cond.fieldLink RX1 31 "LandingFines$Landing" "changes" "I", Cond.fieldLink RX1 34 "LandingFines$Landing" "timesShunned" "I", Cond.methodLink RX3 73 yX3_followTaken, Cond.instanceMethod yX3_followTaken, Cond.selects RX3 yX3_followTaken yX3_followTaken, Cond.initialized RX3, Cond.code yX3_followTaken cX3_followTaken 3 none, Cond.fieldLink RX3 88 "LandingFines$Landing" "fare" "I", Cond.fieldLink RX3 36 "LandingFines$River" "taken" "I", Cond.fieldLink RX3 39 "LandingFines$River" "switches" "I", Cond.methodLink RX3 131 yX1_canBeTaken]
def wsX3_addLanding_r2 : List Cond := [Cond.instanceMethod yX1_canBeTaken, Cond.selects RX1 yX1_canBeTaken yX1_canBeTaken, Cond.code yX1_canBeTaken cX1_canBeTaken 1 (some .boolean)]
def wsX3_addLanding : List Cond := .code yX3_addLanding cX3_addLanding 2 (some .int) :: ((wsX3_addLanding_r1 ++ wsX3_addLanding_r2) ++ wsX30 ++ wsX10)
def wsX3_fineBySort : List Cond := .code yX3_fineBySort cX3_fineBySort 3 (some .boolean) :: ([.fieldLink RX3 18 "LandingFines$River" "settings" "[I", .methodLink RX3 102 yX1_addFine, .instanceMethod yX1_addFine, .selects RX1 yX1_addFine yX1_addFine, .initialized RX1, .code yX1_addFine cX1_addFine 3 (some .boolean), .fieldLink RX1 31 "LandingFines$Landing" "changes" "I", .fieldLink RX1 19 "LandingFines$Landing" "fine" "I", .constant RX1 37 (99999), .methodLink RX1 38 Lib.Math.min.name, .static Lib.Math.min.name, .initialized "java/lang/Math", .code Lib.Math.min.name Lib.Math.min.code 2 (some .int), .fieldLink RX1 22 "LandingFines$Landing" "isShunned" "Z", .fieldLink RX1 25 "LandingFines$Landing" "minutesShunned" "I", .fieldLink RX1 34 "LandingFines$Landing" "timesShunned" "I"] ++ wsX30 ++ wsX10)
def wsX3_finishChange_r1 : List Cond := [Cond.fieldLink RX3 45 "LandingFines$River" "journal" "LLandingFines$Journal;", Cond.fieldLink RX3 33 "LandingFines$River" "minutesSoFar" "I", Cond.fieldLink RX3 99 "LandingFines$Landing" "fine" "I", Cond.methodLink RX3 91 yX0_add, Cond.instanceMethod yX0_add, Cond.selects RX0 yX0_add yX0_add, Cond.initialized RX0, Cond.code yX0_add cX0_add 4 none, Cond.fieldLink RX0 9 "LandingFines$Journal" "sorts" "[I", Cond.fieldLink RX0 25 "LandingFines$Journal" "next" "I", Cond.fieldLink RX0 15 "LandingFines$Journal" "places" "[I", Cond.fieldLink RX0 18 "LandingFines$Journal" "minutes" "[I", Cond.fieldLink RX0 21 "LandingFines$Journal" "size" "I", Cond.methodLink RX0 28 Lib.Math.min.name, Cond.static Lib.Math.min.name, Cond.initialized "java/lang/Math", Cond.code Lib.Math.min.name Lib.Math.min.code 2 (some .int), Cond.methodLink RX3 95 yX3_fineBySort, Cond.instanceMethod yX3_fineBySort, Cond.selects RX3 yX3_fineBySort yX3_fineBySort, Cond.initialized RX3, Cond.code yX3_fineBySort cX3_fineBySort 3 (some .boolean), Cond.fieldLink RX3 18 "LandingFines$River" "settings" "[I", Cond.methodLink RX3 102 yX1_addFine]
def wsX3_finishChange_r2 : List Cond := [Cond.instanceMethod yX1_addFine, Cond.selects RX1 yX1_addFine yX1_addFine, Cond.initialized RX1, Cond.code yX1_addFine cX1_addFine 3 (some .boolean), Cond.fieldLink RX1 31 "LandingFines$Landing" "changes" "I", Cond.fieldLink RX1 19 "LandingFines$Landing" "fine" "I", Cond.constant RX1 37 (99999), Cond.methodLink RX1 38 Lib.Math.min.name, Cond.fieldLink RX1 22 "LandingFines$Landing" "isShunned" "Z", Cond.fieldLink RX1 25 "LandingFines$Landing" "minutesShunned" "I", Cond.fieldLink RX1 34 "LandingFines$Landing" "timesShunned" "I", Cond.methodLink RX3 73 yX3_followTaken, Cond.instanceMethod yX3_followTaken, Cond.selects RX3 yX3_followTaken yX3_followTaken, Cond.code yX3_followTaken cX3_followTaken 3 none, Cond.fieldLink RX3 29 "LandingFines$River" "landingCount" "I", Cond.fieldLink RX3 25 "LandingFines$River" "landings" "[LLandingFines$Landing;", Cond.fieldLink RX3 88 "LandingFines$Landing" "fare" "I", Cond.fieldLink RX3 36 "LandingFines$River" "taken" "I", Cond.fieldLink RX3 39 "LandingFines$River" "switches" "I", Cond.methodLink RX3 131 yX1_canBeTaken, Cond.instanceMethod yX1_canBeTaken, Cond.selects RX1 yX1_canBeTaken yX1_canBeTaken, Cond.code yX1_canBeTaken cX1_canBeTaken 1 (some .boolean)]
def wsX3_finishChange_r3 : List Cond := [Cond.fieldLink RX1 9 "LandingFines$Landing" "isOpen" "Z"]
def wsX3_finishChange : List Cond := .code yX3_finishChange cX3_finishChange 4 (some .int) :: ((wsX3_finishChange_r1 ++ (wsX3_finishChange_r2 ++ wsX3_finishChange_r3)) ++ wsX30 ++ wsX10 ++ wsX00)
def wsX3_openLanding_r1 : List Cond := [Cond.fieldLink RX3 80 "LandingFines$Landing" "isOpen" "Z", Cond.methodLink RX3 76 yX3_find, Cond.instanceMethod yX3_find, Cond.selects RX3 yX3_find yX3_find, Cond.initialized RX3, Cond.code yX3_find cX3_find 2 (some (.object "LandingFines$Landing")), Cond.fieldLink RX3 29 "LandingFines$River" "landingCount" "I", Cond.fieldLink RX3 25 "LandingFines$River" "landings" "[LLandingFines$Landing;", Cond.methodLink RX3 84 yX3_finishChange, Cond.instanceMethod yX3_finishChange, Cond.selects RX3 yX3_finishChange yX3_finishChange, Cond.code yX3_finishChange cX3_finishChange 4 (some .int), Cond.fieldLink RX3 45 "LandingFines$River" "journal" "LLandingFines$Journal;", Cond.fieldLink RX3 33 "LandingFines$River" "minutesSoFar" "I", Cond.fieldLink RX3 99 "LandingFines$Landing" "fine" "I", Cond.methodLink RX3 91 yX0_add, Cond.instanceMethod yX0_add, Cond.selects RX0 yX0_add yX0_add, Cond.initialized RX0, Cond.code yX0_add cX0_add 4 none, Cond.fieldLink RX0 9 "LandingFines$Journal" "sorts" "[I", Cond.fieldLink RX0 25 "LandingFines$Journal" "next" "I", Cond.fieldLink RX0 15 "LandingFines$Journal" "places" "[I", Cond.fieldLink RX0 18 "LandingFines$Journal" "minutes" "[I"]
def wsX3_openLanding_r2 : List Cond := [Cond.fieldLink RX0 21 "LandingFines$Journal" "size" "I", Cond.methodLink RX0 28 Lib.Math.min.name, Cond.static Lib.Math.min.name, Cond.initialized "java/lang/Math", Cond.code Lib.Math.min.name Lib.Math.min.code 2 (some .int), Cond.methodLink RX3 95 yX3_fineBySort, Cond.instanceMethod yX3_fineBySort, Cond.selects RX3 yX3_fineBySort yX3_fineBySort, Cond.code yX3_fineBySort cX3_fineBySort 3 (some .boolean), Cond.fieldLink RX3 18 "LandingFines$River" "settings" "[I", Cond.methodLink RX3 102 yX1_addFine, Cond.instanceMethod yX1_addFine, Cond.selects RX1 yX1_addFine yX1_addFine, Cond.initialized RX1, Cond.code yX1_addFine cX1_addFine 3 (some .boolean), Cond.fieldLink RX1 31 "LandingFines$Landing" "changes" "I", Cond.fieldLink RX1 19 "LandingFines$Landing" "fine" "I", Cond.constant RX1 37 (99999), Cond.methodLink RX1 38 Lib.Math.min.name, Cond.fieldLink RX1 22 "LandingFines$Landing" "isShunned" "Z", Cond.fieldLink RX1 25 "LandingFines$Landing" "minutesShunned" "I", Cond.fieldLink RX1 34 "LandingFines$Landing" "timesShunned" "I", Cond.methodLink RX3 73 yX3_followTaken, Cond.instanceMethod yX3_followTaken]
def wsX3_openLanding_r3 : List Cond := [Cond.selects RX3 yX3_followTaken yX3_followTaken, Cond.code yX3_followTaken cX3_followTaken 3 none, Cond.fieldLink RX3 88 "LandingFines$Landing" "fare" "I", Cond.fieldLink RX3 36 "LandingFines$River" "taken" "I", Cond.fieldLink RX3 39 "LandingFines$River" "switches" "I", Cond.methodLink RX3 131 yX1_canBeTaken, Cond.instanceMethod yX1_canBeTaken, Cond.selects RX1 yX1_canBeTaken yX1_canBeTaken, Cond.code yX1_canBeTaken cX1_canBeTaken 1 (some .boolean), Cond.fieldLink RX1 9 "LandingFines$Landing" "isOpen" "Z"]
def wsX3_openLanding : List Cond := .code yX3_openLanding cX3_openLanding 3 (some .int) :: ((wsX3_openLanding_r1 ++ (wsX3_openLanding_r2 ++ wsX3_openLanding_r3)) ++ wsX10 ++ wsX30 ++ wsX00)
def wsX3_closeLanding_r1 : List Cond := [Cond.fieldLink RX3 80 "LandingFines$Landing" "isOpen" "Z", Cond.methodLink RX3 76 yX3_find, Cond.instanceMethod yX3_find, Cond.selects RX3 yX3_find yX3_find, Cond.initialized RX3, Cond.code yX3_find cX3_find 2 (some (.object "LandingFines$Landing")), Cond.fieldLink RX3 29 "LandingFines$River" "landingCount" "I", Cond.fieldLink RX3 25 "LandingFines$River" "landings" "[LLandingFines$Landing;", Cond.methodLink RX3 84 yX3_finishChange, Cond.instanceMethod yX3_finishChange, Cond.selects RX3 yX3_finishChange yX3_finishChange, Cond.code yX3_finishChange cX3_finishChange 4 (some .int), Cond.fieldLink RX3 45 "LandingFines$River" "journal" "LLandingFines$Journal;", Cond.fieldLink RX3 33 "LandingFines$River" "minutesSoFar" "I", Cond.fieldLink RX3 99 "LandingFines$Landing" "fine" "I", Cond.methodLink RX3 91 yX0_add, Cond.instanceMethod yX0_add, Cond.selects RX0 yX0_add yX0_add, Cond.initialized RX0, Cond.code yX0_add cX0_add 4 none, Cond.fieldLink RX0 9 "LandingFines$Journal" "sorts" "[I", Cond.fieldLink RX0 25 "LandingFines$Journal" "next" "I", Cond.fieldLink RX0 15 "LandingFines$Journal" "places" "[I", Cond.fieldLink RX0 18 "LandingFines$Journal" "minutes" "[I"]
def wsX3_closeLanding_r2 : List Cond := [Cond.fieldLink RX0 21 "LandingFines$Journal" "size" "I", Cond.methodLink RX0 28 Lib.Math.min.name, Cond.static Lib.Math.min.name, Cond.initialized "java/lang/Math", Cond.code Lib.Math.min.name Lib.Math.min.code 2 (some .int), Cond.methodLink RX3 95 yX3_fineBySort, Cond.instanceMethod yX3_fineBySort, Cond.selects RX3 yX3_fineBySort yX3_fineBySort, Cond.code yX3_fineBySort cX3_fineBySort 3 (some .boolean), Cond.fieldLink RX3 18 "LandingFines$River" "settings" "[I", Cond.methodLink RX3 102 yX1_addFine, Cond.instanceMethod yX1_addFine, Cond.selects RX1 yX1_addFine yX1_addFine, Cond.initialized RX1, Cond.code yX1_addFine cX1_addFine 3 (some .boolean), Cond.fieldLink RX1 31 "LandingFines$Landing" "changes" "I", Cond.fieldLink RX1 19 "LandingFines$Landing" "fine" "I", Cond.constant RX1 37 (99999), Cond.methodLink RX1 38 Lib.Math.min.name, Cond.fieldLink RX1 22 "LandingFines$Landing" "isShunned" "Z", Cond.fieldLink RX1 25 "LandingFines$Landing" "minutesShunned" "I", Cond.fieldLink RX1 34 "LandingFines$Landing" "timesShunned" "I", Cond.methodLink RX3 73 yX3_followTaken, Cond.instanceMethod yX3_followTaken]
def wsX3_closeLanding_r3 : List Cond := [Cond.selects RX3 yX3_followTaken yX3_followTaken, Cond.code yX3_followTaken cX3_followTaken 3 none, Cond.fieldLink RX3 88 "LandingFines$Landing" "fare" "I", Cond.fieldLink RX3 36 "LandingFines$River" "taken" "I", Cond.fieldLink RX3 39 "LandingFines$River" "switches" "I", Cond.methodLink RX3 131 yX1_canBeTaken, Cond.instanceMethod yX1_canBeTaken, Cond.selects RX1 yX1_canBeTaken yX1_canBeTaken, Cond.code yX1_canBeTaken cX1_canBeTaken 1 (some .boolean), Cond.fieldLink RX1 9 "LandingFines$Landing" "isOpen" "Z"]
def wsX3_closeLanding : List Cond := .code yX3_closeLanding cX3_closeLanding 3 (some .int) :: ((wsX3_closeLanding_r1 ++ (wsX3_closeLanding_r2 ++ wsX3_closeLanding_r3)) ++ wsX10 ++ wsX30 ++ wsX00)
def wsX3_changePrice_r1 : List Cond := [Cond.fieldLink RX3 88 "LandingFines$Landing" "fare" "I", Cond.methodLink RX3 76 yX3_find, Cond.instanceMethod yX3_find, Cond.selects RX3 yX3_find yX3_find, Cond.initialized RX3, Cond.code yX3_find cX3_find 2 (some (.object "LandingFines$Landing")), Cond.fieldLink RX3 29 "LandingFines$River" "landingCount" "I", Cond.fieldLink RX3 25 "LandingFines$River" "landings" "[LLandingFines$Landing;", Cond.methodLink RX3 84 yX3_finishChange, Cond.instanceMethod yX3_finishChange, Cond.selects RX3 yX3_finishChange yX3_finishChange, Cond.code yX3_finishChange cX3_finishChange 4 (some .int), Cond.fieldLink RX3 45 "LandingFines$River" "journal" "LLandingFines$Journal;", Cond.fieldLink RX3 33 "LandingFines$River" "minutesSoFar" "I", Cond.fieldLink RX3 99 "LandingFines$Landing" "fine" "I", Cond.methodLink RX3 91 yX0_add, Cond.instanceMethod yX0_add, Cond.selects RX0 yX0_add yX0_add, Cond.initialized RX0, Cond.code yX0_add cX0_add 4 none, Cond.fieldLink RX0 9 "LandingFines$Journal" "sorts" "[I", Cond.fieldLink RX0 25 "LandingFines$Journal" "next" "I", Cond.fieldLink RX0 15 "LandingFines$Journal" "places" "[I", Cond.fieldLink RX0 18 "LandingFines$Journal" "minutes" "[I"]
def wsX3_changePrice_r2 : List Cond := [Cond.fieldLink RX0 21 "LandingFines$Journal" "size" "I", Cond.methodLink RX0 28 Lib.Math.min.name, Cond.static Lib.Math.min.name, Cond.initialized "java/lang/Math", Cond.code Lib.Math.min.name Lib.Math.min.code 2 (some .int), Cond.methodLink RX3 95 yX3_fineBySort, Cond.instanceMethod yX3_fineBySort, Cond.selects RX3 yX3_fineBySort yX3_fineBySort, Cond.code yX3_fineBySort cX3_fineBySort 3 (some .boolean), Cond.fieldLink RX3 18 "LandingFines$River" "settings" "[I", Cond.methodLink RX3 102 yX1_addFine, Cond.instanceMethod yX1_addFine, Cond.selects RX1 yX1_addFine yX1_addFine, Cond.initialized RX1, Cond.code yX1_addFine cX1_addFine 3 (some .boolean), Cond.fieldLink RX1 31 "LandingFines$Landing" "changes" "I", Cond.fieldLink RX1 19 "LandingFines$Landing" "fine" "I", Cond.constant RX1 37 (99999), Cond.methodLink RX1 38 Lib.Math.min.name, Cond.fieldLink RX1 22 "LandingFines$Landing" "isShunned" "Z", Cond.fieldLink RX1 25 "LandingFines$Landing" "minutesShunned" "I", Cond.fieldLink RX1 34 "LandingFines$Landing" "timesShunned" "I", Cond.methodLink RX3 73 yX3_followTaken, Cond.instanceMethod yX3_followTaken]
def wsX3_changePrice_r3 : List Cond := [Cond.selects RX3 yX3_followTaken yX3_followTaken, Cond.code yX3_followTaken cX3_followTaken 3 none, Cond.fieldLink RX3 36 "LandingFines$River" "taken" "I", Cond.fieldLink RX3 39 "LandingFines$River" "switches" "I", Cond.methodLink RX3 131 yX1_canBeTaken, Cond.instanceMethod yX1_canBeTaken, Cond.selects RX1 yX1_canBeTaken yX1_canBeTaken, Cond.code yX1_canBeTaken cX1_canBeTaken 1 (some .boolean), Cond.fieldLink RX1 9 "LandingFines$Landing" "isOpen" "Z"]
def wsX3_changePrice : List Cond := .code yX3_changePrice cX3_changePrice 4 (some .int) :: ((wsX3_changePrice_r1 ++ (wsX3_changePrice_r2 ++ wsX3_changePrice_r3)) ++ wsX10 ++ wsX30 ++ wsX00)
def wsX3_passMinuteOf : List Cond := .code yX3_passMinuteOf cX3_passMinuteOf 2 (some .boolean) :: ([.fieldLink RX3 18 "LandingFines$River" "settings" "[I", .methodLink RX3 115 yX1_passMinute, .instanceMethod yX1_passMinute, .selects RX1 yX1_passMinute yX1_passMinute, .initialized RX1, .code yX1_passMinute cX1_passMinute 4 (some .boolean), .fieldLink RX1 28 "LandingFines$Landing" "minutesSinceHalving" "I", .fieldLink RX1 19 "LandingFines$Landing" "fine" "I", .fieldLink RX1 22 "LandingFines$Landing" "isShunned" "Z", .fieldLink RX1 25 "LandingFines$Landing" "minutesShunned" "I", .methodLink RX1 38 Lib.Math.min.name, .static Lib.Math.min.name, .initialized "java/lang/Math", .code Lib.Math.min.name Lib.Math.min.code 2 (some .int)] ++ wsX30 ++ wsX10)
def wsX3_passOneMinute_r1 : List Cond := [Cond.fieldLink RX3 33 "LandingFines$River" "minutesSoFar" "I", Cond.fieldLink RX3 29 "LandingFines$River" "landingCount" "I", Cond.fieldLink RX3 25 "LandingFines$River" "landings" "[LLandingFines$Landing;", Cond.fieldLink RX3 45 "LandingFines$River" "journal" "LLandingFines$Journal;", Cond.methodLink RX3 111 yX3_passMinuteOf, Cond.instanceMethod yX3_passMinuteOf, Cond.selects RX3 yX3_passMinuteOf yX3_passMinuteOf, Cond.initialized RX3, Cond.code yX3_passMinuteOf cX3_passMinuteOf 2 (some .boolean), Cond.fieldLink RX3 18 "LandingFines$River" "settings" "[I", Cond.methodLink RX3 115 yX1_passMinute, Cond.instanceMethod yX1_passMinute, Cond.selects RX1 yX1_passMinute yX1_passMinute, Cond.initialized RX1, Cond.code yX1_passMinute cX1_passMinute 4 (some .boolean), Cond.fieldLink RX1 28 "LandingFines$Landing" "minutesSinceHalving" "I", Cond.fieldLink RX1 19 "LandingFines$Landing" "fine" "I", Cond.fieldLink RX1 22 "LandingFines$Landing" "isShunned" "Z", Cond.fieldLink RX1 25 "LandingFines$Landing" "minutesShunned" "I", Cond.methodLink RX1 38 Lib.Math.min.name, Cond.static Lib.Math.min.name, Cond.initialized "java/lang/Math", Cond.code Lib.Math.min.name Lib.Math.min.code 2 (some .int), Cond.methodLink RX3 91 yX0_add]
def wsX3_passOneMinute_r2 : List Cond := [Cond.instanceMethod yX0_add, Cond.selects RX0 yX0_add yX0_add, Cond.initialized RX0, Cond.code yX0_add cX0_add 4 none, Cond.fieldLink RX0 9 "LandingFines$Journal" "sorts" "[I", Cond.fieldLink RX0 25 "LandingFines$Journal" "next" "I", Cond.fieldLink RX0 15 "LandingFines$Journal" "places" "[I", Cond.fieldLink RX0 18 "LandingFines$Journal" "minutes" "[I", Cond.fieldLink RX0 21 "LandingFines$Journal" "size" "I", Cond.methodLink RX0 28 Lib.Math.min.name, Cond.methodLink RX3 73 yX3_followTaken, Cond.instanceMethod yX3_followTaken, Cond.selects RX3 yX3_followTaken yX3_followTaken, Cond.code yX3_followTaken cX3_followTaken 3 none, Cond.fieldLink RX3 88 "LandingFines$Landing" "fare" "I", Cond.fieldLink RX3 36 "LandingFines$River" "taken" "I", Cond.fieldLink RX3 39 "LandingFines$River" "switches" "I", Cond.methodLink RX3 131 yX1_canBeTaken, Cond.instanceMethod yX1_canBeTaken, Cond.selects RX1 yX1_canBeTaken yX1_canBeTaken, Cond.code yX1_canBeTaken cX1_canBeTaken 1 (some .boolean), Cond.fieldLink RX1 9 "LandingFines$Landing" "isOpen" "Z"]
def wsX3_passOneMinute : List Cond := .code yX3_passOneMinute cX3_passOneMinute 3 (some .int) :: ((wsX3_passOneMinute_r1 ++ wsX3_passOneMinute_r2) ++ wsX30 ++ wsX10 ++ wsX00)
def wsX3_passMinutes_r1 : List Cond := [Cond.fieldLink RX3 33 "LandingFines$River" "minutesSoFar" "I", Cond.constant RX3 106 (99999), Cond.methodLink RX3 107 yX3_passOneMinute, Cond.instanceMethod yX3_passOneMinute, Cond.selects RX3 yX3_passOneMinute yX3_passOneMinute, Cond.initialized RX3, Cond.code yX3_passOneMinute cX3_passOneMinute 3 (some .int), Cond.fieldLink RX3 29 "LandingFines$River" "landingCount" "I", Cond.fieldLink RX3 25 "LandingFines$River" "landings" "[LLandingFines$Landing;", Cond.fieldLink RX3 45 "LandingFines$River" "journal" "LLandingFines$Journal;", Cond.methodLink RX3 111 yX3_passMinuteOf, Cond.instanceMethod yX3_passMinuteOf, Cond.selects RX3 yX3_passMinuteOf yX3_passMinuteOf, Cond.code yX3_passMinuteOf cX3_passMinuteOf 2 (some .boolean), Cond.fieldLink RX3 18 "LandingFines$River" "settings" "[I", Cond.methodLink RX3 115 yX1_passMinute, Cond.instanceMethod yX1_passMinute, Cond.selects RX1 yX1_passMinute yX1_passMinute, Cond.initialized RX1, Cond.code yX1_passMinute cX1_passMinute 4 (some .boolean), Cond.fieldLink RX1 28 "LandingFines$Landing" "minutesSinceHalving" "I", Cond.fieldLink RX1 19 "LandingFines$Landing" "fine" "I", Cond.fieldLink RX1 22 "LandingFines$Landing" "isShunned" "Z", Cond.fieldLink RX1 25 "LandingFines$Landing" "minutesShunned" "I"]
def wsX3_passMinutes_r2 : List Cond := [Cond.methodLink RX1 38 Lib.Math.min.name, Cond.static Lib.Math.min.name, Cond.initialized "java/lang/Math", Cond.code Lib.Math.min.name Lib.Math.min.code 2 (some .int), Cond.methodLink RX3 91 yX0_add, Cond.instanceMethod yX0_add, Cond.selects RX0 yX0_add yX0_add, Cond.initialized RX0, Cond.code yX0_add cX0_add 4 none, Cond.fieldLink RX0 9 "LandingFines$Journal" "sorts" "[I", Cond.fieldLink RX0 25 "LandingFines$Journal" "next" "I", Cond.fieldLink RX0 15 "LandingFines$Journal" "places" "[I", Cond.fieldLink RX0 18 "LandingFines$Journal" "minutes" "[I", Cond.fieldLink RX0 21 "LandingFines$Journal" "size" "I", Cond.methodLink RX0 28 Lib.Math.min.name, Cond.methodLink RX3 73 yX3_followTaken, Cond.instanceMethod yX3_followTaken, Cond.selects RX3 yX3_followTaken yX3_followTaken, Cond.code yX3_followTaken cX3_followTaken 3 none, Cond.fieldLink RX3 88 "LandingFines$Landing" "fare" "I", Cond.fieldLink RX3 36 "LandingFines$River" "taken" "I", Cond.fieldLink RX3 39 "LandingFines$River" "switches" "I", Cond.methodLink RX3 131 yX1_canBeTaken, Cond.instanceMethod yX1_canBeTaken]
def wsX3_passMinutes_r3 : List Cond := [Cond.selects RX1 yX1_canBeTaken yX1_canBeTaken, Cond.code yX1_canBeTaken cX1_canBeTaken 1 (some .boolean), Cond.fieldLink RX1 9 "LandingFines$Landing" "isOpen" "Z"]
def wsX3_passMinutes : List Cond := .code yX3_passMinutes cX3_passMinutes 4 (some .int) :: ((wsX3_passMinutes_r1 ++ (wsX3_passMinutes_r2 ++ wsX3_passMinutes_r3)) ++ wsX30 ++ wsX10 ++ wsX00)
def wsX3_fade : List Cond := .code yX3_fade cX3_fade 5 none :: ([.fieldLink RX3 18 "LandingFines$River" "settings" "[I", .methodLink RX3 119 Lib.Math.max.name, .static Lib.Math.max.name, .initialized "java/lang/Math", .code Lib.Math.max.name Lib.Math.max.code 2 (some .int), .fieldLink RX3 125 "LandingFines$Landing" "minutesSinceHalving" "I", .fieldLink RX3 99 "LandingFines$Landing" "fine" "I", .methodLink RX3 128 Lib.Math.min.name, .static Lib.Math.min.name, .code Lib.Math.min.name Lib.Math.min.code 2 (some .int)] ++ wsX30 ++ wsX10)
def wsX3_rankOf : List Cond := .code yX3_rankOf cX3_rankOf 6 (some .int) :: ([.fieldLink RX3 25 "LandingFines$River" "landings" "[LLandingFines$Landing;", .fieldLink RX3 88 "LandingFines$Landing" "fare" "I", .fieldLink RX3 29 "LandingFines$River" "landingCount" "I", .methodLink RX3 131 yX1_canBeTaken, .instanceMethod yX1_canBeTaken, .selects RX1 yX1_canBeTaken yX1_canBeTaken, .initialized RX1, .code yX1_canBeTaken cX1_canBeTaken 1 (some .boolean), .fieldLink RX1 9 "LandingFines$Landing" "isOpen" "Z", .fieldLink RX1 22 "LandingFines$Landing" "isShunned" "Z"] ++ wsX30 ++ wsX10)
def wsX3_chosen : List Cond := .code yX3_chosen cX3_chosen 3 (some .int) :: ([.fieldLink RX3 29 "LandingFines$River" "landingCount" "I", .fieldLink RX3 25 "LandingFines$River" "landings" "[LLandingFines$Landing;", .methodLink RX3 131 yX1_canBeTaken, .instanceMethod yX1_canBeTaken, .selects RX1 yX1_canBeTaken yX1_canBeTaken, .initialized RX1, .code yX1_canBeTaken cX1_canBeTaken 1 (some .boolean), .fieldLink RX1 9 "LandingFines$Landing" "isOpen" "Z", .fieldLink RX1 22 "LandingFines$Landing" "isShunned" "Z", .methodLink RX3 135 yX3_rankOf, .instanceMethod yX3_rankOf, .selects RX3 yX3_rankOf yX3_rankOf, .initialized RX3, .code yX3_rankOf cX3_rankOf 6 (some .int), .fieldLink RX3 88 "LandingFines$Landing" "fare" "I"] ++ wsX30 ++ wsX10)
def wsX3_openOnes : List Cond := .code yX3_openOnes cX3_openOnes 3 (some .int) :: ([.fieldLink RX3 29 "LandingFines$River" "landingCount" "I", .fieldLink RX3 25 "LandingFines$River" "landings" "[LLandingFines$Landing;", .fieldLink RX3 80 "LandingFines$Landing" "isOpen" "Z"] ++ wsX30 ++ wsX10)
def wsX3_shunnedOnes : List Cond := .code yX3_shunnedOnes cX3_shunnedOnes 3 (some .int) :: ([.fieldLink RX3 29 "LandingFines$River" "landingCount" "I", .fieldLink RX3 25 "LandingFines$River" "landings" "[LLandingFines$Landing;", .fieldLink RX3 148 "LandingFines$Landing" "isShunned" "Z"] ++ wsX30 ++ wsX10)
def wsX3_tell : List Cond := .code yX3_tell cX3_tell 2 (some .int) :: ([.fieldLink RX3 33 "LandingFines$River" "minutesSoFar" "I", .fieldLink RX3 29 "LandingFines$River" "landingCount" "I", .fieldLink RX3 36 "LandingFines$River" "taken" "I", .fieldLink RX3 39 "LandingFines$River" "switches" "I", .fieldLink RX3 45 "LandingFines$River" "journal" "LLandingFines$Journal;", .fieldLink RX3 145 "LandingFines$Journal" "size" "I", .fieldLink RX3 18 "LandingFines$River" "settings" "[I", .methodLink RX3 139 yX3_openOnes, .instanceMethod yX3_openOnes, .selects RX3 yX3_openOnes yX3_openOnes, .initialized RX3, .code yX3_openOnes cX3_openOnes 3 (some .int), .fieldLink RX3 25 "LandingFines$River" "landings" "[LLandingFines$Landing;", .fieldLink RX3 80 "LandingFines$Landing" "isOpen" "Z", .methodLink RX3 142 yX3_shunnedOnes, .instanceMethod yX3_shunnedOnes, .selects RX3 yX3_shunnedOnes yX3_shunnedOnes, .code yX3_shunnedOnes cX3_shunnedOnes 3 (some .int), .fieldLink RX3 148 "LandingFines$Landing" "isShunned" "Z"] ++ wsX30 ++ wsX00 ++ wsX10)
def wsX4_init_r1 : List Cond := [Cond.methodLink RX4 1 objectInit, Cond.instanceMethod objectInit, Cond.code objectInit ⟨#[0xb1]⟩ 1 none, Cond.classLink RX4 7 RX3, Cond.instantiable RX3 7, Cond.initialized RX3, Cond.fieldLink RX4 10 "LandingFines" "river" "LLandingFines$River;", Cond.fieldLink RX4 16 "LandingFines" "history" "[LLandingFines$River;", Cond.fieldLink RX4 20 "LandingFines" "historySize" "I", Cond.fieldLink RX4 24 "LandingFines" "slots" "[LLandingFines$River;", Cond.arrayClass .boolean, Cond.fieldLink RX4 27 "LandingFines" "slotUsed" "[Z", Cond.classLink RX4 31 RX2, Cond.instantiable RX2 6, Cond.initialized RX2, Cond.fieldLink RX4 34 "LandingFines" "pad" "LLandingFines$Pad;", Cond.classLink RX4 38 RX1, Cond.instantiable RX1 8, Cond.initialized RX1, Cond.fieldLink RX4 41 "LandingFines" "trial" "LLandingFines$Landing;", Cond.methodLink RX4 9 yX3_init, Cond.instanceMethod yX3_init, Cond.code yX3_init cX3_init 2 none, Cond.methodLink RX3 3 objectInit]
def wsX4_init_r2 : List Cond := [Cond.methodLink RX3 13 ⟨"[I", "clone", "()Ljava/lang/Object;"⟩, Cond.sameMethod "[I" "java/lang/Object" "clone" "()Ljava/lang/Object;", Cond.native ⟨"java/lang/Object", "clone", "()Ljava/lang/Object;"⟩, Cond.instanceMethod ⟨"java/lang/Object", "clone", "()Ljava/lang/Object;"⟩, Cond.selects "[I" ⟨"[I", "clone", "()Ljava/lang/Object;"⟩ ⟨"java/lang/Object", "clone", "()Ljava/lang/Object;"⟩, Cond.classLink RX3 14 "[I", Cond.fieldLink RX3 18 "LandingFines$River" "settings" "[I", Cond.classLink RX3 23 RX1, Cond.fieldLink RX3 25 "LandingFines$River" "landings" "[LLandingFines$Landing;", Cond.fieldLink RX3 29 "LandingFines$River" "landingCount" "I", Cond.fieldLink RX3 33 "LandingFines$River" "minutesSoFar" "I", Cond.fieldLink RX3 36 "LandingFines$River" "taken" "I", Cond.fieldLink RX3 39 "LandingFines$River" "switches" "I", Cond.classLink RX3 42 RX0, Cond.instantiable RX0 5, Cond.initialized RX0, Cond.fieldLink RX3 45 "LandingFines$River" "journal" "LLandingFines$Journal;", Cond.instanceMethod yX0_init, Cond.code yX0_init cX0_init 1 none, Cond.methodLink RX0 3 objectInit, Cond.arrayClass .int, Cond.fieldLink RX0 9 "LandingFines$Journal" "sorts" "[I", Cond.fieldLink RX0 15 "LandingFines$Journal" "places" "[I", Cond.fieldLink RX0 18 "LandingFines$Journal" "minutes" "[I"]
def wsX4_init_r3 : List Cond := [Cond.fieldLink RX0 21 "LandingFines$Journal" "size" "I", Cond.fieldLink RX0 25 "LandingFines$Journal" "next" "I", Cond.instanceMethod yX1_init, Cond.code yX1_init cX1_init 1 none, Cond.methodLink RX1 3 objectInit, Cond.instanceMethod yX2_init, Cond.code yX2_init cX2_init 1 none, Cond.methodLink RX2 3 objectInit, Cond.arrayClass .char, Cond.fieldLink RX2 9 "LandingFines$Pad" "signs" "[C", Cond.fieldLink RX2 15 "LandingFines$Pad" "length" "I", Cond.fieldLink RX2 19 "LandingFines$Pad" "place" "I", Cond.fieldLink RX2 22 "LandingFines$Pad" "orderSign" "C", Cond.fieldLink RX2 26 "LandingFines$Pad" "orderLanding" "I", Cond.fieldLink RX2 29 "LandingFines$Pad" "orderNumber" "I"]
def wsX4_init : List Cond := .code yX4_init cX4_init 2 none :: ((wsX4_init_r1 ++ (wsX4_init_r2 ++ wsX4_init_r3)) ++ wsX30 ++ wsX40 ++ wsX20 ++ wsX10 ++ wsX00)
def wsX4_keepState_r1 : List Cond := [Cond.fieldLink RX4 16 "LandingFines" "history" "[LLandingFines$River;", Cond.fieldLink RX4 20 "LandingFines" "historySize" "I", Cond.fieldLink RX4 10 "LandingFines" "river" "LLandingFines$River;", Cond.methodLink RX4 171 yX3_copyFrom, Cond.instanceMethod yX3_copyFrom, Cond.selects RX3 yX3_copyFrom yX3_copyFrom, Cond.initialized RX3, Cond.code yX3_copyFrom cX3_copyFrom 3 none, Cond.fieldLink RX3 18 "LandingFines$River" "settings" "[I", Cond.methodLink RX3 50 arraycopyName, Cond.native arraycopyName, Cond.static arraycopyName, Cond.initialized "java/lang/System", Cond.fieldLink RX3 25 "LandingFines$River" "landings" "[LLandingFines$Landing;", Cond.fieldLink RX3 29 "LandingFines$River" "landingCount" "I", Cond.fieldLink RX3 33 "LandingFines$River" "minutesSoFar" "I", Cond.fieldLink RX3 36 "LandingFines$River" "taken" "I", Cond.fieldLink RX3 39 "LandingFines$River" "switches" "I", Cond.fieldLink RX3 45 "LandingFines$River" "journal" "LLandingFines$Journal;", Cond.methodLink RX3 56 yX1_copyFrom, Cond.instanceMethod yX1_copyFrom, Cond.selects RX1 yX1_copyFrom yX1_copyFrom, Cond.initialized RX1, Cond.code yX1_copyFrom cX1_copyFrom 2 none]
def wsX4_keepState_r2 : List Cond := [Cond.fieldLink RX1 9 "LandingFines$Landing" "isOpen" "Z", Cond.fieldLink RX1 15 "LandingFines$Landing" "fare" "I", Cond.fieldLink RX1 19 "LandingFines$Landing" "fine" "I", Cond.fieldLink RX1 22 "LandingFines$Landing" "isShunned" "Z", Cond.fieldLink RX1 25 "LandingFines$Landing" "minutesShunned" "I", Cond.fieldLink RX1 28 "LandingFines$Landing" "minutesSinceHalving" "I", Cond.fieldLink RX1 31 "LandingFines$Landing" "changes" "I", Cond.fieldLink RX1 34 "LandingFines$Landing" "timesShunned" "I", Cond.methodLink RX3 60 yX0_copyFrom, Cond.instanceMethod yX0_copyFrom, Cond.selects RX0 yX0_copyFrom yX0_copyFrom, Cond.initialized RX0, Cond.code yX0_copyFrom cX0_copyFrom 2 none, Cond.fieldLink RX0 9 "LandingFines$Journal" "sorts" "[I", Cond.methodLink RX0 34 arraycopyName, Cond.fieldLink RX0 15 "LandingFines$Journal" "places" "[I", Cond.fieldLink RX0 18 "LandingFines$Journal" "minutes" "[I", Cond.fieldLink RX0 21 "LandingFines$Journal" "size" "I", Cond.fieldLink RX0 25 "LandingFines$Journal" "next" "I"]
def wsX4_keepState : List Cond := .code yX4_keepState cX4_keepState 1 none :: ((wsX4_keepState_r1 ++ wsX4_keepState_r2) ++ wsX40 ++ wsX30 ++ wsX10 ++ wsX00)
def wsX4_dropOldest : List Cond := .code yX4_dropOldest cX4_dropOldest 3 none :: ([.fieldLink RX4 16 "LandingFines" "history" "[LLandingFines$River;"] ++ wsX40)
def wsX4_recordUnlessError : List Cond := .code yX4_recordUnlessError cX4_recordUnlessError 2 (some .int) :: ([.fieldLink RX4 20 "LandingFines" "historySize" "I", .methodLink RX4 177 yX4_dropOldest, .instanceMethod yX4_dropOldest, .selects RX4 yX4_dropOldest yX4_dropOldest, .initialized RX4, .code yX4_dropOldest cX4_dropOldest 3 none, .fieldLink RX4 16 "LandingFines" "history" "[LLandingFines$River;"] ++ wsX40)
def wsX4_set_r1 : List Cond := [Cond.fieldLink RX4 10 "LandingFines" "river" "LLandingFines$River;", Cond.methodLink RX4 45 yX4_keepState, Cond.instanceMethod yX4_keepState, Cond.selects RX4 yX4_keepState yX4_keepState, Cond.initialized RX4, Cond.code yX4_keepState cX4_keepState 1 none, Cond.fieldLink RX4 16 "LandingFines" "history" "[LLandingFines$River;", Cond.fieldLink RX4 20 "LandingFines" "historySize" "I", Cond.methodLink RX4 171 yX3_copyFrom, Cond.instanceMethod yX3_copyFrom, Cond.selects RX3 yX3_copyFrom yX3_copyFrom, Cond.initialized RX3, Cond.code yX3_copyFrom cX3_copyFrom 3 none, Cond.fieldLink RX3 18 "LandingFines$River" "settings" "[I", Cond.methodLink RX3 50 arraycopyName, Cond.native arraycopyName, Cond.static arraycopyName, Cond.initialized "java/lang/System", Cond.fieldLink RX3 25 "LandingFines$River" "landings" "[LLandingFines$Landing;", Cond.fieldLink RX3 29 "LandingFines$River" "landingCount" "I", Cond.fieldLink RX3 33 "LandingFines$River" "minutesSoFar" "I", Cond.fieldLink RX3 36 "LandingFines$River" "taken" "I", Cond.fieldLink RX3 39 "LandingFines$River" "switches" "I", Cond.fieldLink RX3 45 "LandingFines$River" "journal" "LLandingFines$Journal;"]
def wsX4_set_r2 : List Cond := [Cond.methodLink RX3 56 yX1_copyFrom, Cond.instanceMethod yX1_copyFrom, Cond.selects RX1 yX1_copyFrom yX1_copyFrom, Cond.initialized RX1, Cond.code yX1_copyFrom cX1_copyFrom 2 none, Cond.fieldLink RX1 9 "LandingFines$Landing" "isOpen" "Z", Cond.fieldLink RX1 15 "LandingFines$Landing" "fare" "I", Cond.fieldLink RX1 19 "LandingFines$Landing" "fine" "I", Cond.fieldLink RX1 22 "LandingFines$Landing" "isShunned" "Z", Cond.fieldLink RX1 25 "LandingFines$Landing" "minutesShunned" "I", Cond.fieldLink RX1 28 "LandingFines$Landing" "minutesSinceHalving" "I", Cond.fieldLink RX1 31 "LandingFines$Landing" "changes" "I", Cond.fieldLink RX1 34 "LandingFines$Landing" "timesShunned" "I", Cond.methodLink RX3 60 yX0_copyFrom, Cond.instanceMethod yX0_copyFrom, Cond.selects RX0 yX0_copyFrom yX0_copyFrom, Cond.initialized RX0, Cond.code yX0_copyFrom cX0_copyFrom 2 none, Cond.fieldLink RX0 9 "LandingFines$Journal" "sorts" "[I", Cond.methodLink RX0 34 arraycopyName, Cond.fieldLink RX0 15 "LandingFines$Journal" "places" "[I", Cond.fieldLink RX0 18 "LandingFines$Journal" "minutes" "[I", Cond.fieldLink RX0 21 "LandingFines$Journal" "size" "I", Cond.fieldLink RX0 25 "LandingFines$Journal" "next" "I"]
def wsX4_set_r3 : List Cond := [Cond.methodLink RX4 48 yX3_changeSetting, Cond.instanceMethod yX3_changeSetting, Cond.selects RX3 yX3_changeSetting yX3_changeSetting, Cond.code yX3_changeSetting cX3_changeSetting 4 (some .int), Cond.methodLink RX4 52 yX4_recordUnlessError, Cond.instanceMethod yX4_recordUnlessError, Cond.selects RX4 yX4_recordUnlessError yX4_recordUnlessError, Cond.code yX4_recordUnlessError cX4_recordUnlessError 2 (some .int), Cond.methodLink RX4 177 yX4_dropOldest, Cond.instanceMethod yX4_dropOldest, Cond.selects RX4 yX4_dropOldest yX4_dropOldest, Cond.code yX4_dropOldest cX4_dropOldest 3 none]
def wsX4_set : List Cond := .code yX4_set cX4_set 3 (some .int) :: ((wsX4_set_r1 ++ (wsX4_set_r2 ++ wsX4_set_r3)) ++ wsX40 ++ wsX30 ++ wsX10 ++ wsX00)
def wsX4_landing_r1 : List Cond := [Cond.fieldLink RX4 10 "LandingFines" "river" "LLandingFines$River;", Cond.methodLink RX4 45 yX4_keepState, Cond.instanceMethod yX4_keepState, Cond.selects RX4 yX4_keepState yX4_keepState, Cond.initialized RX4, Cond.code yX4_keepState cX4_keepState 1 none, Cond.fieldLink RX4 16 "LandingFines" "history" "[LLandingFines$River;", Cond.fieldLink RX4 20 "LandingFines" "historySize" "I", Cond.methodLink RX4 171 yX3_copyFrom, Cond.instanceMethod yX3_copyFrom, Cond.selects RX3 yX3_copyFrom yX3_copyFrom, Cond.initialized RX3, Cond.code yX3_copyFrom cX3_copyFrom 3 none, Cond.fieldLink RX3 18 "LandingFines$River" "settings" "[I", Cond.methodLink RX3 50 arraycopyName, Cond.native arraycopyName, Cond.static arraycopyName, Cond.initialized "java/lang/System", Cond.fieldLink RX3 25 "LandingFines$River" "landings" "[LLandingFines$Landing;", Cond.fieldLink RX3 29 "LandingFines$River" "landingCount" "I", Cond.fieldLink RX3 33 "LandingFines$River" "minutesSoFar" "I", Cond.fieldLink RX3 36 "LandingFines$River" "taken" "I", Cond.fieldLink RX3 39 "LandingFines$River" "switches" "I", Cond.fieldLink RX3 45 "LandingFines$River" "journal" "LLandingFines$Journal;"]
def wsX4_landing_r2 : List Cond := [Cond.methodLink RX3 56 yX1_copyFrom, Cond.instanceMethod yX1_copyFrom, Cond.selects RX1 yX1_copyFrom yX1_copyFrom, Cond.initialized RX1, Cond.code yX1_copyFrom cX1_copyFrom 2 none, Cond.fieldLink RX1 9 "LandingFines$Landing" "isOpen" "Z", Cond.fieldLink RX1 15 "LandingFines$Landing" "fare" "I", Cond.fieldLink RX1 19 "LandingFines$Landing" "fine" "I", Cond.fieldLink RX1 22 "LandingFines$Landing" "isShunned" "Z", Cond.fieldLink RX1 25 "LandingFines$Landing" "minutesShunned" "I", Cond.fieldLink RX1 28 "LandingFines$Landing" "minutesSinceHalving" "I", Cond.fieldLink RX1 31 "LandingFines$Landing" "changes" "I", Cond.fieldLink RX1 34 "LandingFines$Landing" "timesShunned" "I", Cond.methodLink RX3 60 yX0_copyFrom, Cond.instanceMethod yX0_copyFrom, Cond.selects RX0 yX0_copyFrom yX0_copyFrom, Cond.initialized RX0, Cond.code yX0_copyFrom cX0_copyFrom 2 none, Cond.fieldLink RX0 9 "LandingFines$Journal" "sorts" "[I", Cond.methodLink RX0 34 arraycopyName, Cond.fieldLink RX0 15 "LandingFines$Journal" "places" "[I", Cond.fieldLink RX0 18 "LandingFines$Journal" "minutes" "[I", Cond.fieldLink RX0 21 "LandingFines$Journal" "size" "I", Cond.fieldLink RX0 25 "LandingFines$Journal" "next" "I"]
def wsX4_landing_r3 : List Cond := [Cond.methodLink RX4 56 yX3_addLanding, Cond.instanceMethod yX3_addLanding, Cond.selects RX3 yX3_addLanding yX3_addLanding, Cond.code yX3_addLanding cX3_addLanding 2 (some .int), Cond.methodLink RX3 69 yX1_arrive, Cond.instanceMethod yX1_arrive, Cond.selects RX1 yX1_arrive yX1_arrive, Cond.code yX1_arrive cX1_arrive 2 none, Cond.methodLink RX3 73 yX3_followTaken, Cond.instanceMethod yX3_followTaken, Cond.selects RX3 yX3_followTaken yX3_followTaken, Cond.code yX3_followTaken cX3_followTaken 3 none, Cond.fieldLink RX3 88 "LandingFines$Landing" "fare" "I", Cond.methodLink RX3 131 yX1_canBeTaken, Cond.instanceMethod yX1_canBeTaken, Cond.selects RX1 yX1_canBeTaken yX1_canBeTaken, Cond.code yX1_canBeTaken cX1_canBeTaken 1 (some .boolean), Cond.methodLink RX4 52 yX4_recordUnlessError, Cond.instanceMethod yX4_recordUnlessError, Cond.selects RX4 yX4_recordUnlessError yX4_recordUnlessError, Cond.code yX4_recordUnlessError cX4_recordUnlessError 2 (some .int), Cond.methodLink RX4 177 yX4_dropOldest, Cond.instanceMethod yX4_dropOldest, Cond.selects RX4 yX4_dropOldest yX4_dropOldest]
def wsX4_landing_r4 : List Cond := [Cond.code yX4_dropOldest cX4_dropOldest 3 none]
def wsX4_landing : List Cond := .code yX4_landing cX4_landing 2 (some .int) :: ((wsX4_landing_r1 ++ (wsX4_landing_r2 ++ (wsX4_landing_r3 ++ wsX4_landing_r4))) ++ wsX40 ++ wsX30 ++ wsX10 ++ wsX00)
def wsX4_open_r1 : List Cond := [Cond.fieldLink RX4 10 "LandingFines" "river" "LLandingFines$River;", Cond.methodLink RX4 45 yX4_keepState, Cond.instanceMethod yX4_keepState, Cond.selects RX4 yX4_keepState yX4_keepState, Cond.initialized RX4, Cond.code yX4_keepState cX4_keepState 1 none, Cond.fieldLink RX4 16 "LandingFines" "history" "[LLandingFines$River;", Cond.fieldLink RX4 20 "LandingFines" "historySize" "I", Cond.methodLink RX4 171 yX3_copyFrom, Cond.instanceMethod yX3_copyFrom, Cond.selects RX3 yX3_copyFrom yX3_copyFrom, Cond.initialized RX3, Cond.code yX3_copyFrom cX3_copyFrom 3 none, Cond.fieldLink RX3 18 "LandingFines$River" "settings" "[I", Cond.methodLink RX3 50 arraycopyName, Cond.native arraycopyName, Cond.static arraycopyName, Cond.initialized "java/lang/System", Cond.fieldLink RX3 25 "LandingFines$River" "landings" "[LLandingFines$Landing;", Cond.fieldLink RX3 29 "LandingFines$River" "landingCount" "I", Cond.fieldLink RX3 33 "LandingFines$River" "minutesSoFar" "I", Cond.fieldLink RX3 36 "LandingFines$River" "taken" "I", Cond.fieldLink RX3 39 "LandingFines$River" "switches" "I", Cond.fieldLink RX3 45 "LandingFines$River" "journal" "LLandingFines$Journal;"]
def wsX4_open_r2 : List Cond := [Cond.methodLink RX3 56 yX1_copyFrom, Cond.instanceMethod yX1_copyFrom, Cond.selects RX1 yX1_copyFrom yX1_copyFrom, Cond.initialized RX1, Cond.code yX1_copyFrom cX1_copyFrom 2 none, Cond.fieldLink RX1 9 "LandingFines$Landing" "isOpen" "Z", Cond.fieldLink RX1 15 "LandingFines$Landing" "fare" "I", Cond.fieldLink RX1 19 "LandingFines$Landing" "fine" "I", Cond.fieldLink RX1 22 "LandingFines$Landing" "isShunned" "Z", Cond.fieldLink RX1 25 "LandingFines$Landing" "minutesShunned" "I", Cond.fieldLink RX1 28 "LandingFines$Landing" "minutesSinceHalving" "I", Cond.fieldLink RX1 31 "LandingFines$Landing" "changes" "I", Cond.fieldLink RX1 34 "LandingFines$Landing" "timesShunned" "I", Cond.methodLink RX3 60 yX0_copyFrom, Cond.instanceMethod yX0_copyFrom, Cond.selects RX0 yX0_copyFrom yX0_copyFrom, Cond.initialized RX0, Cond.code yX0_copyFrom cX0_copyFrom 2 none, Cond.fieldLink RX0 9 "LandingFines$Journal" "sorts" "[I", Cond.methodLink RX0 34 arraycopyName, Cond.fieldLink RX0 15 "LandingFines$Journal" "places" "[I", Cond.fieldLink RX0 18 "LandingFines$Journal" "minutes" "[I", Cond.fieldLink RX0 21 "LandingFines$Journal" "size" "I", Cond.fieldLink RX0 25 "LandingFines$Journal" "next" "I"]
def wsX4_open_r3 : List Cond := [Cond.methodLink RX4 59 yX3_openLanding, Cond.instanceMethod yX3_openLanding, Cond.selects RX3 yX3_openLanding yX3_openLanding, Cond.code yX3_openLanding cX3_openLanding 3 (some .int), Cond.fieldLink RX3 80 "LandingFines$Landing" "isOpen" "Z", Cond.methodLink RX3 76 yX3_find, Cond.instanceMethod yX3_find, Cond.selects RX3 yX3_find yX3_find, Cond.code yX3_find cX3_find 2 (some (.object "LandingFines$Landing")), Cond.methodLink RX3 84 yX3_finishChange, Cond.instanceMethod yX3_finishChange, Cond.selects RX3 yX3_finishChange yX3_finishChange, Cond.code yX3_finishChange cX3_finishChange 4 (some .int), Cond.fieldLink RX3 99 "LandingFines$Landing" "fine" "I", Cond.methodLink RX3 91 yX0_add, Cond.instanceMethod yX0_add, Cond.selects RX0 yX0_add yX0_add, Cond.code yX0_add cX0_add 4 none, Cond.methodLink RX0 28 Lib.Math.min.name, Cond.static Lib.Math.min.name, Cond.initialized "java/lang/Math", Cond.code Lib.Math.min.name Lib.Math.min.code 2 (some .int), Cond.methodLink RX3 95 yX3_fineBySort, Cond.instanceMethod yX3_fineBySort]
def wsX4_open_r4 : List Cond := [Cond.selects RX3 yX3_fineBySort yX3_fineBySort, Cond.code yX3_fineBySort cX3_fineBySort 3 (some .boolean), Cond.methodLink RX3 102 yX1_addFine, Cond.instanceMethod yX1_addFine, Cond.selects RX1 yX1_addFine yX1_addFine, Cond.code yX1_addFine cX1_addFine 3 (some .boolean), Cond.constant RX1 37 (99999), Cond.methodLink RX1 38 Lib.Math.min.name, Cond.methodLink RX3 73 yX3_followTaken, Cond.instanceMethod yX3_followTaken, Cond.selects RX3 yX3_followTaken yX3_followTaken, Cond.code yX3_followTaken cX3_followTaken 3 none, Cond.fieldLink RX3 88 "LandingFines$Landing" "fare" "I", Cond.methodLink RX3 131 yX1_canBeTaken, Cond.instanceMethod yX1_canBeTaken, Cond.selects RX1 yX1_canBeTaken yX1_canBeTaken, Cond.code yX1_canBeTaken cX1_canBeTaken 1 (some .boolean), Cond.methodLink RX4 52 yX4_recordUnlessError, Cond.instanceMethod yX4_recordUnlessError, Cond.selects RX4 yX4_recordUnlessError yX4_recordUnlessError, Cond.code yX4_recordUnlessError cX4_recordUnlessError 2 (some .int), Cond.methodLink RX4 177 yX4_dropOldest, Cond.instanceMethod yX4_dropOldest, Cond.selects RX4 yX4_dropOldest yX4_dropOldest]
def wsX4_open_r5 : List Cond := [Cond.code yX4_dropOldest cX4_dropOldest 3 none]
def wsX4_open : List Cond := .code yX4_open cX4_open 2 (some .int) :: ((wsX4_open_r1 ++ (wsX4_open_r2 ++ (wsX4_open_r3 ++ (wsX4_open_r4 ++ wsX4_open_r5)))) ++ wsX40 ++ wsX30 ++ wsX10 ++ wsX00)
def wsX4_close_r1 : List Cond := [Cond.fieldLink RX4 10 "LandingFines" "river" "LLandingFines$River;", Cond.methodLink RX4 45 yX4_keepState, Cond.instanceMethod yX4_keepState, Cond.selects RX4 yX4_keepState yX4_keepState, Cond.initialized RX4, Cond.code yX4_keepState cX4_keepState 1 none, Cond.fieldLink RX4 16 "LandingFines" "history" "[LLandingFines$River;", Cond.fieldLink RX4 20 "LandingFines" "historySize" "I", Cond.methodLink RX4 171 yX3_copyFrom, Cond.instanceMethod yX3_copyFrom, Cond.selects RX3 yX3_copyFrom yX3_copyFrom, Cond.initialized RX3, Cond.code yX3_copyFrom cX3_copyFrom 3 none, Cond.fieldLink RX3 18 "LandingFines$River" "settings" "[I", Cond.methodLink RX3 50 arraycopyName, Cond.native arraycopyName, Cond.static arraycopyName, Cond.initialized "java/lang/System", Cond.fieldLink RX3 25 "LandingFines$River" "landings" "[LLandingFines$Landing;", Cond.fieldLink RX3 29 "LandingFines$River" "landingCount" "I", Cond.fieldLink RX3 33 "LandingFines$River" "minutesSoFar" "I", Cond.fieldLink RX3 36 "LandingFines$River" "taken" "I", Cond.fieldLink RX3 39 "LandingFines$River" "switches" "I", Cond.fieldLink RX3 45 "LandingFines$River" "journal" "LLandingFines$Journal;"]
def wsX4_close_r2 : List Cond := [Cond.methodLink RX3 56 yX1_copyFrom, Cond.instanceMethod yX1_copyFrom, Cond.selects RX1 yX1_copyFrom yX1_copyFrom, Cond.initialized RX1, Cond.code yX1_copyFrom cX1_copyFrom 2 none, Cond.fieldLink RX1 9 "LandingFines$Landing" "isOpen" "Z", Cond.fieldLink RX1 15 "LandingFines$Landing" "fare" "I", Cond.fieldLink RX1 19 "LandingFines$Landing" "fine" "I", Cond.fieldLink RX1 22 "LandingFines$Landing" "isShunned" "Z", Cond.fieldLink RX1 25 "LandingFines$Landing" "minutesShunned" "I", Cond.fieldLink RX1 28 "LandingFines$Landing" "minutesSinceHalving" "I", Cond.fieldLink RX1 31 "LandingFines$Landing" "changes" "I", Cond.fieldLink RX1 34 "LandingFines$Landing" "timesShunned" "I", Cond.methodLink RX3 60 yX0_copyFrom, Cond.instanceMethod yX0_copyFrom, Cond.selects RX0 yX0_copyFrom yX0_copyFrom, Cond.initialized RX0, Cond.code yX0_copyFrom cX0_copyFrom 2 none, Cond.fieldLink RX0 9 "LandingFines$Journal" "sorts" "[I", Cond.methodLink RX0 34 arraycopyName, Cond.fieldLink RX0 15 "LandingFines$Journal" "places" "[I", Cond.fieldLink RX0 18 "LandingFines$Journal" "minutes" "[I", Cond.fieldLink RX0 21 "LandingFines$Journal" "size" "I", Cond.fieldLink RX0 25 "LandingFines$Journal" "next" "I"]
def wsX4_close_r3 : List Cond := [Cond.methodLink RX4 62 yX3_closeLanding, Cond.instanceMethod yX3_closeLanding, Cond.selects RX3 yX3_closeLanding yX3_closeLanding, Cond.code yX3_closeLanding cX3_closeLanding 3 (some .int), Cond.fieldLink RX3 80 "LandingFines$Landing" "isOpen" "Z", Cond.methodLink RX3 76 yX3_find, Cond.instanceMethod yX3_find, Cond.selects RX3 yX3_find yX3_find, Cond.code yX3_find cX3_find 2 (some (.object "LandingFines$Landing")), Cond.methodLink RX3 84 yX3_finishChange, Cond.instanceMethod yX3_finishChange, Cond.selects RX3 yX3_finishChange yX3_finishChange, Cond.code yX3_finishChange cX3_finishChange 4 (some .int), Cond.fieldLink RX3 99 "LandingFines$Landing" "fine" "I", Cond.methodLink RX3 91 yX0_add, Cond.instanceMethod yX0_add, Cond.selects RX0 yX0_add yX0_add, Cond.code yX0_add cX0_add 4 none, Cond.methodLink RX0 28 Lib.Math.min.name, Cond.static Lib.Math.min.name, Cond.initialized "java/lang/Math", Cond.code Lib.Math.min.name Lib.Math.min.code 2 (some .int), Cond.methodLink RX3 95 yX3_fineBySort, Cond.instanceMethod yX3_fineBySort]
def wsX4_close_r4 : List Cond := [Cond.selects RX3 yX3_fineBySort yX3_fineBySort, Cond.code yX3_fineBySort cX3_fineBySort 3 (some .boolean), Cond.methodLink RX3 102 yX1_addFine, Cond.instanceMethod yX1_addFine, Cond.selects RX1 yX1_addFine yX1_addFine, Cond.code yX1_addFine cX1_addFine 3 (some .boolean), Cond.constant RX1 37 (99999), Cond.methodLink RX1 38 Lib.Math.min.name, Cond.methodLink RX3 73 yX3_followTaken, Cond.instanceMethod yX3_followTaken, Cond.selects RX3 yX3_followTaken yX3_followTaken, Cond.code yX3_followTaken cX3_followTaken 3 none, Cond.fieldLink RX3 88 "LandingFines$Landing" "fare" "I", Cond.methodLink RX3 131 yX1_canBeTaken, Cond.instanceMethod yX1_canBeTaken, Cond.selects RX1 yX1_canBeTaken yX1_canBeTaken, Cond.code yX1_canBeTaken cX1_canBeTaken 1 (some .boolean), Cond.methodLink RX4 52 yX4_recordUnlessError, Cond.instanceMethod yX4_recordUnlessError, Cond.selects RX4 yX4_recordUnlessError yX4_recordUnlessError, Cond.code yX4_recordUnlessError cX4_recordUnlessError 2 (some .int), Cond.methodLink RX4 177 yX4_dropOldest, Cond.instanceMethod yX4_dropOldest, Cond.selects RX4 yX4_dropOldest yX4_dropOldest]
def wsX4_close_r5 : List Cond := [Cond.code yX4_dropOldest cX4_dropOldest 3 none]
def wsX4_close : List Cond := .code yX4_close cX4_close 2 (some .int) :: ((wsX4_close_r1 ++ (wsX4_close_r2 ++ (wsX4_close_r3 ++ (wsX4_close_r4 ++ wsX4_close_r5)))) ++ wsX40 ++ wsX30 ++ wsX10 ++ wsX00)
def wsX4_price_r1 : List Cond := [Cond.fieldLink RX4 10 "LandingFines" "river" "LLandingFines$River;", Cond.methodLink RX4 45 yX4_keepState, Cond.instanceMethod yX4_keepState, Cond.selects RX4 yX4_keepState yX4_keepState, Cond.initialized RX4, Cond.code yX4_keepState cX4_keepState 1 none, Cond.fieldLink RX4 16 "LandingFines" "history" "[LLandingFines$River;", Cond.fieldLink RX4 20 "LandingFines" "historySize" "I", Cond.methodLink RX4 171 yX3_copyFrom, Cond.instanceMethod yX3_copyFrom, Cond.selects RX3 yX3_copyFrom yX3_copyFrom, Cond.initialized RX3, Cond.code yX3_copyFrom cX3_copyFrom 3 none, Cond.fieldLink RX3 18 "LandingFines$River" "settings" "[I", Cond.methodLink RX3 50 arraycopyName, Cond.native arraycopyName, Cond.static arraycopyName, Cond.initialized "java/lang/System", Cond.fieldLink RX3 25 "LandingFines$River" "landings" "[LLandingFines$Landing;", Cond.fieldLink RX3 29 "LandingFines$River" "landingCount" "I", Cond.fieldLink RX3 33 "LandingFines$River" "minutesSoFar" "I", Cond.fieldLink RX3 36 "LandingFines$River" "taken" "I", Cond.fieldLink RX3 39 "LandingFines$River" "switches" "I", Cond.fieldLink RX3 45 "LandingFines$River" "journal" "LLandingFines$Journal;"]
def wsX4_price_r2 : List Cond := [Cond.methodLink RX3 56 yX1_copyFrom, Cond.instanceMethod yX1_copyFrom, Cond.selects RX1 yX1_copyFrom yX1_copyFrom, Cond.initialized RX1, Cond.code yX1_copyFrom cX1_copyFrom 2 none, Cond.fieldLink RX1 9 "LandingFines$Landing" "isOpen" "Z", Cond.fieldLink RX1 15 "LandingFines$Landing" "fare" "I", Cond.fieldLink RX1 19 "LandingFines$Landing" "fine" "I", Cond.fieldLink RX1 22 "LandingFines$Landing" "isShunned" "Z", Cond.fieldLink RX1 25 "LandingFines$Landing" "minutesShunned" "I", Cond.fieldLink RX1 28 "LandingFines$Landing" "minutesSinceHalving" "I", Cond.fieldLink RX1 31 "LandingFines$Landing" "changes" "I", Cond.fieldLink RX1 34 "LandingFines$Landing" "timesShunned" "I", Cond.methodLink RX3 60 yX0_copyFrom, Cond.instanceMethod yX0_copyFrom, Cond.selects RX0 yX0_copyFrom yX0_copyFrom, Cond.initialized RX0, Cond.code yX0_copyFrom cX0_copyFrom 2 none, Cond.fieldLink RX0 9 "LandingFines$Journal" "sorts" "[I", Cond.methodLink RX0 34 arraycopyName, Cond.fieldLink RX0 15 "LandingFines$Journal" "places" "[I", Cond.fieldLink RX0 18 "LandingFines$Journal" "minutes" "[I", Cond.fieldLink RX0 21 "LandingFines$Journal" "size" "I", Cond.fieldLink RX0 25 "LandingFines$Journal" "next" "I"]
def wsX4_price_r3 : List Cond := [Cond.methodLink RX4 65 yX3_changePrice, Cond.instanceMethod yX3_changePrice, Cond.selects RX3 yX3_changePrice yX3_changePrice, Cond.code yX3_changePrice cX3_changePrice 4 (some .int), Cond.fieldLink RX3 88 "LandingFines$Landing" "fare" "I", Cond.methodLink RX3 76 yX3_find, Cond.instanceMethod yX3_find, Cond.selects RX3 yX3_find yX3_find, Cond.code yX3_find cX3_find 2 (some (.object "LandingFines$Landing")), Cond.methodLink RX3 84 yX3_finishChange, Cond.instanceMethod yX3_finishChange, Cond.selects RX3 yX3_finishChange yX3_finishChange, Cond.code yX3_finishChange cX3_finishChange 4 (some .int), Cond.fieldLink RX3 99 "LandingFines$Landing" "fine" "I", Cond.methodLink RX3 91 yX0_add, Cond.instanceMethod yX0_add, Cond.selects RX0 yX0_add yX0_add, Cond.code yX0_add cX0_add 4 none, Cond.methodLink RX0 28 Lib.Math.min.name, Cond.static Lib.Math.min.name, Cond.initialized "java/lang/Math", Cond.code Lib.Math.min.name Lib.Math.min.code 2 (some .int), Cond.methodLink RX3 95 yX3_fineBySort, Cond.instanceMethod yX3_fineBySort]
def wsX4_price_r4 : List Cond := [Cond.selects RX3 yX3_fineBySort yX3_fineBySort, Cond.code yX3_fineBySort cX3_fineBySort 3 (some .boolean), Cond.methodLink RX3 102 yX1_addFine, Cond.instanceMethod yX1_addFine, Cond.selects RX1 yX1_addFine yX1_addFine, Cond.code yX1_addFine cX1_addFine 3 (some .boolean), Cond.constant RX1 37 (99999), Cond.methodLink RX1 38 Lib.Math.min.name, Cond.methodLink RX3 73 yX3_followTaken, Cond.instanceMethod yX3_followTaken, Cond.selects RX3 yX3_followTaken yX3_followTaken, Cond.code yX3_followTaken cX3_followTaken 3 none, Cond.methodLink RX3 131 yX1_canBeTaken, Cond.instanceMethod yX1_canBeTaken, Cond.selects RX1 yX1_canBeTaken yX1_canBeTaken, Cond.code yX1_canBeTaken cX1_canBeTaken 1 (some .boolean), Cond.methodLink RX4 52 yX4_recordUnlessError, Cond.instanceMethod yX4_recordUnlessError, Cond.selects RX4 yX4_recordUnlessError yX4_recordUnlessError, Cond.code yX4_recordUnlessError cX4_recordUnlessError 2 (some .int), Cond.methodLink RX4 177 yX4_dropOldest, Cond.instanceMethod yX4_dropOldest, Cond.selects RX4 yX4_dropOldest yX4_dropOldest, Cond.code yX4_dropOldest cX4_dropOldest 3 none]
def wsX4_price : List Cond := .code yX4_price cX4_price 3 (some .int) :: ((wsX4_price_r1 ++ (wsX4_price_r2 ++ (wsX4_price_r3 ++ wsX4_price_r4))) ++ wsX40 ++ wsX30 ++ wsX10 ++ wsX00)
def wsX4_pass_r1 : List Cond := [Cond.fieldLink RX4 10 "LandingFines" "river" "LLandingFines$River;", Cond.methodLink RX4 45 yX4_keepState, Cond.instanceMethod yX4_keepState, Cond.selects RX4 yX4_keepState yX4_keepState, Cond.initialized RX4, Cond.code yX4_keepState cX4_keepState 1 none, Cond.fieldLink RX4 16 "LandingFines" "history" "[LLandingFines$River;", Cond.fieldLink RX4 20 "LandingFines" "historySize" "I", Cond.methodLink RX4 171 yX3_copyFrom, Cond.instanceMethod yX3_copyFrom, Cond.selects RX3 yX3_copyFrom yX3_copyFrom, Cond.initialized RX3, Cond.code yX3_copyFrom cX3_copyFrom 3 none, Cond.fieldLink RX3 18 "LandingFines$River" "settings" "[I", Cond.methodLink RX3 50 arraycopyName, Cond.native arraycopyName, Cond.static arraycopyName, Cond.initialized "java/lang/System", Cond.fieldLink RX3 25 "LandingFines$River" "landings" "[LLandingFines$Landing;", Cond.fieldLink RX3 29 "LandingFines$River" "landingCount" "I", Cond.fieldLink RX3 33 "LandingFines$River" "minutesSoFar" "I", Cond.fieldLink RX3 36 "LandingFines$River" "taken" "I", Cond.fieldLink RX3 39 "LandingFines$River" "switches" "I", Cond.fieldLink RX3 45 "LandingFines$River" "journal" "LLandingFines$Journal;"]
def wsX4_pass_r2 : List Cond := [Cond.methodLink RX3 56 yX1_copyFrom, Cond.instanceMethod yX1_copyFrom, Cond.selects RX1 yX1_copyFrom yX1_copyFrom, Cond.initialized RX1, Cond.code yX1_copyFrom cX1_copyFrom 2 none, Cond.fieldLink RX1 9 "LandingFines$Landing" "isOpen" "Z", Cond.fieldLink RX1 15 "LandingFines$Landing" "fare" "I", Cond.fieldLink RX1 19 "LandingFines$Landing" "fine" "I", Cond.fieldLink RX1 22 "LandingFines$Landing" "isShunned" "Z", Cond.fieldLink RX1 25 "LandingFines$Landing" "minutesShunned" "I", Cond.fieldLink RX1 28 "LandingFines$Landing" "minutesSinceHalving" "I", Cond.fieldLink RX1 31 "LandingFines$Landing" "changes" "I", Cond.fieldLink RX1 34 "LandingFines$Landing" "timesShunned" "I", Cond.methodLink RX3 60 yX0_copyFrom, Cond.instanceMethod yX0_copyFrom, Cond.selects RX0 yX0_copyFrom yX0_copyFrom, Cond.initialized RX0, Cond.code yX0_copyFrom cX0_copyFrom 2 none, Cond.fieldLink RX0 9 "LandingFines$Journal" "sorts" "[I", Cond.methodLink RX0 34 arraycopyName, Cond.fieldLink RX0 15 "LandingFines$Journal" "places" "[I", Cond.fieldLink RX0 18 "LandingFines$Journal" "minutes" "[I", Cond.fieldLink RX0 21 "LandingFines$Journal" "size" "I", Cond.fieldLink RX0 25 "LandingFines$Journal" "next" "I"]
def wsX4_pass_r3 : List Cond := [Cond.methodLink RX4 68 yX3_passMinutes, Cond.instanceMethod yX3_passMinutes, Cond.selects RX3 yX3_passMinutes yX3_passMinutes, Cond.code yX3_passMinutes cX3_passMinutes 4 (some .int), Cond.constant RX3 106 (99999), Cond.methodLink RX3 107 yX3_passOneMinute, Cond.instanceMethod yX3_passOneMinute, Cond.selects RX3 yX3_passOneMinute yX3_passOneMinute, Cond.code yX3_passOneMinute cX3_passOneMinute 3 (some .int), Cond.methodLink RX3 111 yX3_passMinuteOf, Cond.instanceMethod yX3_passMinuteOf, Cond.selects RX3 yX3_passMinuteOf yX3_passMinuteOf, Cond.code yX3_passMinuteOf cX3_passMinuteOf 2 (some .boolean), Cond.methodLink RX3 115 yX1_passMinute, Cond.instanceMethod yX1_passMinute, Cond.selects RX1 yX1_passMinute yX1_passMinute, Cond.code yX1_passMinute cX1_passMinute 4 (some .boolean), Cond.methodLink RX1 38 Lib.Math.min.name, Cond.static Lib.Math.min.name, Cond.initialized "java/lang/Math", Cond.code Lib.Math.min.name Lib.Math.min.code 2 (some .int), Cond.methodLink RX3 91 yX0_add, Cond.instanceMethod yX0_add, Cond.selects RX0 yX0_add yX0_add]
def wsX4_pass_r4 : List Cond := [Cond.code yX0_add cX0_add 4 none, Cond.methodLink RX0 28 Lib.Math.min.name, Cond.methodLink RX3 73 yX3_followTaken, Cond.instanceMethod yX3_followTaken, Cond.selects RX3 yX3_followTaken yX3_followTaken, Cond.code yX3_followTaken cX3_followTaken 3 none, Cond.fieldLink RX3 88 "LandingFines$Landing" "fare" "I", Cond.methodLink RX3 131 yX1_canBeTaken, Cond.instanceMethod yX1_canBeTaken, Cond.selects RX1 yX1_canBeTaken yX1_canBeTaken, Cond.code yX1_canBeTaken cX1_canBeTaken 1 (some .boolean), Cond.methodLink RX4 52 yX4_recordUnlessError, Cond.instanceMethod yX4_recordUnlessError, Cond.selects RX4 yX4_recordUnlessError yX4_recordUnlessError, Cond.code yX4_recordUnlessError cX4_recordUnlessError 2 (some .int), Cond.methodLink RX4 177 yX4_dropOldest, Cond.instanceMethod yX4_dropOldest, Cond.selects RX4 yX4_dropOldest yX4_dropOldest, Cond.code yX4_dropOldest cX4_dropOldest 3 none]
def wsX4_pass : List Cond := .code yX4_pass cX4_pass 2 (some .int) :: ((wsX4_pass_r1 ++ (wsX4_pass_r2 ++ (wsX4_pass_r3 ++ wsX4_pass_r4))) ++ wsX40 ++ wsX30 ++ wsX10 ++ wsX00)
def wsX4_of : List Cond := .code yX4_of cX4_of 4 (some .int) :: ([.fieldLink RX4 10 "LandingFines" "river" "LLandingFines$River;", .methodLink RX4 71 yX3_find, .instanceMethod yX3_find, .selects RX3 yX3_find yX3_find, .initialized RX3, .code yX3_find cX3_find 2 (some (.object "LandingFines$Landing")), .fieldLink RX3 29 "LandingFines$River" "landingCount" "I", .fieldLink RX3 25 "LandingFines$River" "landings" "[LLandingFines$Landing;", .methodLink RX4 75 yX1_tell, .instanceMethod yX1_tell, .selects RX1 yX1_tell yX1_tell, .initialized RX1, .code yX1_tell cX1_tell 2 (some .int), .fieldLink RX1 9 "LandingFines$Landing" "isOpen" "Z", .fieldLink RX1 15 "LandingFines$Landing" "fare" "I", .fieldLink RX1 19 "LandingFines$Landing" "fine" "I", .fieldLink RX1 22 "LandingFines$Landing" "isShunned" "Z", .fieldLink RX1 25 "LandingFines$Landing" "minutesShunned" "I", .fieldLink RX1 28 "LandingFines$Landing" "minutesSinceHalving" "I", .fieldLink RX1 31 "LandingFines$Landing" "changes" "I", .fieldLink RX1 34 "LandingFines$Landing" "timesShunned" "I"] ++ wsX40 ++ wsX30 ++ wsX10)
def wsX4_count_r1 : List Cond := [Cond.fieldLink RX4 34 "LandingFines" "pad" "LLandingFines$Pad;", Cond.fieldLink RX4 78 "LandingFines$Pad" "length" "I", Cond.fieldLink RX4 20 "LandingFines" "historySize" "I", Cond.fieldLink RX4 10 "LandingFines" "river" "LLandingFines$River;", Cond.methodLink RX4 81 yX3_tell, Cond.instanceMethod yX3_tell, Cond.selects RX3 yX3_tell yX3_tell, Cond.initialized RX3, Cond.code yX3_tell cX3_tell 2 (some .int), Cond.fieldLink RX3 33 "LandingFines$River" "minutesSoFar" "I", Cond.fieldLink RX3 29 "LandingFines$River" "landingCount" "I", Cond.fieldLink RX3 36 "LandingFines$River" "taken" "I", Cond.fieldLink RX3 39 "LandingFines$River" "switches" "I", Cond.fieldLink RX3 45 "LandingFines$River" "journal" "LLandingFines$Journal;", Cond.fieldLink RX3 145 "LandingFines$Journal" "size" "I", Cond.fieldLink RX3 18 "LandingFines$River" "settings" "[I", Cond.methodLink RX3 139 yX3_openOnes, Cond.instanceMethod yX3_openOnes, Cond.selects RX3 yX3_openOnes yX3_openOnes, Cond.code yX3_openOnes cX3_openOnes 3 (some .int), Cond.fieldLink RX3 25 "LandingFines$River" "landings" "[LLandingFines$Landing;", Cond.fieldLink RX3 80 "LandingFines$Landing" "isOpen" "Z", Cond.methodLink RX3 142 yX3_shunnedOnes, Cond.instanceMethod yX3_shunnedOnes]
def wsX4_count_r2 : List Cond := [Cond.selects RX3 yX3_shunnedOnes yX3_shunnedOnes, Cond.code yX3_shunnedOnes cX3_shunnedOnes 3 (some .int), Cond.fieldLink RX3 148 "LandingFines$Landing" "isShunned" "Z"]
def wsX4_count : List Cond := .code yX4_count cX4_count 2 (some .int) :: ((wsX4_count_r1 ++ wsX4_count_r2) ++ wsX40 ++ wsX20 ++ wsX30 ++ wsX00 ++ wsX10)
def wsX4_choice : List Cond := .code yX4_choice cX4_choice 2 (some .int) :: ([.fieldLink RX4 10 "LandingFines" "river" "LLandingFines$River;", .methodLink RX4 82 yX3_chosen, .instanceMethod yX3_chosen, .selects RX3 yX3_chosen yX3_chosen, .initialized RX3, .code yX3_chosen cX3_chosen 3 (some .int), .fieldLink RX3 29 "LandingFines$River" "landingCount" "I", .fieldLink RX3 25 "LandingFines$River" "landings" "[LLandingFines$Landing;", .methodLink RX3 131 yX1_canBeTaken, .instanceMethod yX1_canBeTaken, .selects RX1 yX1_canBeTaken yX1_canBeTaken, .initialized RX1, .code yX1_canBeTaken cX1_canBeTaken 1 (some .boolean), .fieldLink RX1 9 "LandingFines$Landing" "isOpen" "Z", .fieldLink RX1 22 "LandingFines$Landing" "isShunned" "Z", .methodLink RX3 135 yX3_rankOf, .instanceMethod yX3_rankOf, .selects RX3 yX3_rankOf yX3_rankOf, .code yX3_rankOf cX3_rankOf 6 (some .int), .fieldLink RX3 88 "LandingFines$Landing" "fare" "I"] ++ wsX40 ++ wsX30 ++ wsX10)
def wsX4_log : List Cond := .code yX4_log cX4_log 3 (some .int) :: ([.fieldLink RX4 10 "LandingFines" "river" "LLandingFines$River;", .fieldLink RX4 85 "LandingFines$River" "journal" "LLandingFines$Journal;", .methodLink RX4 89 yX0_tell, .instanceMethod yX0_tell, .selects RX0 yX0_tell yX0_tell, .initialized RX0, .code yX0_tell cX0_tell 4 (some .int), .fieldLink RX0 21 "LandingFines$Journal" "size" "I", .fieldLink RX0 25 "LandingFines$Journal" "next" "I", .fieldLink RX0 9 "LandingFines$Journal" "sorts" "[I", .fieldLink RX0 15 "LandingFines$Journal" "places" "[I", .fieldLink RX0 18 "LandingFines$Journal" "minutes" "[I"] ++ wsX40 ++ wsX30 ++ wsX00)
def wsX4_why : List Cond := .code yX4_why cX4_why 3 (some .int) :: ([.fieldLink RX4 10 "LandingFines" "river" "LLandingFines$River;", .fieldLink RX4 93 "LandingFines$River" "taken" "I", .fieldLink RX4 96 "LandingFines$Landing" "isOpen" "Z", .fieldLink RX4 100 "LandingFines$Landing" "isShunned" "Z", .methodLink RX4 71 yX3_find, .instanceMethod yX3_find, .selects RX3 yX3_find yX3_find, .initialized RX3, .code yX3_find cX3_find 2 (some (.object "LandingFines$Landing")), .fieldLink RX3 29 "LandingFines$River" "landingCount" "I", .fieldLink RX3 25 "LandingFines$River" "landings" "[LLandingFines$Landing;"] ++ wsX40 ++ wsX30 ++ wsX10)
def wsX4_welcomeIn_r1 : List Cond := [Cond.fieldLink RX4 10 "LandingFines" "river" "LLandingFines$River;", Cond.fieldLink RX4 41 "LandingFines" "trial" "LLandingFines$Landing;", Cond.fieldLink RX4 100 "LandingFines$Landing" "isShunned" "Z", Cond.methodLink RX4 71 yX3_find, Cond.instanceMethod yX3_find, Cond.selects RX3 yX3_find yX3_find, Cond.initialized RX3, Cond.code yX3_find cX3_find 2 (some (.object "LandingFines$Landing")), Cond.fieldLink RX3 29 "LandingFines$River" "landingCount" "I", Cond.fieldLink RX3 25 "LandingFines$River" "landings" "[LLandingFines$Landing;", Cond.methodLink RX4 103 yX1_copyFrom, Cond.instanceMethod yX1_copyFrom, Cond.selects RX1 yX1_copyFrom yX1_copyFrom, Cond.initialized RX1, Cond.code yX1_copyFrom cX1_copyFrom 2 none, Cond.fieldLink RX1 9 "LandingFines$Landing" "isOpen" "Z", Cond.fieldLink RX1 15 "LandingFines$Landing" "fare" "I", Cond.fieldLink RX1 19 "LandingFines$Landing" "fine" "I", Cond.fieldLink RX1 22 "LandingFines$Landing" "isShunned" "Z", Cond.fieldLink RX1 25 "LandingFines$Landing" "minutesShunned" "I", Cond.fieldLink RX1 28 "LandingFines$Landing" "minutesSinceHalving" "I", Cond.fieldLink RX1 31 "LandingFines$Landing" "changes" "I", Cond.fieldLink RX1 34 "LandingFines$Landing" "timesShunned" "I", Cond.methodLink RX4 107 yX3_passMinuteOf]
def wsX4_welcomeIn_r2 : List Cond := [Cond.instanceMethod yX3_passMinuteOf, Cond.selects RX3 yX3_passMinuteOf yX3_passMinuteOf, Cond.code yX3_passMinuteOf cX3_passMinuteOf 2 (some .boolean), Cond.fieldLink RX3 18 "LandingFines$River" "settings" "[I", Cond.methodLink RX3 115 yX1_passMinute, Cond.instanceMethod yX1_passMinute, Cond.selects RX1 yX1_passMinute yX1_passMinute, Cond.code yX1_passMinute cX1_passMinute 4 (some .boolean), Cond.methodLink RX1 38 Lib.Math.min.name, Cond.static Lib.Math.min.name, Cond.initialized "java/lang/Math", Cond.code Lib.Math.min.name Lib.Math.min.code 2 (some .int)]
def wsX4_welcomeIn : List Cond := .code yX4_welcomeIn cX4_welcomeIn 4 (some .int) :: ((wsX4_welcomeIn_r1 ++ wsX4_welcomeIn_r2) ++ wsX40 ++ wsX10 ++ wsX30)
def wsX4_mayChange_r1 : List Cond := [Cond.fieldLink RX4 10 "LandingFines" "river" "LLandingFines$River;", Cond.fieldLink RX4 100 "LandingFines$Landing" "isShunned" "Z", Cond.fieldLink RX4 41 "LandingFines" "trial" "LLandingFines$Landing;", Cond.fieldLink RX4 96 "LandingFines$Landing" "isOpen" "Z", Cond.methodLink RX4 71 yX3_find, Cond.instanceMethod yX3_find, Cond.selects RX3 yX3_find yX3_find, Cond.initialized RX3, Cond.code yX3_find cX3_find 2 (some (.object "LandingFines$Landing")), Cond.fieldLink RX3 29 "LandingFines$River" "landingCount" "I", Cond.fieldLink RX3 25 "LandingFines$River" "landings" "[LLandingFines$Landing;", Cond.methodLink RX4 103 yX1_copyFrom, Cond.instanceMethod yX1_copyFrom, Cond.selects RX1 yX1_copyFrom yX1_copyFrom, Cond.initialized RX1, Cond.code yX1_copyFrom cX1_copyFrom 2 none, Cond.fieldLink RX1 9 "LandingFines$Landing" "isOpen" "Z", Cond.fieldLink RX1 15 "LandingFines$Landing" "fare" "I", Cond.fieldLink RX1 19 "LandingFines$Landing" "fine" "I", Cond.fieldLink RX1 22 "LandingFines$Landing" "isShunned" "Z", Cond.fieldLink RX1 25 "LandingFines$Landing" "minutesShunned" "I", Cond.fieldLink RX1 28 "LandingFines$Landing" "minutesSinceHalving" "I", Cond.fieldLink RX1 31 "LandingFines$Landing" "changes" "I", Cond.fieldLink RX1 34 "LandingFines$Landing" "timesShunned" "I"]
def wsX4_mayChange_r2 : List Cond := [Cond.methodLink RX4 111 yX3_fineBySort, Cond.instanceMethod yX3_fineBySort, Cond.selects RX3 yX3_fineBySort yX3_fineBySort, Cond.code yX3_fineBySort cX3_fineBySort 3 (some .boolean), Cond.fieldLink RX3 18 "LandingFines$River" "settings" "[I", Cond.methodLink RX3 102 yX1_addFine, Cond.instanceMethod yX1_addFine, Cond.selects RX1 yX1_addFine yX1_addFine, Cond.code yX1_addFine cX1_addFine 3 (some .boolean), Cond.constant RX1 37 (99999), Cond.methodLink RX1 38 Lib.Math.min.name, Cond.static Lib.Math.min.name, Cond.initialized "java/lang/Math", Cond.code Lib.Math.min.name Lib.Math.min.code 2 (some .int)]
def wsX4_mayChange : List Cond := .code yX4_mayChange cX4_mayChange 4 (some .int) :: ((wsX4_mayChange_r1 ++ wsX4_mayChange_r2) ++ wsX40 ++ wsX10 ++ wsX30)
def wsX4_fineIn_r1 : List Cond := [Cond.fieldLink RX4 10 "LandingFines" "river" "LLandingFines$River;", Cond.fieldLink RX4 41 "LandingFines" "trial" "LLandingFines$Landing;", Cond.fieldLink RX4 115 "LandingFines$Landing" "fine" "I", Cond.methodLink RX4 71 yX3_find, Cond.instanceMethod yX3_find, Cond.selects RX3 yX3_find yX3_find, Cond.initialized RX3, Cond.code yX3_find cX3_find 2 (some (.object "LandingFines$Landing")), Cond.fieldLink RX3 29 "LandingFines$River" "landingCount" "I", Cond.fieldLink RX3 25 "LandingFines$River" "landings" "[LLandingFines$Landing;", Cond.methodLink RX4 103 yX1_copyFrom, Cond.instanceMethod yX1_copyFrom, Cond.selects RX1 yX1_copyFrom yX1_copyFrom, Cond.initialized RX1, Cond.code yX1_copyFrom cX1_copyFrom 2 none, Cond.fieldLink RX1 9 "LandingFines$Landing" "isOpen" "Z", Cond.fieldLink RX1 15 "LandingFines$Landing" "fare" "I", Cond.fieldLink RX1 19 "LandingFines$Landing" "fine" "I", Cond.fieldLink RX1 22 "LandingFines$Landing" "isShunned" "Z", Cond.fieldLink RX1 25 "LandingFines$Landing" "minutesShunned" "I", Cond.fieldLink RX1 28 "LandingFines$Landing" "minutesSinceHalving" "I", Cond.fieldLink RX1 31 "LandingFines$Landing" "changes" "I", Cond.fieldLink RX1 34 "LandingFines$Landing" "timesShunned" "I", Cond.methodLink RX4 107 yX3_passMinuteOf]
def wsX4_fineIn_r2 : List Cond := [Cond.instanceMethod yX3_passMinuteOf, Cond.selects RX3 yX3_passMinuteOf yX3_passMinuteOf, Cond.code yX3_passMinuteOf cX3_passMinuteOf 2 (some .boolean), Cond.fieldLink RX3 18 "LandingFines$River" "settings" "[I", Cond.methodLink RX3 115 yX1_passMinute, Cond.instanceMethod yX1_passMinute, Cond.selects RX1 yX1_passMinute yX1_passMinute, Cond.code yX1_passMinute cX1_passMinute 4 (some .boolean), Cond.methodLink RX1 38 Lib.Math.min.name, Cond.static Lib.Math.min.name, Cond.initialized "java/lang/Math", Cond.code Lib.Math.min.name Lib.Math.min.code 2 (some .int)]
def wsX4_fineIn : List Cond := .code yX4_fineIn cX4_fineIn 5 (some .int) :: ((wsX4_fineIn_r1 ++ wsX4_fineIn_r2) ++ wsX40 ++ wsX10 ++ wsX30)
def wsX4_staysWelcome_r1 : List Cond := [Cond.fieldLink RX4 41 "LandingFines" "trial" "LLandingFines$Landing;", Cond.fieldLink RX4 10 "LandingFines" "river" "LLandingFines$River;", Cond.methodLink RX4 122 yX1_arrive, Cond.instanceMethod yX1_arrive, Cond.selects RX1 yX1_arrive yX1_arrive, Cond.initialized RX1, Cond.code yX1_arrive cX1_arrive 2 none, Cond.fieldLink RX1 9 "LandingFines$Landing" "isOpen" "Z", Cond.fieldLink RX1 15 "LandingFines$Landing" "fare" "I", Cond.fieldLink RX1 19 "LandingFines$Landing" "fine" "I", Cond.fieldLink RX1 22 "LandingFines$Landing" "isShunned" "Z", Cond.fieldLink RX1 25 "LandingFines$Landing" "minutesShunned" "I", Cond.fieldLink RX1 28 "LandingFines$Landing" "minutesSinceHalving" "I", Cond.fieldLink RX1 31 "LandingFines$Landing" "changes" "I", Cond.fieldLink RX1 34 "LandingFines$Landing" "timesShunned" "I", Cond.methodLink RX4 111 yX3_fineBySort, Cond.instanceMethod yX3_fineBySort, Cond.selects RX3 yX3_fineBySort yX3_fineBySort, Cond.initialized RX3, Cond.code yX3_fineBySort cX3_fineBySort 3 (some .boolean), Cond.fieldLink RX3 18 "LandingFines$River" "settings" "[I", Cond.methodLink RX3 102 yX1_addFine, Cond.instanceMethod yX1_addFine, Cond.selects RX1 yX1_addFine yX1_addFine]
def wsX4_staysWelcome_r2 : List Cond := [Cond.code yX1_addFine cX1_addFine 3 (some .boolean), Cond.constant RX1 37 (99999), Cond.methodLink RX1 38 Lib.Math.min.name, Cond.static Lib.Math.min.name, Cond.initialized "java/lang/Math", Cond.code Lib.Math.min.name Lib.Math.min.code 2 (some .int), Cond.methodLink RX4 126 yX3_fade, Cond.instanceMethod yX3_fade, Cond.selects RX3 yX3_fade yX3_fade, Cond.code yX3_fade cX3_fade 5 none, Cond.methodLink RX3 119 Lib.Math.max.name, Cond.static Lib.Math.max.name, Cond.code Lib.Math.max.name Lib.Math.max.code 2 (some .int), Cond.fieldLink RX3 125 "LandingFines$Landing" "minutesSinceHalving" "I", Cond.fieldLink RX3 99 "LandingFines$Landing" "fine" "I", Cond.methodLink RX3 128 Lib.Math.min.name]
def wsX4_staysWelcome : List Cond := .code yX4_staysWelcome cX4_staysWelcome 3 (some .boolean) :: ((wsX4_staysWelcome_r1 ++ wsX4_staysWelcome_r2) ++ wsX40 ++ wsX10 ++ wsX30)
def wsX4_steady_r1 : List Cond := [Cond.methodLink RX4 118 yX4_staysWelcome, Cond.instanceMethod yX4_staysWelcome, Cond.selects RX4 yX4_staysWelcome yX4_staysWelcome, Cond.initialized RX4, Cond.code yX4_staysWelcome cX4_staysWelcome 3 (some .boolean), Cond.fieldLink RX4 41 "LandingFines" "trial" "LLandingFines$Landing;", Cond.fieldLink RX4 10 "LandingFines" "river" "LLandingFines$River;", Cond.methodLink RX4 122 yX1_arrive, Cond.instanceMethod yX1_arrive, Cond.selects RX1 yX1_arrive yX1_arrive, Cond.initialized RX1, Cond.code yX1_arrive cX1_arrive 2 none, Cond.fieldLink RX1 9 "LandingFines$Landing" "isOpen" "Z", Cond.fieldLink RX1 15 "LandingFines$Landing" "fare" "I", Cond.fieldLink RX1 19 "LandingFines$Landing" "fine" "I", Cond.fieldLink RX1 22 "LandingFines$Landing" "isShunned" "Z", Cond.fieldLink RX1 25 "LandingFines$Landing" "minutesShunned" "I", Cond.fieldLink RX1 28 "LandingFines$Landing" "minutesSinceHalving" "I", Cond.fieldLink RX1 31 "LandingFines$Landing" "changes" "I", Cond.fieldLink RX1 34 "LandingFines$Landing" "timesShunned" "I", Cond.methodLink RX4 111 yX3_fineBySort, Cond.instanceMethod yX3_fineBySort, Cond.selects RX3 yX3_fineBySort yX3_fineBySort, Cond.initialized RX3]
def wsX4_steady_r2 : List Cond := [Cond.code yX3_fineBySort cX3_fineBySort 3 (some .boolean), Cond.fieldLink RX3 18 "LandingFines$River" "settings" "[I", Cond.methodLink RX3 102 yX1_addFine, Cond.instanceMethod yX1_addFine, Cond.selects RX1 yX1_addFine yX1_addFine, Cond.code yX1_addFine cX1_addFine 3 (some .boolean), Cond.constant RX1 37 (99999), Cond.methodLink RX1 38 Lib.Math.min.name, Cond.static Lib.Math.min.name, Cond.initialized "java/lang/Math", Cond.code Lib.Math.min.name Lib.Math.min.code 2 (some .int), Cond.methodLink RX4 126 yX3_fade, Cond.instanceMethod yX3_fade, Cond.selects RX3 yX3_fade yX3_fade, Cond.code yX3_fade cX3_fade 5 none, Cond.methodLink RX3 119 Lib.Math.max.name, Cond.static Lib.Math.max.name, Cond.code Lib.Math.max.name Lib.Math.max.code 2 (some .int), Cond.fieldLink RX3 125 "LandingFines$Landing" "minutesSinceHalving" "I", Cond.fieldLink RX3 99 "LandingFines$Landing" "fine" "I", Cond.methodLink RX3 128 Lib.Math.min.name]
def wsX4_steady : List Cond := .code yX4_steady cX4_steady 2 (some .int) :: ((wsX4_steady_r1 ++ wsX4_steady_r2) ++ wsX40 ++ wsX10 ++ wsX30)
def wsX4_charactersIn : List Cond := .code yX4_charactersIn cX4_charactersIn 6 (some .int) :: ([.constantLong RX4 138 (255)])
def wsX4_put : List Cond := .code yX4_put cX4_put 4 (some .int) :: ([.fieldLink RX4 34 "LandingFines" "pad" "LLandingFines$Pad;", .fieldLink RX4 78 "LandingFines$Pad" "length" "I", .methodLink RX4 130 yX4_charactersIn, .static yX4_charactersIn, .initialized RX4, .code yX4_charactersIn cX4_charactersIn 6 (some .int), .constantLong RX4 138 (255), .methodLink RX4 134 yX2_append, .instanceMethod yX2_append, .selects RX2 yX2_append yX2_append, .initialized RX2, .code yX2_append cX2_append 5 none, .fieldLink RX2 15 "LandingFines$Pad" "length" "I", .fieldLink RX2 9 "LandingFines$Pad" "signs" "[C", .constantLong RX2 32 (255)] ++ wsX40 ++ wsX20)
def wsX4_wipe : List Cond := .code yX4_wipe cX4_wipe 1 (some .int) :: ([.fieldLink RX4 34 "LandingFines" "pad" "LLandingFines$Pad;", .methodLink RX4 140 yX2_clear, .instanceMethod yX2_clear, .selects RX2 yX2_clear yX2_clear, .initialized RX2, .code yX2_clear cX2_clear 2 (some .int), .fieldLink RX2 15 "LandingFines$Pad" "length" "I"] ++ wsX40 ++ wsX20)
def wsX4_fault_r1 : List Cond := [Cond.fieldLink RX4 34 "LandingFines" "pad" "LLandingFines$Pad;", Cond.methodLink RX4 144 yX2_findFault, Cond.instanceMethod yX2_findFault, Cond.selects RX2 yX2_findFault yX2_findFault, Cond.initialized RX2, Cond.code yX2_findFault cX2_findFault 2 (some .int), Cond.fieldLink RX2 19 "LandingFines$Pad" "place" "I", Cond.fieldLink RX2 15 "LandingFines$Pad" "length" "I", Cond.methodLink RX2 34 yX2_startReading, Cond.instanceMethod yX2_startReading, Cond.selects RX2 yX2_startReading yX2_startReading, Cond.code yX2_startReading cX2_startReading 1 none, Cond.methodLink RX2 37 yX2_readOrder, Cond.instanceMethod yX2_readOrder, Cond.selects RX2 yX2_readOrder yX2_readOrder, Cond.code yX2_readOrder cX2_readOrder 1 (some .boolean), Cond.fieldLink RX2 9 "LandingFines$Pad" "signs" "[C", Cond.fieldLink RX2 22 "LandingFines$Pad" "orderSign" "C", Cond.methodLink RX2 45 yX2_readNumber, Cond.instanceMethod yX2_readNumber, Cond.selects RX2 yX2_readNumber yX2_readNumber, Cond.code yX2_readNumber cX2_readNumber 2 (some .boolean), Cond.fieldLink RX2 29 "LandingFines$Pad" "orderNumber" "I", Cond.methodLink RX2 51 yX2_isAtDigit]
def wsX4_fault_r2 : List Cond := [Cond.instanceMethod yX2_isAtDigit, Cond.selects RX2 yX2_isAtDigit yX2_isAtDigit, Cond.code yX2_isAtDigit cX2_isAtDigit 1 (some .boolean), Cond.methodLink RX2 48 yX2_readLanding, Cond.instanceMethod yX2_readLanding, Cond.selects RX2 yX2_readLanding yX2_readLanding, Cond.code yX2_readLanding cX2_readLanding 1 (some .boolean), Cond.fieldLink RX2 26 "LandingFines$Pad" "orderLanding" "I", Cond.methodLink RX2 41 yX2_readSign, Cond.instanceMethod yX2_readSign, Cond.selects RX2 yX2_readSign yX2_readSign, Cond.code yX2_readSign cX2_readSign 2 (some .boolean)]
def wsX4_fault : List Cond := .code yX4_fault cX4_fault 1 (some .int) :: ((wsX4_fault_r1 ++ wsX4_fault_r2) ++ wsX40 ++ wsX20)
def wsX4_carryOutOne_r1 : List Cond := [Cond.fieldLink RX4 34 "LandingFines" "pad" "LLandingFines$Pad;", Cond.fieldLink RX4 161 "LandingFines$Pad" "orderSign" "C", Cond.fieldLink RX4 10 "LandingFines" "river" "LLandingFines$River;", Cond.fieldLink RX4 165 "LandingFines$Pad" "orderNumber" "I", Cond.fieldLink RX4 168 "LandingFines$Pad" "orderLanding" "I", Cond.methodLink RX4 56 yX3_addLanding, Cond.instanceMethod yX3_addLanding, Cond.selects RX3 yX3_addLanding yX3_addLanding, Cond.initialized RX3, Cond.code yX3_addLanding cX3_addLanding 2 (some .int), Cond.fieldLink RX3 29 "LandingFines$River" "landingCount" "I", Cond.fieldLink RX3 25 "LandingFines$River" "landings" "[LLandingFines$Landing;", Cond.methodLink RX3 69 yX1_arrive, Cond.instanceMethod yX1_arrive, Cond.selects RX1 yX1_arrive yX1_arrive, Cond.initialized RX1, Cond.code yX1_arrive cX1_arrive 2 none, Cond.fieldLink RX1 9 "LandingFines$Landing" "isOpen" "Z", Cond.fieldLink RX1 15 "LandingFines$Landing" "fare" "I", Cond.fieldLink RX1 19 "LandingFines$Landing" "fine" "I", Cond.fieldLink RX1 22 "LandingFines$Landing" "isShunned" "Z", Cond.fieldLink RX1 25 "LandingFines$Landing" "minutesShunned" "I", Cond.fieldLink RX1 28 "LandingFines$Landing" "minutesSinceHalving" "I", Cond.fieldLink RX1 31 "LandingFines$Landing" "changes" "I"]
def wsX4_carryOutOne_r2 : List Cond := [Cond.fieldLink RX1 34 "LandingFines$Landing" "timesShunned" "I", Cond.methodLink RX3 73 yX3_followTaken, Cond.instanceMethod yX3_followTaken, Cond.selects RX3 yX3_followTaken yX3_followTaken, Cond.code yX3_followTaken cX3_followTaken 3 none, Cond.fieldLink RX3 88 "LandingFines$Landing" "fare" "I", Cond.fieldLink RX3 36 "LandingFines$River" "taken" "I", Cond.fieldLink RX3 39 "LandingFines$River" "switches" "I", Cond.methodLink RX3 131 yX1_canBeTaken, Cond.instanceMethod yX1_canBeTaken, Cond.selects RX1 yX1_canBeTaken yX1_canBeTaken, Cond.code yX1_canBeTaken cX1_canBeTaken 1 (some .boolean), Cond.methodLink RX4 59 yX3_openLanding, Cond.instanceMethod yX3_openLanding, Cond.selects RX3 yX3_openLanding yX3_openLanding, Cond.code yX3_openLanding cX3_openLanding 3 (some .int), Cond.fieldLink RX3 80 "LandingFines$Landing" "isOpen" "Z", Cond.methodLink RX3 76 yX3_find, Cond.instanceMethod yX3_find, Cond.selects RX3 yX3_find yX3_find, Cond.code yX3_find cX3_find 2 (some (.object "LandingFines$Landing")), Cond.methodLink RX3 84 yX3_finishChange, Cond.instanceMethod yX3_finishChange, Cond.selects RX3 yX3_finishChange yX3_finishChange]
def wsX4_carryOutOne_r3 : List Cond := [Cond.code yX3_finishChange cX3_finishChange 4 (some .int), Cond.fieldLink RX3 45 "LandingFines$River" "journal" "LLandingFines$Journal;", Cond.fieldLink RX3 33 "LandingFines$River" "minutesSoFar" "I", Cond.fieldLink RX3 99 "LandingFines$Landing" "fine" "I", Cond.methodLink RX3 91 yX0_add, Cond.instanceMethod yX0_add, Cond.selects RX0 yX0_add yX0_add, Cond.initialized RX0, Cond.code yX0_add cX0_add 4 none, Cond.fieldLink RX0 9 "LandingFines$Journal" "sorts" "[I", Cond.fieldLink RX0 25 "LandingFines$Journal" "next" "I", Cond.fieldLink RX0 15 "LandingFines$Journal" "places" "[I", Cond.fieldLink RX0 18 "LandingFines$Journal" "minutes" "[I", Cond.fieldLink RX0 21 "LandingFines$Journal" "size" "I", Cond.methodLink RX0 28 Lib.Math.min.name, Cond.static Lib.Math.min.name, Cond.initialized "java/lang/Math", Cond.code Lib.Math.min.name Lib.Math.min.code 2 (some .int), Cond.methodLink RX3 95 yX3_fineBySort, Cond.instanceMethod yX3_fineBySort, Cond.selects RX3 yX3_fineBySort yX3_fineBySort, Cond.code yX3_fineBySort cX3_fineBySort 3 (some .boolean), Cond.fieldLink RX3 18 "LandingFines$River" "settings" "[I", Cond.methodLink RX3 102 yX1_addFine]
def wsX4_carryOutOne_r4 : List Cond := [Cond.instanceMethod yX1_addFine, Cond.selects RX1 yX1_addFine yX1_addFine, Cond.code yX1_addFine cX1_addFine 3 (some .boolean), Cond.constant RX1 37 (99999), Cond.methodLink RX1 38 Lib.Math.min.name, Cond.methodLink RX4 62 yX3_closeLanding, Cond.instanceMethod yX3_closeLanding, Cond.selects RX3 yX3_closeLanding yX3_closeLanding, Cond.code yX3_closeLanding cX3_closeLanding 3 (some .int), Cond.methodLink RX4 65 yX3_changePrice, Cond.instanceMethod yX3_changePrice, Cond.selects RX3 yX3_changePrice yX3_changePrice, Cond.code yX3_changePrice cX3_changePrice 4 (some .int), Cond.methodLink RX4 68 yX3_passMinutes, Cond.instanceMethod yX3_passMinutes, Cond.selects RX3 yX3_passMinutes yX3_passMinutes, Cond.code yX3_passMinutes cX3_passMinutes 4 (some .int), Cond.constant RX3 106 (99999), Cond.methodLink RX3 107 yX3_passOneMinute, Cond.instanceMethod yX3_passOneMinute, Cond.selects RX3 yX3_passOneMinute yX3_passOneMinute, Cond.code yX3_passOneMinute cX3_passOneMinute 3 (some .int), Cond.methodLink RX3 111 yX3_passMinuteOf, Cond.instanceMethod yX3_passMinuteOf]
def wsX4_carryOutOne_r5 : List Cond := [Cond.selects RX3 yX3_passMinuteOf yX3_passMinuteOf, Cond.code yX3_passMinuteOf cX3_passMinuteOf 2 (some .boolean), Cond.methodLink RX3 115 yX1_passMinute, Cond.instanceMethod yX1_passMinute, Cond.selects RX1 yX1_passMinute yX1_passMinute, Cond.code yX1_passMinute cX1_passMinute 4 (some .boolean)]
def wsX4_carryOutOne : List Cond := .code yX4_carryOutOne cX4_carryOutOne 1 (some .int) :: ((wsX4_carryOutOne_r1 ++ (wsX4_carryOutOne_r2 ++ (wsX4_carryOutOne_r3 ++ (wsX4_carryOutOne_r4 ++ wsX4_carryOutOne_r5)))) ++ wsX40 ++ wsX20 ++ wsX30 ++ wsX10 ++ wsX00)
def wsX4_carryOut_r1 : List Cond := [Cond.fieldLink RX4 34 "LandingFines" "pad" "LLandingFines$Pad;", Cond.methodLink RX4 144 yX2_findFault, Cond.instanceMethod yX2_findFault, Cond.selects RX2 yX2_findFault yX2_findFault, Cond.initialized RX2, Cond.code yX2_findFault cX2_findFault 2 (some .int), Cond.fieldLink RX2 19 "LandingFines$Pad" "place" "I", Cond.fieldLink RX2 15 "LandingFines$Pad" "length" "I", Cond.methodLink RX2 34 yX2_startReading, Cond.instanceMethod yX2_startReading, Cond.selects RX2 yX2_startReading yX2_startReading, Cond.code yX2_startReading cX2_startReading 1 none, Cond.methodLink RX2 37 yX2_readOrder, Cond.instanceMethod yX2_readOrder, Cond.selects RX2 yX2_readOrder yX2_readOrder, Cond.code yX2_readOrder cX2_readOrder 1 (some .boolean), Cond.fieldLink RX2 9 "LandingFines$Pad" "signs" "[C", Cond.fieldLink RX2 22 "LandingFines$Pad" "orderSign" "C", Cond.methodLink RX2 45 yX2_readNumber, Cond.instanceMethod yX2_readNumber, Cond.selects RX2 yX2_readNumber yX2_readNumber, Cond.code yX2_readNumber cX2_readNumber 2 (some .boolean), Cond.fieldLink RX2 29 "LandingFines$Pad" "orderNumber" "I", Cond.methodLink RX2 51 yX2_isAtDigit]
def wsX4_carryOut_r2 : List Cond := [Cond.instanceMethod yX2_isAtDigit, Cond.selects RX2 yX2_isAtDigit yX2_isAtDigit, Cond.code yX2_isAtDigit cX2_isAtDigit 1 (some .boolean), Cond.methodLink RX2 48 yX2_readLanding, Cond.instanceMethod yX2_readLanding, Cond.selects RX2 yX2_readLanding yX2_readLanding, Cond.code yX2_readLanding cX2_readLanding 1 (some .boolean), Cond.fieldLink RX2 26 "LandingFines$Pad" "orderLanding" "I", Cond.methodLink RX2 41 yX2_readSign, Cond.instanceMethod yX2_readSign, Cond.selects RX2 yX2_readSign yX2_readSign, Cond.code yX2_readSign cX2_readSign 2 (some .boolean), Cond.methodLink RX4 45 yX4_keepState, Cond.instanceMethod yX4_keepState, Cond.selects RX4 yX4_keepState yX4_keepState, Cond.initialized RX4, Cond.code yX4_keepState cX4_keepState 1 none, Cond.fieldLink RX4 16 "LandingFines" "history" "[LLandingFines$River;", Cond.fieldLink RX4 20 "LandingFines" "historySize" "I", Cond.fieldLink RX4 10 "LandingFines" "river" "LLandingFines$River;", Cond.methodLink RX4 171 yX3_copyFrom, Cond.instanceMethod yX3_copyFrom, Cond.selects RX3 yX3_copyFrom yX3_copyFrom, Cond.initialized RX3]
def wsX4_carryOut_r3 : List Cond := [Cond.code yX3_copyFrom cX3_copyFrom 3 none, Cond.fieldLink RX3 18 "LandingFines$River" "settings" "[I", Cond.methodLink RX3 50 arraycopyName, Cond.native arraycopyName, Cond.static arraycopyName, Cond.initialized "java/lang/System", Cond.fieldLink RX3 25 "LandingFines$River" "landings" "[LLandingFines$Landing;", Cond.fieldLink RX3 29 "LandingFines$River" "landingCount" "I", Cond.fieldLink RX3 33 "LandingFines$River" "minutesSoFar" "I", Cond.fieldLink RX3 36 "LandingFines$River" "taken" "I", Cond.fieldLink RX3 39 "LandingFines$River" "switches" "I", Cond.fieldLink RX3 45 "LandingFines$River" "journal" "LLandingFines$Journal;", Cond.methodLink RX3 56 yX1_copyFrom, Cond.instanceMethod yX1_copyFrom, Cond.selects RX1 yX1_copyFrom yX1_copyFrom, Cond.initialized RX1, Cond.code yX1_copyFrom cX1_copyFrom 2 none, Cond.fieldLink RX1 9 "LandingFines$Landing" "isOpen" "Z", Cond.fieldLink RX1 15 "LandingFines$Landing" "fare" "I", Cond.fieldLink RX1 19 "LandingFines$Landing" "fine" "I", Cond.fieldLink RX1 22 "LandingFines$Landing" "isShunned" "Z", Cond.fieldLink RX1 25 "LandingFines$Landing" "minutesShunned" "I", Cond.fieldLink RX1 28 "LandingFines$Landing" "minutesSinceHalving" "I", Cond.fieldLink RX1 31 "LandingFines$Landing" "changes" "I"]
def wsX4_carryOut_r4 : List Cond := [Cond.fieldLink RX1 34 "LandingFines$Landing" "timesShunned" "I", Cond.methodLink RX3 60 yX0_copyFrom, Cond.instanceMethod yX0_copyFrom, Cond.selects RX0 yX0_copyFrom yX0_copyFrom, Cond.initialized RX0, Cond.code yX0_copyFrom cX0_copyFrom 2 none, Cond.fieldLink RX0 9 "LandingFines$Journal" "sorts" "[I", Cond.methodLink RX0 34 arraycopyName, Cond.fieldLink RX0 15 "LandingFines$Journal" "places" "[I", Cond.fieldLink RX0 18 "LandingFines$Journal" "minutes" "[I", Cond.fieldLink RX0 21 "LandingFines$Journal" "size" "I", Cond.fieldLink RX0 25 "LandingFines$Journal" "next" "I", Cond.methodLink RX4 147 yX2_startReading, Cond.methodLink RX4 150 yX2_readOrder, Cond.methodLink RX4 154 yX4_carryOutOne, Cond.instanceMethod yX4_carryOutOne, Cond.selects RX4 yX4_carryOutOne yX4_carryOutOne, Cond.code yX4_carryOutOne cX4_carryOutOne 1 (some .int), Cond.fieldLink RX4 161 "LandingFines$Pad" "orderSign" "C", Cond.fieldLink RX4 165 "LandingFines$Pad" "orderNumber" "I", Cond.fieldLink RX4 168 "LandingFines$Pad" "orderLanding" "I", Cond.methodLink RX4 56 yX3_addLanding, Cond.instanceMethod yX3_addLanding, Cond.selects RX3 yX3_addLanding yX3_addLanding]
def wsX4_carryOut_r5 : List Cond := [Cond.code yX3_addLanding cX3_addLanding 2 (some .int), Cond.methodLink RX3 69 yX1_arrive, Cond.instanceMethod yX1_arrive, Cond.selects RX1 yX1_arrive yX1_arrive, Cond.code yX1_arrive cX1_arrive 2 none, Cond.methodLink RX3 73 yX3_followTaken, Cond.instanceMethod yX3_followTaken, Cond.selects RX3 yX3_followTaken yX3_followTaken, Cond.code yX3_followTaken cX3_followTaken 3 none, Cond.fieldLink RX3 88 "LandingFines$Landing" "fare" "I", Cond.methodLink RX3 131 yX1_canBeTaken, Cond.instanceMethod yX1_canBeTaken, Cond.selects RX1 yX1_canBeTaken yX1_canBeTaken, Cond.code yX1_canBeTaken cX1_canBeTaken 1 (some .boolean), Cond.methodLink RX4 59 yX3_openLanding, Cond.instanceMethod yX3_openLanding, Cond.selects RX3 yX3_openLanding yX3_openLanding, Cond.code yX3_openLanding cX3_openLanding 3 (some .int), Cond.fieldLink RX3 80 "LandingFines$Landing" "isOpen" "Z", Cond.methodLink RX3 76 yX3_find, Cond.instanceMethod yX3_find, Cond.selects RX3 yX3_find yX3_find, Cond.code yX3_find cX3_find 2 (some (.object "LandingFines$Landing")), Cond.methodLink RX3 84 yX3_finishChange]
def wsX4_carryOut_r6 : List Cond := [Cond.instanceMethod yX3_finishChange, Cond.selects RX3 yX3_finishChange yX3_finishChange, Cond.code yX3_finishChange cX3_finishChange 4 (some .int), Cond.fieldLink RX3 99 "LandingFines$Landing" "fine" "I", Cond.methodLink RX3 91 yX0_add, Cond.instanceMethod yX0_add, Cond.selects RX0 yX0_add yX0_add, Cond.code yX0_add cX0_add 4 none, Cond.methodLink RX0 28 Lib.Math.min.name, Cond.static Lib.Math.min.name, Cond.initialized "java/lang/Math", Cond.code Lib.Math.min.name Lib.Math.min.code 2 (some .int), Cond.methodLink RX3 95 yX3_fineBySort, Cond.instanceMethod yX3_fineBySort, Cond.selects RX3 yX3_fineBySort yX3_fineBySort, Cond.code yX3_fineBySort cX3_fineBySort 3 (some .boolean), Cond.methodLink RX3 102 yX1_addFine, Cond.instanceMethod yX1_addFine, Cond.selects RX1 yX1_addFine yX1_addFine, Cond.code yX1_addFine cX1_addFine 3 (some .boolean), Cond.constant RX1 37 (99999), Cond.methodLink RX1 38 Lib.Math.min.name, Cond.methodLink RX4 62 yX3_closeLanding, Cond.instanceMethod yX3_closeLanding]
def wsX4_carryOut_r7 : List Cond := [Cond.selects RX3 yX3_closeLanding yX3_closeLanding, Cond.code yX3_closeLanding cX3_closeLanding 3 (some .int), Cond.methodLink RX4 65 yX3_changePrice, Cond.instanceMethod yX3_changePrice, Cond.selects RX3 yX3_changePrice yX3_changePrice, Cond.code yX3_changePrice cX3_changePrice 4 (some .int), Cond.methodLink RX4 68 yX3_passMinutes, Cond.instanceMethod yX3_passMinutes, Cond.selects RX3 yX3_passMinutes yX3_passMinutes, Cond.code yX3_passMinutes cX3_passMinutes 4 (some .int), Cond.constant RX3 106 (99999), Cond.methodLink RX3 107 yX3_passOneMinute, Cond.instanceMethod yX3_passOneMinute, Cond.selects RX3 yX3_passOneMinute yX3_passOneMinute, Cond.code yX3_passOneMinute cX3_passOneMinute 3 (some .int), Cond.methodLink RX3 111 yX3_passMinuteOf, Cond.instanceMethod yX3_passMinuteOf, Cond.selects RX3 yX3_passMinuteOf yX3_passMinuteOf, Cond.code yX3_passMinuteOf cX3_passMinuteOf 2 (some .boolean), Cond.methodLink RX3 115 yX1_passMinute, Cond.instanceMethod yX1_passMinute, Cond.selects RX1 yX1_passMinute yX1_passMinute, Cond.code yX1_passMinute cX1_passMinute 4 (some .boolean), Cond.methodLink RX4 157 yX2_readSign]
def wsX4_carryOut_r8 : List Cond := [Cond.methodLink RX4 140 yX2_clear, Cond.instanceMethod yX2_clear, Cond.selects RX2 yX2_clear yX2_clear, Cond.code yX2_clear cX2_clear 2 (some .int), Cond.methodLink RX4 52 yX4_recordUnlessError, Cond.instanceMethod yX4_recordUnlessError, Cond.selects RX4 yX4_recordUnlessError yX4_recordUnlessError, Cond.code yX4_recordUnlessError cX4_recordUnlessError 2 (some .int), Cond.methodLink RX4 177 yX4_dropOldest, Cond.instanceMethod yX4_dropOldest, Cond.selects RX4 yX4_dropOldest yX4_dropOldest, Cond.code yX4_dropOldest cX4_dropOldest 3 none]
def wsX4_carryOut : List Cond := .code yX4_carryOut cX4_carryOut 3 (some .int) :: ((wsX4_carryOut_r1 ++ (wsX4_carryOut_r2 ++ (wsX4_carryOut_r3 ++ (wsX4_carryOut_r4 ++ (wsX4_carryOut_r5 ++ (wsX4_carryOut_r6 ++ (wsX4_carryOut_r7 ++ wsX4_carryOut_r8))))))) ++ wsX40 ++ wsX20 ++ wsX30 ++ wsX10 ++ wsX00)
def wsX4_undo_r1 : List Cond := [Cond.fieldLink RX4 20 "LandingFines" "historySize" "I", Cond.fieldLink RX4 10 "LandingFines" "river" "LLandingFines$River;", Cond.fieldLink RX4 16 "LandingFines" "history" "[LLandingFines$River;", Cond.methodLink RX4 171 yX3_copyFrom, Cond.instanceMethod yX3_copyFrom, Cond.selects RX3 yX3_copyFrom yX3_copyFrom, Cond.initialized RX3, Cond.code yX3_copyFrom cX3_copyFrom 3 none, Cond.fieldLink RX3 18 "LandingFines$River" "settings" "[I", Cond.methodLink RX3 50 arraycopyName, Cond.native arraycopyName, Cond.static arraycopyName, Cond.initialized "java/lang/System", Cond.fieldLink RX3 25 "LandingFines$River" "landings" "[LLandingFines$Landing;", Cond.fieldLink RX3 29 "LandingFines$River" "landingCount" "I", Cond.fieldLink RX3 33 "LandingFines$River" "minutesSoFar" "I", Cond.fieldLink RX3 36 "LandingFines$River" "taken" "I", Cond.fieldLink RX3 39 "LandingFines$River" "switches" "I", Cond.fieldLink RX3 45 "LandingFines$River" "journal" "LLandingFines$Journal;", Cond.methodLink RX3 56 yX1_copyFrom, Cond.instanceMethod yX1_copyFrom, Cond.selects RX1 yX1_copyFrom yX1_copyFrom, Cond.initialized RX1, Cond.code yX1_copyFrom cX1_copyFrom 2 none]
def wsX4_undo_r2 : List Cond := [Cond.fieldLink RX1 9 "LandingFines$Landing" "isOpen" "Z", Cond.fieldLink RX1 15 "LandingFines$Landing" "fare" "I", Cond.fieldLink RX1 19 "LandingFines$Landing" "fine" "I", Cond.fieldLink RX1 22 "LandingFines$Landing" "isShunned" "Z", Cond.fieldLink RX1 25 "LandingFines$Landing" "minutesShunned" "I", Cond.fieldLink RX1 28 "LandingFines$Landing" "minutesSinceHalving" "I", Cond.fieldLink RX1 31 "LandingFines$Landing" "changes" "I", Cond.fieldLink RX1 34 "LandingFines$Landing" "timesShunned" "I", Cond.methodLink RX3 60 yX0_copyFrom, Cond.instanceMethod yX0_copyFrom, Cond.selects RX0 yX0_copyFrom yX0_copyFrom, Cond.initialized RX0, Cond.code yX0_copyFrom cX0_copyFrom 2 none, Cond.fieldLink RX0 9 "LandingFines$Journal" "sorts" "[I", Cond.methodLink RX0 34 arraycopyName, Cond.fieldLink RX0 15 "LandingFines$Journal" "places" "[I", Cond.fieldLink RX0 18 "LandingFines$Journal" "minutes" "[I", Cond.fieldLink RX0 21 "LandingFines$Journal" "size" "I", Cond.fieldLink RX0 25 "LandingFines$Journal" "next" "I"]
def wsX4_undo : List Cond := .code yX4_undo cX4_undo 1 (some .int) :: ((wsX4_undo_r1 ++ wsX4_undo_r2) ++ wsX40 ++ wsX30 ++ wsX10 ++ wsX00)
def wsX4_save_r1 : List Cond := [Cond.fieldLink RX4 24 "LandingFines" "slots" "[LLandingFines$River;", Cond.fieldLink RX4 10 "LandingFines" "river" "LLandingFines$River;", Cond.fieldLink RX4 27 "LandingFines" "slotUsed" "[Z", Cond.fieldLink RX4 174 "LandingFines$River" "landingCount" "I", Cond.methodLink RX4 171 yX3_copyFrom, Cond.instanceMethod yX3_copyFrom, Cond.selects RX3 yX3_copyFrom yX3_copyFrom, Cond.initialized RX3, Cond.code yX3_copyFrom cX3_copyFrom 3 none, Cond.fieldLink RX3 18 "LandingFines$River" "settings" "[I", Cond.methodLink RX3 50 arraycopyName, Cond.native arraycopyName, Cond.static arraycopyName, Cond.initialized "java/lang/System", Cond.fieldLink RX3 25 "LandingFines$River" "landings" "[LLandingFines$Landing;", Cond.fieldLink RX3 29 "LandingFines$River" "landingCount" "I", Cond.fieldLink RX3 33 "LandingFines$River" "minutesSoFar" "I", Cond.fieldLink RX3 36 "LandingFines$River" "taken" "I", Cond.fieldLink RX3 39 "LandingFines$River" "switches" "I", Cond.fieldLink RX3 45 "LandingFines$River" "journal" "LLandingFines$Journal;", Cond.methodLink RX3 56 yX1_copyFrom, Cond.instanceMethod yX1_copyFrom, Cond.selects RX1 yX1_copyFrom yX1_copyFrom, Cond.initialized RX1]
def wsX4_save_r2 : List Cond := [Cond.code yX1_copyFrom cX1_copyFrom 2 none, Cond.fieldLink RX1 9 "LandingFines$Landing" "isOpen" "Z", Cond.fieldLink RX1 15 "LandingFines$Landing" "fare" "I", Cond.fieldLink RX1 19 "LandingFines$Landing" "fine" "I", Cond.fieldLink RX1 22 "LandingFines$Landing" "isShunned" "Z", Cond.fieldLink RX1 25 "LandingFines$Landing" "minutesShunned" "I", Cond.fieldLink RX1 28 "LandingFines$Landing" "minutesSinceHalving" "I", Cond.fieldLink RX1 31 "LandingFines$Landing" "changes" "I", Cond.fieldLink RX1 34 "LandingFines$Landing" "timesShunned" "I", Cond.methodLink RX3 60 yX0_copyFrom, Cond.instanceMethod yX0_copyFrom, Cond.selects RX0 yX0_copyFrom yX0_copyFrom, Cond.initialized RX0, Cond.code yX0_copyFrom cX0_copyFrom 2 none, Cond.fieldLink RX0 9 "LandingFines$Journal" "sorts" "[I", Cond.methodLink RX0 34 arraycopyName, Cond.fieldLink RX0 15 "LandingFines$Journal" "places" "[I", Cond.fieldLink RX0 18 "LandingFines$Journal" "minutes" "[I", Cond.fieldLink RX0 21 "LandingFines$Journal" "size" "I", Cond.fieldLink RX0 25 "LandingFines$Journal" "next" "I"]
def wsX4_save : List Cond := .code yX4_save cX4_save 2 (some .int) :: ((wsX4_save_r1 ++ wsX4_save_r2) ++ wsX40 ++ wsX30 ++ wsX10 ++ wsX00)
def wsX4_restore_r1 : List Cond := [Cond.fieldLink RX4 27 "LandingFines" "slotUsed" "[Z", Cond.fieldLink RX4 10 "LandingFines" "river" "LLandingFines$River;", Cond.fieldLink RX4 24 "LandingFines" "slots" "[LLandingFines$River;", Cond.fieldLink RX4 174 "LandingFines$River" "landingCount" "I", Cond.methodLink RX4 45 yX4_keepState, Cond.instanceMethod yX4_keepState, Cond.selects RX4 yX4_keepState yX4_keepState, Cond.initialized RX4, Cond.code yX4_keepState cX4_keepState 1 none, Cond.fieldLink RX4 16 "LandingFines" "history" "[LLandingFines$River;", Cond.fieldLink RX4 20 "LandingFines" "historySize" "I", Cond.methodLink RX4 171 yX3_copyFrom, Cond.instanceMethod yX3_copyFrom, Cond.selects RX3 yX3_copyFrom yX3_copyFrom, Cond.initialized RX3, Cond.code yX3_copyFrom cX3_copyFrom 3 none, Cond.fieldLink RX3 18 "LandingFines$River" "settings" "[I", Cond.methodLink RX3 50 arraycopyName, Cond.native arraycopyName, Cond.static arraycopyName, Cond.initialized "java/lang/System", Cond.fieldLink RX3 25 "LandingFines$River" "landings" "[LLandingFines$Landing;", Cond.fieldLink RX3 29 "LandingFines$River" "landingCount" "I", Cond.fieldLink RX3 33 "LandingFines$River" "minutesSoFar" "I"]
def wsX4_restore_r2 : List Cond := [Cond.fieldLink RX3 36 "LandingFines$River" "taken" "I", Cond.fieldLink RX3 39 "LandingFines$River" "switches" "I", Cond.fieldLink RX3 45 "LandingFines$River" "journal" "LLandingFines$Journal;", Cond.methodLink RX3 56 yX1_copyFrom, Cond.instanceMethod yX1_copyFrom, Cond.selects RX1 yX1_copyFrom yX1_copyFrom, Cond.initialized RX1, Cond.code yX1_copyFrom cX1_copyFrom 2 none, Cond.fieldLink RX1 9 "LandingFines$Landing" "isOpen" "Z", Cond.fieldLink RX1 15 "LandingFines$Landing" "fare" "I", Cond.fieldLink RX1 19 "LandingFines$Landing" "fine" "I", Cond.fieldLink RX1 22 "LandingFines$Landing" "isShunned" "Z", Cond.fieldLink RX1 25 "LandingFines$Landing" "minutesShunned" "I", Cond.fieldLink RX1 28 "LandingFines$Landing" "minutesSinceHalving" "I", Cond.fieldLink RX1 31 "LandingFines$Landing" "changes" "I", Cond.fieldLink RX1 34 "LandingFines$Landing" "timesShunned" "I", Cond.methodLink RX3 60 yX0_copyFrom, Cond.instanceMethod yX0_copyFrom, Cond.selects RX0 yX0_copyFrom yX0_copyFrom, Cond.initialized RX0, Cond.code yX0_copyFrom cX0_copyFrom 2 none, Cond.fieldLink RX0 9 "LandingFines$Journal" "sorts" "[I", Cond.methodLink RX0 34 arraycopyName, Cond.fieldLink RX0 15 "LandingFines$Journal" "places" "[I"]
def wsX4_restore_r3 : List Cond := [Cond.fieldLink RX0 18 "LandingFines$Journal" "minutes" "[I", Cond.fieldLink RX0 21 "LandingFines$Journal" "size" "I", Cond.fieldLink RX0 25 "LandingFines$Journal" "next" "I", Cond.methodLink RX4 52 yX4_recordUnlessError, Cond.instanceMethod yX4_recordUnlessError, Cond.selects RX4 yX4_recordUnlessError yX4_recordUnlessError, Cond.code yX4_recordUnlessError cX4_recordUnlessError 2 (some .int), Cond.methodLink RX4 177 yX4_dropOldest, Cond.instanceMethod yX4_dropOldest, Cond.selects RX4 yX4_dropOldest yX4_dropOldest, Cond.code yX4_dropOldest cX4_dropOldest 3 none]
def wsX4_restore : List Cond := .code yX4_restore cX4_restore 2 (some .int) :: ((wsX4_restore_r1 ++ (wsX4_restore_r2 ++ wsX4_restore_r3)) ++ wsX40 ++ wsX30 ++ wsX10 ++ wsX00)
def wsX5_init : List Cond := .code yX5_init cX5_init 1 none :: ([.methodLink RX5 1 objectInit, .instanceMethod objectInit, .code objectInit ⟨#[0xb1]⟩ 1 none, .arrayClass .int, .fieldLink RX5 7 "LandingFinesModel" "row" "[I", .fieldLink RX5 13 "LandingFinesModel" "past" "[I", .fieldLink RX5 16 "LandingFinesModel" "before" "[I", .fieldLink RX5 19 "LandingFinesModel" "slots" "[I", .arrayClass .boolean, .fieldLink RX5 22 "LandingFinesModel" "isSaved" "[Z", .fieldLink RX5 26 "LandingFinesModel" "pad" "[I", .fieldLink RX5 29 "LandingFinesModel" "codes" "[I"] ++ wsX50)
def wsX5_in : List Cond := .code yX5_in cX5_in 4 (some .boolean) :: ([])
def wsX5_its : List Cond := .code yX5_its cX5_its 3 (some .int) :: ([.fieldLink RX5 7 "LandingFinesModel" "row" "[I"] ++ wsX50)
def wsX5_lay : List Cond := .code yX5_lay cX5_lay 4 none :: ([.fieldLink RX5 7 "LandingFinesModel" "row" "[I"] ++ wsX50)
def wsX5_isLanding : List Cond := .code yX5_isLanding cX5_isLanding 2 (some .boolean) :: ([.fieldLink RX5 7 "LandingFinesModel" "row" "[I", .methodLink RX5 32 yX5_in, .static yX5_in, .initialized RX5, .code yX5_in cX5_in 4 (some .boolean)] ++ wsX50)
def wsX5_remember : List Cond := .code yX5_remember cX5_remember 2 none :: ([.fieldLink RX5 16 "LandingFinesModel" "before" "[I", .fieldLink RX5 7 "LandingFinesModel" "row" "[I"] ++ wsX50)
def wsX5_record : List Cond := .code yX5_record cX5_record 3 (some .int) :: ([.fieldLink RX5 36 "LandingFinesModel" "states" "I", .fieldLink RX5 13 "LandingFinesModel" "past" "[I", .fieldLink RX5 16 "LandingFinesModel" "before" "[I"] ++ wsX50)
def wsX5_undo : List Cond := .code yX5_undo cX5_undo 2 (some .int) :: ([.fieldLink RX5 36 "LandingFinesModel" "states" "I", .fieldLink RX5 7 "LandingFinesModel" "row" "[I", .fieldLink RX5 13 "LandingFinesModel" "past" "[I"] ++ wsX50)
def wsX5_save : List Cond := .code yX5_save cX5_save 3 (some .int) :: ([.fieldLink RX5 19 "LandingFinesModel" "slots" "[I", .fieldLink RX5 7 "LandingFinesModel" "row" "[I", .fieldLink RX5 22 "LandingFinesModel" "isSaved" "[Z", .methodLink RX5 32 yX5_in, .static yX5_in, .initialized RX5, .code yX5_in cX5_in 4 (some .boolean)] ++ wsX50)
def wsX5_restore : List Cond := .code yX5_restore cX5_restore 3 (some .int) :: ([.fieldLink RX5 22 "LandingFinesModel" "isSaved" "[Z", .fieldLink RX5 7 "LandingFinesModel" "row" "[I", .fieldLink RX5 19 "LandingFinesModel" "slots" "[I", .methodLink RX5 32 yX5_in, .static yX5_in, .initialized RX5, .code yX5_in cX5_in 4 (some .boolean), .methodLink RX5 40 yX5_remember, .instanceMethod yX5_remember, .selects RX5 yX5_remember yX5_remember, .code yX5_remember cX5_remember 2 none, .fieldLink RX5 16 "LandingFinesModel" "before" "[I", .methodLink RX5 43 yX5_record, .instanceMethod yX5_record, .selects RX5 yX5_record yX5_record, .code yX5_record cX5_record 3 (some .int), .fieldLink RX5 36 "LandingFinesModel" "states" "I", .fieldLink RX5 13 "LandingFinesModel" "past" "[I"] ++ wsX50)
def wsX5_taken : List Cond := .code yX5_taken cX5_taken 4 (some .int) :: ([.fieldLink RX5 7 "LandingFinesModel" "row" "[I", .methodLink RX5 47 yX5_its, .instanceMethod yX5_its, .selects RX5 yX5_its yX5_its, .initialized RX5, .code yX5_its cX5_its 3 (some .int)] ++ wsX50)
def wsX5_note : List Cond := .code yX5_note cX5_note 4 none :: ([.fieldLink RX5 7 "LandingFinesModel" "row" "[I"] ++ wsX50)
def wsX5_held : List Cond := .code yX5_held cX5_held 1 (some .int) :: ([.constant RX5 51 (99999)])
def wsX5_change : List Cond := .code yX5_change cX5_change 6 (some .int) :: ([.fieldLink RX5 7 "LandingFinesModel" "row" "[I", .methodLink RX5 52 yX5_taken, .instanceMethod yX5_taken, .selects RX5 yX5_taken yX5_taken, .initialized RX5, .code yX5_taken cX5_taken 4 (some .int), .methodLink RX5 47 yX5_its, .instanceMethod yX5_its, .selects RX5 yX5_its yX5_its, .code yX5_its cX5_its 3 (some .int), .methodLink RX5 56 yX5_lay, .instanceMethod yX5_lay, .selects RX5 yX5_lay yX5_lay, .code yX5_lay cX5_lay 4 none, .methodLink RX5 60 yX5_held, .static yX5_held, .code yX5_held cX5_held 1 (some .int), .constant RX5 51 (99999), .methodLink RX5 63 yX5_note, .instanceMethod yX5_note, .selects RX5 yX5_note yX5_note, .code yX5_note cX5_note 4 none] ++ wsX50)
def wsX5_passes : List Cond := .code yX5_passes cX5_passes 2 (some .boolean) :: ([.fieldLink RX5 67 "LandingFinesModel" "since" "I", .fieldLink RX5 7 "LandingFinesModel" "row" "[I", .fieldLink RX5 70 "LandingFinesModel" "fine" "I", .fieldLink RX5 73 "LandingFinesModel" "isShunned" "Z", .fieldLink RX5 77 "LandingFinesModel" "shunnedFor" "I"] ++ wsX50)
def wsX5_tries : List Cond := .code yX5_tries cX5_tries 2 none :: ([.fieldLink RX5 70 "LandingFinesModel" "fine" "I", .fieldLink RX5 67 "LandingFinesModel" "since" "I", .fieldLink RX5 73 "LandingFinesModel" "isShunned" "Z", .fieldLink RX5 77 "LandingFinesModel" "shunnedFor" "I", .methodLink RX5 47 yX5_its, .instanceMethod yX5_its, .selects RX5 yX5_its yX5_its, .initialized RX5, .code yX5_its cX5_its 3 (some .int), .fieldLink RX5 7 "LandingFinesModel" "row" "[I"] ++ wsX50)
def wsX5_minute_r1 : List Cond := [Cond.fieldLink RX5 7 "LandingFinesModel" "row" "[I", Cond.fieldLink RX5 70 "LandingFinesModel" "fine" "I", Cond.fieldLink RX5 67 "LandingFinesModel" "since" "I", Cond.fieldLink RX5 73 "LandingFinesModel" "isShunned" "Z", Cond.fieldLink RX5 77 "LandingFinesModel" "shunnedFor" "I", Cond.methodLink RX5 52 yX5_taken, Cond.instanceMethod yX5_taken, Cond.selects RX5 yX5_taken yX5_taken, Cond.initialized RX5, Cond.code yX5_taken cX5_taken 4 (some .int), Cond.methodLink RX5 47 yX5_its, Cond.instanceMethod yX5_its, Cond.selects RX5 yX5_its yX5_its, Cond.code yX5_its cX5_its 3 (some .int), Cond.methodLink RX5 80 yX5_tries, Cond.instanceMethod yX5_tries, Cond.selects RX5 yX5_tries yX5_tries, Cond.code yX5_tries cX5_tries 2 none, Cond.methodLink RX5 84 yX5_passes, Cond.instanceMethod yX5_passes, Cond.selects RX5 yX5_passes yX5_passes, Cond.code yX5_passes cX5_passes 2 (some .boolean), Cond.methodLink RX5 56 yX5_lay, Cond.instanceMethod yX5_lay]
def wsX5_minute_r2 : List Cond := [Cond.selects RX5 yX5_lay yX5_lay, Cond.code yX5_lay cX5_lay 4 none, Cond.methodLink RX5 63 yX5_note, Cond.instanceMethod yX5_note, Cond.selects RX5 yX5_note yX5_note, Cond.code yX5_note cX5_note 4 none]
def wsX5_minute : List Cond := .code yX5_minute cX5_minute 5 (some .int) :: ((wsX5_minute_r1 ++ wsX5_minute_r2) ++ wsX50)
def wsX5_comes : List Cond := .code yX5_comes cX5_comes 5 (some .int) :: ([.fieldLink RX5 7 "LandingFinesModel" "row" "[I", .methodLink RX5 32 yX5_in, .static yX5_in, .initialized RX5, .code yX5_in cX5_in 4 (some .boolean), .methodLink RX5 52 yX5_taken, .instanceMethod yX5_taken, .selects RX5 yX5_taken yX5_taken, .code yX5_taken cX5_taken 4 (some .int), .methodLink RX5 47 yX5_its, .instanceMethod yX5_its, .selects RX5 yX5_its yX5_its, .code yX5_its cX5_its 3 (some .int), .methodLink RX5 56 yX5_lay, .instanceMethod yX5_lay, .selects RX5 yX5_lay yX5_lay, .code yX5_lay cX5_lay 4 none] ++ wsX50)
def wsX5_turns_r1 : List Cond := [Cond.methodLink RX5 88 yX5_isLanding, Cond.instanceMethod yX5_isLanding, Cond.selects RX5 yX5_isLanding yX5_isLanding, Cond.initialized RX5, Cond.code yX5_isLanding cX5_isLanding 2 (some .boolean), Cond.fieldLink RX5 7 "LandingFinesModel" "row" "[I", Cond.methodLink RX5 32 yX5_in, Cond.static yX5_in, Cond.code yX5_in cX5_in 4 (some .boolean), Cond.methodLink RX5 47 yX5_its, Cond.instanceMethod yX5_its, Cond.selects RX5 yX5_its yX5_its, Cond.code yX5_its cX5_its 3 (some .int), Cond.methodLink RX5 92 yX5_change, Cond.instanceMethod yX5_change, Cond.selects RX5 yX5_change yX5_change, Cond.code yX5_change cX5_change 6 (some .int), Cond.methodLink RX5 52 yX5_taken, Cond.instanceMethod yX5_taken, Cond.selects RX5 yX5_taken yX5_taken, Cond.code yX5_taken cX5_taken 4 (some .int), Cond.methodLink RX5 56 yX5_lay, Cond.instanceMethod yX5_lay, Cond.selects RX5 yX5_lay yX5_lay]
def wsX5_turns_r2 : List Cond := [Cond.code yX5_lay cX5_lay 4 none, Cond.methodLink RX5 60 yX5_held, Cond.static yX5_held, Cond.code yX5_held cX5_held 1 (some .int), Cond.constant RX5 51 (99999), Cond.methodLink RX5 63 yX5_note, Cond.instanceMethod yX5_note, Cond.selects RX5 yX5_note yX5_note, Cond.code yX5_note cX5_note 4 none]
def wsX5_turns : List Cond := .code yX5_turns cX5_turns 3 (some .int) :: ((wsX5_turns_r1 ++ wsX5_turns_r2) ++ wsX50)
def wsX5_costs_r1 : List Cond := [Cond.methodLink RX5 88 yX5_isLanding, Cond.instanceMethod yX5_isLanding, Cond.selects RX5 yX5_isLanding yX5_isLanding, Cond.initialized RX5, Cond.code yX5_isLanding cX5_isLanding 2 (some .boolean), Cond.fieldLink RX5 7 "LandingFinesModel" "row" "[I", Cond.methodLink RX5 32 yX5_in, Cond.static yX5_in, Cond.code yX5_in cX5_in 4 (some .boolean), Cond.methodLink RX5 47 yX5_its, Cond.instanceMethod yX5_its, Cond.selects RX5 yX5_its yX5_its, Cond.code yX5_its cX5_its 3 (some .int), Cond.methodLink RX5 92 yX5_change, Cond.instanceMethod yX5_change, Cond.selects RX5 yX5_change yX5_change, Cond.code yX5_change cX5_change 6 (some .int), Cond.methodLink RX5 52 yX5_taken, Cond.instanceMethod yX5_taken, Cond.selects RX5 yX5_taken yX5_taken, Cond.code yX5_taken cX5_taken 4 (some .int), Cond.methodLink RX5 56 yX5_lay, Cond.instanceMethod yX5_lay, Cond.selects RX5 yX5_lay yX5_lay]
def wsX5_costs_r2 : List Cond := [Cond.code yX5_lay cX5_lay 4 none, Cond.methodLink RX5 60 yX5_held, Cond.static yX5_held, Cond.code yX5_held cX5_held 1 (some .int), Cond.constant RX5 51 (99999), Cond.methodLink RX5 63 yX5_note, Cond.instanceMethod yX5_note, Cond.selects RX5 yX5_note yX5_note, Cond.code yX5_note cX5_note 4 none]
def wsX5_costs : List Cond := .code yX5_costs cX5_costs 3 (some .int) :: ((wsX5_costs_r1 ++ wsX5_costs_r2) ++ wsX50)
def wsX5_waits_r1 : List Cond := [Cond.fieldLink RX5 7 "LandingFinesModel" "row" "[I", Cond.constant RX5 51 (99999), Cond.methodLink RX5 32 yX5_in, Cond.static yX5_in, Cond.initialized RX5, Cond.code yX5_in cX5_in 4 (some .boolean), Cond.methodLink RX5 96 yX5_minute, Cond.instanceMethod yX5_minute, Cond.selects RX5 yX5_minute yX5_minute, Cond.code yX5_minute cX5_minute 5 (some .int), Cond.fieldLink RX5 70 "LandingFinesModel" "fine" "I", Cond.fieldLink RX5 67 "LandingFinesModel" "since" "I", Cond.fieldLink RX5 73 "LandingFinesModel" "isShunned" "Z", Cond.fieldLink RX5 77 "LandingFinesModel" "shunnedFor" "I", Cond.methodLink RX5 52 yX5_taken, Cond.instanceMethod yX5_taken, Cond.selects RX5 yX5_taken yX5_taken, Cond.code yX5_taken cX5_taken 4 (some .int), Cond.methodLink RX5 47 yX5_its, Cond.instanceMethod yX5_its, Cond.selects RX5 yX5_its yX5_its, Cond.code yX5_its cX5_its 3 (some .int), Cond.methodLink RX5 80 yX5_tries, Cond.instanceMethod yX5_tries]
def wsX5_waits_r2 : List Cond := [Cond.selects RX5 yX5_tries yX5_tries, Cond.code yX5_tries cX5_tries 2 none, Cond.methodLink RX5 84 yX5_passes, Cond.instanceMethod yX5_passes, Cond.selects RX5 yX5_passes yX5_passes, Cond.code yX5_passes cX5_passes 2 (some .boolean), Cond.methodLink RX5 56 yX5_lay, Cond.instanceMethod yX5_lay, Cond.selects RX5 yX5_lay yX5_lay, Cond.code yX5_lay cX5_lay 4 none, Cond.methodLink RX5 63 yX5_note, Cond.instanceMethod yX5_note, Cond.selects RX5 yX5_note yX5_note, Cond.code yX5_note cX5_note 4 none]
def wsX5_waits : List Cond := .code yX5_waits cX5_waits 4 (some .int) :: ((wsX5_waits_r1 ++ wsX5_waits_r2) ++ wsX50)
def wsX5_set : List Cond := .code yX5_set cX5_set 6 (some .int) :: ([.constant RX5 51 (99999), .fieldLink RX5 7 "LandingFinesModel" "row" "[I", .methodLink RX5 32 yX5_in, .static yX5_in, .initialized RX5, .code yX5_in cX5_in 4 (some .boolean), .methodLink RX5 40 yX5_remember, .instanceMethod yX5_remember, .selects RX5 yX5_remember yX5_remember, .code yX5_remember cX5_remember 2 none, .fieldLink RX5 16 "LandingFinesModel" "before" "[I", .methodLink RX5 43 yX5_record, .instanceMethod yX5_record, .selects RX5 yX5_record yX5_record, .code yX5_record cX5_record 3 (some .int), .fieldLink RX5 36 "LandingFinesModel" "states" "I", .fieldLink RX5 13 "LandingFinesModel" "past" "[I"] ++ wsX50)
def wsX5_landing_r1 : List Cond := [Cond.methodLink RX5 40 yX5_remember, Cond.instanceMethod yX5_remember, Cond.selects RX5 yX5_remember yX5_remember, Cond.initialized RX5, Cond.code yX5_remember cX5_remember 2 none, Cond.fieldLink RX5 16 "LandingFinesModel" "before" "[I", Cond.fieldLink RX5 7 "LandingFinesModel" "row" "[I", Cond.methodLink RX5 99 yX5_comes, Cond.instanceMethod yX5_comes, Cond.selects RX5 yX5_comes yX5_comes, Cond.code yX5_comes cX5_comes 5 (some .int), Cond.methodLink RX5 32 yX5_in, Cond.static yX5_in, Cond.code yX5_in cX5_in 4 (some .boolean), Cond.methodLink RX5 52 yX5_taken, Cond.instanceMethod yX5_taken, Cond.selects RX5 yX5_taken yX5_taken, Cond.code yX5_taken cX5_taken 4 (some .int), Cond.methodLink RX5 47 yX5_its, Cond.instanceMethod yX5_its, Cond.selects RX5 yX5_its yX5_its, Cond.code yX5_its cX5_its 3 (some .int), Cond.methodLink RX5 56 yX5_lay, Cond.instanceMethod yX5_lay]
def wsX5_landing_r2 : List Cond := [Cond.selects RX5 yX5_lay yX5_lay, Cond.code yX5_lay cX5_lay 4 none, Cond.methodLink RX5 43 yX5_record, Cond.instanceMethod yX5_record, Cond.selects RX5 yX5_record yX5_record, Cond.code yX5_record cX5_record 3 (some .int), Cond.fieldLink RX5 36 "LandingFinesModel" "states" "I", Cond.fieldLink RX5 13 "LandingFinesModel" "past" "[I"]
def wsX5_landing : List Cond := .code yX5_landing cX5_landing 2 (some .int) :: ((wsX5_landing_r1 ++ wsX5_landing_r2) ++ wsX50)
def wsX5_open_r1 : List Cond := [Cond.methodLink RX5 40 yX5_remember, Cond.instanceMethod yX5_remember, Cond.selects RX5 yX5_remember yX5_remember, Cond.initialized RX5, Cond.code yX5_remember cX5_remember 2 none, Cond.fieldLink RX5 16 "LandingFinesModel" "before" "[I", Cond.fieldLink RX5 7 "LandingFinesModel" "row" "[I", Cond.methodLink RX5 102 yX5_turns, Cond.instanceMethod yX5_turns, Cond.selects RX5 yX5_turns yX5_turns, Cond.code yX5_turns cX5_turns 3 (some .int), Cond.methodLink RX5 88 yX5_isLanding, Cond.instanceMethod yX5_isLanding, Cond.selects RX5 yX5_isLanding yX5_isLanding, Cond.code yX5_isLanding cX5_isLanding 2 (some .boolean), Cond.methodLink RX5 32 yX5_in, Cond.static yX5_in, Cond.code yX5_in cX5_in 4 (some .boolean), Cond.methodLink RX5 47 yX5_its, Cond.instanceMethod yX5_its, Cond.selects RX5 yX5_its yX5_its, Cond.code yX5_its cX5_its 3 (some .int), Cond.methodLink RX5 92 yX5_change, Cond.instanceMethod yX5_change]
def wsX5_open_r2 : List Cond := [Cond.selects RX5 yX5_change yX5_change, Cond.code yX5_change cX5_change 6 (some .int), Cond.methodLink RX5 52 yX5_taken, Cond.instanceMethod yX5_taken, Cond.selects RX5 yX5_taken yX5_taken, Cond.code yX5_taken cX5_taken 4 (some .int), Cond.methodLink RX5 56 yX5_lay, Cond.instanceMethod yX5_lay, Cond.selects RX5 yX5_lay yX5_lay, Cond.code yX5_lay cX5_lay 4 none, Cond.methodLink RX5 60 yX5_held, Cond.static yX5_held, Cond.code yX5_held cX5_held 1 (some .int), Cond.constant RX5 51 (99999), Cond.methodLink RX5 63 yX5_note, Cond.instanceMethod yX5_note, Cond.selects RX5 yX5_note yX5_note, Cond.code yX5_note cX5_note 4 none, Cond.methodLink RX5 43 yX5_record, Cond.instanceMethod yX5_record, Cond.selects RX5 yX5_record yX5_record, Cond.code yX5_record cX5_record 3 (some .int), Cond.fieldLink RX5 36 "LandingFinesModel" "states" "I", Cond.fieldLink RX5 13 "LandingFinesModel" "past" "[I"]
def wsX5_open : List Cond := .code yX5_open cX5_open 2 (some .int) :: ((wsX5_open_r1 ++ wsX5_open_r2) ++ wsX50)
def wsX5_close_r1 : List Cond := [Cond.methodLink RX5 40 yX5_remember, Cond.instanceMethod yX5_remember, Cond.selects RX5 yX5_remember yX5_remember, Cond.initialized RX5, Cond.code yX5_remember cX5_remember 2 none, Cond.fieldLink RX5 16 "LandingFinesModel" "before" "[I", Cond.fieldLink RX5 7 "LandingFinesModel" "row" "[I", Cond.methodLink RX5 102 yX5_turns, Cond.instanceMethod yX5_turns, Cond.selects RX5 yX5_turns yX5_turns, Cond.code yX5_turns cX5_turns 3 (some .int), Cond.methodLink RX5 88 yX5_isLanding, Cond.instanceMethod yX5_isLanding, Cond.selects RX5 yX5_isLanding yX5_isLanding, Cond.code yX5_isLanding cX5_isLanding 2 (some .boolean), Cond.methodLink RX5 32 yX5_in, Cond.static yX5_in, Cond.code yX5_in cX5_in 4 (some .boolean), Cond.methodLink RX5 47 yX5_its, Cond.instanceMethod yX5_its, Cond.selects RX5 yX5_its yX5_its, Cond.code yX5_its cX5_its 3 (some .int), Cond.methodLink RX5 92 yX5_change, Cond.instanceMethod yX5_change]
def wsX5_close_r2 : List Cond := [Cond.selects RX5 yX5_change yX5_change, Cond.code yX5_change cX5_change 6 (some .int), Cond.methodLink RX5 52 yX5_taken, Cond.instanceMethod yX5_taken, Cond.selects RX5 yX5_taken yX5_taken, Cond.code yX5_taken cX5_taken 4 (some .int), Cond.methodLink RX5 56 yX5_lay, Cond.instanceMethod yX5_lay, Cond.selects RX5 yX5_lay yX5_lay, Cond.code yX5_lay cX5_lay 4 none, Cond.methodLink RX5 60 yX5_held, Cond.static yX5_held, Cond.code yX5_held cX5_held 1 (some .int), Cond.constant RX5 51 (99999), Cond.methodLink RX5 63 yX5_note, Cond.instanceMethod yX5_note, Cond.selects RX5 yX5_note yX5_note, Cond.code yX5_note cX5_note 4 none, Cond.methodLink RX5 43 yX5_record, Cond.instanceMethod yX5_record, Cond.selects RX5 yX5_record yX5_record, Cond.code yX5_record cX5_record 3 (some .int), Cond.fieldLink RX5 36 "LandingFinesModel" "states" "I", Cond.fieldLink RX5 13 "LandingFinesModel" "past" "[I"]
def wsX5_close : List Cond := .code yX5_close cX5_close 2 (some .int) :: ((wsX5_close_r1 ++ wsX5_close_r2) ++ wsX50)
def wsX5_price_r1 : List Cond := [Cond.methodLink RX5 40 yX5_remember, Cond.instanceMethod yX5_remember, Cond.selects RX5 yX5_remember yX5_remember, Cond.initialized RX5, Cond.code yX5_remember cX5_remember 2 none, Cond.fieldLink RX5 16 "LandingFinesModel" "before" "[I", Cond.fieldLink RX5 7 "LandingFinesModel" "row" "[I", Cond.methodLink RX5 105 yX5_costs, Cond.instanceMethod yX5_costs, Cond.selects RX5 yX5_costs yX5_costs, Cond.code yX5_costs cX5_costs 3 (some .int), Cond.methodLink RX5 88 yX5_isLanding, Cond.instanceMethod yX5_isLanding, Cond.selects RX5 yX5_isLanding yX5_isLanding, Cond.code yX5_isLanding cX5_isLanding 2 (some .boolean), Cond.methodLink RX5 32 yX5_in, Cond.static yX5_in, Cond.code yX5_in cX5_in 4 (some .boolean), Cond.methodLink RX5 47 yX5_its, Cond.instanceMethod yX5_its, Cond.selects RX5 yX5_its yX5_its, Cond.code yX5_its cX5_its 3 (some .int), Cond.methodLink RX5 92 yX5_change, Cond.instanceMethod yX5_change]
def wsX5_price_r2 : List Cond := [Cond.selects RX5 yX5_change yX5_change, Cond.code yX5_change cX5_change 6 (some .int), Cond.methodLink RX5 52 yX5_taken, Cond.instanceMethod yX5_taken, Cond.selects RX5 yX5_taken yX5_taken, Cond.code yX5_taken cX5_taken 4 (some .int), Cond.methodLink RX5 56 yX5_lay, Cond.instanceMethod yX5_lay, Cond.selects RX5 yX5_lay yX5_lay, Cond.code yX5_lay cX5_lay 4 none, Cond.methodLink RX5 60 yX5_held, Cond.static yX5_held, Cond.code yX5_held cX5_held 1 (some .int), Cond.constant RX5 51 (99999), Cond.methodLink RX5 63 yX5_note, Cond.instanceMethod yX5_note, Cond.selects RX5 yX5_note yX5_note, Cond.code yX5_note cX5_note 4 none, Cond.methodLink RX5 43 yX5_record, Cond.instanceMethod yX5_record, Cond.selects RX5 yX5_record yX5_record, Cond.code yX5_record cX5_record 3 (some .int), Cond.fieldLink RX5 36 "LandingFinesModel" "states" "I", Cond.fieldLink RX5 13 "LandingFinesModel" "past" "[I"]
def wsX5_price : List Cond := .code yX5_price cX5_price 3 (some .int) :: ((wsX5_price_r1 ++ wsX5_price_r2) ++ wsX50)
def wsX5_pass_r1 : List Cond := [Cond.methodLink RX5 40 yX5_remember, Cond.instanceMethod yX5_remember, Cond.selects RX5 yX5_remember yX5_remember, Cond.initialized RX5, Cond.code yX5_remember cX5_remember 2 none, Cond.fieldLink RX5 16 "LandingFinesModel" "before" "[I", Cond.fieldLink RX5 7 "LandingFinesModel" "row" "[I", Cond.methodLink RX5 108 yX5_waits, Cond.instanceMethod yX5_waits, Cond.selects RX5 yX5_waits yX5_waits, Cond.code yX5_waits cX5_waits 4 (some .int), Cond.constant RX5 51 (99999), Cond.methodLink RX5 32 yX5_in, Cond.static yX5_in, Cond.code yX5_in cX5_in 4 (some .boolean), Cond.methodLink RX5 96 yX5_minute, Cond.instanceMethod yX5_minute, Cond.selects RX5 yX5_minute yX5_minute, Cond.code yX5_minute cX5_minute 5 (some .int), Cond.fieldLink RX5 70 "LandingFinesModel" "fine" "I", Cond.fieldLink RX5 67 "LandingFinesModel" "since" "I", Cond.fieldLink RX5 73 "LandingFinesModel" "isShunned" "Z", Cond.fieldLink RX5 77 "LandingFinesModel" "shunnedFor" "I", Cond.methodLink RX5 52 yX5_taken]
def wsX5_pass_r2 : List Cond := [Cond.instanceMethod yX5_taken, Cond.selects RX5 yX5_taken yX5_taken, Cond.code yX5_taken cX5_taken 4 (some .int), Cond.methodLink RX5 47 yX5_its, Cond.instanceMethod yX5_its, Cond.selects RX5 yX5_its yX5_its, Cond.code yX5_its cX5_its 3 (some .int), Cond.methodLink RX5 80 yX5_tries, Cond.instanceMethod yX5_tries, Cond.selects RX5 yX5_tries yX5_tries, Cond.code yX5_tries cX5_tries 2 none, Cond.methodLink RX5 84 yX5_passes, Cond.instanceMethod yX5_passes, Cond.selects RX5 yX5_passes yX5_passes, Cond.code yX5_passes cX5_passes 2 (some .boolean), Cond.methodLink RX5 56 yX5_lay, Cond.instanceMethod yX5_lay, Cond.selects RX5 yX5_lay yX5_lay, Cond.code yX5_lay cX5_lay 4 none, Cond.methodLink RX5 63 yX5_note, Cond.instanceMethod yX5_note, Cond.selects RX5 yX5_note yX5_note, Cond.code yX5_note cX5_note 4 none, Cond.methodLink RX5 43 yX5_record]
def wsX5_pass_r3 : List Cond := [Cond.instanceMethod yX5_record, Cond.selects RX5 yX5_record yX5_record, Cond.code yX5_record cX5_record 3 (some .int), Cond.fieldLink RX5 36 "LandingFinesModel" "states" "I", Cond.fieldLink RX5 13 "LandingFinesModel" "past" "[I"]
def wsX5_pass : List Cond := .code yX5_pass cX5_pass 2 (some .int) :: ((wsX5_pass_r1 ++ (wsX5_pass_r2 ++ wsX5_pass_r3)) ++ wsX50)
def wsX5_of : List Cond := .code yX5_of cX5_of 3 (some .int) :: ([.methodLink RX5 88 yX5_isLanding, .instanceMethod yX5_isLanding, .selects RX5 yX5_isLanding yX5_isLanding, .initialized RX5, .code yX5_isLanding cX5_isLanding 2 (some .boolean), .fieldLink RX5 7 "LandingFinesModel" "row" "[I", .methodLink RX5 32 yX5_in, .static yX5_in, .code yX5_in cX5_in 4 (some .boolean), .methodLink RX5 47 yX5_its, .instanceMethod yX5_its, .selects RX5 yX5_its yX5_its, .code yX5_its cX5_its 3 (some .int)] ++ wsX50)
def wsX5_mask : List Cond := .code yX5_mask cX5_mask 4 (some .int) :: ([.fieldLink RX5 7 "LandingFinesModel" "row" "[I", .methodLink RX5 47 yX5_its, .instanceMethod yX5_its, .selects RX5 yX5_its yX5_its, .initialized RX5, .code yX5_its cX5_its 3 (some .int)] ++ wsX50)
def wsX5_count : List Cond := .code yX5_count cX5_count 2 (some .int) :: ([.fieldLink RX5 7 "LandingFinesModel" "row" "[I", .fieldLink RX5 114 "LandingFinesModel" "length" "I", .fieldLink RX5 36 "LandingFinesModel" "states" "I", .methodLink RX5 32 yX5_in, .static yX5_in, .initialized RX5, .code yX5_in cX5_in 4 (some .boolean), .methodLink RX5 111 yX5_mask, .instanceMethod yX5_mask, .selects RX5 yX5_mask yX5_mask, .code yX5_mask cX5_mask 4 (some .int), .methodLink RX5 47 yX5_its, .instanceMethod yX5_its, .selects RX5 yX5_its yX5_its, .code yX5_its cX5_its 3 (some .int), .methodLink RX5 52 yX5_taken, .instanceMethod yX5_taken, .selects RX5 yX5_taken yX5_taken, .code yX5_taken cX5_taken 4 (some .int)] ++ wsX50)
def wsX5_rank : List Cond := .code yX5_rank cX5_rank 5 (some .int) :: ([.fieldLink RX5 7 "LandingFinesModel" "row" "[I", .methodLink RX5 47 yX5_its, .instanceMethod yX5_its, .selects RX5 yX5_its yX5_its, .initialized RX5, .code yX5_its cX5_its 3 (some .int)] ++ wsX50)
def wsX5_choice : List Cond := .code yX5_choice cX5_choice 3 (some .int) :: ([.fieldLink RX5 7 "LandingFinesModel" "row" "[I", .methodLink RX5 47 yX5_its, .instanceMethod yX5_its, .selects RX5 yX5_its yX5_its, .initialized RX5, .code yX5_its cX5_its 3 (some .int), .methodLink RX5 117 yX5_rank, .instanceMethod yX5_rank, .selects RX5 yX5_rank yX5_rank, .code yX5_rank cX5_rank 5 (some .int)] ++ wsX50)
def wsX5_log : List Cond := .code yX5_log cX5_log 3 (some .int) :: ([.fieldLink RX5 7 "LandingFinesModel" "row" "[I", .methodLink RX5 32 yX5_in, .static yX5_in, .initialized RX5, .code yX5_in cX5_in 4 (some .boolean)] ++ wsX50)
def wsX5_why : List Cond := .code yX5_why cX5_why 2 (some .int) :: ([.methodLink RX5 88 yX5_isLanding, .instanceMethod yX5_isLanding, .selects RX5 yX5_isLanding yX5_isLanding, .initialized RX5, .code yX5_isLanding cX5_isLanding 2 (some .boolean), .fieldLink RX5 7 "LandingFinesModel" "row" "[I", .methodLink RX5 32 yX5_in, .static yX5_in, .code yX5_in cX5_in 4 (some .boolean), .methodLink RX5 47 yX5_its, .instanceMethod yX5_its, .selects RX5 yX5_its yX5_its, .code yX5_its cX5_its 3 (some .int), .methodLink RX5 52 yX5_taken, .instanceMethod yX5_taken, .selects RX5 yX5_taken yX5_taken, .code yX5_taken cX5_taken 4 (some .int)] ++ wsX50)
def wsX5_welcomeIn_r1 : List Cond := [Cond.fieldLink RX5 73 "LandingFinesModel" "isShunned" "Z", Cond.methodLink RX5 88 yX5_isLanding, Cond.instanceMethod yX5_isLanding, Cond.selects RX5 yX5_isLanding yX5_isLanding, Cond.initialized RX5, Cond.code yX5_isLanding cX5_isLanding 2 (some .boolean), Cond.fieldLink RX5 7 "LandingFinesModel" "row" "[I", Cond.methodLink RX5 32 yX5_in, Cond.static yX5_in, Cond.code yX5_in cX5_in 4 (some .boolean), Cond.methodLink RX5 80 yX5_tries, Cond.instanceMethod yX5_tries, Cond.selects RX5 yX5_tries yX5_tries, Cond.code yX5_tries cX5_tries 2 none, Cond.fieldLink RX5 70 "LandingFinesModel" "fine" "I", Cond.fieldLink RX5 67 "LandingFinesModel" "since" "I", Cond.fieldLink RX5 77 "LandingFinesModel" "shunnedFor" "I", Cond.methodLink RX5 47 yX5_its, Cond.instanceMethod yX5_its, Cond.selects RX5 yX5_its yX5_its, Cond.code yX5_its cX5_its 3 (some .int), Cond.methodLink RX5 84 yX5_passes, Cond.instanceMethod yX5_passes, Cond.selects RX5 yX5_passes yX5_passes]
def wsX5_welcomeIn_r2 : List Cond := [Cond.code yX5_passes cX5_passes 2 (some .boolean)]
def wsX5_welcomeIn : List Cond := .code yX5_welcomeIn cX5_welcomeIn 4 (some .int) :: ((wsX5_welcomeIn_r1 ++ wsX5_welcomeIn_r2) ++ wsX50)
def wsX5_mayChange : List Cond := .code yX5_mayChange cX5_mayChange 5 (some .int) :: ([.fieldLink RX5 7 "LandingFinesModel" "row" "[I", .methodLink RX5 88 yX5_isLanding, .instanceMethod yX5_isLanding, .selects RX5 yX5_isLanding yX5_isLanding, .initialized RX5, .code yX5_isLanding cX5_isLanding 2 (some .boolean), .methodLink RX5 32 yX5_in, .static yX5_in, .code yX5_in cX5_in 4 (some .boolean), .methodLink RX5 47 yX5_its, .instanceMethod yX5_its, .selects RX5 yX5_its yX5_its, .code yX5_its cX5_its 3 (some .int), .methodLink RX5 60 yX5_held, .static yX5_held, .code yX5_held cX5_held 1 (some .int), .constant RX5 51 (99999)] ++ wsX50)
def wsX5_fineIn_r1 : List Cond := [Cond.fieldLink RX5 70 "LandingFinesModel" "fine" "I", Cond.methodLink RX5 88 yX5_isLanding, Cond.instanceMethod yX5_isLanding, Cond.selects RX5 yX5_isLanding yX5_isLanding, Cond.initialized RX5, Cond.code yX5_isLanding cX5_isLanding 2 (some .boolean), Cond.fieldLink RX5 7 "LandingFinesModel" "row" "[I", Cond.methodLink RX5 32 yX5_in, Cond.static yX5_in, Cond.code yX5_in cX5_in 4 (some .boolean), Cond.methodLink RX5 80 yX5_tries, Cond.instanceMethod yX5_tries, Cond.selects RX5 yX5_tries yX5_tries, Cond.code yX5_tries cX5_tries 2 none, Cond.fieldLink RX5 67 "LandingFinesModel" "since" "I", Cond.fieldLink RX5 73 "LandingFinesModel" "isShunned" "Z", Cond.fieldLink RX5 77 "LandingFinesModel" "shunnedFor" "I", Cond.methodLink RX5 47 yX5_its, Cond.instanceMethod yX5_its, Cond.selects RX5 yX5_its yX5_its, Cond.code yX5_its cX5_its 3 (some .int), Cond.methodLink RX5 84 yX5_passes, Cond.instanceMethod yX5_passes, Cond.selects RX5 yX5_passes yX5_passes]
def wsX5_fineIn_r2 : List Cond := [Cond.code yX5_passes cX5_passes 2 (some .boolean)]
def wsX5_fineIn : List Cond := .code yX5_fineIn cX5_fineIn 5 (some .int) :: ((wsX5_fineIn_r1 ++ wsX5_fineIn_r2) ++ wsX50)
def wsX5_isSteady : List Cond := .code yX5_isSteady cX5_isSteady 5 (some .boolean) :: ([.fieldLink RX5 70 "LandingFinesModel" "fine" "I", .fieldLink RX5 67 "LandingFinesModel" "since" "I", .fieldLink RX5 73 "LandingFinesModel" "isShunned" "Z", .fieldLink RX5 7 "LandingFinesModel" "row" "[I", .methodLink RX5 60 yX5_held, .static yX5_held, .initialized RX5, .code yX5_held cX5_held 1 (some .int), .constant RX5 51 (99999), .methodLink RX5 84 yX5_passes, .instanceMethod yX5_passes, .selects RX5 yX5_passes yX5_passes, .code yX5_passes cX5_passes 2 (some .boolean), .fieldLink RX5 77 "LandingFinesModel" "shunnedFor" "I"] ++ wsX50)
def wsX5_steady : List Cond := .code yX5_steady cX5_steady 2 (some .int) :: ([.methodLink RX5 120 yX5_isSteady, .instanceMethod yX5_isSteady, .selects RX5 yX5_isSteady yX5_isSteady, .initialized RX5, .code yX5_isSteady cX5_isSteady 5 (some .boolean), .fieldLink RX5 70 "LandingFinesModel" "fine" "I", .fieldLink RX5 67 "LandingFinesModel" "since" "I", .fieldLink RX5 73 "LandingFinesModel" "isShunned" "Z", .fieldLink RX5 7 "LandingFinesModel" "row" "[I", .methodLink RX5 60 yX5_held, .static yX5_held, .code yX5_held cX5_held 1 (some .int), .constant RX5 51 (99999), .methodLink RX5 84 yX5_passes, .instanceMethod yX5_passes, .selects RX5 yX5_passes yX5_passes, .code yX5_passes cX5_passes 2 (some .boolean), .fieldLink RX5 77 "LandingFinesModel" "shunnedFor" "I"] ++ wsX50)
def wsX5_put : List Cond := .code yX5_put cX5_put 7 (some .int) :: ([.fieldLink RX5 29 "LandingFinesModel" "codes" "[I", .constantLong RX5 123 (255), .fieldLink RX5 114 "LandingFinesModel" "length" "I", .fieldLink RX5 26 "LandingFinesModel" "pad" "[I", .methodLink RX5 32 yX5_in, .static yX5_in, .initialized RX5, .code yX5_in cX5_in 4 (some .boolean)] ++ wsX50)
def wsX5_wipe : List Cond := .code yX5_wipe cX5_wipe 2 (some .int) :: ([.fieldLink RX5 114 "LandingFinesModel" "length" "I"] ++ wsX50)
def wsX5_sees : List Cond := .code yX5_sees cX5_sees 3 (some .boolean) :: ([.fieldLink RX5 125 "LandingFinesModel" "at" "I", .fieldLink RX5 114 "LandingFinesModel" "length" "I", .fieldLink RX5 26 "LandingFinesModel" "pad" "[I", .methodLink RX5 32 yX5_in, .static yX5_in, .initialized RX5, .code yX5_in cX5_in 4 (some .boolean)] ++ wsX50)
def wsX5_number : List Cond := .code yX5_number cX5_number 2 (some .int) :: ([.fieldLink RX5 26 "LandingFinesModel" "pad" "[I", .fieldLink RX5 125 "LandingFinesModel" "at" "I", .methodLink RX5 128 yX5_sees, .instanceMethod yX5_sees, .selects RX5 yX5_sees yX5_sees, .initialized RX5, .code yX5_sees cX5_sees 3 (some .boolean), .fieldLink RX5 114 "LandingFinesModel" "length" "I", .methodLink RX5 32 yX5_in, .static yX5_in, .code yX5_in cX5_in 4 (some .boolean)] ++ wsX50)
def wsX5_digit : List Cond := .code yX5_digit cX5_digit 1 (some .int) :: ([.fieldLink RX5 125 "LandingFinesModel" "at" "I", .fieldLink RX5 26 "LandingFinesModel" "pad" "[I"] ++ wsX50)
def wsX5_order_r1 : List Cond := [Cond.fieldLink RX5 125 "LandingFinesModel" "at" "I", Cond.fieldLink RX5 114 "LandingFinesModel" "length" "I", Cond.fieldLink RX5 26 "LandingFinesModel" "pad" "[I", Cond.methodLink RX5 128 yX5_sees, Cond.instanceMethod yX5_sees, Cond.selects RX5 yX5_sees yX5_sees, Cond.initialized RX5, Cond.code yX5_sees cX5_sees 3 (some .boolean), Cond.methodLink RX5 32 yX5_in, Cond.static yX5_in, Cond.code yX5_in cX5_in 4 (some .boolean), Cond.methodLink RX5 132 yX5_number, Cond.instanceMethod yX5_number, Cond.selects RX5 yX5_number yX5_number, Cond.code yX5_number cX5_number 2 (some .int), Cond.methodLink RX5 135 yX5_digit, Cond.instanceMethod yX5_digit, Cond.selects RX5 yX5_digit yX5_digit, Cond.code yX5_digit cX5_digit 1 (some .int), Cond.methodLink RX5 99 yX5_comes, Cond.instanceMethod yX5_comes, Cond.selects RX5 yX5_comes yX5_comes, Cond.code yX5_comes cX5_comes 5 (some .int), Cond.fieldLink RX5 7 "LandingFinesModel" "row" "[I"]
def wsX5_order_r2 : List Cond := [Cond.methodLink RX5 52 yX5_taken, Cond.instanceMethod yX5_taken, Cond.selects RX5 yX5_taken yX5_taken, Cond.code yX5_taken cX5_taken 4 (some .int), Cond.methodLink RX5 47 yX5_its, Cond.instanceMethod yX5_its, Cond.selects RX5 yX5_its yX5_its, Cond.code yX5_its cX5_its 3 (some .int), Cond.methodLink RX5 56 yX5_lay, Cond.instanceMethod yX5_lay, Cond.selects RX5 yX5_lay yX5_lay, Cond.code yX5_lay cX5_lay 4 none, Cond.methodLink RX5 102 yX5_turns, Cond.instanceMethod yX5_turns, Cond.selects RX5 yX5_turns yX5_turns, Cond.code yX5_turns cX5_turns 3 (some .int), Cond.methodLink RX5 88 yX5_isLanding, Cond.instanceMethod yX5_isLanding, Cond.selects RX5 yX5_isLanding yX5_isLanding, Cond.code yX5_isLanding cX5_isLanding 2 (some .boolean), Cond.methodLink RX5 92 yX5_change, Cond.instanceMethod yX5_change, Cond.selects RX5 yX5_change yX5_change, Cond.code yX5_change cX5_change 6 (some .int)]
def wsX5_order_r3 : List Cond := [Cond.methodLink RX5 60 yX5_held, Cond.static yX5_held, Cond.code yX5_held cX5_held 1 (some .int), Cond.constant RX5 51 (99999), Cond.methodLink RX5 63 yX5_note, Cond.instanceMethod yX5_note, Cond.selects RX5 yX5_note yX5_note, Cond.code yX5_note cX5_note 4 none, Cond.methodLink RX5 105 yX5_costs, Cond.instanceMethod yX5_costs, Cond.selects RX5 yX5_costs yX5_costs, Cond.code yX5_costs cX5_costs 3 (some .int), Cond.methodLink RX5 108 yX5_waits, Cond.instanceMethod yX5_waits, Cond.selects RX5 yX5_waits yX5_waits, Cond.code yX5_waits cX5_waits 4 (some .int), Cond.methodLink RX5 96 yX5_minute, Cond.instanceMethod yX5_minute, Cond.selects RX5 yX5_minute yX5_minute, Cond.code yX5_minute cX5_minute 5 (some .int), Cond.fieldLink RX5 70 "LandingFinesModel" "fine" "I", Cond.fieldLink RX5 67 "LandingFinesModel" "since" "I", Cond.fieldLink RX5 73 "LandingFinesModel" "isShunned" "Z", Cond.fieldLink RX5 77 "LandingFinesModel" "shunnedFor" "I"]
def wsX5_order_r4 : List Cond := [Cond.methodLink RX5 80 yX5_tries, Cond.instanceMethod yX5_tries, Cond.selects RX5 yX5_tries yX5_tries, Cond.code yX5_tries cX5_tries 2 none, Cond.methodLink RX5 84 yX5_passes, Cond.instanceMethod yX5_passes, Cond.selects RX5 yX5_passes yX5_passes, Cond.code yX5_passes cX5_passes 2 (some .boolean)]
def wsX5_order : List Cond := .code yX5_order cX5_order 5 (some .int) :: ((wsX5_order_r1 ++ (wsX5_order_r2 ++ (wsX5_order_r3 ++ wsX5_order_r4))) ++ wsX50)
def wsX5_isWell_r1 : List Cond := [Cond.fieldLink RX5 125 "LandingFinesModel" "at" "I", Cond.fieldLink RX5 114 "LandingFinesModel" "length" "I", Cond.methodLink RX5 138 yX5_order, Cond.instanceMethod yX5_order, Cond.selects RX5 yX5_order yX5_order, Cond.initialized RX5, Cond.code yX5_order cX5_order 5 (some .int), Cond.fieldLink RX5 26 "LandingFinesModel" "pad" "[I", Cond.methodLink RX5 128 yX5_sees, Cond.instanceMethod yX5_sees, Cond.selects RX5 yX5_sees yX5_sees, Cond.code yX5_sees cX5_sees 3 (some .boolean), Cond.methodLink RX5 32 yX5_in, Cond.static yX5_in, Cond.code yX5_in cX5_in 4 (some .boolean), Cond.methodLink RX5 132 yX5_number, Cond.instanceMethod yX5_number, Cond.selects RX5 yX5_number yX5_number, Cond.code yX5_number cX5_number 2 (some .int), Cond.methodLink RX5 135 yX5_digit, Cond.instanceMethod yX5_digit, Cond.selects RX5 yX5_digit yX5_digit, Cond.code yX5_digit cX5_digit 1 (some .int), Cond.methodLink RX5 99 yX5_comes]
def wsX5_isWell_r2 : List Cond := [Cond.instanceMethod yX5_comes, Cond.selects RX5 yX5_comes yX5_comes, Cond.code yX5_comes cX5_comes 5 (some .int), Cond.fieldLink RX5 7 "LandingFinesModel" "row" "[I", Cond.methodLink RX5 52 yX5_taken, Cond.instanceMethod yX5_taken, Cond.selects RX5 yX5_taken yX5_taken, Cond.code yX5_taken cX5_taken 4 (some .int), Cond.methodLink RX5 47 yX5_its, Cond.instanceMethod yX5_its, Cond.selects RX5 yX5_its yX5_its, Cond.code yX5_its cX5_its 3 (some .int), Cond.methodLink RX5 56 yX5_lay, Cond.instanceMethod yX5_lay, Cond.selects RX5 yX5_lay yX5_lay, Cond.code yX5_lay cX5_lay 4 none, Cond.methodLink RX5 102 yX5_turns, Cond.instanceMethod yX5_turns, Cond.selects RX5 yX5_turns yX5_turns, Cond.code yX5_turns cX5_turns 3 (some .int), Cond.methodLink RX5 88 yX5_isLanding, Cond.instanceMethod yX5_isLanding, Cond.selects RX5 yX5_isLanding yX5_isLanding, Cond.code yX5_isLanding cX5_isLanding 2 (some .boolean)]
def wsX5_isWell_r3 : List Cond := [Cond.methodLink RX5 92 yX5_change, Cond.instanceMethod yX5_change, Cond.selects RX5 yX5_change yX5_change, Cond.code yX5_change cX5_change 6 (some .int), Cond.methodLink RX5 60 yX5_held, Cond.static yX5_held, Cond.code yX5_held cX5_held 1 (some .int), Cond.constant RX5 51 (99999), Cond.methodLink RX5 63 yX5_note, Cond.instanceMethod yX5_note, Cond.selects RX5 yX5_note yX5_note, Cond.code yX5_note cX5_note 4 none, Cond.methodLink RX5 105 yX5_costs, Cond.instanceMethod yX5_costs, Cond.selects RX5 yX5_costs yX5_costs, Cond.code yX5_costs cX5_costs 3 (some .int), Cond.methodLink RX5 108 yX5_waits, Cond.instanceMethod yX5_waits, Cond.selects RX5 yX5_waits yX5_waits, Cond.code yX5_waits cX5_waits 4 (some .int), Cond.methodLink RX5 96 yX5_minute, Cond.instanceMethod yX5_minute, Cond.selects RX5 yX5_minute yX5_minute, Cond.code yX5_minute cX5_minute 5 (some .int)]
def wsX5_isWell_r4 : List Cond := [Cond.fieldLink RX5 70 "LandingFinesModel" "fine" "I", Cond.fieldLink RX5 67 "LandingFinesModel" "since" "I", Cond.fieldLink RX5 73 "LandingFinesModel" "isShunned" "Z", Cond.fieldLink RX5 77 "LandingFinesModel" "shunnedFor" "I", Cond.methodLink RX5 80 yX5_tries, Cond.instanceMethod yX5_tries, Cond.selects RX5 yX5_tries yX5_tries, Cond.code yX5_tries cX5_tries 2 none, Cond.methodLink RX5 84 yX5_passes, Cond.instanceMethod yX5_passes, Cond.selects RX5 yX5_passes yX5_passes, Cond.code yX5_passes cX5_passes 2 (some .boolean)]
def wsX5_isWell : List Cond := .code yX5_isWell cX5_isWell 2 (some .boolean) :: ((wsX5_isWell_r1 ++ (wsX5_isWell_r2 ++ (wsX5_isWell_r3 ++ wsX5_isWell_r4))) ++ wsX50)
def wsX5_fault_r1 : List Cond := [Cond.fieldLink RX5 125 "LandingFinesModel" "at" "I", Cond.methodLink RX5 142 yX5_isWell, Cond.instanceMethod yX5_isWell, Cond.selects RX5 yX5_isWell yX5_isWell, Cond.initialized RX5, Cond.code yX5_isWell cX5_isWell 2 (some .boolean), Cond.fieldLink RX5 114 "LandingFinesModel" "length" "I", Cond.methodLink RX5 138 yX5_order, Cond.instanceMethod yX5_order, Cond.selects RX5 yX5_order yX5_order, Cond.code yX5_order cX5_order 5 (some .int), Cond.fieldLink RX5 26 "LandingFinesModel" "pad" "[I", Cond.methodLink RX5 128 yX5_sees, Cond.instanceMethod yX5_sees, Cond.selects RX5 yX5_sees yX5_sees, Cond.code yX5_sees cX5_sees 3 (some .boolean), Cond.methodLink RX5 32 yX5_in, Cond.static yX5_in, Cond.code yX5_in cX5_in 4 (some .boolean), Cond.methodLink RX5 132 yX5_number, Cond.instanceMethod yX5_number, Cond.selects RX5 yX5_number yX5_number, Cond.code yX5_number cX5_number 2 (some .int), Cond.methodLink RX5 135 yX5_digit]
def wsX5_fault_r2 : List Cond := [Cond.instanceMethod yX5_digit, Cond.selects RX5 yX5_digit yX5_digit, Cond.code yX5_digit cX5_digit 1 (some .int), Cond.methodLink RX5 99 yX5_comes, Cond.instanceMethod yX5_comes, Cond.selects RX5 yX5_comes yX5_comes, Cond.code yX5_comes cX5_comes 5 (some .int), Cond.fieldLink RX5 7 "LandingFinesModel" "row" "[I", Cond.methodLink RX5 52 yX5_taken, Cond.instanceMethod yX5_taken, Cond.selects RX5 yX5_taken yX5_taken, Cond.code yX5_taken cX5_taken 4 (some .int), Cond.methodLink RX5 47 yX5_its, Cond.instanceMethod yX5_its, Cond.selects RX5 yX5_its yX5_its, Cond.code yX5_its cX5_its 3 (some .int), Cond.methodLink RX5 56 yX5_lay, Cond.instanceMethod yX5_lay, Cond.selects RX5 yX5_lay yX5_lay, Cond.code yX5_lay cX5_lay 4 none, Cond.methodLink RX5 102 yX5_turns, Cond.instanceMethod yX5_turns, Cond.selects RX5 yX5_turns yX5_turns, Cond.code yX5_turns cX5_turns 3 (some .int)]
def wsX5_fault_r3 : List Cond := [Cond.methodLink RX5 88 yX5_isLanding, Cond.instanceMethod yX5_isLanding, Cond.selects RX5 yX5_isLanding yX5_isLanding, Cond.code yX5_isLanding cX5_isLanding 2 (some .boolean), Cond.methodLink RX5 92 yX5_change, Cond.instanceMethod yX5_change, Cond.selects RX5 yX5_change yX5_change, Cond.code yX5_change cX5_change 6 (some .int), Cond.methodLink RX5 60 yX5_held, Cond.static yX5_held, Cond.code yX5_held cX5_held 1 (some .int), Cond.constant RX5 51 (99999), Cond.methodLink RX5 63 yX5_note, Cond.instanceMethod yX5_note, Cond.selects RX5 yX5_note yX5_note, Cond.code yX5_note cX5_note 4 none, Cond.methodLink RX5 105 yX5_costs, Cond.instanceMethod yX5_costs, Cond.selects RX5 yX5_costs yX5_costs, Cond.code yX5_costs cX5_costs 3 (some .int), Cond.methodLink RX5 108 yX5_waits, Cond.instanceMethod yX5_waits, Cond.selects RX5 yX5_waits yX5_waits, Cond.code yX5_waits cX5_waits 4 (some .int)]
def wsX5_fault_r4 : List Cond := [Cond.methodLink RX5 96 yX5_minute, Cond.instanceMethod yX5_minute, Cond.selects RX5 yX5_minute yX5_minute, Cond.code yX5_minute cX5_minute 5 (some .int), Cond.fieldLink RX5 70 "LandingFinesModel" "fine" "I", Cond.fieldLink RX5 67 "LandingFinesModel" "since" "I", Cond.fieldLink RX5 73 "LandingFinesModel" "isShunned" "Z", Cond.fieldLink RX5 77 "LandingFinesModel" "shunnedFor" "I", Cond.methodLink RX5 80 yX5_tries, Cond.instanceMethod yX5_tries, Cond.selects RX5 yX5_tries yX5_tries, Cond.code yX5_tries cX5_tries 2 none, Cond.methodLink RX5 84 yX5_passes, Cond.instanceMethod yX5_passes, Cond.selects RX5 yX5_passes yX5_passes, Cond.code yX5_passes cX5_passes 2 (some .boolean)]
def wsX5_fault : List Cond := .code yX5_fault cX5_fault 1 (some .int) :: ((wsX5_fault_r1 ++ (wsX5_fault_r2 ++ (wsX5_fault_r3 ++ wsX5_fault_r4))) ++ wsX50)
def wsX5_carryOut_r1 : List Cond := [Cond.fieldLink RX5 125 "LandingFinesModel" "at" "I", Cond.fieldLink RX5 114 "LandingFinesModel" "length" "I", Cond.methodLink RX5 142 yX5_isWell, Cond.instanceMethod yX5_isWell, Cond.selects RX5 yX5_isWell yX5_isWell, Cond.initialized RX5, Cond.code yX5_isWell cX5_isWell 2 (some .boolean), Cond.methodLink RX5 138 yX5_order, Cond.instanceMethod yX5_order, Cond.selects RX5 yX5_order yX5_order, Cond.code yX5_order cX5_order 5 (some .int), Cond.fieldLink RX5 26 "LandingFinesModel" "pad" "[I", Cond.methodLink RX5 128 yX5_sees, Cond.instanceMethod yX5_sees, Cond.selects RX5 yX5_sees yX5_sees, Cond.code yX5_sees cX5_sees 3 (some .boolean), Cond.methodLink RX5 32 yX5_in, Cond.static yX5_in, Cond.code yX5_in cX5_in 4 (some .boolean), Cond.methodLink RX5 132 yX5_number, Cond.instanceMethod yX5_number, Cond.selects RX5 yX5_number yX5_number, Cond.code yX5_number cX5_number 2 (some .int), Cond.methodLink RX5 135 yX5_digit]
def wsX5_carryOut_r2 : List Cond := [Cond.instanceMethod yX5_digit, Cond.selects RX5 yX5_digit yX5_digit, Cond.code yX5_digit cX5_digit 1 (some .int), Cond.methodLink RX5 99 yX5_comes, Cond.instanceMethod yX5_comes, Cond.selects RX5 yX5_comes yX5_comes, Cond.code yX5_comes cX5_comes 5 (some .int), Cond.fieldLink RX5 7 "LandingFinesModel" "row" "[I", Cond.methodLink RX5 52 yX5_taken, Cond.instanceMethod yX5_taken, Cond.selects RX5 yX5_taken yX5_taken, Cond.code yX5_taken cX5_taken 4 (some .int), Cond.methodLink RX5 47 yX5_its, Cond.instanceMethod yX5_its, Cond.selects RX5 yX5_its yX5_its, Cond.code yX5_its cX5_its 3 (some .int), Cond.methodLink RX5 56 yX5_lay, Cond.instanceMethod yX5_lay, Cond.selects RX5 yX5_lay yX5_lay, Cond.code yX5_lay cX5_lay 4 none, Cond.methodLink RX5 102 yX5_turns, Cond.instanceMethod yX5_turns, Cond.selects RX5 yX5_turns yX5_turns, Cond.code yX5_turns cX5_turns 3 (some .int)]
def wsX5_carryOut_r3 : List Cond := [Cond.methodLink RX5 88 yX5_isLanding, Cond.instanceMethod yX5_isLanding, Cond.selects RX5 yX5_isLanding yX5_isLanding, Cond.code yX5_isLanding cX5_isLanding 2 (some .boolean), Cond.methodLink RX5 92 yX5_change, Cond.instanceMethod yX5_change, Cond.selects RX5 yX5_change yX5_change, Cond.code yX5_change cX5_change 6 (some .int), Cond.methodLink RX5 60 yX5_held, Cond.static yX5_held, Cond.code yX5_held cX5_held 1 (some .int), Cond.constant RX5 51 (99999), Cond.methodLink RX5 63 yX5_note, Cond.instanceMethod yX5_note, Cond.selects RX5 yX5_note yX5_note, Cond.code yX5_note cX5_note 4 none, Cond.methodLink RX5 105 yX5_costs, Cond.instanceMethod yX5_costs, Cond.selects RX5 yX5_costs yX5_costs, Cond.code yX5_costs cX5_costs 3 (some .int), Cond.methodLink RX5 108 yX5_waits, Cond.instanceMethod yX5_waits, Cond.selects RX5 yX5_waits yX5_waits, Cond.code yX5_waits cX5_waits 4 (some .int)]
def wsX5_carryOut_r4 : List Cond := [Cond.methodLink RX5 96 yX5_minute, Cond.instanceMethod yX5_minute, Cond.selects RX5 yX5_minute yX5_minute, Cond.code yX5_minute cX5_minute 5 (some .int), Cond.fieldLink RX5 70 "LandingFinesModel" "fine" "I", Cond.fieldLink RX5 67 "LandingFinesModel" "since" "I", Cond.fieldLink RX5 73 "LandingFinesModel" "isShunned" "Z", Cond.fieldLink RX5 77 "LandingFinesModel" "shunnedFor" "I", Cond.methodLink RX5 80 yX5_tries, Cond.instanceMethod yX5_tries, Cond.selects RX5 yX5_tries yX5_tries, Cond.code yX5_tries cX5_tries 2 none, Cond.methodLink RX5 84 yX5_passes, Cond.instanceMethod yX5_passes, Cond.selects RX5 yX5_passes yX5_passes, Cond.code yX5_passes cX5_passes 2 (some .boolean), Cond.methodLink RX5 40 yX5_remember, Cond.instanceMethod yX5_remember, Cond.selects RX5 yX5_remember yX5_remember, Cond.code yX5_remember cX5_remember 2 none, Cond.fieldLink RX5 16 "LandingFinesModel" "before" "[I", Cond.methodLink RX5 43 yX5_record, Cond.instanceMethod yX5_record, Cond.selects RX5 yX5_record yX5_record]
def wsX5_carryOut_r5 : List Cond := [Cond.code yX5_record cX5_record 3 (some .int), Cond.fieldLink RX5 36 "LandingFinesModel" "states" "I", Cond.fieldLink RX5 13 "LandingFinesModel" "past" "[I"]
def wsX5_carryOut : List Cond := .code yX5_carryOut cX5_carryOut 3 (some .int) :: ((wsX5_carryOut_r1 ++ (wsX5_carryOut_r2 ++ (wsX5_carryOut_r3 ++ (wsX5_carryOut_r4 ++ wsX5_carryOut_r5)))) ++ wsX50)
def wsJ9_max_7cf53 : List Cond := .code yJ9_max_7cf53 cJ9_max_7cf53 2 (some .int) :: ([])
def wsJ9_min_7cf53 : List Cond := .code yJ9_min_7cf53 cJ9_min_7cf53 2 (some .int) :: ([])
def wsL_law_r1 : List Cond := [Cond.classLink RL 7 RX4, Cond.instantiable RX4 7, Cond.initialized RX4, Cond.classLink RL 10 RX5, Cond.instantiable RX5 14, Cond.initialized RX5, Cond.constantLong RL 76 (4294967295), Cond.methodLink RL 9 yX4_init, Cond.instanceMethod yX4_init, Cond.code yX4_init cX4_init 2 none, Cond.methodLink RX4 1 objectInit, Cond.instanceMethod objectInit, Cond.code objectInit ⟨#[0xb1]⟩ 1 none, Cond.classLink RX4 7 RX3, Cond.instantiable RX3 7, Cond.initialized RX3, Cond.fieldLink RX4 10 "LandingFines" "river" "LLandingFines$River;", Cond.fieldLink RX4 16 "LandingFines" "history" "[LLandingFines$River;", Cond.fieldLink RX4 20 "LandingFines" "historySize" "I", Cond.fieldLink RX4 24 "LandingFines" "slots" "[LLandingFines$River;", Cond.arrayClass .boolean, Cond.fieldLink RX4 27 "LandingFines" "slotUsed" "[Z", Cond.classLink RX4 31 RX2, Cond.instantiable RX2 6]
def wsL_law_r2 : List Cond := [Cond.initialized RX2, Cond.fieldLink RX4 34 "LandingFines" "pad" "LLandingFines$Pad;", Cond.classLink RX4 38 RX1, Cond.instantiable RX1 8, Cond.initialized RX1, Cond.fieldLink RX4 41 "LandingFines" "trial" "LLandingFines$Landing;", Cond.methodLink RX4 9 yX3_init, Cond.instanceMethod yX3_init, Cond.code yX3_init cX3_init 2 none, Cond.methodLink RX3 3 objectInit, Cond.methodLink RX3 13 ⟨"[I", "clone", "()Ljava/lang/Object;"⟩, Cond.sameMethod "[I" "java/lang/Object" "clone" "()Ljava/lang/Object;", Cond.native ⟨"java/lang/Object", "clone", "()Ljava/lang/Object;"⟩, Cond.instanceMethod ⟨"java/lang/Object", "clone", "()Ljava/lang/Object;"⟩, Cond.selects "[I" ⟨"[I", "clone", "()Ljava/lang/Object;"⟩ ⟨"java/lang/Object", "clone", "()Ljava/lang/Object;"⟩, Cond.classLink RX3 14 "[I", Cond.fieldLink RX3 18 "LandingFines$River" "settings" "[I", Cond.classLink RX3 23 RX1, Cond.fieldLink RX3 25 "LandingFines$River" "landings" "[LLandingFines$Landing;", Cond.fieldLink RX3 29 "LandingFines$River" "landingCount" "I", Cond.fieldLink RX3 33 "LandingFines$River" "minutesSoFar" "I", Cond.fieldLink RX3 36 "LandingFines$River" "taken" "I", Cond.fieldLink RX3 39 "LandingFines$River" "switches" "I", Cond.classLink RX3 42 RX0]
def wsL_law_r3 : List Cond := [Cond.instantiable RX0 5, Cond.initialized RX0, Cond.fieldLink RX3 45 "LandingFines$River" "journal" "LLandingFines$Journal;", Cond.instanceMethod yX0_init, Cond.code yX0_init cX0_init 1 none, Cond.methodLink RX0 3 objectInit, Cond.arrayClass .int, Cond.fieldLink RX0 9 "LandingFines$Journal" "sorts" "[I", Cond.fieldLink RX0 15 "LandingFines$Journal" "places" "[I", Cond.fieldLink RX0 18 "LandingFines$Journal" "minutes" "[I", Cond.fieldLink RX0 21 "LandingFines$Journal" "size" "I", Cond.fieldLink RX0 25 "LandingFines$Journal" "next" "I", Cond.instanceMethod yX1_init, Cond.code yX1_init cX1_init 1 none, Cond.methodLink RX1 3 objectInit, Cond.instanceMethod yX2_init, Cond.code yX2_init cX2_init 1 none, Cond.methodLink RX2 3 objectInit, Cond.arrayClass .char, Cond.fieldLink RX2 9 "LandingFines$Pad" "signs" "[C", Cond.fieldLink RX2 15 "LandingFines$Pad" "length" "I", Cond.fieldLink RX2 19 "LandingFines$Pad" "place" "I", Cond.fieldLink RX2 22 "LandingFines$Pad" "orderSign" "C", Cond.fieldLink RX2 26 "LandingFines$Pad" "orderLanding" "I"]
def wsL_law_r4 : List Cond := [Cond.fieldLink RX2 29 "LandingFines$Pad" "orderNumber" "I", Cond.methodLink RL 12 yX5_init, Cond.instanceMethod yX5_init, Cond.code yX5_init cX5_init 1 none, Cond.methodLink RX5 1 objectInit, Cond.fieldLink RX5 7 "LandingFinesModel" "row" "[I", Cond.fieldLink RX5 13 "LandingFinesModel" "past" "[I", Cond.fieldLink RX5 16 "LandingFinesModel" "before" "[I", Cond.fieldLink RX5 19 "LandingFinesModel" "slots" "[I", Cond.fieldLink RX5 22 "LandingFinesModel" "isSaved" "[Z", Cond.fieldLink RX5 26 "LandingFinesModel" "pad" "[I", Cond.fieldLink RX5 29 "LandingFinesModel" "codes" "[I", Cond.methodLink RL 13 yX4_set, Cond.instanceMethod yX4_set, Cond.selects RX4 yX4_set yX4_set, Cond.code yX4_set cX4_set 3 (some .int), Cond.methodLink RX4 45 yX4_keepState, Cond.instanceMethod yX4_keepState, Cond.selects RX4 yX4_keepState yX4_keepState, Cond.code yX4_keepState cX4_keepState 1 none, Cond.methodLink RX4 171 yX3_copyFrom, Cond.instanceMethod yX3_copyFrom, Cond.selects RX3 yX3_copyFrom yX3_copyFrom, Cond.code yX3_copyFrom cX3_copyFrom 3 none]
def wsL_law_r5 : List Cond := [Cond.methodLink RX3 50 arraycopyName, Cond.native arraycopyName, Cond.static arraycopyName, Cond.initialized "java/lang/System", Cond.methodLink RX3 56 yX1_copyFrom, Cond.instanceMethod yX1_copyFrom, Cond.selects RX1 yX1_copyFrom yX1_copyFrom, Cond.code yX1_copyFrom cX1_copyFrom 2 none, Cond.fieldLink RX1 9 "LandingFines$Landing" "isOpen" "Z", Cond.fieldLink RX1 15 "LandingFines$Landing" "fare" "I", Cond.fieldLink RX1 19 "LandingFines$Landing" "fine" "I", Cond.fieldLink RX1 22 "LandingFines$Landing" "isShunned" "Z", Cond.fieldLink RX1 25 "LandingFines$Landing" "minutesShunned" "I", Cond.fieldLink RX1 28 "LandingFines$Landing" "minutesSinceHalving" "I", Cond.fieldLink RX1 31 "LandingFines$Landing" "changes" "I", Cond.fieldLink RX1 34 "LandingFines$Landing" "timesShunned" "I", Cond.methodLink RX3 60 yX0_copyFrom, Cond.instanceMethod yX0_copyFrom, Cond.selects RX0 yX0_copyFrom yX0_copyFrom, Cond.code yX0_copyFrom cX0_copyFrom 2 none, Cond.methodLink RX0 34 arraycopyName, Cond.methodLink RX4 48 yX3_changeSetting, Cond.instanceMethod yX3_changeSetting, Cond.selects RX3 yX3_changeSetting yX3_changeSetting]
def wsL_law_r6 : List Cond := [Cond.code yX3_changeSetting cX3_changeSetting 4 (some .int), Cond.methodLink RX4 52 yX4_recordUnlessError, Cond.instanceMethod yX4_recordUnlessError, Cond.selects RX4 yX4_recordUnlessError yX4_recordUnlessError, Cond.code yX4_recordUnlessError cX4_recordUnlessError 2 (some .int), Cond.methodLink RX4 177 yX4_dropOldest, Cond.instanceMethod yX4_dropOldest, Cond.selects RX4 yX4_dropOldest yX4_dropOldest, Cond.code yX4_dropOldest cX4_dropOldest 3 none, Cond.methodLink RL 17 yX5_set, Cond.instanceMethod yX5_set, Cond.selects RX5 yX5_set yX5_set, Cond.code yX5_set cX5_set 6 (some .int), Cond.constant RX5 51 (99999), Cond.methodLink RX5 32 yX5_in, Cond.static yX5_in, Cond.code yX5_in cX5_in 4 (some .boolean), Cond.methodLink RX5 40 yX5_remember, Cond.instanceMethod yX5_remember, Cond.selects RX5 yX5_remember yX5_remember, Cond.code yX5_remember cX5_remember 2 none, Cond.methodLink RX5 43 yX5_record, Cond.instanceMethod yX5_record, Cond.selects RX5 yX5_record yX5_record]
def wsL_law_r7 : List Cond := [Cond.code yX5_record cX5_record 3 (some .int), Cond.fieldLink RX5 36 "LandingFinesModel" "states" "I", Cond.methodLink RL 18 yX4_landing, Cond.instanceMethod yX4_landing, Cond.selects RX4 yX4_landing yX4_landing, Cond.code yX4_landing cX4_landing 2 (some .int), Cond.methodLink RX4 56 yX3_addLanding, Cond.instanceMethod yX3_addLanding, Cond.selects RX3 yX3_addLanding yX3_addLanding, Cond.code yX3_addLanding cX3_addLanding 2 (some .int), Cond.methodLink RX3 69 yX1_arrive, Cond.instanceMethod yX1_arrive, Cond.selects RX1 yX1_arrive yX1_arrive, Cond.code yX1_arrive cX1_arrive 2 none, Cond.methodLink RX3 73 yX3_followTaken, Cond.instanceMethod yX3_followTaken, Cond.selects RX3 yX3_followTaken yX3_followTaken, Cond.code yX3_followTaken cX3_followTaken 3 none, Cond.fieldLink RX3 88 "LandingFines$Landing" "fare" "I", Cond.methodLink RX3 131 yX1_canBeTaken, Cond.instanceMethod yX1_canBeTaken, Cond.selects RX1 yX1_canBeTaken yX1_canBeTaken, Cond.code yX1_canBeTaken cX1_canBeTaken 1 (some .boolean), Cond.methodLink RL 22 yX5_landing]
def wsL_law_r8 : List Cond := [Cond.instanceMethod yX5_landing, Cond.selects RX5 yX5_landing yX5_landing, Cond.code yX5_landing cX5_landing 2 (some .int), Cond.methodLink RX5 99 yX5_comes, Cond.instanceMethod yX5_comes, Cond.selects RX5 yX5_comes yX5_comes, Cond.code yX5_comes cX5_comes 5 (some .int), Cond.methodLink RX5 52 yX5_taken, Cond.instanceMethod yX5_taken, Cond.selects RX5 yX5_taken yX5_taken, Cond.code yX5_taken cX5_taken 4 (some .int), Cond.methodLink RX5 47 yX5_its, Cond.instanceMethod yX5_its, Cond.selects RX5 yX5_its yX5_its, Cond.code yX5_its cX5_its 3 (some .int), Cond.methodLink RX5 56 yX5_lay, Cond.instanceMethod yX5_lay, Cond.selects RX5 yX5_lay yX5_lay, Cond.code yX5_lay cX5_lay 4 none, Cond.methodLink RL 23 yX4_open, Cond.instanceMethod yX4_open, Cond.selects RX4 yX4_open yX4_open, Cond.code yX4_open cX4_open 2 (some .int), Cond.methodLink RX4 59 yX3_openLanding]
def wsL_law_r9 : List Cond := [Cond.instanceMethod yX3_openLanding, Cond.selects RX3 yX3_openLanding yX3_openLanding, Cond.code yX3_openLanding cX3_openLanding 3 (some .int), Cond.fieldLink RX3 80 "LandingFines$Landing" "isOpen" "Z", Cond.methodLink RX3 76 yX3_find, Cond.instanceMethod yX3_find, Cond.selects RX3 yX3_find yX3_find, Cond.code yX3_find cX3_find 2 (some (.object "LandingFines$Landing")), Cond.methodLink RX3 84 yX3_finishChange, Cond.instanceMethod yX3_finishChange, Cond.selects RX3 yX3_finishChange yX3_finishChange, Cond.code yX3_finishChange cX3_finishChange 4 (some .int), Cond.fieldLink RX3 99 "LandingFines$Landing" "fine" "I", Cond.methodLink RX3 91 yX0_add, Cond.instanceMethod yX0_add, Cond.selects RX0 yX0_add yX0_add, Cond.code yX0_add cX0_add 4 none, Cond.methodLink RX0 28 Lib.Math.min.name, Cond.static Lib.Math.min.name, Cond.initialized "java/lang/Math", Cond.code Lib.Math.min.name Lib.Math.min.code 2 (some .int), Cond.methodLink RX3 95 yX3_fineBySort, Cond.instanceMethod yX3_fineBySort, Cond.selects RX3 yX3_fineBySort yX3_fineBySort]
def wsL_law_r10 : List Cond := [Cond.code yX3_fineBySort cX3_fineBySort 3 (some .boolean), Cond.methodLink RX3 102 yX1_addFine, Cond.instanceMethod yX1_addFine, Cond.selects RX1 yX1_addFine yX1_addFine, Cond.code yX1_addFine cX1_addFine 3 (some .boolean), Cond.constant RX1 37 (99999), Cond.methodLink RX1 38 Lib.Math.min.name, Cond.methodLink RL 26 yX5_open, Cond.instanceMethod yX5_open, Cond.selects RX5 yX5_open yX5_open, Cond.code yX5_open cX5_open 2 (some .int), Cond.methodLink RX5 102 yX5_turns, Cond.instanceMethod yX5_turns, Cond.selects RX5 yX5_turns yX5_turns, Cond.code yX5_turns cX5_turns 3 (some .int), Cond.methodLink RX5 88 yX5_isLanding, Cond.instanceMethod yX5_isLanding, Cond.selects RX5 yX5_isLanding yX5_isLanding, Cond.code yX5_isLanding cX5_isLanding 2 (some .boolean), Cond.methodLink RX5 92 yX5_change, Cond.instanceMethod yX5_change, Cond.selects RX5 yX5_change yX5_change, Cond.code yX5_change cX5_change 6 (some .int), Cond.methodLink RX5 60 yX5_held]
def wsL_law_r11 : List Cond := [Cond.static yX5_held, Cond.code yX5_held cX5_held 1 (some .int), Cond.methodLink RX5 63 yX5_note, Cond.instanceMethod yX5_note, Cond.selects RX5 yX5_note yX5_note, Cond.code yX5_note cX5_note 4 none, Cond.methodLink RL 27 yX4_close, Cond.instanceMethod yX4_close, Cond.selects RX4 yX4_close yX4_close, Cond.code yX4_close cX4_close 2 (some .int), Cond.methodLink RX4 62 yX3_closeLanding, Cond.instanceMethod yX3_closeLanding, Cond.selects RX3 yX3_closeLanding yX3_closeLanding, Cond.code yX3_closeLanding cX3_closeLanding 3 (some .int), Cond.methodLink RL 30 yX5_close, Cond.instanceMethod yX5_close, Cond.selects RX5 yX5_close yX5_close, Cond.code yX5_close cX5_close 2 (some .int), Cond.methodLink RL 31 yX4_price, Cond.instanceMethod yX4_price, Cond.selects RX4 yX4_price yX4_price, Cond.code yX4_price cX4_price 3 (some .int), Cond.methodLink RX4 65 yX3_changePrice, Cond.instanceMethod yX3_changePrice]
def wsL_law_r12 : List Cond := [Cond.selects RX3 yX3_changePrice yX3_changePrice, Cond.code yX3_changePrice cX3_changePrice 4 (some .int), Cond.methodLink RL 34 yX5_price, Cond.instanceMethod yX5_price, Cond.selects RX5 yX5_price yX5_price, Cond.code yX5_price cX5_price 3 (some .int), Cond.methodLink RX5 105 yX5_costs, Cond.instanceMethod yX5_costs, Cond.selects RX5 yX5_costs yX5_costs, Cond.code yX5_costs cX5_costs 3 (some .int), Cond.methodLink RL 35 yX4_pass, Cond.instanceMethod yX4_pass, Cond.selects RX4 yX4_pass yX4_pass, Cond.code yX4_pass cX4_pass 2 (some .int), Cond.methodLink RX4 68 yX3_passMinutes, Cond.instanceMethod yX3_passMinutes, Cond.selects RX3 yX3_passMinutes yX3_passMinutes, Cond.code yX3_passMinutes cX3_passMinutes 4 (some .int), Cond.constant RX3 106 (99999), Cond.methodLink RX3 107 yX3_passOneMinute, Cond.instanceMethod yX3_passOneMinute, Cond.selects RX3 yX3_passOneMinute yX3_passOneMinute, Cond.code yX3_passOneMinute cX3_passOneMinute 3 (some .int), Cond.methodLink RX3 111 yX3_passMinuteOf]
def wsL_law_r13 : List Cond := [Cond.instanceMethod yX3_passMinuteOf, Cond.selects RX3 yX3_passMinuteOf yX3_passMinuteOf, Cond.code yX3_passMinuteOf cX3_passMinuteOf 2 (some .boolean), Cond.methodLink RX3 115 yX1_passMinute, Cond.instanceMethod yX1_passMinute, Cond.selects RX1 yX1_passMinute yX1_passMinute, Cond.code yX1_passMinute cX1_passMinute 4 (some .boolean), Cond.methodLink RL 38 yX5_pass, Cond.instanceMethod yX5_pass, Cond.selects RX5 yX5_pass yX5_pass, Cond.code yX5_pass cX5_pass 2 (some .int), Cond.methodLink RX5 108 yX5_waits, Cond.instanceMethod yX5_waits, Cond.selects RX5 yX5_waits yX5_waits, Cond.code yX5_waits cX5_waits 4 (some .int), Cond.methodLink RX5 96 yX5_minute, Cond.instanceMethod yX5_minute, Cond.selects RX5 yX5_minute yX5_minute, Cond.code yX5_minute cX5_minute 5 (some .int), Cond.fieldLink RX5 70 "LandingFinesModel" "fine" "I", Cond.fieldLink RX5 67 "LandingFinesModel" "since" "I", Cond.fieldLink RX5 73 "LandingFinesModel" "isShunned" "Z", Cond.fieldLink RX5 77 "LandingFinesModel" "shunnedFor" "I", Cond.methodLink RX5 80 yX5_tries]
def wsL_law_r14 : List Cond := [Cond.instanceMethod yX5_tries, Cond.selects RX5 yX5_tries yX5_tries, Cond.code yX5_tries cX5_tries 2 none, Cond.methodLink RX5 84 yX5_passes, Cond.instanceMethod yX5_passes, Cond.selects RX5 yX5_passes yX5_passes, Cond.code yX5_passes cX5_passes 2 (some .boolean), Cond.methodLink RL 39 yX4_of, Cond.instanceMethod yX4_of, Cond.selects RX4 yX4_of yX4_of, Cond.code yX4_of cX4_of 4 (some .int), Cond.methodLink RX4 71 yX3_find, Cond.methodLink RX4 75 yX1_tell, Cond.instanceMethod yX1_tell, Cond.selects RX1 yX1_tell yX1_tell, Cond.code yX1_tell cX1_tell 2 (some .int), Cond.methodLink RL 42 yX5_of, Cond.instanceMethod yX5_of, Cond.selects RX5 yX5_of yX5_of, Cond.code yX5_of cX5_of 3 (some .int), Cond.methodLink RL 43 yX4_count, Cond.instanceMethod yX4_count, Cond.selects RX4 yX4_count yX4_count, Cond.code yX4_count cX4_count 2 (some .int)]
def wsL_law_r15 : List Cond := [Cond.fieldLink RX4 78 "LandingFines$Pad" "length" "I", Cond.methodLink RX4 81 yX3_tell, Cond.instanceMethod yX3_tell, Cond.selects RX3 yX3_tell yX3_tell, Cond.code yX3_tell cX3_tell 2 (some .int), Cond.fieldLink RX3 145 "LandingFines$Journal" "size" "I", Cond.methodLink RX3 139 yX3_openOnes, Cond.instanceMethod yX3_openOnes, Cond.selects RX3 yX3_openOnes yX3_openOnes, Cond.code yX3_openOnes cX3_openOnes 3 (some .int), Cond.methodLink RX3 142 yX3_shunnedOnes, Cond.instanceMethod yX3_shunnedOnes, Cond.selects RX3 yX3_shunnedOnes yX3_shunnedOnes, Cond.code yX3_shunnedOnes cX3_shunnedOnes 3 (some .int), Cond.fieldLink RX3 148 "LandingFines$Landing" "isShunned" "Z", Cond.methodLink RL 46 yX5_count, Cond.instanceMethod yX5_count, Cond.selects RX5 yX5_count yX5_count, Cond.code yX5_count cX5_count 2 (some .int), Cond.fieldLink RX5 114 "LandingFinesModel" "length" "I", Cond.methodLink RX5 111 yX5_mask, Cond.instanceMethod yX5_mask, Cond.selects RX5 yX5_mask yX5_mask, Cond.code yX5_mask cX5_mask 4 (some .int)]
def wsL_law_r16 : List Cond := [Cond.methodLink RL 47 yX4_choice, Cond.instanceMethod yX4_choice, Cond.selects RX4 yX4_choice yX4_choice, Cond.code yX4_choice cX4_choice 2 (some .int), Cond.methodLink RX4 82 yX3_chosen, Cond.instanceMethod yX3_chosen, Cond.selects RX3 yX3_chosen yX3_chosen, Cond.code yX3_chosen cX3_chosen 3 (some .int), Cond.methodLink RX3 135 yX3_rankOf, Cond.instanceMethod yX3_rankOf, Cond.selects RX3 yX3_rankOf yX3_rankOf, Cond.code yX3_rankOf cX3_rankOf 6 (some .int), Cond.methodLink RL 50 yX5_choice, Cond.instanceMethod yX5_choice, Cond.selects RX5 yX5_choice yX5_choice, Cond.code yX5_choice cX5_choice 3 (some .int), Cond.methodLink RX5 117 yX5_rank, Cond.instanceMethod yX5_rank, Cond.selects RX5 yX5_rank yX5_rank, Cond.code yX5_rank cX5_rank 5 (some .int), Cond.methodLink RL 51 yX4_log, Cond.instanceMethod yX4_log, Cond.selects RX4 yX4_log yX4_log, Cond.code yX4_log cX4_log 3 (some .int)]
def wsL_law_r17 : List Cond := [Cond.fieldLink RX4 85 "LandingFines$River" "journal" "LLandingFines$Journal;", Cond.methodLink RX4 89 yX0_tell, Cond.instanceMethod yX0_tell, Cond.selects RX0 yX0_tell yX0_tell, Cond.code yX0_tell cX0_tell 4 (some .int), Cond.methodLink RL 54 yX5_log, Cond.instanceMethod yX5_log, Cond.selects RX5 yX5_log yX5_log, Cond.code yX5_log cX5_log 3 (some .int), Cond.methodLink RL 55 yX4_why, Cond.instanceMethod yX4_why, Cond.selects RX4 yX4_why yX4_why, Cond.code yX4_why cX4_why 3 (some .int), Cond.fieldLink RX4 93 "LandingFines$River" "taken" "I", Cond.fieldLink RX4 96 "LandingFines$Landing" "isOpen" "Z", Cond.fieldLink RX4 100 "LandingFines$Landing" "isShunned" "Z", Cond.methodLink RL 58 yX5_why, Cond.instanceMethod yX5_why, Cond.selects RX5 yX5_why yX5_why, Cond.code yX5_why cX5_why 2 (some .int), Cond.methodLink RL 59 yX4_welcomeIn, Cond.instanceMethod yX4_welcomeIn, Cond.selects RX4 yX4_welcomeIn yX4_welcomeIn, Cond.code yX4_welcomeIn cX4_welcomeIn 4 (some .int)]
def wsL_law_r18 : List Cond := [Cond.methodLink RX4 103 yX1_copyFrom, Cond.methodLink RX4 107 yX3_passMinuteOf, Cond.methodLink RL 62 yX5_welcomeIn, Cond.instanceMethod yX5_welcomeIn, Cond.selects RX5 yX5_welcomeIn yX5_welcomeIn, Cond.code yX5_welcomeIn cX5_welcomeIn 4 (some .int), Cond.methodLink RL 63 yX4_mayChange, Cond.instanceMethod yX4_mayChange, Cond.selects RX4 yX4_mayChange yX4_mayChange, Cond.code yX4_mayChange cX4_mayChange 4 (some .int), Cond.methodLink RX4 111 yX3_fineBySort, Cond.methodLink RL 66 yX5_mayChange, Cond.instanceMethod yX5_mayChange, Cond.selects RX5 yX5_mayChange yX5_mayChange, Cond.code yX5_mayChange cX5_mayChange 5 (some .int), Cond.methodLink RL 67 yX4_fineIn, Cond.instanceMethod yX4_fineIn, Cond.selects RX4 yX4_fineIn yX4_fineIn, Cond.code yX4_fineIn cX4_fineIn 5 (some .int), Cond.fieldLink RX4 115 "LandingFines$Landing" "fine" "I", Cond.methodLink RL 70 yX5_fineIn, Cond.instanceMethod yX5_fineIn, Cond.selects RX5 yX5_fineIn yX5_fineIn, Cond.code yX5_fineIn cX5_fineIn 5 (some .int)]
def wsL_law_r19 : List Cond := [Cond.methodLink RL 71 yX4_steady, Cond.instanceMethod yX4_steady, Cond.selects RX4 yX4_steady yX4_steady, Cond.code yX4_steady cX4_steady 2 (some .int), Cond.methodLink RX4 118 yX4_staysWelcome, Cond.instanceMethod yX4_staysWelcome, Cond.selects RX4 yX4_staysWelcome yX4_staysWelcome, Cond.code yX4_staysWelcome cX4_staysWelcome 3 (some .boolean), Cond.methodLink RX4 122 yX1_arrive, Cond.methodLink RX4 126 yX3_fade, Cond.instanceMethod yX3_fade, Cond.selects RX3 yX3_fade yX3_fade, Cond.code yX3_fade cX3_fade 5 none, Cond.methodLink RX3 119 Lib.Math.max.name, Cond.static Lib.Math.max.name, Cond.code Lib.Math.max.name Lib.Math.max.code 2 (some .int), Cond.fieldLink RX3 125 "LandingFines$Landing" "minutesSinceHalving" "I", Cond.methodLink RX3 128 Lib.Math.min.name, Cond.methodLink RL 75 yX5_steady, Cond.instanceMethod yX5_steady, Cond.selects RX5 yX5_steady yX5_steady, Cond.code yX5_steady cX5_steady 2 (some .int), Cond.methodLink RX5 120 yX5_isSteady, Cond.instanceMethod yX5_isSteady]
def wsL_law_r20 : List Cond := [Cond.selects RX5 yX5_isSteady yX5_isSteady, Cond.code yX5_isSteady cX5_isSteady 5 (some .boolean), Cond.methodLink RL 78 yX4_put, Cond.instanceMethod yX4_put, Cond.selects RX4 yX4_put yX4_put, Cond.code yX4_put cX4_put 4 (some .int), Cond.methodLink RX4 130 yX4_charactersIn, Cond.static yX4_charactersIn, Cond.code yX4_charactersIn cX4_charactersIn 6 (some .int), Cond.constantLong RX4 138 (255), Cond.methodLink RX4 134 yX2_append, Cond.instanceMethod yX2_append, Cond.selects RX2 yX2_append yX2_append, Cond.code yX2_append cX2_append 5 none, Cond.constantLong RX2 32 (255), Cond.methodLink RL 82 yX5_put, Cond.instanceMethod yX5_put, Cond.selects RX5 yX5_put yX5_put, Cond.code yX5_put cX5_put 7 (some .int), Cond.constantLong RX5 123 (255), Cond.methodLink RL 83 yX4_wipe, Cond.instanceMethod yX4_wipe, Cond.selects RX4 yX4_wipe yX4_wipe, Cond.code yX4_wipe cX4_wipe 1 (some .int)]
def wsL_law_r21 : List Cond := [Cond.methodLink RX4 140 yX2_clear, Cond.instanceMethod yX2_clear, Cond.selects RX2 yX2_clear yX2_clear, Cond.code yX2_clear cX2_clear 2 (some .int), Cond.methodLink RL 86 yX5_wipe, Cond.instanceMethod yX5_wipe, Cond.selects RX5 yX5_wipe yX5_wipe, Cond.code yX5_wipe cX5_wipe 2 (some .int), Cond.methodLink RL 87 yX4_fault, Cond.instanceMethod yX4_fault, Cond.selects RX4 yX4_fault yX4_fault, Cond.code yX4_fault cX4_fault 1 (some .int), Cond.methodLink RX4 144 yX2_findFault, Cond.instanceMethod yX2_findFault, Cond.selects RX2 yX2_findFault yX2_findFault, Cond.code yX2_findFault cX2_findFault 2 (some .int), Cond.methodLink RX2 34 yX2_startReading, Cond.instanceMethod yX2_startReading, Cond.selects RX2 yX2_startReading yX2_startReading, Cond.code yX2_startReading cX2_startReading 1 none, Cond.methodLink RX2 37 yX2_readOrder, Cond.instanceMethod yX2_readOrder, Cond.selects RX2 yX2_readOrder yX2_readOrder, Cond.code yX2_readOrder cX2_readOrder 1 (some .boolean)]
def wsL_law_r22 : List Cond := [Cond.methodLink RX2 45 yX2_readNumber, Cond.instanceMethod yX2_readNumber, Cond.selects RX2 yX2_readNumber yX2_readNumber, Cond.code yX2_readNumber cX2_readNumber 2 (some .boolean), Cond.methodLink RX2 51 yX2_isAtDigit, Cond.instanceMethod yX2_isAtDigit, Cond.selects RX2 yX2_isAtDigit yX2_isAtDigit, Cond.code yX2_isAtDigit cX2_isAtDigit 1 (some .boolean), Cond.methodLink RX2 48 yX2_readLanding, Cond.instanceMethod yX2_readLanding, Cond.selects RX2 yX2_readLanding yX2_readLanding, Cond.code yX2_readLanding cX2_readLanding 1 (some .boolean), Cond.methodLink RX2 41 yX2_readSign, Cond.instanceMethod yX2_readSign, Cond.selects RX2 yX2_readSign yX2_readSign, Cond.code yX2_readSign cX2_readSign 2 (some .boolean), Cond.methodLink RL 90 yX5_fault, Cond.instanceMethod yX5_fault, Cond.selects RX5 yX5_fault yX5_fault, Cond.code yX5_fault cX5_fault 1 (some .int), Cond.fieldLink RX5 125 "LandingFinesModel" "at" "I", Cond.methodLink RX5 142 yX5_isWell, Cond.instanceMethod yX5_isWell, Cond.selects RX5 yX5_isWell yX5_isWell]
def wsL_law_r23 : List Cond := [Cond.code yX5_isWell cX5_isWell 2 (some .boolean), Cond.methodLink RX5 138 yX5_order, Cond.instanceMethod yX5_order, Cond.selects RX5 yX5_order yX5_order, Cond.code yX5_order cX5_order 5 (some .int), Cond.methodLink RX5 128 yX5_sees, Cond.instanceMethod yX5_sees, Cond.selects RX5 yX5_sees yX5_sees, Cond.code yX5_sees cX5_sees 3 (some .boolean), Cond.methodLink RX5 132 yX5_number, Cond.instanceMethod yX5_number, Cond.selects RX5 yX5_number yX5_number, Cond.code yX5_number cX5_number 2 (some .int), Cond.methodLink RX5 135 yX5_digit, Cond.instanceMethod yX5_digit, Cond.selects RX5 yX5_digit yX5_digit, Cond.code yX5_digit cX5_digit 1 (some .int), Cond.methodLink RL 91 yX4_carryOut, Cond.instanceMethod yX4_carryOut, Cond.selects RX4 yX4_carryOut yX4_carryOut, Cond.code yX4_carryOut cX4_carryOut 3 (some .int), Cond.methodLink RX4 147 yX2_startReading, Cond.methodLink RX4 150 yX2_readOrder, Cond.methodLink RX4 154 yX4_carryOutOne]
def wsL_law_r24 : List Cond := [Cond.instanceMethod yX4_carryOutOne, Cond.selects RX4 yX4_carryOutOne yX4_carryOutOne, Cond.code yX4_carryOutOne cX4_carryOutOne 1 (some .int), Cond.fieldLink RX4 161 "LandingFines$Pad" "orderSign" "C", Cond.fieldLink RX4 165 "LandingFines$Pad" "orderNumber" "I", Cond.fieldLink RX4 168 "LandingFines$Pad" "orderLanding" "I", Cond.methodLink RX4 157 yX2_readSign, Cond.methodLink RL 94 yX5_carryOut, Cond.instanceMethod yX5_carryOut, Cond.selects RX5 yX5_carryOut yX5_carryOut, Cond.code yX5_carryOut cX5_carryOut 3 (some .int), Cond.methodLink RL 95 yX4_undo, Cond.instanceMethod yX4_undo, Cond.selects RX4 yX4_undo yX4_undo, Cond.code yX4_undo cX4_undo 1 (some .int), Cond.methodLink RL 98 yX5_undo, Cond.instanceMethod yX5_undo, Cond.selects RX5 yX5_undo yX5_undo, Cond.code yX5_undo cX5_undo 2 (some .int), Cond.methodLink RL 99 yX4_save, Cond.instanceMethod yX4_save, Cond.selects RX4 yX4_save yX4_save, Cond.code yX4_save cX4_save 2 (some .int), Cond.fieldLink RX4 174 "LandingFines$River" "landingCount" "I"]
def wsL_law_r25 : List Cond := [Cond.methodLink RL 102 yX5_save, Cond.instanceMethod yX5_save, Cond.selects RX5 yX5_save yX5_save, Cond.code yX5_save cX5_save 3 (some .int), Cond.methodLink RL 103 yX4_restore, Cond.instanceMethod yX4_restore, Cond.selects RX4 yX4_restore yX4_restore, Cond.code yX4_restore cX4_restore 2 (some .int), Cond.methodLink RL 106 yX5_restore, Cond.instanceMethod yX5_restore, Cond.selects RX5 yX5_restore yX5_restore, Cond.code yX5_restore cX5_restore 3 (some .int)]
def wsL_law : List Cond := (wsL_law_r1 ++ (wsL_law_r2 ++ (wsL_law_r3 ++ (wsL_law_r4 ++ (wsL_law_r5 ++ (wsL_law_r6 ++ (wsL_law_r7 ++ (wsL_law_r8 ++ (wsL_law_r9 ++ (wsL_law_r10 ++ (wsL_law_r11 ++ (wsL_law_r12 ++ (wsL_law_r13 ++ (wsL_law_r14 ++ (wsL_law_r15 ++ (wsL_law_r16 ++ (wsL_law_r17 ++ (wsL_law_r18 ++ (wsL_law_r19 ++ (wsL_law_r20 ++ (wsL_law_r21 ++ (wsL_law_r22 ++ (wsL_law_r23 ++ (wsL_law_r24 ++ wsL_law_r25)))))))))))))))))))))))) ++ wsX40 ++ wsX50 ++ wsX30 ++ wsX20 ++ wsX10 ++ wsX00 ++ ([] : List Cond)
theorem dJ9_max_7cf53_0 : decode cJ9_max_7cf53 0 = .ok (.iload_n 0, 1) := by decide +kernel
theorem dJ9_max_7cf53_1 : decode cJ9_max_7cf53 1 = .ok (.iload_n 1, 1) := by decide +kernel
theorem dJ9_max_7cf53_2 : decode cJ9_max_7cf53 2 = .ok (.if_icmp .lt 7, 3) := by decide +kernel
theorem dJ9_max_7cf53_5 : decode cJ9_max_7cf53 5 = .ok (.iload_n 0, 1) := by decide +kernel
theorem dJ9_max_7cf53_6 : decode cJ9_max_7cf53 6 = .ok (.goto 4, 3) := by decide +kernel
theorem dJ9_max_7cf53_9 : decode cJ9_max_7cf53 9 = .ok (.iload_n 1, 1) := by decide +kernel
theorem dJ9_max_7cf53_10 : decode cJ9_max_7cf53 10 = .ok (.ireturn, 1) := by decide +kernel
theorem dJ9_min_7cf53_0 : decode cJ9_min_7cf53 0 = .ok (.iload_n 0, 1) := by decide +kernel
theorem dJ9_min_7cf53_1 : decode cJ9_min_7cf53 1 = .ok (.iload_n 1, 1) := by decide +kernel
theorem dJ9_min_7cf53_2 : decode cJ9_min_7cf53 2 = .ok (.if_icmp .gt 7, 3) := by decide +kernel
theorem dJ9_min_7cf53_5 : decode cJ9_min_7cf53 5 = .ok (.iload_n 0, 1) := by decide +kernel
theorem dJ9_min_7cf53_6 : decode cJ9_min_7cf53 6 = .ok (.goto 4, 3) := by decide +kernel
theorem dJ9_min_7cf53_9 : decode cJ9_min_7cf53 9 = .ok (.iload_n 1, 1) := by decide +kernel
theorem dJ9_min_7cf53_10 : decode cJ9_min_7cf53 10 = .ok (.ireturn, 1) := by decide +kernel
abbrev vwCl : List vw_C := [(RX0, TX0, 5), (RX1, TX1, 8), (RX2, TX2, 6), (RX3, TX3, 7), (RX4, TX4, 7), (RX5, TX5, 14)]
end
section
/-! THE MEMORY: the cells of the run lie at b, b + 1 .. b + 164; cell k holds in slot j the int x k j; what is a reference is fixed by the kind of the cell -/
abbrev mm_M : Type := Nat → Nat → Int32
def mm_up (x : mm_M) (k j : Nat) (v : Int32) : mm_M := fun a => if a = k then upd (x a) j v else x a
def mm_cy (x : mm_M) (k0 k1 sp dp n : Nat) : mm_M := fun a => if a = k1 then va_cpy (x k0) (x a) sp dp n else x a
theorem mm_up_same (x : mm_M) (k j : Nat) (v : Int32) : mm_up x k j v k = upd (x k) j v := if_pos rfl
theorem mm_up_ne {x : mm_M} {k j a : Nat} {v : Int32} (h : a ≠ k) : mm_up x k j v a = x a := if_neg h
theorem mm_cy_same (x : mm_M) (k0 k1 sp dp n : Nat) : mm_cy x k0 k1 sp dp n k1 = va_cpy (x k0) (x k1) sp dp n := if_pos rfl
theorem mm_cy_ne {x : mm_M} {k0 k1 sp dp n a : Nat} (h : a ≠ k1) : mm_cy x k0 k1 sp dp n a = x a := if_neg h
/-- the kinds: 0 to 5 the objects (as the classes are numbered), 6 int[], 7 char[], 8 boolean[], 9 Landing[], 10 the history, 11 the slots -/
def mm_kR (o : Nat) : Nat := if o = 0 then 3 else if o = 1 then 6 else if o = 2 then 9 else if o = 3 then 0 else if o < 7 then 6 else 1
def mm_kd (k : Nat) : Nat :=
  if k = 0 then 4 else if k < 16 then mm_kR (k - 1) else if k = 16 then 10 else if k = 17 then 11 else if k = 18 then 8 else if k = 19 then 2 else if k = 20 then 7 else if k = 21 then 1
  else if k < 157 then mm_kR ((k - 22) % 15) else if k = 157 then 5 else if k = 162 then 8 else if k < 165 then 6 else 99
def mm_ln (k : Nat) : Nat :=
  if k < 16 then (if k = 2 then 7 else 20) else if k = 18 then 2 else if k = 20 then 80 else if k < 157 then (if (k - 22) % 15 = 1 then 7 else 20)
  else if k = 158 then 135 else if k = 159 then 810 else if k = 160 then 135 else if k = 161 then 270 else if k = 162 then 2 else if k = 163 then 80 else 8
def mm_ent (T : Nat → ClassId) (b : Nat) (x : mm_M) (k : Nat) : va_E :=
  if mm_kd k = 0 then .inr (0, [.ref (b + (k + 1)), .ref (b + (k + 2)), .ref (b + (k + 3)), .int (x k 3), .int (x k 4)])
  else if mm_kd k = 1 then .inr (1, [.int (x k 0), .int (x k 1), .int (x k 2), .int (x k 3), .int (x k 4), .int (x k 5), .int (x k 6), .int (x k 7)])
  else if mm_kd k = 2 then .inr (2, [.ref (b + (k + 1)), .int (x k 1), .int (x k 2), .int (x k 3), .int (x k 4), .int (x k 5)])
  else if mm_kd k = 3 then .inr (3, [.ref (b + (k + 1)), .ref (b + (k + 2)), .int (x k 2), .int (x k 3), .int (x k 4), .int (x k 5), .ref (b + (k + 3))])
  else if mm_kd k = 4 then .inr (4, [.ref (b + 1), .ref (b + 16), .int (x k 2), .ref (b + 17), .ref (b + 18), .ref (b + 19), .ref (b + 21)])
  else if mm_kd k = 5 then .inr (5, [.ref (b + 158), .ref (b + 159), .ref (b + 160), .ref (b + 161), .ref (b + 162), .int (x k 5), .ref (b + 163), .int (x k 7), .int (x k 8), .ref (b + 164), .int (x k 10), .int (x k 11), .int (x k 12), .int (x k 13)])
  else if mm_kd k = 7 then .inl (T 1, mm_ln k, .inl (x k))
  else if mm_kd k = 8 then .inl (T 2, mm_ln k, .inl (x k))
  else if mm_kd k = 9 then .inl (T 3, 8, .inr (.inr (.inr (.inr (fun j => some (b + (k + 5 + j)))))))
  else if mm_kd k = 10 then .inl (T 4, 7, .inr (.inr (.inr (.inr (fun j => some (b + (x k j).toNatClampNeg))))))
  else if mm_kd k = 11 then .inl (T 4, 2, .inr (.inr (.inr (.inr (fun j => some (b + (127 + 15 * j)))))))
  else .inl (T 0, mm_ln k, .inl (x k))
section MME
variable {T : Nat → ClassId} {b : Nat} {x x1 : mm_M} {k : Nat}
theorem mm_e0 (h : mm_kd k = 0) : mm_ent T b x k = .inr (0, [.ref (b + (k + 1)), .ref (b + (k + 2)), .ref (b + (k + 3)), .int (x k 3), .int (x k 4)]) := by simp [mm_ent, h]
theorem mm_e1 (h : mm_kd k = 1) : mm_ent T b x k = .inr (1, [.int (x k 0), .int (x k 1), .int (x k 2), .int (x k 3), .int (x k 4), .int (x k 5), .int (x k 6), .int (x k 7)]) := by simp [mm_ent, h]
theorem mm_e2 (h : mm_kd k = 2) : mm_ent T b x k = .inr (2, [.ref (b + (k + 1)), .int (x k 1), .int (x k 2), .int (x k 3), .int (x k 4), .int (x k 5)]) := by simp [mm_ent, h]
theorem mm_e3 (h : mm_kd k = 3) : mm_ent T b x k = .inr (3, [.ref (b + (k + 1)), .ref (b + (k + 2)), .int (x k 2), .int (x k 3), .int (x k 4), .int (x k 5), .ref (b + (k + 3))]) := by simp [mm_ent, h]
theorem mm_e4 (h : mm_kd k = 4) : mm_ent T b x k = .inr (4, [.ref (b + 1), .ref (b + 16), .int (x k 2), .ref (b + 17), .ref (b + 18), .ref (b + 19), .ref (b + 21)]) := by simp [mm_ent, h]
theorem mm_e5 (h : mm_kd k = 5) : mm_ent T b x k = .inr (5, [.ref (b + 158), .ref (b + 159), .ref (b + 160), .ref (b + 161), .ref (b + 162), .int (x k 5), .ref (b + 163), .int (x k 7), .int (x k 8), .ref (b + 164), .int (x k 10), .int (x k 11), .int (x k 12), .int (x k 13)]) := by simp [mm_ent, h]
theorem mm_e6 (h : mm_kd k = 6) : mm_ent T b x k = .inl (T 0, mm_ln k, .inl (x k)) := by simp [mm_ent, h]
theorem mm_e7 (h : mm_kd k = 7) : mm_ent T b x k = .inl (T 1, mm_ln k, .inl (x k)) := by simp [mm_ent, h]
theorem mm_e8 (h : mm_kd k = 8) : mm_ent T b x k = .inl (T 2, mm_ln k, .inl (x k)) := by simp [mm_ent, h]
theorem mm_e9 (h : mm_kd k = 9) : mm_ent T b x k = .inl (T 3, 8, .inr (.inr (.inr (.inr (fun j => some (b + (k + 5 + j))))))) := by simp [mm_ent, h]
theorem mm_e10 (h : mm_kd k = 10) : mm_ent T b x k = .inl (T 4, 7, .inr (.inr (.inr (.inr (fun j => some (b + (x k j).toNatClampNeg)))))) := by simp [mm_ent, h]
theorem mm_e11 (h : mm_kd k = 11) : mm_ent T b x k = .inl (T 4, 2, .inr (.inr (.inr (.inr (fun j => some (b + (127 + 15 * j))))))) := by simp [mm_ent, h]
theorem mm_ec (h : x1 k = x k) : mm_ent T b x1 k = mm_ent T b x k := by simp only [mm_ent, h]
theorem mm_lt {c : Nat} (h : mm_kd k = c) (hc : c < 99) : k < 165 := by
  rcases Nat.lt_or_ge k 165 with q | q
  · exact q
  · unfold mm_kd at h
    repeat rw [if_neg (by omega)] at h
    omega
/-- the cells of a river, by the river's own -/
theorem mm_riv (h : mm_kd k = 3) : k = 1 ∨ ∃ i, i < 9 ∧ k = 22 + 15 * i := by
  have hk := mm_lt h (by decide)
  have key : ∀ k, k < 165 → mm_kd k = 3 → k = 1 ∨ ∃ i, i < 9 ∧ k = 22 + 15 * i := by decide +kernel
  exact key k hk h
theorem mm_rv1 (h : mm_kd k = 3) : mm_kd (k + 1) = 6 ∧ mm_ln (k + 1) = 7 := by
  have key : ∀ k, k < 165 → mm_kd k = 3 → mm_kd (k + 1) = 6 ∧ mm_ln (k + 1) = 7 := by decide +kernel
  exact key k (mm_lt h (by decide)) h
theorem mm_rv2 (h : mm_kd k = 3) : mm_kd (k + 2) = 9 := by
  have key : ∀ k, k < 165 → mm_kd k = 3 → mm_kd (k + 2) = 9 := by decide +kernel
  exact key k (mm_lt h (by decide)) h
theorem mm_rv3 (h : mm_kd k = 3) : mm_kd (k + 3) = 0 := by
  have key : ∀ k, k < 165 → mm_kd k = 3 → mm_kd (k + 3) = 0 := by decide +kernel
  exact key k (mm_lt h (by decide)) h
theorem mm_jn1 (h : mm_kd k = 0) : mm_kd (k + 1) = 6 ∧ mm_ln (k + 1) = 20 := by
  have key : ∀ k, k < 165 → mm_kd k = 0 → mm_kd (k + 1) = 6 ∧ mm_ln (k + 1) = 20 := by decide +kernel
  exact key k (mm_lt h (by decide)) h
theorem mm_jn2 (h : mm_kd k = 0) : mm_kd (k + 2) = 6 ∧ mm_ln (k + 2) = 20 := by
  have key : ∀ k, k < 165 → mm_kd k = 0 → mm_kd (k + 2) = 6 ∧ mm_ln (k + 2) = 20 := by decide +kernel
  exact key k (mm_lt h (by decide)) h
theorem mm_jn3 (h : mm_kd k = 0) : mm_kd (k + 3) = 6 ∧ mm_ln (k + 3) = 20 := by
  have key : ∀ k, k < 165 → mm_kd k = 0 → mm_kd (k + 3) = 6 ∧ mm_ln (k + 3) = 20 := by decide +kernel
  exact key k (mm_lt h (by decide)) h
end MME
def mm_w (T : Nat → ClassId) (b : Nat) (x : mm_M) : va_W := (List.range 165).map fun k => (b + k, mm_ent T b x k)
theorem mm_wat {T : Nat → ClassId} {b : Nat} {x : mm_M} {k : Nat} (hk : k < 165) : (mm_w T b x)[k]? = some (b + k, mm_ent T b x k) := by
  simp [mm_w, hk]
theorem mm_wat' {T : Nat → ClassId} {b : Nat} {x : mm_M} {k : Nat} {q : Nat × va_E} (h : (mm_w T b x)[k]? = some q) : k < 165 ∧ q = (b + k, mm_ent T b x k) := by
  have hl := (List.getElem?_eq_some_iff.mp h).1
  have hk : k < 165 := by simpa [mm_w] using hl
  rw [mm_wat hk] at h
  exact ⟨hk, (Option.some.inj h).symm⟩
theorem mm_wD (T : Nat → ClassId) (b : Nat) (x : mm_M) : va_D (fun q => b ≤ q) (mm_w T b x) := by
  refine ⟨fun i j p q hi hj h => ?_, fun k q hk => ?_⟩
  · obtain ⟨-, rfl⟩ := mm_wat' hi
    obtain ⟨-, rfl⟩ := mm_wat' hj
    have h' : b + i = b + j := h
    omega
  · obtain ⟨-, rfl⟩ := mm_wat' hk
    exact Nat.le_add_right _ _
theorem mm_wset {T : Nat → ClassId} {b : Nat} {x x1 : mm_M} {k : Nat} {e : va_E} (hk : k < 165) (he : e = mm_ent T b x1 k) (ho : ∀ a, a ≠ k → x1 a = x a) : (mm_w T b x).set k (b + k, e) = mm_w T b x1 := by
  apply List.ext_getElem?
  intro i
  by_cases hi : i < 165
  · by_cases hik : i = k
    · subst hik
      rw [List.getElem?_set_self (by simpa [mm_w] using hi), mm_wat hi, he]
    · rw [List.getElem?_set_ne (fun q => hik q.symm), mm_wat hi, mm_wat hi, mm_ec (ho i hik)]
  · rw [List.getElem?_eq_none (by simp [mm_w]; omega), List.getElem?_eq_none (by simp [mm_w]; omega)]
def mm_T (T : Nat → ClassId) : List (ClassId × FieldType) := [(T 0, .int), (T 1, .char), (T 2, .boolean), (T 3, .object RX1), (T 4, .object RX3)]
/-- the three static rows of LandingFines: what they hold -/
def mm_st : Nat → Nat → Int32 := fun i j => (([[0, 0, 0, 1, 1, 1, 1], [9999, 9999, 9999, 99, 99999, 99999, 999], [1000, 0, 500, 15, 2000, 750, 60]] : List (List Int32)).getD i []).getD j 0
def mm_sn : Nat → String := fun i => match i with
  | 0 => "LEAST_SETTING"
  | 1 => "MOST_SETTING"
  | _ => "FIRST_SETTING"
def mm_Z (b : Nat) (z : Nat → Nat) (U : State) (H : Heap) : Prop := ∀ i, i < 3 → va_Z RX4 (mm_sn i) "[I" (.ref (z i)) (fun q => b ≤ q) U H ∧ va_T .int (z i) 7 (fun j => .int (mm_st i j)) (fun q => b ≤ q) U H
theorem mm_Z.moved {b : Nat} {z : Nat → Nat} {u U : State} {H : Heap} (hvm : u.vm.Alike U.vm) (h : mm_Z b z u H) : mm_Z b z U H := fun i hi => ⟨(h i hi).1.moved hvm, (h i hi).2.moved hvm⟩
theorem mm_Z.kept {b : Nat} {z : Nat → Nat} {U : State} {H H1 : Heap} (h : mm_Z b z U H) (hq : ∀ a : Nat, a < H.size → ¬ b ≤ a → H1[a]? = H[a]?) : mm_Z b z U H1 := fun i hi => ⟨(h i hi).1.kept hq, (h i hi).2.kept hq⟩
def mm_si : Nat → Nat := fun i => match i with
  | 0 => 63
  | 1 => 66
  | _ => 9
def mm_N (U : State) : Prop := ∀ i, i < 3 → va_Nw (.fieldLinkNest RX3 (mm_si i) RX4 (mm_sn i) "[I" RX4) U
/-- what stands through a method's walk -/
def mm_C (p : Program) (m : MethodId) (c : Code) (cc : ByteArray) (nL : Nat) (s : State) (args : Array Value) (Ts : List Cond) (own : String) (G : va_G) (T : Nat → ClassId) (b : Nat) (z : Nat → Nat) : Prop :=
  p.tables.exec = Jvm.exec ∧ c.code = cc ∧ c.maxLocals = nL ∧ s.vm.findClass own = some m.cls ∧ (∀ w ∈ Ts, w.before args s = true) ∧ va_K G vwCl (mm_T T) s ∧ mm_Z b z s s.heap ∧ mm_N s
/-- what the heap holds now -/
def mm_H (G : va_G) (T : Nat → ClassId) (b : Nat) (x : mm_M) (s : State) (H : Heap) (locs : List Loc) : Prop := va_P G vwCl (mm_w T b x) H ∧ va_S (fun q => b ≤ q) s.heap H locs
/-- a method's start -/
def mm_B (G : va_G) (T : Nat → ClassId) (b : Nat) (z : Nat → Nat) (x : mm_M) (U : State) : Prop := va_P G vwCl (mm_w T b x) U.heap ∧ va_K G vwCl (mm_T T) U ∧ mm_Z b z U U.heap ∧ mm_N U
def mm_Qi (G : va_G) (T : Nat → ClassId) (b : Nat) (r : Int32) (x1 : mm_M) : Array Value → State → Outcome → State → Prop := va_Qi (fun (r' : Int32) (_ : Unit) => r' = r) (fun _ t => va_P G vwCl (mm_w T b x1) t.heap) (fun q => b ≤ q)
def mm_Qv (G : va_G) (T : Nat → ClassId) (b : Nat) (x1 : mm_M) : Array Value → State → Outcome → State → Prop := va_Qv (fun (_ : Unit) => True) (fun _ t => va_P G vwCl (mm_w T b x1) t.heap) (fun q => b ≤ q)
def mm_Qe (G : va_G) (T : Nat → ClassId) (b : Nat) (r : Option Nat) (x1 : mm_M) : Array Value → State → Outcome → State → Prop := va_Qe (fun k => b + k) (fun (r' : Option Nat) (_ : Unit) => r' = r) (fun _ t => va_P G vwCl (mm_w T b x1) t.heap) (fun q => b ≤ q)
/-- the contracts: an int, nothing, a cell or null -/
def mm_Ci (l : Launch) (y : MethodName) (ws : List Cond) (rm : Room) (G : va_G) (T : Nat → ClassId) (b : Nat) (z : Nat → Nat) (av : List Value) (x : mm_M) (r : Int32) (x1 : mm_M) : Prop := Met l y ws rm (va_Pc av (mm_B G T b z x)) (mm_Qi G T b r x1) 0 0 (fun q => b ≤ q)
def mm_Cv (l : Launch) (y : MethodName) (ws : List Cond) (rm : Room) (G : va_G) (T : Nat → ClassId) (b : Nat) (z : Nat → Nat) (av : List Value) (x : mm_M) (x1 : mm_M) : Prop := Met l y ws rm (va_Pc av (mm_B G T b z x)) (mm_Qv G T b x1) 0 0 (fun q => b ≤ q)
def mm_Ce (l : Launch) (y : MethodName) (ws : List Cond) (rm : Room) (G : va_G) (T : Nat → ClassId) (b : Nat) (z : Nat → Nat) (av : List Value) (x : mm_M) (r : Option Nat) (x1 : mm_M) : Prop := Met l y ws rm (va_Pc av (mm_B G T b z x)) (mm_Qe G T b r x1) 0 0 (fun q => b ≤ q)
theorem mm_B.blind {G : va_G} {T : Nat → ClassId} {b : Nat} {z : Nat → Nat} {x : mm_M} {av : List Value} : FrameBlind (va_Pc av (mm_B G T b z x)) := by
  intro a U g mk q
  obtain ⟨q0, qP, qK, qZ, qN⟩ := q
  exact ⟨q0, qP, va_K.moved (u := U) (U := U.calling g mk a) (Vm.Alike.refl U.vm) qK, mm_Z.moved (u := U) (U := U.calling g mk a) (Vm.Alike.refl U.vm) qZ, fun i hi => va_Nw.same (u := U) (U := U.calling g mk a) rfl rfl (qN i hi)⟩
theorem mm_bnd {α β : Type} {o : Option α} {f : α → Option β} {r : β} (h : o.bind f = some r) : ∃ a, o = some a ∧ f a = some r := by
  cases o with
  | none => cases h
  | some a => exact ⟨a, rfl, h⟩
theorem mm_pos {α : Type} {c : Prop} {i : Decidable c} {a b : Option α} {r : Option α} (hc : c) (h : (if c then a else b) = r) : a = r := by rwa [if_pos hc] at h
theorem mm_neg {α : Type} {c : Prop} {i : Decidable c} {a b : Option α} {r : Option α} (hc : ¬ c) (h : (if c then a else b) = r) : b = r := by rwa [if_neg hc] at h
/-- a guard: what it guards is so -/
theorem mm_grd {α : Type} {c : Prop} {i : Decidable c} {a : Option α} {r : α} (h : (if c then a else none) = some r) : c ∧ a = some r := by
  by_cases hc : c
  · rw [if_pos hc] at h; exact ⟨hc, h⟩
  · rw [if_neg hc] at h; cases h
theorem mm_grn {α : Type} {c : Prop} {i : Decidable c} {a : Option α} {r : α} (h : (if c then none else a) = some r) : ¬ c ∧ a = some r := by
  by_cases hc : c
  · rw [if_pos hc] at h; cases h
  · rw [if_neg hc] at h; exact ⟨hc, h⟩
section MMW
variable {p : Program} {l : Launch} {e : Env} {R : Room} {s : State} {m : MethodId} {args : Array Value} {below : List Frame} {meth : Method} {c : Code} {H : Heap} {locs : List Loc} {cells slots : Nat} {Q : State → Prop}
variable {cc : ByteArray} {pc nL : Nat} {ls : Array Slot} {rest : List Value} {Ts : List Cond} {own : String} {G : va_G} {T : Nat → ClassId} {b : Nat} {z : Nat → Nat} {x x1 : mm_M} {k : Nat}
theorem mm_get {Cn : String} {Tn : u_T} {N ci j index : Nat} {fs : List Value} {v : Value} {nm ds : String} (C : mm_C p m c cc nL s args Ts own G T b z) (hH : mm_H G T b x s H locs) (hin : ∀ w ∈ u_ws Cn Tn N, w ∈ Ts) (hc : vwCl[ci]? = some (Cn, Tn, N)) (hk : k < 165) (he : mm_ent T b x k = .inr (ci, fs)) (hj : j < N) (hT : Tn j = (Cn, nm, ds, (Tn j).2.2.2))
    (hlink : (Cond.fieldLink own index Cn nm ds).before args s = true) (hv : fs[j]? = some v) (hdg : decode cc pc = .ok (.getfield index, 3))
    (kk : W p l e R s m args below meth c H locs cells slots Q (F0 m (pc + 3) ls (v :: rest))) : W p l e R s m args below meth c H locs cells slots Q (F0 m pc ls (.ref (b + k) :: rest)) := by
  obtain ⟨hx, hb, -, hown, hts, hK, -⟩ := C
  have h1 : (Tn j).1 = Cn := by rw [hT]
  have h2 : (Tn j).2.1 = nm := by rw [hT]
  have h3 : (Tn j).2.2.1 = ds := by rw [hT]
  exact va_get hx hb hts hin hown hK hH.1 k (ref := Cn) ((mm_wat hk).trans (by rw [he])) hc j hj (by rw [h2, h3]; exact hlink) (fun y hy => by rw [h1] at hy; exact hy) hv hdg kk
theorem mm_put {Cn : String} {Tn : u_T} {N ci j index : Nat} {fs : List Value} {v : Int32} {nm ds : String} {ty : FieldType} {ty0 : Nat → FieldType} (C : mm_C p m c cc nL s args Ts own G T b z) (hH : mm_H G T b x s H locs) (hin : ∀ w ∈ u_ws Cn Tn N, w ∈ Ts) (hty : ∀ k, k < N → parseFieldDescriptor (Tn k).2.2.1 = some (ty0 k)) (hnm : ∀ a, a < N → ∀ b, b < N → a ≠ b → (Tn a).2.1 ≠ (Tn b).2.1) (hc : vwCl[ci]? = some (Cn, Tn, N)) (hk : k < 165) (he : mm_ent T b x k = .inr (ci, fs)) (hj : j < N) (hT : Tn j = (Cn, nm, ds, false))
    (hlink : (Cond.fieldLink own index Cn nm ds).before args s = true) (hd : parseFieldDescriptor ds = some ty) (hn : narrow ty (.int v) = .int v) (hfit : fits ty (.int v) = true) (hl : j < fs.length) (hse : (.inr (ci, fs.set j (.int v)) : va_E) = mm_ent T b (mm_up x k j v) k) (hx1 : mm_up x k j v = x1) (hdg : decode cc pc = .ok (.putfield index, 3))
    (kk : ∀ (H1 : Heap) (locs1 : List Loc), mm_H G T b x1 s H1 locs1 → W p l e R s m args below meth c H1 locs1 cells slots Q (F0 m (pc + 3) ls rest)) : W p l e R s m args below meth c H locs cells slots Q (F0 m pc ls (.int v :: .ref (b + k) :: rest)) := by
  obtain ⟨hx, hb, -, hown, hts, hK, -⟩ := C
  have h1 : (Tn j).1 = Cn := by rw [hT]
  have h2 : (Tn j).2.1 = nm := by rw [hT]
  have h3 : (Tn j).2.2.1 = ds := by rw [hT]
  have h4 : (Tn j).2.2.2 = false := by rw [hT]
  refine va_put hx hb hts hin ty0 hty hnm hown hK hH.1 (mm_wD T b x) hH.2 k (ref := Cn) ((mm_wat hk).trans (by rw [he])) hc j hj (by rw [h2, h3]; exact hlink) (fun y hy => by rw [h1] at hy; exact hy) h4 (by rw [h3]; exact hd) hn hfit hl hdg (fun H1 locs1 hP _ hS => kk H1 locs1 ⟨?_, hS⟩)
  subst hx1
  rwa [mm_wset hk hse (fun a ha => mm_up_ne ha)] at hP
theorem mm_iald {n jn : Nat} {i : Int32} (C : mm_C p m c cc nL s args Ts own G T b z) (hH : mm_H G T b x s H locs) (hk : mm_kd k = 6) (hln : mm_ln k = n) (hin : ¬ (i < 0 ∨ n ≤ i.toNatClampNeg)) (hj : i.toNatClampNeg = jn) (hdg : decode cc pc = .ok (.iaload, 1))
    (kk : W p l e R s m args below meth c H locs cells slots Q (F0 m (pc + 1) ls (.int (x k jn) :: rest))) : W p l e R s m args below meth c H locs cells slots Q (F0 m pc ls (.int i :: .ref (b + k) :: rest)) := by
  subst hj
  exact va_iald C.1 C.2.1 C.2.2.2.2.2.1 hH.1 k 0 ((mm_wat (mm_lt hk (by decide))).trans (by rw [mm_e6 hk])) rfl (by rw [hln]; exact hin) hdg kk
theorem mm_bald {n jn : Nat} {i : Int32} (C : mm_C p m c cc nL s args Ts own G T b z) (hH : mm_H G T b x s H locs) (hk : mm_kd k = 8) (hln : mm_ln k = n) (hin : ¬ (i < 0 ∨ n ≤ i.toNatClampNeg)) (hj : i.toNatClampNeg = jn) (hdg : decode cc pc = .ok (.baload, 1))
    (kk : W p l e R s m args below meth c H locs cells slots Q (F0 m (pc + 1) ls (.int (x k jn) :: rest))) : W p l e R s m args below meth c H locs cells slots Q (F0 m pc ls (.int i :: .ref (b + k) :: rest)) := by
  subst hj
  exact va_zald C.1 C.2.1 C.2.2.2.2.2.1 hH.1 k 2 ((mm_wat (mm_lt hk (by decide))).trans (by rw [mm_e8 hk])) rfl (by rw [hln]; exact hin) hdg kk
theorem mm_cald {n jn : Nat} {i : Int32} (C : mm_C p m c cc nL s args Ts own G T b z) (hH : mm_H G T b x s H locs) (hk : mm_kd k = 7) (hln : mm_ln k = n) (hin : ¬ (i < 0 ∨ n ≤ i.toNatClampNeg)) (hj : i.toNatClampNeg = jn) (hdg : decode cc pc = .ok (.caload, 1))
    (kk : W p l e R s m args below meth c H locs cells slots Q (F0 m (pc + 1) ls (.int (x k jn) :: rest))) : W p l e R s m args below meth c H locs cells slots Q (F0 m pc ls (.int i :: .ref (b + k) :: rest)) := by
  subst hj
  exact va_cald C.1 C.2.1 C.2.2.2.2.2.1 hH.1 k 1 ((mm_wat (mm_lt hk (by decide))).trans (by rw [mm_e7 hk])) rfl (by rw [hln]; exact hin) hdg kk
theorem mm_iast {n : Nat} {i v : Int32} {jn : Nat} (C : mm_C p m c cc nL s args Ts own G T b z) (hH : mm_H G T b x s H locs) (hk : mm_kd k = 6) (hln : mm_ln k = n) (hin : ¬ (i < 0 ∨ n ≤ i.toNatClampNeg)) (hj : i.toNatClampNeg = jn) (hx1 : mm_up x k jn v = x1) (hdg : decode cc pc = .ok (.iastore, 1))
    (kk : ∀ (H1 : Heap) (locs1 : List Loc), mm_H G T b x1 s H1 locs1 → W p l e R s m args below meth c H1 locs1 cells slots Q (F0 m (pc + 1) ls rest)) : W p l e R s m args below meth c H locs cells slots Q (F0 m pc ls (.int v :: .int i :: .ref (b + k) :: rest)) := by
  have hk5 := mm_lt hk (by decide)
  refine va_iast C.1 C.2.1 C.2.2.2.2.2.1 hH.1 (mm_wD T b x) hH.2 k 0 ((mm_wat hk5).trans (by rw [mm_e6 hk])) rfl (by rw [hln]; exact hin) hdg (fun H1 locs1 hP _ hS => kk H1 locs1 ⟨?_, hS⟩)
  subst hx1; subst hj
  rwa [mm_wset hk5 (by rw [mm_e6 hk, mm_up_same]) (fun a ha => mm_up_ne ha)] at hP
theorem mm_cast {n : Nat} {i v : Int32} {jn : Nat} (C : mm_C p m c cc nL s args Ts own G T b z) (hH : mm_H G T b x s H locs) (hk : mm_kd k = 7) (hln : mm_ln k = n) (hin : ¬ (i < 0 ∨ n ≤ i.toNatClampNeg)) (hj : i.toNatClampNeg = jn) (hx1 : mm_up x k jn (vp_nar .char v) = x1) (hdg : decode cc pc = .ok (.castore, 1))
    (kk : ∀ (H1 : Heap) (locs1 : List Loc), mm_H G T b x1 s H1 locs1 → W p l e R s m args below meth c H1 locs1 cells slots Q (F0 m (pc + 1) ls rest)) : W p l e R s m args below meth c H locs cells slots Q (F0 m pc ls (.int v :: .int i :: .ref (b + k) :: rest)) := by
  have hk5 := mm_lt hk (by decide)
  refine va_cast C.1 C.2.1 C.2.2.2.2.2.1 hH.1 (mm_wD T b x) hH.2 k 1 ((mm_wat hk5).trans (by rw [mm_e7 hk])) rfl (by rw [hln]; exact hin) hdg (fun H1 locs1 hP _ hS => kk H1 locs1 ⟨?_, hS⟩)
  subst hx1; subst hj
  rwa [mm_wset hk5 (by rw [mm_e7 hk, mm_up_same]) (fun a ha => mm_up_ne ha)] at hP
theorem mm_bast {n : Nat} {i v : Int32} {jn : Nat} (C : mm_C p m c cc nL s args Ts own G T b z) (hH : mm_H G T b x s H locs) (hk : mm_kd k = 8) (hln : mm_ln k = n) (hin : ¬ (i < 0 ∨ n ≤ i.toNatClampNeg)) (hv : vp_nar .boolean v = v) (hj : i.toNatClampNeg = jn) (hx1 : mm_up x k jn v = x1) (hdg : decode cc pc = .ok (.bastore, 1))
    (kk : ∀ (H1 : Heap) (locs1 : List Loc), mm_H G T b x1 s H1 locs1 → W p l e R s m args below meth c H1 locs1 cells slots Q (F0 m (pc + 1) ls rest)) : W p l e R s m args below meth c H locs cells slots Q (F0 m pc ls (.int v :: .int i :: .ref (b + k) :: rest)) := by
  have hk5 := mm_lt hk (by decide)
  refine va_zast C.1 C.2.1 C.2.2.2.2.2.1 hH.1 (mm_wD T b x) hH.2 k 2 ((mm_wat hk5).trans (by rw [mm_e8 hk])) rfl (by rw [hln]; exact hin) hdg (fun H1 locs1 hP _ hS => kk H1 locs1 ⟨?_, hS⟩)
  subst hx1; subst hj
  rw [hv] at hP
  rwa [mm_wset hk5 (by rw [mm_e8 hk, mm_up_same]) (fun a ha => mm_up_ne ha)] at hP
theorem mm_alen {cA : ClassId} {y : vp_A} {ty : FieldType} {v : Int32} (C : mm_C p m c cc nL s args Ts own G T b z) (hH : mm_H G T b x s H locs) (hk : k < 165) (he : mm_ent T b x k = .inl (cA, y)) (t0 : Nat) (ht : (mm_T T)[t0]? = some (cA, ty)) (hv : Int32.ofNat y.1 = v) (hdg : decode cc pc = .ok (.arraylength, 1))
    (kk : W p l e R s m args below meth c H locs cells slots Q (F0 m (pc + 1) ls (.int v :: rest))) : W p l e R s m args below meth c H locs cells slots Q (F0 m pc ls (.ref (b + k) :: rest)) :=
  va_alen C.1 C.2.1 C.2.2.2.2.2.1 hH.1 k t0 ((mm_wat hk).trans (by rw [he])) ht hv hdg kk
theorem mm_ald9 {i : Int32} (C : mm_C p m c cc nL s args Ts own G T b z) (hH : mm_H G T b x s H locs) (hk : mm_kd k = 9) (hin : ¬ (i < 0 ∨ 8 ≤ i.toNatClampNeg)) (hdg : decode cc pc = .ok (.aaload, 1))
    (kk : W p l e R s m args below meth c H locs cells slots Q (F0 m (pc + 1) ls (.ref (b + (k + 5 + i.toNatClampNeg)) :: rest))) : W p l e R s m args below meth c H locs cells slots Q (F0 m pc ls (.int i :: .ref (b + k) :: rest)) :=
  va_aldq C.1 C.2.1 C.2.2.2.2.2.1 hH.1 k 3 (f := fun j => some (b + (k + 5 + j))) ((mm_wat (mm_lt hk (by decide))).trans (by rw [mm_e9 hk])) rfl hin hdg kk
theorem mm_ald10 {i : Int32} (C : mm_C p m c cc nL s args Ts own G T b z) (hH : mm_H G T b x s H locs) (hk : mm_kd k = 10) (hin : ¬ (i < 0 ∨ 7 ≤ i.toNatClampNeg)) (hdg : decode cc pc = .ok (.aaload, 1))
    (kk : W p l e R s m args below meth c H locs cells slots Q (F0 m (pc + 1) ls (.ref (b + (x k i.toNatClampNeg).toNatClampNeg) :: rest))) : W p l e R s m args below meth c H locs cells slots Q (F0 m pc ls (.int i :: .ref (b + k) :: rest)) :=
  va_aldq C.1 C.2.1 C.2.2.2.2.2.1 hH.1 k 4 (f := fun j => some (b + (x k j).toNatClampNeg)) ((mm_wat (mm_lt hk (by decide))).trans (by rw [mm_e10 hk])) rfl hin hdg kk
theorem mm_ald11 {i : Int32} (C : mm_C p m c cc nL s args Ts own G T b z) (hH : mm_H G T b x s H locs) (hk : mm_kd k = 11) (hin : ¬ (i < 0 ∨ 2 ≤ i.toNatClampNeg)) (hdg : decode cc pc = .ok (.aaload, 1))
    (kk : W p l e R s m args below meth c H locs cells slots Q (F0 m (pc + 1) ls (.ref (b + (127 + 15 * i.toNatClampNeg)) :: rest))) : W p l e R s m args below meth c H locs cells slots Q (F0 m pc ls (.int i :: .ref (b + k) :: rest)) :=
  va_aldq C.1 C.2.1 C.2.2.2.2.2.1 hH.1 k 4 (f := fun j => some (b + (127 + 15 * j))) ((mm_wat (mm_lt hk (by decide))).trans (by rw [mm_e11 hk])) rfl hin hdg kk
theorem mm_nIk {k : Nat} (h : k < 165) : (nI k).toNatClampNeg = k := nI_clamp (by omega)
theorem mm_ast10 {i : Int32} {q : Nat} (C : mm_C p m c cc nL s args Ts own G T b z) (hH : mm_H G T b x s H locs) (hk : mm_kd k = 10) (hq : mm_kd q = 3) (hin : ¬ (i < 0 ∨ 7 ≤ i.toNatClampNeg)) (hx1 : mm_up x k i.toNatClampNeg (nI q) = x1) (hdg : decode cc pc = .ok (.aastore, 1))
    (kk : ∀ (H1 : Heap) (locs1 : List Loc), mm_H G T b x1 s H1 locs1 → W p l e R s m args below meth c H1 locs1 cells slots Q (F0 m (pc + 1) ls rest)) : W p l e R s m args below meth c H locs cells slots Q (F0 m pc ls (.ref (b + q) :: .int i :: .ref (b + k) :: rest)) := by
  have hk5 := mm_lt hk (by decide)
  have hq5 := mm_lt hq (by decide)
  refine va_astq C.1 C.2.1 C.2.2.2.2.2.1 hH.1 (mm_wD T b x) hH.2 k 4 q 3 (r := (RX3, TX3, 7)) ((mm_wat hk5).trans (by rw [mm_e10 hk])) rfl ((mm_wat hq5).trans (by rw [mm_e3 hq])) rfl hin hdg (fun H1 locs1 hP _ hS => kk H1 locs1 ⟨?_, hS⟩)
  subst hx1
  refine (mm_wset hk5 ?_ (fun a ha => mm_up_ne ha)) ▸ hP
  rw [mm_e10 hk, mm_up_same]
  refine congrArg (fun f => (Sum.inl (T 4, 7, .inr (.inr (.inr (.inr f)))) : va_E)) (funext fun j => ?_)
  unfold va_up upd
  by_cases hj : j = i.toNatClampNeg
  · rw [if_pos hj, if_pos hj, mm_nIk hq5]
  · rw [if_neg hj, if_neg hj]
theorem mm_copy {k0 n0 n1 index : Nat} {sp dp n : Int32} (C : mm_C p m c cc nL s args Ts own G T b z) (hls : nL = ls.size) (hH : mm_H G T b x s H locs) (hk0 : mm_kd k0 = 6) (hk : mm_kd k = 6) (hn0 : mm_ln k0 = n0) (hn1 : mm_ln k = n1) (hlink : (Cond.methodLink own index arraycopyName).before args s = true) (hnat : (Cond.native arraycopyName).before args s = true) (hstat : (Cond.static arraycopyName).before args s = true) (hini : (Cond.initialized "java/lang/System").before args s = true)
    (h1 : ¬ sp < 0) (h2 : ¬ dp < 0) (h3 : ¬ n < 0) (h4 : sp.toNatClampNeg + n.toNatClampNeg ≤ n0) (h5 : dp.toNatClampNeg + n.toNatClampNeg ≤ n1)
    (hframes : 1 ≤ R.frames) (hlocals : (rest.map fun v => v.category).sum + (nativeFrameWords "java/lang/System" "arraycopy" 5 + 11) ≤ R.locals) (hx1 : mm_cy x k0 k sp.toNatClampNeg dp.toNatClampNeg n.toNatClampNeg = x1) (hdg : decode cc pc = .ok (.invokestatic index, 3))
    (kk : ∀ (H1 : Heap) (locs1 : List Loc), mm_H G T b x1 s H1 locs1 → W p l e R s m args below meth c H1 locs1 cells slots Q (F0 m (pc + 3) ls rest)) : W p l e R s m args below meth c H locs cells slots Q (F0 m pc ls (.int n :: .int dp :: .ref (b + k) :: .int sp :: .ref (b + k0) :: rest)) := by
  have hk5 := mm_lt hk (by decide)
  have hk05 := mm_lt hk0 (by decide)
  refine va_copyi C.1 C.2.1 (C.2.2.1.trans hls) C.2.2.2.1 hlink hnat hstat hini C.2.2.2.2.2.1 hH.1 (mm_wD T b x) hH.2 k0 k 0 0 ((mm_wat hk05).trans (by rw [mm_e6 hk0])) ((mm_wat hk5).trans (by rw [mm_e6 hk])) rfl rfl rfl h1 h2 h3 (by rw [hn0]; exact h4) (by rw [hn1]; exact h5) (fun _ _ => rfl) hframes hlocals hdg (fun H1 locs1 hP _ hS => kk H1 locs1 ⟨?_, hS⟩)
  subst hx1
  rwa [mm_wset hk5 (by rw [mm_e6 hk, mm_cy_same]) (fun a ha => mm_cy_ne ha)] at hP
theorem mm_minv {index : Nat} {u v : Int32} (C : mm_C p m c cc nL s args Ts own G T b z) (hls : nL = ls.size) (hlink : (Cond.methodLink own index Lib.Math.min.name).before args s = true) (hstat : (Cond.static Lib.Math.min.name).before args s = true) (hini : (Cond.initialized "java/lang/Math").before args s = true) (hcode : (Cond.code Lib.Math.min.name Lib.Math.min.code 2 (some .int)).before args s = true)
    (hframes : 1 ≤ R.frames) (hlocals : (rest.map fun v => v.category).sum + 13 ≤ R.locals) (hc : cells ≤ R.cells) (hs : slots ≤ R.slots) (hdg : decode cc pc = .ok (.invokestatic index, 3))
    (kk : W p l e R s m args below meth c H locs cells slots Q (F0 m (pc + 3) ls (.int (if v < u then v else u) :: rest))) : W p l e R s m args below meth c H locs cells slots Q (F0 m pc ls (.int v :: .int u :: rest)) :=
  va_mmin C.1 C.2.1 (C.2.2.1.trans hls) C.2.2.2.1 hlink hstat hini hcode hframes hlocals hc hs hdg kk
theorem mm_maxv {index : Nat} {u v : Int32} (C : mm_C p m c cc nL s args Ts own G T b z) (hls : nL = ls.size) (hlink : (Cond.methodLink own index Lib.Math.max.name).before args s = true) (hstat : (Cond.static Lib.Math.max.name).before args s = true) (hini : (Cond.initialized "java/lang/Math").before args s = true) (hcode : (Cond.code Lib.Math.max.name Lib.Math.max.code 2 (some .int)).before args s = true)
    (hframes : 1 ≤ R.frames) (hlocals : (rest.map fun v => v.category).sum + 13 ≤ R.locals) (hc : cells ≤ R.cells) (hs : slots ≤ R.slots) (hdg : decode cc pc = .ok (.invokestatic index, 3))
    (kk : W p l e R s m args below meth c H locs cells slots Q (F0 m (pc + 3) ls (.int (if u < v then v else u) :: rest))) : W p l e R s m args below meth c H locs cells slots Q (F0 m pc ls (.int v :: .int u :: rest)) :=
  va_mmax C.1 C.2.1 (C.2.2.1.trans hls) C.2.2.2.1 hlink hstat hini hcode hframes hlocals hc hs hdg kk
/-- a call's start: the cells as they are -/
theorem mm_pre (C : mm_C p m c cc nL s args Ts own G T b z) (hH : mm_H G T b x s H locs) {As : List Value} : ∀ U : State, U.heap = H → s.WarmedH U.vm → va_Pc As (mm_B G T b z x) As.toArray U := by
  intro U hU hW
  refine ⟨rfl, by rw [hU]; exact hH.1, va_K.moved hW.alike C.2.2.2.2.2.1, ?_, fun i hi => va_Nw.warmF hW (C.2.2.2.2.2.2.2 i hi)⟩
  have h1 : mm_Z b z U s.heap := mm_Z.moved hW.alike C.2.2.2.2.2.2.1
  exact h1.kept (fun a ha hb => by rw [hU]; exact hH.2.2.1 a ha hb)
theorem mm_gets {i index : Nat} (C : mm_C p m c cc nL s args Ts own G T b z) (ho : own = RX3) (hH : mm_H G T b x s H locs) (hi : i < 3) (hidx : mm_si i = index) (hdg : decode cc pc = .ok (.getstatic index, 3))
    (kk : W p l e R s m args below meth c H locs cells slots Q (F0 m (pc + 3) ls (.ref (z i) :: rest))) : W p l e R s m args below meth c H locs cells slots Q (F0 m pc ls rest) := by
  subst ho; subst hidx
  exact va_getsN C.1 C.2.1 (C.2.2.2.2.2.2.1 i hi).1 hH.2 C.2.2.2.1 (va_Nw.use rfl (C.2.2.2.2.2.2.2 i hi)) (fun _ h => h) hdg kk
theorem mm_sld {i : Nat} {j : Int32} (C : mm_C p m c cc nL s args Ts own G T b z) (hH : mm_H G T b x s H locs) (hi : i < 3) (hin : ¬ (j < 0 ∨ 7 ≤ j.toNatClampNeg)) (hdg : decode cc pc = .ok (.iaload, 1))
    (kk : W p l e R s m args below meth c H locs cells slots Q (F0 m (pc + 1) ls (.int (mm_st i j.toNatClampNeg) :: rest))) : W p l e R s m args below meth c H locs cells slots Q (F0 m pc ls (.int j :: .ref (z i) :: rest)) :=
  va_ti C.1 C.2.1 (C.2.2.2.2.2.2.1 i hi).2 hH.2 hin rfl hdg kk
theorem mm_recv {ci : Nat} {fs : List Value} {q : vw_C} (C : mm_C p m c cc nL s args Ts own G T b z) (hH : mm_H G T b x s H locs) (hk : k < 165) (he : mm_ent T b x k = .inr (ci, fs)) (hc : vwCl[ci]? = some q) : ∃ cell : Cell, H[b + k]? = some cell ∧ cell.vm.isStatics = false ∧ s.vm.findClass q.1 = some cell.cls :=
  va_recv C.2.2.2.2.2.1 hH.1 (q0 := k) hc ((mm_wat hk).trans (by rw [he]))
variable {y : MethodName} {ws : List Cond} {rm : Room} {bytes : ByteArray} {maxL n index : Nat} {ret : Option FieldType} {As st0 : List Value} {a : Array Value} {r : Int32}
theorem mm_goi (hH : mm_H G T b x s H locs) (hr : va_Run p l e R s m args below meth c H locs cells slots 0 0 (F0 m pc ls st0) rest (mm_Qi G T b r x1 a) (fun q => b ≤ q))
    (kk : ∀ (H1 : Heap) (locs1 : List Loc), mm_H G T b x1 s H1 locs1 → W p l e R s m args below meth c H1 locs1 cells slots Q (F0 m (pc + 3) ls (.int r :: rest))) : W p l e R s m args below meth c H locs cells slots Q (F0 m pc ls st0) := by
  refine va_calli hr hH.2 (fun q _ h => h) (fun q h => h) (fun r' u t H1 locs1 ht _ hp hB _ _ hS => ?_)
  have hp : r' = r := hp
  subst hp; subst ht
  exact kk t.heap locs1 ⟨hB, hS⟩
theorem mm_gov (hH : mm_H G T b x s H locs) (hr : va_Run p l e R s m args below meth c H locs cells slots 0 0 (F0 m pc ls st0) rest (mm_Qv G T b x1 a) (fun q => b ≤ q))
    (kk : ∀ (H1 : Heap) (locs1 : List Loc), mm_H G T b x1 s H1 locs1 → W p l e R s m args below meth c H1 locs1 cells slots Q (F0 m (pc + 3) ls rest)) : W p l e R s m args below meth c H locs cells slots Q (F0 m pc ls st0) := by
  refine va_callv hr hH.2 (fun q _ h => h) (fun q h => h) (fun u t H1 locs1 ht _ _ hB _ _ hS => ?_)
  subst ht
  exact kk t.heap locs1 ⟨hB, hS⟩
theorem mm_goe {r : Option Nat} (hH : mm_H G T b x s H locs) (hr : va_Run p l e R s m args below meth c H locs cells slots 0 0 (F0 m pc ls st0) rest (mm_Qe G T b r x1 a) (fun q => b ≤ q))
    (kk : ∀ (H1 : Heap) (locs1 : List Loc), mm_H G T b x1 s H1 locs1 → W p l e R s m args below meth c H1 locs1 cells slots Q (F0 m (pc + 3) ls (va_re (fun k => b + k) r :: rest))) : W p l e R s m args below meth c H locs cells slots Q (F0 m pc ls st0) := by
  refine va_calle hr hH.2 (fun q _ h => h) (fun q h => h) (fun r' u t H1 locs1 ht _ hp hB _ _ hS => ?_)
  have hp : r' = r := hp
  subst hp; subst ht
  exact kk t.heap locs1 ⟨hB, hS⟩
theorem mm_iret {rt : FieldType} {v : Int32} {av : Array Value} (C : mm_C p m c cc nL s av Ts own G T b z) (hH : mm_H G T b x s H locs) (hr : meth.sig.returnType = some rt) (hlk : meth.locks = false) (hn : narrow rt (.int v) = .int v) (h : (some (x, v) : Option (mm_M × Int32)) = some (x1, r)) (hdg : decode cc pc = .ok (.ireturn, 1)) :
    W p l e R s m av below meth c H locs cells slots (MQ below (mm_Qi G T b r x1) av s cells slots (fun q => b ≤ q)) (F0 m pc ls [.int v]) := by
  have e := Option.some.inj h
  have e1 : x = x1 := congrArg Prod.fst e
  have e2 : v = r := congrArg Prod.snd e
  subst e1; subst e2
  exact W.zret C.1 C.2.1 hr hn (fun t ht _ => ⟨⟨v, (), rfl, rfl, by subst ht; exact hH.1⟩, hH.2.F ht⟩) hH.2.2.2 hdg hlk
theorem mm_vret {av : Array Value} (C : mm_C p m c cc nL s av Ts own G T b z) (hH : mm_H G T b x s H locs) (hr : meth.sig.returnType = none) (hlk : meth.locks = false) (h : (some x : Option mm_M) = some x1) (hdg : decode cc pc = .ok (.return_, 1)) :
    W p l e R s m av below meth c H locs cells slots (MQ below (mm_Qv G T b x1) av s cells slots (fun q => b ≤ q)) (F0 m pc ls []) := by
  have e1 := Option.some.inj h
  subst e1
  exact W.vret C.1 C.2.1 hr (fun t ht _ => ⟨⟨(), rfl, trivial, by subst ht; exact hH.1⟩, hH.2.F ht⟩) hH.2.2.2 hdg hlk
theorem mm_eret {rt : FieldType} {o : Option Nat} {r : Option Nat} {v : Value} {av : Array Value} (C : mm_C p m c cc nL s av Ts own G T b z) (hH : mm_H G T b x s H locs) (hr : meth.sig.returnType = some rt) (hrt : (∃ n, rt = .object n) ∨ ∃ t, rt = .array t) (hlk : meth.locks = false) (hv : v = va_re (fun k => b + k) o) (h : (some (x, o) : Option (mm_M × Option Nat)) = some (x1, r)) (hdg : decode cc pc = .ok (.areturn, 1)) :
    W p l e R s m av below meth c H locs cells slots (MQ below (mm_Qe G T b r x1) av s cells slots (fun q => b ≤ q)) (F0 m pc ls [v]) := by
  have e := Option.some.inj h
  have e1 : x = x1 := congrArg Prod.fst e
  have e2 : o = r := congrArg Prod.snd e
  subst e1; subst e2; subst hv
  exact W.aret C.1 C.2.1 hr hrt (va_re_or _ _) (fun t ht _ => ⟨⟨o, (), rfl, rfl, by subst ht; exact hH.1⟩, hH.2.F ht⟩) hH.2.2.2 hdg hlk
end MMW
section MMS
variable {l : Launch} {y : MethodName} {ws ws' : List Cond} {rm : Room} {cc : ByteArray} {maxL : Nat} {rt : FieldType} {av : List Value} {x x1 : mm_M} {G : va_G} {T : Nat → ClassId} {b : Nat} {z : Nat → Nat}
theorem mm_start {ret : Option FieldType} {Qc : Array Value → State → Outcome → State → Prop} (hy : plainName y.cls = true) (hw : ws = .code y cc maxL ret :: ws') (hav : (lg_sl av).length ≤ maxL)
    (body : ∀ (p : Program) (e : Env) (s : State) (m : MethodId) (below : List Frame) (meth : Method) (c : Code) (ls : Array Slot), mm_C p m c cc maxL s av.toArray ws y.cls G T b z → meth.sig.returnType = ret → meth.locks = false → mm_H G T b x s s.heap [] → lv_has ls maxL (lv_args 0 av) → W p l e rm s m av.toArray below meth c s.heap [] 0 0 (MQ below Qc av.toArray s 0 0 (fun q => b ≤ q)) (F0 m 0 ls [])) :
    Met l y ws rm (va_Pc av (mm_B G T b z x)) Qc 0 0 (fun q => b ≤ q) := by
  refine Met.ofW (cc := cc) (maxL := maxL) (ret := ret) hy hw ?_
  intro p e s m args below meth c s₁ B hml hv
  obtain ⟨rfl, hP, hK, hZ, hN⟩ := hv
  have hts := atoms_spec (ws := ws) B.pre
  have hown : s.vm.findClass y.cls = some m.cls := findClass_of_methodNamed B.named
  rw [lg_entry_eq]
  exact body p e s m below meth c _ ⟨B.exec, B.bytes, hml, hown, hts, hK, hZ, hN⟩ B.returns B.notSynchronized ⟨hP, va_S.rf⟩ (lv_entry av hav)
end MMS
end
section
theorem kd_0 : mm_kd 0 = 4 := by decide
theorem kl_0 : 0 < 165 := by decide
theorem kd_1 : mm_kd 1 = 3 := by decide
theorem kl_1 : 1 < 165 := by decide
theorem kd_2 : mm_kd 2 = 6 := by decide
theorem kl_2 : 2 < 165 := by decide
theorem kd_3 : mm_kd 3 = 9 := by decide
theorem kl_3 : 3 < 165 := by decide
theorem kd_4 : mm_kd 4 = 0 := by decide
theorem kl_4 : 4 < 165 := by decide
theorem kd_5 : mm_kd 5 = 6 := by decide
theorem kl_5 : 5 < 165 := by decide
theorem kd_6 : mm_kd 6 = 6 := by decide
theorem kl_6 : 6 < 165 := by decide
theorem kd_7 : mm_kd 7 = 6 := by decide
theorem kl_7 : 7 < 165 := by decide
theorem kd_16 : mm_kd 16 = 10 := by decide
theorem kl_16 : 16 < 165 := by decide
theorem kd_17 : mm_kd 17 = 11 := by decide
theorem kl_17 : 17 < 165 := by decide
theorem kd_18 : mm_kd 18 = 8 := by decide
theorem kl_18 : 18 < 165 := by decide
theorem kd_19 : mm_kd 19 = 2 := by decide
theorem kl_19 : 19 < 165 := by decide
theorem kd_20 : mm_kd 20 = 7 := by decide
theorem kl_20 : 20 < 165 := by decide
theorem kd_21 : mm_kd 21 = 1 := by decide
theorem kl_21 : 21 < 165 := by decide
theorem kd_157 : mm_kd 157 = 5 := by decide
theorem kl_157 : 157 < 165 := by decide
theorem kd_158 : mm_kd 158 = 6 := by decide
theorem kl_158 : 158 < 165 := by decide
theorem kd_159 : mm_kd 159 = 6 := by decide
theorem kl_159 : 159 < 165 := by decide
theorem kd_160 : mm_kd 160 = 6 := by decide
theorem kl_160 : 160 < 165 := by decide
theorem kd_161 : mm_kd 161 = 6 := by decide
theorem kl_161 : 161 < 165 := by decide
theorem kd_162 : mm_kd 162 = 8 := by decide
theorem kl_162 : 162 < 165 := by decide
theorem kd_163 : mm_kd 163 = 6 := by decide
theorem kl_163 : 163 < 165 := by decide
theorem kd_164 : mm_kd 164 = 6 := by decide
theorem kl_164 : 164 < 165 := by decide
theorem ln_158 : mm_ln 158 = 135 := by decide
theorem ln_159 : mm_ln 159 = 810 := by decide
theorem ln_160 : mm_ln 160 = 135 := by decide
theorem ln_161 : mm_ln 161 = 270 := by decide
theorem ln_162 : mm_ln 162 = 2 := by decide
theorem ln_163 : mm_ln 163 = 80 := by decide
theorem ln_164 : mm_ln 164 = 8 := by decide
theorem ln_18 : mm_ln 18 = 2 := by decide
theorem ln_20 : mm_ln 20 = 80 := by decide
theorem ln_2 : mm_ln 2 = 7 := by decide
theorem ln_5 : mm_ln 5 = 20 := by decide
theorem ln_6 : mm_ln 6 = 20 := by decide
theorem ln_7 : mm_ln 7 = 20 := by decide
theorem pd_I : parseFieldDescriptor "I" = some .int := by decide +kernel
theorem pd_Z : parseFieldDescriptor "Z" = some .boolean := by decide +kernel
theorem pd_C : parseFieldDescriptor "C" = some .char := by decide +kernel
theorem sp_0_3 {T : Nat → ClassId} {b : Nat} {x : mm_M} {k : Nat} {v : Int32} (h : mm_kd k = 0) : (.inr (0, ([.ref (b + (k + 1)), .ref (b + (k + 2)), .ref (b + (k + 3)), .int (x k 3), .int (x k 4)] : List Value).set 3 (.int v)) : va_E) = mm_ent T b (mm_up x k 3 v) k := by rw [mm_e0 h, mm_up_same]; rfl
theorem sp_0_4 {T : Nat → ClassId} {b : Nat} {x : mm_M} {k : Nat} {v : Int32} (h : mm_kd k = 0) : (.inr (0, ([.ref (b + (k + 1)), .ref (b + (k + 2)), .ref (b + (k + 3)), .int (x k 3), .int (x k 4)] : List Value).set 4 (.int v)) : va_E) = mm_ent T b (mm_up x k 4 v) k := by rw [mm_e0 h, mm_up_same]; rfl
theorem sp_1_0 {T : Nat → ClassId} {b : Nat} {x : mm_M} {k : Nat} {v : Int32} (h : mm_kd k = 1) : (.inr (1, ([.int (x k 0), .int (x k 1), .int (x k 2), .int (x k 3), .int (x k 4), .int (x k 5), .int (x k 6), .int (x k 7)] : List Value).set 0 (.int v)) : va_E) = mm_ent T b (mm_up x k 0 v) k := by rw [mm_e1 h, mm_up_same]; rfl
theorem sp_1_1 {T : Nat → ClassId} {b : Nat} {x : mm_M} {k : Nat} {v : Int32} (h : mm_kd k = 1) : (.inr (1, ([.int (x k 0), .int (x k 1), .int (x k 2), .int (x k 3), .int (x k 4), .int (x k 5), .int (x k 6), .int (x k 7)] : List Value).set 1 (.int v)) : va_E) = mm_ent T b (mm_up x k 1 v) k := by rw [mm_e1 h, mm_up_same]; rfl
theorem sp_1_2 {T : Nat → ClassId} {b : Nat} {x : mm_M} {k : Nat} {v : Int32} (h : mm_kd k = 1) : (.inr (1, ([.int (x k 0), .int (x k 1), .int (x k 2), .int (x k 3), .int (x k 4), .int (x k 5), .int (x k 6), .int (x k 7)] : List Value).set 2 (.int v)) : va_E) = mm_ent T b (mm_up x k 2 v) k := by rw [mm_e1 h, mm_up_same]; rfl
theorem sp_1_3 {T : Nat → ClassId} {b : Nat} {x : mm_M} {k : Nat} {v : Int32} (h : mm_kd k = 1) : (.inr (1, ([.int (x k 0), .int (x k 1), .int (x k 2), .int (x k 3), .int (x k 4), .int (x k 5), .int (x k 6), .int (x k 7)] : List Value).set 3 (.int v)) : va_E) = mm_ent T b (mm_up x k 3 v) k := by rw [mm_e1 h, mm_up_same]; rfl
theorem sp_1_4 {T : Nat → ClassId} {b : Nat} {x : mm_M} {k : Nat} {v : Int32} (h : mm_kd k = 1) : (.inr (1, ([.int (x k 0), .int (x k 1), .int (x k 2), .int (x k 3), .int (x k 4), .int (x k 5), .int (x k 6), .int (x k 7)] : List Value).set 4 (.int v)) : va_E) = mm_ent T b (mm_up x k 4 v) k := by rw [mm_e1 h, mm_up_same]; rfl
theorem sp_1_5 {T : Nat → ClassId} {b : Nat} {x : mm_M} {k : Nat} {v : Int32} (h : mm_kd k = 1) : (.inr (1, ([.int (x k 0), .int (x k 1), .int (x k 2), .int (x k 3), .int (x k 4), .int (x k 5), .int (x k 6), .int (x k 7)] : List Value).set 5 (.int v)) : va_E) = mm_ent T b (mm_up x k 5 v) k := by rw [mm_e1 h, mm_up_same]; rfl
theorem sp_1_6 {T : Nat → ClassId} {b : Nat} {x : mm_M} {k : Nat} {v : Int32} (h : mm_kd k = 1) : (.inr (1, ([.int (x k 0), .int (x k 1), .int (x k 2), .int (x k 3), .int (x k 4), .int (x k 5), .int (x k 6), .int (x k 7)] : List Value).set 6 (.int v)) : va_E) = mm_ent T b (mm_up x k 6 v) k := by rw [mm_e1 h, mm_up_same]; rfl
theorem sp_1_7 {T : Nat → ClassId} {b : Nat} {x : mm_M} {k : Nat} {v : Int32} (h : mm_kd k = 1) : (.inr (1, ([.int (x k 0), .int (x k 1), .int (x k 2), .int (x k 3), .int (x k 4), .int (x k 5), .int (x k 6), .int (x k 7)] : List Value).set 7 (.int v)) : va_E) = mm_ent T b (mm_up x k 7 v) k := by rw [mm_e1 h, mm_up_same]; rfl
theorem sp_2_1 {T : Nat → ClassId} {b : Nat} {x : mm_M} {k : Nat} {v : Int32} (h : mm_kd k = 2) : (.inr (2, ([.ref (b + (k + 1)), .int (x k 1), .int (x k 2), .int (x k 3), .int (x k 4), .int (x k 5)] : List Value).set 1 (.int v)) : va_E) = mm_ent T b (mm_up x k 1 v) k := by rw [mm_e2 h, mm_up_same]; rfl
theorem sp_2_2 {T : Nat → ClassId} {b : Nat} {x : mm_M} {k : Nat} {v : Int32} (h : mm_kd k = 2) : (.inr (2, ([.ref (b + (k + 1)), .int (x k 1), .int (x k 2), .int (x k 3), .int (x k 4), .int (x k 5)] : List Value).set 2 (.int v)) : va_E) = mm_ent T b (mm_up x k 2 v) k := by rw [mm_e2 h, mm_up_same]; rfl
theorem sp_2_3 {T : Nat → ClassId} {b : Nat} {x : mm_M} {k : Nat} {v : Int32} (h : mm_kd k = 2) : (.inr (2, ([.ref (b + (k + 1)), .int (x k 1), .int (x k 2), .int (x k 3), .int (x k 4), .int (x k 5)] : List Value).set 3 (.int v)) : va_E) = mm_ent T b (mm_up x k 3 v) k := by rw [mm_e2 h, mm_up_same]; rfl
theorem sp_2_4 {T : Nat → ClassId} {b : Nat} {x : mm_M} {k : Nat} {v : Int32} (h : mm_kd k = 2) : (.inr (2, ([.ref (b + (k + 1)), .int (x k 1), .int (x k 2), .int (x k 3), .int (x k 4), .int (x k 5)] : List Value).set 4 (.int v)) : va_E) = mm_ent T b (mm_up x k 4 v) k := by rw [mm_e2 h, mm_up_same]; rfl
theorem sp_2_5 {T : Nat → ClassId} {b : Nat} {x : mm_M} {k : Nat} {v : Int32} (h : mm_kd k = 2) : (.inr (2, ([.ref (b + (k + 1)), .int (x k 1), .int (x k 2), .int (x k 3), .int (x k 4), .int (x k 5)] : List Value).set 5 (.int v)) : va_E) = mm_ent T b (mm_up x k 5 v) k := by rw [mm_e2 h, mm_up_same]; rfl
theorem sp_3_2 {T : Nat → ClassId} {b : Nat} {x : mm_M} {k : Nat} {v : Int32} (h : mm_kd k = 3) : (.inr (3, ([.ref (b + (k + 1)), .ref (b + (k + 2)), .int (x k 2), .int (x k 3), .int (x k 4), .int (x k 5), .ref (b + (k + 3))] : List Value).set 2 (.int v)) : va_E) = mm_ent T b (mm_up x k 2 v) k := by rw [mm_e3 h, mm_up_same]; rfl
theorem sp_3_3 {T : Nat → ClassId} {b : Nat} {x : mm_M} {k : Nat} {v : Int32} (h : mm_kd k = 3) : (.inr (3, ([.ref (b + (k + 1)), .ref (b + (k + 2)), .int (x k 2), .int (x k 3), .int (x k 4), .int (x k 5), .ref (b + (k + 3))] : List Value).set 3 (.int v)) : va_E) = mm_ent T b (mm_up x k 3 v) k := by rw [mm_e3 h, mm_up_same]; rfl
theorem sp_3_4 {T : Nat → ClassId} {b : Nat} {x : mm_M} {k : Nat} {v : Int32} (h : mm_kd k = 3) : (.inr (3, ([.ref (b + (k + 1)), .ref (b + (k + 2)), .int (x k 2), .int (x k 3), .int (x k 4), .int (x k 5), .ref (b + (k + 3))] : List Value).set 4 (.int v)) : va_E) = mm_ent T b (mm_up x k 4 v) k := by rw [mm_e3 h, mm_up_same]; rfl
theorem sp_3_5 {T : Nat → ClassId} {b : Nat} {x : mm_M} {k : Nat} {v : Int32} (h : mm_kd k = 3) : (.inr (3, ([.ref (b + (k + 1)), .ref (b + (k + 2)), .int (x k 2), .int (x k 3), .int (x k 4), .int (x k 5), .ref (b + (k + 3))] : List Value).set 5 (.int v)) : va_E) = mm_ent T b (mm_up x k 5 v) k := by rw [mm_e3 h, mm_up_same]; rfl
theorem sp_4_2 {T : Nat → ClassId} {b : Nat} {x : mm_M} {k : Nat} {v : Int32} (h : mm_kd k = 4) : (.inr (4, ([.ref (b + 1), .ref (b + 16), .int (x k 2), .ref (b + 17), .ref (b + 18), .ref (b + 19), .ref (b + 21)] : List Value).set 2 (.int v)) : va_E) = mm_ent T b (mm_up x k 2 v) k := by rw [mm_e4 h, mm_up_same]; rfl
theorem sp_5_5 {T : Nat → ClassId} {b : Nat} {x : mm_M} {k : Nat} {v : Int32} (h : mm_kd k = 5) : (.inr (5, ([.ref (b + 158), .ref (b + 159), .ref (b + 160), .ref (b + 161), .ref (b + 162), .int (x k 5), .ref (b + 163), .int (x k 7), .int (x k 8), .ref (b + 164), .int (x k 10), .int (x k 11), .int (x k 12), .int (x k 13)] : List Value).set 5 (.int v)) : va_E) = mm_ent T b (mm_up x k 5 v) k := by rw [mm_e5 h, mm_up_same]; rfl
theorem sp_5_7 {T : Nat → ClassId} {b : Nat} {x : mm_M} {k : Nat} {v : Int32} (h : mm_kd k = 5) : (.inr (5, ([.ref (b + 158), .ref (b + 159), .ref (b + 160), .ref (b + 161), .ref (b + 162), .int (x k 5), .ref (b + 163), .int (x k 7), .int (x k 8), .ref (b + 164), .int (x k 10), .int (x k 11), .int (x k 12), .int (x k 13)] : List Value).set 7 (.int v)) : va_E) = mm_ent T b (mm_up x k 7 v) k := by rw [mm_e5 h, mm_up_same]; rfl
theorem sp_5_8 {T : Nat → ClassId} {b : Nat} {x : mm_M} {k : Nat} {v : Int32} (h : mm_kd k = 5) : (.inr (5, ([.ref (b + 158), .ref (b + 159), .ref (b + 160), .ref (b + 161), .ref (b + 162), .int (x k 5), .ref (b + 163), .int (x k 7), .int (x k 8), .ref (b + 164), .int (x k 10), .int (x k 11), .int (x k 12), .int (x k 13)] : List Value).set 8 (.int v)) : va_E) = mm_ent T b (mm_up x k 8 v) k := by rw [mm_e5 h, mm_up_same]; rfl
theorem sp_5_10 {T : Nat → ClassId} {b : Nat} {x : mm_M} {k : Nat} {v : Int32} (h : mm_kd k = 5) : (.inr (5, ([.ref (b + 158), .ref (b + 159), .ref (b + 160), .ref (b + 161), .ref (b + 162), .int (x k 5), .ref (b + 163), .int (x k 7), .int (x k 8), .ref (b + 164), .int (x k 10), .int (x k 11), .int (x k 12), .int (x k 13)] : List Value).set 10 (.int v)) : va_E) = mm_ent T b (mm_up x k 10 v) k := by rw [mm_e5 h, mm_up_same]; rfl
theorem sp_5_11 {T : Nat → ClassId} {b : Nat} {x : mm_M} {k : Nat} {v : Int32} (h : mm_kd k = 5) : (.inr (5, ([.ref (b + 158), .ref (b + 159), .ref (b + 160), .ref (b + 161), .ref (b + 162), .int (x k 5), .ref (b + 163), .int (x k 7), .int (x k 8), .ref (b + 164), .int (x k 10), .int (x k 11), .int (x k 12), .int (x k 13)] : List Value).set 11 (.int v)) : va_E) = mm_ent T b (mm_up x k 11 v) k := by rw [mm_e5 h, mm_up_same]; rfl
theorem sp_5_12 {T : Nat → ClassId} {b : Nat} {x : mm_M} {k : Nat} {v : Int32} (h : mm_kd k = 5) : (.inr (5, ([.ref (b + 158), .ref (b + 159), .ref (b + 160), .ref (b + 161), .ref (b + 162), .int (x k 5), .ref (b + 163), .int (x k 7), .int (x k 8), .ref (b + 164), .int (x k 10), .int (x k 11), .int (x k 12), .int (x k 13)] : List Value).set 12 (.int v)) : va_E) = mm_ent T b (mm_up x k 12 v) k := by rw [mm_e5 h, mm_up_same]; rfl
theorem sp_5_13 {T : Nat → ClassId} {b : Nat} {x : mm_M} {k : Nat} {v : Int32} (h : mm_kd k = 5) : (.inr (5, ([.ref (b + 158), .ref (b + 159), .ref (b + 160), .ref (b + 161), .ref (b + 162), .int (x k 5), .ref (b + 163), .int (x k 7), .int (x k 8), .ref (b + 164), .int (x k 10), .int (x k 11), .int (x k 12), .int (x k 13)] : List Value).set 13 (.int v)) : va_E) = mm_ent T b (mm_up x k 13 v) k := by rw [mm_e5 h, mm_up_same]; rfl
def mm_b2 {α β γ : Type} (o : Option (α × β)) (f : α → β → Option γ) : Option γ := o.bind fun q => f q.1 q.2
def mm_b3 {α β γ δ : Type} (o : Option (α × β × γ)) (f : α → β → γ → Option δ) : Option δ := o.bind fun q => f q.1 q.2.1 q.2.2
theorem mm_bnd2 {α β γ : Type} {o : Option (α × β)} {f : α → β → Option γ} {r : γ} (h : mm_b2 o f = some r) : ∃ a c, o = some (a, c) ∧ f a c = some r := by
  obtain ⟨⟨a, c⟩, e, h⟩ := mm_bnd h
  exact ⟨a, c, e, h⟩
theorem mm_bnd3 {α β γ δ : Type} {o : Option (α × β × γ)} {f : α → β → γ → Option δ} {r : δ} (h : mm_b3 o f = some r) : ∃ a c d, o = some (a, c, d) ∧ f a c d = some r := by
  obtain ⟨⟨a, c, d⟩, e, h⟩ := mm_bnd h
  exact ⟨a, c, d, e, h⟩
/-- a cell or null -/
def mm_oc {α : Type} (o : Option Nat) (t : Option α) (f : Nat → Option α) : Option α := match o with
  | none => t
  | some k => f k
theorem mm_oc0 {α : Type} {t : Option α} {f : Nat → Option α} {r : Option α} (h : mm_oc none t f = r) : t = r := h
theorem mm_oc1 {α : Type} {k : Nat} {t : Option α} {f : Nat → Option α} {r : Option α} (h : mm_oc (some k) t f = r) : f k = r := h
theorem mm_narZ {v : Int32} (h : vp_nar .boolean v = v) : narrow .boolean (.int v) = .int v := by
  have e : narrow .boolean (.int v) = .int (vp_nar .boolean v) := rfl
  rw [e, h]
theorem mm_narC {v : Int32} (h : vp_nar .char v = v) : narrow .char (.int v) = .int v := by
  have e : narrow .char (.int v) = .int (vp_nar .char v) := rfl
  rw [e, h]
theorem mm_fitZ {v : Int32} (h : vp_nar .boolean v = v) : fits .boolean (.int v) = true := by
  have e := fits_narrow_boolean v
  rwa [mm_narZ h] at e
theorem mm_fitC {v : Int32} (h : vp_nar .char v = v) : fits .char (.int v) = true := by
  have e := fits_narrow_char v
  rwa [mm_narC h] at e
theorem mm_tn {v k : Int32} {a : Int} (h : ¬ v = k) (hk : k.toInt = a) : v.toInt ≠ a := fun q => h (Int32.toInt_inj.mp (q.trans hk.symm))
theorem mm_lt8 {i : Int32} (h : ¬ (i < 0 ∨ 8 ≤ i.toNatClampNeg)) : i.toNatClampNeg < 8 := Nat.lt_of_not_le fun q => h (Or.inr q)
theorem mm_ldc {i : Int32} (h : ¬ (i < 0 ∨ 8 ≤ i.toNatClampNeg)) : mm_kd (3 + 5 + i.toNatClampNeg) = 1 := by
  have key : ∀ j, j < 8 → mm_kd (3 + 5 + j) = 1 := by decide
  exact key _ (mm_lt8 h)
theorem mm_ldr {k : Nat} {i : Int32} (hk : mm_kd k = 3) (h : ¬ (i < 0 ∨ 8 ≤ i.toNatClampNeg)) : mm_kd ((k + 2) + 5 + i.toNatClampNeg) = 1 := by
  have key : ∀ k, k < 165 → mm_kd k = 3 → ∀ j, j < 8 → mm_kd (k + 2 + 5 + j) = 1 := by decide +kernel
  exact key k (mm_lt hk (by decide)) hk _ (mm_lt8 h)
theorem mm_lds {i : Int32} (h : ¬ (i < 0 ∨ 2 ≤ i.toNatClampNeg)) : mm_kd (127 + 15 * i.toNatClampNeg) = 3 := by
  have key : ∀ j, j < 2 → mm_kd (127 + 15 * j) = 3 := by decide
  exact key _ (Nat.lt_of_not_le fun q => h (Or.inr q))
section MMX
variable {p : Program} {l : Launch} {e : Env} {R : Room} {s : State} {m : MethodId} {args : Array Value} {below : List Frame} {meth : Method} {c : Code} {H : Heap} {locs : List Loc} {cells slots : Nat} {Q : State → Prop}
variable {cc : ByteArray} {pc nL : Nat} {ls : Array Slot} {rest : List Value} {Ts : List Cond} {own : String} {G : va_G} {T : Nat → ClassId} {b : Nat} {z : Nat → Nat} {x x1 : mm_M} {k : Nat}
theorem mm_nmi {t v : Int32} (h : (some t : Option Int32) = some v) (kk : W p l e R s m args below meth c H locs cells slots Q (F0 m pc ls (.int v :: rest))) : W p l e R s m args below meth c H locs cells slots Q (F0 m pc ls (.int t :: rest)) := by cases h; exact kk
theorem mm_nml {t v : Int64} (h : (some t : Option Int64) = some v) (kk : W p l e R s m args below meth c H locs cells slots Q (F0 m pc ls (.long v :: rest))) : W p l e R s m args below meth c H locs cells slots Q (F0 m pc ls (.long t :: rest)) := by cases h; exact kk
theorem mm_tabD {dflt lo hi : Int} {offs : Array Int} {len : Nat} {v : Int32} {tgt : Nat} (hexec : p.tables.exec = Jvm.exec) (hb : c.code = cc) (hdg : decode cc pc = .ok (.tableswitch dflt lo hi offs, len)) (ho : ¬ v.toInt < lo → ¬ hi < v.toInt → offs[(v.toInt - lo).toNat]? = some dflt) (ht : (pc : Int) + dflt = (tgt : Int))
    (kk : W p l e R s m args below meth c H locs cells slots Q (F0 m tgt ls rest)) : W p l e R s m args below meth c H locs cells slots Q (F0 m pc ls (.int v :: rest)) := by
  by_cases h1 : v.toInt < lo
  · exact lv_tableOut hexec hb hdg (Or.inl h1) ht kk
  · by_cases h2 : hi < v.toInt
    · exact lv_tableOut hexec hb hdg (Or.inr h2) ht kk
    · exact lv_tableIn hexec hb hdg h1 h2 (ho h1 h2) ht kk
theorem mm_nul (kk : W p l e R s m args below meth c H locs cells slots Q (F0 m pc ls (.null :: rest))) : W p l e R s m args below meth c H locs cells slots Q (F0 m pc ls (va_re (fun k => b + k) none :: rest)) := kk
theorem mm_nun (kk : W p l e R s m args below meth c H locs cells slots Q (F0 m pc ls (.ref (b + k) :: rest))) : W p l e R s m args below meth c H locs cells slots Q (F0 m pc ls (va_re (fun k => b + k) (some k) :: rest)) := kk
theorem mm_iretP {rt : FieldType} {v r : Int32} {av : Array Value} (C : mm_C p m c cc nL s av Ts own G T b z) (hH : mm_H G T b x s H locs) (hr : meth.sig.returnType = some rt) (hlk : meth.locks = false) (hn : narrow rt (.int v) = .int v) (h : (some v : Option Int32) = some r) (hdg : decode cc pc = .ok (.ireturn, 1)) :
    W p l e R s m av below meth c H locs cells slots (MQ below (mm_Qi G T b r x) av s cells slots (fun q => b ≤ q)) (F0 m pc ls [.int v]) := mm_iret C hH hr hlk hn (by cases h; rfl) hdg
theorem mm_eretP {rt : FieldType} {o r : Option Nat} {v : Value} {av : Array Value} (C : mm_C p m c cc nL s av Ts own G T b z) (hH : mm_H G T b x s H locs) (hr : meth.sig.returnType = some rt) (hrt : (∃ n, rt = .object n) ∨ ∃ t, rt = .array t) (hlk : meth.locks = false) (hv : v = va_re (fun k => b + k) o) (h : (some o : Option (Option Nat)) = some r) (hdg : decode cc pc = .ok (.areturn, 1)) :
    W p l e R s m av below meth c H locs cells slots (MQ below (mm_Qe G T b r x) av s cells slots (fun q => b ≤ q)) (F0 m pc ls [v]) := mm_eret C hH hr hrt hlk hv (by cases h; rfl) hdg
end MMX
end
section
theorem dX0_init_0 : decode cX0_init 0 = .ok (.aload_n 0, 1) := by decide +kernel
theorem dX0_init_1 : decode cX0_init 1 = .ok (.invokespecial 3, 3) := by decide +kernel
theorem dX0_init_4 : decode cX0_init 4 = .ok (.aload_n 0, 1) := by decide +kernel
theorem dX0_init_5 : decode cX0_init 5 = .ok (.bipush 20, 2) := by decide +kernel
theorem dX0_init_7 : decode cX0_init 7 = .ok (.newarray .int, 2) := by decide +kernel
theorem dX0_init_9 : decode cX0_init 9 = .ok (.putfield 9, 3) := by decide +kernel
theorem dX0_init_12 : decode cX0_init 12 = .ok (.aload_n 0, 1) := by decide +kernel
theorem dX0_init_13 : decode cX0_init 13 = .ok (.bipush 20, 2) := by decide +kernel
theorem dX0_init_15 : decode cX0_init 15 = .ok (.newarray .int, 2) := by decide +kernel
theorem dX0_init_17 : decode cX0_init 17 = .ok (.putfield 15, 3) := by decide +kernel
theorem dX0_init_20 : decode cX0_init 20 = .ok (.aload_n 0, 1) := by decide +kernel
theorem dX0_init_21 : decode cX0_init 21 = .ok (.bipush 20, 2) := by decide +kernel
theorem dX0_init_23 : decode cX0_init 23 = .ok (.newarray .int, 2) := by decide +kernel
theorem dX0_init_25 : decode cX0_init 25 = .ok (.putfield 18, 3) := by decide +kernel
theorem dX0_init_28 : decode cX0_init 28 = .ok (.aload_n 0, 1) := by decide +kernel
theorem dX0_init_29 : decode cX0_init 29 = .ok (.iconst 0, 1) := by decide +kernel
theorem dX0_init_30 : decode cX0_init 30 = .ok (.putfield 21, 3) := by decide +kernel
theorem dX0_init_33 : decode cX0_init 33 = .ok (.aload_n 0, 1) := by decide +kernel
theorem dX0_init_34 : decode cX0_init 34 = .ok (.iconst 0, 1) := by decide +kernel
theorem dX0_init_35 : decode cX0_init 35 = .ok (.putfield 25, 3) := by decide +kernel
theorem dX0_init_38 : decode cX0_init 38 = .ok (.return_, 1) := by decide +kernel
theorem dX0_add_0 : decode cX0_add 0 = .ok (.aload_n 0, 1) := by decide +kernel
theorem dX0_add_1 : decode cX0_add 1 = .ok (.getfield 9, 3) := by decide +kernel
theorem dX0_add_4 : decode cX0_add 4 = .ok (.aload_n 0, 1) := by decide +kernel
theorem dX0_add_5 : decode cX0_add 5 = .ok (.getfield 25, 3) := by decide +kernel
theorem dX0_add_8 : decode cX0_add 8 = .ok (.iload_n 1, 1) := by decide +kernel
theorem dX0_add_9 : decode cX0_add 9 = .ok (.iastore, 1) := by decide +kernel
theorem dX0_add_10 : decode cX0_add 10 = .ok (.aload_n 0, 1) := by decide +kernel
theorem dX0_add_11 : decode cX0_add 11 = .ok (.getfield 15, 3) := by decide +kernel
theorem dX0_add_14 : decode cX0_add 14 = .ok (.aload_n 0, 1) := by decide +kernel
theorem dX0_add_15 : decode cX0_add 15 = .ok (.getfield 25, 3) := by decide +kernel
theorem dX0_add_18 : decode cX0_add 18 = .ok (.iload_n 2, 1) := by decide +kernel
theorem dX0_add_19 : decode cX0_add 19 = .ok (.iastore, 1) := by decide +kernel
theorem dX0_add_20 : decode cX0_add 20 = .ok (.aload_n 0, 1) := by decide +kernel
theorem dX0_add_21 : decode cX0_add 21 = .ok (.getfield 18, 3) := by decide +kernel
theorem dX0_add_24 : decode cX0_add 24 = .ok (.aload_n 0, 1) := by decide +kernel
theorem dX0_add_25 : decode cX0_add 25 = .ok (.getfield 25, 3) := by decide +kernel
theorem dX0_add_28 : decode cX0_add 28 = .ok (.iload_n 3, 1) := by decide +kernel
theorem dX0_add_29 : decode cX0_add 29 = .ok (.iastore, 1) := by decide +kernel
theorem dX0_add_30 : decode cX0_add 30 = .ok (.aload_n 0, 1) := by decide +kernel
theorem dX0_add_31 : decode cX0_add 31 = .ok (.aload_n 0, 1) := by decide +kernel
theorem dX0_add_32 : decode cX0_add 32 = .ok (.getfield 25, 3) := by decide +kernel
theorem dX0_add_35 : decode cX0_add 35 = .ok (.iconst 1, 1) := by decide +kernel
theorem dX0_add_36 : decode cX0_add 36 = .ok (.iadd, 1) := by decide +kernel
theorem dX0_add_37 : decode cX0_add 37 = .ok (.bipush 20, 2) := by decide +kernel
theorem dX0_add_39 : decode cX0_add 39 = .ok (.if_icmp .ge 12, 3) := by decide +kernel
theorem dX0_add_42 : decode cX0_add 42 = .ok (.aload_n 0, 1) := by decide +kernel
theorem dX0_add_43 : decode cX0_add 43 = .ok (.getfield 25, 3) := by decide +kernel
theorem dX0_add_46 : decode cX0_add 46 = .ok (.iconst 1, 1) := by decide +kernel
theorem dX0_add_47 : decode cX0_add 47 = .ok (.iadd, 1) := by decide +kernel
theorem dX0_add_48 : decode cX0_add 48 = .ok (.goto 4, 3) := by decide +kernel
theorem dX0_add_51 : decode cX0_add 51 = .ok (.iconst 0, 1) := by decide +kernel
theorem dX0_add_52 : decode cX0_add 52 = .ok (.putfield 25, 3) := by decide +kernel
theorem dX0_add_55 : decode cX0_add 55 = .ok (.aload_n 0, 1) := by decide +kernel
theorem dX0_add_56 : decode cX0_add 56 = .ok (.aload_n 0, 1) := by decide +kernel
theorem dX0_add_57 : decode cX0_add 57 = .ok (.getfield 21, 3) := by decide +kernel
theorem dX0_add_60 : decode cX0_add 60 = .ok (.iconst 1, 1) := by decide +kernel
theorem dX0_add_61 : decode cX0_add 61 = .ok (.iadd, 1) := by decide +kernel
theorem dX0_add_62 : decode cX0_add 62 = .ok (.bipush 20, 2) := by decide +kernel
theorem dX0_add_64 : decode cX0_add 64 = .ok (.invokestatic 28, 3) := by decide +kernel
theorem dX0_add_67 : decode cX0_add 67 = .ok (.putfield 21, 3) := by decide +kernel
theorem dX0_add_70 : decode cX0_add 70 = .ok (.return_, 1) := by decide +kernel
theorem dX0_tell_0 : decode cX0_tell 0 = .ok (.iload_n 1, 1) := by decide +kernel
theorem dX0_tell_1 : decode cX0_tell 1 = .ok (.ifCond .lt 11, 3) := by decide +kernel
theorem dX0_tell_4 : decode cX0_tell 4 = .ok (.iload_n 1, 1) := by decide +kernel
theorem dX0_tell_5 : decode cX0_tell 5 = .ok (.aload_n 0, 1) := by decide +kernel
theorem dX0_tell_6 : decode cX0_tell 6 = .ok (.getfield 21, 3) := by decide +kernel
theorem dX0_tell_9 : decode cX0_tell 9 = .ok (.if_icmp .lt 5, 3) := by decide +kernel
theorem dX0_tell_12 : decode cX0_tell 12 = .ok (.iconst (-1), 1) := by decide +kernel
theorem dX0_tell_13 : decode cX0_tell 13 = .ok (.ireturn, 1) := by decide +kernel
theorem dX0_tell_14 : decode cX0_tell 14 = .ok (.aload_n 0, 1) := by decide +kernel
theorem dX0_tell_15 : decode cX0_tell 15 = .ok (.getfield 25, 3) := by decide +kernel
theorem dX0_tell_18 : decode cX0_tell 18 = .ok (.iconst 1, 1) := by decide +kernel
theorem dX0_tell_19 : decode cX0_tell 19 = .ok (.isub, 1) := by decide +kernel
theorem dX0_tell_20 : decode cX0_tell 20 = .ok (.iload_n 1, 1) := by decide +kernel
theorem dX0_tell_21 : decode cX0_tell 21 = .ok (.isub, 1) := by decide +kernel
theorem dX0_tell_22 : decode cX0_tell 22 = .ok (.istore_n 3, 1) := by decide +kernel
theorem dX0_tell_23 : decode cX0_tell 23 = .ok (.iload_n 3, 1) := by decide +kernel
theorem dX0_tell_24 : decode cX0_tell 24 = .ok (.ifCond .ge 6, 3) := by decide +kernel
theorem dX0_tell_27 : decode cX0_tell 27 = .ok (.iinc 3 20, 3) := by decide +kernel
theorem dX0_tell_30 : decode cX0_tell 30 = .ok (.iload_n 2, 1) := by decide +kernel
theorem dX0_tell_31 : decode cX0_tell 31 = .ok (.tableswitch 46 0 2 #[25, 32, 39], 25) := by decide +kernel
theorem dX0_tell_56 : decode cX0_tell 56 = .ok (.aload_n 0, 1) := by decide +kernel
theorem dX0_tell_57 : decode cX0_tell 57 = .ok (.getfield 9, 3) := by decide +kernel
theorem dX0_tell_60 : decode cX0_tell 60 = .ok (.iload_n 3, 1) := by decide +kernel
theorem dX0_tell_61 : decode cX0_tell 61 = .ok (.iaload, 1) := by decide +kernel
theorem dX0_tell_62 : decode cX0_tell 62 = .ok (.ireturn, 1) := by decide +kernel
theorem dX0_tell_63 : decode cX0_tell 63 = .ok (.aload_n 0, 1) := by decide +kernel
theorem dX0_tell_64 : decode cX0_tell 64 = .ok (.getfield 15, 3) := by decide +kernel
theorem dX0_tell_67 : decode cX0_tell 67 = .ok (.iload_n 3, 1) := by decide +kernel
theorem dX0_tell_68 : decode cX0_tell 68 = .ok (.iaload, 1) := by decide +kernel
theorem dX0_tell_69 : decode cX0_tell 69 = .ok (.ireturn, 1) := by decide +kernel
theorem dX0_tell_70 : decode cX0_tell 70 = .ok (.aload_n 0, 1) := by decide +kernel
theorem dX0_tell_71 : decode cX0_tell 71 = .ok (.getfield 18, 3) := by decide +kernel
theorem dX0_tell_74 : decode cX0_tell 74 = .ok (.iload_n 3, 1) := by decide +kernel
theorem dX0_tell_75 : decode cX0_tell 75 = .ok (.iaload, 1) := by decide +kernel
theorem dX0_tell_76 : decode cX0_tell 76 = .ok (.ireturn, 1) := by decide +kernel
theorem dX0_tell_77 : decode cX0_tell 77 = .ok (.bipush (-2), 2) := by decide +kernel
theorem dX0_tell_79 : decode cX0_tell 79 = .ok (.ireturn, 1) := by decide +kernel
theorem dX0_copyFrom_0 : decode cX0_copyFrom 0 = .ok (.aload_n 1, 1) := by decide +kernel
theorem dX0_copyFrom_1 : decode cX0_copyFrom 1 = .ok (.getfield 9, 3) := by decide +kernel
theorem dX0_copyFrom_4 : decode cX0_copyFrom 4 = .ok (.iconst 0, 1) := by decide +kernel
theorem dX0_copyFrom_5 : decode cX0_copyFrom 5 = .ok (.aload_n 0, 1) := by decide +kernel
theorem dX0_copyFrom_6 : decode cX0_copyFrom 6 = .ok (.getfield 9, 3) := by decide +kernel
theorem dX0_copyFrom_9 : decode cX0_copyFrom 9 = .ok (.iconst 0, 1) := by decide +kernel
theorem dX0_copyFrom_10 : decode cX0_copyFrom 10 = .ok (.bipush 20, 2) := by decide +kernel
theorem dX0_copyFrom_12 : decode cX0_copyFrom 12 = .ok (.invokestatic 34, 3) := by decide +kernel
theorem dX0_copyFrom_15 : decode cX0_copyFrom 15 = .ok (.aload_n 1, 1) := by decide +kernel
theorem dX0_copyFrom_16 : decode cX0_copyFrom 16 = .ok (.getfield 15, 3) := by decide +kernel
theorem dX0_copyFrom_19 : decode cX0_copyFrom 19 = .ok (.iconst 0, 1) := by decide +kernel
theorem dX0_copyFrom_20 : decode cX0_copyFrom 20 = .ok (.aload_n 0, 1) := by decide +kernel
theorem dX0_copyFrom_21 : decode cX0_copyFrom 21 = .ok (.getfield 15, 3) := by decide +kernel
theorem dX0_copyFrom_24 : decode cX0_copyFrom 24 = .ok (.iconst 0, 1) := by decide +kernel
theorem dX0_copyFrom_25 : decode cX0_copyFrom 25 = .ok (.bipush 20, 2) := by decide +kernel
theorem dX0_copyFrom_27 : decode cX0_copyFrom 27 = .ok (.invokestatic 34, 3) := by decide +kernel
theorem dX0_copyFrom_30 : decode cX0_copyFrom 30 = .ok (.aload_n 1, 1) := by decide +kernel
theorem dX0_copyFrom_31 : decode cX0_copyFrom 31 = .ok (.getfield 18, 3) := by decide +kernel
theorem dX0_copyFrom_34 : decode cX0_copyFrom 34 = .ok (.iconst 0, 1) := by decide +kernel
theorem dX0_copyFrom_35 : decode cX0_copyFrom 35 = .ok (.aload_n 0, 1) := by decide +kernel
theorem dX0_copyFrom_36 : decode cX0_copyFrom 36 = .ok (.getfield 18, 3) := by decide +kernel
theorem dX0_copyFrom_39 : decode cX0_copyFrom 39 = .ok (.iconst 0, 1) := by decide +kernel
theorem dX0_copyFrom_40 : decode cX0_copyFrom 40 = .ok (.bipush 20, 2) := by decide +kernel
theorem dX0_copyFrom_42 : decode cX0_copyFrom 42 = .ok (.invokestatic 34, 3) := by decide +kernel
theorem dX0_copyFrom_45 : decode cX0_copyFrom 45 = .ok (.aload_n 0, 1) := by decide +kernel
theorem dX0_copyFrom_46 : decode cX0_copyFrom 46 = .ok (.aload_n 1, 1) := by decide +kernel
theorem dX0_copyFrom_47 : decode cX0_copyFrom 47 = .ok (.getfield 21, 3) := by decide +kernel
theorem dX0_copyFrom_50 : decode cX0_copyFrom 50 = .ok (.putfield 21, 3) := by decide +kernel
theorem dX0_copyFrom_53 : decode cX0_copyFrom 53 = .ok (.aload_n 0, 1) := by decide +kernel
theorem dX0_copyFrom_54 : decode cX0_copyFrom 54 = .ok (.aload_n 1, 1) := by decide +kernel
theorem dX0_copyFrom_55 : decode cX0_copyFrom 55 = .ok (.getfield 25, 3) := by decide +kernel
theorem dX0_copyFrom_58 : decode cX0_copyFrom 58 = .ok (.putfield 25, 3) := by decide +kernel
theorem dX0_copyFrom_61 : decode cX0_copyFrom 61 = .ok (.return_, 1) := by decide +kernel
theorem dX1_init_0 : decode cX1_init 0 = .ok (.aload_n 0, 1) := by decide +kernel
theorem dX1_init_1 : decode cX1_init 1 = .ok (.invokespecial 3, 3) := by decide +kernel
theorem dX1_init_4 : decode cX1_init 4 = .ok (.return_, 1) := by decide +kernel
theorem dX1_arrive_0 : decode cX1_arrive 0 = .ok (.aload_n 0, 1) := by decide +kernel
theorem dX1_arrive_1 : decode cX1_arrive 1 = .ok (.iconst 1, 1) := by decide +kernel
theorem dX1_arrive_2 : decode cX1_arrive 2 = .ok (.putfield 9, 3) := by decide +kernel
theorem dX1_arrive_5 : decode cX1_arrive 5 = .ok (.aload_n 0, 1) := by decide +kernel
theorem dX1_arrive_6 : decode cX1_arrive 6 = .ok (.iload_n 1, 1) := by decide +kernel
theorem dX1_arrive_7 : decode cX1_arrive 7 = .ok (.putfield 15, 3) := by decide +kernel
theorem dX1_arrive_10 : decode cX1_arrive 10 = .ok (.aload_n 0, 1) := by decide +kernel
theorem dX1_arrive_11 : decode cX1_arrive 11 = .ok (.iconst 0, 1) := by decide +kernel
theorem dX1_arrive_12 : decode cX1_arrive 12 = .ok (.putfield 19, 3) := by decide +kernel
theorem dX1_arrive_15 : decode cX1_arrive 15 = .ok (.aload_n 0, 1) := by decide +kernel
theorem dX1_arrive_16 : decode cX1_arrive 16 = .ok (.iconst 0, 1) := by decide +kernel
theorem dX1_arrive_17 : decode cX1_arrive 17 = .ok (.putfield 22, 3) := by decide +kernel
theorem dX1_arrive_20 : decode cX1_arrive 20 = .ok (.aload_n 0, 1) := by decide +kernel
theorem dX1_arrive_21 : decode cX1_arrive 21 = .ok (.iconst 0, 1) := by decide +kernel
theorem dX1_arrive_22 : decode cX1_arrive 22 = .ok (.putfield 25, 3) := by decide +kernel
theorem dX1_arrive_25 : decode cX1_arrive 25 = .ok (.aload_n 0, 1) := by decide +kernel
theorem dX1_arrive_26 : decode cX1_arrive 26 = .ok (.iconst 0, 1) := by decide +kernel
theorem dX1_arrive_27 : decode cX1_arrive 27 = .ok (.putfield 28, 3) := by decide +kernel
theorem dX1_arrive_30 : decode cX1_arrive 30 = .ok (.aload_n 0, 1) := by decide +kernel
theorem dX1_arrive_31 : decode cX1_arrive 31 = .ok (.iconst 0, 1) := by decide +kernel
theorem dX1_arrive_32 : decode cX1_arrive 32 = .ok (.putfield 31, 3) := by decide +kernel
theorem dX1_arrive_35 : decode cX1_arrive 35 = .ok (.aload_n 0, 1) := by decide +kernel
theorem dX1_arrive_36 : decode cX1_arrive 36 = .ok (.iconst 0, 1) := by decide +kernel
theorem dX1_arrive_37 : decode cX1_arrive 37 = .ok (.putfield 34, 3) := by decide +kernel
theorem dX1_arrive_40 : decode cX1_arrive 40 = .ok (.return_, 1) := by decide +kernel
theorem dX1_copyFrom_0 : decode cX1_copyFrom 0 = .ok (.aload_n 0, 1) := by decide +kernel
theorem dX1_copyFrom_1 : decode cX1_copyFrom 1 = .ok (.aload_n 1, 1) := by decide +kernel
theorem dX1_copyFrom_2 : decode cX1_copyFrom 2 = .ok (.getfield 9, 3) := by decide +kernel
theorem dX1_copyFrom_5 : decode cX1_copyFrom 5 = .ok (.putfield 9, 3) := by decide +kernel
theorem dX1_copyFrom_8 : decode cX1_copyFrom 8 = .ok (.aload_n 0, 1) := by decide +kernel
theorem dX1_copyFrom_9 : decode cX1_copyFrom 9 = .ok (.aload_n 1, 1) := by decide +kernel
theorem dX1_copyFrom_10 : decode cX1_copyFrom 10 = .ok (.getfield 15, 3) := by decide +kernel
theorem dX1_copyFrom_13 : decode cX1_copyFrom 13 = .ok (.putfield 15, 3) := by decide +kernel
theorem dX1_copyFrom_16 : decode cX1_copyFrom 16 = .ok (.aload_n 0, 1) := by decide +kernel
theorem dX1_copyFrom_17 : decode cX1_copyFrom 17 = .ok (.aload_n 1, 1) := by decide +kernel
theorem dX1_copyFrom_18 : decode cX1_copyFrom 18 = .ok (.getfield 19, 3) := by decide +kernel
theorem dX1_copyFrom_21 : decode cX1_copyFrom 21 = .ok (.putfield 19, 3) := by decide +kernel
theorem dX1_copyFrom_24 : decode cX1_copyFrom 24 = .ok (.aload_n 0, 1) := by decide +kernel
theorem dX1_copyFrom_25 : decode cX1_copyFrom 25 = .ok (.aload_n 1, 1) := by decide +kernel
theorem dX1_copyFrom_26 : decode cX1_copyFrom 26 = .ok (.getfield 22, 3) := by decide +kernel
theorem dX1_copyFrom_29 : decode cX1_copyFrom 29 = .ok (.putfield 22, 3) := by decide +kernel
theorem dX1_copyFrom_32 : decode cX1_copyFrom 32 = .ok (.aload_n 0, 1) := by decide +kernel
theorem dX1_copyFrom_33 : decode cX1_copyFrom 33 = .ok (.aload_n 1, 1) := by decide +kernel
theorem dX1_copyFrom_34 : decode cX1_copyFrom 34 = .ok (.getfield 25, 3) := by decide +kernel
theorem dX1_copyFrom_37 : decode cX1_copyFrom 37 = .ok (.putfield 25, 3) := by decide +kernel
theorem dX1_copyFrom_40 : decode cX1_copyFrom 40 = .ok (.aload_n 0, 1) := by decide +kernel
theorem dX1_copyFrom_41 : decode cX1_copyFrom 41 = .ok (.aload_n 1, 1) := by decide +kernel
theorem dX1_copyFrom_42 : decode cX1_copyFrom 42 = .ok (.getfield 28, 3) := by decide +kernel
theorem dX1_copyFrom_45 : decode cX1_copyFrom 45 = .ok (.putfield 28, 3) := by decide +kernel
theorem dX1_copyFrom_48 : decode cX1_copyFrom 48 = .ok (.aload_n 0, 1) := by decide +kernel
theorem dX1_copyFrom_49 : decode cX1_copyFrom 49 = .ok (.aload_n 1, 1) := by decide +kernel
theorem dX1_copyFrom_50 : decode cX1_copyFrom 50 = .ok (.getfield 31, 3) := by decide +kernel
theorem dX1_copyFrom_53 : decode cX1_copyFrom 53 = .ok (.putfield 31, 3) := by decide +kernel
theorem dX1_copyFrom_56 : decode cX1_copyFrom 56 = .ok (.aload_n 0, 1) := by decide +kernel
theorem dX1_copyFrom_57 : decode cX1_copyFrom 57 = .ok (.aload_n 1, 1) := by decide +kernel
theorem dX1_copyFrom_58 : decode cX1_copyFrom 58 = .ok (.getfield 34, 3) := by decide +kernel
theorem dX1_copyFrom_61 : decode cX1_copyFrom 61 = .ok (.putfield 34, 3) := by decide +kernel
theorem dX1_copyFrom_64 : decode cX1_copyFrom 64 = .ok (.return_, 1) := by decide +kernel
theorem dX1_canBeTaken_0 : decode cX1_canBeTaken 0 = .ok (.aload_n 0, 1) := by decide +kernel
theorem dX1_canBeTaken_1 : decode cX1_canBeTaken 1 = .ok (.getfield 9, 3) := by decide +kernel
theorem dX1_canBeTaken_4 : decode cX1_canBeTaken 4 = .ok (.ifCond .eq 14, 3) := by decide +kernel
theorem dX1_canBeTaken_7 : decode cX1_canBeTaken 7 = .ok (.aload_n 0, 1) := by decide +kernel
theorem dX1_canBeTaken_8 : decode cX1_canBeTaken 8 = .ok (.getfield 22, 3) := by decide +kernel
theorem dX1_canBeTaken_11 : decode cX1_canBeTaken 11 = .ok (.ifCond .ne 7, 3) := by decide +kernel
theorem dX1_canBeTaken_14 : decode cX1_canBeTaken 14 = .ok (.iconst 1, 1) := by decide +kernel
theorem dX1_canBeTaken_15 : decode cX1_canBeTaken 15 = .ok (.goto 4, 3) := by decide +kernel
theorem dX1_canBeTaken_18 : decode cX1_canBeTaken 18 = .ok (.iconst 0, 1) := by decide +kernel
theorem dX1_canBeTaken_19 : decode cX1_canBeTaken 19 = .ok (.ireturn, 1) := by decide +kernel
theorem dX1_addFine_0 : decode cX1_addFine 0 = .ok (.aload_n 0, 1) := by decide +kernel
theorem dX1_addFine_1 : decode cX1_addFine 1 = .ok (.dup, 1) := by decide +kernel
theorem dX1_addFine_2 : decode cX1_addFine 2 = .ok (.getfield 31, 3) := by decide +kernel
theorem dX1_addFine_5 : decode cX1_addFine 5 = .ok (.iconst 1, 1) := by decide +kernel
theorem dX1_addFine_6 : decode cX1_addFine 6 = .ok (.iadd, 1) := by decide +kernel
theorem dX1_addFine_7 : decode cX1_addFine 7 = .ok (.putfield 31, 3) := by decide +kernel
theorem dX1_addFine_10 : decode cX1_addFine 10 = .ok (.aload_n 0, 1) := by decide +kernel
theorem dX1_addFine_11 : decode cX1_addFine 11 = .ok (.aload_n 0, 1) := by decide +kernel
theorem dX1_addFine_12 : decode cX1_addFine 12 = .ok (.getfield 19, 3) := by decide +kernel
theorem dX1_addFine_15 : decode cX1_addFine 15 = .ok (.iload_n 1, 1) := by decide +kernel
theorem dX1_addFine_16 : decode cX1_addFine 16 = .ok (.iadd, 1) := by decide +kernel
theorem dX1_addFine_17 : decode cX1_addFine 17 = .ok (.ldc 37, 2) := by decide +kernel
theorem dX1_addFine_19 : decode cX1_addFine 19 = .ok (.invokestatic 38, 3) := by decide +kernel
theorem dX1_addFine_22 : decode cX1_addFine 22 = .ok (.putfield 19, 3) := by decide +kernel
theorem dX1_addFine_25 : decode cX1_addFine 25 = .ok (.aload_n 0, 1) := by decide +kernel
theorem dX1_addFine_26 : decode cX1_addFine 26 = .ok (.getfield 22, 3) := by decide +kernel
theorem dX1_addFine_29 : decode cX1_addFine 29 = .ok (.ifCond .ne 11, 3) := by decide +kernel
theorem dX1_addFine_32 : decode cX1_addFine 32 = .ok (.aload_n 0, 1) := by decide +kernel
theorem dX1_addFine_33 : decode cX1_addFine 33 = .ok (.getfield 19, 3) := by decide +kernel
theorem dX1_addFine_36 : decode cX1_addFine 36 = .ok (.iload_n 2, 1) := by decide +kernel
theorem dX1_addFine_37 : decode cX1_addFine 37 = .ok (.if_icmp .gt 5, 3) := by decide +kernel
theorem dX1_addFine_40 : decode cX1_addFine 40 = .ok (.iconst 0, 1) := by decide +kernel
theorem dX1_addFine_41 : decode cX1_addFine 41 = .ok (.ireturn, 1) := by decide +kernel
theorem dX1_addFine_42 : decode cX1_addFine 42 = .ok (.aload_n 0, 1) := by decide +kernel
theorem dX1_addFine_43 : decode cX1_addFine 43 = .ok (.iconst 1, 1) := by decide +kernel
theorem dX1_addFine_44 : decode cX1_addFine 44 = .ok (.putfield 22, 3) := by decide +kernel
theorem dX1_addFine_47 : decode cX1_addFine 47 = .ok (.aload_n 0, 1) := by decide +kernel
theorem dX1_addFine_48 : decode cX1_addFine 48 = .ok (.iconst 0, 1) := by decide +kernel
theorem dX1_addFine_49 : decode cX1_addFine 49 = .ok (.putfield 25, 3) := by decide +kernel
theorem dX1_addFine_52 : decode cX1_addFine 52 = .ok (.aload_n 0, 1) := by decide +kernel
theorem dX1_addFine_53 : decode cX1_addFine 53 = .ok (.dup, 1) := by decide +kernel
theorem dX1_addFine_54 : decode cX1_addFine 54 = .ok (.getfield 34, 3) := by decide +kernel
theorem dX1_addFine_57 : decode cX1_addFine 57 = .ok (.iconst 1, 1) := by decide +kernel
theorem dX1_addFine_58 : decode cX1_addFine 58 = .ok (.iadd, 1) := by decide +kernel
theorem dX1_addFine_59 : decode cX1_addFine 59 = .ok (.putfield 34, 3) := by decide +kernel
theorem dX1_addFine_62 : decode cX1_addFine 62 = .ok (.iconst 1, 1) := by decide +kernel
theorem dX1_addFine_63 : decode cX1_addFine 63 = .ok (.ireturn, 1) := by decide +kernel
theorem dX1_passMinute_0 : decode cX1_passMinute 0 = .ok (.aload_n 0, 1) := by decide +kernel
theorem dX1_passMinute_1 : decode cX1_passMinute 1 = .ok (.dup, 1) := by decide +kernel
theorem dX1_passMinute_2 : decode cX1_passMinute 2 = .ok (.getfield 28, 3) := by decide +kernel
theorem dX1_passMinute_5 : decode cX1_passMinute 5 = .ok (.iconst 1, 1) := by decide +kernel
theorem dX1_passMinute_6 : decode cX1_passMinute 6 = .ok (.iadd, 1) := by decide +kernel
theorem dX1_passMinute_7 : decode cX1_passMinute 7 = .ok (.putfield 28, 3) := by decide +kernel
theorem dX1_passMinute_10 : decode cX1_passMinute 10 = .ok (.aload_n 0, 1) := by decide +kernel
theorem dX1_passMinute_11 : decode cX1_passMinute 11 = .ok (.getfield 28, 3) := by decide +kernel
theorem dX1_passMinute_14 : decode cX1_passMinute 14 = .ok (.iload_n 1, 1) := by decide +kernel
theorem dX1_passMinute_15 : decode cX1_passMinute 15 = .ok (.if_icmp .lt 18, 3) := by decide +kernel
theorem dX1_passMinute_18 : decode cX1_passMinute 18 = .ok (.aload_n 0, 1) := by decide +kernel
theorem dX1_passMinute_19 : decode cX1_passMinute 19 = .ok (.dup, 1) := by decide +kernel
theorem dX1_passMinute_20 : decode cX1_passMinute 20 = .ok (.getfield 19, 3) := by decide +kernel
theorem dX1_passMinute_23 : decode cX1_passMinute 23 = .ok (.iconst 2, 1) := by decide +kernel
theorem dX1_passMinute_24 : decode cX1_passMinute 24 = .ok (.idiv, 1) := by decide +kernel
theorem dX1_passMinute_25 : decode cX1_passMinute 25 = .ok (.putfield 19, 3) := by decide +kernel
theorem dX1_passMinute_28 : decode cX1_passMinute 28 = .ok (.aload_n 0, 1) := by decide +kernel
theorem dX1_passMinute_29 : decode cX1_passMinute 29 = .ok (.iconst 0, 1) := by decide +kernel
theorem dX1_passMinute_30 : decode cX1_passMinute 30 = .ok (.putfield 28, 3) := by decide +kernel
theorem dX1_passMinute_33 : decode cX1_passMinute 33 = .ok (.aload_n 0, 1) := by decide +kernel
theorem dX1_passMinute_34 : decode cX1_passMinute 34 = .ok (.getfield 22, 3) := by decide +kernel
theorem dX1_passMinute_37 : decode cX1_passMinute 37 = .ok (.ifCond .ne 5, 3) := by decide +kernel
theorem dX1_passMinute_40 : decode cX1_passMinute 40 = .ok (.iconst 0, 1) := by decide +kernel
theorem dX1_passMinute_41 : decode cX1_passMinute 41 = .ok (.ireturn, 1) := by decide +kernel
theorem dX1_passMinute_42 : decode cX1_passMinute 42 = .ok (.aload_n 0, 1) := by decide +kernel
theorem dX1_passMinute_43 : decode cX1_passMinute 43 = .ok (.dup, 1) := by decide +kernel
theorem dX1_passMinute_44 : decode cX1_passMinute 44 = .ok (.getfield 25, 3) := by decide +kernel
theorem dX1_passMinute_47 : decode cX1_passMinute 47 = .ok (.iconst 1, 1) := by decide +kernel
theorem dX1_passMinute_48 : decode cX1_passMinute 48 = .ok (.iadd, 1) := by decide +kernel
theorem dX1_passMinute_49 : decode cX1_passMinute 49 = .ok (.putfield 25, 3) := by decide +kernel
theorem dX1_passMinute_52 : decode cX1_passMinute 52 = .ok (.aload_n 0, 1) := by decide +kernel
theorem dX1_passMinute_53 : decode cX1_passMinute 53 = .ok (.getfield 19, 3) := by decide +kernel
theorem dX1_passMinute_56 : decode cX1_passMinute 56 = .ok (.iload_n 2, 1) := by decide +kernel
theorem dX1_passMinute_57 : decode cX1_passMinute 57 = .ok (.if_icmp .lt 13, 3) := by decide +kernel
theorem dX1_passMinute_60 : decode cX1_passMinute 60 = .ok (.aload_n 0, 1) := by decide +kernel
theorem dX1_passMinute_61 : decode cX1_passMinute 61 = .ok (.getfield 25, 3) := by decide +kernel
theorem dX1_passMinute_64 : decode cX1_passMinute 64 = .ok (.iload_n 3, 1) := by decide +kernel
theorem dX1_passMinute_65 : decode cX1_passMinute 65 = .ok (.if_icmp .ge 5, 3) := by decide +kernel
theorem dX1_passMinute_68 : decode cX1_passMinute 68 = .ok (.iconst 0, 1) := by decide +kernel
theorem dX1_passMinute_69 : decode cX1_passMinute 69 = .ok (.ireturn, 1) := by decide +kernel
theorem dX1_passMinute_70 : decode cX1_passMinute 70 = .ok (.aload_n 0, 1) := by decide +kernel
theorem dX1_passMinute_71 : decode cX1_passMinute 71 = .ok (.iconst 0, 1) := by decide +kernel
theorem dX1_passMinute_72 : decode cX1_passMinute 72 = .ok (.putfield 22, 3) := by decide +kernel
theorem dX1_passMinute_75 : decode cX1_passMinute 75 = .ok (.aload_n 0, 1) := by decide +kernel
theorem dX1_passMinute_76 : decode cX1_passMinute 76 = .ok (.iconst 0, 1) := by decide +kernel
theorem dX1_passMinute_77 : decode cX1_passMinute 77 = .ok (.putfield 25, 3) := by decide +kernel
theorem dX1_passMinute_80 : decode cX1_passMinute 80 = .ok (.aload_n 0, 1) := by decide +kernel
theorem dX1_passMinute_81 : decode cX1_passMinute 81 = .ok (.aload_n 0, 1) := by decide +kernel
theorem dX1_passMinute_82 : decode cX1_passMinute 82 = .ok (.getfield 19, 3) := by decide +kernel
theorem dX1_passMinute_85 : decode cX1_passMinute 85 = .ok (.iload_n 2, 1) := by decide +kernel
theorem dX1_passMinute_86 : decode cX1_passMinute 86 = .ok (.iconst 1, 1) := by decide +kernel
theorem dX1_passMinute_87 : decode cX1_passMinute 87 = .ok (.isub, 1) := by decide +kernel
theorem dX1_passMinute_88 : decode cX1_passMinute 88 = .ok (.invokestatic 38, 3) := by decide +kernel
theorem dX1_passMinute_91 : decode cX1_passMinute 91 = .ok (.putfield 19, 3) := by decide +kernel
theorem dX1_passMinute_94 : decode cX1_passMinute 94 = .ok (.iconst 1, 1) := by decide +kernel
theorem dX1_passMinute_95 : decode cX1_passMinute 95 = .ok (.ireturn, 1) := by decide +kernel
theorem dX1_tell_0 : decode cX1_tell 0 = .ok (.iload_n 1, 1) := by decide +kernel
theorem dX1_tell_1 : decode cX1_tell 1 = .ok (.tableswitch 103 0 7 #[47, 60, 65, 70, 83, 88, 93, 98], 47) := by decide +kernel
theorem dX1_tell_48 : decode cX1_tell 48 = .ok (.aload_n 0, 1) := by decide +kernel
theorem dX1_tell_49 : decode cX1_tell 49 = .ok (.getfield 9, 3) := by decide +kernel
theorem dX1_tell_52 : decode cX1_tell 52 = .ok (.ifCond .eq 7, 3) := by decide +kernel
theorem dX1_tell_55 : decode cX1_tell 55 = .ok (.iconst 1, 1) := by decide +kernel
theorem dX1_tell_56 : decode cX1_tell 56 = .ok (.goto 4, 3) := by decide +kernel
theorem dX1_tell_59 : decode cX1_tell 59 = .ok (.iconst 0, 1) := by decide +kernel
theorem dX1_tell_60 : decode cX1_tell 60 = .ok (.ireturn, 1) := by decide +kernel
theorem dX1_tell_61 : decode cX1_tell 61 = .ok (.aload_n 0, 1) := by decide +kernel
theorem dX1_tell_62 : decode cX1_tell 62 = .ok (.getfield 15, 3) := by decide +kernel
theorem dX1_tell_65 : decode cX1_tell 65 = .ok (.ireturn, 1) := by decide +kernel
theorem dX1_tell_66 : decode cX1_tell 66 = .ok (.aload_n 0, 1) := by decide +kernel
theorem dX1_tell_67 : decode cX1_tell 67 = .ok (.getfield 19, 3) := by decide +kernel
theorem dX1_tell_70 : decode cX1_tell 70 = .ok (.ireturn, 1) := by decide +kernel
theorem dX1_tell_71 : decode cX1_tell 71 = .ok (.aload_n 0, 1) := by decide +kernel
theorem dX1_tell_72 : decode cX1_tell 72 = .ok (.getfield 22, 3) := by decide +kernel
theorem dX1_tell_75 : decode cX1_tell 75 = .ok (.ifCond .eq 7, 3) := by decide +kernel
theorem dX1_tell_78 : decode cX1_tell 78 = .ok (.iconst 1, 1) := by decide +kernel
theorem dX1_tell_79 : decode cX1_tell 79 = .ok (.goto 4, 3) := by decide +kernel
theorem dX1_tell_82 : decode cX1_tell 82 = .ok (.iconst 0, 1) := by decide +kernel
theorem dX1_tell_83 : decode cX1_tell 83 = .ok (.ireturn, 1) := by decide +kernel
theorem dX1_tell_84 : decode cX1_tell 84 = .ok (.aload_n 0, 1) := by decide +kernel
theorem dX1_tell_85 : decode cX1_tell 85 = .ok (.getfield 25, 3) := by decide +kernel
theorem dX1_tell_88 : decode cX1_tell 88 = .ok (.ireturn, 1) := by decide +kernel
theorem dX1_tell_89 : decode cX1_tell 89 = .ok (.aload_n 0, 1) := by decide +kernel
theorem dX1_tell_90 : decode cX1_tell 90 = .ok (.getfield 28, 3) := by decide +kernel
theorem dX1_tell_93 : decode cX1_tell 93 = .ok (.ireturn, 1) := by decide +kernel
theorem dX1_tell_94 : decode cX1_tell 94 = .ok (.aload_n 0, 1) := by decide +kernel
theorem dX1_tell_95 : decode cX1_tell 95 = .ok (.getfield 31, 3) := by decide +kernel
theorem dX1_tell_98 : decode cX1_tell 98 = .ok (.ireturn, 1) := by decide +kernel
theorem dX1_tell_99 : decode cX1_tell 99 = .ok (.aload_n 0, 1) := by decide +kernel
theorem dX1_tell_100 : decode cX1_tell 100 = .ok (.getfield 34, 3) := by decide +kernel
theorem dX1_tell_103 : decode cX1_tell 103 = .ok (.ireturn, 1) := by decide +kernel
theorem dX1_tell_104 : decode cX1_tell 104 = .ok (.bipush (-2), 2) := by decide +kernel
theorem dX1_tell_106 : decode cX1_tell 106 = .ok (.ireturn, 1) := by decide +kernel
end
section
def fn_X0_add (a1 : Int32) (a2 : Int32) (a3 : Int32) (x : mm_M) : Option mm_M :=
  if (x 4 4) < 0 ∨ 20 ≤ Int32.toNatClampNeg (x 4 4) then none else (some (mm_up x 5 (Int32.toNatClampNeg (x 4 4)) a1)).bind fun x1 => if (x1 4 4) < 0 ∨ 20 ≤ Int32.toNatClampNeg (x1 4 4) then none else (some (mm_up x1 6 (Int32.toNatClampNeg (x1 4 4)) a2)).bind fun x2 => if (x2 4 4) < 0 ∨ 20 ≤ Int32.toNatClampNeg (x2 4 4) then none else (some (mm_up x2 7 (Int32.toNatClampNeg (x2 4 4)) a3)).bind fun x3 => if (20 : Int32) ≤ ((x3 4 4) + 1) then (some (mm_up x3 4 4 0)).bind fun x4 => (some (mm_up x4 4 3 (if (20 : Int32) < ((x4 4 3) + 1) then (20 : Int32) else ((x4 4 3) + 1)))).bind fun x5 => some x5 else (some (mm_up x3 4 4 ((x3 4 4) + 1))).bind fun x6 => (some (mm_up x6 4 3 (if (20 : Int32) < ((x6 4 3) + 1) then (20 : Int32) else ((x6 4 3) + 1)))).bind fun x7 => some x7
abbrev rm_X0_add : Room := { frames := 1, cells := 0, slots := 0, locals := 21 }
theorem df_X0_add : yX0_add.cls = RX0 ∧ yX0_add.cls ≠ "java/lang/invoke/MethodHandle" ∧ yX0_add.cls ≠ "java/lang/invoke/VarHandle" ∧ (parseMethodDescriptor yX0_add.desc).map (fun d => d.parameters.length) = some 3 := by decide +kernel
set_option maxRecDepth 100000 in
set_option maxHeartbeats 4000000 in
theorem ct_X0_add (l : Launch) (G : va_G) (T : Nat → ClassId) (b : Nat) (z : Nat → Nat) (a1 : Int32) (a2 : Int32) (a3 : Int32) (x : mm_M) {x1 : mm_M} (h : fn_X0_add a1 a2 a3 x = some x1) : mm_Cv l yX0_add wsX0_add rm_X0_add G T b z [.ref (b + 4), .int a1, .int a2, .int a3] x x1 := by
  unfold fn_X0_add at h
  refine mm_start (cc := cX0_add) (maxL := 4) (ret := none) (by decide) rfl (Nat.le_of_ble_eq_true rfl) (fun p e s m below meth c ls C hr hlk hH hl => ?_)
  have hl : lv_has ls 4 [(0, .ref (b + 4)), (1, .int a1), (2, .int a2), (3, .int a3)] := hl
  have hx := C.1
  have hb := C.2.1
  have w1 := C.2.2.2.2.1 (.fieldLink RX0 9 "LandingFines$Journal" "sorts" "[I") (by decide +kernel)
  have w2 := C.2.2.2.2.1 (.fieldLink RX0 25 "LandingFines$Journal" "next" "I") (by decide +kernel)
  have w3 := C.2.2.2.2.1 (.fieldLink RX0 15 "LandingFines$Journal" "places" "[I") (by decide +kernel)
  have w4 := C.2.2.2.2.1 (.fieldLink RX0 18 "LandingFines$Journal" "minutes" "[I") (by decide +kernel)
  have w5 := C.2.2.2.2.1 (.fieldLink RX0 21 "LandingFines$Journal" "size" "I") (by decide +kernel)
  have w6 := C.2.2.2.2.1 (.methodLink RX0 28 Lib.Math.min.name) (by decide +kernel)
  have w7 := C.2.2.2.2.1 (.static Lib.Math.min.name) (by decide +kernel)
  have w8 := C.2.2.2.2.1 (.initialized "java/lang/Math") (by decide +kernel)
  have w9 := C.2.2.2.2.1 (.code Lib.Math.min.name Lib.Math.min.code 2 (some .int)) (by decide +kernel)
  have hin0 : ∀ w ∈ wsX00, w ∈ wsX0_add := by decide +kernel
  refine lv_aload_n hx hb dX0_add_0 rfl (lv_at hl 0 rfl) ?_
  refine mm_get (v := .ref (b + 5)) C hH hin0 rfl kl_4 (mm_e0 kd_4) (j := 0) (by decide) rfl w1 rfl dX0_add_1 ?_
  refine lv_aload_n hx hb dX0_add_4 rfl (lv_at hl 0 rfl) ?_
  refine mm_get (v := .int (x 4 4)) C hH hin0 rfl kl_4 (mm_e0 kd_4) (j := 4) (by decide) rfl w2 rfl dX0_add_5 ?_
  refine lv_iload_n hx hb dX0_add_8 rfl (lv_at hl 1 rfl) ?_
  obtain ⟨g1, h⟩ := mm_grn h
  obtain ⟨x1, e1, h⟩ := mm_bnd h
  refine mm_iast (n := 20) (jn := (Int32.toNatClampNeg (x 4 4))) C hH kd_5 ln_5 g1 rfl (Option.some.inj e1) dX0_add_9 (fun H locs hH => ?_)
  refine lv_aload_n hx hb dX0_add_10 rfl (lv_at hl 0 rfl) ?_
  refine mm_get (v := .ref (b + 6)) C hH hin0 rfl kl_4 (mm_e0 kd_4) (j := 1) (by decide) rfl w3 rfl dX0_add_11 ?_
  refine lv_aload_n hx hb dX0_add_14 rfl (lv_at hl 0 rfl) ?_
  refine mm_get (v := .int (x1 4 4)) C hH hin0 rfl kl_4 (mm_e0 kd_4) (j := 4) (by decide) rfl w2 rfl dX0_add_15 ?_
  refine lv_iload_n hx hb dX0_add_18 rfl (lv_at hl 2 rfl) ?_
  obtain ⟨g2, h⟩ := mm_grn h
  obtain ⟨x2, e2, h⟩ := mm_bnd h
  refine mm_iast (n := 20) (jn := (Int32.toNatClampNeg (x1 4 4))) C hH kd_6 ln_6 g2 rfl (Option.some.inj e2) dX0_add_19 (fun H locs hH => ?_)
  refine lv_aload_n hx hb dX0_add_20 rfl (lv_at hl 0 rfl) ?_
  refine mm_get (v := .ref (b + 7)) C hH hin0 rfl kl_4 (mm_e0 kd_4) (j := 2) (by decide) rfl w4 rfl dX0_add_21 ?_
  refine lv_aload_n hx hb dX0_add_24 rfl (lv_at hl 0 rfl) ?_
  refine mm_get (v := .int (x2 4 4)) C hH hin0 rfl kl_4 (mm_e0 kd_4) (j := 4) (by decide) rfl w2 rfl dX0_add_25 ?_
  refine lv_iload_n hx hb dX0_add_28 rfl (lv_at hl 3 rfl) ?_
  obtain ⟨g3, h⟩ := mm_grn h
  obtain ⟨x3, e3, h⟩ := mm_bnd h
  refine mm_iast (n := 20) (jn := (Int32.toNatClampNeg (x2 4 4))) C hH kd_7 ln_7 g3 rfl (Option.some.inj e3) dX0_add_29 (fun H locs hH => ?_)
  refine lv_aload_n hx hb dX0_add_30 rfl (lv_at hl 0 rfl) ?_
  refine lv_aload_n hx hb dX0_add_31 rfl (lv_at hl 0 rfl) ?_
  refine mm_get (v := .int (x3 4 4)) C hH hin0 rfl kl_4 (mm_e0 kd_4) (j := 4) (by decide) rfl w2 rfl dX0_add_32 ?_
  refine lv_iconst (v := 1) hx hb dX0_add_35 (by decide) ?_
  refine lv_iadd hx hb dX0_add_36 ?_
  refine lv_bipush (v := 20) hx hb dX0_add_37 (by decide) ?_
  refine lv_icmp_ge (tgt := 51) hx hb dX0_add_39 (by decide) (fun c1 => ?_) (fun c1 => ?_)
  · have h := mm_pos c1 h
    have hl := lv_sub (l' := [(0, .ref (b + 4))]) hl [0] rfl
    refine lv_iconst (v := 0) hx hb dX0_add_51 (by decide) ?_
    obtain ⟨x4, e4, h⟩ := mm_bnd h
    refine mm_put (ty := .int) C hH hin0 tyX0_ok nmX0 rfl kl_4 (mm_e0 kd_4) (j := 4) (by decide) rfl w2 pd_I rfl rfl (Nat.le_of_ble_eq_true rfl) (sp_0_4 kd_4) (Option.some.inj e4) dX0_add_52 (fun H locs hH => ?_)
    refine lv_aload_n hx hb dX0_add_55 rfl (lv_at hl 0 rfl) ?_
    refine lv_aload_n hx hb dX0_add_56 rfl (lv_at hl 0 rfl) ?_
    refine mm_get (v := .int (x4 4 3)) C hH hin0 rfl kl_4 (mm_e0 kd_4) (j := 3) (by decide) rfl w5 rfl dX0_add_57 ?_
    refine lv_iconst (v := 1) hx hb dX0_add_60 (by decide) ?_
    refine lv_iadd hx hb dX0_add_61 ?_
    refine lv_bipush (v := 20) hx hb dX0_add_62 (by decide) ?_
    refine mm_minv C hl.1.symm w6 w7 w8 w9 (Nat.le_of_ble_eq_true rfl) (Nat.le_of_ble_eq_true rfl) (Nat.zero_le _) (Nat.zero_le _) dX0_add_64 ?_
    obtain ⟨x5, e5, h⟩ := mm_bnd h
    refine mm_put (ty := .int) C hH hin0 tyX0_ok nmX0 rfl kl_4 (mm_e0 kd_4) (j := 3) (by decide) rfl w5 pd_I rfl rfl (Nat.le_of_ble_eq_true rfl) (sp_0_3 kd_4) (Option.some.inj e5) dX0_add_67 (fun H locs hH => ?_)
    exact mm_vret C hH hr hlk h dX0_add_70
  · have h := mm_neg c1 h
    have hl := lv_sub (l' := [(0, .ref (b + 4))]) hl [0] rfl
    refine lv_aload_n hx hb dX0_add_42 rfl (lv_at hl 0 rfl) ?_
    refine mm_get (v := .int (x3 4 4)) C hH hin0 rfl kl_4 (mm_e0 kd_4) (j := 4) (by decide) rfl w2 rfl dX0_add_43 ?_
    refine lv_iconst (v := 1) hx hb dX0_add_46 (by decide) ?_
    refine lv_iadd hx hb dX0_add_47 ?_
    refine lv_goto (tgt := 52) hx hb dX0_add_48 (by decide) ?_
    obtain ⟨x6, e6, h⟩ := mm_bnd h
    refine mm_put (ty := .int) C hH hin0 tyX0_ok nmX0 rfl kl_4 (mm_e0 kd_4) (j := 4) (by decide) rfl w2 pd_I rfl rfl (Nat.le_of_ble_eq_true rfl) (sp_0_4 kd_4) (Option.some.inj e6) dX0_add_52 (fun H locs hH => ?_)
    refine lv_aload_n hx hb dX0_add_55 rfl (lv_at hl 0 rfl) ?_
    refine lv_aload_n hx hb dX0_add_56 rfl (lv_at hl 0 rfl) ?_
    refine mm_get (v := .int (x6 4 3)) C hH hin0 rfl kl_4 (mm_e0 kd_4) (j := 3) (by decide) rfl w5 rfl dX0_add_57 ?_
    refine lv_iconst (v := 1) hx hb dX0_add_60 (by decide) ?_
    refine lv_iadd hx hb dX0_add_61 ?_
    refine lv_bipush (v := 20) hx hb dX0_add_62 (by decide) ?_
    refine mm_minv C hl.1.symm w6 w7 w8 w9 (Nat.le_of_ble_eq_true rfl) (Nat.le_of_ble_eq_true rfl) (Nat.zero_le _) (Nat.zero_le _) dX0_add_64 ?_
    obtain ⟨x7, e7, h⟩ := mm_bnd h
    refine mm_put (ty := .int) C hH hin0 tyX0_ok nmX0 rfl kl_4 (mm_e0 kd_4) (j := 3) (by decide) rfl w5 pd_I rfl rfl (Nat.le_of_ble_eq_true rfl) (sp_0_3 kd_4) (Option.some.inj e7) dX0_add_67 (fun H locs hH => ?_)
    exact mm_vret C hH hr hlk h dX0_add_70
def fn_X0_tell (a1 : Int32) (a2 : Int32) (x : mm_M) : Option Int32 :=
  if a1 < 0 then some ((-1) : Int32) else if a1 < (x 4 3) then (some ((((x 4 4) - 1) - a1) : Int32)).bind fun v1 => if (0 : Int32) ≤ v1 then if a2 = 0 then if v1 < 0 ∨ 20 ≤ Int32.toNatClampNeg v1 then none else some (x 5 (Int32.toNatClampNeg v1)) else if a2 = 1 then if v1 < 0 ∨ 20 ≤ Int32.toNatClampNeg v1 then none else some (x 6 (Int32.toNatClampNeg v1)) else if a2 = 2 then if v1 < 0 ∨ 20 ≤ Int32.toNatClampNeg v1 then none else some (x 7 (Int32.toNatClampNeg v1)) else some ((-2) : Int32) else (some (v1 + 20)).bind fun v2 => if a2 = 0 then if v2 < 0 ∨ 20 ≤ Int32.toNatClampNeg v2 then none else some (x 5 (Int32.toNatClampNeg v2)) else if a2 = 1 then if v2 < 0 ∨ 20 ≤ Int32.toNatClampNeg v2 then none else some (x 6 (Int32.toNatClampNeg v2)) else if a2 = 2 then if v2 < 0 ∨ 20 ≤ Int32.toNatClampNeg v2 then none else some (x 7 (Int32.toNatClampNeg v2)) else some ((-2) : Int32) else some ((-1) : Int32)
abbrev rm_X0_tell : Room := { frames := 0, cells := 0, slots := 0, locals := 0 }
theorem df_X0_tell : yX0_tell.cls = RX0 ∧ yX0_tell.cls ≠ "java/lang/invoke/MethodHandle" ∧ yX0_tell.cls ≠ "java/lang/invoke/VarHandle" ∧ (parseMethodDescriptor yX0_tell.desc).map (fun d => d.parameters.length) = some 2 := by decide +kernel
set_option maxRecDepth 100000 in
set_option maxHeartbeats 4000000 in
theorem ct_X0_tell (l : Launch) (G : va_G) (T : Nat → ClassId) (b : Nat) (z : Nat → Nat) (a1 : Int32) (a2 : Int32) (x : mm_M) {r : Int32} (h : fn_X0_tell a1 a2 x = some r) : mm_Ci l yX0_tell wsX0_tell rm_X0_tell G T b z [.ref (b + 4), .int a1, .int a2] x r x := by
  unfold fn_X0_tell at h
  refine mm_start (cc := cX0_tell) (maxL := 4) (ret := (some .int)) (by decide) rfl (Nat.le_of_ble_eq_true rfl) (fun p e s m below meth c ls C hr hlk hH hl => ?_)
  have hl : lv_has ls 4 [(0, .ref (b + 4)), (1, .int a1), (2, .int a2)] := hl
  have hx := C.1
  have hb := C.2.1
  have w1 := C.2.2.2.2.1 (.fieldLink RX0 21 "LandingFines$Journal" "size" "I") (by decide +kernel)
  have w2 := C.2.2.2.2.1 (.fieldLink RX0 25 "LandingFines$Journal" "next" "I") (by decide +kernel)
  have w3 := C.2.2.2.2.1 (.fieldLink RX0 9 "LandingFines$Journal" "sorts" "[I") (by decide +kernel)
  have w4 := C.2.2.2.2.1 (.fieldLink RX0 15 "LandingFines$Journal" "places" "[I") (by decide +kernel)
  have w5 := C.2.2.2.2.1 (.fieldLink RX0 18 "LandingFines$Journal" "minutes" "[I") (by decide +kernel)
  have hin0 : ∀ w ∈ wsX00, w ∈ wsX0_tell := by decide +kernel
  refine lv_iload_n hx hb dX0_tell_0 rfl (lv_at hl 1 rfl) ?_
  refine lv_if_lt (tgt := 12) hx hb dX0_tell_1 (by decide) (fun c1 => ?_) (fun c1 => ?_)
  · have h := mm_pos c1 h
    have hl := lv_sub (l' := []) hl [] rfl
    refine lv_iconst (v := (-1)) hx hb dX0_tell_12 (by decide) ?_
    exact mm_iretP C hH hr hlk rfl h dX0_tell_13
  · have h := mm_neg c1 h
    refine lv_iload_n hx hb dX0_tell_4 rfl (lv_at hl 1 rfl) ?_
    refine lv_aload_n hx hb dX0_tell_5 rfl (lv_at hl 0 rfl) ?_
    refine mm_get (v := .int (x 4 3)) C hH hin0 rfl kl_4 (mm_e0 kd_4) (j := 3) (by decide) rfl w1 rfl dX0_tell_6 ?_
    refine lv_icmp_lt (tgt := 14) hx hb dX0_tell_9 (by decide) (fun c2 => ?_) (fun c2 => ?_)
    · have h := mm_pos c2 h
      refine lv_aload_n hx hb dX0_tell_14 rfl (lv_at hl 0 rfl) ?_
      refine mm_get (v := .int (x 4 4)) C hH hin0 rfl kl_4 (mm_e0 kd_4) (j := 4) (by decide) rfl w2 rfl dX0_tell_15 ?_
      refine lv_iconst (v := 1) hx hb dX0_tell_18 (by decide) ?_
      refine lv_isub hx hb dX0_tell_19 ?_
      refine lv_iload_n hx hb dX0_tell_20 rfl (lv_at hl 1 rfl) ?_
      refine lv_isub hx hb dX0_tell_21 ?_
      obtain ⟨v1, e1, h⟩ := mm_bnd h
      refine mm_nmi e1 ?_
      refine lv_istore_n (lv' := [(3, .int v1), (0, .ref (b + 4)), (1, .int a1), (2, .int a2)]) hx hb dX0_tell_22 rfl hl (by decide) rfl (fun ls hl => ?_)
      have hl := lv_sub (l' := [(3, .int v1), (0, .ref (b + 4)), (2, .int a2)]) hl [0, 1, 3] rfl
      refine lv_iload_n hx hb dX0_tell_23 rfl (lv_at hl 0 rfl) ?_
      refine lv_if_ge (tgt := 30) hx hb dX0_tell_24 (by decide) (fun c3 => ?_) (fun c3 => ?_)
      · have h := mm_pos c3 h
        refine lv_iload_n hx hb dX0_tell_30 rfl (lv_at hl 2 rfl) ?_
        by_cases c4 : a2 = 0
        · have h := mm_pos c4 h
          refine lv_tableIn (off := 25) (tgt := 56) hx hb dX0_tell_31 (by rw [c4]; decide) (by rw [c4]; decide) (by rw [c4]; decide) (by decide) ?_
          have hl := lv_sub (l' := [(3, .int v1), (0, .ref (b + 4))]) hl [0, 1] rfl
          refine lv_aload_n hx hb dX0_tell_56 rfl (lv_at hl 1 rfl) ?_
          refine mm_get (v := .ref (b + 5)) C hH hin0 rfl kl_4 (mm_e0 kd_4) (j := 0) (by decide) rfl w3 rfl dX0_tell_57 ?_
          refine lv_iload_n hx hb dX0_tell_60 rfl (lv_at hl 0 rfl) ?_
          obtain ⟨g1, h⟩ := mm_grn h
          refine mm_iald (n := 20) (jn := (Int32.toNatClampNeg v1)) C hH kd_5 ln_5 g1 rfl dX0_tell_61 ?_
          exact mm_iretP C hH hr hlk rfl h dX0_tell_62
        have h := mm_neg c4 h
        by_cases c5 : a2 = 1
        · have h := mm_pos c5 h
          refine lv_tableIn (off := 32) (tgt := 63) hx hb dX0_tell_31 (by rw [c5]; decide) (by rw [c5]; decide) (by rw [c5]; decide) (by decide) ?_
          have hl := lv_sub (l' := [(3, .int v1), (0, .ref (b + 4))]) hl [0, 1] rfl
          refine lv_aload_n hx hb dX0_tell_63 rfl (lv_at hl 1 rfl) ?_
          refine mm_get (v := .ref (b + 6)) C hH hin0 rfl kl_4 (mm_e0 kd_4) (j := 1) (by decide) rfl w4 rfl dX0_tell_64 ?_
          refine lv_iload_n hx hb dX0_tell_67 rfl (lv_at hl 0 rfl) ?_
          obtain ⟨g2, h⟩ := mm_grn h
          refine mm_iald (n := 20) (jn := (Int32.toNatClampNeg v1)) C hH kd_6 ln_6 g2 rfl dX0_tell_68 ?_
          exact mm_iretP C hH hr hlk rfl h dX0_tell_69
        have h := mm_neg c5 h
        by_cases c6 : a2 = 2
        · have h := mm_pos c6 h
          refine lv_tableIn (off := 39) (tgt := 70) hx hb dX0_tell_31 (by rw [c6]; decide) (by rw [c6]; decide) (by rw [c6]; decide) (by decide) ?_
          have hl := lv_sub (l' := [(3, .int v1), (0, .ref (b + 4))]) hl [0, 1] rfl
          refine lv_aload_n hx hb dX0_tell_70 rfl (lv_at hl 1 rfl) ?_
          refine mm_get (v := .ref (b + 7)) C hH hin0 rfl kl_4 (mm_e0 kd_4) (j := 2) (by decide) rfl w5 rfl dX0_tell_71 ?_
          refine lv_iload_n hx hb dX0_tell_74 rfl (lv_at hl 0 rfl) ?_
          obtain ⟨g3, h⟩ := mm_grn h
          refine mm_iald (n := 20) (jn := (Int32.toNatClampNeg v1)) C hH kd_7 ln_7 g3 rfl dX0_tell_75 ?_
          exact mm_iretP C hH hr hlk rfl h dX0_tell_76
        have h := mm_neg c6 h
        have nc4 := mm_tn (a := 0) c4 (by decide)
        have nc5 := mm_tn (a := 1) c5 (by decide)
        have nc6 := mm_tn (a := 2) c6 (by decide)
        refine lv_tableOut (tgt := 77) hx hb dX0_tell_31 (by omega) (by decide) ?_
        have hl := lv_sub (l' := []) hl [] rfl
        refine lv_bipush (v := (-2)) hx hb dX0_tell_77 (by decide) ?_
        exact mm_iretP C hH hr hlk rfl h dX0_tell_79
      · have h := mm_neg c3 h
        obtain ⟨v2, e2, h⟩ := mm_bnd h
        refine lv_iinc (v := v2) (lv' := [(3, .int v2), (0, .ref (b + 4)), (2, .int a2)]) hx hb dX0_tell_27 hl (k := 0) rfl (Option.some.inj e2) (by decide) rfl (fun ls hl => ?_)
        refine lv_iload_n hx hb dX0_tell_30 rfl (lv_at hl 2 rfl) ?_
        by_cases c7 : a2 = 0
        · have h := mm_pos c7 h
          refine lv_tableIn (off := 25) (tgt := 56) hx hb dX0_tell_31 (by rw [c7]; decide) (by rw [c7]; decide) (by rw [c7]; decide) (by decide) ?_
          have hl := lv_sub (l' := [(3, .int v2), (0, .ref (b + 4))]) hl [0, 1] rfl
          refine lv_aload_n hx hb dX0_tell_56 rfl (lv_at hl 1 rfl) ?_
          refine mm_get (v := .ref (b + 5)) C hH hin0 rfl kl_4 (mm_e0 kd_4) (j := 0) (by decide) rfl w3 rfl dX0_tell_57 ?_
          refine lv_iload_n hx hb dX0_tell_60 rfl (lv_at hl 0 rfl) ?_
          obtain ⟨g4, h⟩ := mm_grn h
          refine mm_iald (n := 20) (jn := (Int32.toNatClampNeg v2)) C hH kd_5 ln_5 g4 rfl dX0_tell_61 ?_
          exact mm_iretP C hH hr hlk rfl h dX0_tell_62
        have h := mm_neg c7 h
        by_cases c8 : a2 = 1
        · have h := mm_pos c8 h
          refine lv_tableIn (off := 32) (tgt := 63) hx hb dX0_tell_31 (by rw [c8]; decide) (by rw [c8]; decide) (by rw [c8]; decide) (by decide) ?_
          have hl := lv_sub (l' := [(3, .int v2), (0, .ref (b + 4))]) hl [0, 1] rfl
          refine lv_aload_n hx hb dX0_tell_63 rfl (lv_at hl 1 rfl) ?_
          refine mm_get (v := .ref (b + 6)) C hH hin0 rfl kl_4 (mm_e0 kd_4) (j := 1) (by decide) rfl w4 rfl dX0_tell_64 ?_
          refine lv_iload_n hx hb dX0_tell_67 rfl (lv_at hl 0 rfl) ?_
          obtain ⟨g5, h⟩ := mm_grn h
          refine mm_iald (n := 20) (jn := (Int32.toNatClampNeg v2)) C hH kd_6 ln_6 g5 rfl dX0_tell_68 ?_
          exact mm_iretP C hH hr hlk rfl h dX0_tell_69
        have h := mm_neg c8 h
        by_cases c9 : a2 = 2
        · have h := mm_pos c9 h
          refine lv_tableIn (off := 39) (tgt := 70) hx hb dX0_tell_31 (by rw [c9]; decide) (by rw [c9]; decide) (by rw [c9]; decide) (by decide) ?_
          have hl := lv_sub (l' := [(3, .int v2), (0, .ref (b + 4))]) hl [0, 1] rfl
          refine lv_aload_n hx hb dX0_tell_70 rfl (lv_at hl 1 rfl) ?_
          refine mm_get (v := .ref (b + 7)) C hH hin0 rfl kl_4 (mm_e0 kd_4) (j := 2) (by decide) rfl w5 rfl dX0_tell_71 ?_
          refine lv_iload_n hx hb dX0_tell_74 rfl (lv_at hl 0 rfl) ?_
          obtain ⟨g6, h⟩ := mm_grn h
          refine mm_iald (n := 20) (jn := (Int32.toNatClampNeg v2)) C hH kd_7 ln_7 g6 rfl dX0_tell_75 ?_
          exact mm_iretP C hH hr hlk rfl h dX0_tell_76
        have h := mm_neg c9 h
        have nc7 := mm_tn (a := 0) c7 (by decide)
        have nc8 := mm_tn (a := 1) c8 (by decide)
        have nc9 := mm_tn (a := 2) c9 (by decide)
        refine lv_tableOut (tgt := 77) hx hb dX0_tell_31 (by omega) (by decide) ?_
        have hl := lv_sub (l' := []) hl [] rfl
        refine lv_bipush (v := (-2)) hx hb dX0_tell_77 (by decide) ?_
        exact mm_iretP C hH hr hlk rfl h dX0_tell_79
    · have h := mm_neg c2 h
      have hl := lv_sub (l' := []) hl [] rfl
      refine lv_iconst (v := (-1)) hx hb dX0_tell_12 (by decide) ?_
      exact mm_iretP C hH hr hlk rfl h dX0_tell_13
def fn_X0_copyFrom (k0 : Nat) (k1 : Nat) (x : mm_M) : Option mm_M :=
  if mm_kd k0 = 0 then if mm_kd k1 = 0 then (some (mm_cy x (k1 + 1) (k0 + 1) 0 0 20)).bind fun x1 => (some (mm_cy x1 (k1 + 2) (k0 + 2) 0 0 20)).bind fun x2 => (some (mm_cy x2 (k1 + 3) (k0 + 3) 0 0 20)).bind fun x3 => (some (mm_up x3 k0 3 (x3 k1 3))).bind fun x4 => (some (mm_up x4 k0 4 (x4 k1 4))).bind fun x5 => some x5 else none else none
abbrev rm_X0_copyFrom : Room := { frames := 1, cells := 0, slots := 0, locals := 26 }
theorem df_X0_copyFrom : yX0_copyFrom.cls = RX0 ∧ yX0_copyFrom.cls ≠ "java/lang/invoke/MethodHandle" ∧ yX0_copyFrom.cls ≠ "java/lang/invoke/VarHandle" ∧ (parseMethodDescriptor yX0_copyFrom.desc).map (fun d => d.parameters.length) = some 1 := by decide +kernel
set_option maxRecDepth 100000 in
set_option maxHeartbeats 4000000 in
theorem ct_X0_copyFrom (l : Launch) (G : va_G) (T : Nat → ClassId) (b : Nat) (z : Nat → Nat) (k0 : Nat) (k1 : Nat) (x : mm_M) {x1 : mm_M} (h : fn_X0_copyFrom k0 k1 x = some x1) : mm_Cv l yX0_copyFrom wsX0_copyFrom rm_X0_copyFrom G T b z [.ref (b + k0), .ref (b + k1)] x x1 := by
  unfold fn_X0_copyFrom at h
  refine mm_start (cc := cX0_copyFrom) (maxL := 2) (ret := none) (by decide) rfl (Nat.le_of_ble_eq_true rfl) (fun p e s m below meth c ls C hr hlk hH hl => ?_)
  have hl : lv_has ls 2 [(0, .ref (b + k0)), (1, .ref (b + k1))] := hl
  have hx := C.1
  have hb := C.2.1
  have w1 := C.2.2.2.2.1 (.fieldLink RX0 9 "LandingFines$Journal" "sorts" "[I") (by decide +kernel)
  have w2 := C.2.2.2.2.1 (.methodLink RX0 34 arraycopyName) (by decide +kernel)
  have w3 := C.2.2.2.2.1 (.native arraycopyName) (by decide +kernel)
  have w4 := C.2.2.2.2.1 (.static arraycopyName) (by decide +kernel)
  have w5 := C.2.2.2.2.1 (.initialized "java/lang/System") (by decide +kernel)
  have w6 := C.2.2.2.2.1 (.fieldLink RX0 15 "LandingFines$Journal" "places" "[I") (by decide +kernel)
  have w7 := C.2.2.2.2.1 (.fieldLink RX0 18 "LandingFines$Journal" "minutes" "[I") (by decide +kernel)
  have w8 := C.2.2.2.2.1 (.fieldLink RX0 21 "LandingFines$Journal" "size" "I") (by decide +kernel)
  have w9 := C.2.2.2.2.1 (.fieldLink RX0 25 "LandingFines$Journal" "next" "I") (by decide +kernel)
  have hin0 : ∀ w ∈ wsX00, w ∈ wsX0_copyFrom := by decide +kernel
  obtain ⟨hk0, h⟩ := mm_grd h
  have hk0l := mm_lt hk0 (by decide)
  obtain ⟨hk1, h⟩ := mm_grd h
  have hk1l := mm_lt hk1 (by decide)
  refine lv_aload_n hx hb dX0_copyFrom_0 rfl (lv_at hl 1 rfl) ?_
  refine mm_get (v := .ref (b + (k1 + 1))) C hH hin0 rfl hk1l (mm_e0 hk1) (j := 0) (by decide) rfl w1 rfl dX0_copyFrom_1 ?_
  refine lv_iconst (v := 0) hx hb dX0_copyFrom_4 (by decide) ?_
  refine lv_aload_n hx hb dX0_copyFrom_5 rfl (lv_at hl 0 rfl) ?_
  refine mm_get (v := .ref (b + (k0 + 1))) C hH hin0 rfl hk0l (mm_e0 hk0) (j := 0) (by decide) rfl w1 rfl dX0_copyFrom_6 ?_
  refine lv_iconst (v := 0) hx hb dX0_copyFrom_9 (by decide) ?_
  refine lv_bipush (v := 20) hx hb dX0_copyFrom_10 (by decide) ?_
  obtain ⟨x1, e1, h⟩ := mm_bnd h
  refine mm_copy (n0 := 20) (n1 := 20) C hl.1.symm hH (mm_jn1 hk1).1 (mm_jn1 hk0).1 (mm_jn1 hk1).2 (mm_jn1 hk0).2 w2 w3 w4 w5 (by decide) (by decide) (by decide) (by decide) (by decide) (Nat.le_of_ble_eq_true rfl) (Nat.le_of_ble_eq_true rfl) (Option.some.inj e1) dX0_copyFrom_12 (fun H locs hH => ?_)
  refine lv_aload_n hx hb dX0_copyFrom_15 rfl (lv_at hl 1 rfl) ?_
  refine mm_get (v := .ref (b + (k1 + 2))) C hH hin0 rfl hk1l (mm_e0 hk1) (j := 1) (by decide) rfl w6 rfl dX0_copyFrom_16 ?_
  refine lv_iconst (v := 0) hx hb dX0_copyFrom_19 (by decide) ?_
  refine lv_aload_n hx hb dX0_copyFrom_20 rfl (lv_at hl 0 rfl) ?_
  refine mm_get (v := .ref (b + (k0 + 2))) C hH hin0 rfl hk0l (mm_e0 hk0) (j := 1) (by decide) rfl w6 rfl dX0_copyFrom_21 ?_
  refine lv_iconst (v := 0) hx hb dX0_copyFrom_24 (by decide) ?_
  refine lv_bipush (v := 20) hx hb dX0_copyFrom_25 (by decide) ?_
  obtain ⟨x2, e2, h⟩ := mm_bnd h
  refine mm_copy (n0 := 20) (n1 := 20) C hl.1.symm hH (mm_jn2 hk1).1 (mm_jn2 hk0).1 (mm_jn2 hk1).2 (mm_jn2 hk0).2 w2 w3 w4 w5 (by decide) (by decide) (by decide) (by decide) (by decide) (Nat.le_of_ble_eq_true rfl) (Nat.le_of_ble_eq_true rfl) (Option.some.inj e2) dX0_copyFrom_27 (fun H locs hH => ?_)
  refine lv_aload_n hx hb dX0_copyFrom_30 rfl (lv_at hl 1 rfl) ?_
  refine mm_get (v := .ref (b + (k1 + 3))) C hH hin0 rfl hk1l (mm_e0 hk1) (j := 2) (by decide) rfl w7 rfl dX0_copyFrom_31 ?_
  refine lv_iconst (v := 0) hx hb dX0_copyFrom_34 (by decide) ?_
  refine lv_aload_n hx hb dX0_copyFrom_35 rfl (lv_at hl 0 rfl) ?_
  refine mm_get (v := .ref (b + (k0 + 3))) C hH hin0 rfl hk0l (mm_e0 hk0) (j := 2) (by decide) rfl w7 rfl dX0_copyFrom_36 ?_
  refine lv_iconst (v := 0) hx hb dX0_copyFrom_39 (by decide) ?_
  refine lv_bipush (v := 20) hx hb dX0_copyFrom_40 (by decide) ?_
  obtain ⟨x3, e3, h⟩ := mm_bnd h
  refine mm_copy (n0 := 20) (n1 := 20) C hl.1.symm hH (mm_jn3 hk1).1 (mm_jn3 hk0).1 (mm_jn3 hk1).2 (mm_jn3 hk0).2 w2 w3 w4 w5 (by decide) (by decide) (by decide) (by decide) (by decide) (Nat.le_of_ble_eq_true rfl) (Nat.le_of_ble_eq_true rfl) (Option.some.inj e3) dX0_copyFrom_42 (fun H locs hH => ?_)
  refine lv_aload_n hx hb dX0_copyFrom_45 rfl (lv_at hl 0 rfl) ?_
  refine lv_aload_n hx hb dX0_copyFrom_46 rfl (lv_at hl 1 rfl) ?_
  refine mm_get (v := .int (x3 k1 3)) C hH hin0 rfl hk1l (mm_e0 hk1) (j := 3) (by decide) rfl w8 rfl dX0_copyFrom_47 ?_
  obtain ⟨x4, e4, h⟩ := mm_bnd h
  refine mm_put (ty := .int) C hH hin0 tyX0_ok nmX0 rfl hk0l (mm_e0 hk0) (j := 3) (by decide) rfl w8 pd_I rfl rfl (Nat.le_of_ble_eq_true rfl) (sp_0_3 hk0) (Option.some.inj e4) dX0_copyFrom_50 (fun H locs hH => ?_)
  refine lv_aload_n hx hb dX0_copyFrom_53 rfl (lv_at hl 0 rfl) ?_
  refine lv_aload_n hx hb dX0_copyFrom_54 rfl (lv_at hl 1 rfl) ?_
  refine mm_get (v := .int (x4 k1 4)) C hH hin0 rfl hk1l (mm_e0 hk1) (j := 4) (by decide) rfl w9 rfl dX0_copyFrom_55 ?_
  obtain ⟨x5, e5, h⟩ := mm_bnd h
  refine mm_put (ty := .int) C hH hin0 tyX0_ok nmX0 rfl hk0l (mm_e0 hk0) (j := 4) (by decide) rfl w9 pd_I rfl rfl (Nat.le_of_ble_eq_true rfl) (sp_0_4 hk0) (Option.some.inj e5) dX0_copyFrom_58 (fun H locs hH => ?_)
  exact mm_vret C hH hr hlk h dX0_copyFrom_61
def fn_X1_arrive (k0 : Nat) (a1 : Int32) (x : mm_M) : Option mm_M :=
  if mm_kd k0 = 1 then (some (mm_up x k0 0 1)).bind fun x1 => (some (mm_up x1 k0 1 a1)).bind fun x2 => (some (mm_up x2 k0 2 0)).bind fun x3 => (some (mm_up x3 k0 3 0)).bind fun x4 => (some (mm_up x4 k0 4 0)).bind fun x5 => (some (mm_up x5 k0 5 0)).bind fun x6 => (some (mm_up x6 k0 6 0)).bind fun x7 => (some (mm_up x7 k0 7 0)).bind fun x8 => some x8 else none
abbrev rm_X1_arrive : Room := { frames := 0, cells := 0, slots := 0, locals := 0 }
theorem df_X1_arrive : yX1_arrive.cls = RX1 ∧ yX1_arrive.cls ≠ "java/lang/invoke/MethodHandle" ∧ yX1_arrive.cls ≠ "java/lang/invoke/VarHandle" ∧ (parseMethodDescriptor yX1_arrive.desc).map (fun d => d.parameters.length) = some 1 := by decide +kernel
set_option maxRecDepth 100000 in
set_option maxHeartbeats 4000000 in
theorem ct_X1_arrive (l : Launch) (G : va_G) (T : Nat → ClassId) (b : Nat) (z : Nat → Nat) (k0 : Nat) (a1 : Int32) (x : mm_M) {x1 : mm_M} (h : fn_X1_arrive k0 a1 x = some x1) : mm_Cv l yX1_arrive wsX1_arrive rm_X1_arrive G T b z [.ref (b + k0), .int a1] x x1 := by
  unfold fn_X1_arrive at h
  refine mm_start (cc := cX1_arrive) (maxL := 2) (ret := none) (by decide) rfl (Nat.le_of_ble_eq_true rfl) (fun p e s m below meth c ls C hr hlk hH hl => ?_)
  have hl : lv_has ls 2 [(0, .ref (b + k0)), (1, .int a1)] := hl
  have hx := C.1
  have hb := C.2.1
  have w1 := C.2.2.2.2.1 (.fieldLink RX1 9 "LandingFines$Landing" "isOpen" "Z") (by decide +kernel)
  have w2 := C.2.2.2.2.1 (.fieldLink RX1 15 "LandingFines$Landing" "fare" "I") (by decide +kernel)
  have w3 := C.2.2.2.2.1 (.fieldLink RX1 19 "LandingFines$Landing" "fine" "I") (by decide +kernel)
  have w4 := C.2.2.2.2.1 (.fieldLink RX1 22 "LandingFines$Landing" "isShunned" "Z") (by decide +kernel)
  have w5 := C.2.2.2.2.1 (.fieldLink RX1 25 "LandingFines$Landing" "minutesShunned" "I") (by decide +kernel)
  have w6 := C.2.2.2.2.1 (.fieldLink RX1 28 "LandingFines$Landing" "minutesSinceHalving" "I") (by decide +kernel)
  have w7 := C.2.2.2.2.1 (.fieldLink RX1 31 "LandingFines$Landing" "changes" "I") (by decide +kernel)
  have w8 := C.2.2.2.2.1 (.fieldLink RX1 34 "LandingFines$Landing" "timesShunned" "I") (by decide +kernel)
  have hin1 : ∀ w ∈ wsX10, w ∈ wsX1_arrive := by decide +kernel
  obtain ⟨hk0, h⟩ := mm_grd h
  have hk0l := mm_lt hk0 (by decide)
  refine lv_aload_n hx hb dX1_arrive_0 rfl (lv_at hl 0 rfl) ?_
  refine lv_iconst (v := 1) hx hb dX1_arrive_1 (by decide) ?_
  obtain ⟨x1, e1, h⟩ := mm_bnd h
  refine mm_put (ty := .boolean) C hH hin1 tyX1_ok nmX1 rfl hk0l (mm_e1 hk0) (j := 0) (by decide) rfl w1 pd_Z rfl rfl (Nat.le_of_ble_eq_true rfl) (sp_1_0 hk0) (Option.some.inj e1) dX1_arrive_2 (fun H locs hH => ?_)
  refine lv_aload_n hx hb dX1_arrive_5 rfl (lv_at hl 0 rfl) ?_
  refine lv_iload_n hx hb dX1_arrive_6 rfl (lv_at hl 1 rfl) ?_
  obtain ⟨x2, e2, h⟩ := mm_bnd h
  refine mm_put (ty := .int) C hH hin1 tyX1_ok nmX1 rfl hk0l (mm_e1 hk0) (j := 1) (by decide) rfl w2 pd_I rfl rfl (Nat.le_of_ble_eq_true rfl) (sp_1_1 hk0) (Option.some.inj e2) dX1_arrive_7 (fun H locs hH => ?_)
  refine lv_aload_n hx hb dX1_arrive_10 rfl (lv_at hl 0 rfl) ?_
  refine lv_iconst (v := 0) hx hb dX1_arrive_11 (by decide) ?_
  obtain ⟨x3, e3, h⟩ := mm_bnd h
  refine mm_put (ty := .int) C hH hin1 tyX1_ok nmX1 rfl hk0l (mm_e1 hk0) (j := 2) (by decide) rfl w3 pd_I rfl rfl (Nat.le_of_ble_eq_true rfl) (sp_1_2 hk0) (Option.some.inj e3) dX1_arrive_12 (fun H locs hH => ?_)
  refine lv_aload_n hx hb dX1_arrive_15 rfl (lv_at hl 0 rfl) ?_
  refine lv_iconst (v := 0) hx hb dX1_arrive_16 (by decide) ?_
  obtain ⟨x4, e4, h⟩ := mm_bnd h
  refine mm_put (ty := .boolean) C hH hin1 tyX1_ok nmX1 rfl hk0l (mm_e1 hk0) (j := 3) (by decide) rfl w4 pd_Z rfl rfl (Nat.le_of_ble_eq_true rfl) (sp_1_3 hk0) (Option.some.inj e4) dX1_arrive_17 (fun H locs hH => ?_)
  refine lv_aload_n hx hb dX1_arrive_20 rfl (lv_at hl 0 rfl) ?_
  refine lv_iconst (v := 0) hx hb dX1_arrive_21 (by decide) ?_
  obtain ⟨x5, e5, h⟩ := mm_bnd h
  refine mm_put (ty := .int) C hH hin1 tyX1_ok nmX1 rfl hk0l (mm_e1 hk0) (j := 4) (by decide) rfl w5 pd_I rfl rfl (Nat.le_of_ble_eq_true rfl) (sp_1_4 hk0) (Option.some.inj e5) dX1_arrive_22 (fun H locs hH => ?_)
  refine lv_aload_n hx hb dX1_arrive_25 rfl (lv_at hl 0 rfl) ?_
  refine lv_iconst (v := 0) hx hb dX1_arrive_26 (by decide) ?_
  obtain ⟨x6, e6, h⟩ := mm_bnd h
  refine mm_put (ty := .int) C hH hin1 tyX1_ok nmX1 rfl hk0l (mm_e1 hk0) (j := 5) (by decide) rfl w6 pd_I rfl rfl (Nat.le_of_ble_eq_true rfl) (sp_1_5 hk0) (Option.some.inj e6) dX1_arrive_27 (fun H locs hH => ?_)
  refine lv_aload_n hx hb dX1_arrive_30 rfl (lv_at hl 0 rfl) ?_
  refine lv_iconst (v := 0) hx hb dX1_arrive_31 (by decide) ?_
  obtain ⟨x7, e7, h⟩ := mm_bnd h
  refine mm_put (ty := .int) C hH hin1 tyX1_ok nmX1 rfl hk0l (mm_e1 hk0) (j := 6) (by decide) rfl w7 pd_I rfl rfl (Nat.le_of_ble_eq_true rfl) (sp_1_6 hk0) (Option.some.inj e7) dX1_arrive_32 (fun H locs hH => ?_)
  refine lv_aload_n hx hb dX1_arrive_35 rfl (lv_at hl 0 rfl) ?_
  refine lv_iconst (v := 0) hx hb dX1_arrive_36 (by decide) ?_
  obtain ⟨x8, e8, h⟩ := mm_bnd h
  refine mm_put (ty := .int) C hH hin1 tyX1_ok nmX1 rfl hk0l (mm_e1 hk0) (j := 7) (by decide) rfl w8 pd_I rfl rfl (Nat.le_of_ble_eq_true rfl) (sp_1_7 hk0) (Option.some.inj e8) dX1_arrive_37 (fun H locs hH => ?_)
  exact mm_vret C hH hr hlk h dX1_arrive_40
def fn_X1_copyFrom (k0 : Nat) (k1 : Nat) (x : mm_M) : Option mm_M :=
  if mm_kd k0 = 1 then if mm_kd k1 = 1 then if vp_nar .boolean (x k1 0) = (x k1 0) then (some (mm_up x k0 0 (x k1 0))).bind fun x1 => (some (mm_up x1 k0 1 (x1 k1 1))).bind fun x2 => (some (mm_up x2 k0 2 (x2 k1 2))).bind fun x3 => if vp_nar .boolean (x3 k1 3) = (x3 k1 3) then (some (mm_up x3 k0 3 (x3 k1 3))).bind fun x4 => (some (mm_up x4 k0 4 (x4 k1 4))).bind fun x5 => (some (mm_up x5 k0 5 (x5 k1 5))).bind fun x6 => (some (mm_up x6 k0 6 (x6 k1 6))).bind fun x7 => (some (mm_up x7 k0 7 (x7 k1 7))).bind fun x8 => some x8 else none else none else none else none
abbrev rm_X1_copyFrom : Room := { frames := 0, cells := 0, slots := 0, locals := 0 }
theorem df_X1_copyFrom : yX1_copyFrom.cls = RX1 ∧ yX1_copyFrom.cls ≠ "java/lang/invoke/MethodHandle" ∧ yX1_copyFrom.cls ≠ "java/lang/invoke/VarHandle" ∧ (parseMethodDescriptor yX1_copyFrom.desc).map (fun d => d.parameters.length) = some 1 := by decide +kernel
set_option maxRecDepth 100000 in
set_option maxHeartbeats 4000000 in
theorem ct_X1_copyFrom (l : Launch) (G : va_G) (T : Nat → ClassId) (b : Nat) (z : Nat → Nat) (k0 : Nat) (k1 : Nat) (x : mm_M) {x1 : mm_M} (h : fn_X1_copyFrom k0 k1 x = some x1) : mm_Cv l yX1_copyFrom wsX1_copyFrom rm_X1_copyFrom G T b z [.ref (b + k0), .ref (b + k1)] x x1 := by
  unfold fn_X1_copyFrom at h
  refine mm_start (cc := cX1_copyFrom) (maxL := 2) (ret := none) (by decide) rfl (Nat.le_of_ble_eq_true rfl) (fun p e s m below meth c ls C hr hlk hH hl => ?_)
  have hl : lv_has ls 2 [(0, .ref (b + k0)), (1, .ref (b + k1))] := hl
  have hx := C.1
  have hb := C.2.1
  have w1 := C.2.2.2.2.1 (.fieldLink RX1 9 "LandingFines$Landing" "isOpen" "Z") (by decide +kernel)
  have w2 := C.2.2.2.2.1 (.fieldLink RX1 15 "LandingFines$Landing" "fare" "I") (by decide +kernel)
  have w3 := C.2.2.2.2.1 (.fieldLink RX1 19 "LandingFines$Landing" "fine" "I") (by decide +kernel)
  have w4 := C.2.2.2.2.1 (.fieldLink RX1 22 "LandingFines$Landing" "isShunned" "Z") (by decide +kernel)
  have w5 := C.2.2.2.2.1 (.fieldLink RX1 25 "LandingFines$Landing" "minutesShunned" "I") (by decide +kernel)
  have w6 := C.2.2.2.2.1 (.fieldLink RX1 28 "LandingFines$Landing" "minutesSinceHalving" "I") (by decide +kernel)
  have w7 := C.2.2.2.2.1 (.fieldLink RX1 31 "LandingFines$Landing" "changes" "I") (by decide +kernel)
  have w8 := C.2.2.2.2.1 (.fieldLink RX1 34 "LandingFines$Landing" "timesShunned" "I") (by decide +kernel)
  have hin1 : ∀ w ∈ wsX10, w ∈ wsX1_copyFrom := by decide +kernel
  obtain ⟨hk0, h⟩ := mm_grd h
  have hk0l := mm_lt hk0 (by decide)
  obtain ⟨hk1, h⟩ := mm_grd h
  have hk1l := mm_lt hk1 (by decide)
  refine lv_aload_n hx hb dX1_copyFrom_0 rfl (lv_at hl 0 rfl) ?_
  refine lv_aload_n hx hb dX1_copyFrom_1 rfl (lv_at hl 1 rfl) ?_
  refine mm_get (v := .int (x k1 0)) C hH hin1 rfl hk1l (mm_e1 hk1) (j := 0) (by decide) rfl w1 rfl dX1_copyFrom_2 ?_
  obtain ⟨g1, h⟩ := mm_grd h
  obtain ⟨x1, e1, h⟩ := mm_bnd h
  refine mm_put (ty := .boolean) C hH hin1 tyX1_ok nmX1 rfl hk0l (mm_e1 hk0) (j := 0) (by decide) rfl w1 pd_Z (mm_narZ g1) (mm_fitZ g1) (Nat.le_of_ble_eq_true rfl) (sp_1_0 hk0) (Option.some.inj e1) dX1_copyFrom_5 (fun H locs hH => ?_)
  refine lv_aload_n hx hb dX1_copyFrom_8 rfl (lv_at hl 0 rfl) ?_
  refine lv_aload_n hx hb dX1_copyFrom_9 rfl (lv_at hl 1 rfl) ?_
  refine mm_get (v := .int (x1 k1 1)) C hH hin1 rfl hk1l (mm_e1 hk1) (j := 1) (by decide) rfl w2 rfl dX1_copyFrom_10 ?_
  obtain ⟨x2, e2, h⟩ := mm_bnd h
  refine mm_put (ty := .int) C hH hin1 tyX1_ok nmX1 rfl hk0l (mm_e1 hk0) (j := 1) (by decide) rfl w2 pd_I rfl rfl (Nat.le_of_ble_eq_true rfl) (sp_1_1 hk0) (Option.some.inj e2) dX1_copyFrom_13 (fun H locs hH => ?_)
  refine lv_aload_n hx hb dX1_copyFrom_16 rfl (lv_at hl 0 rfl) ?_
  refine lv_aload_n hx hb dX1_copyFrom_17 rfl (lv_at hl 1 rfl) ?_
  refine mm_get (v := .int (x2 k1 2)) C hH hin1 rfl hk1l (mm_e1 hk1) (j := 2) (by decide) rfl w3 rfl dX1_copyFrom_18 ?_
  obtain ⟨x3, e3, h⟩ := mm_bnd h
  refine mm_put (ty := .int) C hH hin1 tyX1_ok nmX1 rfl hk0l (mm_e1 hk0) (j := 2) (by decide) rfl w3 pd_I rfl rfl (Nat.le_of_ble_eq_true rfl) (sp_1_2 hk0) (Option.some.inj e3) dX1_copyFrom_21 (fun H locs hH => ?_)
  refine lv_aload_n hx hb dX1_copyFrom_24 rfl (lv_at hl 0 rfl) ?_
  refine lv_aload_n hx hb dX1_copyFrom_25 rfl (lv_at hl 1 rfl) ?_
  refine mm_get (v := .int (x3 k1 3)) C hH hin1 rfl hk1l (mm_e1 hk1) (j := 3) (by decide) rfl w4 rfl dX1_copyFrom_26 ?_
  obtain ⟨g2, h⟩ := mm_grd h
  obtain ⟨x4, e4, h⟩ := mm_bnd h
  refine mm_put (ty := .boolean) C hH hin1 tyX1_ok nmX1 rfl hk0l (mm_e1 hk0) (j := 3) (by decide) rfl w4 pd_Z (mm_narZ g2) (mm_fitZ g2) (Nat.le_of_ble_eq_true rfl) (sp_1_3 hk0) (Option.some.inj e4) dX1_copyFrom_29 (fun H locs hH => ?_)
  refine lv_aload_n hx hb dX1_copyFrom_32 rfl (lv_at hl 0 rfl) ?_
  refine lv_aload_n hx hb dX1_copyFrom_33 rfl (lv_at hl 1 rfl) ?_
  refine mm_get (v := .int (x4 k1 4)) C hH hin1 rfl hk1l (mm_e1 hk1) (j := 4) (by decide) rfl w5 rfl dX1_copyFrom_34 ?_
  obtain ⟨x5, e5, h⟩ := mm_bnd h
  refine mm_put (ty := .int) C hH hin1 tyX1_ok nmX1 rfl hk0l (mm_e1 hk0) (j := 4) (by decide) rfl w5 pd_I rfl rfl (Nat.le_of_ble_eq_true rfl) (sp_1_4 hk0) (Option.some.inj e5) dX1_copyFrom_37 (fun H locs hH => ?_)
  refine lv_aload_n hx hb dX1_copyFrom_40 rfl (lv_at hl 0 rfl) ?_
  refine lv_aload_n hx hb dX1_copyFrom_41 rfl (lv_at hl 1 rfl) ?_
  refine mm_get (v := .int (x5 k1 5)) C hH hin1 rfl hk1l (mm_e1 hk1) (j := 5) (by decide) rfl w6 rfl dX1_copyFrom_42 ?_
  obtain ⟨x6, e6, h⟩ := mm_bnd h
  refine mm_put (ty := .int) C hH hin1 tyX1_ok nmX1 rfl hk0l (mm_e1 hk0) (j := 5) (by decide) rfl w6 pd_I rfl rfl (Nat.le_of_ble_eq_true rfl) (sp_1_5 hk0) (Option.some.inj e6) dX1_copyFrom_45 (fun H locs hH => ?_)
  refine lv_aload_n hx hb dX1_copyFrom_48 rfl (lv_at hl 0 rfl) ?_
  refine lv_aload_n hx hb dX1_copyFrom_49 rfl (lv_at hl 1 rfl) ?_
  refine mm_get (v := .int (x6 k1 6)) C hH hin1 rfl hk1l (mm_e1 hk1) (j := 6) (by decide) rfl w7 rfl dX1_copyFrom_50 ?_
  obtain ⟨x7, e7, h⟩ := mm_bnd h
  refine mm_put (ty := .int) C hH hin1 tyX1_ok nmX1 rfl hk0l (mm_e1 hk0) (j := 6) (by decide) rfl w7 pd_I rfl rfl (Nat.le_of_ble_eq_true rfl) (sp_1_6 hk0) (Option.some.inj e7) dX1_copyFrom_53 (fun H locs hH => ?_)
  refine lv_aload_n hx hb dX1_copyFrom_56 rfl (lv_at hl 0 rfl) ?_
  refine lv_aload_n hx hb dX1_copyFrom_57 rfl (lv_at hl 1 rfl) ?_
  refine mm_get (v := .int (x7 k1 7)) C hH hin1 rfl hk1l (mm_e1 hk1) (j := 7) (by decide) rfl w8 rfl dX1_copyFrom_58 ?_
  obtain ⟨x8, e8, h⟩ := mm_bnd h
  refine mm_put (ty := .int) C hH hin1 tyX1_ok nmX1 rfl hk0l (mm_e1 hk0) (j := 7) (by decide) rfl w8 pd_I rfl rfl (Nat.le_of_ble_eq_true rfl) (sp_1_7 hk0) (Option.some.inj e8) dX1_copyFrom_61 (fun H locs hH => ?_)
  exact mm_vret C hH hr hlk h dX1_copyFrom_64
def fn_X1_canBeTaken (k0 : Nat) (x : mm_M) : Option Int32 :=
  if mm_kd k0 = 1 then if (x k0 0) = 0 then some (0 : Int32) else if (x k0 3) = 0 then some (1 : Int32) else some (0 : Int32) else none
abbrev rm_X1_canBeTaken : Room := { frames := 0, cells := 0, slots := 0, locals := 0 }
theorem df_X1_canBeTaken : yX1_canBeTaken.cls = RX1 ∧ yX1_canBeTaken.cls ≠ "java/lang/invoke/MethodHandle" ∧ yX1_canBeTaken.cls ≠ "java/lang/invoke/VarHandle" ∧ (parseMethodDescriptor yX1_canBeTaken.desc).map (fun d => d.parameters.length) = some 0 := by decide +kernel
set_option maxRecDepth 100000 in
set_option maxHeartbeats 4000000 in
theorem ct_X1_canBeTaken (l : Launch) (G : va_G) (T : Nat → ClassId) (b : Nat) (z : Nat → Nat) (k0 : Nat) (x : mm_M) {r : Int32} (h : fn_X1_canBeTaken k0 x = some r) : mm_Ci l yX1_canBeTaken wsX1_canBeTaken rm_X1_canBeTaken G T b z [.ref (b + k0)] x r x := by
  unfold fn_X1_canBeTaken at h
  refine mm_start (cc := cX1_canBeTaken) (maxL := 1) (ret := (some .boolean)) (by decide) rfl (Nat.le_of_ble_eq_true rfl) (fun p e s m below meth c ls C hr hlk hH hl => ?_)
  have hl : lv_has ls 1 [(0, .ref (b + k0))] := hl
  have hx := C.1
  have hb := C.2.1
  have w1 := C.2.2.2.2.1 (.fieldLink RX1 9 "LandingFines$Landing" "isOpen" "Z") (by decide +kernel)
  have w2 := C.2.2.2.2.1 (.fieldLink RX1 22 "LandingFines$Landing" "isShunned" "Z") (by decide +kernel)
  have hin1 : ∀ w ∈ wsX10, w ∈ wsX1_canBeTaken := by decide +kernel
  obtain ⟨hk0, h⟩ := mm_grd h
  have hk0l := mm_lt hk0 (by decide)
  refine lv_aload_n hx hb dX1_canBeTaken_0 rfl (lv_at hl 0 rfl) ?_
  refine mm_get (v := .int (x k0 0)) C hH hin1 rfl hk0l (mm_e1 hk0) (j := 0) (by decide) rfl w1 rfl dX1_canBeTaken_1 ?_
  refine lv_if_eq (tgt := 18) hx hb dX1_canBeTaken_4 (by decide) (fun c1 => ?_) (fun c1 => ?_)
  · have h := mm_pos c1 h
    have hl := lv_sub (l' := []) hl [] rfl
    refine lv_iconst (v := 0) hx hb dX1_canBeTaken_18 (by decide) ?_
    exact mm_iretP C hH hr hlk rfl h dX1_canBeTaken_19
  · have h := mm_neg c1 h
    refine lv_aload_n hx hb dX1_canBeTaken_7 rfl (lv_at hl 0 rfl) ?_
    refine mm_get (v := .int (x k0 3)) C hH hin1 rfl hk0l (mm_e1 hk0) (j := 3) (by decide) rfl w2 rfl dX1_canBeTaken_8 ?_
    refine lv_if_ne (tgt := 18) hx hb dX1_canBeTaken_11 (by decide) (fun c2 => ?_) (fun c2 => ?_)
    · have h := mm_neg c2 h
      have hl := lv_sub (l' := []) hl [] rfl
      refine lv_iconst (v := 0) hx hb dX1_canBeTaken_18 (by decide) ?_
      exact mm_iretP C hH hr hlk rfl h dX1_canBeTaken_19
    · have h := mm_pos c2 h
      have hl := lv_sub (l' := []) hl [] rfl
      refine lv_iconst (v := 1) hx hb dX1_canBeTaken_14 (by decide) ?_
      refine lv_goto (tgt := 19) hx hb dX1_canBeTaken_15 (by decide) ?_
      exact mm_iretP C hH hr hlk rfl h dX1_canBeTaken_19
def fn_X1_addFine (k0 : Nat) (a1 : Int32) (a2 : Int32) (x : mm_M) : Option (mm_M × Int32) :=
  if mm_kd k0 = 1 then (some (mm_up x k0 6 ((x k0 6) + 1))).bind fun x1 => (some (mm_up x1 k0 2 (if (99999 : Int32) < ((x1 k0 2) + a1) then (99999 : Int32) else ((x1 k0 2) + a1)))).bind fun x2 => if (x2 k0 3) = 0 then if a2 < (x2 k0 2) then (some (mm_up x2 k0 3 1)).bind fun x3 => (some (mm_up x3 k0 4 0)).bind fun x4 => (some (mm_up x4 k0 7 ((x4 k0 7) + 1))).bind fun x5 => some (x5, 1) else some (x2, 0) else some (x2, 0) else none
abbrev rm_X1_addFine : Room := { frames := 1, cells := 0, slots := 0, locals := 21 }
theorem df_X1_addFine : yX1_addFine.cls = RX1 ∧ yX1_addFine.cls ≠ "java/lang/invoke/MethodHandle" ∧ yX1_addFine.cls ≠ "java/lang/invoke/VarHandle" ∧ (parseMethodDescriptor yX1_addFine.desc).map (fun d => d.parameters.length) = some 2 := by decide +kernel
set_option maxRecDepth 100000 in
set_option maxHeartbeats 4000000 in
theorem ct_X1_addFine (l : Launch) (G : va_G) (T : Nat → ClassId) (b : Nat) (z : Nat → Nat) (k0 : Nat) (a1 : Int32) (a2 : Int32) (x : mm_M) {x1 : mm_M} {r : Int32} (h : fn_X1_addFine k0 a1 a2 x = some (x1, r)) : mm_Ci l yX1_addFine wsX1_addFine rm_X1_addFine G T b z [.ref (b + k0), .int a1, .int a2] x r x1 := by
  unfold fn_X1_addFine at h
  refine mm_start (cc := cX1_addFine) (maxL := 3) (ret := (some .boolean)) (by decide) rfl (Nat.le_of_ble_eq_true rfl) (fun p e s m below meth c ls C hr hlk hH hl => ?_)
  have hl : lv_has ls 3 [(0, .ref (b + k0)), (1, .int a1), (2, .int a2)] := hl
  have hx := C.1
  have hb := C.2.1
  have w1 := C.2.2.2.2.1 (.fieldLink RX1 31 "LandingFines$Landing" "changes" "I") (by decide +kernel)
  have w2 := C.2.2.2.2.1 (.fieldLink RX1 19 "LandingFines$Landing" "fine" "I") (by decide +kernel)
  have w3 := C.2.2.2.2.1 (.constant RX1 37 (99999)) (by decide +kernel)
  have w4 := C.2.2.2.2.1 (.methodLink RX1 38 Lib.Math.min.name) (by decide +kernel)
  have w5 := C.2.2.2.2.1 (.static Lib.Math.min.name) (by decide +kernel)
  have w6 := C.2.2.2.2.1 (.initialized "java/lang/Math") (by decide +kernel)
  have w7 := C.2.2.2.2.1 (.code Lib.Math.min.name Lib.Math.min.code 2 (some .int)) (by decide +kernel)
  have w8 := C.2.2.2.2.1 (.fieldLink RX1 22 "LandingFines$Landing" "isShunned" "Z") (by decide +kernel)
  have w9 := C.2.2.2.2.1 (.fieldLink RX1 25 "LandingFines$Landing" "minutesShunned" "I") (by decide +kernel)
  have w10 := C.2.2.2.2.1 (.fieldLink RX1 34 "LandingFines$Landing" "timesShunned" "I") (by decide +kernel)
  have hin1 : ∀ w ∈ wsX10, w ∈ wsX1_addFine := by decide +kernel
  obtain ⟨hk0, h⟩ := mm_grd h
  have hk0l := mm_lt hk0 (by decide)
  refine lv_aload_n hx hb dX1_addFine_0 rfl (lv_at hl 0 rfl) ?_
  refine lv_dup hx hb dX1_addFine_1 rfl ?_
  refine mm_get (v := .int (x k0 6)) C hH hin1 rfl hk0l (mm_e1 hk0) (j := 6) (by decide) rfl w1 rfl dX1_addFine_2 ?_
  refine lv_iconst (v := 1) hx hb dX1_addFine_5 (by decide) ?_
  refine lv_iadd hx hb dX1_addFine_6 ?_
  obtain ⟨x1, e1, h⟩ := mm_bnd h
  refine mm_put (ty := .int) C hH hin1 tyX1_ok nmX1 rfl hk0l (mm_e1 hk0) (j := 6) (by decide) rfl w1 pd_I rfl rfl (Nat.le_of_ble_eq_true rfl) (sp_1_6 hk0) (Option.some.inj e1) dX1_addFine_7 (fun H locs hH => ?_)
  refine lv_aload_n hx hb dX1_addFine_10 rfl (lv_at hl 0 rfl) ?_
  refine lv_aload_n hx hb dX1_addFine_11 rfl (lv_at hl 0 rfl) ?_
  refine mm_get (v := .int (x1 k0 2)) C hH hin1 rfl hk0l (mm_e1 hk0) (j := 2) (by decide) rfl w2 rfl dX1_addFine_12 ?_
  refine lv_iload_n hx hb dX1_addFine_15 rfl (lv_at hl 1 rfl) ?_
  refine lv_iadd hx hb dX1_addFine_16 ?_
  refine lv_ldc (own := RX1) (v := 99999) hx hb C.2.2.2.1 w3 dX1_addFine_17 ?_
  refine mm_minv C hl.1.symm w4 w5 w6 w7 (Nat.le_of_ble_eq_true rfl) (Nat.le_of_ble_eq_true rfl) (Nat.zero_le _) (Nat.zero_le _) dX1_addFine_19 ?_
  obtain ⟨x2, e2, h⟩ := mm_bnd h
  refine mm_put (ty := .int) C hH hin1 tyX1_ok nmX1 rfl hk0l (mm_e1 hk0) (j := 2) (by decide) rfl w2 pd_I rfl rfl (Nat.le_of_ble_eq_true rfl) (sp_1_2 hk0) (Option.some.inj e2) dX1_addFine_22 (fun H locs hH => ?_)
  refine lv_aload_n hx hb dX1_addFine_25 rfl (lv_at hl 0 rfl) ?_
  refine mm_get (v := .int (x2 k0 3)) C hH hin1 rfl hk0l (mm_e1 hk0) (j := 3) (by decide) rfl w8 rfl dX1_addFine_26 ?_
  refine lv_if_ne (tgt := 40) hx hb dX1_addFine_29 (by decide) (fun c1 => ?_) (fun c1 => ?_)
  · have h := mm_neg c1 h
    have hl := lv_sub (l' := []) hl [] rfl
    refine lv_iconst (v := 0) hx hb dX1_addFine_40 (by decide) ?_
    exact mm_iret C hH hr hlk rfl h dX1_addFine_41
  · have h := mm_pos c1 h
    have hl := lv_sub (l' := [(0, .ref (b + k0)), (2, .int a2)]) hl [0, 2] rfl
    refine lv_aload_n hx hb dX1_addFine_32 rfl (lv_at hl 0 rfl) ?_
    refine mm_get (v := .int (x2 k0 2)) C hH hin1 rfl hk0l (mm_e1 hk0) (j := 2) (by decide) rfl w2 rfl dX1_addFine_33 ?_
    refine lv_iload_n hx hb dX1_addFine_36 rfl (lv_at hl 1 rfl) ?_
    refine lv_icmp_gt (tgt := 42) hx hb dX1_addFine_37 (by decide) (fun c2 => ?_) (fun c2 => ?_)
    · have h := mm_pos c2 h
      have hl := lv_sub (l' := [(0, .ref (b + k0))]) hl [0] rfl
      refine lv_aload_n hx hb dX1_addFine_42 rfl (lv_at hl 0 rfl) ?_
      refine lv_iconst (v := 1) hx hb dX1_addFine_43 (by decide) ?_
      obtain ⟨x3, e3, h⟩ := mm_bnd h
      refine mm_put (ty := .boolean) C hH hin1 tyX1_ok nmX1 rfl hk0l (mm_e1 hk0) (j := 3) (by decide) rfl w8 pd_Z rfl rfl (Nat.le_of_ble_eq_true rfl) (sp_1_3 hk0) (Option.some.inj e3) dX1_addFine_44 (fun H locs hH => ?_)
      refine lv_aload_n hx hb dX1_addFine_47 rfl (lv_at hl 0 rfl) ?_
      refine lv_iconst (v := 0) hx hb dX1_addFine_48 (by decide) ?_
      obtain ⟨x4, e4, h⟩ := mm_bnd h
      refine mm_put (ty := .int) C hH hin1 tyX1_ok nmX1 rfl hk0l (mm_e1 hk0) (j := 4) (by decide) rfl w9 pd_I rfl rfl (Nat.le_of_ble_eq_true rfl) (sp_1_4 hk0) (Option.some.inj e4) dX1_addFine_49 (fun H locs hH => ?_)
      refine lv_aload_n hx hb dX1_addFine_52 rfl (lv_at hl 0 rfl) ?_
      refine lv_dup hx hb dX1_addFine_53 rfl ?_
      refine mm_get (v := .int (x4 k0 7)) C hH hin1 rfl hk0l (mm_e1 hk0) (j := 7) (by decide) rfl w10 rfl dX1_addFine_54 ?_
      refine lv_iconst (v := 1) hx hb dX1_addFine_57 (by decide) ?_
      refine lv_iadd hx hb dX1_addFine_58 ?_
      obtain ⟨x5, e5, h⟩ := mm_bnd h
      refine mm_put (ty := .int) C hH hin1 tyX1_ok nmX1 rfl hk0l (mm_e1 hk0) (j := 7) (by decide) rfl w10 pd_I rfl rfl (Nat.le_of_ble_eq_true rfl) (sp_1_7 hk0) (Option.some.inj e5) dX1_addFine_59 (fun H locs hH => ?_)
      refine lv_iconst (v := 1) hx hb dX1_addFine_62 (by decide) ?_
      exact mm_iret C hH hr hlk rfl h dX1_addFine_63
    · have h := mm_neg c2 h
      have hl := lv_sub (l' := []) hl [] rfl
      refine lv_iconst (v := 0) hx hb dX1_addFine_40 (by decide) ?_
      exact mm_iret C hH hr hlk rfl h dX1_addFine_41
def fn_X1_passMinute (k0 : Nat) (a1 : Int32) (a2 : Int32) (a3 : Int32) (x : mm_M) : Option (mm_M × Int32) :=
  if mm_kd k0 = 1 then (some (mm_up x k0 5 ((x k0 5) + 1))).bind fun x1 => if (x1 k0 5) < a1 then if (x1 k0 3) = 0 then some (x1, 0) else (some (mm_up x1 k0 4 ((x1 k0 4) + 1))).bind fun x2 => if (x2 k0 2) < a2 then (some (mm_up x2 k0 3 0)).bind fun x3 => (some (mm_up x3 k0 4 0)).bind fun x4 => (some (mm_up x4 k0 2 (if (a2 - 1) < (x4 k0 2) then (a2 - 1) else (x4 k0 2)))).bind fun x5 => some (x5, 1) else if a3 ≤ (x2 k0 4) then (some (mm_up x2 k0 3 0)).bind fun x6 => (some (mm_up x6 k0 4 0)).bind fun x7 => (some (mm_up x7 k0 2 (if (a2 - 1) < (x7 k0 2) then (a2 - 1) else (x7 k0 2)))).bind fun x8 => some (x8, 1) else some (x2, 0) else (some (mm_up x1 k0 2 ((x1 k0 2) / 2))).bind fun x9 => (some (mm_up x9 k0 5 0)).bind fun x10 => if (x10 k0 3) = 0 then some (x10, 0) else (some (mm_up x10 k0 4 ((x10 k0 4) + 1))).bind fun x11 => if (x11 k0 2) < a2 then (some (mm_up x11 k0 3 0)).bind fun x12 => (some (mm_up x12 k0 4 0)).bind fun x13 => (some (mm_up x13 k0 2 (if (a2 - 1) < (x13 k0 2) then (a2 - 1) else (x13 k0 2)))).bind fun x14 => some (x14, 1) else if a3 ≤ (x11 k0 4) then (some (mm_up x11 k0 3 0)).bind fun x15 => (some (mm_up x15 k0 4 0)).bind fun x16 => (some (mm_up x16 k0 2 (if (a2 - 1) < (x16 k0 2) then (a2 - 1) else (x16 k0 2)))).bind fun x17 => some (x17, 1) else some (x11, 0) else none
abbrev rm_X1_passMinute : Room := { frames := 1, cells := 0, slots := 0, locals := 21 }
theorem df_X1_passMinute : yX1_passMinute.cls = RX1 ∧ yX1_passMinute.cls ≠ "java/lang/invoke/MethodHandle" ∧ yX1_passMinute.cls ≠ "java/lang/invoke/VarHandle" ∧ (parseMethodDescriptor yX1_passMinute.desc).map (fun d => d.parameters.length) = some 3 := by decide +kernel
set_option maxRecDepth 100000 in
set_option maxHeartbeats 4000000 in
theorem ct_X1_passMinute (l : Launch) (G : va_G) (T : Nat → ClassId) (b : Nat) (z : Nat → Nat) (k0 : Nat) (a1 : Int32) (a2 : Int32) (a3 : Int32) (x : mm_M) {x1 : mm_M} {r : Int32} (h : fn_X1_passMinute k0 a1 a2 a3 x = some (x1, r)) : mm_Ci l yX1_passMinute wsX1_passMinute rm_X1_passMinute G T b z [.ref (b + k0), .int a1, .int a2, .int a3] x r x1 := by
  unfold fn_X1_passMinute at h
  refine mm_start (cc := cX1_passMinute) (maxL := 4) (ret := (some .boolean)) (by decide) rfl (Nat.le_of_ble_eq_true rfl) (fun p e s m below meth c ls C hr hlk hH hl => ?_)
  have hl : lv_has ls 4 [(0, .ref (b + k0)), (1, .int a1), (2, .int a2), (3, .int a3)] := hl
  have hx := C.1
  have hb := C.2.1
  have w1 := C.2.2.2.2.1 (.fieldLink RX1 28 "LandingFines$Landing" "minutesSinceHalving" "I") (by decide +kernel)
  have w2 := C.2.2.2.2.1 (.fieldLink RX1 22 "LandingFines$Landing" "isShunned" "Z") (by decide +kernel)
  have w3 := C.2.2.2.2.1 (.fieldLink RX1 25 "LandingFines$Landing" "minutesShunned" "I") (by decide +kernel)
  have w4 := C.2.2.2.2.1 (.fieldLink RX1 19 "LandingFines$Landing" "fine" "I") (by decide +kernel)
  have w5 := C.2.2.2.2.1 (.methodLink RX1 38 Lib.Math.min.name) (by decide +kernel)
  have w6 := C.2.2.2.2.1 (.static Lib.Math.min.name) (by decide +kernel)
  have w7 := C.2.2.2.2.1 (.initialized "java/lang/Math") (by decide +kernel)
  have w8 := C.2.2.2.2.1 (.code Lib.Math.min.name Lib.Math.min.code 2 (some .int)) (by decide +kernel)
  have hin1 : ∀ w ∈ wsX10, w ∈ wsX1_passMinute := by decide +kernel
  obtain ⟨hk0, h⟩ := mm_grd h
  have hk0l := mm_lt hk0 (by decide)
  refine lv_aload_n hx hb dX1_passMinute_0 rfl (lv_at hl 0 rfl) ?_
  refine lv_dup hx hb dX1_passMinute_1 rfl ?_
  refine mm_get (v := .int (x k0 5)) C hH hin1 rfl hk0l (mm_e1 hk0) (j := 5) (by decide) rfl w1 rfl dX1_passMinute_2 ?_
  refine lv_iconst (v := 1) hx hb dX1_passMinute_5 (by decide) ?_
  refine lv_iadd hx hb dX1_passMinute_6 ?_
  obtain ⟨x1, e1, h⟩ := mm_bnd h
  refine mm_put (ty := .int) C hH hin1 tyX1_ok nmX1 rfl hk0l (mm_e1 hk0) (j := 5) (by decide) rfl w1 pd_I rfl rfl (Nat.le_of_ble_eq_true rfl) (sp_1_5 hk0) (Option.some.inj e1) dX1_passMinute_7 (fun H locs hH => ?_)
  refine lv_aload_n hx hb dX1_passMinute_10 rfl (lv_at hl 0 rfl) ?_
  refine mm_get (v := .int (x1 k0 5)) C hH hin1 rfl hk0l (mm_e1 hk0) (j := 5) (by decide) rfl w1 rfl dX1_passMinute_11 ?_
  refine lv_iload_n hx hb dX1_passMinute_14 rfl (lv_at hl 1 rfl) ?_
  refine lv_icmp_lt (tgt := 33) hx hb dX1_passMinute_15 (by decide) (fun c1 => ?_) (fun c1 => ?_)
  · have h := mm_pos c1 h
    have hl := lv_sub (l' := [(0, .ref (b + k0)), (2, .int a2), (3, .int a3)]) hl [0, 2, 3] rfl
    refine lv_aload_n hx hb dX1_passMinute_33 rfl (lv_at hl 0 rfl) ?_
    refine mm_get (v := .int (x1 k0 3)) C hH hin1 rfl hk0l (mm_e1 hk0) (j := 3) (by decide) rfl w2 rfl dX1_passMinute_34 ?_
    refine lv_if_ne (tgt := 42) hx hb dX1_passMinute_37 (by decide) (fun c2 => ?_) (fun c2 => ?_)
    · have h := mm_neg c2 h
      refine lv_aload_n hx hb dX1_passMinute_42 rfl (lv_at hl 0 rfl) ?_
      refine lv_dup hx hb dX1_passMinute_43 rfl ?_
      refine mm_get (v := .int (x1 k0 4)) C hH hin1 rfl hk0l (mm_e1 hk0) (j := 4) (by decide) rfl w3 rfl dX1_passMinute_44 ?_
      refine lv_iconst (v := 1) hx hb dX1_passMinute_47 (by decide) ?_
      refine lv_iadd hx hb dX1_passMinute_48 ?_
      obtain ⟨x2, e2, h⟩ := mm_bnd h
      refine mm_put (ty := .int) C hH hin1 tyX1_ok nmX1 rfl hk0l (mm_e1 hk0) (j := 4) (by decide) rfl w3 pd_I rfl rfl (Nat.le_of_ble_eq_true rfl) (sp_1_4 hk0) (Option.some.inj e2) dX1_passMinute_49 (fun H locs hH => ?_)
      refine lv_aload_n hx hb dX1_passMinute_52 rfl (lv_at hl 0 rfl) ?_
      refine mm_get (v := .int (x2 k0 2)) C hH hin1 rfl hk0l (mm_e1 hk0) (j := 2) (by decide) rfl w4 rfl dX1_passMinute_53 ?_
      refine lv_iload_n hx hb dX1_passMinute_56 rfl (lv_at hl 1 rfl) ?_
      refine lv_icmp_lt (tgt := 70) hx hb dX1_passMinute_57 (by decide) (fun c3 => ?_) (fun c3 => ?_)
      · have h := mm_pos c3 h
        have hl := lv_sub (l' := [(0, .ref (b + k0)), (2, .int a2)]) hl [0, 1] rfl
        refine lv_aload_n hx hb dX1_passMinute_70 rfl (lv_at hl 0 rfl) ?_
        refine lv_iconst (v := 0) hx hb dX1_passMinute_71 (by decide) ?_
        obtain ⟨x3, e3, h⟩ := mm_bnd h
        refine mm_put (ty := .boolean) C hH hin1 tyX1_ok nmX1 rfl hk0l (mm_e1 hk0) (j := 3) (by decide) rfl w2 pd_Z rfl rfl (Nat.le_of_ble_eq_true rfl) (sp_1_3 hk0) (Option.some.inj e3) dX1_passMinute_72 (fun H locs hH => ?_)
        refine lv_aload_n hx hb dX1_passMinute_75 rfl (lv_at hl 0 rfl) ?_
        refine lv_iconst (v := 0) hx hb dX1_passMinute_76 (by decide) ?_
        obtain ⟨x4, e4, h⟩ := mm_bnd h
        refine mm_put (ty := .int) C hH hin1 tyX1_ok nmX1 rfl hk0l (mm_e1 hk0) (j := 4) (by decide) rfl w3 pd_I rfl rfl (Nat.le_of_ble_eq_true rfl) (sp_1_4 hk0) (Option.some.inj e4) dX1_passMinute_77 (fun H locs hH => ?_)
        refine lv_aload_n hx hb dX1_passMinute_80 rfl (lv_at hl 0 rfl) ?_
        refine lv_aload_n hx hb dX1_passMinute_81 rfl (lv_at hl 0 rfl) ?_
        refine mm_get (v := .int (x4 k0 2)) C hH hin1 rfl hk0l (mm_e1 hk0) (j := 2) (by decide) rfl w4 rfl dX1_passMinute_82 ?_
        refine lv_iload_n hx hb dX1_passMinute_85 rfl (lv_at hl 1 rfl) ?_
        refine lv_iconst (v := 1) hx hb dX1_passMinute_86 (by decide) ?_
        refine lv_isub hx hb dX1_passMinute_87 ?_
        refine mm_minv C hl.1.symm w5 w6 w7 w8 (Nat.le_of_ble_eq_true rfl) (Nat.le_of_ble_eq_true rfl) (Nat.zero_le _) (Nat.zero_le _) dX1_passMinute_88 ?_
        obtain ⟨x5, e5, h⟩ := mm_bnd h
        refine mm_put (ty := .int) C hH hin1 tyX1_ok nmX1 rfl hk0l (mm_e1 hk0) (j := 2) (by decide) rfl w4 pd_I rfl rfl (Nat.le_of_ble_eq_true rfl) (sp_1_2 hk0) (Option.some.inj e5) dX1_passMinute_91 (fun H locs hH => ?_)
        refine lv_iconst (v := 1) hx hb dX1_passMinute_94 (by decide) ?_
        exact mm_iret C hH hr hlk rfl h dX1_passMinute_95
      · have h := mm_neg c3 h
        refine lv_aload_n hx hb dX1_passMinute_60 rfl (lv_at hl 0 rfl) ?_
        refine mm_get (v := .int (x2 k0 4)) C hH hin1 rfl hk0l (mm_e1 hk0) (j := 4) (by decide) rfl w3 rfl dX1_passMinute_61 ?_
        refine lv_iload_n hx hb dX1_passMinute_64 rfl (lv_at hl 2 rfl) ?_
        refine lv_icmp_ge (tgt := 70) hx hb dX1_passMinute_65 (by decide) (fun c4 => ?_) (fun c4 => ?_)
        · have h := mm_pos c4 h
          have hl := lv_sub (l' := [(0, .ref (b + k0)), (2, .int a2)]) hl [0, 1] rfl
          refine lv_aload_n hx hb dX1_passMinute_70 rfl (lv_at hl 0 rfl) ?_
          refine lv_iconst (v := 0) hx hb dX1_passMinute_71 (by decide) ?_
          obtain ⟨x6, e6, h⟩ := mm_bnd h
          refine mm_put (ty := .boolean) C hH hin1 tyX1_ok nmX1 rfl hk0l (mm_e1 hk0) (j := 3) (by decide) rfl w2 pd_Z rfl rfl (Nat.le_of_ble_eq_true rfl) (sp_1_3 hk0) (Option.some.inj e6) dX1_passMinute_72 (fun H locs hH => ?_)
          refine lv_aload_n hx hb dX1_passMinute_75 rfl (lv_at hl 0 rfl) ?_
          refine lv_iconst (v := 0) hx hb dX1_passMinute_76 (by decide) ?_
          obtain ⟨x7, e7, h⟩ := mm_bnd h
          refine mm_put (ty := .int) C hH hin1 tyX1_ok nmX1 rfl hk0l (mm_e1 hk0) (j := 4) (by decide) rfl w3 pd_I rfl rfl (Nat.le_of_ble_eq_true rfl) (sp_1_4 hk0) (Option.some.inj e7) dX1_passMinute_77 (fun H locs hH => ?_)
          refine lv_aload_n hx hb dX1_passMinute_80 rfl (lv_at hl 0 rfl) ?_
          refine lv_aload_n hx hb dX1_passMinute_81 rfl (lv_at hl 0 rfl) ?_
          refine mm_get (v := .int (x7 k0 2)) C hH hin1 rfl hk0l (mm_e1 hk0) (j := 2) (by decide) rfl w4 rfl dX1_passMinute_82 ?_
          refine lv_iload_n hx hb dX1_passMinute_85 rfl (lv_at hl 1 rfl) ?_
          refine lv_iconst (v := 1) hx hb dX1_passMinute_86 (by decide) ?_
          refine lv_isub hx hb dX1_passMinute_87 ?_
          refine mm_minv C hl.1.symm w5 w6 w7 w8 (Nat.le_of_ble_eq_true rfl) (Nat.le_of_ble_eq_true rfl) (Nat.zero_le _) (Nat.zero_le _) dX1_passMinute_88 ?_
          obtain ⟨x8, e8, h⟩ := mm_bnd h
          refine mm_put (ty := .int) C hH hin1 tyX1_ok nmX1 rfl hk0l (mm_e1 hk0) (j := 2) (by decide) rfl w4 pd_I rfl rfl (Nat.le_of_ble_eq_true rfl) (sp_1_2 hk0) (Option.some.inj e8) dX1_passMinute_91 (fun H locs hH => ?_)
          refine lv_iconst (v := 1) hx hb dX1_passMinute_94 (by decide) ?_
          exact mm_iret C hH hr hlk rfl h dX1_passMinute_95
        · have h := mm_neg c4 h
          have hl := lv_sub (l' := []) hl [] rfl
          refine lv_iconst (v := 0) hx hb dX1_passMinute_68 (by decide) ?_
          exact mm_iret C hH hr hlk rfl h dX1_passMinute_69
    · have h := mm_pos c2 h
      have hl := lv_sub (l' := []) hl [] rfl
      refine lv_iconst (v := 0) hx hb dX1_passMinute_40 (by decide) ?_
      exact mm_iret C hH hr hlk rfl h dX1_passMinute_41
  · have h := mm_neg c1 h
    have hl := lv_sub (l' := [(0, .ref (b + k0)), (2, .int a2), (3, .int a3)]) hl [0, 2, 3] rfl
    refine lv_aload_n hx hb dX1_passMinute_18 rfl (lv_at hl 0 rfl) ?_
    refine lv_dup hx hb dX1_passMinute_19 rfl ?_
    refine mm_get (v := .int (x1 k0 2)) C hH hin1 rfl hk0l (mm_e1 hk0) (j := 2) (by decide) rfl w4 rfl dX1_passMinute_20 ?_
    refine lv_iconst (v := 2) hx hb dX1_passMinute_23 (by decide) ?_
    refine lv_idiv hx hb dX1_passMinute_24 (by decide) ?_
    obtain ⟨x9, e9, h⟩ := mm_bnd h
    refine mm_put (ty := .int) C hH hin1 tyX1_ok nmX1 rfl hk0l (mm_e1 hk0) (j := 2) (by decide) rfl w4 pd_I rfl rfl (Nat.le_of_ble_eq_true rfl) (sp_1_2 hk0) (Option.some.inj e9) dX1_passMinute_25 (fun H locs hH => ?_)
    refine lv_aload_n hx hb dX1_passMinute_28 rfl (lv_at hl 0 rfl) ?_
    refine lv_iconst (v := 0) hx hb dX1_passMinute_29 (by decide) ?_
    obtain ⟨x10, e10, h⟩ := mm_bnd h
    refine mm_put (ty := .int) C hH hin1 tyX1_ok nmX1 rfl hk0l (mm_e1 hk0) (j := 5) (by decide) rfl w1 pd_I rfl rfl (Nat.le_of_ble_eq_true rfl) (sp_1_5 hk0) (Option.some.inj e10) dX1_passMinute_30 (fun H locs hH => ?_)
    refine lv_aload_n hx hb dX1_passMinute_33 rfl (lv_at hl 0 rfl) ?_
    refine mm_get (v := .int (x10 k0 3)) C hH hin1 rfl hk0l (mm_e1 hk0) (j := 3) (by decide) rfl w2 rfl dX1_passMinute_34 ?_
    refine lv_if_ne (tgt := 42) hx hb dX1_passMinute_37 (by decide) (fun c5 => ?_) (fun c5 => ?_)
    · have h := mm_neg c5 h
      refine lv_aload_n hx hb dX1_passMinute_42 rfl (lv_at hl 0 rfl) ?_
      refine lv_dup hx hb dX1_passMinute_43 rfl ?_
      refine mm_get (v := .int (x10 k0 4)) C hH hin1 rfl hk0l (mm_e1 hk0) (j := 4) (by decide) rfl w3 rfl dX1_passMinute_44 ?_
      refine lv_iconst (v := 1) hx hb dX1_passMinute_47 (by decide) ?_
      refine lv_iadd hx hb dX1_passMinute_48 ?_
      obtain ⟨x11, e11, h⟩ := mm_bnd h
      refine mm_put (ty := .int) C hH hin1 tyX1_ok nmX1 rfl hk0l (mm_e1 hk0) (j := 4) (by decide) rfl w3 pd_I rfl rfl (Nat.le_of_ble_eq_true rfl) (sp_1_4 hk0) (Option.some.inj e11) dX1_passMinute_49 (fun H locs hH => ?_)
      refine lv_aload_n hx hb dX1_passMinute_52 rfl (lv_at hl 0 rfl) ?_
      refine mm_get (v := .int (x11 k0 2)) C hH hin1 rfl hk0l (mm_e1 hk0) (j := 2) (by decide) rfl w4 rfl dX1_passMinute_53 ?_
      refine lv_iload_n hx hb dX1_passMinute_56 rfl (lv_at hl 1 rfl) ?_
      refine lv_icmp_lt (tgt := 70) hx hb dX1_passMinute_57 (by decide) (fun c6 => ?_) (fun c6 => ?_)
      · have h := mm_pos c6 h
        have hl := lv_sub (l' := [(0, .ref (b + k0)), (2, .int a2)]) hl [0, 1] rfl
        refine lv_aload_n hx hb dX1_passMinute_70 rfl (lv_at hl 0 rfl) ?_
        refine lv_iconst (v := 0) hx hb dX1_passMinute_71 (by decide) ?_
        obtain ⟨x12, e12, h⟩ := mm_bnd h
        refine mm_put (ty := .boolean) C hH hin1 tyX1_ok nmX1 rfl hk0l (mm_e1 hk0) (j := 3) (by decide) rfl w2 pd_Z rfl rfl (Nat.le_of_ble_eq_true rfl) (sp_1_3 hk0) (Option.some.inj e12) dX1_passMinute_72 (fun H locs hH => ?_)
        refine lv_aload_n hx hb dX1_passMinute_75 rfl (lv_at hl 0 rfl) ?_
        refine lv_iconst (v := 0) hx hb dX1_passMinute_76 (by decide) ?_
        obtain ⟨x13, e13, h⟩ := mm_bnd h
        refine mm_put (ty := .int) C hH hin1 tyX1_ok nmX1 rfl hk0l (mm_e1 hk0) (j := 4) (by decide) rfl w3 pd_I rfl rfl (Nat.le_of_ble_eq_true rfl) (sp_1_4 hk0) (Option.some.inj e13) dX1_passMinute_77 (fun H locs hH => ?_)
        refine lv_aload_n hx hb dX1_passMinute_80 rfl (lv_at hl 0 rfl) ?_
        refine lv_aload_n hx hb dX1_passMinute_81 rfl (lv_at hl 0 rfl) ?_
        refine mm_get (v := .int (x13 k0 2)) C hH hin1 rfl hk0l (mm_e1 hk0) (j := 2) (by decide) rfl w4 rfl dX1_passMinute_82 ?_
        refine lv_iload_n hx hb dX1_passMinute_85 rfl (lv_at hl 1 rfl) ?_
        refine lv_iconst (v := 1) hx hb dX1_passMinute_86 (by decide) ?_
        refine lv_isub hx hb dX1_passMinute_87 ?_
        refine mm_minv C hl.1.symm w5 w6 w7 w8 (Nat.le_of_ble_eq_true rfl) (Nat.le_of_ble_eq_true rfl) (Nat.zero_le _) (Nat.zero_le _) dX1_passMinute_88 ?_
        obtain ⟨x14, e14, h⟩ := mm_bnd h
        refine mm_put (ty := .int) C hH hin1 tyX1_ok nmX1 rfl hk0l (mm_e1 hk0) (j := 2) (by decide) rfl w4 pd_I rfl rfl (Nat.le_of_ble_eq_true rfl) (sp_1_2 hk0) (Option.some.inj e14) dX1_passMinute_91 (fun H locs hH => ?_)
        refine lv_iconst (v := 1) hx hb dX1_passMinute_94 (by decide) ?_
        exact mm_iret C hH hr hlk rfl h dX1_passMinute_95
      · have h := mm_neg c6 h
        refine lv_aload_n hx hb dX1_passMinute_60 rfl (lv_at hl 0 rfl) ?_
        refine mm_get (v := .int (x11 k0 4)) C hH hin1 rfl hk0l (mm_e1 hk0) (j := 4) (by decide) rfl w3 rfl dX1_passMinute_61 ?_
        refine lv_iload_n hx hb dX1_passMinute_64 rfl (lv_at hl 2 rfl) ?_
        refine lv_icmp_ge (tgt := 70) hx hb dX1_passMinute_65 (by decide) (fun c7 => ?_) (fun c7 => ?_)
        · have h := mm_pos c7 h
          have hl := lv_sub (l' := [(0, .ref (b + k0)), (2, .int a2)]) hl [0, 1] rfl
          refine lv_aload_n hx hb dX1_passMinute_70 rfl (lv_at hl 0 rfl) ?_
          refine lv_iconst (v := 0) hx hb dX1_passMinute_71 (by decide) ?_
          obtain ⟨x15, e15, h⟩ := mm_bnd h
          refine mm_put (ty := .boolean) C hH hin1 tyX1_ok nmX1 rfl hk0l (mm_e1 hk0) (j := 3) (by decide) rfl w2 pd_Z rfl rfl (Nat.le_of_ble_eq_true rfl) (sp_1_3 hk0) (Option.some.inj e15) dX1_passMinute_72 (fun H locs hH => ?_)
          refine lv_aload_n hx hb dX1_passMinute_75 rfl (lv_at hl 0 rfl) ?_
          refine lv_iconst (v := 0) hx hb dX1_passMinute_76 (by decide) ?_
          obtain ⟨x16, e16, h⟩ := mm_bnd h
          refine mm_put (ty := .int) C hH hin1 tyX1_ok nmX1 rfl hk0l (mm_e1 hk0) (j := 4) (by decide) rfl w3 pd_I rfl rfl (Nat.le_of_ble_eq_true rfl) (sp_1_4 hk0) (Option.some.inj e16) dX1_passMinute_77 (fun H locs hH => ?_)
          refine lv_aload_n hx hb dX1_passMinute_80 rfl (lv_at hl 0 rfl) ?_
          refine lv_aload_n hx hb dX1_passMinute_81 rfl (lv_at hl 0 rfl) ?_
          refine mm_get (v := .int (x16 k0 2)) C hH hin1 rfl hk0l (mm_e1 hk0) (j := 2) (by decide) rfl w4 rfl dX1_passMinute_82 ?_
          refine lv_iload_n hx hb dX1_passMinute_85 rfl (lv_at hl 1 rfl) ?_
          refine lv_iconst (v := 1) hx hb dX1_passMinute_86 (by decide) ?_
          refine lv_isub hx hb dX1_passMinute_87 ?_
          refine mm_minv C hl.1.symm w5 w6 w7 w8 (Nat.le_of_ble_eq_true rfl) (Nat.le_of_ble_eq_true rfl) (Nat.zero_le _) (Nat.zero_le _) dX1_passMinute_88 ?_
          obtain ⟨x17, e17, h⟩ := mm_bnd h
          refine mm_put (ty := .int) C hH hin1 tyX1_ok nmX1 rfl hk0l (mm_e1 hk0) (j := 2) (by decide) rfl w4 pd_I rfl rfl (Nat.le_of_ble_eq_true rfl) (sp_1_2 hk0) (Option.some.inj e17) dX1_passMinute_91 (fun H locs hH => ?_)
          refine lv_iconst (v := 1) hx hb dX1_passMinute_94 (by decide) ?_
          exact mm_iret C hH hr hlk rfl h dX1_passMinute_95
        · have h := mm_neg c7 h
          have hl := lv_sub (l' := []) hl [] rfl
          refine lv_iconst (v := 0) hx hb dX1_passMinute_68 (by decide) ?_
          exact mm_iret C hH hr hlk rfl h dX1_passMinute_69
    · have h := mm_pos c5 h
      have hl := lv_sub (l' := []) hl [] rfl
      refine lv_iconst (v := 0) hx hb dX1_passMinute_40 (by decide) ?_
      exact mm_iret C hH hr hlk rfl h dX1_passMinute_41
def fn_X1_tell (k0 : Nat) (a1 : Int32) (x : mm_M) : Option Int32 :=
  if mm_kd k0 = 1 then if a1 = 0 then if (x k0 0) = 0 then some (0 : Int32) else some (1 : Int32) else if a1 = 1 then some (x k0 1) else if a1 = 2 then some (x k0 2) else if a1 = 3 then if (x k0 3) = 0 then some (0 : Int32) else some (1 : Int32) else if a1 = 4 then some (x k0 4) else if a1 = 5 then some (x k0 5) else if a1 = 6 then some (x k0 6) else if a1 = 7 then some (x k0 7) else some ((-2) : Int32) else none
abbrev rm_X1_tell : Room := { frames := 0, cells := 0, slots := 0, locals := 0 }
theorem df_X1_tell : yX1_tell.cls = RX1 ∧ yX1_tell.cls ≠ "java/lang/invoke/MethodHandle" ∧ yX1_tell.cls ≠ "java/lang/invoke/VarHandle" ∧ (parseMethodDescriptor yX1_tell.desc).map (fun d => d.parameters.length) = some 1 := by decide +kernel
set_option maxRecDepth 100000 in
set_option maxHeartbeats 4000000 in
theorem ct_X1_tell (l : Launch) (G : va_G) (T : Nat → ClassId) (b : Nat) (z : Nat → Nat) (k0 : Nat) (a1 : Int32) (x : mm_M) {r : Int32} (h : fn_X1_tell k0 a1 x = some r) : mm_Ci l yX1_tell wsX1_tell rm_X1_tell G T b z [.ref (b + k0), .int a1] x r x := by
  unfold fn_X1_tell at h
  refine mm_start (cc := cX1_tell) (maxL := 2) (ret := (some .int)) (by decide) rfl (Nat.le_of_ble_eq_true rfl) (fun p e s m below meth c ls C hr hlk hH hl => ?_)
  have hl : lv_has ls 2 [(0, .ref (b + k0)), (1, .int a1)] := hl
  have hx := C.1
  have hb := C.2.1
  have w1 := C.2.2.2.2.1 (.fieldLink RX1 9 "LandingFines$Landing" "isOpen" "Z") (by decide +kernel)
  have w2 := C.2.2.2.2.1 (.fieldLink RX1 15 "LandingFines$Landing" "fare" "I") (by decide +kernel)
  have w3 := C.2.2.2.2.1 (.fieldLink RX1 19 "LandingFines$Landing" "fine" "I") (by decide +kernel)
  have w4 := C.2.2.2.2.1 (.fieldLink RX1 22 "LandingFines$Landing" "isShunned" "Z") (by decide +kernel)
  have w5 := C.2.2.2.2.1 (.fieldLink RX1 25 "LandingFines$Landing" "minutesShunned" "I") (by decide +kernel)
  have w6 := C.2.2.2.2.1 (.fieldLink RX1 28 "LandingFines$Landing" "minutesSinceHalving" "I") (by decide +kernel)
  have w7 := C.2.2.2.2.1 (.fieldLink RX1 31 "LandingFines$Landing" "changes" "I") (by decide +kernel)
  have w8 := C.2.2.2.2.1 (.fieldLink RX1 34 "LandingFines$Landing" "timesShunned" "I") (by decide +kernel)
  have hin1 : ∀ w ∈ wsX10, w ∈ wsX1_tell := by decide +kernel
  obtain ⟨hk0, h⟩ := mm_grd h
  have hk0l := mm_lt hk0 (by decide)
  refine lv_iload_n hx hb dX1_tell_0 rfl (lv_at hl 1 rfl) ?_
  by_cases c1 : a1 = 0
  · have h := mm_pos c1 h
    refine lv_tableIn (off := 47) (tgt := 48) hx hb dX1_tell_1 (by rw [c1]; decide) (by rw [c1]; decide) (by rw [c1]; decide) (by decide) ?_
    have hl := lv_sub (l' := [(0, .ref (b + k0))]) hl [0] rfl
    refine lv_aload_n hx hb dX1_tell_48 rfl (lv_at hl 0 rfl) ?_
    refine mm_get (v := .int (x k0 0)) C hH hin1 rfl hk0l (mm_e1 hk0) (j := 0) (by decide) rfl w1 rfl dX1_tell_49 ?_
    refine lv_if_eq (tgt := 59) hx hb dX1_tell_52 (by decide) (fun c2 => ?_) (fun c2 => ?_)
    · have h := mm_pos c2 h
      have hl := lv_sub (l' := []) hl [] rfl
      refine lv_iconst (v := 0) hx hb dX1_tell_59 (by decide) ?_
      exact mm_iretP C hH hr hlk rfl h dX1_tell_60
    · have h := mm_neg c2 h
      have hl := lv_sub (l' := []) hl [] rfl
      refine lv_iconst (v := 1) hx hb dX1_tell_55 (by decide) ?_
      refine lv_goto (tgt := 60) hx hb dX1_tell_56 (by decide) ?_
      exact mm_iretP C hH hr hlk rfl h dX1_tell_60
  have h := mm_neg c1 h
  by_cases c3 : a1 = 1
  · have h := mm_pos c3 h
    refine lv_tableIn (off := 60) (tgt := 61) hx hb dX1_tell_1 (by rw [c3]; decide) (by rw [c3]; decide) (by rw [c3]; decide) (by decide) ?_
    have hl := lv_sub (l' := [(0, .ref (b + k0))]) hl [0] rfl
    refine lv_aload_n hx hb dX1_tell_61 rfl (lv_at hl 0 rfl) ?_
    refine mm_get (v := .int (x k0 1)) C hH hin1 rfl hk0l (mm_e1 hk0) (j := 1) (by decide) rfl w2 rfl dX1_tell_62 ?_
    exact mm_iretP C hH hr hlk rfl h dX1_tell_65
  have h := mm_neg c3 h
  by_cases c4 : a1 = 2
  · have h := mm_pos c4 h
    refine lv_tableIn (off := 65) (tgt := 66) hx hb dX1_tell_1 (by rw [c4]; decide) (by rw [c4]; decide) (by rw [c4]; decide) (by decide) ?_
    have hl := lv_sub (l' := [(0, .ref (b + k0))]) hl [0] rfl
    refine lv_aload_n hx hb dX1_tell_66 rfl (lv_at hl 0 rfl) ?_
    refine mm_get (v := .int (x k0 2)) C hH hin1 rfl hk0l (mm_e1 hk0) (j := 2) (by decide) rfl w3 rfl dX1_tell_67 ?_
    exact mm_iretP C hH hr hlk rfl h dX1_tell_70
  have h := mm_neg c4 h
  by_cases c5 : a1 = 3
  · have h := mm_pos c5 h
    refine lv_tableIn (off := 70) (tgt := 71) hx hb dX1_tell_1 (by rw [c5]; decide) (by rw [c5]; decide) (by rw [c5]; decide) (by decide) ?_
    have hl := lv_sub (l' := [(0, .ref (b + k0))]) hl [0] rfl
    refine lv_aload_n hx hb dX1_tell_71 rfl (lv_at hl 0 rfl) ?_
    refine mm_get (v := .int (x k0 3)) C hH hin1 rfl hk0l (mm_e1 hk0) (j := 3) (by decide) rfl w4 rfl dX1_tell_72 ?_
    refine lv_if_eq (tgt := 82) hx hb dX1_tell_75 (by decide) (fun c6 => ?_) (fun c6 => ?_)
    · have h := mm_pos c6 h
      have hl := lv_sub (l' := []) hl [] rfl
      refine lv_iconst (v := 0) hx hb dX1_tell_82 (by decide) ?_
      exact mm_iretP C hH hr hlk rfl h dX1_tell_83
    · have h := mm_neg c6 h
      have hl := lv_sub (l' := []) hl [] rfl
      refine lv_iconst (v := 1) hx hb dX1_tell_78 (by decide) ?_
      refine lv_goto (tgt := 83) hx hb dX1_tell_79 (by decide) ?_
      exact mm_iretP C hH hr hlk rfl h dX1_tell_83
  have h := mm_neg c5 h
  by_cases c7 : a1 = 4
  · have h := mm_pos c7 h
    refine lv_tableIn (off := 83) (tgt := 84) hx hb dX1_tell_1 (by rw [c7]; decide) (by rw [c7]; decide) (by rw [c7]; decide) (by decide) ?_
    have hl := lv_sub (l' := [(0, .ref (b + k0))]) hl [0] rfl
    refine lv_aload_n hx hb dX1_tell_84 rfl (lv_at hl 0 rfl) ?_
    refine mm_get (v := .int (x k0 4)) C hH hin1 rfl hk0l (mm_e1 hk0) (j := 4) (by decide) rfl w5 rfl dX1_tell_85 ?_
    exact mm_iretP C hH hr hlk rfl h dX1_tell_88
  have h := mm_neg c7 h
  by_cases c8 : a1 = 5
  · have h := mm_pos c8 h
    refine lv_tableIn (off := 88) (tgt := 89) hx hb dX1_tell_1 (by rw [c8]; decide) (by rw [c8]; decide) (by rw [c8]; decide) (by decide) ?_
    have hl := lv_sub (l' := [(0, .ref (b + k0))]) hl [0] rfl
    refine lv_aload_n hx hb dX1_tell_89 rfl (lv_at hl 0 rfl) ?_
    refine mm_get (v := .int (x k0 5)) C hH hin1 rfl hk0l (mm_e1 hk0) (j := 5) (by decide) rfl w6 rfl dX1_tell_90 ?_
    exact mm_iretP C hH hr hlk rfl h dX1_tell_93
  have h := mm_neg c8 h
  by_cases c9 : a1 = 6
  · have h := mm_pos c9 h
    refine lv_tableIn (off := 93) (tgt := 94) hx hb dX1_tell_1 (by rw [c9]; decide) (by rw [c9]; decide) (by rw [c9]; decide) (by decide) ?_
    have hl := lv_sub (l' := [(0, .ref (b + k0))]) hl [0] rfl
    refine lv_aload_n hx hb dX1_tell_94 rfl (lv_at hl 0 rfl) ?_
    refine mm_get (v := .int (x k0 6)) C hH hin1 rfl hk0l (mm_e1 hk0) (j := 6) (by decide) rfl w7 rfl dX1_tell_95 ?_
    exact mm_iretP C hH hr hlk rfl h dX1_tell_98
  have h := mm_neg c9 h
  by_cases c10 : a1 = 7
  · have h := mm_pos c10 h
    refine lv_tableIn (off := 98) (tgt := 99) hx hb dX1_tell_1 (by rw [c10]; decide) (by rw [c10]; decide) (by rw [c10]; decide) (by decide) ?_
    have hl := lv_sub (l' := [(0, .ref (b + k0))]) hl [0] rfl
    refine lv_aload_n hx hb dX1_tell_99 rfl (lv_at hl 0 rfl) ?_
    refine mm_get (v := .int (x k0 7)) C hH hin1 rfl hk0l (mm_e1 hk0) (j := 7) (by decide) rfl w8 rfl dX1_tell_100 ?_
    exact mm_iretP C hH hr hlk rfl h dX1_tell_103
  have h := mm_neg c10 h
  have nc1 := mm_tn (a := 0) c1 (by decide)
  have nc3 := mm_tn (a := 1) c3 (by decide)
  have nc4 := mm_tn (a := 2) c4 (by decide)
  have nc5 := mm_tn (a := 3) c5 (by decide)
  have nc7 := mm_tn (a := 4) c7 (by decide)
  have nc8 := mm_tn (a := 5) c8 (by decide)
  have nc9 := mm_tn (a := 6) c9 (by decide)
  have nc10 := mm_tn (a := 7) c10 (by decide)
  refine lv_tableOut (tgt := 104) hx hb dX1_tell_1 (by omega) (by decide) ?_
  have hl := lv_sub (l' := []) hl [] rfl
  refine lv_bipush (v := (-2)) hx hb dX1_tell_104 (by decide) ?_
  exact mm_iretP C hH hr hlk rfl h dX1_tell_106
end
section
theorem dX2_init_0 : decode cX2_init 0 = .ok (.aload_n 0, 1) := by decide +kernel
theorem dX2_init_1 : decode cX2_init 1 = .ok (.invokespecial 3, 3) := by decide +kernel
theorem dX2_init_4 : decode cX2_init 4 = .ok (.aload_n 0, 1) := by decide +kernel
theorem dX2_init_5 : decode cX2_init 5 = .ok (.bipush 80, 2) := by decide +kernel
theorem dX2_init_7 : decode cX2_init 7 = .ok (.newarray .char, 2) := by decide +kernel
theorem dX2_init_9 : decode cX2_init 9 = .ok (.putfield 9, 3) := by decide +kernel
theorem dX2_init_12 : decode cX2_init 12 = .ok (.aload_n 0, 1) := by decide +kernel
theorem dX2_init_13 : decode cX2_init 13 = .ok (.iconst 0, 1) := by decide +kernel
theorem dX2_init_14 : decode cX2_init 14 = .ok (.putfield 15, 3) := by decide +kernel
theorem dX2_init_17 : decode cX2_init 17 = .ok (.aload_n 0, 1) := by decide +kernel
theorem dX2_init_18 : decode cX2_init 18 = .ok (.iconst 0, 1) := by decide +kernel
theorem dX2_init_19 : decode cX2_init 19 = .ok (.putfield 19, 3) := by decide +kernel
theorem dX2_init_22 : decode cX2_init 22 = .ok (.aload_n 0, 1) := by decide +kernel
theorem dX2_init_23 : decode cX2_init 23 = .ok (.bipush 32, 2) := by decide +kernel
theorem dX2_init_25 : decode cX2_init 25 = .ok (.putfield 22, 3) := by decide +kernel
theorem dX2_init_28 : decode cX2_init 28 = .ok (.aload_n 0, 1) := by decide +kernel
theorem dX2_init_29 : decode cX2_init 29 = .ok (.iconst 0, 1) := by decide +kernel
theorem dX2_init_30 : decode cX2_init 30 = .ok (.putfield 26, 3) := by decide +kernel
theorem dX2_init_33 : decode cX2_init 33 = .ok (.aload_n 0, 1) := by decide +kernel
theorem dX2_init_34 : decode cX2_init 34 = .ok (.iconst 0, 1) := by decide +kernel
theorem dX2_init_35 : decode cX2_init 35 = .ok (.putfield 29, 3) := by decide +kernel
theorem dX2_init_38 : decode cX2_init 38 = .ok (.return_, 1) := by decide +kernel
theorem dX2_append_0 : decode cX2_append 0 = .ok (.iload_n 3, 1) := by decide +kernel
theorem dX2_append_1 : decode cX2_append 1 = .ok (.iconst 1, 1) := by decide +kernel
theorem dX2_append_2 : decode cX2_append 2 = .ok (.isub, 1) := by decide +kernel
theorem dX2_append_3 : decode cX2_append 3 = .ok (.istore 4, 2) := by decide +kernel
theorem dX2_append_5 : decode cX2_append 5 = .ok (.iload 4, 2) := by decide +kernel
theorem dX2_append_7 : decode cX2_append 7 = .ok (.ifCond .lt 50, 3) := by decide +kernel
theorem dX2_append_10 : decode cX2_append 10 = .ok (.aload_n 0, 1) := by decide +kernel
theorem dX2_append_11 : decode cX2_append 11 = .ok (.getfield 15, 3) := by decide +kernel
theorem dX2_append_14 : decode cX2_append 14 = .ok (.bipush 80, 2) := by decide +kernel
theorem dX2_append_16 : decode cX2_append 16 = .ok (.if_icmp .ge 41, 3) := by decide +kernel
theorem dX2_append_19 : decode cX2_append 19 = .ok (.aload_n 0, 1) := by decide +kernel
theorem dX2_append_20 : decode cX2_append 20 = .ok (.getfield 9, 3) := by decide +kernel
theorem dX2_append_23 : decode cX2_append 23 = .ok (.aload_n 0, 1) := by decide +kernel
theorem dX2_append_24 : decode cX2_append 24 = .ok (.getfield 15, 3) := by decide +kernel
theorem dX2_append_27 : decode cX2_append 27 = .ok (.lload_n 1, 1) := by decide +kernel
theorem dX2_append_28 : decode cX2_append 28 = .ok (.bipush 8, 2) := by decide +kernel
theorem dX2_append_30 : decode cX2_append 30 = .ok (.iload 4, 2) := by decide +kernel
theorem dX2_append_32 : decode cX2_append 32 = .ok (.imul, 1) := by decide +kernel
theorem dX2_append_33 : decode cX2_append 33 = .ok (.lushr, 1) := by decide +kernel
theorem dX2_append_34 : decode cX2_append 34 = .ok (.ldc2_w 32, 3) := by decide +kernel
theorem dX2_append_37 : decode cX2_append 37 = .ok (.land, 1) := by decide +kernel
theorem dX2_append_38 : decode cX2_append 38 = .ok (.l2i, 1) := by decide +kernel
theorem dX2_append_39 : decode cX2_append 39 = .ok (.i2c, 1) := by decide +kernel
theorem dX2_append_40 : decode cX2_append 40 = .ok (.castore, 1) := by decide +kernel
theorem dX2_append_41 : decode cX2_append 41 = .ok (.aload_n 0, 1) := by decide +kernel
theorem dX2_append_42 : decode cX2_append 42 = .ok (.dup, 1) := by decide +kernel
theorem dX2_append_43 : decode cX2_append 43 = .ok (.getfield 15, 3) := by decide +kernel
theorem dX2_append_46 : decode cX2_append 46 = .ok (.iconst 1, 1) := by decide +kernel
theorem dX2_append_47 : decode cX2_append 47 = .ok (.iadd, 1) := by decide +kernel
theorem dX2_append_48 : decode cX2_append 48 = .ok (.putfield 15, 3) := by decide +kernel
theorem dX2_append_51 : decode cX2_append 51 = .ok (.iinc 4 (-1), 3) := by decide +kernel
theorem dX2_append_54 : decode cX2_append 54 = .ok (.goto (-49), 3) := by decide +kernel
theorem dX2_append_57 : decode cX2_append 57 = .ok (.return_, 1) := by decide +kernel
theorem dX2_clear_0 : decode cX2_clear 0 = .ok (.aload_n 0, 1) := by decide +kernel
theorem dX2_clear_1 : decode cX2_clear 1 = .ok (.getfield 15, 3) := by decide +kernel
theorem dX2_clear_4 : decode cX2_clear 4 = .ok (.istore_n 1, 1) := by decide +kernel
theorem dX2_clear_5 : decode cX2_clear 5 = .ok (.aload_n 0, 1) := by decide +kernel
theorem dX2_clear_6 : decode cX2_clear 6 = .ok (.iconst 0, 1) := by decide +kernel
theorem dX2_clear_7 : decode cX2_clear 7 = .ok (.putfield 15, 3) := by decide +kernel
theorem dX2_clear_10 : decode cX2_clear 10 = .ok (.iload_n 1, 1) := by decide +kernel
theorem dX2_clear_11 : decode cX2_clear 11 = .ok (.ireturn, 1) := by decide +kernel
set_option maxRecDepth 20000 in
theorem ggX2_findFault_X2_startReading : GoodIn wsX2_findFault wsX2_startReading := goodIn_r _ [7, 1, 32, 33, 34, 35, 36, 37] (by decide +kernel) (by decide +kernel)
set_option maxRecDepth 20000 in
theorem gX2_findFault_X2_startReading : GoodIn wsX2_findFault (wsV RX2 34 RX2 yX2_startReading wsX2_startReading) := goodIn_app (goodIn_of _ (by decide +kernel)) ggX2_findFault_X2_startReading
set_option maxRecDepth 20000 in
theorem ggX2_findFault_X2_readOrder : GoodIn wsX2_findFault wsX2_readOrder := goodIn_r _ [11, 1, 2, 12, 13, 14, 15, 16, 6, 17, 18, 19, 20, 21, 22, 23, 24, 25, 26, 27, 28, 29, 30, 31, 32, 33, 34, 35, 36, 37] (by decide +kernel) (by decide +kernel)
set_option maxRecDepth 20000 in
theorem gX2_findFault_X2_readOrder : GoodIn wsX2_findFault (wsV RX2 37 RX2 yX2_readOrder wsX2_readOrder) := goodIn_app (goodIn_of _ (by decide +kernel)) ggX2_findFault_X2_readOrder
set_option maxRecDepth 20000 in
theorem ggX2_findFault_X2_readSign : GoodIn wsX2_findFault wsX2_readSign := goodIn_r _ [31, 1, 2, 12, 32, 33, 34, 35, 36, 37] (by decide +kernel) (by decide +kernel)
set_option maxRecDepth 20000 in
theorem gX2_findFault_X2_readSign : GoodIn wsX2_findFault (wsV RX2 41 RX2 yX2_readSign wsX2_readSign) := goodIn_app (goodIn_of _ (by decide +kernel)) ggX2_findFault_X2_readSign
theorem dX2_findFault_0 : decode cX2_findFault 0 = .ok (.aload_n 0, 1) := by decide +kernel
theorem dX2_findFault_1 : decode cX2_findFault 1 = .ok (.invokevirtual 34, 3) := by decide +kernel
theorem dX2_findFault_4 : decode cX2_findFault 4 = .ok (.iconst 0, 1) := by decide +kernel
theorem dX2_findFault_5 : decode cX2_findFault 5 = .ok (.istore_n 1, 1) := by decide +kernel
theorem dX2_findFault_6 : decode cX2_findFault 6 = .ok (.iload_n 1, 1) := by decide +kernel
theorem dX2_findFault_7 : decode cX2_findFault 7 = .ok (.bipush 80, 2) := by decide +kernel
theorem dX2_findFault_9 : decode cX2_findFault 9 = .ok (.if_icmp .ge 46, 3) := by decide +kernel
theorem dX2_findFault_12 : decode cX2_findFault 12 = .ok (.aload_n 0, 1) := by decide +kernel
theorem dX2_findFault_13 : decode cX2_findFault 13 = .ok (.invokevirtual 37, 3) := by decide +kernel
theorem dX2_findFault_16 : decode cX2_findFault 16 = .ok (.ifCond .eq 39, 3) := by decide +kernel
theorem dX2_findFault_19 : decode cX2_findFault 19 = .ok (.aload_n 0, 1) := by decide +kernel
theorem dX2_findFault_20 : decode cX2_findFault 20 = .ok (.bipush 59, 2) := by decide +kernel
theorem dX2_findFault_22 : decode cX2_findFault 22 = .ok (.invokevirtual 41, 3) := by decide +kernel
theorem dX2_findFault_25 : decode cX2_findFault 25 = .ok (.ifCond .ne 24, 3) := by decide +kernel
theorem dX2_findFault_28 : decode cX2_findFault 28 = .ok (.aload_n 0, 1) := by decide +kernel
theorem dX2_findFault_29 : decode cX2_findFault 29 = .ok (.getfield 19, 3) := by decide +kernel
theorem dX2_findFault_32 : decode cX2_findFault 32 = .ok (.aload_n 0, 1) := by decide +kernel
theorem dX2_findFault_33 : decode cX2_findFault 33 = .ok (.getfield 15, 3) := by decide +kernel
theorem dX2_findFault_36 : decode cX2_findFault 36 = .ok (.if_icmp .ne 8, 3) := by decide +kernel
theorem dX2_findFault_39 : decode cX2_findFault 39 = .ok (.bipush (-6), 2) := by decide +kernel
theorem dX2_findFault_41 : decode cX2_findFault 41 = .ok (.goto 7, 3) := by decide +kernel
theorem dX2_findFault_44 : decode cX2_findFault 44 = .ok (.aload_n 0, 1) := by decide +kernel
theorem dX2_findFault_45 : decode cX2_findFault 45 = .ok (.getfield 19, 3) := by decide +kernel
theorem dX2_findFault_48 : decode cX2_findFault 48 = .ok (.ireturn, 1) := by decide +kernel
theorem dX2_findFault_49 : decode cX2_findFault 49 = .ok (.iinc 1 1, 3) := by decide +kernel
theorem dX2_findFault_52 : decode cX2_findFault 52 = .ok (.goto (-46), 3) := by decide +kernel
theorem dX2_findFault_55 : decode cX2_findFault 55 = .ok (.aload_n 0, 1) := by decide +kernel
theorem dX2_findFault_56 : decode cX2_findFault 56 = .ok (.getfield 19, 3) := by decide +kernel
theorem dX2_findFault_59 : decode cX2_findFault 59 = .ok (.ireturn, 1) := by decide +kernel
theorem dX2_startReading_0 : decode cX2_startReading 0 = .ok (.aload_n 0, 1) := by decide +kernel
theorem dX2_startReading_1 : decode cX2_startReading 1 = .ok (.iconst 0, 1) := by decide +kernel
theorem dX2_startReading_2 : decode cX2_startReading 2 = .ok (.putfield 19, 3) := by decide +kernel
theorem dX2_startReading_5 : decode cX2_startReading 5 = .ok (.return_, 1) := by decide +kernel
set_option maxRecDepth 20000 in
theorem ggX2_readOrder_X2_readNumber : GoodIn wsX2_readOrder wsX2_readNumber := goodIn_r _ [9, 10, 3, 1, 11, 12, 13, 8, 14, 2, 24, 25, 26, 27, 28, 29] (by decide +kernel) (by decide +kernel)
set_option maxRecDepth 20000 in
theorem gX2_readOrder_X2_readNumber : GoodIn wsX2_readOrder (wsV RX2 45 RX2 yX2_readNumber wsX2_readNumber) := goodIn_app (goodIn_of _ (by decide +kernel)) ggX2_readOrder_X2_readNumber
set_option maxRecDepth 20000 in
theorem ggX2_readOrder_X2_readLanding : GoodIn wsX2_readOrder wsX2_readLanding := goodIn_r _ [18, 3, 1, 19, 11, 12, 13, 8, 14, 2, 24, 25, 26, 27, 28, 29] (by decide +kernel) (by decide +kernel)
set_option maxRecDepth 20000 in
theorem gX2_readOrder_X2_readLanding : GoodIn wsX2_readOrder (wsV RX2 48 RX2 yX2_readLanding wsX2_readLanding) := goodIn_app (goodIn_of _ (by decide +kernel)) ggX2_readOrder_X2_readLanding
set_option maxRecDepth 20000 in
theorem ggX2_readOrder_X2_readSign : GoodIn wsX2_readOrder wsX2_readSign := goodIn_r _ [23, 1, 2, 3, 24, 25, 26, 27, 28, 29] (by decide +kernel) (by decide +kernel)
set_option maxRecDepth 20000 in
theorem gX2_readOrder_X2_readSign : GoodIn wsX2_readOrder (wsV RX2 41 RX2 yX2_readSign wsX2_readSign) := goodIn_app (goodIn_of _ (by decide +kernel)) ggX2_readOrder_X2_readSign
theorem dX2_readOrder_0 : decode cX2_readOrder 0 = .ok (.aload_n 0, 1) := by decide +kernel
theorem dX2_readOrder_1 : decode cX2_readOrder 1 = .ok (.getfield 19, 3) := by decide +kernel
theorem dX2_readOrder_4 : decode cX2_readOrder 4 = .ok (.aload_n 0, 1) := by decide +kernel
theorem dX2_readOrder_5 : decode cX2_readOrder 5 = .ok (.getfield 15, 3) := by decide +kernel
theorem dX2_readOrder_8 : decode cX2_readOrder 8 = .ok (.if_icmp .lt 5, 3) := by decide +kernel
theorem dX2_readOrder_11 : decode cX2_readOrder 11 = .ok (.iconst 0, 1) := by decide +kernel
theorem dX2_readOrder_12 : decode cX2_readOrder 12 = .ok (.ireturn, 1) := by decide +kernel
theorem dX2_readOrder_13 : decode cX2_readOrder 13 = .ok (.aload_n 0, 1) := by decide +kernel
theorem dX2_readOrder_14 : decode cX2_readOrder 14 = .ok (.aload_n 0, 1) := by decide +kernel
theorem dX2_readOrder_15 : decode cX2_readOrder 15 = .ok (.getfield 9, 3) := by decide +kernel
theorem dX2_readOrder_18 : decode cX2_readOrder 18 = .ok (.aload_n 0, 1) := by decide +kernel
theorem dX2_readOrder_19 : decode cX2_readOrder 19 = .ok (.getfield 19, 3) := by decide +kernel
theorem dX2_readOrder_22 : decode cX2_readOrder 22 = .ok (.caload, 1) := by decide +kernel
theorem dX2_readOrder_23 : decode cX2_readOrder 23 = .ok (.putfield 22, 3) := by decide +kernel
theorem dX2_readOrder_26 : decode cX2_readOrder 26 = .ok (.aload_n 0, 1) := by decide +kernel
theorem dX2_readOrder_27 : decode cX2_readOrder 27 = .ok (.getfield 22, 3) := by decide +kernel
theorem dX2_readOrder_30 : decode cX2_readOrder 30 = .ok (.lookupswitch 119 #[(43, 50), (99, 65), (111, 65), (112, 80), (116, 50)], 50) := by decide +kernel
theorem dX2_readOrder_80 : decode cX2_readOrder 80 = .ok (.aload_n 0, 1) := by decide +kernel
theorem dX2_readOrder_81 : decode cX2_readOrder 81 = .ok (.dup, 1) := by decide +kernel
theorem dX2_readOrder_82 : decode cX2_readOrder 82 = .ok (.getfield 19, 3) := by decide +kernel
theorem dX2_readOrder_85 : decode cX2_readOrder 85 = .ok (.iconst 1, 1) := by decide +kernel
theorem dX2_readOrder_86 : decode cX2_readOrder 86 = .ok (.iadd, 1) := by decide +kernel
theorem dX2_readOrder_87 : decode cX2_readOrder 87 = .ok (.putfield 19, 3) := by decide +kernel
theorem dX2_readOrder_90 : decode cX2_readOrder 90 = .ok (.aload_n 0, 1) := by decide +kernel
theorem dX2_readOrder_91 : decode cX2_readOrder 91 = .ok (.invokevirtual 45, 3) := by decide +kernel
theorem dX2_readOrder_94 : decode cX2_readOrder 94 = .ok (.ireturn, 1) := by decide +kernel
theorem dX2_readOrder_95 : decode cX2_readOrder 95 = .ok (.aload_n 0, 1) := by decide +kernel
theorem dX2_readOrder_96 : decode cX2_readOrder 96 = .ok (.dup, 1) := by decide +kernel
theorem dX2_readOrder_97 : decode cX2_readOrder 97 = .ok (.getfield 19, 3) := by decide +kernel
theorem dX2_readOrder_100 : decode cX2_readOrder 100 = .ok (.iconst 1, 1) := by decide +kernel
theorem dX2_readOrder_101 : decode cX2_readOrder 101 = .ok (.iadd, 1) := by decide +kernel
theorem dX2_readOrder_102 : decode cX2_readOrder 102 = .ok (.putfield 19, 3) := by decide +kernel
theorem dX2_readOrder_105 : decode cX2_readOrder 105 = .ok (.aload_n 0, 1) := by decide +kernel
theorem dX2_readOrder_106 : decode cX2_readOrder 106 = .ok (.invokevirtual 48, 3) := by decide +kernel
theorem dX2_readOrder_109 : decode cX2_readOrder 109 = .ok (.ireturn, 1) := by decide +kernel
theorem dX2_readOrder_110 : decode cX2_readOrder 110 = .ok (.aload_n 0, 1) := by decide +kernel
theorem dX2_readOrder_111 : decode cX2_readOrder 111 = .ok (.dup, 1) := by decide +kernel
theorem dX2_readOrder_112 : decode cX2_readOrder 112 = .ok (.getfield 19, 3) := by decide +kernel
theorem dX2_readOrder_115 : decode cX2_readOrder 115 = .ok (.iconst 1, 1) := by decide +kernel
theorem dX2_readOrder_116 : decode cX2_readOrder 116 = .ok (.iadd, 1) := by decide +kernel
theorem dX2_readOrder_117 : decode cX2_readOrder 117 = .ok (.putfield 19, 3) := by decide +kernel
theorem dX2_readOrder_120 : decode cX2_readOrder 120 = .ok (.aload_n 0, 1) := by decide +kernel
theorem dX2_readOrder_121 : decode cX2_readOrder 121 = .ok (.invokevirtual 48, 3) := by decide +kernel
theorem dX2_readOrder_124 : decode cX2_readOrder 124 = .ok (.ifCond .eq 23, 3) := by decide +kernel
theorem dX2_readOrder_127 : decode cX2_readOrder 127 = .ok (.aload_n 0, 1) := by decide +kernel
theorem dX2_readOrder_128 : decode cX2_readOrder 128 = .ok (.bipush 61, 2) := by decide +kernel
theorem dX2_readOrder_130 : decode cX2_readOrder 130 = .ok (.invokevirtual 41, 3) := by decide +kernel
theorem dX2_readOrder_133 : decode cX2_readOrder 133 = .ok (.ifCond .eq 14, 3) := by decide +kernel
theorem dX2_readOrder_136 : decode cX2_readOrder 136 = .ok (.aload_n 0, 1) := by decide +kernel
theorem dX2_readOrder_137 : decode cX2_readOrder 137 = .ok (.invokevirtual 45, 3) := by decide +kernel
theorem dX2_readOrder_140 : decode cX2_readOrder 140 = .ok (.ifCond .eq 7, 3) := by decide +kernel
theorem dX2_readOrder_143 : decode cX2_readOrder 143 = .ok (.iconst 1, 1) := by decide +kernel
theorem dX2_readOrder_144 : decode cX2_readOrder 144 = .ok (.goto 4, 3) := by decide +kernel
theorem dX2_readOrder_147 : decode cX2_readOrder 147 = .ok (.iconst 0, 1) := by decide +kernel
theorem dX2_readOrder_148 : decode cX2_readOrder 148 = .ok (.ireturn, 1) := by decide +kernel
theorem dX2_readOrder_149 : decode cX2_readOrder 149 = .ok (.iconst 0, 1) := by decide +kernel
theorem dX2_readOrder_150 : decode cX2_readOrder 150 = .ok (.ireturn, 1) := by decide +kernel
theorem dX2_readSign_0 : decode cX2_readSign 0 = .ok (.aload_n 0, 1) := by decide +kernel
theorem dX2_readSign_1 : decode cX2_readSign 1 = .ok (.getfield 19, 3) := by decide +kernel
theorem dX2_readSign_4 : decode cX2_readSign 4 = .ok (.aload_n 0, 1) := by decide +kernel
theorem dX2_readSign_5 : decode cX2_readSign 5 = .ok (.getfield 15, 3) := by decide +kernel
theorem dX2_readSign_8 : decode cX2_readSign 8 = .ok (.if_icmp .ge 16, 3) := by decide +kernel
theorem dX2_readSign_11 : decode cX2_readSign 11 = .ok (.aload_n 0, 1) := by decide +kernel
theorem dX2_readSign_12 : decode cX2_readSign 12 = .ok (.getfield 9, 3) := by decide +kernel
theorem dX2_readSign_15 : decode cX2_readSign 15 = .ok (.aload_n 0, 1) := by decide +kernel
theorem dX2_readSign_16 : decode cX2_readSign 16 = .ok (.getfield 19, 3) := by decide +kernel
theorem dX2_readSign_19 : decode cX2_readSign 19 = .ok (.caload, 1) := by decide +kernel
theorem dX2_readSign_20 : decode cX2_readSign 20 = .ok (.iload_n 1, 1) := by decide +kernel
theorem dX2_readSign_21 : decode cX2_readSign 21 = .ok (.if_icmp .eq 5, 3) := by decide +kernel
theorem dX2_readSign_24 : decode cX2_readSign 24 = .ok (.iconst 0, 1) := by decide +kernel
theorem dX2_readSign_25 : decode cX2_readSign 25 = .ok (.ireturn, 1) := by decide +kernel
theorem dX2_readSign_26 : decode cX2_readSign 26 = .ok (.aload_n 0, 1) := by decide +kernel
theorem dX2_readSign_27 : decode cX2_readSign 27 = .ok (.dup, 1) := by decide +kernel
theorem dX2_readSign_28 : decode cX2_readSign 28 = .ok (.getfield 19, 3) := by decide +kernel
theorem dX2_readSign_31 : decode cX2_readSign 31 = .ok (.iconst 1, 1) := by decide +kernel
theorem dX2_readSign_32 : decode cX2_readSign 32 = .ok (.iadd, 1) := by decide +kernel
theorem dX2_readSign_33 : decode cX2_readSign 33 = .ok (.putfield 19, 3) := by decide +kernel
theorem dX2_readSign_36 : decode cX2_readSign 36 = .ok (.iconst 1, 1) := by decide +kernel
theorem dX2_readSign_37 : decode cX2_readSign 37 = .ok (.ireturn, 1) := by decide +kernel
set_option maxRecDepth 20000 in
theorem ggX2_readLanding_X2_isAtDigit : GoodIn wsX2_readLanding wsX2_isAtDigit := goodIn_r _ [8, 2, 9, 1, 10, 11, 12, 13, 14, 15] (by decide +kernel) (by decide +kernel)
set_option maxRecDepth 20000 in
theorem gX2_readLanding_X2_isAtDigit : GoodIn wsX2_readLanding (wsV RX2 51 RX2 yX2_isAtDigit wsX2_isAtDigit) := goodIn_app (goodIn_of _ (by decide +kernel)) ggX2_readLanding_X2_isAtDigit
theorem dX2_readLanding_0 : decode cX2_readLanding 0 = .ok (.aload_n 0, 1) := by decide +kernel
theorem dX2_readLanding_1 : decode cX2_readLanding 1 = .ok (.invokevirtual 51, 3) := by decide +kernel
theorem dX2_readLanding_4 : decode cX2_readLanding 4 = .ok (.ifCond .ne 5, 3) := by decide +kernel
theorem dX2_readLanding_7 : decode cX2_readLanding 7 = .ok (.iconst 0, 1) := by decide +kernel
theorem dX2_readLanding_8 : decode cX2_readLanding 8 = .ok (.ireturn, 1) := by decide +kernel
theorem dX2_readLanding_9 : decode cX2_readLanding 9 = .ok (.aload_n 0, 1) := by decide +kernel
theorem dX2_readLanding_10 : decode cX2_readLanding 10 = .ok (.aload_n 0, 1) := by decide +kernel
theorem dX2_readLanding_11 : decode cX2_readLanding 11 = .ok (.getfield 9, 3) := by decide +kernel
theorem dX2_readLanding_14 : decode cX2_readLanding 14 = .ok (.aload_n 0, 1) := by decide +kernel
theorem dX2_readLanding_15 : decode cX2_readLanding 15 = .ok (.getfield 19, 3) := by decide +kernel
theorem dX2_readLanding_18 : decode cX2_readLanding 18 = .ok (.caload, 1) := by decide +kernel
theorem dX2_readLanding_19 : decode cX2_readLanding 19 = .ok (.bipush 48, 2) := by decide +kernel
theorem dX2_readLanding_21 : decode cX2_readLanding 21 = .ok (.isub, 1) := by decide +kernel
theorem dX2_readLanding_22 : decode cX2_readLanding 22 = .ok (.putfield 26, 3) := by decide +kernel
theorem dX2_readLanding_25 : decode cX2_readLanding 25 = .ok (.aload_n 0, 1) := by decide +kernel
theorem dX2_readLanding_26 : decode cX2_readLanding 26 = .ok (.dup, 1) := by decide +kernel
theorem dX2_readLanding_27 : decode cX2_readLanding 27 = .ok (.getfield 19, 3) := by decide +kernel
theorem dX2_readLanding_30 : decode cX2_readLanding 30 = .ok (.iconst 1, 1) := by decide +kernel
theorem dX2_readLanding_31 : decode cX2_readLanding 31 = .ok (.iadd, 1) := by decide +kernel
theorem dX2_readLanding_32 : decode cX2_readLanding 32 = .ok (.putfield 19, 3) := by decide +kernel
theorem dX2_readLanding_35 : decode cX2_readLanding 35 = .ok (.iconst 1, 1) := by decide +kernel
theorem dX2_readLanding_36 : decode cX2_readLanding 36 = .ok (.ireturn, 1) := by decide +kernel
set_option maxRecDepth 20000 in
theorem ggX2_readNumber_X2_isAtDigit : GoodIn wsX2_readNumber wsX2_isAtDigit := goodIn_r _ [8, 3, 9, 2, 10, 11, 12, 13, 14, 15] (by decide +kernel) (by decide +kernel)
set_option maxRecDepth 20000 in
theorem gX2_readNumber_X2_isAtDigit : GoodIn wsX2_readNumber (wsV RX2 51 RX2 yX2_isAtDigit wsX2_isAtDigit) := goodIn_app (goodIn_of _ (by decide +kernel)) ggX2_readNumber_X2_isAtDigit
theorem dX2_readNumber_0 : decode cX2_readNumber 0 = .ok (.aload_n 0, 1) := by decide +kernel
theorem dX2_readNumber_1 : decode cX2_readNumber 1 = .ok (.invokevirtual 51, 3) := by decide +kernel
theorem dX2_readNumber_4 : decode cX2_readNumber 4 = .ok (.ifCond .ne 5, 3) := by decide +kernel
theorem dX2_readNumber_7 : decode cX2_readNumber 7 = .ok (.iconst 0, 1) := by decide +kernel
theorem dX2_readNumber_8 : decode cX2_readNumber 8 = .ok (.ireturn, 1) := by decide +kernel
theorem dX2_readNumber_9 : decode cX2_readNumber 9 = .ok (.aload_n 0, 1) := by decide +kernel
theorem dX2_readNumber_10 : decode cX2_readNumber 10 = .ok (.iconst 0, 1) := by decide +kernel
theorem dX2_readNumber_11 : decode cX2_readNumber 11 = .ok (.putfield 29, 3) := by decide +kernel
theorem dX2_readNumber_14 : decode cX2_readNumber 14 = .ok (.iconst 0, 1) := by decide +kernel
theorem dX2_readNumber_15 : decode cX2_readNumber 15 = .ok (.istore_n 1, 1) := by decide +kernel
theorem dX2_readNumber_16 : decode cX2_readNumber 16 = .ok (.iload_n 1, 1) := by decide +kernel
theorem dX2_readNumber_17 : decode cX2_readNumber 17 = .ok (.iconst 3, 1) := by decide +kernel
theorem dX2_readNumber_18 : decode cX2_readNumber 18 = .ok (.if_icmp .ge 61, 3) := by decide +kernel
theorem dX2_readNumber_21 : decode cX2_readNumber 21 = .ok (.aload_n 0, 1) := by decide +kernel
theorem dX2_readNumber_22 : decode cX2_readNumber 22 = .ok (.invokevirtual 51, 3) := by decide +kernel
theorem dX2_readNumber_25 : decode cX2_readNumber 25 = .ok (.ifCond .eq 54, 3) := by decide +kernel
theorem dX2_readNumber_28 : decode cX2_readNumber 28 = .ok (.iload_n 1, 1) := by decide +kernel
theorem dX2_readNumber_29 : decode cX2_readNumber 29 = .ok (.ifCond .eq 10, 3) := by decide +kernel
theorem dX2_readNumber_32 : decode cX2_readNumber 32 = .ok (.aload_n 0, 1) := by decide +kernel
theorem dX2_readNumber_33 : decode cX2_readNumber 33 = .ok (.getfield 29, 3) := by decide +kernel
theorem dX2_readNumber_36 : decode cX2_readNumber 36 = .ok (.ifCond .le 43, 3) := by decide +kernel
theorem dX2_readNumber_39 : decode cX2_readNumber 39 = .ok (.aload_n 0, 1) := by decide +kernel
theorem dX2_readNumber_40 : decode cX2_readNumber 40 = .ok (.aload_n 0, 1) := by decide +kernel
theorem dX2_readNumber_41 : decode cX2_readNumber 41 = .ok (.getfield 29, 3) := by decide +kernel
theorem dX2_readNumber_44 : decode cX2_readNumber 44 = .ok (.bipush 10, 2) := by decide +kernel
theorem dX2_readNumber_46 : decode cX2_readNumber 46 = .ok (.imul, 1) := by decide +kernel
theorem dX2_readNumber_47 : decode cX2_readNumber 47 = .ok (.aload_n 0, 1) := by decide +kernel
theorem dX2_readNumber_48 : decode cX2_readNumber 48 = .ok (.getfield 9, 3) := by decide +kernel
theorem dX2_readNumber_51 : decode cX2_readNumber 51 = .ok (.aload_n 0, 1) := by decide +kernel
theorem dX2_readNumber_52 : decode cX2_readNumber 52 = .ok (.getfield 19, 3) := by decide +kernel
theorem dX2_readNumber_55 : decode cX2_readNumber 55 = .ok (.caload, 1) := by decide +kernel
theorem dX2_readNumber_56 : decode cX2_readNumber 56 = .ok (.iadd, 1) := by decide +kernel
theorem dX2_readNumber_57 : decode cX2_readNumber 57 = .ok (.bipush 48, 2) := by decide +kernel
theorem dX2_readNumber_59 : decode cX2_readNumber 59 = .ok (.isub, 1) := by decide +kernel
theorem dX2_readNumber_60 : decode cX2_readNumber 60 = .ok (.putfield 29, 3) := by decide +kernel
theorem dX2_readNumber_63 : decode cX2_readNumber 63 = .ok (.aload_n 0, 1) := by decide +kernel
theorem dX2_readNumber_64 : decode cX2_readNumber 64 = .ok (.dup, 1) := by decide +kernel
theorem dX2_readNumber_65 : decode cX2_readNumber 65 = .ok (.getfield 19, 3) := by decide +kernel
theorem dX2_readNumber_68 : decode cX2_readNumber 68 = .ok (.iconst 1, 1) := by decide +kernel
theorem dX2_readNumber_69 : decode cX2_readNumber 69 = .ok (.iadd, 1) := by decide +kernel
theorem dX2_readNumber_70 : decode cX2_readNumber 70 = .ok (.putfield 19, 3) := by decide +kernel
theorem dX2_readNumber_73 : decode cX2_readNumber 73 = .ok (.iinc 1 1, 3) := by decide +kernel
theorem dX2_readNumber_76 : decode cX2_readNumber 76 = .ok (.goto (-60), 3) := by decide +kernel
theorem dX2_readNumber_79 : decode cX2_readNumber 79 = .ok (.iconst 1, 1) := by decide +kernel
theorem dX2_readNumber_80 : decode cX2_readNumber 80 = .ok (.ireturn, 1) := by decide +kernel
theorem dX2_isAtDigit_0 : decode cX2_isAtDigit 0 = .ok (.aload_n 0, 1) := by decide +kernel
theorem dX2_isAtDigit_1 : decode cX2_isAtDigit 1 = .ok (.getfield 19, 3) := by decide +kernel
theorem dX2_isAtDigit_4 : decode cX2_isAtDigit 4 = .ok (.aload_n 0, 1) := by decide +kernel
theorem dX2_isAtDigit_5 : decode cX2_isAtDigit 5 = .ok (.getfield 15, 3) := by decide +kernel
theorem dX2_isAtDigit_8 : decode cX2_isAtDigit 8 = .ok (.if_icmp .ge 35, 3) := by decide +kernel
theorem dX2_isAtDigit_11 : decode cX2_isAtDigit 11 = .ok (.aload_n 0, 1) := by decide +kernel
theorem dX2_isAtDigit_12 : decode cX2_isAtDigit 12 = .ok (.getfield 9, 3) := by decide +kernel
theorem dX2_isAtDigit_15 : decode cX2_isAtDigit 15 = .ok (.aload_n 0, 1) := by decide +kernel
theorem dX2_isAtDigit_16 : decode cX2_isAtDigit 16 = .ok (.getfield 19, 3) := by decide +kernel
theorem dX2_isAtDigit_19 : decode cX2_isAtDigit 19 = .ok (.caload, 1) := by decide +kernel
theorem dX2_isAtDigit_20 : decode cX2_isAtDigit 20 = .ok (.bipush 48, 2) := by decide +kernel
theorem dX2_isAtDigit_22 : decode cX2_isAtDigit 22 = .ok (.if_icmp .lt 21, 3) := by decide +kernel
theorem dX2_isAtDigit_25 : decode cX2_isAtDigit 25 = .ok (.aload_n 0, 1) := by decide +kernel
theorem dX2_isAtDigit_26 : decode cX2_isAtDigit 26 = .ok (.getfield 9, 3) := by decide +kernel
theorem dX2_isAtDigit_29 : decode cX2_isAtDigit 29 = .ok (.aload_n 0, 1) := by decide +kernel
theorem dX2_isAtDigit_30 : decode cX2_isAtDigit 30 = .ok (.getfield 19, 3) := by decide +kernel
theorem dX2_isAtDigit_33 : decode cX2_isAtDigit 33 = .ok (.caload, 1) := by decide +kernel
theorem dX2_isAtDigit_34 : decode cX2_isAtDigit 34 = .ok (.bipush 57, 2) := by decide +kernel
theorem dX2_isAtDigit_36 : decode cX2_isAtDigit 36 = .ok (.if_icmp .gt 7, 3) := by decide +kernel
theorem dX2_isAtDigit_39 : decode cX2_isAtDigit 39 = .ok (.iconst 1, 1) := by decide +kernel
theorem dX2_isAtDigit_40 : decode cX2_isAtDigit 40 = .ok (.goto 4, 3) := by decide +kernel
theorem dX2_isAtDigit_43 : decode cX2_isAtDigit 43 = .ok (.iconst 0, 1) := by decide +kernel
theorem dX2_isAtDigit_44 : decode cX2_isAtDigit 44 = .ok (.ireturn, 1) := by decide +kernel
end
section
def fn_X2_append_5 : Nat → Int64 → Int32 → mm_M → Option mm_M
  | 0, _, _, _ => none
  | n + 1, a1, i4, x => if i4 < 0 then some (x) else if (80 : Int32) ≤ (x 19 1) then some (x) else if (x 19 1) < 0 ∨ 80 ≤ Int32.toNatClampNeg (x 19 1) then none else (some (mm_up x 20 (Int32.toNatClampNeg (x 19 1)) (vp_nar .char ((Int32.toUInt32 (Int64.toInt32 (((Int64.toUInt64 a1 >>> (Int64.toUInt64 (Int32.toInt64 ((8 : Int32) * i4)) &&& Int64.toUInt64 63)).toInt64) &&& 255)) % 65536).toInt32)))).bind fun x1 => (some (mm_up x1 19 1 ((x1 19 1) + 1))).bind fun x2 => (some (i4 + (-1))).bind fun v1 => fn_X2_append_5 n a1 v1 x2
def fn_X2_append (a1 : Int64) (a3 : Int32) (x : mm_M) : Option mm_M :=
  (some ((a3 - 1) : Int32)).bind fun v1 => (fn_X2_append_5 9 a1 v1 x).bind fun x1 => some x1
abbrev rm_X2_append : Room := { frames := 0, cells := 0, slots := 0, locals := 0 }
theorem df_X2_append : yX2_append.cls = RX2 ∧ yX2_append.cls ≠ "java/lang/invoke/MethodHandle" ∧ yX2_append.cls ≠ "java/lang/invoke/VarHandle" ∧ (parseMethodDescriptor yX2_append.desc).map (fun d => d.parameters.length) = some 2 := by decide +kernel
set_option maxRecDepth 100000 in
set_option maxHeartbeats 4000000 in
theorem lp_X2_append_5 {p : Program} {l : Launch} {e : Env} {s : State} {m : MethodId} {args : Array Value} {below : List Frame} {meth : Method} {c : Code} {Q : State → Prop} {G : va_G} {T : Nat → ClassId} {b : Nat} {z : Nat → Nat} (C : mm_C p m c cX2_append 5 s args wsX2_append RX2 G T b z) (a1 : Int64) : ∀ (n : Nat) (i4 : Int32) (x : mm_M) (H : Heap) (locs : List Loc) (ls : Array Slot) (x1 : mm_M), fn_X2_append_5 n a1 i4 x = some (x1) → mm_H G T b x s H locs → lv_has ls 5 [(0, .ref (b + 19)), (1, .long a1), (4, .int i4)] → (∀ (H1 : Heap) (locs1 : List Loc) (ls1 : Array Slot), mm_H G T b x1 s H1 locs1 → lv_has ls1 5 [] → W p l e rm_X2_append s m args below meth c H1 locs1 0 0 Q (F0 m 57 ls1 [])) → W p l e rm_X2_append s m args below meth c H locs 0 0 Q (F0 m 5 ls []) := by
  have hx := C.1
  have hb := C.2.1
  have w1 := C.2.2.2.2.1 (.fieldLink RX2 15 "LandingFines$Pad" "length" "I") (by decide +kernel)
  have w2 := C.2.2.2.2.1 (.fieldLink RX2 9 "LandingFines$Pad" "signs" "[C") (by decide +kernel)
  have w3 := C.2.2.2.2.1 (.constantLong RX2 32 (255)) (by decide +kernel)
  have hin2 : ∀ w ∈ wsX20, w ∈ wsX2_append := by decide +kernel
  intro n
  induction n with
  | zero => intro _ _ _ _ _ _ h; cases (show (none : Option mm_M) = some _ from h)
  | succ n ih =>
    intro i4 x H locs ls x1 h hH hl kk
    rw [fn_X2_append_5] at h
    refine lv_iload hx hb dX2_append_5 (lv_at hl 2 rfl) ?_
    refine lv_if_lt (tgt := 57) hx hb dX2_append_7 (by decide) (fun c1 => ?_) (fun c1 => ?_)
    · have h := mm_pos c1 h
      have hl := lv_sub (l' := []) hl [] rfl
      cases h
      exact kk _ _ _ hH (lv_sub hl [] rfl)
    · have h := mm_neg c1 h
      refine lv_aload_n hx hb dX2_append_10 rfl (lv_at hl 0 rfl) ?_
      refine mm_get (v := .int (x 19 1)) C hH hin2 rfl kl_19 (mm_e2 kd_19) (j := 1) (by decide) rfl w1 rfl dX2_append_11 ?_
      refine lv_bipush (v := 80) hx hb dX2_append_14 (by decide) ?_
      refine lv_icmp_ge (tgt := 57) hx hb dX2_append_16 (by decide) (fun c2 => ?_) (fun c2 => ?_)
      · have h := mm_pos c2 h
        have hl := lv_sub (l' := []) hl [] rfl
        cases h
        exact kk _ _ _ hH (lv_sub hl [] rfl)
      · have h := mm_neg c2 h
        refine lv_aload_n hx hb dX2_append_19 rfl (lv_at hl 0 rfl) ?_
        refine mm_get (v := .ref (b + 20)) C hH hin2 rfl kl_19 (mm_e2 kd_19) (j := 0) (by decide) rfl w2 rfl dX2_append_20 ?_
        refine lv_aload_n hx hb dX2_append_23 rfl (lv_at hl 0 rfl) ?_
        refine mm_get (v := .int (x 19 1)) C hH hin2 rfl kl_19 (mm_e2 kd_19) (j := 1) (by decide) rfl w1 rfl dX2_append_24 ?_
        refine lv_lload_n hx hb dX2_append_27 rfl (lv_at hl 1 rfl) ?_
        refine lv_bipush (v := 8) hx hb dX2_append_28 (by decide) ?_
        refine lv_iload hx hb dX2_append_30 (lv_at hl 2 rfl) ?_
        refine lv_imul hx hb dX2_append_32 ?_
        refine lv_lushr (v := ((Int64.toUInt64 a1 >>> (Int64.toUInt64 (Int32.toInt64 ((8 : Int32) * i4)) &&& Int64.toUInt64 63)).toInt64)) hx hb dX2_append_33 rfl ?_
        refine lv_ldc2 (own := RX2) (v := 255) hx hb C.2.2.2.1 w3 dX2_append_34 ?_
        refine lv_land hx hb dX2_append_37 ?_
        refine lv_l2i (v := (Int64.toInt32 (((Int64.toUInt64 a1 >>> (Int64.toUInt64 (Int32.toInt64 ((8 : Int32) * i4)) &&& Int64.toUInt64 63)).toInt64) &&& 255))) hx hb dX2_append_38 rfl ?_
        refine lv_i2c (v := ((Int32.toUInt32 (Int64.toInt32 (((Int64.toUInt64 a1 >>> (Int64.toUInt64 (Int32.toInt64 ((8 : Int32) * i4)) &&& Int64.toUInt64 63)).toInt64) &&& 255)) % 65536).toInt32)) hx hb dX2_append_39 rfl ?_
        obtain ⟨g1, h⟩ := mm_grn h
        obtain ⟨x1, e1, h⟩ := mm_bnd h
        refine mm_cast (n := 80) (jn := (Int32.toNatClampNeg (x 19 1))) C hH kd_20 ln_20 g1 rfl (Option.some.inj e1) dX2_append_40 (fun H locs hH => ?_)
        refine lv_aload_n hx hb dX2_append_41 rfl (lv_at hl 0 rfl) ?_
        refine lv_dup hx hb dX2_append_42 rfl ?_
        refine mm_get (v := .int (x1 19 1)) C hH hin2 rfl kl_19 (mm_e2 kd_19) (j := 1) (by decide) rfl w1 rfl dX2_append_43 ?_
        refine lv_iconst (v := 1) hx hb dX2_append_46 (by decide) ?_
        refine lv_iadd hx hb dX2_append_47 ?_
        obtain ⟨x2, e2, h⟩ := mm_bnd h
        refine mm_put (ty := .int) C hH hin2 tyX2_ok nmX2 rfl kl_19 (mm_e2 kd_19) (j := 1) (by decide) rfl w1 pd_I rfl rfl (Nat.le_of_ble_eq_true rfl) (sp_2_1 kd_19) (Option.some.inj e2) dX2_append_48 (fun H locs hH => ?_)
        obtain ⟨v1, e3, h⟩ := mm_bnd h
        refine lv_iinc (v := v1) (lv' := [(4, .int v1), (0, .ref (b + 19)), (1, .long a1)]) hx hb dX2_append_51 hl (k := 2) rfl (Option.some.inj e3) (by decide) rfl (fun ls hl => ?_)
        refine lv_goto (tgt := 5) hx hb dX2_append_54 (by decide) ?_
        exact ih v1 x2 _ _ _ _ h hH (lv_sub hl [1, 2, 0] rfl) kk
set_option maxRecDepth 100000 in
set_option maxHeartbeats 4000000 in
theorem ct_X2_append (l : Launch) (G : va_G) (T : Nat → ClassId) (b : Nat) (z : Nat → Nat) (a1 : Int64) (a3 : Int32) (x : mm_M) {x1 : mm_M} (h : fn_X2_append a1 a3 x = some x1) : mm_Cv l yX2_append wsX2_append rm_X2_append G T b z [.ref (b + 19), .long a1, .int a3] x x1 := by
  unfold fn_X2_append at h
  refine mm_start (cc := cX2_append) (maxL := 5) (ret := none) (by decide) rfl (Nat.le_of_ble_eq_true rfl) (fun p e s m below meth c ls C hr hlk hH hl => ?_)
  have hl : lv_has ls 5 [(0, .ref (b + 19)), (1, .long a1), (3, .int a3)] := hl
  have hx := C.1
  have hb := C.2.1
  refine lv_iload_n hx hb dX2_append_0 rfl (lv_at hl 2 rfl) ?_
  refine lv_iconst (v := 1) hx hb dX2_append_1 (by decide) ?_
  refine lv_isub hx hb dX2_append_2 ?_
  obtain ⟨v1, e1, h⟩ := mm_bnd h
  refine mm_nmi e1 ?_
  refine lv_istore (lv' := [(4, .int v1), (0, .ref (b + 19)), (1, .long a1), (3, .int a3)]) hx hb dX2_append_3 hl (by decide) rfl (fun ls hl => ?_)
  have hl := lv_sub (l' := [(4, .int v1), (0, .ref (b + 19)), (1, .long a1)]) hl [0, 1, 2] rfl
  obtain ⟨x1, e2, h⟩ := mm_bnd h
  refine lp_X2_append_5 C a1 9 v1 x _ _ _ _ e2 hH (lv_sub hl [1, 2, 0] rfl) (fun H locs ls hH hl => ?_)
  exact mm_vret C hH hr hlk h dX2_append_57
def fn_X2_clear  (x : mm_M) : Option (mm_M × Int32) :=
  (some ((x 19 1) : Int32)).bind fun v1 => (some (mm_up x 19 1 0)).bind fun x1 => some (x1, v1)
abbrev rm_X2_clear : Room := { frames := 0, cells := 0, slots := 0, locals := 0 }
theorem df_X2_clear : yX2_clear.cls = RX2 ∧ yX2_clear.cls ≠ "java/lang/invoke/MethodHandle" ∧ yX2_clear.cls ≠ "java/lang/invoke/VarHandle" ∧ (parseMethodDescriptor yX2_clear.desc).map (fun d => d.parameters.length) = some 0 := by decide +kernel
set_option maxRecDepth 100000 in
set_option maxHeartbeats 4000000 in
theorem ct_X2_clear (l : Launch) (G : va_G) (T : Nat → ClassId) (b : Nat) (z : Nat → Nat)  (x : mm_M) {x1 : mm_M} {r : Int32} (h : fn_X2_clear  x = some (x1, r)) : mm_Ci l yX2_clear wsX2_clear rm_X2_clear G T b z [.ref (b + 19)] x r x1 := by
  unfold fn_X2_clear at h
  refine mm_start (cc := cX2_clear) (maxL := 2) (ret := (some .int)) (by decide) rfl (Nat.le_of_ble_eq_true rfl) (fun p e s m below meth c ls C hr hlk hH hl => ?_)
  have hl : lv_has ls 2 [(0, .ref (b + 19))] := hl
  have hx := C.1
  have hb := C.2.1
  have w1 := C.2.2.2.2.1 (.fieldLink RX2 15 "LandingFines$Pad" "length" "I") (by decide +kernel)
  have hin2 : ∀ w ∈ wsX20, w ∈ wsX2_clear := by decide +kernel
  refine lv_aload_n hx hb dX2_clear_0 rfl (lv_at hl 0 rfl) ?_
  refine mm_get (v := .int (x 19 1)) C hH hin2 rfl kl_19 (mm_e2 kd_19) (j := 1) (by decide) rfl w1 rfl dX2_clear_1 ?_
  obtain ⟨v1, e1, h⟩ := mm_bnd h
  refine mm_nmi e1 ?_
  refine lv_istore_n (lv' := [(1, .int v1), (0, .ref (b + 19))]) hx hb dX2_clear_4 rfl hl (by decide) rfl (fun ls hl => ?_)
  refine lv_aload_n hx hb dX2_clear_5 rfl (lv_at hl 1 rfl) ?_
  refine lv_iconst (v := 0) hx hb dX2_clear_6 (by decide) ?_
  obtain ⟨x1, e2, h⟩ := mm_bnd h
  refine mm_put (ty := .int) C hH hin2 tyX2_ok nmX2 rfl kl_19 (mm_e2 kd_19) (j := 1) (by decide) rfl w1 pd_I rfl rfl (Nat.le_of_ble_eq_true rfl) (sp_2_1 kd_19) (Option.some.inj e2) dX2_clear_7 (fun H locs hH => ?_)
  refine lv_iload_n hx hb dX2_clear_10 rfl (lv_at hl 0 rfl) ?_
  exact mm_iret C hH hr hlk rfl h dX2_clear_11
def fn_X2_startReading  (x : mm_M) : Option mm_M :=
  (some (mm_up x 19 2 0)).bind fun x1 => some x1
abbrev rm_X2_startReading : Room := { frames := 0, cells := 0, slots := 0, locals := 0 }
theorem df_X2_startReading : yX2_startReading.cls = RX2 ∧ yX2_startReading.cls ≠ "java/lang/invoke/MethodHandle" ∧ yX2_startReading.cls ≠ "java/lang/invoke/VarHandle" ∧ (parseMethodDescriptor yX2_startReading.desc).map (fun d => d.parameters.length) = some 0 := by decide +kernel
set_option maxRecDepth 100000 in
set_option maxHeartbeats 4000000 in
theorem ct_X2_startReading (l : Launch) (G : va_G) (T : Nat → ClassId) (b : Nat) (z : Nat → Nat)  (x : mm_M) {x1 : mm_M} (h : fn_X2_startReading  x = some x1) : mm_Cv l yX2_startReading wsX2_startReading rm_X2_startReading G T b z [.ref (b + 19)] x x1 := by
  unfold fn_X2_startReading at h
  refine mm_start (cc := cX2_startReading) (maxL := 1) (ret := none) (by decide) rfl (Nat.le_of_ble_eq_true rfl) (fun p e s m below meth c ls C hr hlk hH hl => ?_)
  have hl : lv_has ls 1 [(0, .ref (b + 19))] := hl
  have hx := C.1
  have hb := C.2.1
  have w1 := C.2.2.2.2.1 (.fieldLink RX2 19 "LandingFines$Pad" "place" "I") (by decide +kernel)
  have hin2 : ∀ w ∈ wsX20, w ∈ wsX2_startReading := by decide +kernel
  refine lv_aload_n hx hb dX2_startReading_0 rfl (lv_at hl 0 rfl) ?_
  refine lv_iconst (v := 0) hx hb dX2_startReading_1 (by decide) ?_
  obtain ⟨x1, e1, h⟩ := mm_bnd h
  refine mm_put (ty := .int) C hH hin2 tyX2_ok nmX2 rfl kl_19 (mm_e2 kd_19) (j := 2) (by decide) rfl w1 pd_I rfl rfl (Nat.le_of_ble_eq_true rfl) (sp_2_2 kd_19) (Option.some.inj e1) dX2_startReading_2 (fun H locs hH => ?_)
  exact mm_vret C hH hr hlk h dX2_startReading_5
def fn_X2_isAtDigit  (x : mm_M) : Option Int32 :=
  if (x 19 1) ≤ (x 19 2) then some (0 : Int32) else if (x 19 2) < 0 ∨ 80 ≤ Int32.toNatClampNeg (x 19 2) then none else if (x 20 (Int32.toNatClampNeg (x 19 2))) < 48 then some (0 : Int32) else if (x 19 2) < 0 ∨ 80 ≤ Int32.toNatClampNeg (x 19 2) then none else if (57 : Int32) < (x 20 (Int32.toNatClampNeg (x 19 2))) then some (0 : Int32) else some (1 : Int32)
abbrev rm_X2_isAtDigit : Room := { frames := 0, cells := 0, slots := 0, locals := 0 }
theorem df_X2_isAtDigit : yX2_isAtDigit.cls = RX2 ∧ yX2_isAtDigit.cls ≠ "java/lang/invoke/MethodHandle" ∧ yX2_isAtDigit.cls ≠ "java/lang/invoke/VarHandle" ∧ (parseMethodDescriptor yX2_isAtDigit.desc).map (fun d => d.parameters.length) = some 0 := by decide +kernel
set_option maxRecDepth 100000 in
set_option maxHeartbeats 4000000 in
theorem ct_X2_isAtDigit (l : Launch) (G : va_G) (T : Nat → ClassId) (b : Nat) (z : Nat → Nat)  (x : mm_M) {r : Int32} (h : fn_X2_isAtDigit  x = some r) : mm_Ci l yX2_isAtDigit wsX2_isAtDigit rm_X2_isAtDigit G T b z [.ref (b + 19)] x r x := by
  unfold fn_X2_isAtDigit at h
  refine mm_start (cc := cX2_isAtDigit) (maxL := 1) (ret := (some .boolean)) (by decide) rfl (Nat.le_of_ble_eq_true rfl) (fun p e s m below meth c ls C hr hlk hH hl => ?_)
  have hl : lv_has ls 1 [(0, .ref (b + 19))] := hl
  have hx := C.1
  have hb := C.2.1
  have w1 := C.2.2.2.2.1 (.fieldLink RX2 19 "LandingFines$Pad" "place" "I") (by decide +kernel)
  have w2 := C.2.2.2.2.1 (.fieldLink RX2 15 "LandingFines$Pad" "length" "I") (by decide +kernel)
  have w3 := C.2.2.2.2.1 (.fieldLink RX2 9 "LandingFines$Pad" "signs" "[C") (by decide +kernel)
  have hin2 : ∀ w ∈ wsX20, w ∈ wsX2_isAtDigit := by decide +kernel
  refine lv_aload_n hx hb dX2_isAtDigit_0 rfl (lv_at hl 0 rfl) ?_
  refine mm_get (v := .int (x 19 2)) C hH hin2 rfl kl_19 (mm_e2 kd_19) (j := 2) (by decide) rfl w1 rfl dX2_isAtDigit_1 ?_
  refine lv_aload_n hx hb dX2_isAtDigit_4 rfl (lv_at hl 0 rfl) ?_
  refine mm_get (v := .int (x 19 1)) C hH hin2 rfl kl_19 (mm_e2 kd_19) (j := 1) (by decide) rfl w2 rfl dX2_isAtDigit_5 ?_
  refine lv_icmp_ge (tgt := 43) hx hb dX2_isAtDigit_8 (by decide) (fun c1 => ?_) (fun c1 => ?_)
  · have h := mm_pos c1 h
    have hl := lv_sub (l' := []) hl [] rfl
    refine lv_iconst (v := 0) hx hb dX2_isAtDigit_43 (by decide) ?_
    exact mm_iretP C hH hr hlk rfl h dX2_isAtDigit_44
  · have h := mm_neg c1 h
    refine lv_aload_n hx hb dX2_isAtDigit_11 rfl (lv_at hl 0 rfl) ?_
    refine mm_get (v := .ref (b + 20)) C hH hin2 rfl kl_19 (mm_e2 kd_19) (j := 0) (by decide) rfl w3 rfl dX2_isAtDigit_12 ?_
    refine lv_aload_n hx hb dX2_isAtDigit_15 rfl (lv_at hl 0 rfl) ?_
    refine mm_get (v := .int (x 19 2)) C hH hin2 rfl kl_19 (mm_e2 kd_19) (j := 2) (by decide) rfl w1 rfl dX2_isAtDigit_16 ?_
    obtain ⟨g1, h⟩ := mm_grn h
    refine mm_cald (n := 80) (jn := (Int32.toNatClampNeg (x 19 2))) C hH kd_20 ln_20 g1 rfl dX2_isAtDigit_19 ?_
    refine lv_bipush (v := 48) hx hb dX2_isAtDigit_20 (by decide) ?_
    refine lv_icmp_lt (tgt := 43) hx hb dX2_isAtDigit_22 (by decide) (fun c2 => ?_) (fun c2 => ?_)
    · have h := mm_pos c2 h
      have hl := lv_sub (l' := []) hl [] rfl
      refine lv_iconst (v := 0) hx hb dX2_isAtDigit_43 (by decide) ?_
      exact mm_iretP C hH hr hlk rfl h dX2_isAtDigit_44
    · have h := mm_neg c2 h
      refine lv_aload_n hx hb dX2_isAtDigit_25 rfl (lv_at hl 0 rfl) ?_
      refine mm_get (v := .ref (b + 20)) C hH hin2 rfl kl_19 (mm_e2 kd_19) (j := 0) (by decide) rfl w3 rfl dX2_isAtDigit_26 ?_
      refine lv_aload_n hx hb dX2_isAtDigit_29 rfl (lv_at hl 0 rfl) ?_
      refine mm_get (v := .int (x 19 2)) C hH hin2 rfl kl_19 (mm_e2 kd_19) (j := 2) (by decide) rfl w1 rfl dX2_isAtDigit_30 ?_
      obtain ⟨g2, h⟩ := mm_grn h
      refine mm_cald (n := 80) (jn := (Int32.toNatClampNeg (x 19 2))) C hH kd_20 ln_20 g2 rfl dX2_isAtDigit_33 ?_
      refine lv_bipush (v := 57) hx hb dX2_isAtDigit_34 (by decide) ?_
      refine lv_icmp_gt (tgt := 43) hx hb dX2_isAtDigit_36 (by decide) (fun c3 => ?_) (fun c3 => ?_)
      · have h := mm_pos c3 h
        have hl := lv_sub (l' := []) hl [] rfl
        refine lv_iconst (v := 0) hx hb dX2_isAtDigit_43 (by decide) ?_
        exact mm_iretP C hH hr hlk rfl h dX2_isAtDigit_44
      · have h := mm_neg c3 h
        have hl := lv_sub (l' := []) hl [] rfl
        refine lv_iconst (v := 1) hx hb dX2_isAtDigit_39 (by decide) ?_
        refine lv_goto (tgt := 44) hx hb dX2_isAtDigit_40 (by decide) ?_
        exact mm_iretP C hH hr hlk rfl h dX2_isAtDigit_44
def fn_X2_readSign (a1 : Int32) (x : mm_M) : Option (mm_M × Int32) :=
  if (x 19 1) ≤ (x 19 2) then some (x, 0) else if (x 19 2) < 0 ∨ 80 ≤ Int32.toNatClampNeg (x 19 2) then none else if (x 20 (Int32.toNatClampNeg (x 19 2))) = a1 then (some (mm_up x 19 2 ((x 19 2) + 1))).bind fun x1 => some (x1, 1) else some (x, 0)
abbrev rm_X2_readSign : Room := { frames := 0, cells := 0, slots := 0, locals := 0 }
theorem df_X2_readSign : yX2_readSign.cls = RX2 ∧ yX2_readSign.cls ≠ "java/lang/invoke/MethodHandle" ∧ yX2_readSign.cls ≠ "java/lang/invoke/VarHandle" ∧ (parseMethodDescriptor yX2_readSign.desc).map (fun d => d.parameters.length) = some 1 := by decide +kernel
set_option maxRecDepth 100000 in
set_option maxHeartbeats 4000000 in
theorem ct_X2_readSign (l : Launch) (G : va_G) (T : Nat → ClassId) (b : Nat) (z : Nat → Nat) (a1 : Int32) (x : mm_M) {x1 : mm_M} {r : Int32} (h : fn_X2_readSign a1 x = some (x1, r)) : mm_Ci l yX2_readSign wsX2_readSign rm_X2_readSign G T b z [.ref (b + 19), .int a1] x r x1 := by
  unfold fn_X2_readSign at h
  refine mm_start (cc := cX2_readSign) (maxL := 2) (ret := (some .boolean)) (by decide) rfl (Nat.le_of_ble_eq_true rfl) (fun p e s m below meth c ls C hr hlk hH hl => ?_)
  have hl : lv_has ls 2 [(0, .ref (b + 19)), (1, .int a1)] := hl
  have hx := C.1
  have hb := C.2.1
  have w1 := C.2.2.2.2.1 (.fieldLink RX2 19 "LandingFines$Pad" "place" "I") (by decide +kernel)
  have w2 := C.2.2.2.2.1 (.fieldLink RX2 15 "LandingFines$Pad" "length" "I") (by decide +kernel)
  have w3 := C.2.2.2.2.1 (.fieldLink RX2 9 "LandingFines$Pad" "signs" "[C") (by decide +kernel)
  have hin2 : ∀ w ∈ wsX20, w ∈ wsX2_readSign := by decide +kernel
  refine lv_aload_n hx hb dX2_readSign_0 rfl (lv_at hl 0 rfl) ?_
  refine mm_get (v := .int (x 19 2)) C hH hin2 rfl kl_19 (mm_e2 kd_19) (j := 2) (by decide) rfl w1 rfl dX2_readSign_1 ?_
  refine lv_aload_n hx hb dX2_readSign_4 rfl (lv_at hl 0 rfl) ?_
  refine mm_get (v := .int (x 19 1)) C hH hin2 rfl kl_19 (mm_e2 kd_19) (j := 1) (by decide) rfl w2 rfl dX2_readSign_5 ?_
  refine lv_icmp_ge (tgt := 24) hx hb dX2_readSign_8 (by decide) (fun c1 => ?_) (fun c1 => ?_)
  · have h := mm_pos c1 h
    have hl := lv_sub (l' := []) hl [] rfl
    refine lv_iconst (v := 0) hx hb dX2_readSign_24 (by decide) ?_
    exact mm_iret C hH hr hlk rfl h dX2_readSign_25
  · have h := mm_neg c1 h
    refine lv_aload_n hx hb dX2_readSign_11 rfl (lv_at hl 0 rfl) ?_
    refine mm_get (v := .ref (b + 20)) C hH hin2 rfl kl_19 (mm_e2 kd_19) (j := 0) (by decide) rfl w3 rfl dX2_readSign_12 ?_
    refine lv_aload_n hx hb dX2_readSign_15 rfl (lv_at hl 0 rfl) ?_
    refine mm_get (v := .int (x 19 2)) C hH hin2 rfl kl_19 (mm_e2 kd_19) (j := 2) (by decide) rfl w1 rfl dX2_readSign_16 ?_
    obtain ⟨g1, h⟩ := mm_grn h
    refine mm_cald (n := 80) (jn := (Int32.toNatClampNeg (x 19 2))) C hH kd_20 ln_20 g1 rfl dX2_readSign_19 ?_
    refine lv_iload_n hx hb dX2_readSign_20 rfl (lv_at hl 1 rfl) ?_
    refine lv_icmp_eq (tgt := 26) hx hb dX2_readSign_21 (by decide) (fun c2 => ?_) (fun c2 => ?_)
    · have h := mm_pos c2 h
      have hl := lv_sub (l' := [(0, .ref (b + 19))]) hl [0] rfl
      refine lv_aload_n hx hb dX2_readSign_26 rfl (lv_at hl 0 rfl) ?_
      refine lv_dup hx hb dX2_readSign_27 rfl ?_
      refine mm_get (v := .int (x 19 2)) C hH hin2 rfl kl_19 (mm_e2 kd_19) (j := 2) (by decide) rfl w1 rfl dX2_readSign_28 ?_
      refine lv_iconst (v := 1) hx hb dX2_readSign_31 (by decide) ?_
      refine lv_iadd hx hb dX2_readSign_32 ?_
      obtain ⟨x1, e1, h⟩ := mm_bnd h
      refine mm_put (ty := .int) C hH hin2 tyX2_ok nmX2 rfl kl_19 (mm_e2 kd_19) (j := 2) (by decide) rfl w1 pd_I rfl rfl (Nat.le_of_ble_eq_true rfl) (sp_2_2 kd_19) (Option.some.inj e1) dX2_readSign_33 (fun H locs hH => ?_)
      refine lv_iconst (v := 1) hx hb dX2_readSign_36 (by decide) ?_
      exact mm_iret C hH hr hlk rfl h dX2_readSign_37
    · have h := mm_neg c2 h
      have hl := lv_sub (l' := []) hl [] rfl
      refine lv_iconst (v := 0) hx hb dX2_readSign_24 (by decide) ?_
      exact mm_iret C hH hr hlk rfl h dX2_readSign_25
def fn_X2_readLanding  (x : mm_M) : Option (mm_M × Int32) :=
  (fn_X2_isAtDigit x).bind fun v1 => if v1 = 0 then some (x, 0) else if (x 19 2) < 0 ∨ 80 ≤ Int32.toNatClampNeg (x 19 2) then none else (some (mm_up x 19 4 ((x 20 (Int32.toNatClampNeg (x 19 2))) - 48))).bind fun x1 => (some (mm_up x1 19 2 ((x1 19 2) + 1))).bind fun x2 => some (x2, 1)
abbrev rm_X2_readLanding : Room := { frames := 1, cells := 0, slots := 0, locals := 20 }
theorem df_X2_readLanding : yX2_readLanding.cls = RX2 ∧ yX2_readLanding.cls ≠ "java/lang/invoke/MethodHandle" ∧ yX2_readLanding.cls ≠ "java/lang/invoke/VarHandle" ∧ (parseMethodDescriptor yX2_readLanding.desc).map (fun d => d.parameters.length) = some 0 := by decide +kernel
set_option maxRecDepth 100000 in
set_option maxHeartbeats 4000000 in
theorem ct_X2_readLanding (l : Launch) (G : va_G) (T : Nat → ClassId) (b : Nat) (z : Nat → Nat)  (x : mm_M) {x1 : mm_M} {r : Int32} (h : fn_X2_readLanding  x = some (x1, r)) : mm_Ci l yX2_readLanding wsX2_readLanding rm_X2_readLanding G T b z [.ref (b + 19)] x r x1 := by
  unfold fn_X2_readLanding at h
  refine mm_start (cc := cX2_readLanding) (maxL := 1) (ret := (some .boolean)) (by decide) rfl (Nat.le_of_ble_eq_true rfl) (fun p e s m below meth c ls C hr hlk hH hl => ?_)
  have hl : lv_has ls 1 [(0, .ref (b + 19))] := hl
  have hx := C.1
  have hb := C.2.1
  have w1 := C.2.2.2.2.1 (.fieldLink RX2 9 "LandingFines$Pad" "signs" "[C") (by decide +kernel)
  have w2 := C.2.2.2.2.1 (.fieldLink RX2 19 "LandingFines$Pad" "place" "I") (by decide +kernel)
  have w3 := C.2.2.2.2.1 (.fieldLink RX2 26 "LandingFines$Pad" "orderLanding" "I") (by decide +kernel)
  have hin2 : ∀ w ∈ wsX20, w ∈ wsX2_readLanding := by decide +kernel
  refine lv_aload_n hx hb dX2_readLanding_0 rfl (lv_at hl 0 rfl) ?_
  obtain ⟨v1, e1, h⟩ := mm_bnd h
  refine mm_goi hH (va_runV (As := []) (rest := []) ⟨hx, hb, C.2.2.1, C.2.2.2.1, C.2.2.2.2.1⟩ (ct_X2_isAtDigit l G T b z x e1) (cwV 0 C.2.2.2.2.1 gX2_readLanding_X2_isAtDigit rfl rfl rfl df_X2_isAtDigit ⟨Nat.le_of_ble_eq_true rfl, Nat.le_of_ble_eq_true rfl⟩) ⟨mm_B.blind, mm_recv (q := (RX2, TX2, 6)) C hH kl_19 (mm_e2 kd_19) rfl, mm_pre C hH⟩ rfl rfl hl.1 rfl (lv_room (Nat.le_of_ble_eq_true rfl)) dX2_readLanding_1 ⟨Nat.zero_le _, Nat.zero_le _⟩) (fun H locs hH => ?_)
  refine lv_if_ne (tgt := 9) hx hb dX2_readLanding_4 (by decide) (fun c1 => ?_) (fun c1 => ?_)
  · have h := mm_neg c1 h
    refine lv_aload_n hx hb dX2_readLanding_9 rfl (lv_at hl 0 rfl) ?_
    refine lv_aload_n hx hb dX2_readLanding_10 rfl (lv_at hl 0 rfl) ?_
    refine mm_get (v := .ref (b + 20)) C hH hin2 rfl kl_19 (mm_e2 kd_19) (j := 0) (by decide) rfl w1 rfl dX2_readLanding_11 ?_
    refine lv_aload_n hx hb dX2_readLanding_14 rfl (lv_at hl 0 rfl) ?_
    refine mm_get (v := .int (x 19 2)) C hH hin2 rfl kl_19 (mm_e2 kd_19) (j := 2) (by decide) rfl w2 rfl dX2_readLanding_15 ?_
    obtain ⟨g1, h⟩ := mm_grn h
    refine mm_cald (n := 80) (jn := (Int32.toNatClampNeg (x 19 2))) C hH kd_20 ln_20 g1 rfl dX2_readLanding_18 ?_
    refine lv_bipush (v := 48) hx hb dX2_readLanding_19 (by decide) ?_
    refine lv_isub hx hb dX2_readLanding_21 ?_
    obtain ⟨x1, e2, h⟩ := mm_bnd h
    refine mm_put (ty := .int) C hH hin2 tyX2_ok nmX2 rfl kl_19 (mm_e2 kd_19) (j := 4) (by decide) rfl w3 pd_I rfl rfl (Nat.le_of_ble_eq_true rfl) (sp_2_4 kd_19) (Option.some.inj e2) dX2_readLanding_22 (fun H locs hH => ?_)
    refine lv_aload_n hx hb dX2_readLanding_25 rfl (lv_at hl 0 rfl) ?_
    refine lv_dup hx hb dX2_readLanding_26 rfl ?_
    refine mm_get (v := .int (x1 19 2)) C hH hin2 rfl kl_19 (mm_e2 kd_19) (j := 2) (by decide) rfl w2 rfl dX2_readLanding_27 ?_
    refine lv_iconst (v := 1) hx hb dX2_readLanding_30 (by decide) ?_
    refine lv_iadd hx hb dX2_readLanding_31 ?_
    obtain ⟨x2, e3, h⟩ := mm_bnd h
    refine mm_put (ty := .int) C hH hin2 tyX2_ok nmX2 rfl kl_19 (mm_e2 kd_19) (j := 2) (by decide) rfl w2 pd_I rfl rfl (Nat.le_of_ble_eq_true rfl) (sp_2_2 kd_19) (Option.some.inj e3) dX2_readLanding_32 (fun H locs hH => ?_)
    refine lv_iconst (v := 1) hx hb dX2_readLanding_35 (by decide) ?_
    exact mm_iret C hH hr hlk rfl h dX2_readLanding_36
  · have h := mm_pos c1 h
    have hl := lv_sub (l' := []) hl [] rfl
    refine lv_iconst (v := 0) hx hb dX2_readLanding_7 (by decide) ?_
    exact mm_iret C hH hr hlk rfl h dX2_readLanding_8
def fn_X2_readNumber_16 : Nat → Int32 → mm_M → Option mm_M
  | 0, _, _ => none
  | n + 1, i1, x => if (3 : Int32) ≤ i1 then some (x) else (fn_X2_isAtDigit x).bind fun v1 => if v1 = 0 then some (x) else if i1 = 0 then if (x 19 2) < 0 ∨ 80 ≤ Int32.toNatClampNeg (x 19 2) then none else (some (mm_up x 19 5 ((((x 19 5) * 10) + (x 20 (Int32.toNatClampNeg (x 19 2)))) - 48))).bind fun x1 => (some (mm_up x1 19 2 ((x1 19 2) + 1))).bind fun x2 => (some (i1 + 1)).bind fun v2 => fn_X2_readNumber_16 n  v2 x2 else if (x 19 5) ≤ 0 then some (x) else if (x 19 2) < 0 ∨ 80 ≤ Int32.toNatClampNeg (x 19 2) then none else (some (mm_up x 19 5 ((((x 19 5) * 10) + (x 20 (Int32.toNatClampNeg (x 19 2)))) - 48))).bind fun x3 => (some (mm_up x3 19 2 ((x3 19 2) + 1))).bind fun x4 => (some (i1 + 1)).bind fun v3 => fn_X2_readNumber_16 n  v3 x4
def fn_X2_readNumber  (x : mm_M) : Option (mm_M × Int32) :=
  (fn_X2_isAtDigit x).bind fun v1 => if v1 = 0 then some (x, 0) else (some (mm_up x 19 5 0)).bind fun x1 => (fn_X2_readNumber_16 4 0 x1).bind fun x2 => some (x2, 1)
abbrev rm_X2_readNumber : Room := { frames := 1, cells := 0, slots := 0, locals := 20 }
theorem df_X2_readNumber : yX2_readNumber.cls = RX2 ∧ yX2_readNumber.cls ≠ "java/lang/invoke/MethodHandle" ∧ yX2_readNumber.cls ≠ "java/lang/invoke/VarHandle" ∧ (parseMethodDescriptor yX2_readNumber.desc).map (fun d => d.parameters.length) = some 0 := by decide +kernel
set_option maxRecDepth 100000 in
set_option maxHeartbeats 4000000 in
theorem lp_X2_readNumber_16 {p : Program} {l : Launch} {e : Env} {s : State} {m : MethodId} {args : Array Value} {below : List Frame} {meth : Method} {c : Code} {Q : State → Prop} {G : va_G} {T : Nat → ClassId} {b : Nat} {z : Nat → Nat} (C : mm_C p m c cX2_readNumber 2 s args wsX2_readNumber RX2 G T b z)  : ∀ (n : Nat) (i1 : Int32) (x : mm_M) (H : Heap) (locs : List Loc) (ls : Array Slot) (x1 : mm_M), fn_X2_readNumber_16 n i1 x = some (x1) → mm_H G T b x s H locs → lv_has ls 2 [(0, .ref (b + 19)), (1, .int i1)] → (∀ (H1 : Heap) (locs1 : List Loc) (ls1 : Array Slot), mm_H G T b x1 s H1 locs1 → lv_has ls1 2 [] → W p l e rm_X2_readNumber s m args below meth c H1 locs1 0 0 Q (F0 m 79 ls1 [])) → W p l e rm_X2_readNumber s m args below meth c H locs 0 0 Q (F0 m 16 ls []) := by
  have hx := C.1
  have hb := C.2.1
  have w1 := C.2.2.2.2.1 (.fieldLink RX2 29 "LandingFines$Pad" "orderNumber" "I") (by decide +kernel)
  have w2 := C.2.2.2.2.1 (.fieldLink RX2 9 "LandingFines$Pad" "signs" "[C") (by decide +kernel)
  have w3 := C.2.2.2.2.1 (.fieldLink RX2 19 "LandingFines$Pad" "place" "I") (by decide +kernel)
  have hin2 : ∀ w ∈ wsX20, w ∈ wsX2_readNumber := by decide +kernel
  intro n
  induction n with
  | zero => intro _ _ _ _ _ _ h; cases (show (none : Option mm_M) = some _ from h)
  | succ n ih =>
    intro i1 x H locs ls x1 h hH hl kk
    rw [fn_X2_readNumber_16] at h
    refine lv_iload_n hx hb dX2_readNumber_16 rfl (lv_at hl 1 rfl) ?_
    refine lv_iconst (v := 3) hx hb dX2_readNumber_17 (by decide) ?_
    refine lv_icmp_ge (tgt := 79) hx hb dX2_readNumber_18 (by decide) (fun c1 => ?_) (fun c1 => ?_)
    · have h := mm_pos c1 h
      have hl := lv_sub (l' := []) hl [] rfl
      cases h
      exact kk _ _ _ hH (lv_sub hl [] rfl)
    · have h := mm_neg c1 h
      refine lv_aload_n hx hb dX2_readNumber_21 rfl (lv_at hl 0 rfl) ?_
      obtain ⟨v1, e1, h⟩ := mm_bnd h
      refine mm_goi hH (va_runV (As := []) (rest := []) ⟨hx, hb, C.2.2.1, C.2.2.2.1, C.2.2.2.2.1⟩ (ct_X2_isAtDigit l G T b z x e1) (cwV 0 C.2.2.2.2.1 gX2_readNumber_X2_isAtDigit rfl rfl rfl df_X2_isAtDigit ⟨Nat.le_of_ble_eq_true rfl, Nat.le_of_ble_eq_true rfl⟩) ⟨mm_B.blind, mm_recv (q := (RX2, TX2, 6)) C hH kl_19 (mm_e2 kd_19) rfl, mm_pre C hH⟩ rfl rfl hl.1 rfl (lv_room (Nat.le_of_ble_eq_true rfl)) dX2_readNumber_22 ⟨Nat.zero_le _, Nat.zero_le _⟩) (fun H locs hH => ?_)
      refine lv_if_eq (tgt := 79) hx hb dX2_readNumber_25 (by decide) (fun c2 => ?_) (fun c2 => ?_)
      · have h := mm_pos c2 h
        have hl := lv_sub (l' := []) hl [] rfl
        cases h
        exact kk _ _ _ hH (lv_sub hl [] rfl)
      · have h := mm_neg c2 h
        refine lv_iload_n hx hb dX2_readNumber_28 rfl (lv_at hl 1 rfl) ?_
        refine lv_if_eq (tgt := 39) hx hb dX2_readNumber_29 (by decide) (fun c3 => ?_) (fun c3 => ?_)
        · have h := mm_pos c3 h
          refine lv_aload_n hx hb dX2_readNumber_39 rfl (lv_at hl 0 rfl) ?_
          refine lv_aload_n hx hb dX2_readNumber_40 rfl (lv_at hl 0 rfl) ?_
          refine mm_get (v := .int (x 19 5)) C hH hin2 rfl kl_19 (mm_e2 kd_19) (j := 5) (by decide) rfl w1 rfl dX2_readNumber_41 ?_
          refine lv_bipush (v := 10) hx hb dX2_readNumber_44 (by decide) ?_
          refine lv_imul hx hb dX2_readNumber_46 ?_
          refine lv_aload_n hx hb dX2_readNumber_47 rfl (lv_at hl 0 rfl) ?_
          refine mm_get (v := .ref (b + 20)) C hH hin2 rfl kl_19 (mm_e2 kd_19) (j := 0) (by decide) rfl w2 rfl dX2_readNumber_48 ?_
          refine lv_aload_n hx hb dX2_readNumber_51 rfl (lv_at hl 0 rfl) ?_
          refine mm_get (v := .int (x 19 2)) C hH hin2 rfl kl_19 (mm_e2 kd_19) (j := 2) (by decide) rfl w3 rfl dX2_readNumber_52 ?_
          obtain ⟨g1, h⟩ := mm_grn h
          refine mm_cald (n := 80) (jn := (Int32.toNatClampNeg (x 19 2))) C hH kd_20 ln_20 g1 rfl dX2_readNumber_55 ?_
          refine lv_iadd hx hb dX2_readNumber_56 ?_
          refine lv_bipush (v := 48) hx hb dX2_readNumber_57 (by decide) ?_
          refine lv_isub hx hb dX2_readNumber_59 ?_
          obtain ⟨x1, e2, h⟩ := mm_bnd h
          refine mm_put (ty := .int) C hH hin2 tyX2_ok nmX2 rfl kl_19 (mm_e2 kd_19) (j := 5) (by decide) rfl w1 pd_I rfl rfl (Nat.le_of_ble_eq_true rfl) (sp_2_5 kd_19) (Option.some.inj e2) dX2_readNumber_60 (fun H locs hH => ?_)
          refine lv_aload_n hx hb dX2_readNumber_63 rfl (lv_at hl 0 rfl) ?_
          refine lv_dup hx hb dX2_readNumber_64 rfl ?_
          refine mm_get (v := .int (x1 19 2)) C hH hin2 rfl kl_19 (mm_e2 kd_19) (j := 2) (by decide) rfl w3 rfl dX2_readNumber_65 ?_
          refine lv_iconst (v := 1) hx hb dX2_readNumber_68 (by decide) ?_
          refine lv_iadd hx hb dX2_readNumber_69 ?_
          obtain ⟨x2, e3, h⟩ := mm_bnd h
          refine mm_put (ty := .int) C hH hin2 tyX2_ok nmX2 rfl kl_19 (mm_e2 kd_19) (j := 2) (by decide) rfl w3 pd_I rfl rfl (Nat.le_of_ble_eq_true rfl) (sp_2_2 kd_19) (Option.some.inj e3) dX2_readNumber_70 (fun H locs hH => ?_)
          obtain ⟨v2, e4, h⟩ := mm_bnd h
          refine lv_iinc (v := v2) (lv' := [(1, .int v2), (0, .ref (b + 19))]) hx hb dX2_readNumber_73 hl (k := 1) rfl (Option.some.inj e4) (by decide) rfl (fun ls hl => ?_)
          refine lv_goto (tgt := 16) hx hb dX2_readNumber_76 (by decide) ?_
          exact ih v2 x2 _ _ _ _ h hH (lv_sub hl [1, 0] rfl) kk
        · have h := mm_neg c3 h
          refine lv_aload_n hx hb dX2_readNumber_32 rfl (lv_at hl 0 rfl) ?_
          refine mm_get (v := .int (x 19 5)) C hH hin2 rfl kl_19 (mm_e2 kd_19) (j := 5) (by decide) rfl w1 rfl dX2_readNumber_33 ?_
          refine lv_if_le (tgt := 79) hx hb dX2_readNumber_36 (by decide) (fun c4 => ?_) (fun c4 => ?_)
          · have h := mm_pos c4 h
            have hl := lv_sub (l' := []) hl [] rfl
            cases h
            exact kk _ _ _ hH (lv_sub hl [] rfl)
          · have h := mm_neg c4 h
            refine lv_aload_n hx hb dX2_readNumber_39 rfl (lv_at hl 0 rfl) ?_
            refine lv_aload_n hx hb dX2_readNumber_40 rfl (lv_at hl 0 rfl) ?_
            refine mm_get (v := .int (x 19 5)) C hH hin2 rfl kl_19 (mm_e2 kd_19) (j := 5) (by decide) rfl w1 rfl dX2_readNumber_41 ?_
            refine lv_bipush (v := 10) hx hb dX2_readNumber_44 (by decide) ?_
            refine lv_imul hx hb dX2_readNumber_46 ?_
            refine lv_aload_n hx hb dX2_readNumber_47 rfl (lv_at hl 0 rfl) ?_
            refine mm_get (v := .ref (b + 20)) C hH hin2 rfl kl_19 (mm_e2 kd_19) (j := 0) (by decide) rfl w2 rfl dX2_readNumber_48 ?_
            refine lv_aload_n hx hb dX2_readNumber_51 rfl (lv_at hl 0 rfl) ?_
            refine mm_get (v := .int (x 19 2)) C hH hin2 rfl kl_19 (mm_e2 kd_19) (j := 2) (by decide) rfl w3 rfl dX2_readNumber_52 ?_
            obtain ⟨g2, h⟩ := mm_grn h
            refine mm_cald (n := 80) (jn := (Int32.toNatClampNeg (x 19 2))) C hH kd_20 ln_20 g2 rfl dX2_readNumber_55 ?_
            refine lv_iadd hx hb dX2_readNumber_56 ?_
            refine lv_bipush (v := 48) hx hb dX2_readNumber_57 (by decide) ?_
            refine lv_isub hx hb dX2_readNumber_59 ?_
            obtain ⟨x3, e5, h⟩ := mm_bnd h
            refine mm_put (ty := .int) C hH hin2 tyX2_ok nmX2 rfl kl_19 (mm_e2 kd_19) (j := 5) (by decide) rfl w1 pd_I rfl rfl (Nat.le_of_ble_eq_true rfl) (sp_2_5 kd_19) (Option.some.inj e5) dX2_readNumber_60 (fun H locs hH => ?_)
            refine lv_aload_n hx hb dX2_readNumber_63 rfl (lv_at hl 0 rfl) ?_
            refine lv_dup hx hb dX2_readNumber_64 rfl ?_
            refine mm_get (v := .int (x3 19 2)) C hH hin2 rfl kl_19 (mm_e2 kd_19) (j := 2) (by decide) rfl w3 rfl dX2_readNumber_65 ?_
            refine lv_iconst (v := 1) hx hb dX2_readNumber_68 (by decide) ?_
            refine lv_iadd hx hb dX2_readNumber_69 ?_
            obtain ⟨x4, e6, h⟩ := mm_bnd h
            refine mm_put (ty := .int) C hH hin2 tyX2_ok nmX2 rfl kl_19 (mm_e2 kd_19) (j := 2) (by decide) rfl w3 pd_I rfl rfl (Nat.le_of_ble_eq_true rfl) (sp_2_2 kd_19) (Option.some.inj e6) dX2_readNumber_70 (fun H locs hH => ?_)
            obtain ⟨v3, e7, h⟩ := mm_bnd h
            refine lv_iinc (v := v3) (lv' := [(1, .int v3), (0, .ref (b + 19))]) hx hb dX2_readNumber_73 hl (k := 1) rfl (Option.some.inj e7) (by decide) rfl (fun ls hl => ?_)
            refine lv_goto (tgt := 16) hx hb dX2_readNumber_76 (by decide) ?_
            exact ih v3 x4 _ _ _ _ h hH (lv_sub hl [1, 0] rfl) kk
set_option maxRecDepth 100000 in
set_option maxHeartbeats 4000000 in
theorem ct_X2_readNumber (l : Launch) (G : va_G) (T : Nat → ClassId) (b : Nat) (z : Nat → Nat)  (x : mm_M) {x1 : mm_M} {r : Int32} (h : fn_X2_readNumber  x = some (x1, r)) : mm_Ci l yX2_readNumber wsX2_readNumber rm_X2_readNumber G T b z [.ref (b + 19)] x r x1 := by
  unfold fn_X2_readNumber at h
  refine mm_start (cc := cX2_readNumber) (maxL := 2) (ret := (some .boolean)) (by decide) rfl (Nat.le_of_ble_eq_true rfl) (fun p e s m below meth c ls C hr hlk hH hl => ?_)
  have hl : lv_has ls 2 [(0, .ref (b + 19))] := hl
  have hx := C.1
  have hb := C.2.1
  have w1 := C.2.2.2.2.1 (.fieldLink RX2 29 "LandingFines$Pad" "orderNumber" "I") (by decide +kernel)
  have hin2 : ∀ w ∈ wsX20, w ∈ wsX2_readNumber := by decide +kernel
  refine lv_aload_n hx hb dX2_readNumber_0 rfl (lv_at hl 0 rfl) ?_
  obtain ⟨v1, e1, h⟩ := mm_bnd h
  refine mm_goi hH (va_runV (As := []) (rest := []) ⟨hx, hb, C.2.2.1, C.2.2.2.1, C.2.2.2.2.1⟩ (ct_X2_isAtDigit l G T b z x e1) (cwV 0 C.2.2.2.2.1 gX2_readNumber_X2_isAtDigit rfl rfl rfl df_X2_isAtDigit ⟨Nat.le_of_ble_eq_true rfl, Nat.le_of_ble_eq_true rfl⟩) ⟨mm_B.blind, mm_recv (q := (RX2, TX2, 6)) C hH kl_19 (mm_e2 kd_19) rfl, mm_pre C hH⟩ rfl rfl hl.1 rfl (lv_room (Nat.le_of_ble_eq_true rfl)) dX2_readNumber_1 ⟨Nat.zero_le _, Nat.zero_le _⟩) (fun H locs hH => ?_)
  refine lv_if_ne (tgt := 9) hx hb dX2_readNumber_4 (by decide) (fun c1 => ?_) (fun c1 => ?_)
  · have h := mm_neg c1 h
    refine lv_aload_n hx hb dX2_readNumber_9 rfl (lv_at hl 0 rfl) ?_
    refine lv_iconst (v := 0) hx hb dX2_readNumber_10 (by decide) ?_
    obtain ⟨x1, e2, h⟩ := mm_bnd h
    refine mm_put (ty := .int) C hH hin2 tyX2_ok nmX2 rfl kl_19 (mm_e2 kd_19) (j := 5) (by decide) rfl w1 pd_I rfl rfl (Nat.le_of_ble_eq_true rfl) (sp_2_5 kd_19) (Option.some.inj e2) dX2_readNumber_11 (fun H locs hH => ?_)
    refine lv_iconst (v := 0) hx hb dX2_readNumber_14 (by decide) ?_
    refine lv_istore_n (lv' := [(1, .int 0), (0, .ref (b + 19))]) hx hb dX2_readNumber_15 rfl hl (by decide) rfl (fun ls hl => ?_)
    obtain ⟨x2, e3, h⟩ := mm_bnd h
    refine lp_X2_readNumber_16 C 4 0 x1 _ _ _ _ e3 hH (lv_sub hl [1, 0] rfl) (fun H locs ls hH hl => ?_)
    refine lv_iconst (v := 1) hx hb dX2_readNumber_79 (by decide) ?_
    exact mm_iret C hH hr hlk rfl h dX2_readNumber_80
  · have h := mm_pos c1 h
    have hl := lv_sub (l' := []) hl [] rfl
    refine lv_iconst (v := 0) hx hb dX2_readNumber_7 (by decide) ?_
    exact mm_iret C hH hr hlk rfl h dX2_readNumber_8
def fn_X2_readOrder  (x : mm_M) : Option (mm_M × Int32) :=
  if (x 19 2) < (x 19 1) then if (x 19 2) < 0 ∨ 80 ≤ Int32.toNatClampNeg (x 19 2) then none else if vp_nar .char (x 20 (Int32.toNatClampNeg (x 19 2))) = (x 20 (Int32.toNatClampNeg (x 19 2))) then (some (mm_up x 19 3 (x 20 (Int32.toNatClampNeg (x 19 2))))).bind fun x1 => (some ((x1 19 3) : Int32)).bind fun v1 => if v1 = 43 then (some (mm_up x1 19 2 ((x1 19 2) + 1))).bind fun x2 => mm_b2 (fn_X2_readNumber x2) fun x3 v2 => if vp_nar .boolean v2 = v2 then some (x3, v2) else none else if v1 = 99 then (some (mm_up x1 19 2 ((x1 19 2) + 1))).bind fun x4 => mm_b2 (fn_X2_readLanding x4) fun x5 v3 => if vp_nar .boolean v3 = v3 then some (x5, v3) else none else if v1 = 111 then (some (mm_up x1 19 2 ((x1 19 2) + 1))).bind fun x6 => mm_b2 (fn_X2_readLanding x6) fun x7 v4 => if vp_nar .boolean v4 = v4 then some (x7, v4) else none else if v1 = 112 then (some (mm_up x1 19 2 ((x1 19 2) + 1))).bind fun x8 => mm_b2 (fn_X2_readLanding x8) fun x9 v5 => if v5 = 0 then some (x9, 0) else mm_b2 (fn_X2_readSign 61 x9) fun x10 v6 => if v6 = 0 then some (x10, 0) else mm_b2 (fn_X2_readNumber x10) fun x11 v7 => if v7 = 0 then some (x11, 0) else some (x11, 1) else if v1 = 116 then (some (mm_up x1 19 2 ((x1 19 2) + 1))).bind fun x12 => mm_b2 (fn_X2_readNumber x12) fun x13 v8 => if vp_nar .boolean v8 = v8 then some (x13, v8) else none else some (x1, 0) else none else some (x, 0)
abbrev rm_X2_readOrder : Room := { frames := 2, cells := 0, slots := 0, locals := 41 }
theorem df_X2_readOrder : yX2_readOrder.cls = RX2 ∧ yX2_readOrder.cls ≠ "java/lang/invoke/MethodHandle" ∧ yX2_readOrder.cls ≠ "java/lang/invoke/VarHandle" ∧ (parseMethodDescriptor yX2_readOrder.desc).map (fun d => d.parameters.length) = some 0 := by decide +kernel
set_option maxRecDepth 100000 in
set_option maxHeartbeats 4000000 in
theorem ct_X2_readOrder (l : Launch) (G : va_G) (T : Nat → ClassId) (b : Nat) (z : Nat → Nat)  (x : mm_M) {x1 : mm_M} {r : Int32} (h : fn_X2_readOrder  x = some (x1, r)) : mm_Ci l yX2_readOrder wsX2_readOrder rm_X2_readOrder G T b z [.ref (b + 19)] x r x1 := by
  unfold fn_X2_readOrder at h
  refine mm_start (cc := cX2_readOrder) (maxL := 1) (ret := (some .boolean)) (by decide) rfl (Nat.le_of_ble_eq_true rfl) (fun p e s m below meth c ls C hr hlk hH hl => ?_)
  have hl : lv_has ls 1 [(0, .ref (b + 19))] := hl
  have hx := C.1
  have hb := C.2.1
  have w1 := C.2.2.2.2.1 (.fieldLink RX2 19 "LandingFines$Pad" "place" "I") (by decide +kernel)
  have w2 := C.2.2.2.2.1 (.fieldLink RX2 15 "LandingFines$Pad" "length" "I") (by decide +kernel)
  have w3 := C.2.2.2.2.1 (.fieldLink RX2 9 "LandingFines$Pad" "signs" "[C") (by decide +kernel)
  have w4 := C.2.2.2.2.1 (.fieldLink RX2 22 "LandingFines$Pad" "orderSign" "C") (by decide +kernel)
  have hin2 : ∀ w ∈ wsX20, w ∈ wsX2_readOrder := by decide +kernel
  refine lv_aload_n hx hb dX2_readOrder_0 rfl (lv_at hl 0 rfl) ?_
  refine mm_get (v := .int (x 19 2)) C hH hin2 rfl kl_19 (mm_e2 kd_19) (j := 2) (by decide) rfl w1 rfl dX2_readOrder_1 ?_
  refine lv_aload_n hx hb dX2_readOrder_4 rfl (lv_at hl 0 rfl) ?_
  refine mm_get (v := .int (x 19 1)) C hH hin2 rfl kl_19 (mm_e2 kd_19) (j := 1) (by decide) rfl w2 rfl dX2_readOrder_5 ?_
  refine lv_icmp_lt (tgt := 13) hx hb dX2_readOrder_8 (by decide) (fun c1 => ?_) (fun c1 => ?_)
  · have h := mm_pos c1 h
    refine lv_aload_n hx hb dX2_readOrder_13 rfl (lv_at hl 0 rfl) ?_
    refine lv_aload_n hx hb dX2_readOrder_14 rfl (lv_at hl 0 rfl) ?_
    refine mm_get (v := .ref (b + 20)) C hH hin2 rfl kl_19 (mm_e2 kd_19) (j := 0) (by decide) rfl w3 rfl dX2_readOrder_15 ?_
    refine lv_aload_n hx hb dX2_readOrder_18 rfl (lv_at hl 0 rfl) ?_
    refine mm_get (v := .int (x 19 2)) C hH hin2 rfl kl_19 (mm_e2 kd_19) (j := 2) (by decide) rfl w1 rfl dX2_readOrder_19 ?_
    obtain ⟨g1, h⟩ := mm_grn h
    refine mm_cald (n := 80) (jn := (Int32.toNatClampNeg (x 19 2))) C hH kd_20 ln_20 g1 rfl dX2_readOrder_22 ?_
    obtain ⟨g2, h⟩ := mm_grd h
    obtain ⟨x1, e1, h⟩ := mm_bnd h
    refine mm_put (ty := .char) C hH hin2 tyX2_ok nmX2 rfl kl_19 (mm_e2 kd_19) (j := 3) (by decide) rfl w4 pd_C (mm_narC g2) (mm_fitC g2) (Nat.le_of_ble_eq_true rfl) (sp_2_3 kd_19) (Option.some.inj e1) dX2_readOrder_23 (fun H locs hH => ?_)
    refine lv_aload_n hx hb dX2_readOrder_26 rfl (lv_at hl 0 rfl) ?_
    refine mm_get (v := .int (x1 19 3)) C hH hin2 rfl kl_19 (mm_e2 kd_19) (j := 3) (by decide) rfl w4 rfl dX2_readOrder_27 ?_
    obtain ⟨v1, e2, h⟩ := mm_bnd h
    refine mm_nmi e2 ?_
    by_cases c2 : v1 = 43
    · have h := mm_pos c2 h
      refine lv_lookup (off := 50) (tgt := 80) hx hb dX2_readOrder_30 (by decide) (by rw [c2]; decide) (by decide) ?_
      refine lv_aload_n hx hb dX2_readOrder_80 rfl (lv_at hl 0 rfl) ?_
      refine lv_dup hx hb dX2_readOrder_81 rfl ?_
      refine mm_get (v := .int (x1 19 2)) C hH hin2 rfl kl_19 (mm_e2 kd_19) (j := 2) (by decide) rfl w1 rfl dX2_readOrder_82 ?_
      refine lv_iconst (v := 1) hx hb dX2_readOrder_85 (by decide) ?_
      refine lv_iadd hx hb dX2_readOrder_86 ?_
      obtain ⟨x2, e3, h⟩ := mm_bnd h
      refine mm_put (ty := .int) C hH hin2 tyX2_ok nmX2 rfl kl_19 (mm_e2 kd_19) (j := 2) (by decide) rfl w1 pd_I rfl rfl (Nat.le_of_ble_eq_true rfl) (sp_2_2 kd_19) (Option.some.inj e3) dX2_readOrder_87 (fun H locs hH => ?_)
      refine lv_aload_n hx hb dX2_readOrder_90 rfl (lv_at hl 0 rfl) ?_
      obtain ⟨x3, v2, e4, h⟩ := mm_bnd2 h
      refine mm_goi hH (va_runV (As := []) (rest := []) ⟨hx, hb, C.2.2.1, C.2.2.2.1, C.2.2.2.2.1⟩ (ct_X2_readNumber l G T b z x2 e4) (cwV 0 C.2.2.2.2.1 gX2_readOrder_X2_readNumber rfl rfl rfl df_X2_readNumber ⟨Nat.le_of_ble_eq_true rfl, Nat.le_of_ble_eq_true rfl⟩) ⟨mm_B.blind, mm_recv (q := (RX2, TX2, 6)) C hH kl_19 (mm_e2 kd_19) rfl, mm_pre C hH⟩ rfl rfl hl.1 rfl (lv_room (Nat.le_of_ble_eq_true rfl)) dX2_readOrder_91 ⟨Nat.zero_le _, Nat.zero_le _⟩) (fun H locs hH => ?_)
      obtain ⟨g3, h⟩ := mm_grd h
      exact mm_iret C hH hr hlk (mm_narZ g3) h dX2_readOrder_94
    have h := mm_neg c2 h
    by_cases c3 : v1 = 99
    · have h := mm_pos c3 h
      refine lv_lookup (off := 65) (tgt := 95) hx hb dX2_readOrder_30 (by decide) (by rw [c3]; decide) (by decide) ?_
      refine lv_aload_n hx hb dX2_readOrder_95 rfl (lv_at hl 0 rfl) ?_
      refine lv_dup hx hb dX2_readOrder_96 rfl ?_
      refine mm_get (v := .int (x1 19 2)) C hH hin2 rfl kl_19 (mm_e2 kd_19) (j := 2) (by decide) rfl w1 rfl dX2_readOrder_97 ?_
      refine lv_iconst (v := 1) hx hb dX2_readOrder_100 (by decide) ?_
      refine lv_iadd hx hb dX2_readOrder_101 ?_
      obtain ⟨x4, e5, h⟩ := mm_bnd h
      refine mm_put (ty := .int) C hH hin2 tyX2_ok nmX2 rfl kl_19 (mm_e2 kd_19) (j := 2) (by decide) rfl w1 pd_I rfl rfl (Nat.le_of_ble_eq_true rfl) (sp_2_2 kd_19) (Option.some.inj e5) dX2_readOrder_102 (fun H locs hH => ?_)
      refine lv_aload_n hx hb dX2_readOrder_105 rfl (lv_at hl 0 rfl) ?_
      obtain ⟨x5, v3, e6, h⟩ := mm_bnd2 h
      refine mm_goi hH (va_runV (As := []) (rest := []) ⟨hx, hb, C.2.2.1, C.2.2.2.1, C.2.2.2.2.1⟩ (ct_X2_readLanding l G T b z x4 e6) (cwV 0 C.2.2.2.2.1 gX2_readOrder_X2_readLanding rfl rfl rfl df_X2_readLanding ⟨Nat.le_of_ble_eq_true rfl, Nat.le_of_ble_eq_true rfl⟩) ⟨mm_B.blind, mm_recv (q := (RX2, TX2, 6)) C hH kl_19 (mm_e2 kd_19) rfl, mm_pre C hH⟩ rfl rfl hl.1 rfl (lv_room (Nat.le_of_ble_eq_true rfl)) dX2_readOrder_106 ⟨Nat.zero_le _, Nat.zero_le _⟩) (fun H locs hH => ?_)
      obtain ⟨g4, h⟩ := mm_grd h
      exact mm_iret C hH hr hlk (mm_narZ g4) h dX2_readOrder_109
    have h := mm_neg c3 h
    by_cases c4 : v1 = 111
    · have h := mm_pos c4 h
      refine lv_lookup (off := 65) (tgt := 95) hx hb dX2_readOrder_30 (by decide) (by rw [c4]; decide) (by decide) ?_
      refine lv_aload_n hx hb dX2_readOrder_95 rfl (lv_at hl 0 rfl) ?_
      refine lv_dup hx hb dX2_readOrder_96 rfl ?_
      refine mm_get (v := .int (x1 19 2)) C hH hin2 rfl kl_19 (mm_e2 kd_19) (j := 2) (by decide) rfl w1 rfl dX2_readOrder_97 ?_
      refine lv_iconst (v := 1) hx hb dX2_readOrder_100 (by decide) ?_
      refine lv_iadd hx hb dX2_readOrder_101 ?_
      obtain ⟨x6, e7, h⟩ := mm_bnd h
      refine mm_put (ty := .int) C hH hin2 tyX2_ok nmX2 rfl kl_19 (mm_e2 kd_19) (j := 2) (by decide) rfl w1 pd_I rfl rfl (Nat.le_of_ble_eq_true rfl) (sp_2_2 kd_19) (Option.some.inj e7) dX2_readOrder_102 (fun H locs hH => ?_)
      refine lv_aload_n hx hb dX2_readOrder_105 rfl (lv_at hl 0 rfl) ?_
      obtain ⟨x7, v4, e8, h⟩ := mm_bnd2 h
      refine mm_goi hH (va_runV (As := []) (rest := []) ⟨hx, hb, C.2.2.1, C.2.2.2.1, C.2.2.2.2.1⟩ (ct_X2_readLanding l G T b z x6 e8) (cwV 0 C.2.2.2.2.1 gX2_readOrder_X2_readLanding rfl rfl rfl df_X2_readLanding ⟨Nat.le_of_ble_eq_true rfl, Nat.le_of_ble_eq_true rfl⟩) ⟨mm_B.blind, mm_recv (q := (RX2, TX2, 6)) C hH kl_19 (mm_e2 kd_19) rfl, mm_pre C hH⟩ rfl rfl hl.1 rfl (lv_room (Nat.le_of_ble_eq_true rfl)) dX2_readOrder_106 ⟨Nat.zero_le _, Nat.zero_le _⟩) (fun H locs hH => ?_)
      obtain ⟨g5, h⟩ := mm_grd h
      exact mm_iret C hH hr hlk (mm_narZ g5) h dX2_readOrder_109
    have h := mm_neg c4 h
    by_cases c5 : v1 = 112
    · have h := mm_pos c5 h
      refine lv_lookup (off := 80) (tgt := 110) hx hb dX2_readOrder_30 (by decide) (by rw [c5]; decide) (by decide) ?_
      refine lv_aload_n hx hb dX2_readOrder_110 rfl (lv_at hl 0 rfl) ?_
      refine lv_dup hx hb dX2_readOrder_111 rfl ?_
      refine mm_get (v := .int (x1 19 2)) C hH hin2 rfl kl_19 (mm_e2 kd_19) (j := 2) (by decide) rfl w1 rfl dX2_readOrder_112 ?_
      refine lv_iconst (v := 1) hx hb dX2_readOrder_115 (by decide) ?_
      refine lv_iadd hx hb dX2_readOrder_116 ?_
      obtain ⟨x8, e9, h⟩ := mm_bnd h
      refine mm_put (ty := .int) C hH hin2 tyX2_ok nmX2 rfl kl_19 (mm_e2 kd_19) (j := 2) (by decide) rfl w1 pd_I rfl rfl (Nat.le_of_ble_eq_true rfl) (sp_2_2 kd_19) (Option.some.inj e9) dX2_readOrder_117 (fun H locs hH => ?_)
      refine lv_aload_n hx hb dX2_readOrder_120 rfl (lv_at hl 0 rfl) ?_
      obtain ⟨x9, v5, e10, h⟩ := mm_bnd2 h
      refine mm_goi hH (va_runV (As := []) (rest := []) ⟨hx, hb, C.2.2.1, C.2.2.2.1, C.2.2.2.2.1⟩ (ct_X2_readLanding l G T b z x8 e10) (cwV 0 C.2.2.2.2.1 gX2_readOrder_X2_readLanding rfl rfl rfl df_X2_readLanding ⟨Nat.le_of_ble_eq_true rfl, Nat.le_of_ble_eq_true rfl⟩) ⟨mm_B.blind, mm_recv (q := (RX2, TX2, 6)) C hH kl_19 (mm_e2 kd_19) rfl, mm_pre C hH⟩ rfl rfl hl.1 rfl (lv_room (Nat.le_of_ble_eq_true rfl)) dX2_readOrder_121 ⟨Nat.zero_le _, Nat.zero_le _⟩) (fun H locs hH => ?_)
      refine lv_if_eq (tgt := 147) hx hb dX2_readOrder_124 (by decide) (fun c6 => ?_) (fun c6 => ?_)
      · have h := mm_pos c6 h
        have hl := lv_sub (l' := []) hl [] rfl
        refine lv_iconst (v := 0) hx hb dX2_readOrder_147 (by decide) ?_
        exact mm_iret C hH hr hlk rfl h dX2_readOrder_148
      · have h := mm_neg c6 h
        refine lv_aload_n hx hb dX2_readOrder_127 rfl (lv_at hl 0 rfl) ?_
        refine lv_bipush (v := 61) hx hb dX2_readOrder_128 (by decide) ?_
        obtain ⟨x10, v6, e11, h⟩ := mm_bnd2 h
        refine mm_goi hH (va_runV (As := [.int 61]) (rest := []) ⟨hx, hb, C.2.2.1, C.2.2.2.1, C.2.2.2.2.1⟩ (ct_X2_readSign l G T b z 61 x9 e11) (cwV 1 C.2.2.2.2.1 gX2_readOrder_X2_readSign rfl rfl rfl df_X2_readSign ⟨Nat.le_of_ble_eq_true rfl, Nat.le_of_ble_eq_true rfl⟩) ⟨mm_B.blind, mm_recv (q := (RX2, TX2, 6)) C hH kl_19 (mm_e2 kd_19) rfl, mm_pre C hH⟩ rfl rfl hl.1 rfl (lv_room (Nat.le_of_ble_eq_true rfl)) dX2_readOrder_130 ⟨Nat.zero_le _, Nat.zero_le _⟩) (fun H locs hH => ?_)
        refine lv_if_eq (tgt := 147) hx hb dX2_readOrder_133 (by decide) (fun c7 => ?_) (fun c7 => ?_)
        · have h := mm_pos c7 h
          have hl := lv_sub (l' := []) hl [] rfl
          refine lv_iconst (v := 0) hx hb dX2_readOrder_147 (by decide) ?_
          exact mm_iret C hH hr hlk rfl h dX2_readOrder_148
        · have h := mm_neg c7 h
          refine lv_aload_n hx hb dX2_readOrder_136 rfl (lv_at hl 0 rfl) ?_
          obtain ⟨x11, v7, e12, h⟩ := mm_bnd2 h
          refine mm_goi hH (va_runV (As := []) (rest := []) ⟨hx, hb, C.2.2.1, C.2.2.2.1, C.2.2.2.2.1⟩ (ct_X2_readNumber l G T b z x10 e12) (cwV 0 C.2.2.2.2.1 gX2_readOrder_X2_readNumber rfl rfl rfl df_X2_readNumber ⟨Nat.le_of_ble_eq_true rfl, Nat.le_of_ble_eq_true rfl⟩) ⟨mm_B.blind, mm_recv (q := (RX2, TX2, 6)) C hH kl_19 (mm_e2 kd_19) rfl, mm_pre C hH⟩ rfl rfl hl.1 rfl (lv_room (Nat.le_of_ble_eq_true rfl)) dX2_readOrder_137 ⟨Nat.zero_le _, Nat.zero_le _⟩) (fun H locs hH => ?_)
          refine lv_if_eq (tgt := 147) hx hb dX2_readOrder_140 (by decide) (fun c8 => ?_) (fun c8 => ?_)
          · have h := mm_pos c8 h
            have hl := lv_sub (l' := []) hl [] rfl
            refine lv_iconst (v := 0) hx hb dX2_readOrder_147 (by decide) ?_
            exact mm_iret C hH hr hlk rfl h dX2_readOrder_148
          · have h := mm_neg c8 h
            have hl := lv_sub (l' := []) hl [] rfl
            refine lv_iconst (v := 1) hx hb dX2_readOrder_143 (by decide) ?_
            refine lv_goto (tgt := 148) hx hb dX2_readOrder_144 (by decide) ?_
            exact mm_iret C hH hr hlk rfl h dX2_readOrder_148
    have h := mm_neg c5 h
    by_cases c9 : v1 = 116
    · have h := mm_pos c9 h
      refine lv_lookup (off := 50) (tgt := 80) hx hb dX2_readOrder_30 (by decide) (by rw [c9]; decide) (by decide) ?_
      refine lv_aload_n hx hb dX2_readOrder_80 rfl (lv_at hl 0 rfl) ?_
      refine lv_dup hx hb dX2_readOrder_81 rfl ?_
      refine mm_get (v := .int (x1 19 2)) C hH hin2 rfl kl_19 (mm_e2 kd_19) (j := 2) (by decide) rfl w1 rfl dX2_readOrder_82 ?_
      refine lv_iconst (v := 1) hx hb dX2_readOrder_85 (by decide) ?_
      refine lv_iadd hx hb dX2_readOrder_86 ?_
      obtain ⟨x12, e13, h⟩ := mm_bnd h
      refine mm_put (ty := .int) C hH hin2 tyX2_ok nmX2 rfl kl_19 (mm_e2 kd_19) (j := 2) (by decide) rfl w1 pd_I rfl rfl (Nat.le_of_ble_eq_true rfl) (sp_2_2 kd_19) (Option.some.inj e13) dX2_readOrder_87 (fun H locs hH => ?_)
      refine lv_aload_n hx hb dX2_readOrder_90 rfl (lv_at hl 0 rfl) ?_
      obtain ⟨x13, v8, e14, h⟩ := mm_bnd2 h
      refine mm_goi hH (va_runV (As := []) (rest := []) ⟨hx, hb, C.2.2.1, C.2.2.2.1, C.2.2.2.2.1⟩ (ct_X2_readNumber l G T b z x12 e14) (cwV 0 C.2.2.2.2.1 gX2_readOrder_X2_readNumber rfl rfl rfl df_X2_readNumber ⟨Nat.le_of_ble_eq_true rfl, Nat.le_of_ble_eq_true rfl⟩) ⟨mm_B.blind, mm_recv (q := (RX2, TX2, 6)) C hH kl_19 (mm_e2 kd_19) rfl, mm_pre C hH⟩ rfl rfl hl.1 rfl (lv_room (Nat.le_of_ble_eq_true rfl)) dX2_readOrder_91 ⟨Nat.zero_le _, Nat.zero_le _⟩) (fun H locs hH => ?_)
      obtain ⟨g6, h⟩ := mm_grd h
      exact mm_iret C hH hr hlk (mm_narZ g6) h dX2_readOrder_94
    have h := mm_neg c9 h
    refine lv_lookup (off := 119) (tgt := 149) hx hb dX2_readOrder_30 (by decide) ((lv_osw c2 (by decide)).trans ((lv_osw c3 (by decide)).trans ((lv_osw c4 (by decide)).trans ((lv_osw c5 (by decide)).trans ((lv_osw c9 (by decide)).trans (rfl)))))) (by decide) ?_
    have hl := lv_sub (l' := []) hl [] rfl
    refine lv_iconst (v := 0) hx hb dX2_readOrder_149 (by decide) ?_
    exact mm_iret C hH hr hlk rfl h dX2_readOrder_150
  · have h := mm_neg c1 h
    have hl := lv_sub (l' := []) hl [] rfl
    refine lv_iconst (v := 0) hx hb dX2_readOrder_11 (by decide) ?_
    exact mm_iret C hH hr hlk rfl h dX2_readOrder_12
def fn_X2_findFault_6 : Nat → Int32 → mm_M → Option (mm_M × Int32)
  | 0, _, _ => none
  | n + 1, i1, x => if (80 : Int32) ≤ i1 then some (x, (x 19 2)) else mm_b2 (fn_X2_readOrder x) fun x1 v1 => if v1 = 0 then some (x1, (x1 19 2)) else mm_b2 (fn_X2_readSign 59 x1) fun x2 v2 => if v2 = 0 then if (x2 19 2) = (x2 19 1) then some (x2, (-6)) else some (x2, (x2 19 2)) else (some (i1 + 1)).bind fun v3 => fn_X2_findFault_6 n  v3 x2
def fn_X2_findFault  (x : mm_M) : Option (mm_M × Int32) :=
  (fn_X2_startReading x).bind fun x1 => fn_X2_findFault_6 81 0 x1
abbrev rm_X2_findFault : Room := { frames := 3, cells := 0, slots := 0, locals := 61 }
theorem df_X2_findFault : yX2_findFault.cls = RX2 ∧ yX2_findFault.cls ≠ "java/lang/invoke/MethodHandle" ∧ yX2_findFault.cls ≠ "java/lang/invoke/VarHandle" ∧ (parseMethodDescriptor yX2_findFault.desc).map (fun d => d.parameters.length) = some 0 := by decide +kernel
set_option maxRecDepth 100000 in
set_option maxHeartbeats 4000000 in
theorem lp_X2_findFault_6 {p : Program} {l : Launch} {e : Env} {s : State} {m : MethodId} {args : Array Value} {below : List Frame} {meth : Method} {c : Code} {G : va_G} {T : Nat → ClassId} {b : Nat} {z : Nat → Nat} (C : mm_C p m c cX2_findFault 2 s args wsX2_findFault RX2 G T b z)  (hr : meth.sig.returnType = (some .int)) (hlk : meth.locks = false) : ∀ (n : Nat) (i1 : Int32) (x : mm_M) (H : Heap) (locs : List Loc) (ls : Array Slot) (x1 : mm_M) (r : Int32), fn_X2_findFault_6 n i1 x = some (x1, r) → mm_H G T b x s H locs → lv_has ls 2 [(0, .ref (b + 19)), (1, .int i1)] → W p l e rm_X2_findFault s m args below meth c H locs 0 0 (MQ below (mm_Qi G T b r x1) args s 0 0 (fun q => b ≤ q)) (F0 m 6 ls []) := by
  have hx := C.1
  have hb := C.2.1
  have w1 := C.2.2.2.2.1 (.fieldLink RX2 19 "LandingFines$Pad" "place" "I") (by decide +kernel)
  have w2 := C.2.2.2.2.1 (.fieldLink RX2 15 "LandingFines$Pad" "length" "I") (by decide +kernel)
  have hin2 : ∀ w ∈ wsX20, w ∈ wsX2_findFault := by decide +kernel
  intro n
  induction n with
  | zero => intro _ _ _ _ _ _ _ h; cases (show (none : Option (mm_M × Int32)) = some _ from h)
  | succ n ih =>
    intro i1 x H locs ls x1 r h hH hl
    rw [fn_X2_findFault_6] at h
    refine lv_iload_n hx hb dX2_findFault_6 rfl (lv_at hl 1 rfl) ?_
    refine lv_bipush (v := 80) hx hb dX2_findFault_7 (by decide) ?_
    refine lv_icmp_ge (tgt := 55) hx hb dX2_findFault_9 (by decide) (fun c1 => ?_) (fun c1 => ?_)
    · have h := mm_pos c1 h
      have hl := lv_sub (l' := [(0, .ref (b + 19))]) hl [0] rfl
      refine lv_aload_n hx hb dX2_findFault_55 rfl (lv_at hl 0 rfl) ?_
      refine mm_get (v := .int (x 19 2)) C hH hin2 rfl kl_19 (mm_e2 kd_19) (j := 2) (by decide) rfl w1 rfl dX2_findFault_56 ?_
      exact mm_iret C hH hr hlk rfl h dX2_findFault_59
    · have h := mm_neg c1 h
      refine lv_aload_n hx hb dX2_findFault_12 rfl (lv_at hl 0 rfl) ?_
      obtain ⟨x1, v1, e1, h⟩ := mm_bnd2 h
      refine mm_goi hH (va_runV (As := []) (rest := []) ⟨hx, hb, C.2.2.1, C.2.2.2.1, C.2.2.2.2.1⟩ (ct_X2_readOrder l G T b z x e1) (cwV 0 C.2.2.2.2.1 gX2_findFault_X2_readOrder rfl rfl rfl df_X2_readOrder ⟨Nat.le_of_ble_eq_true rfl, Nat.le_of_ble_eq_true rfl⟩) ⟨mm_B.blind, mm_recv (q := (RX2, TX2, 6)) C hH kl_19 (mm_e2 kd_19) rfl, mm_pre C hH⟩ rfl rfl hl.1 rfl (lv_room (Nat.le_of_ble_eq_true rfl)) dX2_findFault_13 ⟨Nat.zero_le _, Nat.zero_le _⟩) (fun H locs hH => ?_)
      refine lv_if_eq (tgt := 55) hx hb dX2_findFault_16 (by decide) (fun c2 => ?_) (fun c2 => ?_)
      · have h := mm_pos c2 h
        have hl := lv_sub (l' := [(0, .ref (b + 19))]) hl [0] rfl
        refine lv_aload_n hx hb dX2_findFault_55 rfl (lv_at hl 0 rfl) ?_
        refine mm_get (v := .int (x1 19 2)) C hH hin2 rfl kl_19 (mm_e2 kd_19) (j := 2) (by decide) rfl w1 rfl dX2_findFault_56 ?_
        exact mm_iret C hH hr hlk rfl h dX2_findFault_59
      · have h := mm_neg c2 h
        refine lv_aload_n hx hb dX2_findFault_19 rfl (lv_at hl 0 rfl) ?_
        refine lv_bipush (v := 59) hx hb dX2_findFault_20 (by decide) ?_
        obtain ⟨x2, v2, e2, h⟩ := mm_bnd2 h
        refine mm_goi hH (va_runV (As := [.int 59]) (rest := []) ⟨hx, hb, C.2.2.1, C.2.2.2.1, C.2.2.2.2.1⟩ (ct_X2_readSign l G T b z 59 x1 e2) (cwV 1 C.2.2.2.2.1 gX2_findFault_X2_readSign rfl rfl rfl df_X2_readSign ⟨Nat.le_of_ble_eq_true rfl, Nat.le_of_ble_eq_true rfl⟩) ⟨mm_B.blind, mm_recv (q := (RX2, TX2, 6)) C hH kl_19 (mm_e2 kd_19) rfl, mm_pre C hH⟩ rfl rfl hl.1 rfl (lv_room (Nat.le_of_ble_eq_true rfl)) dX2_findFault_22 ⟨Nat.zero_le _, Nat.zero_le _⟩) (fun H locs hH => ?_)
        refine lv_if_ne (tgt := 49) hx hb dX2_findFault_25 (by decide) (fun c3 => ?_) (fun c3 => ?_)
        · have h := mm_neg c3 h
          obtain ⟨v3, e3, h⟩ := mm_bnd h
          refine lv_iinc (v := v3) (lv' := [(1, .int v3), (0, .ref (b + 19))]) hx hb dX2_findFault_49 hl (k := 1) rfl (Option.some.inj e3) (by decide) rfl (fun ls hl => ?_)
          refine lv_goto (tgt := 6) hx hb dX2_findFault_52 (by decide) ?_
          exact ih v3 x2 _ _ _ _ _ h hH (lv_sub hl [1, 0] rfl)
        · have h := mm_pos c3 h
          have hl := lv_sub (l' := [(0, .ref (b + 19))]) hl [0] rfl
          refine lv_aload_n hx hb dX2_findFault_28 rfl (lv_at hl 0 rfl) ?_
          refine mm_get (v := .int (x2 19 2)) C hH hin2 rfl kl_19 (mm_e2 kd_19) (j := 2) (by decide) rfl w1 rfl dX2_findFault_29 ?_
          refine lv_aload_n hx hb dX2_findFault_32 rfl (lv_at hl 0 rfl) ?_
          refine mm_get (v := .int (x2 19 1)) C hH hin2 rfl kl_19 (mm_e2 kd_19) (j := 1) (by decide) rfl w2 rfl dX2_findFault_33 ?_
          refine lv_icmp_ne (tgt := 44) hx hb dX2_findFault_36 (by decide) (fun c4 => ?_) (fun c4 => ?_)
          · have h := mm_neg c4 h
            refine lv_aload_n hx hb dX2_findFault_44 rfl (lv_at hl 0 rfl) ?_
            refine mm_get (v := .int (x2 19 2)) C hH hin2 rfl kl_19 (mm_e2 kd_19) (j := 2) (by decide) rfl w1 rfl dX2_findFault_45 ?_
            exact mm_iret C hH hr hlk rfl h dX2_findFault_48
          · have h := mm_pos c4 h
            have hl := lv_sub (l' := []) hl [] rfl
            refine lv_bipush (v := (-6)) hx hb dX2_findFault_39 (by decide) ?_
            refine lv_goto (tgt := 48) hx hb dX2_findFault_41 (by decide) ?_
            exact mm_iret C hH hr hlk rfl h dX2_findFault_48
set_option maxRecDepth 100000 in
set_option maxHeartbeats 4000000 in
theorem ct_X2_findFault (l : Launch) (G : va_G) (T : Nat → ClassId) (b : Nat) (z : Nat → Nat)  (x : mm_M) {x1 : mm_M} {r : Int32} (h : fn_X2_findFault  x = some (x1, r)) : mm_Ci l yX2_findFault wsX2_findFault rm_X2_findFault G T b z [.ref (b + 19)] x r x1 := by
  unfold fn_X2_findFault at h
  refine mm_start (cc := cX2_findFault) (maxL := 2) (ret := (some .int)) (by decide) rfl (Nat.le_of_ble_eq_true rfl) (fun p e s m below meth c ls C hr hlk hH hl => ?_)
  have hl : lv_has ls 2 [(0, .ref (b + 19))] := hl
  have hx := C.1
  have hb := C.2.1
  refine lv_aload_n hx hb dX2_findFault_0 rfl (lv_at hl 0 rfl) ?_
  obtain ⟨x1, e1, h⟩ := mm_bnd h
  refine mm_gov hH (va_runV (As := []) (rest := []) ⟨hx, hb, C.2.2.1, C.2.2.2.1, C.2.2.2.2.1⟩ (ct_X2_startReading l G T b z x e1) (cwV 0 C.2.2.2.2.1 gX2_findFault_X2_startReading rfl rfl rfl df_X2_startReading ⟨Nat.le_of_ble_eq_true rfl, Nat.le_of_ble_eq_true rfl⟩) ⟨mm_B.blind, mm_recv (q := (RX2, TX2, 6)) C hH kl_19 (mm_e2 kd_19) rfl, mm_pre C hH⟩ rfl rfl hl.1 rfl (lv_room (Nat.le_of_ble_eq_true rfl)) dX2_findFault_1 ⟨Nat.zero_le _, Nat.zero_le _⟩) (fun H locs hH => ?_)
  refine lv_iconst (v := 0) hx hb dX2_findFault_4 (by decide) ?_
  refine lv_istore_n (lv' := [(1, .int 0), (0, .ref (b + 19))]) hx hb dX2_findFault_5 rfl hl (by decide) rfl (fun ls hl => ?_)
  exact lp_X2_findFault_6 C   hr hlk 81 0 x1 _ _ _ _ _ h hH (lv_sub hl [1, 0] rfl)
end
section
set_option maxRecDepth 20000 in
theorem ggX3_init_X0_init : GoodIn wsX3_init wsX0_init := goodIn_r _ [24, 25, 2, 3, 26, 27, 28, 29, 30, 31, 42, 43, 44, 45, 46] (by decide +kernel) (by decide +kernel)
set_option maxRecDepth 20000 in
theorem gX3_init_X0_init_n44 : GoodIn wsX3_init (wsX0_init) := ggX3_init_X0_init
set_option maxRecDepth 20000 in
theorem ggX3_init_X1_init : GoodIn wsX3_init wsX1_init := goodIn_r _ [33, 34, 2, 3] (by decide +kernel) (by decide +kernel)
set_option maxRecDepth 20000 in
theorem gX3_init_X1_init_n49 : GoodIn wsX3_init (wsX1_init) := ggX3_init_X1_init
theorem dX3_init_0 : decode cX3_init 0 = .ok (.aload_n 0, 1) := by decide +kernel
theorem dX3_init_1 : decode cX3_init 1 = .ok (.invokespecial 3, 3) := by decide +kernel
theorem dX3_init_4 : decode cX3_init 4 = .ok (.aload_n 0, 1) := by decide +kernel
theorem dX3_init_5 : decode cX3_init 5 = .ok (.getstatic 9, 3) := by decide +kernel
theorem dX3_init_8 : decode cX3_init 8 = .ok (.invokevirtual 13, 3) := by decide +kernel
theorem dX3_init_11 : decode cX3_init 11 = .ok (.checkcast 14, 3) := by decide +kernel
theorem dX3_init_14 : decode cX3_init 14 = .ok (.putfield 18, 3) := by decide +kernel
theorem dX3_init_17 : decode cX3_init 17 = .ok (.aload_n 0, 1) := by decide +kernel
theorem dX3_init_18 : decode cX3_init 18 = .ok (.bipush 8, 2) := by decide +kernel
theorem dX3_init_20 : decode cX3_init 20 = .ok (.anewarray 23, 3) := by decide +kernel
theorem dX3_init_23 : decode cX3_init 23 = .ok (.putfield 25, 3) := by decide +kernel
theorem dX3_init_26 : decode cX3_init 26 = .ok (.aload_n 0, 1) := by decide +kernel
theorem dX3_init_27 : decode cX3_init 27 = .ok (.iconst 0, 1) := by decide +kernel
theorem dX3_init_28 : decode cX3_init 28 = .ok (.putfield 29, 3) := by decide +kernel
theorem dX3_init_31 : decode cX3_init 31 = .ok (.aload_n 0, 1) := by decide +kernel
theorem dX3_init_32 : decode cX3_init 32 = .ok (.iconst 0, 1) := by decide +kernel
theorem dX3_init_33 : decode cX3_init 33 = .ok (.putfield 33, 3) := by decide +kernel
theorem dX3_init_36 : decode cX3_init 36 = .ok (.aload_n 0, 1) := by decide +kernel
theorem dX3_init_37 : decode cX3_init 37 = .ok (.bipush (-6), 2) := by decide +kernel
theorem dX3_init_39 : decode cX3_init 39 = .ok (.putfield 36, 3) := by decide +kernel
theorem dX3_init_42 : decode cX3_init 42 = .ok (.aload_n 0, 1) := by decide +kernel
theorem dX3_init_43 : decode cX3_init 43 = .ok (.iconst 0, 1) := by decide +kernel
theorem dX3_init_44 : decode cX3_init 44 = .ok (.putfield 39, 3) := by decide +kernel
theorem dX3_init_47 : decode cX3_init 47 = .ok (.aload_n 0, 1) := by decide +kernel
theorem dX3_init_48 : decode cX3_init 48 = .ok (.new 42, 3) := by decide +kernel
theorem dX3_init_51 : decode cX3_init 51 = .ok (.dup, 1) := by decide +kernel
theorem dX3_init_52 : decode cX3_init 52 = .ok (.invokespecial 44, 3) := by decide +kernel
theorem dX3_init_55 : decode cX3_init 55 = .ok (.putfield 45, 3) := by decide +kernel
theorem dX3_init_58 : decode cX3_init 58 = .ok (.iconst 0, 1) := by decide +kernel
theorem dX3_init_59 : decode cX3_init 59 = .ok (.istore_n 1, 1) := by decide +kernel
theorem dX3_init_60 : decode cX3_init 60 = .ok (.iload_n 1, 1) := by decide +kernel
theorem dX3_init_61 : decode cX3_init 61 = .ok (.aload_n 0, 1) := by decide +kernel
theorem dX3_init_62 : decode cX3_init 62 = .ok (.getfield 25, 3) := by decide +kernel
theorem dX3_init_65 : decode cX3_init 65 = .ok (.arraylength, 1) := by decide +kernel
theorem dX3_init_66 : decode cX3_init 66 = .ok (.if_icmp .ge 22, 3) := by decide +kernel
theorem dX3_init_69 : decode cX3_init 69 = .ok (.aload_n 0, 1) := by decide +kernel
theorem dX3_init_70 : decode cX3_init 70 = .ok (.getfield 25, 3) := by decide +kernel
theorem dX3_init_73 : decode cX3_init 73 = .ok (.iload_n 1, 1) := by decide +kernel
theorem dX3_init_74 : decode cX3_init 74 = .ok (.new 23, 3) := by decide +kernel
theorem dX3_init_77 : decode cX3_init 77 = .ok (.dup, 1) := by decide +kernel
theorem dX3_init_78 : decode cX3_init 78 = .ok (.invokespecial 49, 3) := by decide +kernel
theorem dX3_init_81 : decode cX3_init 81 = .ok (.aastore, 1) := by decide +kernel
theorem dX3_init_82 : decode cX3_init 82 = .ok (.iinc 1 1, 3) := by decide +kernel
theorem dX3_init_85 : decode cX3_init 85 = .ok (.goto (-25), 3) := by decide +kernel
theorem dX3_init_88 : decode cX3_init 88 = .ok (.return_, 1) := by decide +kernel
set_option maxRecDepth 20000 in
theorem ggX3_copyFrom_X1_copyFrom : GoodIn wsX3_copyFrom wsX1_copyFrom := goodIn_r _ [16, 17, 18, 19, 20, 21, 22, 23, 24, 43, 44, 45, 46, 47, 48, 49, 50] (by decide +kernel) (by decide +kernel)
set_option maxRecDepth 20000 in
theorem gX3_copyFrom_X1_copyFrom : GoodIn wsX3_copyFrom (wsV RX3 56 RX1 yX1_copyFrom wsX1_copyFrom) := goodIn_app (goodIn_of _ (by decide +kernel)) ggX3_copyFrom_X1_copyFrom
set_option maxRecDepth 20000 in
theorem ggX3_copyFrom_X0_copyFrom : GoodIn wsX3_copyFrom wsX0_copyFrom := goodIn_r _ [29, 30, 31, 3, 4, 5, 32, 33, 34, 35, 51, 52, 53, 54, 55] (by decide +kernel) (by decide +kernel)
set_option maxRecDepth 20000 in
theorem gX3_copyFrom_X0_copyFrom : GoodIn wsX3_copyFrom (wsV RX3 60 RX0 yX0_copyFrom wsX0_copyFrom) := goodIn_app (goodIn_of _ (by decide +kernel)) ggX3_copyFrom_X0_copyFrom
theorem dX3_copyFrom_0 : decode cX3_copyFrom 0 = .ok (.aload_n 1, 1) := by decide +kernel
theorem dX3_copyFrom_1 : decode cX3_copyFrom 1 = .ok (.getfield 18, 3) := by decide +kernel
theorem dX3_copyFrom_4 : decode cX3_copyFrom 4 = .ok (.iconst 0, 1) := by decide +kernel
theorem dX3_copyFrom_5 : decode cX3_copyFrom 5 = .ok (.aload_n 0, 1) := by decide +kernel
theorem dX3_copyFrom_6 : decode cX3_copyFrom 6 = .ok (.getfield 18, 3) := by decide +kernel
theorem dX3_copyFrom_9 : decode cX3_copyFrom 9 = .ok (.iconst 0, 1) := by decide +kernel
theorem dX3_copyFrom_10 : decode cX3_copyFrom 10 = .ok (.aload_n 0, 1) := by decide +kernel
theorem dX3_copyFrom_11 : decode cX3_copyFrom 11 = .ok (.getfield 18, 3) := by decide +kernel
theorem dX3_copyFrom_14 : decode cX3_copyFrom 14 = .ok (.arraylength, 1) := by decide +kernel
theorem dX3_copyFrom_15 : decode cX3_copyFrom 15 = .ok (.invokestatic 50, 3) := by decide +kernel
theorem dX3_copyFrom_18 : decode cX3_copyFrom 18 = .ok (.iconst 0, 1) := by decide +kernel
theorem dX3_copyFrom_19 : decode cX3_copyFrom 19 = .ok (.istore_n 2, 1) := by decide +kernel
theorem dX3_copyFrom_20 : decode cX3_copyFrom 20 = .ok (.iload_n 2, 1) := by decide +kernel
theorem dX3_copyFrom_21 : decode cX3_copyFrom 21 = .ok (.aload_n 0, 1) := by decide +kernel
theorem dX3_copyFrom_22 : decode cX3_copyFrom 22 = .ok (.getfield 25, 3) := by decide +kernel
theorem dX3_copyFrom_25 : decode cX3_copyFrom 25 = .ok (.arraylength, 1) := by decide +kernel
theorem dX3_copyFrom_26 : decode cX3_copyFrom 26 = .ok (.if_icmp .ge 24, 3) := by decide +kernel
theorem dX3_copyFrom_29 : decode cX3_copyFrom 29 = .ok (.aload_n 0, 1) := by decide +kernel
theorem dX3_copyFrom_30 : decode cX3_copyFrom 30 = .ok (.getfield 25, 3) := by decide +kernel
theorem dX3_copyFrom_33 : decode cX3_copyFrom 33 = .ok (.iload_n 2, 1) := by decide +kernel
theorem dX3_copyFrom_34 : decode cX3_copyFrom 34 = .ok (.aaload, 1) := by decide +kernel
theorem dX3_copyFrom_35 : decode cX3_copyFrom 35 = .ok (.aload_n 1, 1) := by decide +kernel
theorem dX3_copyFrom_36 : decode cX3_copyFrom 36 = .ok (.getfield 25, 3) := by decide +kernel
theorem dX3_copyFrom_39 : decode cX3_copyFrom 39 = .ok (.iload_n 2, 1) := by decide +kernel
theorem dX3_copyFrom_40 : decode cX3_copyFrom 40 = .ok (.aaload, 1) := by decide +kernel
theorem dX3_copyFrom_41 : decode cX3_copyFrom 41 = .ok (.invokevirtual 56, 3) := by decide +kernel
theorem dX3_copyFrom_44 : decode cX3_copyFrom 44 = .ok (.iinc 2 1, 3) := by decide +kernel
theorem dX3_copyFrom_47 : decode cX3_copyFrom 47 = .ok (.goto (-27), 3) := by decide +kernel
theorem dX3_copyFrom_50 : decode cX3_copyFrom 50 = .ok (.aload_n 0, 1) := by decide +kernel
theorem dX3_copyFrom_51 : decode cX3_copyFrom 51 = .ok (.aload_n 1, 1) := by decide +kernel
theorem dX3_copyFrom_52 : decode cX3_copyFrom 52 = .ok (.getfield 29, 3) := by decide +kernel
theorem dX3_copyFrom_55 : decode cX3_copyFrom 55 = .ok (.putfield 29, 3) := by decide +kernel
theorem dX3_copyFrom_58 : decode cX3_copyFrom 58 = .ok (.aload_n 0, 1) := by decide +kernel
theorem dX3_copyFrom_59 : decode cX3_copyFrom 59 = .ok (.aload_n 1, 1) := by decide +kernel
theorem dX3_copyFrom_60 : decode cX3_copyFrom 60 = .ok (.getfield 33, 3) := by decide +kernel
theorem dX3_copyFrom_63 : decode cX3_copyFrom 63 = .ok (.putfield 33, 3) := by decide +kernel
theorem dX3_copyFrom_66 : decode cX3_copyFrom 66 = .ok (.aload_n 0, 1) := by decide +kernel
theorem dX3_copyFrom_67 : decode cX3_copyFrom 67 = .ok (.aload_n 1, 1) := by decide +kernel
theorem dX3_copyFrom_68 : decode cX3_copyFrom 68 = .ok (.getfield 36, 3) := by decide +kernel
theorem dX3_copyFrom_71 : decode cX3_copyFrom 71 = .ok (.putfield 36, 3) := by decide +kernel
theorem dX3_copyFrom_74 : decode cX3_copyFrom 74 = .ok (.aload_n 0, 1) := by decide +kernel
theorem dX3_copyFrom_75 : decode cX3_copyFrom 75 = .ok (.aload_n 1, 1) := by decide +kernel
theorem dX3_copyFrom_76 : decode cX3_copyFrom 76 = .ok (.getfield 39, 3) := by decide +kernel
theorem dX3_copyFrom_79 : decode cX3_copyFrom 79 = .ok (.putfield 39, 3) := by decide +kernel
theorem dX3_copyFrom_82 : decode cX3_copyFrom 82 = .ok (.aload_n 0, 1) := by decide +kernel
theorem dX3_copyFrom_83 : decode cX3_copyFrom 83 = .ok (.getfield 45, 3) := by decide +kernel
theorem dX3_copyFrom_86 : decode cX3_copyFrom 86 = .ok (.aload_n 1, 1) := by decide +kernel
theorem dX3_copyFrom_87 : decode cX3_copyFrom 87 = .ok (.getfield 45, 3) := by decide +kernel
theorem dX3_copyFrom_90 : decode cX3_copyFrom 90 = .ok (.invokevirtual 60, 3) := by decide +kernel
theorem dX3_copyFrom_93 : decode cX3_copyFrom 93 = .ok (.return_, 1) := by decide +kernel
theorem dX3_find_0 : decode cX3_find 0 = .ok (.iload_n 1, 1) := by decide +kernel
theorem dX3_find_1 : decode cX3_find 1 = .ok (.ifCond .lt 11, 3) := by decide +kernel
theorem dX3_find_4 : decode cX3_find 4 = .ok (.iload_n 1, 1) := by decide +kernel
theorem dX3_find_5 : decode cX3_find 5 = .ok (.aload_n 0, 1) := by decide +kernel
theorem dX3_find_6 : decode cX3_find 6 = .ok (.getfield 29, 3) := by decide +kernel
theorem dX3_find_9 : decode cX3_find 9 = .ok (.if_icmp .lt 7, 3) := by decide +kernel
theorem dX3_find_12 : decode cX3_find 12 = .ok (.aconst_null, 1) := by decide +kernel
theorem dX3_find_13 : decode cX3_find 13 = .ok (.goto 9, 3) := by decide +kernel
theorem dX3_find_16 : decode cX3_find 16 = .ok (.aload_n 0, 1) := by decide +kernel
theorem dX3_find_17 : decode cX3_find 17 = .ok (.getfield 25, 3) := by decide +kernel
theorem dX3_find_20 : decode cX3_find 20 = .ok (.iload_n 1, 1) := by decide +kernel
theorem dX3_find_21 : decode cX3_find 21 = .ok (.aaload, 1) := by decide +kernel
theorem dX3_find_22 : decode cX3_find 22 = .ok (.areturn, 1) := by decide +kernel
theorem dX3_changeSetting_0 : decode cX3_changeSetting 0 = .ok (.iload_n 1, 1) := by decide +kernel
theorem dX3_changeSetting_1 : decode cX3_changeSetting 1 = .ok (.ifCond .lt 12, 3) := by decide +kernel
theorem dX3_changeSetting_4 : decode cX3_changeSetting 4 = .ok (.iload_n 1, 1) := by decide +kernel
theorem dX3_changeSetting_5 : decode cX3_changeSetting 5 = .ok (.aload_n 0, 1) := by decide +kernel
theorem dX3_changeSetting_6 : decode cX3_changeSetting 6 = .ok (.getfield 18, 3) := by decide +kernel
theorem dX3_changeSetting_9 : decode cX3_changeSetting 9 = .ok (.arraylength, 1) := by decide +kernel
theorem dX3_changeSetting_10 : decode cX3_changeSetting 10 = .ok (.if_icmp .lt 6, 3) := by decide +kernel
theorem dX3_changeSetting_13 : decode cX3_changeSetting 13 = .ok (.bipush (-2), 2) := by decide +kernel
theorem dX3_changeSetting_15 : decode cX3_changeSetting 15 = .ok (.ireturn, 1) := by decide +kernel
theorem dX3_changeSetting_16 : decode cX3_changeSetting 16 = .ok (.iload_n 2, 1) := by decide +kernel
theorem dX3_changeSetting_17 : decode cX3_changeSetting 17 = .ok (.getstatic 63, 3) := by decide +kernel
theorem dX3_changeSetting_20 : decode cX3_changeSetting 20 = .ok (.iload_n 1, 1) := by decide +kernel
theorem dX3_changeSetting_21 : decode cX3_changeSetting 21 = .ok (.iaload, 1) := by decide +kernel
theorem dX3_changeSetting_22 : decode cX3_changeSetting 22 = .ok (.if_icmp .lt 12, 3) := by decide +kernel
theorem dX3_changeSetting_25 : decode cX3_changeSetting 25 = .ok (.iload_n 2, 1) := by decide +kernel
theorem dX3_changeSetting_26 : decode cX3_changeSetting 26 = .ok (.getstatic 66, 3) := by decide +kernel
theorem dX3_changeSetting_29 : decode cX3_changeSetting 29 = .ok (.iload_n 1, 1) := by decide +kernel
theorem dX3_changeSetting_30 : decode cX3_changeSetting 30 = .ok (.iaload, 1) := by decide +kernel
theorem dX3_changeSetting_31 : decode cX3_changeSetting 31 = .ok (.if_icmp .le 6, 3) := by decide +kernel
theorem dX3_changeSetting_34 : decode cX3_changeSetting 34 = .ok (.bipush (-2), 2) := by decide +kernel
theorem dX3_changeSetting_36 : decode cX3_changeSetting 36 = .ok (.ireturn, 1) := by decide +kernel
theorem dX3_changeSetting_37 : decode cX3_changeSetting 37 = .ok (.aload_n 0, 1) := by decide +kernel
theorem dX3_changeSetting_38 : decode cX3_changeSetting 38 = .ok (.getfield 18, 3) := by decide +kernel
theorem dX3_changeSetting_41 : decode cX3_changeSetting 41 = .ok (.iload_n 1, 1) := by decide +kernel
theorem dX3_changeSetting_42 : decode cX3_changeSetting 42 = .ok (.iaload, 1) := by decide +kernel
theorem dX3_changeSetting_43 : decode cX3_changeSetting 43 = .ok (.istore_n 3, 1) := by decide +kernel
theorem dX3_changeSetting_44 : decode cX3_changeSetting 44 = .ok (.aload_n 0, 1) := by decide +kernel
theorem dX3_changeSetting_45 : decode cX3_changeSetting 45 = .ok (.getfield 18, 3) := by decide +kernel
theorem dX3_changeSetting_48 : decode cX3_changeSetting 48 = .ok (.iload_n 1, 1) := by decide +kernel
theorem dX3_changeSetting_49 : decode cX3_changeSetting 49 = .ok (.iload_n 2, 1) := by decide +kernel
theorem dX3_changeSetting_50 : decode cX3_changeSetting 50 = .ok (.iastore, 1) := by decide +kernel
theorem dX3_changeSetting_51 : decode cX3_changeSetting 51 = .ok (.iload_n 3, 1) := by decide +kernel
theorem dX3_changeSetting_52 : decode cX3_changeSetting 52 = .ok (.ireturn, 1) := by decide +kernel
set_option maxRecDepth 20000 in
theorem ggX3_addLanding_X1_arrive : GoodIn wsX3_addLanding wsX1_arrive := goodIn_r _ [7, 8, 9, 10, 11, 12, 13, 14, 15, 35, 36, 37, 38, 39, 40, 41, 42] (by decide +kernel) (by decide +kernel)
set_option maxRecDepth 20000 in
theorem gX3_addLanding_X1_arrive : GoodIn wsX3_addLanding (wsV RX3 69 RX1 yX1_arrive wsX1_arrive) := goodIn_app (goodIn_of _ (by decide +kernel)) ggX3_addLanding_X1_arrive
set_option maxRecDepth 20000 in
theorem ggX3_addLanding_X3_followTaken : GoodIn wsX3_addLanding wsX3_followTaken := goodIn_r _ [20, 1, 2, 21, 22, 23, 24, 25, 26, 6, 27, 8, 11, 28, 29, 30, 31, 32, 33, 34, 35, 36, 37, 38, 39, 40, 41, 42] (by decide +kernel) (by decide +kernel)
set_option maxRecDepth 20000 in
theorem gX3_addLanding_X3_followTaken : GoodIn wsX3_addLanding (wsV RX3 73 RX3 yX3_followTaken wsX3_followTaken) := goodIn_app (goodIn_of _ (by decide +kernel)) ggX3_addLanding_X3_followTaken
theorem dX3_addLanding_0 : decode cX3_addLanding 0 = .ok (.iload_n 1, 1) := by decide +kernel
theorem dX3_addLanding_1 : decode cX3_addLanding 1 = .ok (.ifCond .lt 10, 3) := by decide +kernel
theorem dX3_addLanding_4 : decode cX3_addLanding 4 = .ok (.iload_n 1, 1) := by decide +kernel
theorem dX3_addLanding_5 : decode cX3_addLanding 5 = .ok (.sipush 999, 3) := by decide +kernel
theorem dX3_addLanding_8 : decode cX3_addLanding 8 = .ok (.if_icmp .le 6, 3) := by decide +kernel
theorem dX3_addLanding_11 : decode cX3_addLanding 11 = .ok (.bipush (-2), 2) := by decide +kernel
theorem dX3_addLanding_13 : decode cX3_addLanding 13 = .ok (.ireturn, 1) := by decide +kernel
theorem dX3_addLanding_14 : decode cX3_addLanding 14 = .ok (.aload_n 0, 1) := by decide +kernel
theorem dX3_addLanding_15 : decode cX3_addLanding 15 = .ok (.getfield 29, 3) := by decide +kernel
theorem dX3_addLanding_18 : decode cX3_addLanding 18 = .ok (.bipush 8, 2) := by decide +kernel
theorem dX3_addLanding_20 : decode cX3_addLanding 20 = .ok (.if_icmp .lt 6, 3) := by decide +kernel
theorem dX3_addLanding_23 : decode cX3_addLanding 23 = .ok (.bipush (-4), 2) := by decide +kernel
theorem dX3_addLanding_25 : decode cX3_addLanding 25 = .ok (.ireturn, 1) := by decide +kernel
theorem dX3_addLanding_26 : decode cX3_addLanding 26 = .ok (.aload_n 0, 1) := by decide +kernel
theorem dX3_addLanding_27 : decode cX3_addLanding 27 = .ok (.getfield 25, 3) := by decide +kernel
theorem dX3_addLanding_30 : decode cX3_addLanding 30 = .ok (.aload_n 0, 1) := by decide +kernel
theorem dX3_addLanding_31 : decode cX3_addLanding 31 = .ok (.getfield 29, 3) := by decide +kernel
theorem dX3_addLanding_34 : decode cX3_addLanding 34 = .ok (.aaload, 1) := by decide +kernel
theorem dX3_addLanding_35 : decode cX3_addLanding 35 = .ok (.iload_n 1, 1) := by decide +kernel
theorem dX3_addLanding_36 : decode cX3_addLanding 36 = .ok (.invokevirtual 69, 3) := by decide +kernel
theorem dX3_addLanding_39 : decode cX3_addLanding 39 = .ok (.aload_n 0, 1) := by decide +kernel
theorem dX3_addLanding_40 : decode cX3_addLanding 40 = .ok (.dup, 1) := by decide +kernel
theorem dX3_addLanding_41 : decode cX3_addLanding 41 = .ok (.getfield 29, 3) := by decide +kernel
theorem dX3_addLanding_44 : decode cX3_addLanding 44 = .ok (.iconst 1, 1) := by decide +kernel
theorem dX3_addLanding_45 : decode cX3_addLanding 45 = .ok (.iadd, 1) := by decide +kernel
theorem dX3_addLanding_46 : decode cX3_addLanding 46 = .ok (.putfield 29, 3) := by decide +kernel
theorem dX3_addLanding_49 : decode cX3_addLanding 49 = .ok (.aload_n 0, 1) := by decide +kernel
theorem dX3_addLanding_50 : decode cX3_addLanding 50 = .ok (.invokevirtual 73, 3) := by decide +kernel
theorem dX3_addLanding_53 : decode cX3_addLanding 53 = .ok (.aload_n 0, 1) := by decide +kernel
theorem dX3_addLanding_54 : decode cX3_addLanding 54 = .ok (.getfield 29, 3) := by decide +kernel
theorem dX3_addLanding_57 : decode cX3_addLanding 57 = .ok (.iconst 1, 1) := by decide +kernel
theorem dX3_addLanding_58 : decode cX3_addLanding 58 = .ok (.isub, 1) := by decide +kernel
theorem dX3_addLanding_59 : decode cX3_addLanding 59 = .ok (.ireturn, 1) := by decide +kernel
set_option maxRecDepth 20000 in
theorem ggX3_openLanding_X3_find : GoodIn wsX3_openLanding wsX3_find := goodIn_r _ [6, 7, 8, 67, 68, 69, 70, 71, 72, 73] (by decide +kernel) (by decide +kernel)
set_option maxRecDepth 20000 in
theorem gX3_openLanding_X3_find : GoodIn wsX3_openLanding (wsV RX3 76 RX3 yX3_find wsX3_find) := goodIn_app (goodIn_of _ (by decide +kernel)) ggX3_openLanding_X3_find
set_option maxRecDepth 20000 in
theorem ggX3_openLanding_X3_finishChange : GoodIn wsX3_openLanding wsX3_finishChange := goodIn_r _ [12, 13, 14, 15, 16, 17, 18, 19, 20, 21, 22, 23, 24, 25, 26, 27, 28, 29, 30, 31, 32, 5, 33, 34, 35, 36, 37, 38, 39, 40, 41, 42, 43, 44, 45, 46, 47, 48, 49, 50, 7, 8, 51, 52, 53, 54, 55, 56, 57, 58, 67, 68, 69, 70, 71, 72, 73, 59, 60, 61, 62, 63, 64, 65, 66, 74, 75, 76, 77, 78] (by decide +kernel) (by decide +kernel)
set_option maxRecDepth 20000 in
theorem gX3_openLanding_X3_finishChange : GoodIn wsX3_openLanding (wsV RX3 84 RX3 yX3_finishChange wsX3_finishChange) := goodIn_app (goodIn_of _ (by decide +kernel)) ggX3_openLanding_X3_finishChange
theorem dX3_openLanding_0 : decode cX3_openLanding 0 = .ok (.aload_n 0, 1) := by decide +kernel
theorem dX3_openLanding_1 : decode cX3_openLanding 1 = .ok (.iload_n 1, 1) := by decide +kernel
theorem dX3_openLanding_2 : decode cX3_openLanding 2 = .ok (.invokevirtual 76, 3) := by decide +kernel
theorem dX3_openLanding_5 : decode cX3_openLanding 5 = .ok (.astore_n 2, 1) := by decide +kernel
theorem dX3_openLanding_6 : decode cX3_openLanding 6 = .ok (.aload_n 2, 1) := by decide +kernel
theorem dX3_openLanding_7 : decode cX3_openLanding 7 = .ok (.ifnonnull 5, 3) := by decide +kernel
theorem dX3_openLanding_10 : decode cX3_openLanding 10 = .ok (.iconst (-1), 1) := by decide +kernel
theorem dX3_openLanding_11 : decode cX3_openLanding 11 = .ok (.ireturn, 1) := by decide +kernel
theorem dX3_openLanding_12 : decode cX3_openLanding 12 = .ok (.aload_n 2, 1) := by decide +kernel
theorem dX3_openLanding_13 : decode cX3_openLanding 13 = .ok (.getfield 80, 3) := by decide +kernel
theorem dX3_openLanding_16 : decode cX3_openLanding 16 = .ok (.ifCond .eq 6, 3) := by decide +kernel
theorem dX3_openLanding_19 : decode cX3_openLanding 19 = .ok (.bipush (-5), 2) := by decide +kernel
theorem dX3_openLanding_21 : decode cX3_openLanding 21 = .ok (.ireturn, 1) := by decide +kernel
theorem dX3_openLanding_22 : decode cX3_openLanding 22 = .ok (.aload_n 2, 1) := by decide +kernel
theorem dX3_openLanding_23 : decode cX3_openLanding 23 = .ok (.iconst 1, 1) := by decide +kernel
theorem dX3_openLanding_24 : decode cX3_openLanding 24 = .ok (.putfield 80, 3) := by decide +kernel
theorem dX3_openLanding_27 : decode cX3_openLanding 27 = .ok (.aload_n 0, 1) := by decide +kernel
theorem dX3_openLanding_28 : decode cX3_openLanding 28 = .ok (.aload_n 2, 1) := by decide +kernel
theorem dX3_openLanding_29 : decode cX3_openLanding 29 = .ok (.iload_n 1, 1) := by decide +kernel
theorem dX3_openLanding_30 : decode cX3_openLanding 30 = .ok (.iconst 1, 1) := by decide +kernel
theorem dX3_openLanding_31 : decode cX3_openLanding 31 = .ok (.invokevirtual 84, 3) := by decide +kernel
theorem dX3_openLanding_34 : decode cX3_openLanding 34 = .ok (.ireturn, 1) := by decide +kernel
set_option maxRecDepth 20000 in
theorem ggX3_closeLanding_X3_find : GoodIn wsX3_closeLanding wsX3_find := goodIn_r _ [6, 7, 8, 67, 68, 69, 70, 71, 72, 73] (by decide +kernel) (by decide +kernel)
set_option maxRecDepth 20000 in
theorem gX3_closeLanding_X3_find : GoodIn wsX3_closeLanding (wsV RX3 76 RX3 yX3_find wsX3_find) := goodIn_app (goodIn_of _ (by decide +kernel)) ggX3_closeLanding_X3_find
set_option maxRecDepth 20000 in
theorem ggX3_closeLanding_X3_finishChange : GoodIn wsX3_closeLanding wsX3_finishChange := goodIn_r _ [12, 13, 14, 15, 16, 17, 18, 19, 20, 21, 22, 23, 24, 25, 26, 27, 28, 29, 30, 31, 32, 5, 33, 34, 35, 36, 37, 38, 39, 40, 41, 42, 43, 44, 45, 46, 47, 48, 49, 50, 7, 8, 51, 52, 53, 54, 55, 56, 57, 58, 67, 68, 69, 70, 71, 72, 73, 59, 60, 61, 62, 63, 64, 65, 66, 74, 75, 76, 77, 78] (by decide +kernel) (by decide +kernel)
set_option maxRecDepth 20000 in
theorem gX3_closeLanding_X3_finishChange : GoodIn wsX3_closeLanding (wsV RX3 84 RX3 yX3_finishChange wsX3_finishChange) := goodIn_app (goodIn_of _ (by decide +kernel)) ggX3_closeLanding_X3_finishChange
theorem dX3_closeLanding_0 : decode cX3_closeLanding 0 = .ok (.aload_n 0, 1) := by decide +kernel
theorem dX3_closeLanding_1 : decode cX3_closeLanding 1 = .ok (.iload_n 1, 1) := by decide +kernel
theorem dX3_closeLanding_2 : decode cX3_closeLanding 2 = .ok (.invokevirtual 76, 3) := by decide +kernel
theorem dX3_closeLanding_5 : decode cX3_closeLanding 5 = .ok (.astore_n 2, 1) := by decide +kernel
theorem dX3_closeLanding_6 : decode cX3_closeLanding 6 = .ok (.aload_n 2, 1) := by decide +kernel
theorem dX3_closeLanding_7 : decode cX3_closeLanding 7 = .ok (.ifnonnull 5, 3) := by decide +kernel
theorem dX3_closeLanding_10 : decode cX3_closeLanding 10 = .ok (.iconst (-1), 1) := by decide +kernel
theorem dX3_closeLanding_11 : decode cX3_closeLanding 11 = .ok (.ireturn, 1) := by decide +kernel
theorem dX3_closeLanding_12 : decode cX3_closeLanding 12 = .ok (.aload_n 2, 1) := by decide +kernel
theorem dX3_closeLanding_13 : decode cX3_closeLanding 13 = .ok (.getfield 80, 3) := by decide +kernel
theorem dX3_closeLanding_16 : decode cX3_closeLanding 16 = .ok (.ifCond .ne 6, 3) := by decide +kernel
theorem dX3_closeLanding_19 : decode cX3_closeLanding 19 = .ok (.bipush (-5), 2) := by decide +kernel
theorem dX3_closeLanding_21 : decode cX3_closeLanding 21 = .ok (.ireturn, 1) := by decide +kernel
theorem dX3_closeLanding_22 : decode cX3_closeLanding 22 = .ok (.aload_n 2, 1) := by decide +kernel
theorem dX3_closeLanding_23 : decode cX3_closeLanding 23 = .ok (.iconst 0, 1) := by decide +kernel
theorem dX3_closeLanding_24 : decode cX3_closeLanding 24 = .ok (.putfield 80, 3) := by decide +kernel
theorem dX3_closeLanding_27 : decode cX3_closeLanding 27 = .ok (.aload_n 0, 1) := by decide +kernel
theorem dX3_closeLanding_28 : decode cX3_closeLanding 28 = .ok (.aload_n 2, 1) := by decide +kernel
theorem dX3_closeLanding_29 : decode cX3_closeLanding 29 = .ok (.iload_n 1, 1) := by decide +kernel
theorem dX3_closeLanding_30 : decode cX3_closeLanding 30 = .ok (.iconst 0, 1) := by decide +kernel
theorem dX3_closeLanding_31 : decode cX3_closeLanding 31 = .ok (.invokevirtual 84, 3) := by decide +kernel
theorem dX3_closeLanding_34 : decode cX3_closeLanding 34 = .ok (.ireturn, 1) := by decide +kernel
set_option maxRecDepth 20000 in
theorem ggX3_changePrice_X3_find : GoodIn wsX3_changePrice wsX3_find := goodIn_r _ [6, 7, 8, 66, 67, 68, 69, 70, 71, 72] (by decide +kernel) (by decide +kernel)
set_option maxRecDepth 20000 in
theorem gX3_changePrice_X3_find : GoodIn wsX3_changePrice (wsV RX3 76 RX3 yX3_find wsX3_find) := goodIn_app (goodIn_of _ (by decide +kernel)) ggX3_changePrice_X3_find
set_option maxRecDepth 20000 in
theorem ggX3_changePrice_X3_finishChange : GoodIn wsX3_changePrice wsX3_finishChange := goodIn_r _ [12, 13, 14, 15, 16, 17, 18, 19, 20, 21, 22, 23, 24, 25, 26, 27, 28, 29, 30, 31, 32, 5, 33, 34, 35, 36, 37, 38, 39, 40, 41, 42, 43, 44, 45, 46, 47, 48, 49, 50, 7, 8, 1, 51, 52, 53, 54, 55, 56, 57, 66, 67, 68, 69, 70, 71, 72, 58, 59, 60, 61, 62, 63, 64, 65, 73, 74, 75, 76, 77] (by decide +kernel) (by decide +kernel)
set_option maxRecDepth 20000 in
theorem gX3_changePrice_X3_finishChange : GoodIn wsX3_changePrice (wsV RX3 84 RX3 yX3_finishChange wsX3_finishChange) := goodIn_app (goodIn_of _ (by decide +kernel)) ggX3_changePrice_X3_finishChange
theorem dX3_changePrice_0 : decode cX3_changePrice 0 = .ok (.aload_n 0, 1) := by decide +kernel
theorem dX3_changePrice_1 : decode cX3_changePrice 1 = .ok (.iload_n 1, 1) := by decide +kernel
theorem dX3_changePrice_2 : decode cX3_changePrice 2 = .ok (.invokevirtual 76, 3) := by decide +kernel
theorem dX3_changePrice_5 : decode cX3_changePrice 5 = .ok (.astore_n 3, 1) := by decide +kernel
theorem dX3_changePrice_6 : decode cX3_changePrice 6 = .ok (.aload_n 3, 1) := by decide +kernel
theorem dX3_changePrice_7 : decode cX3_changePrice 7 = .ok (.ifnonnull 5, 3) := by decide +kernel
theorem dX3_changePrice_10 : decode cX3_changePrice 10 = .ok (.iconst (-1), 1) := by decide +kernel
theorem dX3_changePrice_11 : decode cX3_changePrice 11 = .ok (.ireturn, 1) := by decide +kernel
theorem dX3_changePrice_12 : decode cX3_changePrice 12 = .ok (.iload_n 2, 1) := by decide +kernel
theorem dX3_changePrice_13 : decode cX3_changePrice 13 = .ok (.ifCond .lt 10, 3) := by decide +kernel
theorem dX3_changePrice_16 : decode cX3_changePrice 16 = .ok (.iload_n 2, 1) := by decide +kernel
theorem dX3_changePrice_17 : decode cX3_changePrice 17 = .ok (.sipush 999, 3) := by decide +kernel
theorem dX3_changePrice_20 : decode cX3_changePrice 20 = .ok (.if_icmp .le 6, 3) := by decide +kernel
theorem dX3_changePrice_23 : decode cX3_changePrice 23 = .ok (.bipush (-2), 2) := by decide +kernel
theorem dX3_changePrice_25 : decode cX3_changePrice 25 = .ok (.ireturn, 1) := by decide +kernel
theorem dX3_changePrice_26 : decode cX3_changePrice 26 = .ok (.aload_n 3, 1) := by decide +kernel
theorem dX3_changePrice_27 : decode cX3_changePrice 27 = .ok (.getfield 88, 3) := by decide +kernel
theorem dX3_changePrice_30 : decode cX3_changePrice 30 = .ok (.iload_n 2, 1) := by decide +kernel
theorem dX3_changePrice_31 : decode cX3_changePrice 31 = .ok (.if_icmp .ne 6, 3) := by decide +kernel
theorem dX3_changePrice_34 : decode cX3_changePrice 34 = .ok (.bipush (-5), 2) := by decide +kernel
theorem dX3_changePrice_36 : decode cX3_changePrice 36 = .ok (.ireturn, 1) := by decide +kernel
theorem dX3_changePrice_37 : decode cX3_changePrice 37 = .ok (.aload_n 3, 1) := by decide +kernel
theorem dX3_changePrice_38 : decode cX3_changePrice 38 = .ok (.iload_n 2, 1) := by decide +kernel
theorem dX3_changePrice_39 : decode cX3_changePrice 39 = .ok (.putfield 88, 3) := by decide +kernel
theorem dX3_changePrice_42 : decode cX3_changePrice 42 = .ok (.aload_n 0, 1) := by decide +kernel
theorem dX3_changePrice_43 : decode cX3_changePrice 43 = .ok (.aload_n 3, 1) := by decide +kernel
theorem dX3_changePrice_44 : decode cX3_changePrice 44 = .ok (.iload_n 1, 1) := by decide +kernel
theorem dX3_changePrice_45 : decode cX3_changePrice 45 = .ok (.iconst 2, 1) := by decide +kernel
theorem dX3_changePrice_46 : decode cX3_changePrice 46 = .ok (.invokevirtual 84, 3) := by decide +kernel
theorem dX3_changePrice_49 : decode cX3_changePrice 49 = .ok (.ireturn, 1) := by decide +kernel
set_option maxRecDepth 20000 in
theorem ggX3_finishChange_X0_add : GoodIn wsX3_finishChange wsX0_add := goodIn_r _ [8, 9, 10, 11, 12, 13, 14, 15, 16, 17, 65, 66, 67, 68, 69] (by decide +kernel) (by decide +kernel)
set_option maxRecDepth 20000 in
theorem gX3_finishChange_X0_add : GoodIn wsX3_finishChange (wsV RX3 91 RX0 yX0_add wsX0_add) := goodIn_app (goodIn_of _ (by decide +kernel)) ggX3_finishChange_X0_add
set_option maxRecDepth 20000 in
theorem ggX3_finishChange_X3_fineBySort : GoodIn wsX3_finishChange wsX3_fineBySort := goodIn_r _ [22, 23, 24, 25, 26, 27, 28, 29, 30, 31, 32, 15, 16, 17, 33, 34, 35, 50, 51, 52, 53, 54, 55, 56, 57, 58, 59, 60, 61, 62, 63, 64] (by decide +kernel) (by decide +kernel)
set_option maxRecDepth 20000 in
theorem gX3_finishChange_X3_fineBySort : GoodIn wsX3_finishChange (wsV RX3 95 RX3 yX3_fineBySort wsX3_fineBySort) := goodIn_app (goodIn_of _ (by decide +kernel)) ggX3_finishChange_X3_fineBySort
set_option maxRecDepth 20000 in
theorem ggX3_finishChange_X3_followTaken : GoodIn wsX3_finishChange wsX3_followTaken := goodIn_r _ [39, 40, 41, 42, 43, 44, 45, 46, 47, 27, 48, 49, 33, 50, 51, 52, 53, 54, 55, 56, 57, 58, 59, 60, 61, 62, 63, 64] (by decide +kernel) (by decide +kernel)
set_option maxRecDepth 20000 in
theorem gX3_finishChange_X3_followTaken : GoodIn wsX3_finishChange (wsV RX3 73 RX3 yX3_followTaken wsX3_followTaken) := goodIn_app (goodIn_of _ (by decide +kernel)) ggX3_finishChange_X3_followTaken
theorem dX3_finishChange_0 : decode cX3_finishChange 0 = .ok (.aload_n 0, 1) := by decide +kernel
theorem dX3_finishChange_1 : decode cX3_finishChange 1 = .ok (.getfield 45, 3) := by decide +kernel
theorem dX3_finishChange_4 : decode cX3_finishChange 4 = .ok (.iload_n 3, 1) := by decide +kernel
theorem dX3_finishChange_5 : decode cX3_finishChange 5 = .ok (.iload_n 2, 1) := by decide +kernel
theorem dX3_finishChange_6 : decode cX3_finishChange 6 = .ok (.aload_n 0, 1) := by decide +kernel
theorem dX3_finishChange_7 : decode cX3_finishChange 7 = .ok (.getfield 33, 3) := by decide +kernel
theorem dX3_finishChange_10 : decode cX3_finishChange 10 = .ok (.invokevirtual 91, 3) := by decide +kernel
theorem dX3_finishChange_13 : decode cX3_finishChange 13 = .ok (.aload_n 0, 1) := by decide +kernel
theorem dX3_finishChange_14 : decode cX3_finishChange 14 = .ok (.aload_n 1, 1) := by decide +kernel
theorem dX3_finishChange_15 : decode cX3_finishChange 15 = .ok (.iload_n 3, 1) := by decide +kernel
theorem dX3_finishChange_16 : decode cX3_finishChange 16 = .ok (.invokevirtual 95, 3) := by decide +kernel
theorem dX3_finishChange_19 : decode cX3_finishChange 19 = .ok (.ifCond .eq 16, 3) := by decide +kernel
theorem dX3_finishChange_22 : decode cX3_finishChange 22 = .ok (.aload_n 0, 1) := by decide +kernel
theorem dX3_finishChange_23 : decode cX3_finishChange 23 = .ok (.getfield 45, 3) := by decide +kernel
theorem dX3_finishChange_26 : decode cX3_finishChange 26 = .ok (.iconst 3, 1) := by decide +kernel
theorem dX3_finishChange_27 : decode cX3_finishChange 27 = .ok (.iload_n 2, 1) := by decide +kernel
theorem dX3_finishChange_28 : decode cX3_finishChange 28 = .ok (.aload_n 0, 1) := by decide +kernel
theorem dX3_finishChange_29 : decode cX3_finishChange 29 = .ok (.getfield 33, 3) := by decide +kernel
theorem dX3_finishChange_32 : decode cX3_finishChange 32 = .ok (.invokevirtual 91, 3) := by decide +kernel
theorem dX3_finishChange_35 : decode cX3_finishChange 35 = .ok (.aload_n 0, 1) := by decide +kernel
theorem dX3_finishChange_36 : decode cX3_finishChange 36 = .ok (.invokevirtual 73, 3) := by decide +kernel
theorem dX3_finishChange_39 : decode cX3_finishChange 39 = .ok (.aload_n 1, 1) := by decide +kernel
theorem dX3_finishChange_40 : decode cX3_finishChange 40 = .ok (.getfield 99, 3) := by decide +kernel
theorem dX3_finishChange_43 : decode cX3_finishChange 43 = .ok (.ireturn, 1) := by decide +kernel
set_option maxRecDepth 20000 in
theorem ggX3_fineBySort_X1_addFine : GoodIn wsX3_fineBySort wsX1_addFine := goodIn_r _ [6, 7, 8, 9, 10, 11, 12, 13, 14, 15, 16, 24, 25, 26, 27, 28, 29, 30, 31] (by decide +kernel) (by decide +kernel)
set_option maxRecDepth 20000 in
theorem gX3_fineBySort_X1_addFine : GoodIn wsX3_fineBySort (wsV RX3 102 RX1 yX1_addFine wsX1_addFine) := goodIn_app (goodIn_of _ (by decide +kernel)) ggX3_fineBySort_X1_addFine
theorem dX3_fineBySort_0 : decode cX3_fineBySort 0 = .ok (.aload_n 1, 1) := by decide +kernel
theorem dX3_fineBySort_1 : decode cX3_fineBySort 1 = .ok (.aload_n 0, 1) := by decide +kernel
theorem dX3_fineBySort_2 : decode cX3_fineBySort 2 = .ok (.getfield 18, 3) := by decide +kernel
theorem dX3_fineBySort_5 : decode cX3_fineBySort 5 = .ok (.iload_n 2, 1) := by decide +kernel
theorem dX3_fineBySort_6 : decode cX3_fineBySort 6 = .ok (.iaload, 1) := by decide +kernel
theorem dX3_fineBySort_7 : decode cX3_fineBySort 7 = .ok (.aload_n 0, 1) := by decide +kernel
theorem dX3_fineBySort_8 : decode cX3_fineBySort 8 = .ok (.getfield 18, 3) := by decide +kernel
theorem dX3_fineBySort_11 : decode cX3_fineBySort 11 = .ok (.iconst 4, 1) := by decide +kernel
theorem dX3_fineBySort_12 : decode cX3_fineBySort 12 = .ok (.iaload, 1) := by decide +kernel
theorem dX3_fineBySort_13 : decode cX3_fineBySort 13 = .ok (.invokevirtual 102, 3) := by decide +kernel
theorem dX3_fineBySort_16 : decode cX3_fineBySort 16 = .ok (.ireturn, 1) := by decide +kernel
set_option maxRecDepth 20000 in
theorem ggX3_passMinutes_X3_passOneMinute : GoodIn wsX3_passMinutes wsX3_passOneMinute := goodIn_r _ [7, 1, 8, 9, 10, 11, 12, 13, 6, 14, 15, 16, 17, 18, 19, 20, 21, 22, 23, 24, 25, 26, 27, 28, 29, 30, 31, 32, 33, 34, 35, 36, 37, 38, 39, 40, 41, 42, 43, 44, 45, 46, 47, 48, 49, 50, 51, 52, 53, 54, 55, 56, 57, 58, 59, 60, 61, 62, 63, 64, 65, 66, 67, 68, 69, 70, 71] (by decide +kernel) (by decide +kernel)
set_option maxRecDepth 20000 in
theorem gX3_passMinutes_X3_passOneMinute : GoodIn wsX3_passMinutes (wsV RX3 107 RX3 yX3_passOneMinute wsX3_passOneMinute) := goodIn_app (goodIn_of _ (by decide +kernel)) ggX3_passMinutes_X3_passOneMinute
theorem dX3_passMinutes_0 : decode cX3_passMinutes 0 = .ok (.iload_n 1, 1) := by decide +kernel
theorem dX3_passMinutes_1 : decode cX3_passMinutes 1 = .ok (.iconst 1, 1) := by decide +kernel
theorem dX3_passMinutes_2 : decode cX3_passMinutes 2 = .ok (.if_icmp .lt 10, 3) := by decide +kernel
theorem dX3_passMinutes_5 : decode cX3_passMinutes 5 = .ok (.iload_n 1, 1) := by decide +kernel
theorem dX3_passMinutes_6 : decode cX3_passMinutes 6 = .ok (.sipush 999, 3) := by decide +kernel
theorem dX3_passMinutes_9 : decode cX3_passMinutes 9 = .ok (.if_icmp .le 6, 3) := by decide +kernel
theorem dX3_passMinutes_12 : decode cX3_passMinutes 12 = .ok (.bipush (-2), 2) := by decide +kernel
theorem dX3_passMinutes_14 : decode cX3_passMinutes 14 = .ok (.ireturn, 1) := by decide +kernel
theorem dX3_passMinutes_15 : decode cX3_passMinutes 15 = .ok (.aload_n 0, 1) := by decide +kernel
theorem dX3_passMinutes_16 : decode cX3_passMinutes 16 = .ok (.getfield 33, 3) := by decide +kernel
theorem dX3_passMinutes_19 : decode cX3_passMinutes 19 = .ok (.iload_n 1, 1) := by decide +kernel
theorem dX3_passMinutes_20 : decode cX3_passMinutes 20 = .ok (.iadd, 1) := by decide +kernel
theorem dX3_passMinutes_21 : decode cX3_passMinutes 21 = .ok (.ldc 106, 2) := by decide +kernel
theorem dX3_passMinutes_23 : decode cX3_passMinutes 23 = .ok (.if_icmp .le 6, 3) := by decide +kernel
theorem dX3_passMinutes_26 : decode cX3_passMinutes 26 = .ok (.bipush (-5), 2) := by decide +kernel
theorem dX3_passMinutes_28 : decode cX3_passMinutes 28 = .ok (.ireturn, 1) := by decide +kernel
theorem dX3_passMinutes_29 : decode cX3_passMinutes 29 = .ok (.iconst 0, 1) := by decide +kernel
theorem dX3_passMinutes_30 : decode cX3_passMinutes 30 = .ok (.istore_n 2, 1) := by decide +kernel
theorem dX3_passMinutes_31 : decode cX3_passMinutes 31 = .ok (.iconst 0, 1) := by decide +kernel
theorem dX3_passMinutes_32 : decode cX3_passMinutes 32 = .ok (.istore_n 3, 1) := by decide +kernel
theorem dX3_passMinutes_33 : decode cX3_passMinutes 33 = .ok (.iload_n 3, 1) := by decide +kernel
theorem dX3_passMinutes_34 : decode cX3_passMinutes 34 = .ok (.iload_n 1, 1) := by decide +kernel
theorem dX3_passMinutes_35 : decode cX3_passMinutes 35 = .ok (.if_icmp .ge 16, 3) := by decide +kernel
theorem dX3_passMinutes_38 : decode cX3_passMinutes 38 = .ok (.iload_n 2, 1) := by decide +kernel
theorem dX3_passMinutes_39 : decode cX3_passMinutes 39 = .ok (.aload_n 0, 1) := by decide +kernel
theorem dX3_passMinutes_40 : decode cX3_passMinutes 40 = .ok (.invokevirtual 107, 3) := by decide +kernel
theorem dX3_passMinutes_43 : decode cX3_passMinutes 43 = .ok (.iadd, 1) := by decide +kernel
theorem dX3_passMinutes_44 : decode cX3_passMinutes 44 = .ok (.istore_n 2, 1) := by decide +kernel
theorem dX3_passMinutes_45 : decode cX3_passMinutes 45 = .ok (.iinc 3 1, 3) := by decide +kernel
theorem dX3_passMinutes_48 : decode cX3_passMinutes 48 = .ok (.goto (-15), 3) := by decide +kernel
theorem dX3_passMinutes_51 : decode cX3_passMinutes 51 = .ok (.iload_n 2, 1) := by decide +kernel
theorem dX3_passMinutes_52 : decode cX3_passMinutes 52 = .ok (.ireturn, 1) := by decide +kernel
set_option maxRecDepth 20000 in
theorem ggX3_passOneMinute_X3_passMinuteOf : GoodIn wsX3_passOneMinute wsX3_passMinuteOf := goodIn_r _ [9, 10, 11, 12, 13, 14, 15, 16, 17, 18, 19, 20, 21, 22, 23, 47, 48, 49, 50, 51, 52, 53, 54, 55, 56, 57, 58, 59, 60, 61] (by decide +kernel) (by decide +kernel)
set_option maxRecDepth 20000 in
theorem gX3_passOneMinute_X3_passMinuteOf : GoodIn wsX3_passOneMinute (wsV RX3 111 RX3 yX3_passMinuteOf wsX3_passMinuteOf) := goodIn_app (goodIn_of _ (by decide +kernel)) ggX3_passOneMinute_X3_passMinuteOf
set_option maxRecDepth 20000 in
theorem ggX3_passOneMinute_X0_add : GoodIn wsX3_passOneMinute wsX0_add := goodIn_r _ [28, 29, 30, 31, 32, 33, 34, 21, 22, 23, 62, 63, 64, 65, 66] (by decide +kernel) (by decide +kernel)
set_option maxRecDepth 20000 in
theorem gX3_passOneMinute_X0_add : GoodIn wsX3_passOneMinute (wsV RX3 91 RX0 yX0_add wsX0_add) := goodIn_app (goodIn_of _ (by decide +kernel)) ggX3_passOneMinute_X0_add
set_option maxRecDepth 20000 in
theorem ggX3_passOneMinute_X3_followTaken : GoodIn wsX3_passOneMinute wsX3_followTaken := goodIn_r _ [38, 2, 3, 39, 40, 41, 42, 43, 44, 14, 45, 46, 18, 47, 48, 49, 50, 51, 52, 53, 54, 55, 56, 57, 58, 59, 60, 61] (by decide +kernel) (by decide +kernel)
set_option maxRecDepth 20000 in
theorem gX3_passOneMinute_X3_followTaken : GoodIn wsX3_passOneMinute (wsV RX3 73 RX3 yX3_followTaken wsX3_followTaken) := goodIn_app (goodIn_of _ (by decide +kernel)) ggX3_passOneMinute_X3_followTaken
theorem dX3_passOneMinute_0 : decode cX3_passOneMinute 0 = .ok (.aload_n 0, 1) := by decide +kernel
theorem dX3_passOneMinute_1 : decode cX3_passOneMinute 1 = .ok (.dup, 1) := by decide +kernel
theorem dX3_passOneMinute_2 : decode cX3_passOneMinute 2 = .ok (.getfield 33, 3) := by decide +kernel
theorem dX3_passOneMinute_5 : decode cX3_passOneMinute 5 = .ok (.iconst 1, 1) := by decide +kernel
theorem dX3_passOneMinute_6 : decode cX3_passOneMinute 6 = .ok (.iadd, 1) := by decide +kernel
theorem dX3_passOneMinute_7 : decode cX3_passOneMinute 7 = .ok (.putfield 33, 3) := by decide +kernel
theorem dX3_passOneMinute_10 : decode cX3_passOneMinute 10 = .ok (.iconst 0, 1) := by decide +kernel
theorem dX3_passOneMinute_11 : decode cX3_passOneMinute 11 = .ok (.istore_n 1, 1) := by decide +kernel
theorem dX3_passOneMinute_12 : decode cX3_passOneMinute 12 = .ok (.iconst 0, 1) := by decide +kernel
theorem dX3_passOneMinute_13 : decode cX3_passOneMinute 13 = .ok (.istore_n 2, 1) := by decide +kernel
theorem dX3_passOneMinute_14 : decode cX3_passOneMinute 14 = .ok (.iload_n 2, 1) := by decide +kernel
theorem dX3_passOneMinute_15 : decode cX3_passOneMinute 15 = .ok (.aload_n 0, 1) := by decide +kernel
theorem dX3_passOneMinute_16 : decode cX3_passOneMinute 16 = .ok (.getfield 29, 3) := by decide +kernel
theorem dX3_passOneMinute_19 : decode cX3_passOneMinute 19 = .ok (.if_icmp .ge 38, 3) := by decide +kernel
theorem dX3_passOneMinute_22 : decode cX3_passOneMinute 22 = .ok (.aload_n 0, 1) := by decide +kernel
theorem dX3_passOneMinute_23 : decode cX3_passOneMinute 23 = .ok (.aload_n 0, 1) := by decide +kernel
theorem dX3_passOneMinute_24 : decode cX3_passOneMinute 24 = .ok (.getfield 25, 3) := by decide +kernel
theorem dX3_passOneMinute_27 : decode cX3_passOneMinute 27 = .ok (.iload_n 2, 1) := by decide +kernel
theorem dX3_passOneMinute_28 : decode cX3_passOneMinute 28 = .ok (.aaload, 1) := by decide +kernel
theorem dX3_passOneMinute_29 : decode cX3_passOneMinute 29 = .ok (.invokevirtual 111, 3) := by decide +kernel
theorem dX3_passOneMinute_32 : decode cX3_passOneMinute 32 = .ok (.ifCond .eq 19, 3) := by decide +kernel
theorem dX3_passOneMinute_35 : decode cX3_passOneMinute 35 = .ok (.aload_n 0, 1) := by decide +kernel
theorem dX3_passOneMinute_36 : decode cX3_passOneMinute 36 = .ok (.getfield 45, 3) := by decide +kernel
theorem dX3_passOneMinute_39 : decode cX3_passOneMinute 39 = .ok (.iconst 4, 1) := by decide +kernel
theorem dX3_passOneMinute_40 : decode cX3_passOneMinute 40 = .ok (.iload_n 2, 1) := by decide +kernel
theorem dX3_passOneMinute_41 : decode cX3_passOneMinute 41 = .ok (.aload_n 0, 1) := by decide +kernel
theorem dX3_passOneMinute_42 : decode cX3_passOneMinute 42 = .ok (.getfield 33, 3) := by decide +kernel
theorem dX3_passOneMinute_45 : decode cX3_passOneMinute 45 = .ok (.invokevirtual 91, 3) := by decide +kernel
theorem dX3_passOneMinute_48 : decode cX3_passOneMinute 48 = .ok (.iinc 1 1, 3) := by decide +kernel
theorem dX3_passOneMinute_51 : decode cX3_passOneMinute 51 = .ok (.iinc 2 1, 3) := by decide +kernel
theorem dX3_passOneMinute_54 : decode cX3_passOneMinute 54 = .ok (.goto (-40), 3) := by decide +kernel
theorem dX3_passOneMinute_57 : decode cX3_passOneMinute 57 = .ok (.iload_n 1, 1) := by decide +kernel
theorem dX3_passOneMinute_58 : decode cX3_passOneMinute 58 = .ok (.ifCond .le 7, 3) := by decide +kernel
theorem dX3_passOneMinute_61 : decode cX3_passOneMinute 61 = .ok (.aload_n 0, 1) := by decide +kernel
theorem dX3_passOneMinute_62 : decode cX3_passOneMinute 62 = .ok (.invokevirtual 73, 3) := by decide +kernel
theorem dX3_passOneMinute_65 : decode cX3_passOneMinute 65 = .ok (.iload_n 1, 1) := by decide +kernel
theorem dX3_passOneMinute_66 : decode cX3_passOneMinute 66 = .ok (.ireturn, 1) := by decide +kernel
set_option maxRecDepth 20000 in
theorem ggX3_passMinuteOf_X1_passMinute : GoodIn wsX3_passMinuteOf wsX1_passMinute := goodIn_r _ [6, 7, 8, 9, 10, 11, 12, 13, 14, 22, 23, 24, 25, 26, 27, 28, 29] (by decide +kernel) (by decide +kernel)
set_option maxRecDepth 20000 in
theorem gX3_passMinuteOf_X1_passMinute : GoodIn wsX3_passMinuteOf (wsV RX3 115 RX1 yX1_passMinute wsX1_passMinute) := goodIn_app (goodIn_of _ (by decide +kernel)) ggX3_passMinuteOf_X1_passMinute
theorem dX3_passMinuteOf_0 : decode cX3_passMinuteOf 0 = .ok (.aload_n 1, 1) := by decide +kernel
theorem dX3_passMinuteOf_1 : decode cX3_passMinuteOf 1 = .ok (.aload_n 0, 1) := by decide +kernel
theorem dX3_passMinuteOf_2 : decode cX3_passMinuteOf 2 = .ok (.getfield 18, 3) := by decide +kernel
theorem dX3_passMinuteOf_5 : decode cX3_passMinuteOf 5 = .ok (.iconst 3, 1) := by decide +kernel
theorem dX3_passMinuteOf_6 : decode cX3_passMinuteOf 6 = .ok (.iaload, 1) := by decide +kernel
theorem dX3_passMinuteOf_7 : decode cX3_passMinuteOf 7 = .ok (.aload_n 0, 1) := by decide +kernel
theorem dX3_passMinuteOf_8 : decode cX3_passMinuteOf 8 = .ok (.getfield 18, 3) := by decide +kernel
theorem dX3_passMinuteOf_11 : decode cX3_passMinuteOf 11 = .ok (.iconst 5, 1) := by decide +kernel
theorem dX3_passMinuteOf_12 : decode cX3_passMinuteOf 12 = .ok (.iaload, 1) := by decide +kernel
theorem dX3_passMinuteOf_13 : decode cX3_passMinuteOf 13 = .ok (.aload_n 0, 1) := by decide +kernel
theorem dX3_passMinuteOf_14 : decode cX3_passMinuteOf 14 = .ok (.getfield 18, 3) := by decide +kernel
theorem dX3_passMinuteOf_17 : decode cX3_passMinuteOf 17 = .ok (.bipush 6, 2) := by decide +kernel
theorem dX3_passMinuteOf_19 : decode cX3_passMinuteOf 19 = .ok (.iaload, 1) := by decide +kernel
theorem dX3_passMinuteOf_20 : decode cX3_passMinuteOf 20 = .ok (.invokevirtual 115, 3) := by decide +kernel
theorem dX3_passMinuteOf_23 : decode cX3_passMinuteOf 23 = .ok (.ireturn, 1) := by decide +kernel
theorem dX3_fade_0 : decode cX3_fade 0 = .ok (.iconst 1, 1) := by decide +kernel
theorem dX3_fade_1 : decode cX3_fade 1 = .ok (.aload_n 0, 1) := by decide +kernel
theorem dX3_fade_2 : decode cX3_fade 2 = .ok (.getfield 18, 3) := by decide +kernel
theorem dX3_fade_5 : decode cX3_fade 5 = .ok (.iconst 3, 1) := by decide +kernel
theorem dX3_fade_6 : decode cX3_fade 6 = .ok (.iaload, 1) := by decide +kernel
theorem dX3_fade_7 : decode cX3_fade 7 = .ok (.invokestatic 119, 3) := by decide +kernel
theorem dX3_fade_10 : decode cX3_fade 10 = .ok (.istore_n 3, 1) := by decide +kernel
theorem dX3_fade_11 : decode cX3_fade 11 = .ok (.aload_n 1, 1) := by decide +kernel
theorem dX3_fade_12 : decode cX3_fade 12 = .ok (.getfield 125, 3) := by decide +kernel
theorem dX3_fade_15 : decode cX3_fade 15 = .ok (.iload_n 2, 1) := by decide +kernel
theorem dX3_fade_16 : decode cX3_fade 16 = .ok (.iadd, 1) := by decide +kernel
theorem dX3_fade_17 : decode cX3_fade 17 = .ok (.istore 4, 2) := by decide +kernel
theorem dX3_fade_19 : decode cX3_fade 19 = .ok (.aload_n 1, 1) := by decide +kernel
theorem dX3_fade_20 : decode cX3_fade 20 = .ok (.dup, 1) := by decide +kernel
theorem dX3_fade_21 : decode cX3_fade 21 = .ok (.getfield 99, 3) := by decide +kernel
theorem dX3_fade_24 : decode cX3_fade 24 = .ok (.iload 4, 2) := by decide +kernel
theorem dX3_fade_26 : decode cX3_fade 26 = .ok (.iload_n 3, 1) := by decide +kernel
theorem dX3_fade_27 : decode cX3_fade 27 = .ok (.idiv, 1) := by decide +kernel
theorem dX3_fade_28 : decode cX3_fade 28 = .ok (.bipush 31, 2) := by decide +kernel
theorem dX3_fade_30 : decode cX3_fade 30 = .ok (.invokestatic 128, 3) := by decide +kernel
theorem dX3_fade_33 : decode cX3_fade 33 = .ok (.ishr, 1) := by decide +kernel
theorem dX3_fade_34 : decode cX3_fade 34 = .ok (.putfield 99, 3) := by decide +kernel
theorem dX3_fade_37 : decode cX3_fade 37 = .ok (.aload_n 1, 1) := by decide +kernel
theorem dX3_fade_38 : decode cX3_fade 38 = .ok (.iload 4, 2) := by decide +kernel
theorem dX3_fade_40 : decode cX3_fade 40 = .ok (.iload_n 3, 1) := by decide +kernel
theorem dX3_fade_41 : decode cX3_fade 41 = .ok (.irem, 1) := by decide +kernel
theorem dX3_fade_42 : decode cX3_fade 42 = .ok (.putfield 125, 3) := by decide +kernel
theorem dX3_fade_45 : decode cX3_fade 45 = .ok (.return_, 1) := by decide +kernel
set_option maxRecDepth 20000 in
theorem ggX3_followTaken_X1_canBeTaken : GoodIn wsX3_followTaken wsX1_canBeTaken := goodIn_r _ [10, 11, 12, 20, 21, 22, 23, 24, 25, 26, 27] (by decide +kernel) (by decide +kernel)
set_option maxRecDepth 20000 in
theorem gX3_followTaken_X1_canBeTaken : GoodIn wsX3_followTaken (wsV RX3 131 RX1 yX1_canBeTaken wsX1_canBeTaken) := goodIn_app (goodIn_of _ (by decide +kernel)) ggX3_followTaken_X1_canBeTaken
theorem dX3_followTaken_0 : decode cX3_followTaken 0 = .ok (.bipush (-6), 2) := by decide +kernel
theorem dX3_followTaken_2 : decode cX3_followTaken 2 = .ok (.istore_n 1, 1) := by decide +kernel
theorem dX3_followTaken_3 : decode cX3_followTaken 3 = .ok (.iconst 0, 1) := by decide +kernel
theorem dX3_followTaken_4 : decode cX3_followTaken 4 = .ok (.istore_n 2, 1) := by decide +kernel
theorem dX3_followTaken_5 : decode cX3_followTaken 5 = .ok (.iload_n 2, 1) := by decide +kernel
theorem dX3_followTaken_6 : decode cX3_followTaken 6 = .ok (.aload_n 0, 1) := by decide +kernel
theorem dX3_followTaken_7 : decode cX3_followTaken 7 = .ok (.getfield 29, 3) := by decide +kernel
theorem dX3_followTaken_10 : decode cX3_followTaken 10 = .ok (.if_icmp .ge 48, 3) := by decide +kernel
theorem dX3_followTaken_13 : decode cX3_followTaken 13 = .ok (.aload_n 0, 1) := by decide +kernel
theorem dX3_followTaken_14 : decode cX3_followTaken 14 = .ok (.getfield 25, 3) := by decide +kernel
theorem dX3_followTaken_17 : decode cX3_followTaken 17 = .ok (.iload_n 2, 1) := by decide +kernel
theorem dX3_followTaken_18 : decode cX3_followTaken 18 = .ok (.aaload, 1) := by decide +kernel
theorem dX3_followTaken_19 : decode cX3_followTaken 19 = .ok (.invokevirtual 131, 3) := by decide +kernel
theorem dX3_followTaken_22 : decode cX3_followTaken 22 = .ok (.ifCond .eq 30, 3) := by decide +kernel
theorem dX3_followTaken_25 : decode cX3_followTaken 25 = .ok (.iload_n 1, 1) := by decide +kernel
theorem dX3_followTaken_26 : decode cX3_followTaken 26 = .ok (.ifCond .lt 24, 3) := by decide +kernel
theorem dX3_followTaken_29 : decode cX3_followTaken 29 = .ok (.aload_n 0, 1) := by decide +kernel
theorem dX3_followTaken_30 : decode cX3_followTaken 30 = .ok (.getfield 25, 3) := by decide +kernel
theorem dX3_followTaken_33 : decode cX3_followTaken 33 = .ok (.iload_n 2, 1) := by decide +kernel
theorem dX3_followTaken_34 : decode cX3_followTaken 34 = .ok (.aaload, 1) := by decide +kernel
theorem dX3_followTaken_35 : decode cX3_followTaken 35 = .ok (.getfield 88, 3) := by decide +kernel
theorem dX3_followTaken_38 : decode cX3_followTaken 38 = .ok (.aload_n 0, 1) := by decide +kernel
theorem dX3_followTaken_39 : decode cX3_followTaken 39 = .ok (.getfield 25, 3) := by decide +kernel
theorem dX3_followTaken_42 : decode cX3_followTaken 42 = .ok (.iload_n 1, 1) := by decide +kernel
theorem dX3_followTaken_43 : decode cX3_followTaken 43 = .ok (.aaload, 1) := by decide +kernel
theorem dX3_followTaken_44 : decode cX3_followTaken 44 = .ok (.getfield 88, 3) := by decide +kernel
theorem dX3_followTaken_47 : decode cX3_followTaken 47 = .ok (.if_icmp .ge 5, 3) := by decide +kernel
theorem dX3_followTaken_50 : decode cX3_followTaken 50 = .ok (.iload_n 2, 1) := by decide +kernel
theorem dX3_followTaken_51 : decode cX3_followTaken 51 = .ok (.istore_n 1, 1) := by decide +kernel
theorem dX3_followTaken_52 : decode cX3_followTaken 52 = .ok (.iinc 2 1, 3) := by decide +kernel
theorem dX3_followTaken_55 : decode cX3_followTaken 55 = .ok (.goto (-50), 3) := by decide +kernel
theorem dX3_followTaken_58 : decode cX3_followTaken 58 = .ok (.iload_n 1, 1) := by decide +kernel
theorem dX3_followTaken_59 : decode cX3_followTaken 59 = .ok (.aload_n 0, 1) := by decide +kernel
theorem dX3_followTaken_60 : decode cX3_followTaken 60 = .ok (.getfield 36, 3) := by decide +kernel
theorem dX3_followTaken_63 : decode cX3_followTaken 63 = .ok (.if_icmp .eq 18, 3) := by decide +kernel
theorem dX3_followTaken_66 : decode cX3_followTaken 66 = .ok (.aload_n 0, 1) := by decide +kernel
theorem dX3_followTaken_67 : decode cX3_followTaken 67 = .ok (.iload_n 1, 1) := by decide +kernel
theorem dX3_followTaken_68 : decode cX3_followTaken 68 = .ok (.putfield 36, 3) := by decide +kernel
theorem dX3_followTaken_71 : decode cX3_followTaken 71 = .ok (.aload_n 0, 1) := by decide +kernel
theorem dX3_followTaken_72 : decode cX3_followTaken 72 = .ok (.dup, 1) := by decide +kernel
theorem dX3_followTaken_73 : decode cX3_followTaken 73 = .ok (.getfield 39, 3) := by decide +kernel
theorem dX3_followTaken_76 : decode cX3_followTaken 76 = .ok (.iconst 1, 1) := by decide +kernel
theorem dX3_followTaken_77 : decode cX3_followTaken 77 = .ok (.iadd, 1) := by decide +kernel
theorem dX3_followTaken_78 : decode cX3_followTaken 78 = .ok (.putfield 39, 3) := by decide +kernel
theorem dX3_followTaken_81 : decode cX3_followTaken 81 = .ok (.return_, 1) := by decide +kernel
set_option maxRecDepth 20000 in
theorem ggX3_chosen_X1_canBeTaken : GoodIn wsX3_chosen wsX1_canBeTaken := goodIn_r _ [7, 8, 9, 23, 24, 25, 26, 27, 28, 29, 30] (by decide +kernel) (by decide +kernel)
set_option maxRecDepth 20000 in
theorem gX3_chosen_X1_canBeTaken : GoodIn wsX3_chosen (wsV RX3 131 RX1 yX1_canBeTaken wsX1_canBeTaken) := goodIn_app (goodIn_of _ (by decide +kernel)) ggX3_chosen_X1_canBeTaken
set_option maxRecDepth 20000 in
theorem ggX3_chosen_X3_rankOf : GoodIn wsX3_chosen wsX3_rankOf := goodIn_r _ [14, 2, 15, 1, 3, 4, 5, 6, 7, 8, 9, 16, 17, 18, 19, 20, 21, 22, 23, 24, 25, 26, 27, 28, 29, 30] (by decide +kernel) (by decide +kernel)
set_option maxRecDepth 20000 in
theorem gX3_chosen_X3_rankOf : GoodIn wsX3_chosen (wsV RX3 135 RX3 yX3_rankOf wsX3_rankOf) := goodIn_app (goodIn_of _ (by decide +kernel)) ggX3_chosen_X3_rankOf
theorem dX3_chosen_0 : decode cX3_chosen 0 = .ok (.iconst 0, 1) := by decide +kernel
theorem dX3_chosen_1 : decode cX3_chosen 1 = .ok (.istore_n 2, 1) := by decide +kernel
theorem dX3_chosen_2 : decode cX3_chosen 2 = .ok (.iload_n 2, 1) := by decide +kernel
theorem dX3_chosen_3 : decode cX3_chosen 3 = .ok (.aload_n 0, 1) := by decide +kernel
theorem dX3_chosen_4 : decode cX3_chosen 4 = .ok (.getfield 29, 3) := by decide +kernel
theorem dX3_chosen_7 : decode cX3_chosen 7 = .ok (.if_icmp .ge 32, 3) := by decide +kernel
theorem dX3_chosen_10 : decode cX3_chosen 10 = .ok (.aload_n 0, 1) := by decide +kernel
theorem dX3_chosen_11 : decode cX3_chosen 11 = .ok (.getfield 25, 3) := by decide +kernel
theorem dX3_chosen_14 : decode cX3_chosen 14 = .ok (.iload_n 2, 1) := by decide +kernel
theorem dX3_chosen_15 : decode cX3_chosen 15 = .ok (.aaload, 1) := by decide +kernel
theorem dX3_chosen_16 : decode cX3_chosen 16 = .ok (.invokevirtual 131, 3) := by decide +kernel
theorem dX3_chosen_19 : decode cX3_chosen 19 = .ok (.ifCond .eq 14, 3) := by decide +kernel
theorem dX3_chosen_22 : decode cX3_chosen 22 = .ok (.aload_n 0, 1) := by decide +kernel
theorem dX3_chosen_23 : decode cX3_chosen 23 = .ok (.iload_n 2, 1) := by decide +kernel
theorem dX3_chosen_24 : decode cX3_chosen 24 = .ok (.invokevirtual 135, 3) := by decide +kernel
theorem dX3_chosen_27 : decode cX3_chosen 27 = .ok (.iload_n 1, 1) := by decide +kernel
theorem dX3_chosen_28 : decode cX3_chosen 28 = .ok (.if_icmp .ne 5, 3) := by decide +kernel
theorem dX3_chosen_31 : decode cX3_chosen 31 = .ok (.iload_n 2, 1) := by decide +kernel
theorem dX3_chosen_32 : decode cX3_chosen 32 = .ok (.ireturn, 1) := by decide +kernel
theorem dX3_chosen_33 : decode cX3_chosen 33 = .ok (.iinc 2 1, 3) := by decide +kernel
theorem dX3_chosen_36 : decode cX3_chosen 36 = .ok (.goto (-34), 3) := by decide +kernel
theorem dX3_chosen_39 : decode cX3_chosen 39 = .ok (.iconst (-1), 1) := by decide +kernel
theorem dX3_chosen_40 : decode cX3_chosen 40 = .ok (.ireturn, 1) := by decide +kernel
set_option maxRecDepth 20000 in
theorem ggX3_rankOf_X1_canBeTaken : GoodIn wsX3_rankOf wsX1_canBeTaken := goodIn_r _ [8, 9, 10, 18, 19, 20, 21, 22, 23, 24, 25] (by decide +kernel) (by decide +kernel)
set_option maxRecDepth 20000 in
theorem gX3_rankOf_X1_canBeTaken : GoodIn wsX3_rankOf (wsV RX3 131 RX1 yX1_canBeTaken wsX1_canBeTaken) := goodIn_app (goodIn_of _ (by decide +kernel)) ggX3_rankOf_X1_canBeTaken
theorem dX3_rankOf_0 : decode cX3_rankOf 0 = .ok (.iconst 0, 1) := by decide +kernel
theorem dX3_rankOf_1 : decode cX3_rankOf 1 = .ok (.istore_n 2, 1) := by decide +kernel
theorem dX3_rankOf_2 : decode cX3_rankOf 2 = .ok (.aload_n 0, 1) := by decide +kernel
theorem dX3_rankOf_3 : decode cX3_rankOf 3 = .ok (.getfield 25, 3) := by decide +kernel
theorem dX3_rankOf_6 : decode cX3_rankOf 6 = .ok (.iload_n 1, 1) := by decide +kernel
theorem dX3_rankOf_7 : decode cX3_rankOf 7 = .ok (.aaload, 1) := by decide +kernel
theorem dX3_rankOf_8 : decode cX3_rankOf 8 = .ok (.getfield 88, 3) := by decide +kernel
theorem dX3_rankOf_11 : decode cX3_rankOf 11 = .ok (.istore_n 3, 1) := by decide +kernel
theorem dX3_rankOf_12 : decode cX3_rankOf 12 = .ok (.iconst 0, 1) := by decide +kernel
theorem dX3_rankOf_13 : decode cX3_rankOf 13 = .ok (.istore 4, 2) := by decide +kernel
theorem dX3_rankOf_15 : decode cX3_rankOf 15 = .ok (.iload 4, 2) := by decide +kernel
theorem dX3_rankOf_17 : decode cX3_rankOf 17 = .ok (.aload_n 0, 1) := by decide +kernel
theorem dX3_rankOf_18 : decode cX3_rankOf 18 = .ok (.getfield 29, 3) := by decide +kernel
theorem dX3_rankOf_21 : decode cX3_rankOf 21 = .ok (.if_icmp .ge 53, 3) := by decide +kernel
theorem dX3_rankOf_24 : decode cX3_rankOf 24 = .ok (.aload_n 0, 1) := by decide +kernel
theorem dX3_rankOf_25 : decode cX3_rankOf 25 = .ok (.getfield 25, 3) := by decide +kernel
theorem dX3_rankOf_28 : decode cX3_rankOf 28 = .ok (.iload 4, 2) := by decide +kernel
theorem dX3_rankOf_30 : decode cX3_rankOf 30 = .ok (.aaload, 1) := by decide +kernel
theorem dX3_rankOf_31 : decode cX3_rankOf 31 = .ok (.astore 5, 2) := by decide +kernel
theorem dX3_rankOf_33 : decode cX3_rankOf 33 = .ok (.aload 5, 2) := by decide +kernel
theorem dX3_rankOf_35 : decode cX3_rankOf 35 = .ok (.invokevirtual 131, 3) := by decide +kernel
theorem dX3_rankOf_38 : decode cX3_rankOf 38 = .ok (.ifCond .eq 30, 3) := by decide +kernel
theorem dX3_rankOf_41 : decode cX3_rankOf 41 = .ok (.aload 5, 2) := by decide +kernel
theorem dX3_rankOf_43 : decode cX3_rankOf 43 = .ok (.getfield 88, 3) := by decide +kernel
theorem dX3_rankOf_46 : decode cX3_rankOf 46 = .ok (.iload_n 3, 1) := by decide +kernel
theorem dX3_rankOf_47 : decode cX3_rankOf 47 = .ok (.if_icmp .lt 18, 3) := by decide +kernel
theorem dX3_rankOf_50 : decode cX3_rankOf 50 = .ok (.aload 5, 2) := by decide +kernel
theorem dX3_rankOf_52 : decode cX3_rankOf 52 = .ok (.getfield 88, 3) := by decide +kernel
theorem dX3_rankOf_55 : decode cX3_rankOf 55 = .ok (.iload_n 3, 1) := by decide +kernel
theorem dX3_rankOf_56 : decode cX3_rankOf 56 = .ok (.if_icmp .ne 12, 3) := by decide +kernel
theorem dX3_rankOf_59 : decode cX3_rankOf 59 = .ok (.iload 4, 2) := by decide +kernel
theorem dX3_rankOf_61 : decode cX3_rankOf 61 = .ok (.iload_n 1, 1) := by decide +kernel
theorem dX3_rankOf_62 : decode cX3_rankOf 62 = .ok (.if_icmp .ge 6, 3) := by decide +kernel
theorem dX3_rankOf_65 : decode cX3_rankOf 65 = .ok (.iinc 2 1, 3) := by decide +kernel
theorem dX3_rankOf_68 : decode cX3_rankOf 68 = .ok (.iinc 4 1, 3) := by decide +kernel
theorem dX3_rankOf_71 : decode cX3_rankOf 71 = .ok (.goto (-56), 3) := by decide +kernel
theorem dX3_rankOf_74 : decode cX3_rankOf 74 = .ok (.iload_n 2, 1) := by decide +kernel
theorem dX3_rankOf_75 : decode cX3_rankOf 75 = .ok (.ireturn, 1) := by decide +kernel
set_option maxRecDepth 20000 in
theorem ggX3_tell_X3_openOnes : GoodIn wsX3_tell wsX3_openOnes := goodIn_r _ [12, 2, 13, 14, 20, 21, 22, 23, 24, 25, 26, 32, 33, 34, 35, 36, 37, 38, 39] (by decide +kernel) (by decide +kernel)
set_option maxRecDepth 20000 in
theorem gX3_tell_X3_openOnes : GoodIn wsX3_tell (wsV RX3 139 RX3 yX3_openOnes wsX3_openOnes) := goodIn_app (goodIn_of _ (by decide +kernel)) ggX3_tell_X3_openOnes
set_option maxRecDepth 20000 in
theorem ggX3_tell_X3_shunnedOnes : GoodIn wsX3_tell wsX3_shunnedOnes := goodIn_r _ [18, 2, 13, 19, 20, 21, 22, 23, 24, 25, 26, 32, 33, 34, 35, 36, 37, 38, 39] (by decide +kernel) (by decide +kernel)
set_option maxRecDepth 20000 in
theorem gX3_tell_X3_shunnedOnes : GoodIn wsX3_tell (wsV RX3 142 RX3 yX3_shunnedOnes wsX3_shunnedOnes) := goodIn_app (goodIn_of _ (by decide +kernel)) ggX3_tell_X3_shunnedOnes
theorem dX3_tell_0 : decode cX3_tell 0 = .ok (.iload_n 1, 1) := by decide +kernel
theorem dX3_tell_1 : decode cX3_tell 1 = .ok (.tableswitch 81 0 6 #[43, 48, 53, 58, 63, 68, 73], 43) := by decide +kernel
theorem dX3_tell_44 : decode cX3_tell 44 = .ok (.aload_n 0, 1) := by decide +kernel
theorem dX3_tell_45 : decode cX3_tell 45 = .ok (.getfield 33, 3) := by decide +kernel
theorem dX3_tell_48 : decode cX3_tell 48 = .ok (.ireturn, 1) := by decide +kernel
theorem dX3_tell_49 : decode cX3_tell 49 = .ok (.aload_n 0, 1) := by decide +kernel
theorem dX3_tell_50 : decode cX3_tell 50 = .ok (.getfield 29, 3) := by decide +kernel
theorem dX3_tell_53 : decode cX3_tell 53 = .ok (.ireturn, 1) := by decide +kernel
theorem dX3_tell_54 : decode cX3_tell 54 = .ok (.aload_n 0, 1) := by decide +kernel
theorem dX3_tell_55 : decode cX3_tell 55 = .ok (.invokevirtual 139, 3) := by decide +kernel
theorem dX3_tell_58 : decode cX3_tell 58 = .ok (.ireturn, 1) := by decide +kernel
theorem dX3_tell_59 : decode cX3_tell 59 = .ok (.aload_n 0, 1) := by decide +kernel
theorem dX3_tell_60 : decode cX3_tell 60 = .ok (.invokevirtual 142, 3) := by decide +kernel
theorem dX3_tell_63 : decode cX3_tell 63 = .ok (.ireturn, 1) := by decide +kernel
theorem dX3_tell_64 : decode cX3_tell 64 = .ok (.aload_n 0, 1) := by decide +kernel
theorem dX3_tell_65 : decode cX3_tell 65 = .ok (.getfield 36, 3) := by decide +kernel
theorem dX3_tell_68 : decode cX3_tell 68 = .ok (.ireturn, 1) := by decide +kernel
theorem dX3_tell_69 : decode cX3_tell 69 = .ok (.aload_n 0, 1) := by decide +kernel
theorem dX3_tell_70 : decode cX3_tell 70 = .ok (.getfield 39, 3) := by decide +kernel
theorem dX3_tell_73 : decode cX3_tell 73 = .ok (.ireturn, 1) := by decide +kernel
theorem dX3_tell_74 : decode cX3_tell 74 = .ok (.aload_n 0, 1) := by decide +kernel
theorem dX3_tell_75 : decode cX3_tell 75 = .ok (.getfield 45, 3) := by decide +kernel
theorem dX3_tell_78 : decode cX3_tell 78 = .ok (.getfield 145, 3) := by decide +kernel
theorem dX3_tell_81 : decode cX3_tell 81 = .ok (.ireturn, 1) := by decide +kernel
theorem dX3_tell_82 : decode cX3_tell 82 = .ok (.iload_n 1, 1) := by decide +kernel
theorem dX3_tell_83 : decode cX3_tell 83 = .ok (.bipush 7, 2) := by decide +kernel
theorem dX3_tell_85 : decode cX3_tell 85 = .ok (.if_icmp .lt 27, 3) := by decide +kernel
theorem dX3_tell_88 : decode cX3_tell 88 = .ok (.iload_n 1, 1) := by decide +kernel
theorem dX3_tell_89 : decode cX3_tell 89 = .ok (.bipush 7, 2) := by decide +kernel
theorem dX3_tell_91 : decode cX3_tell 91 = .ok (.isub, 1) := by decide +kernel
theorem dX3_tell_92 : decode cX3_tell 92 = .ok (.aload_n 0, 1) := by decide +kernel
theorem dX3_tell_93 : decode cX3_tell 93 = .ok (.getfield 18, 3) := by decide +kernel
theorem dX3_tell_96 : decode cX3_tell 96 = .ok (.arraylength, 1) := by decide +kernel
theorem dX3_tell_97 : decode cX3_tell 97 = .ok (.if_icmp .ge 15, 3) := by decide +kernel
theorem dX3_tell_100 : decode cX3_tell 100 = .ok (.aload_n 0, 1) := by decide +kernel
theorem dX3_tell_101 : decode cX3_tell 101 = .ok (.getfield 18, 3) := by decide +kernel
theorem dX3_tell_104 : decode cX3_tell 104 = .ok (.iload_n 1, 1) := by decide +kernel
theorem dX3_tell_105 : decode cX3_tell 105 = .ok (.bipush 7, 2) := by decide +kernel
theorem dX3_tell_107 : decode cX3_tell 107 = .ok (.isub, 1) := by decide +kernel
theorem dX3_tell_108 : decode cX3_tell 108 = .ok (.iaload, 1) := by decide +kernel
theorem dX3_tell_109 : decode cX3_tell 109 = .ok (.goto 5, 3) := by decide +kernel
theorem dX3_tell_112 : decode cX3_tell 112 = .ok (.bipush (-2), 2) := by decide +kernel
theorem dX3_tell_114 : decode cX3_tell 114 = .ok (.ireturn, 1) := by decide +kernel
theorem dX3_openOnes_0 : decode cX3_openOnes 0 = .ok (.iconst 0, 1) := by decide +kernel
theorem dX3_openOnes_1 : decode cX3_openOnes 1 = .ok (.istore_n 1, 1) := by decide +kernel
theorem dX3_openOnes_2 : decode cX3_openOnes 2 = .ok (.iconst 0, 1) := by decide +kernel
theorem dX3_openOnes_3 : decode cX3_openOnes 3 = .ok (.istore_n 2, 1) := by decide +kernel
theorem dX3_openOnes_4 : decode cX3_openOnes 4 = .ok (.iload_n 2, 1) := by decide +kernel
theorem dX3_openOnes_5 : decode cX3_openOnes 5 = .ok (.aload_n 0, 1) := by decide +kernel
theorem dX3_openOnes_6 : decode cX3_openOnes 6 = .ok (.getfield 29, 3) := by decide +kernel
theorem dX3_openOnes_9 : decode cX3_openOnes 9 = .ok (.if_icmp .ge 27, 3) := by decide +kernel
theorem dX3_openOnes_12 : decode cX3_openOnes 12 = .ok (.aload_n 0, 1) := by decide +kernel
theorem dX3_openOnes_13 : decode cX3_openOnes 13 = .ok (.getfield 25, 3) := by decide +kernel
theorem dX3_openOnes_16 : decode cX3_openOnes 16 = .ok (.iload_n 2, 1) := by decide +kernel
theorem dX3_openOnes_17 : decode cX3_openOnes 17 = .ok (.aaload, 1) := by decide +kernel
theorem dX3_openOnes_18 : decode cX3_openOnes 18 = .ok (.getfield 80, 3) := by decide +kernel
theorem dX3_openOnes_21 : decode cX3_openOnes 21 = .ok (.ifCond .eq 9, 3) := by decide +kernel
theorem dX3_openOnes_24 : decode cX3_openOnes 24 = .ok (.iload_n 1, 1) := by decide +kernel
theorem dX3_openOnes_25 : decode cX3_openOnes 25 = .ok (.iconst 1, 1) := by decide +kernel
theorem dX3_openOnes_26 : decode cX3_openOnes 26 = .ok (.iload_n 2, 1) := by decide +kernel
theorem dX3_openOnes_27 : decode cX3_openOnes 27 = .ok (.ishl, 1) := by decide +kernel
theorem dX3_openOnes_28 : decode cX3_openOnes 28 = .ok (.ior, 1) := by decide +kernel
theorem dX3_openOnes_29 : decode cX3_openOnes 29 = .ok (.istore_n 1, 1) := by decide +kernel
theorem dX3_openOnes_30 : decode cX3_openOnes 30 = .ok (.iinc 2 1, 3) := by decide +kernel
theorem dX3_openOnes_33 : decode cX3_openOnes 33 = .ok (.goto (-29), 3) := by decide +kernel
theorem dX3_openOnes_36 : decode cX3_openOnes 36 = .ok (.iload_n 1, 1) := by decide +kernel
theorem dX3_openOnes_37 : decode cX3_openOnes 37 = .ok (.ireturn, 1) := by decide +kernel
theorem dX3_shunnedOnes_0 : decode cX3_shunnedOnes 0 = .ok (.iconst 0, 1) := by decide +kernel
theorem dX3_shunnedOnes_1 : decode cX3_shunnedOnes 1 = .ok (.istore_n 1, 1) := by decide +kernel
theorem dX3_shunnedOnes_2 : decode cX3_shunnedOnes 2 = .ok (.iconst 0, 1) := by decide +kernel
theorem dX3_shunnedOnes_3 : decode cX3_shunnedOnes 3 = .ok (.istore_n 2, 1) := by decide +kernel
theorem dX3_shunnedOnes_4 : decode cX3_shunnedOnes 4 = .ok (.iload_n 2, 1) := by decide +kernel
theorem dX3_shunnedOnes_5 : decode cX3_shunnedOnes 5 = .ok (.aload_n 0, 1) := by decide +kernel
theorem dX3_shunnedOnes_6 : decode cX3_shunnedOnes 6 = .ok (.getfield 29, 3) := by decide +kernel
theorem dX3_shunnedOnes_9 : decode cX3_shunnedOnes 9 = .ok (.if_icmp .ge 27, 3) := by decide +kernel
theorem dX3_shunnedOnes_12 : decode cX3_shunnedOnes 12 = .ok (.aload_n 0, 1) := by decide +kernel
theorem dX3_shunnedOnes_13 : decode cX3_shunnedOnes 13 = .ok (.getfield 25, 3) := by decide +kernel
theorem dX3_shunnedOnes_16 : decode cX3_shunnedOnes 16 = .ok (.iload_n 2, 1) := by decide +kernel
theorem dX3_shunnedOnes_17 : decode cX3_shunnedOnes 17 = .ok (.aaload, 1) := by decide +kernel
theorem dX3_shunnedOnes_18 : decode cX3_shunnedOnes 18 = .ok (.getfield 148, 3) := by decide +kernel
theorem dX3_shunnedOnes_21 : decode cX3_shunnedOnes 21 = .ok (.ifCond .eq 9, 3) := by decide +kernel
theorem dX3_shunnedOnes_24 : decode cX3_shunnedOnes 24 = .ok (.iload_n 1, 1) := by decide +kernel
theorem dX3_shunnedOnes_25 : decode cX3_shunnedOnes 25 = .ok (.iconst 1, 1) := by decide +kernel
theorem dX3_shunnedOnes_26 : decode cX3_shunnedOnes 26 = .ok (.iload_n 2, 1) := by decide +kernel
theorem dX3_shunnedOnes_27 : decode cX3_shunnedOnes 27 = .ok (.ishl, 1) := by decide +kernel
theorem dX3_shunnedOnes_28 : decode cX3_shunnedOnes 28 = .ok (.ior, 1) := by decide +kernel
theorem dX3_shunnedOnes_29 : decode cX3_shunnedOnes 29 = .ok (.istore_n 1, 1) := by decide +kernel
theorem dX3_shunnedOnes_30 : decode cX3_shunnedOnes 30 = .ok (.iinc 2 1, 3) := by decide +kernel
theorem dX3_shunnedOnes_33 : decode cX3_shunnedOnes 33 = .ok (.goto (-29), 3) := by decide +kernel
theorem dX3_shunnedOnes_36 : decode cX3_shunnedOnes 36 = .ok (.iload_n 1, 1) := by decide +kernel
theorem dX3_shunnedOnes_37 : decode cX3_shunnedOnes 37 = .ok (.ireturn, 1) := by decide +kernel
end
section
def fn_X3_copyFrom_20 : Nat → Nat → Nat → Int32 → mm_M → Option mm_M
  | 0, _, _, _, _ => none
  | n + 1, k0, k1, i2, x => if (8 : Int32) ≤ i2 then some (x) else if i2 < 0 ∨ 8 ≤ Int32.toNatClampNeg i2 then none else if i2 < 0 ∨ 8 ≤ Int32.toNatClampNeg i2 then none else (fn_X1_copyFrom ((k0 + 2) + 5 + Int32.toNatClampNeg i2) ((k1 + 2) + 5 + Int32.toNatClampNeg i2) x).bind fun x1 => (some (i2 + 1)).bind fun v1 => fn_X3_copyFrom_20 n k0 k1 v1 x1
def fn_X3_copyFrom (k0 : Nat) (k1 : Nat) (x : mm_M) : Option mm_M :=
  if mm_kd k0 = 3 then if mm_kd k1 = 3 then (some (mm_cy x (k1 + 1) (k0 + 1) 0 0 7)).bind fun x1 => (fn_X3_copyFrom_20 9 k0 k1 0 x1).bind fun x2 => (some (mm_up x2 k0 2 (x2 k1 2))).bind fun x3 => (some (mm_up x3 k0 3 (x3 k1 3))).bind fun x4 => (some (mm_up x4 k0 4 (x4 k1 4))).bind fun x5 => (some (mm_up x5 k0 5 (x5 k1 5))).bind fun x6 => (fn_X0_copyFrom (k0 + 3) (k1 + 3) x6).bind fun x7 => some x7 else none else none
abbrev rm_X3_copyFrom : Room := { frames := 2, cells := 0, slots := 0, locals := 47 }
theorem df_X3_copyFrom : yX3_copyFrom.cls = RX3 ∧ yX3_copyFrom.cls ≠ "java/lang/invoke/MethodHandle" ∧ yX3_copyFrom.cls ≠ "java/lang/invoke/VarHandle" ∧ (parseMethodDescriptor yX3_copyFrom.desc).map (fun d => d.parameters.length) = some 1 := by decide +kernel
set_option maxRecDepth 100000 in
set_option maxHeartbeats 4000000 in
theorem lp_X3_copyFrom_20 {p : Program} {l : Launch} {e : Env} {s : State} {m : MethodId} {args : Array Value} {below : List Frame} {meth : Method} {c : Code} {Q : State → Prop} {G : va_G} {T : Nat → ClassId} {b : Nat} {z : Nat → Nat} (C : mm_C p m c cX3_copyFrom 3 s args wsX3_copyFrom RX3 G T b z) (k0 : Nat) (k1 : Nat) (hk0 : mm_kd k0 = 3) (hk1 : mm_kd k1 = 3) : ∀ (n : Nat) (i2 : Int32) (x : mm_M) (H : Heap) (locs : List Loc) (ls : Array Slot) (x1 : mm_M), fn_X3_copyFrom_20 n k0 k1 i2 x = some (x1) → mm_H G T b x s H locs → lv_has ls 3 [(0, .ref (b + k0)), (1, .ref (b + k1)), (2, .int i2)] → (∀ (H1 : Heap) (locs1 : List Loc) (ls1 : Array Slot), mm_H G T b x1 s H1 locs1 → lv_has ls1 3 [(0, .ref (b + k0)), (1, .ref (b + k1))] → W p l e rm_X3_copyFrom s m args below meth c H1 locs1 0 0 Q (F0 m 50 ls1 [])) → W p l e rm_X3_copyFrom s m args below meth c H locs 0 0 Q (F0 m 20 ls []) := by
  have hx := C.1
  have hb := C.2.1
  have w1 := C.2.2.2.2.1 (.fieldLink RX3 25 "LandingFines$River" "landings" "[LLandingFines$Landing;") (by decide +kernel)
  have hin3 : ∀ w ∈ wsX30, w ∈ wsX3_copyFrom := by decide +kernel
  have hk0l := mm_lt hk0 (by decide)
  have hk1l := mm_lt hk1 (by decide)
  intro n
  induction n with
  | zero => intro _ _ _ _ _ _ h; cases (show (none : Option mm_M) = some _ from h)
  | succ n ih =>
    intro i2 x H locs ls x1 h hH hl kk
    rw [fn_X3_copyFrom_20] at h
    refine lv_iload_n hx hb dX3_copyFrom_20 rfl (lv_at hl 2 rfl) ?_
    refine lv_aload_n hx hb dX3_copyFrom_21 rfl (lv_at hl 0 rfl) ?_
    refine mm_get (v := .ref (b + (k0 + 2))) C hH hin3 rfl hk0l (mm_e3 hk0) (j := 1) (by decide) rfl w1 rfl dX3_copyFrom_22 ?_
    refine mm_alen (v := 8) C hH (mm_lt (mm_rv2 hk0) (by decide)) (mm_e9 (mm_rv2 hk0)) 3 rfl rfl dX3_copyFrom_25 ?_
    refine lv_icmp_ge (tgt := 50) hx hb dX3_copyFrom_26 (by decide) (fun c1 => ?_) (fun c1 => ?_)
    · have h := mm_pos c1 h
      have hl := lv_sub (l' := [(0, .ref (b + k0)), (1, .ref (b + k1))]) hl [0, 1] rfl
      cases h
      exact kk _ _ _ hH (lv_sub hl [0, 1] rfl)
    · have h := mm_neg c1 h
      refine lv_aload_n hx hb dX3_copyFrom_29 rfl (lv_at hl 0 rfl) ?_
      refine mm_get (v := .ref (b + (k0 + 2))) C hH hin3 rfl hk0l (mm_e3 hk0) (j := 1) (by decide) rfl w1 rfl dX3_copyFrom_30 ?_
      refine lv_iload_n hx hb dX3_copyFrom_33 rfl (lv_at hl 2 rfl) ?_
      obtain ⟨g1, h⟩ := mm_grn h
      refine mm_ald9 C hH (mm_rv2 hk0) g1 dX3_copyFrom_34 ?_
      refine lv_aload_n hx hb dX3_copyFrom_35 rfl (lv_at hl 1 rfl) ?_
      refine mm_get (v := .ref (b + (k1 + 2))) C hH hin3 rfl hk1l (mm_e3 hk1) (j := 1) (by decide) rfl w1 rfl dX3_copyFrom_36 ?_
      refine lv_iload_n hx hb dX3_copyFrom_39 rfl (lv_at hl 2 rfl) ?_
      obtain ⟨g2, h⟩ := mm_grn h
      refine mm_ald9 C hH (mm_rv2 hk1) g2 dX3_copyFrom_40 ?_
      obtain ⟨x1, e1, h⟩ := mm_bnd h
      refine mm_gov hH (va_runV (As := [.ref (b + ((k1 + 2) + 5 + Int32.toNatClampNeg i2))]) (rest := []) ⟨hx, hb, C.2.2.1, C.2.2.2.1, C.2.2.2.2.1⟩ (ct_X1_copyFrom l G T b z ((k0 + 2) + 5 + Int32.toNatClampNeg i2) ((k1 + 2) + 5 + Int32.toNatClampNeg i2) x e1) (cwV 1 C.2.2.2.2.1 gX3_copyFrom_X1_copyFrom rfl rfl rfl df_X1_copyFrom ⟨Nat.le_of_ble_eq_true rfl, Nat.le_of_ble_eq_true rfl⟩) ⟨mm_B.blind, mm_recv (q := (RX1, TX1, 8)) C hH (mm_lt (mm_ldr hk0 g1) (by decide)) (mm_e1 (mm_ldr hk0 g1)) rfl, mm_pre C hH⟩ rfl rfl hl.1 rfl (lv_room (Nat.le_of_ble_eq_true rfl)) dX3_copyFrom_41 ⟨Nat.zero_le _, Nat.zero_le _⟩) (fun H locs hH => ?_)
      obtain ⟨v1, e2, h⟩ := mm_bnd h
      refine lv_iinc (v := v1) (lv' := [(2, .int v1), (0, .ref (b + k0)), (1, .ref (b + k1))]) hx hb dX3_copyFrom_44 hl (k := 2) rfl (Option.some.inj e2) (by decide) rfl (fun ls hl => ?_)
      refine lv_goto (tgt := 20) hx hb dX3_copyFrom_47 (by decide) ?_
      exact ih v1 x1 _ _ _ _ h hH (lv_sub hl [1, 2, 0] rfl) kk
set_option maxRecDepth 100000 in
set_option maxHeartbeats 4000000 in
theorem ct_X3_copyFrom (l : Launch) (G : va_G) (T : Nat → ClassId) (b : Nat) (z : Nat → Nat) (k0 : Nat) (k1 : Nat) (x : mm_M) {x1 : mm_M} (h : fn_X3_copyFrom k0 k1 x = some x1) : mm_Cv l yX3_copyFrom wsX3_copyFrom rm_X3_copyFrom G T b z [.ref (b + k0), .ref (b + k1)] x x1 := by
  unfold fn_X3_copyFrom at h
  refine mm_start (cc := cX3_copyFrom) (maxL := 3) (ret := none) (by decide) rfl (Nat.le_of_ble_eq_true rfl) (fun p e s m below meth c ls C hr hlk hH hl => ?_)
  have hl : lv_has ls 3 [(0, .ref (b + k0)), (1, .ref (b + k1))] := hl
  have hx := C.1
  have hb := C.2.1
  have w1 := C.2.2.2.2.1 (.fieldLink RX3 18 "LandingFines$River" "settings" "[I") (by decide +kernel)
  have w2 := C.2.2.2.2.1 (.methodLink RX3 50 arraycopyName) (by decide +kernel)
  have w3 := C.2.2.2.2.1 (.native arraycopyName) (by decide +kernel)
  have w4 := C.2.2.2.2.1 (.static arraycopyName) (by decide +kernel)
  have w5 := C.2.2.2.2.1 (.initialized "java/lang/System") (by decide +kernel)
  have w6 := C.2.2.2.2.1 (.fieldLink RX3 29 "LandingFines$River" "landingCount" "I") (by decide +kernel)
  have w7 := C.2.2.2.2.1 (.fieldLink RX3 33 "LandingFines$River" "minutesSoFar" "I") (by decide +kernel)
  have w8 := C.2.2.2.2.1 (.fieldLink RX3 36 "LandingFines$River" "taken" "I") (by decide +kernel)
  have w9 := C.2.2.2.2.1 (.fieldLink RX3 39 "LandingFines$River" "switches" "I") (by decide +kernel)
  have w10 := C.2.2.2.2.1 (.fieldLink RX3 45 "LandingFines$River" "journal" "LLandingFines$Journal;") (by decide +kernel)
  have hin3 : ∀ w ∈ wsX30, w ∈ wsX3_copyFrom := by decide +kernel
  obtain ⟨hk0, h⟩ := mm_grd h
  have hk0l := mm_lt hk0 (by decide)
  obtain ⟨hk1, h⟩ := mm_grd h
  have hk1l := mm_lt hk1 (by decide)
  refine lv_aload_n hx hb dX3_copyFrom_0 rfl (lv_at hl 1 rfl) ?_
  refine mm_get (v := .ref (b + (k1 + 1))) C hH hin3 rfl hk1l (mm_e3 hk1) (j := 0) (by decide) rfl w1 rfl dX3_copyFrom_1 ?_
  refine lv_iconst (v := 0) hx hb dX3_copyFrom_4 (by decide) ?_
  refine lv_aload_n hx hb dX3_copyFrom_5 rfl (lv_at hl 0 rfl) ?_
  refine mm_get (v := .ref (b + (k0 + 1))) C hH hin3 rfl hk0l (mm_e3 hk0) (j := 0) (by decide) rfl w1 rfl dX3_copyFrom_6 ?_
  refine lv_iconst (v := 0) hx hb dX3_copyFrom_9 (by decide) ?_
  refine lv_aload_n hx hb dX3_copyFrom_10 rfl (lv_at hl 0 rfl) ?_
  refine mm_get (v := .ref (b + (k0 + 1))) C hH hin3 rfl hk0l (mm_e3 hk0) (j := 0) (by decide) rfl w1 rfl dX3_copyFrom_11 ?_
  refine mm_alen (v := 7) C hH (mm_lt (mm_rv1 hk0).1 (by decide)) (mm_e6 (mm_rv1 hk0).1) 0 rfl (by rw [(mm_rv1 hk0).2]; rfl) dX3_copyFrom_14 ?_
  obtain ⟨x1, e1, h⟩ := mm_bnd h
  refine mm_copy (n0 := 7) (n1 := 7) C hl.1.symm hH (mm_rv1 hk1).1 (mm_rv1 hk0).1 (mm_rv1 hk1).2 (mm_rv1 hk0).2 w2 w3 w4 w5 (by decide) (by decide) (by decide) (by decide) (by decide) (Nat.le_of_ble_eq_true rfl) (Nat.le_of_ble_eq_true rfl) (Option.some.inj e1) dX3_copyFrom_15 (fun H locs hH => ?_)
  refine lv_iconst (v := 0) hx hb dX3_copyFrom_18 (by decide) ?_
  refine lv_istore_n (lv' := [(2, .int 0), (0, .ref (b + k0)), (1, .ref (b + k1))]) hx hb dX3_copyFrom_19 rfl hl (by decide) rfl (fun ls hl => ?_)
  obtain ⟨x2, e2, h⟩ := mm_bnd h
  refine lp_X3_copyFrom_20 C k0 k1 hk0 hk1 9 0 x1 _ _ _ _ e2 hH (lv_sub hl [1, 2, 0] rfl) (fun H locs ls hH hl => ?_)
  refine lv_aload_n hx hb dX3_copyFrom_50 rfl (lv_at hl 0 rfl) ?_
  refine lv_aload_n hx hb dX3_copyFrom_51 rfl (lv_at hl 1 rfl) ?_
  refine mm_get (v := .int (x2 k1 2)) C hH hin3 rfl hk1l (mm_e3 hk1) (j := 2) (by decide) rfl w6 rfl dX3_copyFrom_52 ?_
  obtain ⟨x3, e3, h⟩ := mm_bnd h
  refine mm_put (ty := .int) C hH hin3 tyX3_ok nmX3 rfl hk0l (mm_e3 hk0) (j := 2) (by decide) rfl w6 pd_I rfl rfl (Nat.le_of_ble_eq_true rfl) (sp_3_2 hk0) (Option.some.inj e3) dX3_copyFrom_55 (fun H locs hH => ?_)
  refine lv_aload_n hx hb dX3_copyFrom_58 rfl (lv_at hl 0 rfl) ?_
  refine lv_aload_n hx hb dX3_copyFrom_59 rfl (lv_at hl 1 rfl) ?_
  refine mm_get (v := .int (x3 k1 3)) C hH hin3 rfl hk1l (mm_e3 hk1) (j := 3) (by decide) rfl w7 rfl dX3_copyFrom_60 ?_
  obtain ⟨x4, e4, h⟩ := mm_bnd h
  refine mm_put (ty := .int) C hH hin3 tyX3_ok nmX3 rfl hk0l (mm_e3 hk0) (j := 3) (by decide) rfl w7 pd_I rfl rfl (Nat.le_of_ble_eq_true rfl) (sp_3_3 hk0) (Option.some.inj e4) dX3_copyFrom_63 (fun H locs hH => ?_)
  refine lv_aload_n hx hb dX3_copyFrom_66 rfl (lv_at hl 0 rfl) ?_
  refine lv_aload_n hx hb dX3_copyFrom_67 rfl (lv_at hl 1 rfl) ?_
  refine mm_get (v := .int (x4 k1 4)) C hH hin3 rfl hk1l (mm_e3 hk1) (j := 4) (by decide) rfl w8 rfl dX3_copyFrom_68 ?_
  obtain ⟨x5, e5, h⟩ := mm_bnd h
  refine mm_put (ty := .int) C hH hin3 tyX3_ok nmX3 rfl hk0l (mm_e3 hk0) (j := 4) (by decide) rfl w8 pd_I rfl rfl (Nat.le_of_ble_eq_true rfl) (sp_3_4 hk0) (Option.some.inj e5) dX3_copyFrom_71 (fun H locs hH => ?_)
  refine lv_aload_n hx hb dX3_copyFrom_74 rfl (lv_at hl 0 rfl) ?_
  refine lv_aload_n hx hb dX3_copyFrom_75 rfl (lv_at hl 1 rfl) ?_
  refine mm_get (v := .int (x5 k1 5)) C hH hin3 rfl hk1l (mm_e3 hk1) (j := 5) (by decide) rfl w9 rfl dX3_copyFrom_76 ?_
  obtain ⟨x6, e6, h⟩ := mm_bnd h
  refine mm_put (ty := .int) C hH hin3 tyX3_ok nmX3 rfl hk0l (mm_e3 hk0) (j := 5) (by decide) rfl w9 pd_I rfl rfl (Nat.le_of_ble_eq_true rfl) (sp_3_5 hk0) (Option.some.inj e6) dX3_copyFrom_79 (fun H locs hH => ?_)
  refine lv_aload_n hx hb dX3_copyFrom_82 rfl (lv_at hl 0 rfl) ?_
  refine mm_get (v := .ref (b + (k0 + 3))) C hH hin3 rfl hk0l (mm_e3 hk0) (j := 6) (by decide) rfl w10 rfl dX3_copyFrom_83 ?_
  refine lv_aload_n hx hb dX3_copyFrom_86 rfl (lv_at hl 1 rfl) ?_
  refine mm_get (v := .ref (b + (k1 + 3))) C hH hin3 rfl hk1l (mm_e3 hk1) (j := 6) (by decide) rfl w10 rfl dX3_copyFrom_87 ?_
  obtain ⟨x7, e7, h⟩ := mm_bnd h
  refine mm_gov hH (va_runV (As := [.ref (b + (k1 + 3))]) (rest := []) ⟨hx, hb, C.2.2.1, C.2.2.2.1, C.2.2.2.2.1⟩ (ct_X0_copyFrom l G T b z (k0 + 3) (k1 + 3) x6 e7) (cwV 1 C.2.2.2.2.1 gX3_copyFrom_X0_copyFrom rfl rfl rfl df_X0_copyFrom ⟨Nat.le_of_ble_eq_true rfl, Nat.le_of_ble_eq_true rfl⟩) ⟨mm_B.blind, mm_recv (q := (RX0, TX0, 5)) C hH (mm_lt (mm_rv3 hk0) (by decide)) (mm_e0 (mm_rv3 hk0)) rfl, mm_pre C hH⟩ rfl rfl hl.1 rfl (lv_room (Nat.le_of_ble_eq_true rfl)) dX3_copyFrom_90 ⟨Nat.zero_le _, Nat.zero_le _⟩) (fun H locs hH => ?_)
  exact mm_vret C hH hr hlk h dX3_copyFrom_93
def fn_X3_find (a1 : Int32) (x : mm_M) : Option (Option Nat) :=
  if a1 < 0 then some none else if a1 < (x 1 2) then if a1 < 0 ∨ 8 ≤ Int32.toNatClampNeg a1 then none else some (some (3 + 5 + Int32.toNatClampNeg a1)) else some none
abbrev rm_X3_find : Room := { frames := 0, cells := 0, slots := 0, locals := 0 }
theorem df_X3_find : yX3_find.cls = RX3 ∧ yX3_find.cls ≠ "java/lang/invoke/MethodHandle" ∧ yX3_find.cls ≠ "java/lang/invoke/VarHandle" ∧ (parseMethodDescriptor yX3_find.desc).map (fun d => d.parameters.length) = some 1 := by decide +kernel
set_option maxRecDepth 100000 in
set_option maxHeartbeats 4000000 in
theorem ct_X3_find (l : Launch) (G : va_G) (T : Nat → ClassId) (b : Nat) (z : Nat → Nat) (a1 : Int32) (x : mm_M) {r : Option Nat} (h : fn_X3_find a1 x = some r) : mm_Ce l yX3_find wsX3_find rm_X3_find G T b z [.ref (b + 1), .int a1] x r x := by
  unfold fn_X3_find at h
  refine mm_start (cc := cX3_find) (maxL := 2) (ret := (some (.object "LandingFines$Landing"))) (by decide) rfl (Nat.le_of_ble_eq_true rfl) (fun p e s m below meth c ls C hr hlk hH hl => ?_)
  have hl : lv_has ls 2 [(0, .ref (b + 1)), (1, .int a1)] := hl
  have hx := C.1
  have hb := C.2.1
  have w1 := C.2.2.2.2.1 (.fieldLink RX3 29 "LandingFines$River" "landingCount" "I") (by decide +kernel)
  have w2 := C.2.2.2.2.1 (.fieldLink RX3 25 "LandingFines$River" "landings" "[LLandingFines$Landing;") (by decide +kernel)
  have hin3 : ∀ w ∈ wsX30, w ∈ wsX3_find := by decide +kernel
  refine lv_iload_n hx hb dX3_find_0 rfl (lv_at hl 1 rfl) ?_
  refine lv_if_lt (tgt := 12) hx hb dX3_find_1 (by decide) (fun c1 => ?_) (fun c1 => ?_)
  · have h := mm_pos c1 h
    have hl := lv_sub (l' := []) hl [] rfl
    refine lv_null hx hb dX3_find_12 ?_
    refine lv_goto (tgt := 22) hx hb dX3_find_13 (by decide) ?_
    exact mm_eretP C hH hr (Or.inl ⟨_, rfl⟩) hlk rfl h dX3_find_22
  · have h := mm_neg c1 h
    refine lv_iload_n hx hb dX3_find_4 rfl (lv_at hl 1 rfl) ?_
    refine lv_aload_n hx hb dX3_find_5 rfl (lv_at hl 0 rfl) ?_
    refine mm_get (v := .int (x 1 2)) C hH hin3 rfl kl_1 (mm_e3 kd_1) (j := 2) (by decide) rfl w1 rfl dX3_find_6 ?_
    refine lv_icmp_lt (tgt := 16) hx hb dX3_find_9 (by decide) (fun c2 => ?_) (fun c2 => ?_)
    · have h := mm_pos c2 h
      refine lv_aload_n hx hb dX3_find_16 rfl (lv_at hl 0 rfl) ?_
      refine mm_get (v := .ref (b + 3)) C hH hin3 rfl kl_1 (mm_e3 kd_1) (j := 1) (by decide) rfl w2 rfl dX3_find_17 ?_
      refine lv_iload_n hx hb dX3_find_20 rfl (lv_at hl 1 rfl) ?_
      obtain ⟨g1, h⟩ := mm_grn h
      refine mm_ald9 C hH kd_3 g1 dX3_find_21 ?_
      exact mm_eretP C hH hr (Or.inl ⟨_, rfl⟩) hlk rfl h dX3_find_22
    · have h := mm_neg c2 h
      have hl := lv_sub (l' := []) hl [] rfl
      refine lv_null hx hb dX3_find_12 ?_
      refine lv_goto (tgt := 22) hx hb dX3_find_13 (by decide) ?_
      exact mm_eretP C hH hr (Or.inl ⟨_, rfl⟩) hlk rfl h dX3_find_22
def fn_X3_changeSetting (a1 : Int32) (a2 : Int32) (x : mm_M) : Option (mm_M × Int32) :=
  if a1 < 0 then some (x, (-2)) else if a1 < 7 then if a1 < 0 ∨ 7 ≤ Int32.toNatClampNeg a1 then none else if a2 < (mm_st 0 (Int32.toNatClampNeg a1)) then some (x, (-2)) else if a1 < 0 ∨ 7 ≤ Int32.toNatClampNeg a1 then none else if a2 ≤ (mm_st 1 (Int32.toNatClampNeg a1)) then if a1 < 0 ∨ 7 ≤ Int32.toNatClampNeg a1 then none else (some ((x 2 (Int32.toNatClampNeg a1)) : Int32)).bind fun v1 => if a1 < 0 ∨ 7 ≤ Int32.toNatClampNeg a1 then none else (some (mm_up x 2 (Int32.toNatClampNeg a1) a2)).bind fun x1 => some (x1, v1) else some (x, (-2)) else some (x, (-2))
abbrev rm_X3_changeSetting : Room := { frames := 0, cells := 0, slots := 0, locals := 0 }
theorem df_X3_changeSetting : yX3_changeSetting.cls = RX3 ∧ yX3_changeSetting.cls ≠ "java/lang/invoke/MethodHandle" ∧ yX3_changeSetting.cls ≠ "java/lang/invoke/VarHandle" ∧ (parseMethodDescriptor yX3_changeSetting.desc).map (fun d => d.parameters.length) = some 2 := by decide +kernel
set_option maxRecDepth 100000 in
set_option maxHeartbeats 4000000 in
theorem ct_X3_changeSetting (l : Launch) (G : va_G) (T : Nat → ClassId) (b : Nat) (z : Nat → Nat) (a1 : Int32) (a2 : Int32) (x : mm_M) {x1 : mm_M} {r : Int32} (h : fn_X3_changeSetting a1 a2 x = some (x1, r)) : mm_Ci l yX3_changeSetting wsX3_changeSetting rm_X3_changeSetting G T b z [.ref (b + 1), .int a1, .int a2] x r x1 := by
  unfold fn_X3_changeSetting at h
  refine mm_start (cc := cX3_changeSetting) (maxL := 4) (ret := (some .int)) (by decide) rfl (Nat.le_of_ble_eq_true rfl) (fun p e s m below meth c ls C hr hlk hH hl => ?_)
  have hl : lv_has ls 4 [(0, .ref (b + 1)), (1, .int a1), (2, .int a2)] := hl
  have hx := C.1
  have hb := C.2.1
  have w1 := C.2.2.2.2.1 (.fieldLink RX3 18 "LandingFines$River" "settings" "[I") (by decide +kernel)
  have hin3 : ∀ w ∈ wsX30, w ∈ wsX3_changeSetting := by decide +kernel
  refine lv_iload_n hx hb dX3_changeSetting_0 rfl (lv_at hl 1 rfl) ?_
  refine lv_if_lt (tgt := 13) hx hb dX3_changeSetting_1 (by decide) (fun c1 => ?_) (fun c1 => ?_)
  · have h := mm_pos c1 h
    have hl := lv_sub (l' := []) hl [] rfl
    refine lv_bipush (v := (-2)) hx hb dX3_changeSetting_13 (by decide) ?_
    exact mm_iret C hH hr hlk rfl h dX3_changeSetting_15
  · have h := mm_neg c1 h
    refine lv_iload_n hx hb dX3_changeSetting_4 rfl (lv_at hl 1 rfl) ?_
    refine lv_aload_n hx hb dX3_changeSetting_5 rfl (lv_at hl 0 rfl) ?_
    refine mm_get (v := .ref (b + 2)) C hH hin3 rfl kl_1 (mm_e3 kd_1) (j := 0) (by decide) rfl w1 rfl dX3_changeSetting_6 ?_
    refine mm_alen (v := 7) C hH kl_2 (mm_e6 kd_2) 0 rfl rfl dX3_changeSetting_9 ?_
    refine lv_icmp_lt (tgt := 16) hx hb dX3_changeSetting_10 (by decide) (fun c2 => ?_) (fun c2 => ?_)
    · have h := mm_pos c2 h
      refine lv_iload_n hx hb dX3_changeSetting_16 rfl (lv_at hl 2 rfl) ?_
      refine mm_gets (i := 0) C rfl hH (by decide) rfl dX3_changeSetting_17 ?_
      refine lv_iload_n hx hb dX3_changeSetting_20 rfl (lv_at hl 1 rfl) ?_
      obtain ⟨g1, h⟩ := mm_grn h
      refine mm_sld (i := 0) C hH (by decide) g1 dX3_changeSetting_21 ?_
      refine lv_icmp_lt (tgt := 34) hx hb dX3_changeSetting_22 (by decide) (fun c3 => ?_) (fun c3 => ?_)
      · have h := mm_pos c3 h
        have hl := lv_sub (l' := []) hl [] rfl
        refine lv_bipush (v := (-2)) hx hb dX3_changeSetting_34 (by decide) ?_
        exact mm_iret C hH hr hlk rfl h dX3_changeSetting_36
      · have h := mm_neg c3 h
        refine lv_iload_n hx hb dX3_changeSetting_25 rfl (lv_at hl 2 rfl) ?_
        refine mm_gets (i := 1) C rfl hH (by decide) rfl dX3_changeSetting_26 ?_
        refine lv_iload_n hx hb dX3_changeSetting_29 rfl (lv_at hl 1 rfl) ?_
        obtain ⟨g2, h⟩ := mm_grn h
        refine mm_sld (i := 1) C hH (by decide) g2 dX3_changeSetting_30 ?_
        refine lv_icmp_le (tgt := 37) hx hb dX3_changeSetting_31 (by decide) (fun c4 => ?_) (fun c4 => ?_)
        · have h := mm_pos c4 h
          refine lv_aload_n hx hb dX3_changeSetting_37 rfl (lv_at hl 0 rfl) ?_
          refine mm_get (v := .ref (b + 2)) C hH hin3 rfl kl_1 (mm_e3 kd_1) (j := 0) (by decide) rfl w1 rfl dX3_changeSetting_38 ?_
          refine lv_iload_n hx hb dX3_changeSetting_41 rfl (lv_at hl 1 rfl) ?_
          obtain ⟨g3, h⟩ := mm_grn h
          refine mm_iald (n := 7) (jn := (Int32.toNatClampNeg a1)) C hH kd_2 ln_2 g3 rfl dX3_changeSetting_42 ?_
          obtain ⟨v1, e1, h⟩ := mm_bnd h
          refine mm_nmi e1 ?_
          refine lv_istore_n (lv' := [(3, .int v1), (0, .ref (b + 1)), (1, .int a1), (2, .int a2)]) hx hb dX3_changeSetting_43 rfl hl (by decide) rfl (fun ls hl => ?_)
          refine lv_aload_n hx hb dX3_changeSetting_44 rfl (lv_at hl 1 rfl) ?_
          refine mm_get (v := .ref (b + 2)) C hH hin3 rfl kl_1 (mm_e3 kd_1) (j := 0) (by decide) rfl w1 rfl dX3_changeSetting_45 ?_
          refine lv_iload_n hx hb dX3_changeSetting_48 rfl (lv_at hl 2 rfl) ?_
          refine lv_iload_n hx hb dX3_changeSetting_49 rfl (lv_at hl 3 rfl) ?_
          obtain ⟨g4, h⟩ := mm_grn h
          obtain ⟨x1, e2, h⟩ := mm_bnd h
          refine mm_iast (n := 7) (jn := (Int32.toNatClampNeg a1)) C hH kd_2 ln_2 g4 rfl (Option.some.inj e2) dX3_changeSetting_50 (fun H locs hH => ?_)
          refine lv_iload_n hx hb dX3_changeSetting_51 rfl (lv_at hl 0 rfl) ?_
          exact mm_iret C hH hr hlk rfl h dX3_changeSetting_52
        · have h := mm_neg c4 h
          have hl := lv_sub (l' := []) hl [] rfl
          refine lv_bipush (v := (-2)) hx hb dX3_changeSetting_34 (by decide) ?_
          exact mm_iret C hH hr hlk rfl h dX3_changeSetting_36
    · have h := mm_neg c2 h
      have hl := lv_sub (l' := []) hl [] rfl
      refine lv_bipush (v := (-2)) hx hb dX3_changeSetting_13 (by decide) ?_
      exact mm_iret C hH hr hlk rfl h dX3_changeSetting_15
def fn_X3_followTaken_5 : Nat → Int32 → Int32 → mm_M → Option Int32
  | 0, _, _, _ => none
  | n + 1, i1, i2, x => if (x 1 2) ≤ i2 then some (i1) else if i2 < 0 ∨ 8 ≤ Int32.toNatClampNeg i2 then none else (fn_X1_canBeTaken (3 + 5 + Int32.toNatClampNeg i2) x).bind fun v1 => if v1 = 0 then (some (i2 + 1)).bind fun v2 => fn_X3_followTaken_5 n  i1 v2 x else if i1 < 0 then (some (i2 + 1)).bind fun v3 => fn_X3_followTaken_5 n  i2 v3 x else if i2 < 0 ∨ 8 ≤ Int32.toNatClampNeg i2 then none else if i1 < 0 ∨ 8 ≤ Int32.toNatClampNeg i1 then none else if (x (3 + 5 + Int32.toNatClampNeg i1) 1) ≤ (x (3 + 5 + Int32.toNatClampNeg i2) 1) then (some (i2 + 1)).bind fun v4 => fn_X3_followTaken_5 n  i1 v4 x else (some (i2 + 1)).bind fun v5 => fn_X3_followTaken_5 n  i2 v5 x
def fn_X3_followTaken  (x : mm_M) : Option mm_M :=
  (fn_X3_followTaken_5 9 (-6) 0 x).bind fun v1 => if v1 = (x 1 4) then some x else (some (mm_up x 1 4 v1)).bind fun x1 => (some (mm_up x1 1 5 ((x1 1 5) + 1))).bind fun x2 => some x2
abbrev rm_X3_followTaken : Room := { frames := 1, cells := 0, slots := 0, locals := 20 }
theorem df_X3_followTaken : yX3_followTaken.cls = RX3 ∧ yX3_followTaken.cls ≠ "java/lang/invoke/MethodHandle" ∧ yX3_followTaken.cls ≠ "java/lang/invoke/VarHandle" ∧ (parseMethodDescriptor yX3_followTaken.desc).map (fun d => d.parameters.length) = some 0 := by decide +kernel
set_option maxRecDepth 100000 in
set_option maxHeartbeats 4000000 in
theorem lp_X3_followTaken_5 {p : Program} {l : Launch} {e : Env} {s : State} {m : MethodId} {args : Array Value} {below : List Frame} {meth : Method} {c : Code} {Q : State → Prop} {G : va_G} {T : Nat → ClassId} {b : Nat} {z : Nat → Nat} (C : mm_C p m c cX3_followTaken 3 s args wsX3_followTaken RX3 G T b z)  : ∀ (n : Nat) (i1 : Int32) (i2 : Int32) (x : mm_M) (H : Heap) (locs : List Loc) (ls : Array Slot) (r1 : Int32), fn_X3_followTaken_5 n i1 i2 x = some (r1) → mm_H G T b x s H locs → lv_has ls 3 [(0, .ref (b + 1)), (1, .int i1), (2, .int i2)] → (∀ (H1 : Heap) (locs1 : List Loc) (ls1 : Array Slot), mm_H G T b x s H1 locs1 → lv_has ls1 3 [(0, .ref (b + 1)), (1, .int r1)] → W p l e rm_X3_followTaken s m args below meth c H1 locs1 0 0 Q (F0 m 58 ls1 [])) → W p l e rm_X3_followTaken s m args below meth c H locs 0 0 Q (F0 m 5 ls []) := by
  have hx := C.1
  have hb := C.2.1
  have w1 := C.2.2.2.2.1 (.fieldLink RX3 29 "LandingFines$River" "landingCount" "I") (by decide +kernel)
  have w2 := C.2.2.2.2.1 (.fieldLink RX3 25 "LandingFines$River" "landings" "[LLandingFines$Landing;") (by decide +kernel)
  have w3 := C.2.2.2.2.1 (.fieldLink RX3 88 "LandingFines$Landing" "fare" "I") (by decide +kernel)
  have hin1 : ∀ w ∈ wsX10, w ∈ wsX3_followTaken := by decide +kernel
  have hin3 : ∀ w ∈ wsX30, w ∈ wsX3_followTaken := by decide +kernel
  intro n
  induction n with
  | zero => intro _ _ _ _ _ _ _ h; cases (show (none : Option Int32) = some _ from h)
  | succ n ih =>
    intro i1 i2 x H locs ls r1 h hH hl kk
    rw [fn_X3_followTaken_5] at h
    refine lv_iload_n hx hb dX3_followTaken_5 rfl (lv_at hl 2 rfl) ?_
    refine lv_aload_n hx hb dX3_followTaken_6 rfl (lv_at hl 0 rfl) ?_
    refine mm_get (v := .int (x 1 2)) C hH hin3 rfl kl_1 (mm_e3 kd_1) (j := 2) (by decide) rfl w1 rfl dX3_followTaken_7 ?_
    refine lv_icmp_ge (tgt := 58) hx hb dX3_followTaken_10 (by decide) (fun c1 => ?_) (fun c1 => ?_)
    · have h := mm_pos c1 h
      have hl := lv_sub (l' := [(0, .ref (b + 1)), (1, .int i1)]) hl [0, 1] rfl
      cases h
      exact kk _ _ _ hH (lv_sub hl [0, 1] rfl)
    · have h := mm_neg c1 h
      refine lv_aload_n hx hb dX3_followTaken_13 rfl (lv_at hl 0 rfl) ?_
      refine mm_get (v := .ref (b + 3)) C hH hin3 rfl kl_1 (mm_e3 kd_1) (j := 1) (by decide) rfl w2 rfl dX3_followTaken_14 ?_
      refine lv_iload_n hx hb dX3_followTaken_17 rfl (lv_at hl 2 rfl) ?_
      obtain ⟨g1, h⟩ := mm_grn h
      refine mm_ald9 C hH kd_3 g1 dX3_followTaken_18 ?_
      obtain ⟨v1, e1, h⟩ := mm_bnd h
      refine mm_goi hH (va_runV (As := []) (rest := []) ⟨hx, hb, C.2.2.1, C.2.2.2.1, C.2.2.2.2.1⟩ (ct_X1_canBeTaken l G T b z (3 + 5 + Int32.toNatClampNeg i2) x e1) (cwV 0 C.2.2.2.2.1 gX3_followTaken_X1_canBeTaken rfl rfl rfl df_X1_canBeTaken ⟨Nat.le_of_ble_eq_true rfl, Nat.le_of_ble_eq_true rfl⟩) ⟨mm_B.blind, mm_recv (q := (RX1, TX1, 8)) C hH (mm_lt (mm_ldc g1) (by decide)) (mm_e1 (mm_ldc g1)) rfl, mm_pre C hH⟩ rfl rfl hl.1 rfl (lv_room (Nat.le_of_ble_eq_true rfl)) dX3_followTaken_19 ⟨Nat.zero_le _, Nat.zero_le _⟩) (fun H locs hH => ?_)
      refine lv_if_eq (tgt := 52) hx hb dX3_followTaken_22 (by decide) (fun c2 => ?_) (fun c2 => ?_)
      · have h := mm_pos c2 h
        obtain ⟨v2, e2, h⟩ := mm_bnd h
        refine lv_iinc (v := v2) (lv' := [(2, .int v2), (0, .ref (b + 1)), (1, .int i1)]) hx hb dX3_followTaken_52 hl (k := 2) rfl (Option.some.inj e2) (by decide) rfl (fun ls hl => ?_)
        refine lv_goto (tgt := 5) hx hb dX3_followTaken_55 (by decide) ?_
        exact ih i1 v2 x _ _ _ _ h hH (lv_sub hl [1, 2, 0] rfl) kk
      · have h := mm_neg c2 h
        refine lv_iload_n hx hb dX3_followTaken_25 rfl (lv_at hl 1 rfl) ?_
        refine lv_if_lt (tgt := 50) hx hb dX3_followTaken_26 (by decide) (fun c3 => ?_) (fun c3 => ?_)
        · have h := mm_pos c3 h
          have hl := lv_sub (l' := [(0, .ref (b + 1)), (2, .int i2)]) hl [0, 2] rfl
          refine lv_iload_n hx hb dX3_followTaken_50 rfl (lv_at hl 1 rfl) ?_
          refine lv_istore_n (lv' := [(1, .int i2), (0, .ref (b + 1)), (2, .int i2)]) hx hb dX3_followTaken_51 rfl hl (by decide) rfl (fun ls hl => ?_)
          obtain ⟨v3, e3, h⟩ := mm_bnd h
          refine lv_iinc (v := v3) (lv' := [(2, .int v3), (1, .int i2), (0, .ref (b + 1))]) hx hb dX3_followTaken_52 hl (k := 2) rfl (Option.some.inj e3) (by decide) rfl (fun ls hl => ?_)
          refine lv_goto (tgt := 5) hx hb dX3_followTaken_55 (by decide) ?_
          exact ih i2 v3 x _ _ _ _ h hH (lv_sub hl [2, 1, 0] rfl) kk
        · have h := mm_neg c3 h
          refine lv_aload_n hx hb dX3_followTaken_29 rfl (lv_at hl 0 rfl) ?_
          refine mm_get (v := .ref (b + 3)) C hH hin3 rfl kl_1 (mm_e3 kd_1) (j := 1) (by decide) rfl w2 rfl dX3_followTaken_30 ?_
          refine lv_iload_n hx hb dX3_followTaken_33 rfl (lv_at hl 2 rfl) ?_
          obtain ⟨g2, h⟩ := mm_grn h
          refine mm_ald9 C hH kd_3 g2 dX3_followTaken_34 ?_
          refine mm_get (v := .int (x (3 + 5 + Int32.toNatClampNeg i2) 1)) C hH hin1 rfl (mm_lt (mm_ldc g2) (by decide)) (mm_e1 (mm_ldc g2)) (j := 1) (by decide) rfl w3 rfl dX3_followTaken_35 ?_
          refine lv_aload_n hx hb dX3_followTaken_38 rfl (lv_at hl 0 rfl) ?_
          refine mm_get (v := .ref (b + 3)) C hH hin3 rfl kl_1 (mm_e3 kd_1) (j := 1) (by decide) rfl w2 rfl dX3_followTaken_39 ?_
          refine lv_iload_n hx hb dX3_followTaken_42 rfl (lv_at hl 1 rfl) ?_
          obtain ⟨g3, h⟩ := mm_grn h
          refine mm_ald9 C hH kd_3 g3 dX3_followTaken_43 ?_
          refine mm_get (v := .int (x (3 + 5 + Int32.toNatClampNeg i1) 1)) C hH hin1 rfl (mm_lt (mm_ldc g3) (by decide)) (mm_e1 (mm_ldc g3)) (j := 1) (by decide) rfl w3 rfl dX3_followTaken_44 ?_
          refine lv_icmp_ge (tgt := 52) hx hb dX3_followTaken_47 (by decide) (fun c4 => ?_) (fun c4 => ?_)
          · have h := mm_pos c4 h
            obtain ⟨v4, e4, h⟩ := mm_bnd h
            refine lv_iinc (v := v4) (lv' := [(2, .int v4), (0, .ref (b + 1)), (1, .int i1)]) hx hb dX3_followTaken_52 hl (k := 2) rfl (Option.some.inj e4) (by decide) rfl (fun ls hl => ?_)
            refine lv_goto (tgt := 5) hx hb dX3_followTaken_55 (by decide) ?_
            exact ih i1 v4 x _ _ _ _ h hH (lv_sub hl [1, 2, 0] rfl) kk
          · have h := mm_neg c4 h
            have hl := lv_sub (l' := [(0, .ref (b + 1)), (2, .int i2)]) hl [0, 2] rfl
            refine lv_iload_n hx hb dX3_followTaken_50 rfl (lv_at hl 1 rfl) ?_
            refine lv_istore_n (lv' := [(1, .int i2), (0, .ref (b + 1)), (2, .int i2)]) hx hb dX3_followTaken_51 rfl hl (by decide) rfl (fun ls hl => ?_)
            obtain ⟨v5, e5, h⟩ := mm_bnd h
            refine lv_iinc (v := v5) (lv' := [(2, .int v5), (1, .int i2), (0, .ref (b + 1))]) hx hb dX3_followTaken_52 hl (k := 2) rfl (Option.some.inj e5) (by decide) rfl (fun ls hl => ?_)
            refine lv_goto (tgt := 5) hx hb dX3_followTaken_55 (by decide) ?_
            exact ih i2 v5 x _ _ _ _ h hH (lv_sub hl [2, 1, 0] rfl) kk
set_option maxRecDepth 100000 in
set_option maxHeartbeats 4000000 in
theorem ct_X3_followTaken (l : Launch) (G : va_G) (T : Nat → ClassId) (b : Nat) (z : Nat → Nat)  (x : mm_M) {x1 : mm_M} (h : fn_X3_followTaken  x = some x1) : mm_Cv l yX3_followTaken wsX3_followTaken rm_X3_followTaken G T b z [.ref (b + 1)] x x1 := by
  unfold fn_X3_followTaken at h
  refine mm_start (cc := cX3_followTaken) (maxL := 3) (ret := none) (by decide) rfl (Nat.le_of_ble_eq_true rfl) (fun p e s m below meth c ls C hr hlk hH hl => ?_)
  have hl : lv_has ls 3 [(0, .ref (b + 1))] := hl
  have hx := C.1
  have hb := C.2.1
  have w1 := C.2.2.2.2.1 (.fieldLink RX3 36 "LandingFines$River" "taken" "I") (by decide +kernel)
  have w2 := C.2.2.2.2.1 (.fieldLink RX3 39 "LandingFines$River" "switches" "I") (by decide +kernel)
  have hin3 : ∀ w ∈ wsX30, w ∈ wsX3_followTaken := by decide +kernel
  refine lv_bipush (v := (-6)) hx hb dX3_followTaken_0 (by decide) ?_
  refine lv_istore_n (lv' := [(1, .int (-6)), (0, .ref (b + 1))]) hx hb dX3_followTaken_2 rfl hl (by decide) rfl (fun ls hl => ?_)
  refine lv_iconst (v := 0) hx hb dX3_followTaken_3 (by decide) ?_
  refine lv_istore_n (lv' := [(2, .int 0), (1, .int (-6)), (0, .ref (b + 1))]) hx hb dX3_followTaken_4 rfl hl (by decide) rfl (fun ls hl => ?_)
  obtain ⟨v1, e1, h⟩ := mm_bnd h
  refine lp_X3_followTaken_5 C 9 (-6) 0 x _ _ _ _ e1 hH (lv_sub hl [2, 1, 0] rfl) (fun H locs ls hH hl => ?_)
  refine lv_iload_n hx hb dX3_followTaken_58 rfl (lv_at hl 1 rfl) ?_
  refine lv_aload_n hx hb dX3_followTaken_59 rfl (lv_at hl 0 rfl) ?_
  refine mm_get (v := .int (x 1 4)) C hH hin3 rfl kl_1 (mm_e3 kd_1) (j := 4) (by decide) rfl w1 rfl dX3_followTaken_60 ?_
  refine lv_icmp_eq (tgt := 81) hx hb dX3_followTaken_63 (by decide) (fun c1 => ?_) (fun c1 => ?_)
  · have h := mm_pos c1 h
    have hl := lv_sub (l' := []) hl [] rfl
    exact mm_vret C hH hr hlk h dX3_followTaken_81
  · have h := mm_neg c1 h
    refine lv_aload_n hx hb dX3_followTaken_66 rfl (lv_at hl 0 rfl) ?_
    refine lv_iload_n hx hb dX3_followTaken_67 rfl (lv_at hl 1 rfl) ?_
    obtain ⟨x1, e2, h⟩ := mm_bnd h
    refine mm_put (ty := .int) C hH hin3 tyX3_ok nmX3 rfl kl_1 (mm_e3 kd_1) (j := 4) (by decide) rfl w1 pd_I rfl rfl (Nat.le_of_ble_eq_true rfl) (sp_3_4 kd_1) (Option.some.inj e2) dX3_followTaken_68 (fun H locs hH => ?_)
    refine lv_aload_n hx hb dX3_followTaken_71 rfl (lv_at hl 0 rfl) ?_
    refine lv_dup hx hb dX3_followTaken_72 rfl ?_
    refine mm_get (v := .int (x1 1 5)) C hH hin3 rfl kl_1 (mm_e3 kd_1) (j := 5) (by decide) rfl w2 rfl dX3_followTaken_73 ?_
    refine lv_iconst (v := 1) hx hb dX3_followTaken_76 (by decide) ?_
    refine lv_iadd hx hb dX3_followTaken_77 ?_
    obtain ⟨x2, e3, h⟩ := mm_bnd h
    refine mm_put (ty := .int) C hH hin3 tyX3_ok nmX3 rfl kl_1 (mm_e3 kd_1) (j := 5) (by decide) rfl w2 pd_I rfl rfl (Nat.le_of_ble_eq_true rfl) (sp_3_5 kd_1) (Option.some.inj e3) dX3_followTaken_78 (fun H locs hH => ?_)
    exact mm_vret C hH hr hlk h dX3_followTaken_81
def fn_X3_addLanding (a1 : Int32) (x : mm_M) : Option (mm_M × Int32) :=
  if a1 < 0 then some (x, (-2)) else if a1 ≤ 999 then if (x 1 2) < 8 then if (x 1 2) < 0 ∨ 8 ≤ Int32.toNatClampNeg (x 1 2) then none else (fn_X1_arrive (3 + 5 + Int32.toNatClampNeg (x 1 2)) a1 x).bind fun x1 => (some (mm_up x1 1 2 ((x1 1 2) + 1))).bind fun x2 => (fn_X3_followTaken x2).bind fun x3 => some (x3, ((x3 1 2) - 1)) else some (x, (-4)) else some (x, (-2))
abbrev rm_X3_addLanding : Room := { frames := 2, cells := 0, slots := 0, locals := 42 }
theorem df_X3_addLanding : yX3_addLanding.cls = RX3 ∧ yX3_addLanding.cls ≠ "java/lang/invoke/MethodHandle" ∧ yX3_addLanding.cls ≠ "java/lang/invoke/VarHandle" ∧ (parseMethodDescriptor yX3_addLanding.desc).map (fun d => d.parameters.length) = some 1 := by decide +kernel
set_option maxRecDepth 100000 in
set_option maxHeartbeats 4000000 in
theorem ct_X3_addLanding (l : Launch) (G : va_G) (T : Nat → ClassId) (b : Nat) (z : Nat → Nat) (a1 : Int32) (x : mm_M) {x1 : mm_M} {r : Int32} (h : fn_X3_addLanding a1 x = some (x1, r)) : mm_Ci l yX3_addLanding wsX3_addLanding rm_X3_addLanding G T b z [.ref (b + 1), .int a1] x r x1 := by
  unfold fn_X3_addLanding at h
  refine mm_start (cc := cX3_addLanding) (maxL := 2) (ret := (some .int)) (by decide) rfl (Nat.le_of_ble_eq_true rfl) (fun p e s m below meth c ls C hr hlk hH hl => ?_)
  have hl : lv_has ls 2 [(0, .ref (b + 1)), (1, .int a1)] := hl
  have hx := C.1
  have hb := C.2.1
  have w1 := C.2.2.2.2.1 (.fieldLink RX3 29 "LandingFines$River" "landingCount" "I") (by decide +kernel)
  have w2 := C.2.2.2.2.1 (.fieldLink RX3 25 "LandingFines$River" "landings" "[LLandingFines$Landing;") (by decide +kernel)
  have hin3 : ∀ w ∈ wsX30, w ∈ wsX3_addLanding := by decide +kernel
  refine lv_iload_n hx hb dX3_addLanding_0 rfl (lv_at hl 1 rfl) ?_
  refine lv_if_lt (tgt := 11) hx hb dX3_addLanding_1 (by decide) (fun c1 => ?_) (fun c1 => ?_)
  · have h := mm_pos c1 h
    have hl := lv_sub (l' := []) hl [] rfl
    refine lv_bipush (v := (-2)) hx hb dX3_addLanding_11 (by decide) ?_
    exact mm_iret C hH hr hlk rfl h dX3_addLanding_13
  · have h := mm_neg c1 h
    refine lv_iload_n hx hb dX3_addLanding_4 rfl (lv_at hl 1 rfl) ?_
    refine lv_sipush (v := 999) hx hb dX3_addLanding_5 (by decide) ?_
    refine lv_icmp_le (tgt := 14) hx hb dX3_addLanding_8 (by decide) (fun c2 => ?_) (fun c2 => ?_)
    · have h := mm_pos c2 h
      refine lv_aload_n hx hb dX3_addLanding_14 rfl (lv_at hl 0 rfl) ?_
      refine mm_get (v := .int (x 1 2)) C hH hin3 rfl kl_1 (mm_e3 kd_1) (j := 2) (by decide) rfl w1 rfl dX3_addLanding_15 ?_
      refine lv_bipush (v := 8) hx hb dX3_addLanding_18 (by decide) ?_
      refine lv_icmp_lt (tgt := 26) hx hb dX3_addLanding_20 (by decide) (fun c3 => ?_) (fun c3 => ?_)
      · have h := mm_pos c3 h
        refine lv_aload_n hx hb dX3_addLanding_26 rfl (lv_at hl 0 rfl) ?_
        refine mm_get (v := .ref (b + 3)) C hH hin3 rfl kl_1 (mm_e3 kd_1) (j := 1) (by decide) rfl w2 rfl dX3_addLanding_27 ?_
        refine lv_aload_n hx hb dX3_addLanding_30 rfl (lv_at hl 0 rfl) ?_
        refine mm_get (v := .int (x 1 2)) C hH hin3 rfl kl_1 (mm_e3 kd_1) (j := 2) (by decide) rfl w1 rfl dX3_addLanding_31 ?_
        obtain ⟨g1, h⟩ := mm_grn h
        refine mm_ald9 C hH kd_3 g1 dX3_addLanding_34 ?_
        refine lv_iload_n hx hb dX3_addLanding_35 rfl (lv_at hl 1 rfl) ?_
        obtain ⟨x1, e1, h⟩ := mm_bnd h
        refine mm_gov hH (va_runV (As := [.int a1]) (rest := []) ⟨hx, hb, C.2.2.1, C.2.2.2.1, C.2.2.2.2.1⟩ (ct_X1_arrive l G T b z (3 + 5 + Int32.toNatClampNeg (x 1 2)) a1 x e1) (cwV 1 C.2.2.2.2.1 gX3_addLanding_X1_arrive rfl rfl rfl df_X1_arrive ⟨Nat.le_of_ble_eq_true rfl, Nat.le_of_ble_eq_true rfl⟩) ⟨mm_B.blind, mm_recv (q := (RX1, TX1, 8)) C hH (mm_lt (mm_ldc g1) (by decide)) (mm_e1 (mm_ldc g1)) rfl, mm_pre C hH⟩ rfl rfl hl.1 rfl (lv_room (Nat.le_of_ble_eq_true rfl)) dX3_addLanding_36 ⟨Nat.zero_le _, Nat.zero_le _⟩) (fun H locs hH => ?_)
        refine lv_aload_n hx hb dX3_addLanding_39 rfl (lv_at hl 0 rfl) ?_
        refine lv_dup hx hb dX3_addLanding_40 rfl ?_
        refine mm_get (v := .int (x1 1 2)) C hH hin3 rfl kl_1 (mm_e3 kd_1) (j := 2) (by decide) rfl w1 rfl dX3_addLanding_41 ?_
        refine lv_iconst (v := 1) hx hb dX3_addLanding_44 (by decide) ?_
        refine lv_iadd hx hb dX3_addLanding_45 ?_
        obtain ⟨x2, e2, h⟩ := mm_bnd h
        refine mm_put (ty := .int) C hH hin3 tyX3_ok nmX3 rfl kl_1 (mm_e3 kd_1) (j := 2) (by decide) rfl w1 pd_I rfl rfl (Nat.le_of_ble_eq_true rfl) (sp_3_2 kd_1) (Option.some.inj e2) dX3_addLanding_46 (fun H locs hH => ?_)
        refine lv_aload_n hx hb dX3_addLanding_49 rfl (lv_at hl 0 rfl) ?_
        obtain ⟨x3, e3, h⟩ := mm_bnd h
        refine mm_gov hH (va_runV (As := []) (rest := []) ⟨hx, hb, C.2.2.1, C.2.2.2.1, C.2.2.2.2.1⟩ (ct_X3_followTaken l G T b z x2 e3) (cwV 0 C.2.2.2.2.1 gX3_addLanding_X3_followTaken rfl rfl rfl df_X3_followTaken ⟨Nat.le_of_ble_eq_true rfl, Nat.le_of_ble_eq_true rfl⟩) ⟨mm_B.blind, mm_recv (q := (RX3, TX3, 7)) C hH kl_1 (mm_e3 kd_1) rfl, mm_pre C hH⟩ rfl rfl hl.1 rfl (lv_room (Nat.le_of_ble_eq_true rfl)) dX3_addLanding_50 ⟨Nat.zero_le _, Nat.zero_le _⟩) (fun H locs hH => ?_)
        refine lv_aload_n hx hb dX3_addLanding_53 rfl (lv_at hl 0 rfl) ?_
        refine mm_get (v := .int (x3 1 2)) C hH hin3 rfl kl_1 (mm_e3 kd_1) (j := 2) (by decide) rfl w1 rfl dX3_addLanding_54 ?_
        refine lv_iconst (v := 1) hx hb dX3_addLanding_57 (by decide) ?_
        refine lv_isub hx hb dX3_addLanding_58 ?_
        exact mm_iret C hH hr hlk rfl h dX3_addLanding_59
      · have h := mm_neg c3 h
        have hl := lv_sub (l' := []) hl [] rfl
        refine lv_bipush (v := (-4)) hx hb dX3_addLanding_23 (by decide) ?_
        exact mm_iret C hH hr hlk rfl h dX3_addLanding_25
    · have h := mm_neg c2 h
      have hl := lv_sub (l' := []) hl [] rfl
      refine lv_bipush (v := (-2)) hx hb dX3_addLanding_11 (by decide) ?_
      exact mm_iret C hH hr hlk rfl h dX3_addLanding_13
def fn_X3_fineBySort (k1 : Nat) (a2 : Int32) (x : mm_M) : Option (mm_M × Int32) :=
  if mm_kd k1 = 1 then if a2 < 0 ∨ 7 ≤ Int32.toNatClampNeg a2 then none else mm_b2 (fn_X1_addFine k1 (x 2 (Int32.toNatClampNeg a2)) (x 2 4) x) fun x1 v1 => if vp_nar .boolean v1 = v1 then some (x1, v1) else none else none
abbrev rm_X3_fineBySort : Room := { frames := 2, cells := 0, slots := 0, locals := 43 }
theorem df_X3_fineBySort : yX3_fineBySort.cls = RX3 ∧ yX3_fineBySort.cls ≠ "java/lang/invoke/MethodHandle" ∧ yX3_fineBySort.cls ≠ "java/lang/invoke/VarHandle" ∧ (parseMethodDescriptor yX3_fineBySort.desc).map (fun d => d.parameters.length) = some 2 := by decide +kernel
set_option maxRecDepth 100000 in
set_option maxHeartbeats 4000000 in
theorem ct_X3_fineBySort (l : Launch) (G : va_G) (T : Nat → ClassId) (b : Nat) (z : Nat → Nat) (k1 : Nat) (a2 : Int32) (x : mm_M) {x1 : mm_M} {r : Int32} (h : fn_X3_fineBySort k1 a2 x = some (x1, r)) : mm_Ci l yX3_fineBySort wsX3_fineBySort rm_X3_fineBySort G T b z [.ref (b + 1), .ref (b + k1), .int a2] x r x1 := by
  unfold fn_X3_fineBySort at h
  refine mm_start (cc := cX3_fineBySort) (maxL := 3) (ret := (some .boolean)) (by decide) rfl (Nat.le_of_ble_eq_true rfl) (fun p e s m below meth c ls C hr hlk hH hl => ?_)
  have hl : lv_has ls 3 [(0, .ref (b + 1)), (1, .ref (b + k1)), (2, .int a2)] := hl
  have hx := C.1
  have hb := C.2.1
  have w1 := C.2.2.2.2.1 (.fieldLink RX3 18 "LandingFines$River" "settings" "[I") (by decide +kernel)
  have hin3 : ∀ w ∈ wsX30, w ∈ wsX3_fineBySort := by decide +kernel
  obtain ⟨hk1, h⟩ := mm_grd h
  have hk1l := mm_lt hk1 (by decide)
  refine lv_aload_n hx hb dX3_fineBySort_0 rfl (lv_at hl 1 rfl) ?_
  refine lv_aload_n hx hb dX3_fineBySort_1 rfl (lv_at hl 0 rfl) ?_
  refine mm_get (v := .ref (b + 2)) C hH hin3 rfl kl_1 (mm_e3 kd_1) (j := 0) (by decide) rfl w1 rfl dX3_fineBySort_2 ?_
  refine lv_iload_n hx hb dX3_fineBySort_5 rfl (lv_at hl 2 rfl) ?_
  obtain ⟨g1, h⟩ := mm_grn h
  refine mm_iald (n := 7) (jn := (Int32.toNatClampNeg a2)) C hH kd_2 ln_2 g1 rfl dX3_fineBySort_6 ?_
  refine lv_aload_n hx hb dX3_fineBySort_7 rfl (lv_at hl 0 rfl) ?_
  refine mm_get (v := .ref (b + 2)) C hH hin3 rfl kl_1 (mm_e3 kd_1) (j := 0) (by decide) rfl w1 rfl dX3_fineBySort_8 ?_
  refine lv_iconst (v := 4) hx hb dX3_fineBySort_11 (by decide) ?_
  refine mm_iald (n := 7) (jn := 4) C hH kd_2 ln_2 (by decide) (by decide) dX3_fineBySort_12 ?_
  obtain ⟨x1, v1, e1, h⟩ := mm_bnd2 h
  refine mm_goi hH (va_runV (As := [.int (x 2 (Int32.toNatClampNeg a2)), .int (x 2 4)]) (rest := []) ⟨hx, hb, C.2.2.1, C.2.2.2.1, C.2.2.2.2.1⟩ (ct_X1_addFine l G T b z k1 (x 2 (Int32.toNatClampNeg a2)) (x 2 4) x e1) (cwV 2 C.2.2.2.2.1 gX3_fineBySort_X1_addFine rfl rfl rfl df_X1_addFine ⟨Nat.le_of_ble_eq_true rfl, Nat.le_of_ble_eq_true rfl⟩) ⟨mm_B.blind, mm_recv (q := (RX1, TX1, 8)) C hH hk1l (mm_e1 hk1) rfl, mm_pre C hH⟩ rfl rfl hl.1 rfl (lv_room (Nat.le_of_ble_eq_true rfl)) dX3_fineBySort_13 ⟨Nat.zero_le _, Nat.zero_le _⟩) (fun H locs hH => ?_)
  obtain ⟨g2, h⟩ := mm_grd h
  exact mm_iret C hH hr hlk (mm_narZ g2) h dX3_fineBySort_16
def fn_X3_finishChange (k1 : Nat) (a2 : Int32) (a3 : Int32) (x : mm_M) : Option (mm_M × Int32) :=
  if mm_kd k1 = 1 then (fn_X0_add a3 a2 (x 1 3) x).bind fun x1 => mm_b2 (fn_X3_fineBySort k1 a3 x1) fun x2 v1 => if v1 = 0 then (fn_X3_followTaken x2).bind fun x3 => some (x3, (x3 k1 2)) else (fn_X0_add 3 a2 (x2 1 3) x2).bind fun x4 => (fn_X3_followTaken x4).bind fun x5 => some (x5, (x5 k1 2)) else none
abbrev rm_X3_finishChange : Room := { frames := 3, cells := 0, slots := 0, locals := 65 }
theorem df_X3_finishChange : yX3_finishChange.cls = RX3 ∧ yX3_finishChange.cls ≠ "java/lang/invoke/MethodHandle" ∧ yX3_finishChange.cls ≠ "java/lang/invoke/VarHandle" ∧ (parseMethodDescriptor yX3_finishChange.desc).map (fun d => d.parameters.length) = some 3 := by decide +kernel
set_option maxRecDepth 100000 in
set_option maxHeartbeats 4000000 in
theorem ct_X3_finishChange (l : Launch) (G : va_G) (T : Nat → ClassId) (b : Nat) (z : Nat → Nat) (k1 : Nat) (a2 : Int32) (a3 : Int32) (x : mm_M) {x1 : mm_M} {r : Int32} (h : fn_X3_finishChange k1 a2 a3 x = some (x1, r)) : mm_Ci l yX3_finishChange wsX3_finishChange rm_X3_finishChange G T b z [.ref (b + 1), .ref (b + k1), .int a2, .int a3] x r x1 := by
  unfold fn_X3_finishChange at h
  refine mm_start (cc := cX3_finishChange) (maxL := 4) (ret := (some .int)) (by decide) rfl (Nat.le_of_ble_eq_true rfl) (fun p e s m below meth c ls C hr hlk hH hl => ?_)
  have hl : lv_has ls 4 [(0, .ref (b + 1)), (1, .ref (b + k1)), (2, .int a2), (3, .int a3)] := hl
  have hx := C.1
  have hb := C.2.1
  have w1 := C.2.2.2.2.1 (.fieldLink RX3 45 "LandingFines$River" "journal" "LLandingFines$Journal;") (by decide +kernel)
  have w2 := C.2.2.2.2.1 (.fieldLink RX3 33 "LandingFines$River" "minutesSoFar" "I") (by decide +kernel)
  have w3 := C.2.2.2.2.1 (.fieldLink RX3 99 "LandingFines$Landing" "fine" "I") (by decide +kernel)
  have hin1 : ∀ w ∈ wsX10, w ∈ wsX3_finishChange := by decide +kernel
  have hin3 : ∀ w ∈ wsX30, w ∈ wsX3_finishChange := by decide +kernel
  obtain ⟨hk1, h⟩ := mm_grd h
  have hk1l := mm_lt hk1 (by decide)
  refine lv_aload_n hx hb dX3_finishChange_0 rfl (lv_at hl 0 rfl) ?_
  refine mm_get (v := .ref (b + 4)) C hH hin3 rfl kl_1 (mm_e3 kd_1) (j := 6) (by decide) rfl w1 rfl dX3_finishChange_1 ?_
  refine lv_iload_n hx hb dX3_finishChange_4 rfl (lv_at hl 3 rfl) ?_
  refine lv_iload_n hx hb dX3_finishChange_5 rfl (lv_at hl 2 rfl) ?_
  refine lv_aload_n hx hb dX3_finishChange_6 rfl (lv_at hl 0 rfl) ?_
  refine mm_get (v := .int (x 1 3)) C hH hin3 rfl kl_1 (mm_e3 kd_1) (j := 3) (by decide) rfl w2 rfl dX3_finishChange_7 ?_
  obtain ⟨x1, e1, h⟩ := mm_bnd h
  refine mm_gov hH (va_runV (As := [.int a3, .int a2, .int (x 1 3)]) (rest := []) ⟨hx, hb, C.2.2.1, C.2.2.2.1, C.2.2.2.2.1⟩ (ct_X0_add l G T b z a3 a2 (x 1 3) x e1) (cwV 3 C.2.2.2.2.1 gX3_finishChange_X0_add rfl rfl rfl df_X0_add ⟨Nat.le_of_ble_eq_true rfl, Nat.le_of_ble_eq_true rfl⟩) ⟨mm_B.blind, mm_recv (q := (RX0, TX0, 5)) C hH kl_4 (mm_e0 kd_4) rfl, mm_pre C hH⟩ rfl rfl hl.1 rfl (lv_room (Nat.le_of_ble_eq_true rfl)) dX3_finishChange_10 ⟨Nat.zero_le _, Nat.zero_le _⟩) (fun H locs hH => ?_)
  refine lv_aload_n hx hb dX3_finishChange_13 rfl (lv_at hl 0 rfl) ?_
  refine lv_aload_n hx hb dX3_finishChange_14 rfl (lv_at hl 1 rfl) ?_
  refine lv_iload_n hx hb dX3_finishChange_15 rfl (lv_at hl 3 rfl) ?_
  obtain ⟨x2, v1, e2, h⟩ := mm_bnd2 h
  refine mm_goi hH (va_runV (As := [.ref (b + k1), .int a3]) (rest := []) ⟨hx, hb, C.2.2.1, C.2.2.2.1, C.2.2.2.2.1⟩ (ct_X3_fineBySort l G T b z k1 a3 x1 e2) (cwV 2 C.2.2.2.2.1 gX3_finishChange_X3_fineBySort rfl rfl rfl df_X3_fineBySort ⟨Nat.le_of_ble_eq_true rfl, Nat.le_of_ble_eq_true rfl⟩) ⟨mm_B.blind, mm_recv (q := (RX3, TX3, 7)) C hH kl_1 (mm_e3 kd_1) rfl, mm_pre C hH⟩ rfl rfl hl.1 rfl (lv_room (Nat.le_of_ble_eq_true rfl)) dX3_finishChange_16 ⟨Nat.zero_le _, Nat.zero_le _⟩) (fun H locs hH => ?_)
  refine lv_if_eq (tgt := 35) hx hb dX3_finishChange_19 (by decide) (fun c1 => ?_) (fun c1 => ?_)
  · have h := mm_pos c1 h
    have hl := lv_sub (l' := [(0, .ref (b + 1)), (1, .ref (b + k1))]) hl [0, 1] rfl
    refine lv_aload_n hx hb dX3_finishChange_35 rfl (lv_at hl 0 rfl) ?_
    obtain ⟨x3, e3, h⟩ := mm_bnd h
    refine mm_gov hH (va_runV (As := []) (rest := []) ⟨hx, hb, C.2.2.1, C.2.2.2.1, C.2.2.2.2.1⟩ (ct_X3_followTaken l G T b z x2 e3) (cwV 0 C.2.2.2.2.1 gX3_finishChange_X3_followTaken rfl rfl rfl df_X3_followTaken ⟨Nat.le_of_ble_eq_true rfl, Nat.le_of_ble_eq_true rfl⟩) ⟨mm_B.blind, mm_recv (q := (RX3, TX3, 7)) C hH kl_1 (mm_e3 kd_1) rfl, mm_pre C hH⟩ rfl rfl hl.1 rfl (lv_room (Nat.le_of_ble_eq_true rfl)) dX3_finishChange_36 ⟨Nat.zero_le _, Nat.zero_le _⟩) (fun H locs hH => ?_)
    refine lv_aload_n hx hb dX3_finishChange_39 rfl (lv_at hl 1 rfl) ?_
    refine mm_get (v := .int (x3 k1 2)) C hH hin1 rfl hk1l (mm_e1 hk1) (j := 2) (by decide) rfl w3 rfl dX3_finishChange_40 ?_
    exact mm_iret C hH hr hlk rfl h dX3_finishChange_43
  · have h := mm_neg c1 h
    have hl := lv_sub (l' := [(0, .ref (b + 1)), (1, .ref (b + k1)), (2, .int a2)]) hl [0, 1, 2] rfl
    refine lv_aload_n hx hb dX3_finishChange_22 rfl (lv_at hl 0 rfl) ?_
    refine mm_get (v := .ref (b + 4)) C hH hin3 rfl kl_1 (mm_e3 kd_1) (j := 6) (by decide) rfl w1 rfl dX3_finishChange_23 ?_
    refine lv_iconst (v := 3) hx hb dX3_finishChange_26 (by decide) ?_
    refine lv_iload_n hx hb dX3_finishChange_27 rfl (lv_at hl 2 rfl) ?_
    refine lv_aload_n hx hb dX3_finishChange_28 rfl (lv_at hl 0 rfl) ?_
    refine mm_get (v := .int (x2 1 3)) C hH hin3 rfl kl_1 (mm_e3 kd_1) (j := 3) (by decide) rfl w2 rfl dX3_finishChange_29 ?_
    obtain ⟨x4, e4, h⟩ := mm_bnd h
    refine mm_gov hH (va_runV (As := [.int 3, .int a2, .int (x2 1 3)]) (rest := []) ⟨hx, hb, C.2.2.1, C.2.2.2.1, C.2.2.2.2.1⟩ (ct_X0_add l G T b z 3 a2 (x2 1 3) x2 e4) (cwV 3 C.2.2.2.2.1 gX3_finishChange_X0_add rfl rfl rfl df_X0_add ⟨Nat.le_of_ble_eq_true rfl, Nat.le_of_ble_eq_true rfl⟩) ⟨mm_B.blind, mm_recv (q := (RX0, TX0, 5)) C hH kl_4 (mm_e0 kd_4) rfl, mm_pre C hH⟩ rfl rfl hl.1 rfl (lv_room (Nat.le_of_ble_eq_true rfl)) dX3_finishChange_32 ⟨Nat.zero_le _, Nat.zero_le _⟩) (fun H locs hH => ?_)
    refine lv_aload_n hx hb dX3_finishChange_35 rfl (lv_at hl 0 rfl) ?_
    obtain ⟨x5, e5, h⟩ := mm_bnd h
    refine mm_gov hH (va_runV (As := []) (rest := []) ⟨hx, hb, C.2.2.1, C.2.2.2.1, C.2.2.2.2.1⟩ (ct_X3_followTaken l G T b z x4 e5) (cwV 0 C.2.2.2.2.1 gX3_finishChange_X3_followTaken rfl rfl rfl df_X3_followTaken ⟨Nat.le_of_ble_eq_true rfl, Nat.le_of_ble_eq_true rfl⟩) ⟨mm_B.blind, mm_recv (q := (RX3, TX3, 7)) C hH kl_1 (mm_e3 kd_1) rfl, mm_pre C hH⟩ rfl rfl hl.1 rfl (lv_room (Nat.le_of_ble_eq_true rfl)) dX3_finishChange_36 ⟨Nat.zero_le _, Nat.zero_le _⟩) (fun H locs hH => ?_)
    refine lv_aload_n hx hb dX3_finishChange_39 rfl (lv_at hl 1 rfl) ?_
    refine mm_get (v := .int (x5 k1 2)) C hH hin1 rfl hk1l (mm_e1 hk1) (j := 2) (by decide) rfl w3 rfl dX3_finishChange_40 ?_
    exact mm_iret C hH hr hlk rfl h dX3_finishChange_43
def fn_X3_openLanding (a1 : Int32) (x : mm_M) : Option (mm_M × Int32) :=
  (fn_X3_find a1 x).bind fun o1 => mm_oc o1 (some (x, (-1))) fun k1 => if mm_kd k1 = 1 then if (x k1 0) = 0 then (some (mm_up x k1 0 1)).bind fun x1 => mm_b2 (fn_X3_finishChange k1 a1 1 x1) fun x2 v1 => some (x2, v1) else some (x, (-5)) else none
abbrev rm_X3_openLanding : Room := { frames := 4, cells := 0, slots := 0, locals := 88 }
theorem df_X3_openLanding : yX3_openLanding.cls = RX3 ∧ yX3_openLanding.cls ≠ "java/lang/invoke/MethodHandle" ∧ yX3_openLanding.cls ≠ "java/lang/invoke/VarHandle" ∧ (parseMethodDescriptor yX3_openLanding.desc).map (fun d => d.parameters.length) = some 1 := by decide +kernel
set_option maxRecDepth 100000 in
set_option maxHeartbeats 4000000 in
theorem ct_X3_openLanding (l : Launch) (G : va_G) (T : Nat → ClassId) (b : Nat) (z : Nat → Nat) (a1 : Int32) (x : mm_M) {x1 : mm_M} {r : Int32} (h : fn_X3_openLanding a1 x = some (x1, r)) : mm_Ci l yX3_openLanding wsX3_openLanding rm_X3_openLanding G T b z [.ref (b + 1), .int a1] x r x1 := by
  unfold fn_X3_openLanding at h
  refine mm_start (cc := cX3_openLanding) (maxL := 3) (ret := (some .int)) (by decide) rfl (Nat.le_of_ble_eq_true rfl) (fun p e s m below meth c ls C hr hlk hH hl => ?_)
  have hl : lv_has ls 3 [(0, .ref (b + 1)), (1, .int a1)] := hl
  have hx := C.1
  have hb := C.2.1
  have w1 := C.2.2.2.2.1 (.fieldLink RX3 80 "LandingFines$Landing" "isOpen" "Z") (by decide +kernel)
  have hin1 : ∀ w ∈ wsX10, w ∈ wsX3_openLanding := by decide +kernel
  refine lv_aload_n hx hb dX3_openLanding_0 rfl (lv_at hl 0 rfl) ?_
  refine lv_iload_n hx hb dX3_openLanding_1 rfl (lv_at hl 1 rfl) ?_
  obtain ⟨o1, e1, h⟩ := mm_bnd h
  refine mm_goe hH (va_runV (As := [.int a1]) (rest := []) ⟨hx, hb, C.2.2.1, C.2.2.2.1, C.2.2.2.2.1⟩ (ct_X3_find l G T b z a1 x e1) (cwV 1 C.2.2.2.2.1 gX3_openLanding_X3_find rfl rfl rfl df_X3_find ⟨Nat.le_of_ble_eq_true rfl, Nat.le_of_ble_eq_true rfl⟩) ⟨mm_B.blind, mm_recv (q := (RX3, TX3, 7)) C hH kl_1 (mm_e3 kd_1) rfl, mm_pre C hH⟩ rfl rfl hl.1 rfl (lv_room (Nat.le_of_ble_eq_true rfl)) dX3_openLanding_2 ⟨Nat.zero_le _, Nat.zero_le _⟩) (fun H locs hH => ?_)
  rcases o1 with _ | k1
  · have h := mm_oc0 h
    refine mm_nul ?_
    refine lv_astore_nN (lv' := [(2, .null), (0, .ref (b + 1)), (1, .int a1)]) hx hb dX3_openLanding_5 rfl hl (by decide) rfl (fun ls hl => ?_)
    refine lv_aload_nN hx hb dX3_openLanding_6 rfl (lv_at hl 0 rfl) ?_
    refine lv_ifnonnullN hx hb dX3_openLanding_7 ?_
    have hl := lv_sub (l' := []) hl [] rfl
    refine lv_iconst (v := (-1)) hx hb dX3_openLanding_10 (by decide) ?_
    exact mm_iret C hH hr hlk rfl h dX3_openLanding_11
  · have h := mm_oc1 h
    obtain ⟨g1, h⟩ := mm_grd h
    refine mm_nun ?_
    refine lv_astore_n (lv' := [(2, .ref (b + k1)), (0, .ref (b + 1)), (1, .int a1)]) hx hb dX3_openLanding_5 rfl hl (by decide) rfl (fun ls hl => ?_)
    refine lv_aload_n hx hb dX3_openLanding_6 rfl (lv_at hl 0 rfl) ?_
    refine lv_ifnonnull (tgt := 12) hx hb dX3_openLanding_7 (by decide) ?_
    refine lv_aload_n hx hb dX3_openLanding_12 rfl (lv_at hl 0 rfl) ?_
    refine mm_get (v := .int (x k1 0)) C hH hin1 rfl (mm_lt g1 (by decide)) (mm_e1 g1) (j := 0) (by decide) rfl w1 rfl dX3_openLanding_13 ?_
    refine lv_if_eq (tgt := 22) hx hb dX3_openLanding_16 (by decide) (fun c1 => ?_) (fun c1 => ?_)
    · have h := mm_pos c1 h
      refine lv_aload_n hx hb dX3_openLanding_22 rfl (lv_at hl 0 rfl) ?_
      refine lv_iconst (v := 1) hx hb dX3_openLanding_23 (by decide) ?_
      obtain ⟨x1, e2, h⟩ := mm_bnd h
      refine mm_put (ty := .boolean) C hH hin1 tyX1_ok nmX1 rfl (mm_lt g1 (by decide)) (mm_e1 g1) (j := 0) (by decide) rfl w1 pd_Z rfl rfl (Nat.le_of_ble_eq_true rfl) (sp_1_0 g1) (Option.some.inj e2) dX3_openLanding_24 (fun H locs hH => ?_)
      refine lv_aload_n hx hb dX3_openLanding_27 rfl (lv_at hl 1 rfl) ?_
      refine lv_aload_n hx hb dX3_openLanding_28 rfl (lv_at hl 0 rfl) ?_
      refine lv_iload_n hx hb dX3_openLanding_29 rfl (lv_at hl 2 rfl) ?_
      refine lv_iconst (v := 1) hx hb dX3_openLanding_30 (by decide) ?_
      obtain ⟨x2, v1, e3, h⟩ := mm_bnd2 h
      refine mm_goi hH (va_runV (As := [.ref (b + k1), .int a1, .int 1]) (rest := []) ⟨hx, hb, C.2.2.1, C.2.2.2.1, C.2.2.2.2.1⟩ (ct_X3_finishChange l G T b z k1 a1 1 x1 e3) (cwV 3 C.2.2.2.2.1 gX3_openLanding_X3_finishChange rfl rfl rfl df_X3_finishChange ⟨Nat.le_of_ble_eq_true rfl, Nat.le_of_ble_eq_true rfl⟩) ⟨mm_B.blind, mm_recv (q := (RX3, TX3, 7)) C hH kl_1 (mm_e3 kd_1) rfl, mm_pre C hH⟩ rfl rfl hl.1 rfl (lv_room (Nat.le_of_ble_eq_true rfl)) dX3_openLanding_31 ⟨Nat.zero_le _, Nat.zero_le _⟩) (fun H locs hH => ?_)
      exact mm_iret C hH hr hlk rfl h dX3_openLanding_34
    · have h := mm_neg c1 h
      have hl := lv_sub (l' := []) hl [] rfl
      refine lv_bipush (v := (-5)) hx hb dX3_openLanding_19 (by decide) ?_
      exact mm_iret C hH hr hlk rfl h dX3_openLanding_21
def fn_X3_closeLanding (a1 : Int32) (x : mm_M) : Option (mm_M × Int32) :=
  (fn_X3_find a1 x).bind fun o1 => mm_oc o1 (some (x, (-1))) fun k1 => if mm_kd k1 = 1 then if (x k1 0) = 0 then some (x, (-5)) else (some (mm_up x k1 0 0)).bind fun x1 => mm_b2 (fn_X3_finishChange k1 a1 0 x1) fun x2 v1 => some (x2, v1) else none
abbrev rm_X3_closeLanding : Room := { frames := 4, cells := 0, slots := 0, locals := 88 }
theorem df_X3_closeLanding : yX3_closeLanding.cls = RX3 ∧ yX3_closeLanding.cls ≠ "java/lang/invoke/MethodHandle" ∧ yX3_closeLanding.cls ≠ "java/lang/invoke/VarHandle" ∧ (parseMethodDescriptor yX3_closeLanding.desc).map (fun d => d.parameters.length) = some 1 := by decide +kernel
set_option maxRecDepth 100000 in
set_option maxHeartbeats 4000000 in
theorem ct_X3_closeLanding (l : Launch) (G : va_G) (T : Nat → ClassId) (b : Nat) (z : Nat → Nat) (a1 : Int32) (x : mm_M) {x1 : mm_M} {r : Int32} (h : fn_X3_closeLanding a1 x = some (x1, r)) : mm_Ci l yX3_closeLanding wsX3_closeLanding rm_X3_closeLanding G T b z [.ref (b + 1), .int a1] x r x1 := by
  unfold fn_X3_closeLanding at h
  refine mm_start (cc := cX3_closeLanding) (maxL := 3) (ret := (some .int)) (by decide) rfl (Nat.le_of_ble_eq_true rfl) (fun p e s m below meth c ls C hr hlk hH hl => ?_)
  have hl : lv_has ls 3 [(0, .ref (b + 1)), (1, .int a1)] := hl
  have hx := C.1
  have hb := C.2.1
  have w1 := C.2.2.2.2.1 (.fieldLink RX3 80 "LandingFines$Landing" "isOpen" "Z") (by decide +kernel)
  have hin1 : ∀ w ∈ wsX10, w ∈ wsX3_closeLanding := by decide +kernel
  refine lv_aload_n hx hb dX3_closeLanding_0 rfl (lv_at hl 0 rfl) ?_
  refine lv_iload_n hx hb dX3_closeLanding_1 rfl (lv_at hl 1 rfl) ?_
  obtain ⟨o1, e1, h⟩ := mm_bnd h
  refine mm_goe hH (va_runV (As := [.int a1]) (rest := []) ⟨hx, hb, C.2.2.1, C.2.2.2.1, C.2.2.2.2.1⟩ (ct_X3_find l G T b z a1 x e1) (cwV 1 C.2.2.2.2.1 gX3_closeLanding_X3_find rfl rfl rfl df_X3_find ⟨Nat.le_of_ble_eq_true rfl, Nat.le_of_ble_eq_true rfl⟩) ⟨mm_B.blind, mm_recv (q := (RX3, TX3, 7)) C hH kl_1 (mm_e3 kd_1) rfl, mm_pre C hH⟩ rfl rfl hl.1 rfl (lv_room (Nat.le_of_ble_eq_true rfl)) dX3_closeLanding_2 ⟨Nat.zero_le _, Nat.zero_le _⟩) (fun H locs hH => ?_)
  rcases o1 with _ | k1
  · have h := mm_oc0 h
    refine mm_nul ?_
    refine lv_astore_nN (lv' := [(2, .null), (0, .ref (b + 1)), (1, .int a1)]) hx hb dX3_closeLanding_5 rfl hl (by decide) rfl (fun ls hl => ?_)
    refine lv_aload_nN hx hb dX3_closeLanding_6 rfl (lv_at hl 0 rfl) ?_
    refine lv_ifnonnullN hx hb dX3_closeLanding_7 ?_
    have hl := lv_sub (l' := []) hl [] rfl
    refine lv_iconst (v := (-1)) hx hb dX3_closeLanding_10 (by decide) ?_
    exact mm_iret C hH hr hlk rfl h dX3_closeLanding_11
  · have h := mm_oc1 h
    obtain ⟨g1, h⟩ := mm_grd h
    refine mm_nun ?_
    refine lv_astore_n (lv' := [(2, .ref (b + k1)), (0, .ref (b + 1)), (1, .int a1)]) hx hb dX3_closeLanding_5 rfl hl (by decide) rfl (fun ls hl => ?_)
    refine lv_aload_n hx hb dX3_closeLanding_6 rfl (lv_at hl 0 rfl) ?_
    refine lv_ifnonnull (tgt := 12) hx hb dX3_closeLanding_7 (by decide) ?_
    refine lv_aload_n hx hb dX3_closeLanding_12 rfl (lv_at hl 0 rfl) ?_
    refine mm_get (v := .int (x k1 0)) C hH hin1 rfl (mm_lt g1 (by decide)) (mm_e1 g1) (j := 0) (by decide) rfl w1 rfl dX3_closeLanding_13 ?_
    refine lv_if_ne (tgt := 22) hx hb dX3_closeLanding_16 (by decide) (fun c1 => ?_) (fun c1 => ?_)
    · have h := mm_neg c1 h
      refine lv_aload_n hx hb dX3_closeLanding_22 rfl (lv_at hl 0 rfl) ?_
      refine lv_iconst (v := 0) hx hb dX3_closeLanding_23 (by decide) ?_
      obtain ⟨x1, e2, h⟩ := mm_bnd h
      refine mm_put (ty := .boolean) C hH hin1 tyX1_ok nmX1 rfl (mm_lt g1 (by decide)) (mm_e1 g1) (j := 0) (by decide) rfl w1 pd_Z rfl rfl (Nat.le_of_ble_eq_true rfl) (sp_1_0 g1) (Option.some.inj e2) dX3_closeLanding_24 (fun H locs hH => ?_)
      refine lv_aload_n hx hb dX3_closeLanding_27 rfl (lv_at hl 1 rfl) ?_
      refine lv_aload_n hx hb dX3_closeLanding_28 rfl (lv_at hl 0 rfl) ?_
      refine lv_iload_n hx hb dX3_closeLanding_29 rfl (lv_at hl 2 rfl) ?_
      refine lv_iconst (v := 0) hx hb dX3_closeLanding_30 (by decide) ?_
      obtain ⟨x2, v1, e3, h⟩ := mm_bnd2 h
      refine mm_goi hH (va_runV (As := [.ref (b + k1), .int a1, .int 0]) (rest := []) ⟨hx, hb, C.2.2.1, C.2.2.2.1, C.2.2.2.2.1⟩ (ct_X3_finishChange l G T b z k1 a1 0 x1 e3) (cwV 3 C.2.2.2.2.1 gX3_closeLanding_X3_finishChange rfl rfl rfl df_X3_finishChange ⟨Nat.le_of_ble_eq_true rfl, Nat.le_of_ble_eq_true rfl⟩) ⟨mm_B.blind, mm_recv (q := (RX3, TX3, 7)) C hH kl_1 (mm_e3 kd_1) rfl, mm_pre C hH⟩ rfl rfl hl.1 rfl (lv_room (Nat.le_of_ble_eq_true rfl)) dX3_closeLanding_31 ⟨Nat.zero_le _, Nat.zero_le _⟩) (fun H locs hH => ?_)
      exact mm_iret C hH hr hlk rfl h dX3_closeLanding_34
    · have h := mm_pos c1 h
      have hl := lv_sub (l' := []) hl [] rfl
      refine lv_bipush (v := (-5)) hx hb dX3_closeLanding_19 (by decide) ?_
      exact mm_iret C hH hr hlk rfl h dX3_closeLanding_21
def fn_X3_changePrice (a1 : Int32) (a2 : Int32) (x : mm_M) : Option (mm_M × Int32) :=
  (fn_X3_find a1 x).bind fun o1 => mm_oc o1 (some (x, (-1))) fun k1 => if mm_kd k1 = 1 then if a2 < 0 then some (x, (-2)) else if a2 ≤ 999 then if (x k1 1) = a2 then some (x, (-5)) else (some (mm_up x k1 1 a2)).bind fun x1 => mm_b2 (fn_X3_finishChange k1 a1 2 x1) fun x2 v1 => some (x2, v1) else some (x, (-2)) else none
abbrev rm_X3_changePrice : Room := { frames := 4, cells := 0, slots := 0, locals := 88 }
theorem df_X3_changePrice : yX3_changePrice.cls = RX3 ∧ yX3_changePrice.cls ≠ "java/lang/invoke/MethodHandle" ∧ yX3_changePrice.cls ≠ "java/lang/invoke/VarHandle" ∧ (parseMethodDescriptor yX3_changePrice.desc).map (fun d => d.parameters.length) = some 2 := by decide +kernel
set_option maxRecDepth 100000 in
set_option maxHeartbeats 4000000 in
theorem ct_X3_changePrice (l : Launch) (G : va_G) (T : Nat → ClassId) (b : Nat) (z : Nat → Nat) (a1 : Int32) (a2 : Int32) (x : mm_M) {x1 : mm_M} {r : Int32} (h : fn_X3_changePrice a1 a2 x = some (x1, r)) : mm_Ci l yX3_changePrice wsX3_changePrice rm_X3_changePrice G T b z [.ref (b + 1), .int a1, .int a2] x r x1 := by
  unfold fn_X3_changePrice at h
  refine mm_start (cc := cX3_changePrice) (maxL := 4) (ret := (some .int)) (by decide) rfl (Nat.le_of_ble_eq_true rfl) (fun p e s m below meth c ls C hr hlk hH hl => ?_)
  have hl : lv_has ls 4 [(0, .ref (b + 1)), (1, .int a1), (2, .int a2)] := hl
  have hx := C.1
  have hb := C.2.1
  have w1 := C.2.2.2.2.1 (.fieldLink RX3 88 "LandingFines$Landing" "fare" "I") (by decide +kernel)
  have hin1 : ∀ w ∈ wsX10, w ∈ wsX3_changePrice := by decide +kernel
  refine lv_aload_n hx hb dX3_changePrice_0 rfl (lv_at hl 0 rfl) ?_
  refine lv_iload_n hx hb dX3_changePrice_1 rfl (lv_at hl 1 rfl) ?_
  obtain ⟨o1, e1, h⟩ := mm_bnd h
  refine mm_goe hH (va_runV (As := [.int a1]) (rest := []) ⟨hx, hb, C.2.2.1, C.2.2.2.1, C.2.2.2.2.1⟩ (ct_X3_find l G T b z a1 x e1) (cwV 1 C.2.2.2.2.1 gX3_changePrice_X3_find rfl rfl rfl df_X3_find ⟨Nat.le_of_ble_eq_true rfl, Nat.le_of_ble_eq_true rfl⟩) ⟨mm_B.blind, mm_recv (q := (RX3, TX3, 7)) C hH kl_1 (mm_e3 kd_1) rfl, mm_pre C hH⟩ rfl rfl hl.1 rfl (lv_room (Nat.le_of_ble_eq_true rfl)) dX3_changePrice_2 ⟨Nat.zero_le _, Nat.zero_le _⟩) (fun H locs hH => ?_)
  rcases o1 with _ | k1
  · have h := mm_oc0 h
    refine mm_nul ?_
    refine lv_astore_nN (lv' := [(3, .null), (0, .ref (b + 1)), (1, .int a1), (2, .int a2)]) hx hb dX3_changePrice_5 rfl hl (by decide) rfl (fun ls hl => ?_)
    refine lv_aload_nN hx hb dX3_changePrice_6 rfl (lv_at hl 0 rfl) ?_
    refine lv_ifnonnullN hx hb dX3_changePrice_7 ?_
    have hl := lv_sub (l' := []) hl [] rfl
    refine lv_iconst (v := (-1)) hx hb dX3_changePrice_10 (by decide) ?_
    exact mm_iret C hH hr hlk rfl h dX3_changePrice_11
  · have h := mm_oc1 h
    obtain ⟨g1, h⟩ := mm_grd h
    refine mm_nun ?_
    refine lv_astore_n (lv' := [(3, .ref (b + k1)), (0, .ref (b + 1)), (1, .int a1), (2, .int a2)]) hx hb dX3_changePrice_5 rfl hl (by decide) rfl (fun ls hl => ?_)
    refine lv_aload_n hx hb dX3_changePrice_6 rfl (lv_at hl 0 rfl) ?_
    refine lv_ifnonnull (tgt := 12) hx hb dX3_changePrice_7 (by decide) ?_
    refine lv_iload_n hx hb dX3_changePrice_12 rfl (lv_at hl 3 rfl) ?_
    refine lv_if_lt (tgt := 23) hx hb dX3_changePrice_13 (by decide) (fun c1 => ?_) (fun c1 => ?_)
    · have h := mm_pos c1 h
      have hl := lv_sub (l' := []) hl [] rfl
      refine lv_bipush (v := (-2)) hx hb dX3_changePrice_23 (by decide) ?_
      exact mm_iret C hH hr hlk rfl h dX3_changePrice_25
    · have h := mm_neg c1 h
      refine lv_iload_n hx hb dX3_changePrice_16 rfl (lv_at hl 3 rfl) ?_
      refine lv_sipush (v := 999) hx hb dX3_changePrice_17 (by decide) ?_
      refine lv_icmp_le (tgt := 26) hx hb dX3_changePrice_20 (by decide) (fun c2 => ?_) (fun c2 => ?_)
      · have h := mm_pos c2 h
        refine lv_aload_n hx hb dX3_changePrice_26 rfl (lv_at hl 0 rfl) ?_
        refine mm_get (v := .int (x k1 1)) C hH hin1 rfl (mm_lt g1 (by decide)) (mm_e1 g1) (j := 1) (by decide) rfl w1 rfl dX3_changePrice_27 ?_
        refine lv_iload_n hx hb dX3_changePrice_30 rfl (lv_at hl 3 rfl) ?_
        refine lv_icmp_ne (tgt := 37) hx hb dX3_changePrice_31 (by decide) (fun c3 => ?_) (fun c3 => ?_)
        · have h := mm_neg c3 h
          refine lv_aload_n hx hb dX3_changePrice_37 rfl (lv_at hl 0 rfl) ?_
          refine lv_iload_n hx hb dX3_changePrice_38 rfl (lv_at hl 3 rfl) ?_
          obtain ⟨x1, e2, h⟩ := mm_bnd h
          refine mm_put (ty := .int) C hH hin1 tyX1_ok nmX1 rfl (mm_lt g1 (by decide)) (mm_e1 g1) (j := 1) (by decide) rfl w1 pd_I rfl rfl (Nat.le_of_ble_eq_true rfl) (sp_1_1 g1) (Option.some.inj e2) dX3_changePrice_39 (fun H locs hH => ?_)
          refine lv_aload_n hx hb dX3_changePrice_42 rfl (lv_at hl 1 rfl) ?_
          refine lv_aload_n hx hb dX3_changePrice_43 rfl (lv_at hl 0 rfl) ?_
          refine lv_iload_n hx hb dX3_changePrice_44 rfl (lv_at hl 2 rfl) ?_
          refine lv_iconst (v := 2) hx hb dX3_changePrice_45 (by decide) ?_
          obtain ⟨x2, v1, e3, h⟩ := mm_bnd2 h
          refine mm_goi hH (va_runV (As := [.ref (b + k1), .int a1, .int 2]) (rest := []) ⟨hx, hb, C.2.2.1, C.2.2.2.1, C.2.2.2.2.1⟩ (ct_X3_finishChange l G T b z k1 a1 2 x1 e3) (cwV 3 C.2.2.2.2.1 gX3_changePrice_X3_finishChange rfl rfl rfl df_X3_finishChange ⟨Nat.le_of_ble_eq_true rfl, Nat.le_of_ble_eq_true rfl⟩) ⟨mm_B.blind, mm_recv (q := (RX3, TX3, 7)) C hH kl_1 (mm_e3 kd_1) rfl, mm_pre C hH⟩ rfl rfl hl.1 rfl (lv_room (Nat.le_of_ble_eq_true rfl)) dX3_changePrice_46 ⟨Nat.zero_le _, Nat.zero_le _⟩) (fun H locs hH => ?_)
          exact mm_iret C hH hr hlk rfl h dX3_changePrice_49
        · have h := mm_pos c3 h
          have hl := lv_sub (l' := []) hl [] rfl
          refine lv_bipush (v := (-5)) hx hb dX3_changePrice_34 (by decide) ?_
          exact mm_iret C hH hr hlk rfl h dX3_changePrice_36
      · have h := mm_neg c2 h
        have hl := lv_sub (l' := []) hl [] rfl
        refine lv_bipush (v := (-2)) hx hb dX3_changePrice_23 (by decide) ?_
        exact mm_iret C hH hr hlk rfl h dX3_changePrice_25
def fn_X3_passMinuteOf (k1 : Nat) (x : mm_M) : Option (mm_M × Int32) :=
  if mm_kd k1 = 1 then mm_b2 (fn_X1_passMinute k1 (x 2 3) (x 2 5) (x 2 6) x) fun x1 v1 => if vp_nar .boolean v1 = v1 then some (x1, v1) else none else none
abbrev rm_X3_passMinuteOf : Room := { frames := 2, cells := 0, slots := 0, locals := 44 }
theorem df_X3_passMinuteOf : yX3_passMinuteOf.cls = RX3 ∧ yX3_passMinuteOf.cls ≠ "java/lang/invoke/MethodHandle" ∧ yX3_passMinuteOf.cls ≠ "java/lang/invoke/VarHandle" ∧ (parseMethodDescriptor yX3_passMinuteOf.desc).map (fun d => d.parameters.length) = some 1 := by decide +kernel
set_option maxRecDepth 100000 in
set_option maxHeartbeats 4000000 in
theorem ct_X3_passMinuteOf (l : Launch) (G : va_G) (T : Nat → ClassId) (b : Nat) (z : Nat → Nat) (k1 : Nat) (x : mm_M) {x1 : mm_M} {r : Int32} (h : fn_X3_passMinuteOf k1 x = some (x1, r)) : mm_Ci l yX3_passMinuteOf wsX3_passMinuteOf rm_X3_passMinuteOf G T b z [.ref (b + 1), .ref (b + k1)] x r x1 := by
  unfold fn_X3_passMinuteOf at h
  refine mm_start (cc := cX3_passMinuteOf) (maxL := 2) (ret := (some .boolean)) (by decide) rfl (Nat.le_of_ble_eq_true rfl) (fun p e s m below meth c ls C hr hlk hH hl => ?_)
  have hl : lv_has ls 2 [(0, .ref (b + 1)), (1, .ref (b + k1))] := hl
  have hx := C.1
  have hb := C.2.1
  have w1 := C.2.2.2.2.1 (.fieldLink RX3 18 "LandingFines$River" "settings" "[I") (by decide +kernel)
  have hin3 : ∀ w ∈ wsX30, w ∈ wsX3_passMinuteOf := by decide +kernel
  obtain ⟨hk1, h⟩ := mm_grd h
  have hk1l := mm_lt hk1 (by decide)
  refine lv_aload_n hx hb dX3_passMinuteOf_0 rfl (lv_at hl 1 rfl) ?_
  refine lv_aload_n hx hb dX3_passMinuteOf_1 rfl (lv_at hl 0 rfl) ?_
  refine mm_get (v := .ref (b + 2)) C hH hin3 rfl kl_1 (mm_e3 kd_1) (j := 0) (by decide) rfl w1 rfl dX3_passMinuteOf_2 ?_
  refine lv_iconst (v := 3) hx hb dX3_passMinuteOf_5 (by decide) ?_
  refine mm_iald (n := 7) (jn := 3) C hH kd_2 ln_2 (by decide) (by decide) dX3_passMinuteOf_6 ?_
  refine lv_aload_n hx hb dX3_passMinuteOf_7 rfl (lv_at hl 0 rfl) ?_
  refine mm_get (v := .ref (b + 2)) C hH hin3 rfl kl_1 (mm_e3 kd_1) (j := 0) (by decide) rfl w1 rfl dX3_passMinuteOf_8 ?_
  refine lv_iconst (v := 5) hx hb dX3_passMinuteOf_11 (by decide) ?_
  refine mm_iald (n := 7) (jn := 5) C hH kd_2 ln_2 (by decide) (by decide) dX3_passMinuteOf_12 ?_
  refine lv_aload_n hx hb dX3_passMinuteOf_13 rfl (lv_at hl 0 rfl) ?_
  refine mm_get (v := .ref (b + 2)) C hH hin3 rfl kl_1 (mm_e3 kd_1) (j := 0) (by decide) rfl w1 rfl dX3_passMinuteOf_14 ?_
  refine lv_bipush (v := 6) hx hb dX3_passMinuteOf_17 (by decide) ?_
  refine mm_iald (n := 7) (jn := 6) C hH kd_2 ln_2 (by decide) (by decide) dX3_passMinuteOf_19 ?_
  obtain ⟨x1, v1, e1, h⟩ := mm_bnd2 h
  refine mm_goi hH (va_runV (As := [.int (x 2 3), .int (x 2 5), .int (x 2 6)]) (rest := []) ⟨hx, hb, C.2.2.1, C.2.2.2.1, C.2.2.2.2.1⟩ (ct_X1_passMinute l G T b z k1 (x 2 3) (x 2 5) (x 2 6) x e1) (cwV 3 C.2.2.2.2.1 gX3_passMinuteOf_X1_passMinute rfl rfl rfl df_X1_passMinute ⟨Nat.le_of_ble_eq_true rfl, Nat.le_of_ble_eq_true rfl⟩) ⟨mm_B.blind, mm_recv (q := (RX1, TX1, 8)) C hH hk1l (mm_e1 hk1) rfl, mm_pre C hH⟩ rfl rfl hl.1 rfl (lv_room (Nat.le_of_ble_eq_true rfl)) dX3_passMinuteOf_20 ⟨Nat.zero_le _, Nat.zero_le _⟩) (fun H locs hH => ?_)
  obtain ⟨g1, h⟩ := mm_grd h
  exact mm_iret C hH hr hlk (mm_narZ g1) h dX3_passMinuteOf_23
def fn_X3_passOneMinute_14 : Nat → Int32 → Int32 → mm_M → Option (mm_M × Int32)
  | 0, _, _, _ => none
  | n + 1, i1, i2, x => if (x 1 2) ≤ i2 then some (x, i1) else if i2 < 0 ∨ 8 ≤ Int32.toNatClampNeg i2 then none else mm_b2 (fn_X3_passMinuteOf (3 + 5 + Int32.toNatClampNeg i2) x) fun x1 v1 => if v1 = 0 then (some (i2 + 1)).bind fun v2 => fn_X3_passOneMinute_14 n  i1 v2 x1 else (fn_X0_add 4 i2 (x1 1 3) x1).bind fun x2 => (some (i1 + 1)).bind fun v3 => (some (i2 + 1)).bind fun v4 => fn_X3_passOneMinute_14 n  v3 v4 x2
def fn_X3_passOneMinute  (x : mm_M) : Option (mm_M × Int32) :=
  (some (mm_up x 1 3 ((x 1 3) + 1))).bind fun x1 => mm_b2 (fn_X3_passOneMinute_14 9 0 0 x1) fun x2 v1 => if v1 ≤ 0 then some (x2, v1) else (fn_X3_followTaken x2).bind fun x3 => some (x3, v1)
abbrev rm_X3_passOneMinute : Room := { frames := 3, cells := 0, slots := 0, locals := 65 }
theorem df_X3_passOneMinute : yX3_passOneMinute.cls = RX3 ∧ yX3_passOneMinute.cls ≠ "java/lang/invoke/MethodHandle" ∧ yX3_passOneMinute.cls ≠ "java/lang/invoke/VarHandle" ∧ (parseMethodDescriptor yX3_passOneMinute.desc).map (fun d => d.parameters.length) = some 0 := by decide +kernel
set_option maxRecDepth 100000 in
set_option maxHeartbeats 4000000 in
theorem lp_X3_passOneMinute_14 {p : Program} {l : Launch} {e : Env} {s : State} {m : MethodId} {args : Array Value} {below : List Frame} {meth : Method} {c : Code} {Q : State → Prop} {G : va_G} {T : Nat → ClassId} {b : Nat} {z : Nat → Nat} (C : mm_C p m c cX3_passOneMinute 3 s args wsX3_passOneMinute RX3 G T b z)  : ∀ (n : Nat) (i1 : Int32) (i2 : Int32) (x : mm_M) (H : Heap) (locs : List Loc) (ls : Array Slot) (x1 : mm_M) (r1 : Int32), fn_X3_passOneMinute_14 n i1 i2 x = some (x1, r1) → mm_H G T b x s H locs → lv_has ls 3 [(0, .ref (b + 1)), (1, .int i1), (2, .int i2)] → (∀ (H1 : Heap) (locs1 : List Loc) (ls1 : Array Slot), mm_H G T b x1 s H1 locs1 → lv_has ls1 3 [(0, .ref (b + 1)), (1, .int r1)] → W p l e rm_X3_passOneMinute s m args below meth c H1 locs1 0 0 Q (F0 m 57 ls1 [])) → W p l e rm_X3_passOneMinute s m args below meth c H locs 0 0 Q (F0 m 14 ls []) := by
  have hx := C.1
  have hb := C.2.1
  have w1 := C.2.2.2.2.1 (.fieldLink RX3 29 "LandingFines$River" "landingCount" "I") (by decide +kernel)
  have w2 := C.2.2.2.2.1 (.fieldLink RX3 25 "LandingFines$River" "landings" "[LLandingFines$Landing;") (by decide +kernel)
  have w3 := C.2.2.2.2.1 (.fieldLink RX3 45 "LandingFines$River" "journal" "LLandingFines$Journal;") (by decide +kernel)
  have w4 := C.2.2.2.2.1 (.fieldLink RX3 33 "LandingFines$River" "minutesSoFar" "I") (by decide +kernel)
  have hin3 : ∀ w ∈ wsX30, w ∈ wsX3_passOneMinute := by decide +kernel
  intro n
  induction n with
  | zero => intro _ _ _ _ _ _ _ _ h; cases (show (none : Option (mm_M × Int32)) = some _ from h)
  | succ n ih =>
    intro i1 i2 x H locs ls x1 r1 h hH hl kk
    rw [fn_X3_passOneMinute_14] at h
    refine lv_iload_n hx hb dX3_passOneMinute_14 rfl (lv_at hl 2 rfl) ?_
    refine lv_aload_n hx hb dX3_passOneMinute_15 rfl (lv_at hl 0 rfl) ?_
    refine mm_get (v := .int (x 1 2)) C hH hin3 rfl kl_1 (mm_e3 kd_1) (j := 2) (by decide) rfl w1 rfl dX3_passOneMinute_16 ?_
    refine lv_icmp_ge (tgt := 57) hx hb dX3_passOneMinute_19 (by decide) (fun c1 => ?_) (fun c1 => ?_)
    · have h := mm_pos c1 h
      have hl := lv_sub (l' := [(0, .ref (b + 1)), (1, .int i1)]) hl [0, 1] rfl
      cases h
      exact kk _ _ _ hH (lv_sub hl [0, 1] rfl)
    · have h := mm_neg c1 h
      refine lv_aload_n hx hb dX3_passOneMinute_22 rfl (lv_at hl 0 rfl) ?_
      refine lv_aload_n hx hb dX3_passOneMinute_23 rfl (lv_at hl 0 rfl) ?_
      refine mm_get (v := .ref (b + 3)) C hH hin3 rfl kl_1 (mm_e3 kd_1) (j := 1) (by decide) rfl w2 rfl dX3_passOneMinute_24 ?_
      refine lv_iload_n hx hb dX3_passOneMinute_27 rfl (lv_at hl 2 rfl) ?_
      obtain ⟨g1, h⟩ := mm_grn h
      refine mm_ald9 C hH kd_3 g1 dX3_passOneMinute_28 ?_
      obtain ⟨x1, v1, e1, h⟩ := mm_bnd2 h
      refine mm_goi hH (va_runV (As := [.ref (b + (3 + 5 + Int32.toNatClampNeg i2))]) (rest := []) ⟨hx, hb, C.2.2.1, C.2.2.2.1, C.2.2.2.2.1⟩ (ct_X3_passMinuteOf l G T b z (3 + 5 + Int32.toNatClampNeg i2) x e1) (cwV 1 C.2.2.2.2.1 gX3_passOneMinute_X3_passMinuteOf rfl rfl rfl df_X3_passMinuteOf ⟨Nat.le_of_ble_eq_true rfl, Nat.le_of_ble_eq_true rfl⟩) ⟨mm_B.blind, mm_recv (q := (RX3, TX3, 7)) C hH kl_1 (mm_e3 kd_1) rfl, mm_pre C hH⟩ rfl rfl hl.1 rfl (lv_room (Nat.le_of_ble_eq_true rfl)) dX3_passOneMinute_29 ⟨Nat.zero_le _, Nat.zero_le _⟩) (fun H locs hH => ?_)
      refine lv_if_eq (tgt := 51) hx hb dX3_passOneMinute_32 (by decide) (fun c2 => ?_) (fun c2 => ?_)
      · have h := mm_pos c2 h
        obtain ⟨v2, e2, h⟩ := mm_bnd h
        refine lv_iinc (v := v2) (lv' := [(2, .int v2), (0, .ref (b + 1)), (1, .int i1)]) hx hb dX3_passOneMinute_51 hl (k := 2) rfl (Option.some.inj e2) (by decide) rfl (fun ls hl => ?_)
        refine lv_goto (tgt := 14) hx hb dX3_passOneMinute_54 (by decide) ?_
        exact ih i1 v2 x1 _ _ _ _ _ h hH (lv_sub hl [1, 2, 0] rfl) kk
      · have h := mm_neg c2 h
        refine lv_aload_n hx hb dX3_passOneMinute_35 rfl (lv_at hl 0 rfl) ?_
        refine mm_get (v := .ref (b + 4)) C hH hin3 rfl kl_1 (mm_e3 kd_1) (j := 6) (by decide) rfl w3 rfl dX3_passOneMinute_36 ?_
        refine lv_iconst (v := 4) hx hb dX3_passOneMinute_39 (by decide) ?_
        refine lv_iload_n hx hb dX3_passOneMinute_40 rfl (lv_at hl 2 rfl) ?_
        refine lv_aload_n hx hb dX3_passOneMinute_41 rfl (lv_at hl 0 rfl) ?_
        refine mm_get (v := .int (x1 1 3)) C hH hin3 rfl kl_1 (mm_e3 kd_1) (j := 3) (by decide) rfl w4 rfl dX3_passOneMinute_42 ?_
        obtain ⟨x2, e3, h⟩ := mm_bnd h
        refine mm_gov hH (va_runV (As := [.int 4, .int i2, .int (x1 1 3)]) (rest := []) ⟨hx, hb, C.2.2.1, C.2.2.2.1, C.2.2.2.2.1⟩ (ct_X0_add l G T b z 4 i2 (x1 1 3) x1 e3) (cwV 3 C.2.2.2.2.1 gX3_passOneMinute_X0_add rfl rfl rfl df_X0_add ⟨Nat.le_of_ble_eq_true rfl, Nat.le_of_ble_eq_true rfl⟩) ⟨mm_B.blind, mm_recv (q := (RX0, TX0, 5)) C hH kl_4 (mm_e0 kd_4) rfl, mm_pre C hH⟩ rfl rfl hl.1 rfl (lv_room (Nat.le_of_ble_eq_true rfl)) dX3_passOneMinute_45 ⟨Nat.zero_le _, Nat.zero_le _⟩) (fun H locs hH => ?_)
        obtain ⟨v3, e4, h⟩ := mm_bnd h
        refine lv_iinc (v := v3) (lv' := [(1, .int v3), (0, .ref (b + 1)), (2, .int i2)]) hx hb dX3_passOneMinute_48 hl (k := 1) rfl (Option.some.inj e4) (by decide) rfl (fun ls hl => ?_)
        obtain ⟨v4, e5, h⟩ := mm_bnd h
        refine lv_iinc (v := v4) (lv' := [(2, .int v4), (1, .int v3), (0, .ref (b + 1))]) hx hb dX3_passOneMinute_51 hl (k := 2) rfl (Option.some.inj e5) (by decide) rfl (fun ls hl => ?_)
        refine lv_goto (tgt := 14) hx hb dX3_passOneMinute_54 (by decide) ?_
        exact ih v3 v4 x2 _ _ _ _ _ h hH (lv_sub hl [2, 1, 0] rfl) kk
set_option maxRecDepth 100000 in
set_option maxHeartbeats 4000000 in
theorem ct_X3_passOneMinute (l : Launch) (G : va_G) (T : Nat → ClassId) (b : Nat) (z : Nat → Nat)  (x : mm_M) {x1 : mm_M} {r : Int32} (h : fn_X3_passOneMinute  x = some (x1, r)) : mm_Ci l yX3_passOneMinute wsX3_passOneMinute rm_X3_passOneMinute G T b z [.ref (b + 1)] x r x1 := by
  unfold fn_X3_passOneMinute at h
  refine mm_start (cc := cX3_passOneMinute) (maxL := 3) (ret := (some .int)) (by decide) rfl (Nat.le_of_ble_eq_true rfl) (fun p e s m below meth c ls C hr hlk hH hl => ?_)
  have hl : lv_has ls 3 [(0, .ref (b + 1))] := hl
  have hx := C.1
  have hb := C.2.1
  have w1 := C.2.2.2.2.1 (.fieldLink RX3 33 "LandingFines$River" "minutesSoFar" "I") (by decide +kernel)
  have hin3 : ∀ w ∈ wsX30, w ∈ wsX3_passOneMinute := by decide +kernel
  refine lv_aload_n hx hb dX3_passOneMinute_0 rfl (lv_at hl 0 rfl) ?_
  refine lv_dup hx hb dX3_passOneMinute_1 rfl ?_
  refine mm_get (v := .int (x 1 3)) C hH hin3 rfl kl_1 (mm_e3 kd_1) (j := 3) (by decide) rfl w1 rfl dX3_passOneMinute_2 ?_
  refine lv_iconst (v := 1) hx hb dX3_passOneMinute_5 (by decide) ?_
  refine lv_iadd hx hb dX3_passOneMinute_6 ?_
  obtain ⟨x1, e1, h⟩ := mm_bnd h
  refine mm_put (ty := .int) C hH hin3 tyX3_ok nmX3 rfl kl_1 (mm_e3 kd_1) (j := 3) (by decide) rfl w1 pd_I rfl rfl (Nat.le_of_ble_eq_true rfl) (sp_3_3 kd_1) (Option.some.inj e1) dX3_passOneMinute_7 (fun H locs hH => ?_)
  refine lv_iconst (v := 0) hx hb dX3_passOneMinute_10 (by decide) ?_
  refine lv_istore_n (lv' := [(1, .int 0), (0, .ref (b + 1))]) hx hb dX3_passOneMinute_11 rfl hl (by decide) rfl (fun ls hl => ?_)
  refine lv_iconst (v := 0) hx hb dX3_passOneMinute_12 (by decide) ?_
  refine lv_istore_n (lv' := [(2, .int 0), (1, .int 0), (0, .ref (b + 1))]) hx hb dX3_passOneMinute_13 rfl hl (by decide) rfl (fun ls hl => ?_)
  obtain ⟨x2, v1, e2, h⟩ := mm_bnd2 h
  refine lp_X3_passOneMinute_14 C 9 0 0 x1 _ _ _ _ _ e2 hH (lv_sub hl [2, 1, 0] rfl) (fun H locs ls hH hl => ?_)
  refine lv_iload_n hx hb dX3_passOneMinute_57 rfl (lv_at hl 1 rfl) ?_
  refine lv_if_le (tgt := 65) hx hb dX3_passOneMinute_58 (by decide) (fun c1 => ?_) (fun c1 => ?_)
  · have h := mm_pos c1 h
    have hl := lv_sub (l' := [(1, .int v1)]) hl [1] rfl
    refine lv_iload_n hx hb dX3_passOneMinute_65 rfl (lv_at hl 0 rfl) ?_
    exact mm_iret C hH hr hlk rfl h dX3_passOneMinute_66
  · have h := mm_neg c1 h
    refine lv_aload_n hx hb dX3_passOneMinute_61 rfl (lv_at hl 0 rfl) ?_
    obtain ⟨x3, e3, h⟩ := mm_bnd h
    refine mm_gov hH (va_runV (As := []) (rest := []) ⟨hx, hb, C.2.2.1, C.2.2.2.1, C.2.2.2.2.1⟩ (ct_X3_followTaken l G T b z x2 e3) (cwV 0 C.2.2.2.2.1 gX3_passOneMinute_X3_followTaken rfl rfl rfl df_X3_followTaken ⟨Nat.le_of_ble_eq_true rfl, Nat.le_of_ble_eq_true rfl⟩) ⟨mm_B.blind, mm_recv (q := (RX3, TX3, 7)) C hH kl_1 (mm_e3 kd_1) rfl, mm_pre C hH⟩ rfl rfl hl.1 rfl (lv_room (Nat.le_of_ble_eq_true rfl)) dX3_passOneMinute_62 ⟨Nat.zero_le _, Nat.zero_le _⟩) (fun H locs hH => ?_)
    refine lv_iload_n hx hb dX3_passOneMinute_65 rfl (lv_at hl 1 rfl) ?_
    exact mm_iret C hH hr hlk rfl h dX3_passOneMinute_66
def fn_X3_passMinutes_33 : Nat → Int32 → Int32 → Int32 → mm_M → Option (mm_M × Int32)
  | 0, _, _, _, _ => none
  | n + 1, a1, i2, i3, x => if a1 ≤ i3 then some (x, i2) else mm_b2 (fn_X3_passOneMinute x) fun x1 v1 => (some ((i2 + v1) : Int32)).bind fun v2 => (some (i3 + 1)).bind fun v3 => fn_X3_passMinutes_33 n a1 v2 v3 x1
def fn_X3_passMinutes (a1 : Int32) (x : mm_M) : Option (mm_M × Int32) :=
  if a1 < 1 then some (x, (-2)) else if a1 ≤ 999 then if ((x 1 3) + a1) ≤ 99999 then mm_b2 (fn_X3_passMinutes_33 1000 a1 0 0 x) fun x1 v1 => some (x1, v1) else some (x, (-5)) else some (x, (-2))
abbrev rm_X3_passMinutes : Room := { frames := 4, cells := 0, slots := 0, locals := 87 }
theorem df_X3_passMinutes : yX3_passMinutes.cls = RX3 ∧ yX3_passMinutes.cls ≠ "java/lang/invoke/MethodHandle" ∧ yX3_passMinutes.cls ≠ "java/lang/invoke/VarHandle" ∧ (parseMethodDescriptor yX3_passMinutes.desc).map (fun d => d.parameters.length) = some 1 := by decide +kernel
set_option maxRecDepth 100000 in
set_option maxHeartbeats 4000000 in
theorem lp_X3_passMinutes_33 {p : Program} {l : Launch} {e : Env} {s : State} {m : MethodId} {args : Array Value} {below : List Frame} {meth : Method} {c : Code} {Q : State → Prop} {G : va_G} {T : Nat → ClassId} {b : Nat} {z : Nat → Nat} (C : mm_C p m c cX3_passMinutes 4 s args wsX3_passMinutes RX3 G T b z) (a1 : Int32) : ∀ (n : Nat) (i2 : Int32) (i3 : Int32) (x : mm_M) (H : Heap) (locs : List Loc) (ls : Array Slot) (x1 : mm_M) (r2 : Int32), fn_X3_passMinutes_33 n a1 i2 i3 x = some (x1, r2) → mm_H G T b x s H locs → lv_has ls 4 [(0, .ref (b + 1)), (1, .int a1), (2, .int i2), (3, .int i3)] → (∀ (H1 : Heap) (locs1 : List Loc) (ls1 : Array Slot), mm_H G T b x1 s H1 locs1 → lv_has ls1 4 [(2, .int r2)] → W p l e rm_X3_passMinutes s m args below meth c H1 locs1 0 0 Q (F0 m 51 ls1 [])) → W p l e rm_X3_passMinutes s m args below meth c H locs 0 0 Q (F0 m 33 ls []) := by
  have hx := C.1
  have hb := C.2.1
  intro n
  induction n with
  | zero => intro _ _ _ _ _ _ _ _ h; cases (show (none : Option (mm_M × Int32)) = some _ from h)
  | succ n ih =>
    intro i2 i3 x H locs ls x1 r2 h hH hl kk
    rw [fn_X3_passMinutes_33] at h
    refine lv_iload_n hx hb dX3_passMinutes_33 rfl (lv_at hl 3 rfl) ?_
    refine lv_iload_n hx hb dX3_passMinutes_34 rfl (lv_at hl 1 rfl) ?_
    refine lv_icmp_ge (tgt := 51) hx hb dX3_passMinutes_35 (by decide) (fun c1 => ?_) (fun c1 => ?_)
    · have h := mm_pos c1 h
      have hl := lv_sub (l' := [(2, .int i2)]) hl [2] rfl
      cases h
      exact kk _ _ _ hH (lv_sub hl [0] rfl)
    · have h := mm_neg c1 h
      refine lv_iload_n hx hb dX3_passMinutes_38 rfl (lv_at hl 2 rfl) ?_
      refine lv_aload_n hx hb dX3_passMinutes_39 rfl (lv_at hl 0 rfl) ?_
      obtain ⟨x1, v1, e1, h⟩ := mm_bnd2 h
      refine mm_goi hH (va_runV (As := []) (rest := [.int i2]) ⟨hx, hb, C.2.2.1, C.2.2.2.1, C.2.2.2.2.1⟩ (ct_X3_passOneMinute l G T b z x e1) (cwV 0 C.2.2.2.2.1 gX3_passMinutes_X3_passOneMinute rfl rfl rfl df_X3_passOneMinute ⟨Nat.le_of_ble_eq_true rfl, Nat.le_of_ble_eq_true rfl⟩) ⟨mm_B.blind, mm_recv (q := (RX3, TX3, 7)) C hH kl_1 (mm_e3 kd_1) rfl, mm_pre C hH⟩ rfl rfl hl.1 rfl (lv_room (Nat.le_of_ble_eq_true rfl)) dX3_passMinutes_40 ⟨Nat.zero_le _, Nat.zero_le _⟩) (fun H locs hH => ?_)
      refine lv_iadd hx hb dX3_passMinutes_43 ?_
      obtain ⟨v2, e2, h⟩ := mm_bnd h
      refine mm_nmi e2 ?_
      refine lv_istore_n (lv' := [(2, .int v2), (0, .ref (b + 1)), (1, .int a1), (3, .int i3)]) hx hb dX3_passMinutes_44 rfl hl (by decide) rfl (fun ls hl => ?_)
      obtain ⟨v3, e3, h⟩ := mm_bnd h
      refine lv_iinc (v := v3) (lv' := [(3, .int v3), (2, .int v2), (0, .ref (b + 1)), (1, .int a1)]) hx hb dX3_passMinutes_45 hl (k := 3) rfl (Option.some.inj e3) (by decide) rfl (fun ls hl => ?_)
      refine lv_goto (tgt := 33) hx hb dX3_passMinutes_48 (by decide) ?_
      exact ih v2 v3 x1 _ _ _ _ _ h hH (lv_sub hl [2, 3, 1, 0] rfl) kk
set_option maxRecDepth 100000 in
set_option maxHeartbeats 4000000 in
theorem ct_X3_passMinutes (l : Launch) (G : va_G) (T : Nat → ClassId) (b : Nat) (z : Nat → Nat) (a1 : Int32) (x : mm_M) {x1 : mm_M} {r : Int32} (h : fn_X3_passMinutes a1 x = some (x1, r)) : mm_Ci l yX3_passMinutes wsX3_passMinutes rm_X3_passMinutes G T b z [.ref (b + 1), .int a1] x r x1 := by
  unfold fn_X3_passMinutes at h
  refine mm_start (cc := cX3_passMinutes) (maxL := 4) (ret := (some .int)) (by decide) rfl (Nat.le_of_ble_eq_true rfl) (fun p e s m below meth c ls C hr hlk hH hl => ?_)
  have hl : lv_has ls 4 [(0, .ref (b + 1)), (1, .int a1)] := hl
  have hx := C.1
  have hb := C.2.1
  have w1 := C.2.2.2.2.1 (.fieldLink RX3 33 "LandingFines$River" "minutesSoFar" "I") (by decide +kernel)
  have w2 := C.2.2.2.2.1 (.constant RX3 106 (99999)) (by decide +kernel)
  have hin3 : ∀ w ∈ wsX30, w ∈ wsX3_passMinutes := by decide +kernel
  refine lv_iload_n hx hb dX3_passMinutes_0 rfl (lv_at hl 1 rfl) ?_
  refine lv_iconst (v := 1) hx hb dX3_passMinutes_1 (by decide) ?_
  refine lv_icmp_lt (tgt := 12) hx hb dX3_passMinutes_2 (by decide) (fun c1 => ?_) (fun c1 => ?_)
  · have h := mm_pos c1 h
    have hl := lv_sub (l' := []) hl [] rfl
    refine lv_bipush (v := (-2)) hx hb dX3_passMinutes_12 (by decide) ?_
    exact mm_iret C hH hr hlk rfl h dX3_passMinutes_14
  · have h := mm_neg c1 h
    refine lv_iload_n hx hb dX3_passMinutes_5 rfl (lv_at hl 1 rfl) ?_
    refine lv_sipush (v := 999) hx hb dX3_passMinutes_6 (by decide) ?_
    refine lv_icmp_le (tgt := 15) hx hb dX3_passMinutes_9 (by decide) (fun c2 => ?_) (fun c2 => ?_)
    · have h := mm_pos c2 h
      refine lv_aload_n hx hb dX3_passMinutes_15 rfl (lv_at hl 0 rfl) ?_
      refine mm_get (v := .int (x 1 3)) C hH hin3 rfl kl_1 (mm_e3 kd_1) (j := 3) (by decide) rfl w1 rfl dX3_passMinutes_16 ?_
      refine lv_iload_n hx hb dX3_passMinutes_19 rfl (lv_at hl 1 rfl) ?_
      refine lv_iadd hx hb dX3_passMinutes_20 ?_
      refine lv_ldc (own := RX3) (v := 99999) hx hb C.2.2.2.1 w2 dX3_passMinutes_21 ?_
      refine lv_icmp_le (tgt := 29) hx hb dX3_passMinutes_23 (by decide) (fun c3 => ?_) (fun c3 => ?_)
      · have h := mm_pos c3 h
        refine lv_iconst (v := 0) hx hb dX3_passMinutes_29 (by decide) ?_
        refine lv_istore_n (lv' := [(2, .int 0), (0, .ref (b + 1)), (1, .int a1)]) hx hb dX3_passMinutes_30 rfl hl (by decide) rfl (fun ls hl => ?_)
        refine lv_iconst (v := 0) hx hb dX3_passMinutes_31 (by decide) ?_
        refine lv_istore_n (lv' := [(3, .int 0), (2, .int 0), (0, .ref (b + 1)), (1, .int a1)]) hx hb dX3_passMinutes_32 rfl hl (by decide) rfl (fun ls hl => ?_)
        obtain ⟨x1, v1, e1, h⟩ := mm_bnd2 h
        refine lp_X3_passMinutes_33 C a1 1000 0 0 x _ _ _ _ _ e1 hH (lv_sub hl [2, 3, 1, 0] rfl) (fun H locs ls hH hl => ?_)
        refine lv_iload_n hx hb dX3_passMinutes_51 rfl (lv_at hl 0 rfl) ?_
        exact mm_iret C hH hr hlk rfl h dX3_passMinutes_52
      · have h := mm_neg c3 h
        have hl := lv_sub (l' := []) hl [] rfl
        refine lv_bipush (v := (-5)) hx hb dX3_passMinutes_26 (by decide) ?_
        exact mm_iret C hH hr hlk rfl h dX3_passMinutes_28
    · have h := mm_neg c2 h
      have hl := lv_sub (l' := []) hl [] rfl
      refine lv_bipush (v := (-2)) hx hb dX3_passMinutes_12 (by decide) ?_
      exact mm_iret C hH hr hlk rfl h dX3_passMinutes_14
def fn_X3_fade (k1 : Nat) (a2 : Int32) (x : mm_M) : Option mm_M :=
  if mm_kd k1 = 1 then (some ((if (1 : Int32) < (x 2 3) then (x 2 3) else (1 : Int32)) : Int32)).bind fun v1 => (some (((x k1 5) + a2) : Int32)).bind fun v2 => if v1 = 0 then none else (some (mm_up x k1 2 ((x k1 2) >>> ((if (31 : Int32) < (v2 / v1) then (31 : Int32) else (v2 / v1)) &&& 31)))).bind fun x1 => if v1 = 0 then none else (some (mm_up x1 k1 5 (v2 - v2 / v1 * v1))).bind fun x2 => some x2 else none
abbrev rm_X3_fade : Room := { frames := 1, cells := 0, slots := 0, locals := 21 }
theorem df_X3_fade : yX3_fade.cls = RX3 ∧ yX3_fade.cls ≠ "java/lang/invoke/MethodHandle" ∧ yX3_fade.cls ≠ "java/lang/invoke/VarHandle" ∧ (parseMethodDescriptor yX3_fade.desc).map (fun d => d.parameters.length) = some 2 := by decide +kernel
set_option maxRecDepth 100000 in
set_option maxHeartbeats 4000000 in
theorem ct_X3_fade (l : Launch) (G : va_G) (T : Nat → ClassId) (b : Nat) (z : Nat → Nat) (k1 : Nat) (a2 : Int32) (x : mm_M) {x1 : mm_M} (h : fn_X3_fade k1 a2 x = some x1) : mm_Cv l yX3_fade wsX3_fade rm_X3_fade G T b z [.ref (b + 1), .ref (b + k1), .int a2] x x1 := by
  unfold fn_X3_fade at h
  refine mm_start (cc := cX3_fade) (maxL := 5) (ret := none) (by decide) rfl (Nat.le_of_ble_eq_true rfl) (fun p e s m below meth c ls C hr hlk hH hl => ?_)
  have hl : lv_has ls 5 [(0, .ref (b + 1)), (1, .ref (b + k1)), (2, .int a2)] := hl
  have hx := C.1
  have hb := C.2.1
  have w1 := C.2.2.2.2.1 (.fieldLink RX3 18 "LandingFines$River" "settings" "[I") (by decide +kernel)
  have w2 := C.2.2.2.2.1 (.methodLink RX3 119 Lib.Math.max.name) (by decide +kernel)
  have w3 := C.2.2.2.2.1 (.static Lib.Math.max.name) (by decide +kernel)
  have w4 := C.2.2.2.2.1 (.initialized "java/lang/Math") (by decide +kernel)
  have w5 := C.2.2.2.2.1 (.code Lib.Math.max.name Lib.Math.max.code 2 (some .int)) (by decide +kernel)
  have w6 := C.2.2.2.2.1 (.fieldLink RX3 125 "LandingFines$Landing" "minutesSinceHalving" "I") (by decide +kernel)
  have w7 := C.2.2.2.2.1 (.fieldLink RX3 99 "LandingFines$Landing" "fine" "I") (by decide +kernel)
  have w8 := C.2.2.2.2.1 (.methodLink RX3 128 Lib.Math.min.name) (by decide +kernel)
  have w9 := C.2.2.2.2.1 (.static Lib.Math.min.name) (by decide +kernel)
  have w10 := C.2.2.2.2.1 (.code Lib.Math.min.name Lib.Math.min.code 2 (some .int)) (by decide +kernel)
  have hin1 : ∀ w ∈ wsX10, w ∈ wsX3_fade := by decide +kernel
  have hin3 : ∀ w ∈ wsX30, w ∈ wsX3_fade := by decide +kernel
  obtain ⟨hk1, h⟩ := mm_grd h
  have hk1l := mm_lt hk1 (by decide)
  refine lv_iconst (v := 1) hx hb dX3_fade_0 (by decide) ?_
  refine lv_aload_n hx hb dX3_fade_1 rfl (lv_at hl 0 rfl) ?_
  refine mm_get (v := .ref (b + 2)) C hH hin3 rfl kl_1 (mm_e3 kd_1) (j := 0) (by decide) rfl w1 rfl dX3_fade_2 ?_
  refine lv_iconst (v := 3) hx hb dX3_fade_5 (by decide) ?_
  refine mm_iald (n := 7) (jn := 3) C hH kd_2 ln_2 (by decide) (by decide) dX3_fade_6 ?_
  refine mm_maxv C hl.1.symm w2 w3 w4 w5 (Nat.le_of_ble_eq_true rfl) (Nat.le_of_ble_eq_true rfl) (Nat.zero_le _) (Nat.zero_le _) dX3_fade_7 ?_
  obtain ⟨v1, e1, h⟩ := mm_bnd h
  refine mm_nmi e1 ?_
  refine lv_istore_n (lv' := [(3, .int v1), (0, .ref (b + 1)), (1, .ref (b + k1)), (2, .int a2)]) hx hb dX3_fade_10 rfl hl (by decide) rfl (fun ls hl => ?_)
  have hl := lv_sub (l' := [(3, .int v1), (1, .ref (b + k1)), (2, .int a2)]) hl [0, 2, 3] rfl
  refine lv_aload_n hx hb dX3_fade_11 rfl (lv_at hl 1 rfl) ?_
  refine mm_get (v := .int (x k1 5)) C hH hin1 rfl hk1l (mm_e1 hk1) (j := 5) (by decide) rfl w6 rfl dX3_fade_12 ?_
  refine lv_iload_n hx hb dX3_fade_15 rfl (lv_at hl 2 rfl) ?_
  refine lv_iadd hx hb dX3_fade_16 ?_
  obtain ⟨v2, e2, h⟩ := mm_bnd h
  refine mm_nmi e2 ?_
  refine lv_istore (lv' := [(4, .int v2), (3, .int v1), (1, .ref (b + k1)), (2, .int a2)]) hx hb dX3_fade_17 hl (by decide) rfl (fun ls hl => ?_)
  have hl := lv_sub (l' := [(4, .int v2), (3, .int v1), (1, .ref (b + k1))]) hl [0, 1, 2] rfl
  refine lv_aload_n hx hb dX3_fade_19 rfl (lv_at hl 2 rfl) ?_
  refine lv_dup hx hb dX3_fade_20 rfl ?_
  refine mm_get (v := .int (x k1 2)) C hH hin1 rfl hk1l (mm_e1 hk1) (j := 2) (by decide) rfl w7 rfl dX3_fade_21 ?_
  refine lv_iload hx hb dX3_fade_24 (lv_at hl 0 rfl) ?_
  refine lv_iload_n hx hb dX3_fade_26 rfl (lv_at hl 1 rfl) ?_
  obtain ⟨g1, h⟩ := mm_grn h
  refine lv_idiv hx hb dX3_fade_27 g1 ?_
  refine lv_bipush (v := 31) hx hb dX3_fade_28 (by decide) ?_
  refine mm_minv C hl.1.symm w8 w9 w4 w10 (Nat.le_of_ble_eq_true rfl) (Nat.le_of_ble_eq_true rfl) (Nat.zero_le _) (Nat.zero_le _) dX3_fade_30 ?_
  refine lv_ishr hx hb dX3_fade_33 ?_
  obtain ⟨x1, e3, h⟩ := mm_bnd h
  refine mm_put (ty := .int) C hH hin1 tyX1_ok nmX1 rfl hk1l (mm_e1 hk1) (j := 2) (by decide) rfl w7 pd_I rfl rfl (Nat.le_of_ble_eq_true rfl) (sp_1_2 hk1) (Option.some.inj e3) dX3_fade_34 (fun H locs hH => ?_)
  refine lv_aload_n hx hb dX3_fade_37 rfl (lv_at hl 2 rfl) ?_
  refine lv_iload hx hb dX3_fade_38 (lv_at hl 0 rfl) ?_
  refine lv_iload_n hx hb dX3_fade_40 rfl (lv_at hl 1 rfl) ?_
  obtain ⟨g2, h⟩ := mm_grn h
  refine lv_irem hx hb dX3_fade_41 g2 ?_
  obtain ⟨x2, e4, h⟩ := mm_bnd h
  refine mm_put (ty := .int) C hH hin1 tyX1_ok nmX1 rfl hk1l (mm_e1 hk1) (j := 5) (by decide) rfl w6 pd_I rfl rfl (Nat.le_of_ble_eq_true rfl) (sp_1_5 hk1) (Option.some.inj e4) dX3_fade_42 (fun H locs hH => ?_)
  exact mm_vret C hH hr hlk h dX3_fade_45
def fn_X3_rankOf_15 : Nat → Int32 → Int32 → Int32 → Int32 → mm_M → Option Int32
  | 0, _, _, _, _, _ => none
  | n + 1, a1, a3, i2, i4, x => if (x 1 2) ≤ i4 then some (i2) else if i4 < 0 ∨ 8 ≤ Int32.toNatClampNeg i4 then none else (fn_X1_canBeTaken (3 + 5 + Int32.toNatClampNeg i4) x).bind fun v1 => if v1 = 0 then (some (i4 + 1)).bind fun v2 => fn_X3_rankOf_15 n a1 a3 i2 v2 x else if (x (3 + 5 + Int32.toNatClampNeg i4) 1) < a3 then (some (i2 + 1)).bind fun v3 => (some (i4 + 1)).bind fun v4 => fn_X3_rankOf_15 n a1 a3 v3 v4 x else if (x (3 + 5 + Int32.toNatClampNeg i4) 1) = a3 then if a1 ≤ i4 then (some (i4 + 1)).bind fun v6 => fn_X3_rankOf_15 n a1 a3 i2 v6 x else (some (i2 + 1)).bind fun v7 => (some (i4 + 1)).bind fun v8 => fn_X3_rankOf_15 n a1 a3 v7 v8 x else (some (i4 + 1)).bind fun v5 => fn_X3_rankOf_15 n a1 a3 i2 v5 x
def fn_X3_rankOf (a1 : Int32) (x : mm_M) : Option Int32 :=
  if a1 < 0 ∨ 8 ≤ Int32.toNatClampNeg a1 then none else (some ((x (3 + 5 + Int32.toNatClampNeg a1) 1) : Int32)).bind fun v1 => (fn_X3_rankOf_15 9 a1 v1 0 0 x).bind fun v2 => some v2
abbrev rm_X3_rankOf : Room := { frames := 1, cells := 0, slots := 0, locals := 20 }
theorem df_X3_rankOf : yX3_rankOf.cls = RX3 ∧ yX3_rankOf.cls ≠ "java/lang/invoke/MethodHandle" ∧ yX3_rankOf.cls ≠ "java/lang/invoke/VarHandle" ∧ (parseMethodDescriptor yX3_rankOf.desc).map (fun d => d.parameters.length) = some 1 := by decide +kernel
set_option maxRecDepth 100000 in
set_option maxHeartbeats 4000000 in
theorem lp_X3_rankOf_15 {p : Program} {l : Launch} {e : Env} {s : State} {m : MethodId} {args : Array Value} {below : List Frame} {meth : Method} {c : Code} {Q : State → Prop} {G : va_G} {T : Nat → ClassId} {b : Nat} {z : Nat → Nat} (C : mm_C p m c cX3_rankOf 6 s args wsX3_rankOf RX3 G T b z) (a1 : Int32) (a3 : Int32) : ∀ (n : Nat) (i2 : Int32) (i4 : Int32) (x : mm_M) (H : Heap) (locs : List Loc) (ls : Array Slot) (r2 : Int32), fn_X3_rankOf_15 n a1 a3 i2 i4 x = some (r2) → mm_H G T b x s H locs → lv_has ls 6 [(0, .ref (b + 1)), (1, .int a1), (2, .int i2), (3, .int a3), (4, .int i4)] → (∀ (H1 : Heap) (locs1 : List Loc) (ls1 : Array Slot), mm_H G T b x s H1 locs1 → lv_has ls1 6 [(2, .int r2)] → W p l e rm_X3_rankOf s m args below meth c H1 locs1 0 0 Q (F0 m 74 ls1 [])) → W p l e rm_X3_rankOf s m args below meth c H locs 0 0 Q (F0 m 15 ls []) := by
  have hx := C.1
  have hb := C.2.1
  have w1 := C.2.2.2.2.1 (.fieldLink RX3 29 "LandingFines$River" "landingCount" "I") (by decide +kernel)
  have w2 := C.2.2.2.2.1 (.fieldLink RX3 25 "LandingFines$River" "landings" "[LLandingFines$Landing;") (by decide +kernel)
  have w3 := C.2.2.2.2.1 (.fieldLink RX3 88 "LandingFines$Landing" "fare" "I") (by decide +kernel)
  have hin1 : ∀ w ∈ wsX10, w ∈ wsX3_rankOf := by decide +kernel
  have hin3 : ∀ w ∈ wsX30, w ∈ wsX3_rankOf := by decide +kernel
  intro n
  induction n with
  | zero => intro _ _ _ _ _ _ _ h; cases (show (none : Option Int32) = some _ from h)
  | succ n ih =>
    intro i2 i4 x H locs ls r2 h hH hl kk
    rw [fn_X3_rankOf_15] at h
    refine lv_iload hx hb dX3_rankOf_15 (lv_at hl 4 rfl) ?_
    refine lv_aload_n hx hb dX3_rankOf_17 rfl (lv_at hl 0 rfl) ?_
    refine mm_get (v := .int (x 1 2)) C hH hin3 rfl kl_1 (mm_e3 kd_1) (j := 2) (by decide) rfl w1 rfl dX3_rankOf_18 ?_
    refine lv_icmp_ge (tgt := 74) hx hb dX3_rankOf_21 (by decide) (fun c1 => ?_) (fun c1 => ?_)
    · have h := mm_pos c1 h
      have hl := lv_sub (l' := [(2, .int i2)]) hl [2] rfl
      cases h
      exact kk _ _ _ hH (lv_sub hl [0] rfl)
    · have h := mm_neg c1 h
      refine lv_aload_n hx hb dX3_rankOf_24 rfl (lv_at hl 0 rfl) ?_
      refine mm_get (v := .ref (b + 3)) C hH hin3 rfl kl_1 (mm_e3 kd_1) (j := 1) (by decide) rfl w2 rfl dX3_rankOf_25 ?_
      refine lv_iload hx hb dX3_rankOf_28 (lv_at hl 4 rfl) ?_
      obtain ⟨g1, h⟩ := mm_grn h
      refine mm_ald9 C hH kd_3 g1 dX3_rankOf_30 ?_
      refine lv_astore (lv' := [(5, .ref (b + (3 + 5 + Int32.toNatClampNeg i4))), (0, .ref (b + 1)), (1, .int a1), (2, .int i2), (3, .int a3), (4, .int i4)]) hx hb dX3_rankOf_31 hl (by decide) rfl (fun ls hl => ?_)
      refine lv_aload hx hb dX3_rankOf_33 (lv_at hl 0 rfl) ?_
      obtain ⟨v1, e1, h⟩ := mm_bnd h
      refine mm_goi hH (va_runV (As := []) (rest := []) ⟨hx, hb, C.2.2.1, C.2.2.2.1, C.2.2.2.2.1⟩ (ct_X1_canBeTaken l G T b z (3 + 5 + Int32.toNatClampNeg i4) x e1) (cwV 0 C.2.2.2.2.1 gX3_rankOf_X1_canBeTaken rfl rfl rfl df_X1_canBeTaken ⟨Nat.le_of_ble_eq_true rfl, Nat.le_of_ble_eq_true rfl⟩) ⟨mm_B.blind, mm_recv (q := (RX1, TX1, 8)) C hH (mm_lt (mm_ldc g1) (by decide)) (mm_e1 (mm_ldc g1)) rfl, mm_pre C hH⟩ rfl rfl hl.1 rfl (lv_room (Nat.le_of_ble_eq_true rfl)) dX3_rankOf_35 ⟨Nat.zero_le _, Nat.zero_le _⟩) (fun H locs hH => ?_)
      refine lv_if_eq (tgt := 68) hx hb dX3_rankOf_38 (by decide) (fun c2 => ?_) (fun c2 => ?_)
      · have h := mm_pos c2 h
        have hl := lv_sub (l' := [(0, .ref (b + 1)), (1, .int a1), (2, .int i2), (3, .int a3), (4, .int i4)]) hl [1, 2, 3, 4, 5] rfl
        obtain ⟨v2, e2, h⟩ := mm_bnd h
        refine lv_iinc (v := v2) (lv' := [(4, .int v2), (0, .ref (b + 1)), (1, .int a1), (2, .int i2), (3, .int a3)]) hx hb dX3_rankOf_68 hl (k := 4) rfl (Option.some.inj e2) (by decide) rfl (fun ls hl => ?_)
        refine lv_goto (tgt := 15) hx hb dX3_rankOf_71 (by decide) ?_
        exact ih i2 v2 x _ _ _ _ h hH (lv_sub hl [1, 2, 3, 4, 0] rfl) kk
      · have h := mm_neg c2 h
        refine lv_aload hx hb dX3_rankOf_41 (lv_at hl 0 rfl) ?_
        refine mm_get (v := .int (x (3 + 5 + Int32.toNatClampNeg i4) 1)) C hH hin1 rfl (mm_lt (mm_ldc g1) (by decide)) (mm_e1 (mm_ldc g1)) (j := 1) (by decide) rfl w3 rfl dX3_rankOf_43 ?_
        refine lv_iload_n hx hb dX3_rankOf_46 rfl (lv_at hl 4 rfl) ?_
        refine lv_icmp_lt (tgt := 65) hx hb dX3_rankOf_47 (by decide) (fun c3 => ?_) (fun c3 => ?_)
        · have h := mm_pos c3 h
          have hl := lv_sub (l' := [(0, .ref (b + 1)), (1, .int a1), (2, .int i2), (3, .int a3), (4, .int i4)]) hl [1, 2, 3, 4, 5] rfl
          obtain ⟨v3, e3, h⟩ := mm_bnd h
          refine lv_iinc (v := v3) (lv' := [(2, .int v3), (0, .ref (b + 1)), (1, .int a1), (3, .int a3), (4, .int i4)]) hx hb dX3_rankOf_65 hl (k := 2) rfl (Option.some.inj e3) (by decide) rfl (fun ls hl => ?_)
          obtain ⟨v4, e4, h⟩ := mm_bnd h
          refine lv_iinc (v := v4) (lv' := [(4, .int v4), (2, .int v3), (0, .ref (b + 1)), (1, .int a1), (3, .int a3)]) hx hb dX3_rankOf_68 hl (k := 4) rfl (Option.some.inj e4) (by decide) rfl (fun ls hl => ?_)
          refine lv_goto (tgt := 15) hx hb dX3_rankOf_71 (by decide) ?_
          exact ih v3 v4 x _ _ _ _ h hH (lv_sub hl [2, 3, 1, 4, 0] rfl) kk
        · have h := mm_neg c3 h
          refine lv_aload hx hb dX3_rankOf_50 (lv_at hl 0 rfl) ?_
          refine mm_get (v := .int (x (3 + 5 + Int32.toNatClampNeg i4) 1)) C hH hin1 rfl (mm_lt (mm_ldc g1) (by decide)) (mm_e1 (mm_ldc g1)) (j := 1) (by decide) rfl w3 rfl dX3_rankOf_52 ?_
          refine lv_iload_n hx hb dX3_rankOf_55 rfl (lv_at hl 4 rfl) ?_
          refine lv_icmp_ne (tgt := 68) hx hb dX3_rankOf_56 (by decide) (fun c4 => ?_) (fun c4 => ?_)
          · have h := mm_neg c4 h
            have hl := lv_sub (l' := [(0, .ref (b + 1)), (1, .int a1), (2, .int i2), (3, .int a3), (4, .int i4)]) hl [1, 2, 3, 4, 5] rfl
            obtain ⟨v5, e5, h⟩ := mm_bnd h
            refine lv_iinc (v := v5) (lv' := [(4, .int v5), (0, .ref (b + 1)), (1, .int a1), (2, .int i2), (3, .int a3)]) hx hb dX3_rankOf_68 hl (k := 4) rfl (Option.some.inj e5) (by decide) rfl (fun ls hl => ?_)
            refine lv_goto (tgt := 15) hx hb dX3_rankOf_71 (by decide) ?_
            exact ih i2 v5 x _ _ _ _ h hH (lv_sub hl [1, 2, 3, 4, 0] rfl) kk
          · have h := mm_pos c4 h
            have hl := lv_sub (l' := [(0, .ref (b + 1)), (1, .int a1), (2, .int i2), (3, .int a3), (4, .int i4)]) hl [1, 2, 3, 4, 5] rfl
            refine lv_iload hx hb dX3_rankOf_59 (lv_at hl 4 rfl) ?_
            refine lv_iload_n hx hb dX3_rankOf_61 rfl (lv_at hl 1 rfl) ?_
            refine lv_icmp_ge (tgt := 68) hx hb dX3_rankOf_62 (by decide) (fun c5 => ?_) (fun c5 => ?_)
            · have h := mm_pos c5 h
              obtain ⟨v6, e6, h⟩ := mm_bnd h
              refine lv_iinc (v := v6) (lv' := [(4, .int v6), (0, .ref (b + 1)), (1, .int a1), (2, .int i2), (3, .int a3)]) hx hb dX3_rankOf_68 hl (k := 4) rfl (Option.some.inj e6) (by decide) rfl (fun ls hl => ?_)
              refine lv_goto (tgt := 15) hx hb dX3_rankOf_71 (by decide) ?_
              exact ih i2 v6 x _ _ _ _ h hH (lv_sub hl [1, 2, 3, 4, 0] rfl) kk
            · have h := mm_neg c5 h
              obtain ⟨v7, e7, h⟩ := mm_bnd h
              refine lv_iinc (v := v7) (lv' := [(2, .int v7), (0, .ref (b + 1)), (1, .int a1), (3, .int a3), (4, .int i4)]) hx hb dX3_rankOf_65 hl (k := 2) rfl (Option.some.inj e7) (by decide) rfl (fun ls hl => ?_)
              obtain ⟨v8, e8, h⟩ := mm_bnd h
              refine lv_iinc (v := v8) (lv' := [(4, .int v8), (2, .int v7), (0, .ref (b + 1)), (1, .int a1), (3, .int a3)]) hx hb dX3_rankOf_68 hl (k := 4) rfl (Option.some.inj e8) (by decide) rfl (fun ls hl => ?_)
              refine lv_goto (tgt := 15) hx hb dX3_rankOf_71 (by decide) ?_
              exact ih v7 v8 x _ _ _ _ h hH (lv_sub hl [2, 3, 1, 4, 0] rfl) kk
set_option maxRecDepth 100000 in
set_option maxHeartbeats 4000000 in
theorem ct_X3_rankOf (l : Launch) (G : va_G) (T : Nat → ClassId) (b : Nat) (z : Nat → Nat) (a1 : Int32) (x : mm_M) {r : Int32} (h : fn_X3_rankOf a1 x = some r) : mm_Ci l yX3_rankOf wsX3_rankOf rm_X3_rankOf G T b z [.ref (b + 1), .int a1] x r x := by
  unfold fn_X3_rankOf at h
  refine mm_start (cc := cX3_rankOf) (maxL := 6) (ret := (some .int)) (by decide) rfl (Nat.le_of_ble_eq_true rfl) (fun p e s m below meth c ls C hr hlk hH hl => ?_)
  have hl : lv_has ls 6 [(0, .ref (b + 1)), (1, .int a1)] := hl
  have hx := C.1
  have hb := C.2.1
  have w1 := C.2.2.2.2.1 (.fieldLink RX3 25 "LandingFines$River" "landings" "[LLandingFines$Landing;") (by decide +kernel)
  have w2 := C.2.2.2.2.1 (.fieldLink RX3 88 "LandingFines$Landing" "fare" "I") (by decide +kernel)
  have hin1 : ∀ w ∈ wsX10, w ∈ wsX3_rankOf := by decide +kernel
  have hin3 : ∀ w ∈ wsX30, w ∈ wsX3_rankOf := by decide +kernel
  refine lv_iconst (v := 0) hx hb dX3_rankOf_0 (by decide) ?_
  refine lv_istore_n (lv' := [(2, .int 0), (0, .ref (b + 1)), (1, .int a1)]) hx hb dX3_rankOf_1 rfl hl (by decide) rfl (fun ls hl => ?_)
  refine lv_aload_n hx hb dX3_rankOf_2 rfl (lv_at hl 1 rfl) ?_
  refine mm_get (v := .ref (b + 3)) C hH hin3 rfl kl_1 (mm_e3 kd_1) (j := 1) (by decide) rfl w1 rfl dX3_rankOf_3 ?_
  refine lv_iload_n hx hb dX3_rankOf_6 rfl (lv_at hl 2 rfl) ?_
  obtain ⟨g1, h⟩ := mm_grn h
  refine mm_ald9 C hH kd_3 g1 dX3_rankOf_7 ?_
  refine mm_get (v := .int (x (3 + 5 + Int32.toNatClampNeg a1) 1)) C hH hin1 rfl (mm_lt (mm_ldc g1) (by decide)) (mm_e1 (mm_ldc g1)) (j := 1) (by decide) rfl w2 rfl dX3_rankOf_8 ?_
  obtain ⟨v1, e1, h⟩ := mm_bnd h
  refine mm_nmi e1 ?_
  refine lv_istore_n (lv' := [(3, .int v1), (2, .int 0), (0, .ref (b + 1)), (1, .int a1)]) hx hb dX3_rankOf_11 rfl hl (by decide) rfl (fun ls hl => ?_)
  refine lv_iconst (v := 0) hx hb dX3_rankOf_12 (by decide) ?_
  refine lv_istore (lv' := [(4, .int 0), (3, .int v1), (2, .int 0), (0, .ref (b + 1)), (1, .int a1)]) hx hb dX3_rankOf_13 hl (by decide) rfl (fun ls hl => ?_)
  obtain ⟨v2, e2, h⟩ := mm_bnd h
  refine lp_X3_rankOf_15 C a1 v1 9 0 0 x _ _ _ _ e2 hH (lv_sub hl [3, 4, 2, 1, 0] rfl) (fun H locs ls hH hl => ?_)
  refine lv_iload_n hx hb dX3_rankOf_74 rfl (lv_at hl 0 rfl) ?_
  exact mm_iretP C hH hr hlk rfl h dX3_rankOf_75
def fn_X3_chosen_2 : Nat → Int32 → Int32 → mm_M → Option Int32
  | 0, _, _, _ => none
  | n + 1, a1, i2, x => if (x 1 2) ≤ i2 then some ((-1) : Int32) else if i2 < 0 ∨ 8 ≤ Int32.toNatClampNeg i2 then none else (fn_X1_canBeTaken (3 + 5 + Int32.toNatClampNeg i2) x).bind fun v1 => if v1 = 0 then (some (i2 + 1)).bind fun v2 => fn_X3_chosen_2 n a1 v2 x else (fn_X3_rankOf i2 x).bind fun v3 => if v3 = a1 then some i2 else (some (i2 + 1)).bind fun v4 => fn_X3_chosen_2 n a1 v4 x
def fn_X3_chosen (a1 : Int32) (x : mm_M) : Option Int32 :=
  fn_X3_chosen_2 9 a1 0 x
abbrev rm_X3_chosen : Room := { frames := 2, cells := 0, slots := 0, locals := 45 }
theorem df_X3_chosen : yX3_chosen.cls = RX3 ∧ yX3_chosen.cls ≠ "java/lang/invoke/MethodHandle" ∧ yX3_chosen.cls ≠ "java/lang/invoke/VarHandle" ∧ (parseMethodDescriptor yX3_chosen.desc).map (fun d => d.parameters.length) = some 1 := by decide +kernel
set_option maxRecDepth 100000 in
set_option maxHeartbeats 4000000 in
theorem lp_X3_chosen_2 {p : Program} {l : Launch} {e : Env} {s : State} {m : MethodId} {args : Array Value} {below : List Frame} {meth : Method} {c : Code} {G : va_G} {T : Nat → ClassId} {b : Nat} {z : Nat → Nat} (C : mm_C p m c cX3_chosen 3 s args wsX3_chosen RX3 G T b z) (a1 : Int32) (hr : meth.sig.returnType = (some .int)) (hlk : meth.locks = false) : ∀ (n : Nat) (i2 : Int32) (x : mm_M) (H : Heap) (locs : List Loc) (ls : Array Slot) (r : Int32), fn_X3_chosen_2 n a1 i2 x = some r → mm_H G T b x s H locs → lv_has ls 3 [(0, .ref (b + 1)), (1, .int a1), (2, .int i2)] → W p l e rm_X3_chosen s m args below meth c H locs 0 0 (MQ below (mm_Qi G T b r x) args s 0 0 (fun q => b ≤ q)) (F0 m 2 ls []) := by
  have hx := C.1
  have hb := C.2.1
  have w1 := C.2.2.2.2.1 (.fieldLink RX3 29 "LandingFines$River" "landingCount" "I") (by decide +kernel)
  have w2 := C.2.2.2.2.1 (.fieldLink RX3 25 "LandingFines$River" "landings" "[LLandingFines$Landing;") (by decide +kernel)
  have hin3 : ∀ w ∈ wsX30, w ∈ wsX3_chosen := by decide +kernel
  intro n
  induction n with
  | zero => intro _ _ _ _ _ _ h; cases (show (none : Option Int32) = some _ from h)
  | succ n ih =>
    intro i2 x H locs ls r h hH hl
    rw [fn_X3_chosen_2] at h
    refine lv_iload_n hx hb dX3_chosen_2 rfl (lv_at hl 2 rfl) ?_
    refine lv_aload_n hx hb dX3_chosen_3 rfl (lv_at hl 0 rfl) ?_
    refine mm_get (v := .int (x 1 2)) C hH hin3 rfl kl_1 (mm_e3 kd_1) (j := 2) (by decide) rfl w1 rfl dX3_chosen_4 ?_
    refine lv_icmp_ge (tgt := 39) hx hb dX3_chosen_7 (by decide) (fun c1 => ?_) (fun c1 => ?_)
    · have h := mm_pos c1 h
      have hl := lv_sub (l' := []) hl [] rfl
      refine lv_iconst (v := (-1)) hx hb dX3_chosen_39 (by decide) ?_
      exact mm_iretP C hH hr hlk rfl h dX3_chosen_40
    · have h := mm_neg c1 h
      refine lv_aload_n hx hb dX3_chosen_10 rfl (lv_at hl 0 rfl) ?_
      refine mm_get (v := .ref (b + 3)) C hH hin3 rfl kl_1 (mm_e3 kd_1) (j := 1) (by decide) rfl w2 rfl dX3_chosen_11 ?_
      refine lv_iload_n hx hb dX3_chosen_14 rfl (lv_at hl 2 rfl) ?_
      obtain ⟨g1, h⟩ := mm_grn h
      refine mm_ald9 C hH kd_3 g1 dX3_chosen_15 ?_
      obtain ⟨v1, e1, h⟩ := mm_bnd h
      refine mm_goi hH (va_runV (As := []) (rest := []) ⟨hx, hb, C.2.2.1, C.2.2.2.1, C.2.2.2.2.1⟩ (ct_X1_canBeTaken l G T b z (3 + 5 + Int32.toNatClampNeg i2) x e1) (cwV 0 C.2.2.2.2.1 gX3_chosen_X1_canBeTaken rfl rfl rfl df_X1_canBeTaken ⟨Nat.le_of_ble_eq_true rfl, Nat.le_of_ble_eq_true rfl⟩) ⟨mm_B.blind, mm_recv (q := (RX1, TX1, 8)) C hH (mm_lt (mm_ldc g1) (by decide)) (mm_e1 (mm_ldc g1)) rfl, mm_pre C hH⟩ rfl rfl hl.1 rfl (lv_room (Nat.le_of_ble_eq_true rfl)) dX3_chosen_16 ⟨Nat.zero_le _, Nat.zero_le _⟩) (fun H locs hH => ?_)
      refine lv_if_eq (tgt := 33) hx hb dX3_chosen_19 (by decide) (fun c2 => ?_) (fun c2 => ?_)
      · have h := mm_pos c2 h
        obtain ⟨v2, e2, h⟩ := mm_bnd h
        refine lv_iinc (v := v2) (lv' := [(2, .int v2), (0, .ref (b + 1)), (1, .int a1)]) hx hb dX3_chosen_33 hl (k := 2) rfl (Option.some.inj e2) (by decide) rfl (fun ls hl => ?_)
        refine lv_goto (tgt := 2) hx hb dX3_chosen_36 (by decide) ?_
        exact ih v2 x _ _ _ _ h hH (lv_sub hl [1, 2, 0] rfl)
      · have h := mm_neg c2 h
        refine lv_aload_n hx hb dX3_chosen_22 rfl (lv_at hl 0 rfl) ?_
        refine lv_iload_n hx hb dX3_chosen_23 rfl (lv_at hl 2 rfl) ?_
        obtain ⟨v3, e3, h⟩ := mm_bnd h
        refine mm_goi hH (va_runV (As := [.int i2]) (rest := []) ⟨hx, hb, C.2.2.1, C.2.2.2.1, C.2.2.2.2.1⟩ (ct_X3_rankOf l G T b z i2 x e3) (cwV 1 C.2.2.2.2.1 gX3_chosen_X3_rankOf rfl rfl rfl df_X3_rankOf ⟨Nat.le_of_ble_eq_true rfl, Nat.le_of_ble_eq_true rfl⟩) ⟨mm_B.blind, mm_recv (q := (RX3, TX3, 7)) C hH kl_1 (mm_e3 kd_1) rfl, mm_pre C hH⟩ rfl rfl hl.1 rfl (lv_room (Nat.le_of_ble_eq_true rfl)) dX3_chosen_24 ⟨Nat.zero_le _, Nat.zero_le _⟩) (fun H locs hH => ?_)
        refine lv_iload_n hx hb dX3_chosen_27 rfl (lv_at hl 1 rfl) ?_
        refine lv_icmp_ne (tgt := 33) hx hb dX3_chosen_28 (by decide) (fun c3 => ?_) (fun c3 => ?_)
        · have h := mm_neg c3 h
          obtain ⟨v4, e4, h⟩ := mm_bnd h
          refine lv_iinc (v := v4) (lv' := [(2, .int v4), (0, .ref (b + 1)), (1, .int a1)]) hx hb dX3_chosen_33 hl (k := 2) rfl (Option.some.inj e4) (by decide) rfl (fun ls hl => ?_)
          refine lv_goto (tgt := 2) hx hb dX3_chosen_36 (by decide) ?_
          exact ih v4 x _ _ _ _ h hH (lv_sub hl [1, 2, 0] rfl)
        · have h := mm_pos c3 h
          have hl := lv_sub (l' := [(2, .int i2)]) hl [2] rfl
          refine lv_iload_n hx hb dX3_chosen_31 rfl (lv_at hl 0 rfl) ?_
          exact mm_iretP C hH hr hlk rfl h dX3_chosen_32
set_option maxRecDepth 100000 in
set_option maxHeartbeats 4000000 in
theorem ct_X3_chosen (l : Launch) (G : va_G) (T : Nat → ClassId) (b : Nat) (z : Nat → Nat) (a1 : Int32) (x : mm_M) {r : Int32} (h : fn_X3_chosen a1 x = some r) : mm_Ci l yX3_chosen wsX3_chosen rm_X3_chosen G T b z [.ref (b + 1), .int a1] x r x := by
  unfold fn_X3_chosen at h
  refine mm_start (cc := cX3_chosen) (maxL := 3) (ret := (some .int)) (by decide) rfl (Nat.le_of_ble_eq_true rfl) (fun p e s m below meth c ls C hr hlk hH hl => ?_)
  have hl : lv_has ls 3 [(0, .ref (b + 1)), (1, .int a1)] := hl
  have hx := C.1
  have hb := C.2.1
  refine lv_iconst (v := 0) hx hb dX3_chosen_0 (by decide) ?_
  refine lv_istore_n (lv' := [(2, .int 0), (0, .ref (b + 1)), (1, .int a1)]) hx hb dX3_chosen_1 rfl hl (by decide) rfl (fun ls hl => ?_)
  exact lp_X3_chosen_2 C a1  hr hlk 9 0 x _ _ _ _ h hH (lv_sub hl [1, 2, 0] rfl)
def fn_X3_openOnes_4 : Nat → Int32 → Int32 → mm_M → Option Int32
  | 0, _, _, _ => none
  | n + 1, i1, i2, x => if (x 1 2) ≤ i2 then some (i1) else if i2 < 0 ∨ 8 ≤ Int32.toNatClampNeg i2 then none else if (x (3 + 5 + Int32.toNatClampNeg i2) 0) = 0 then (some (i2 + 1)).bind fun v1 => fn_X3_openOnes_4 n  i1 v1 x else (some ((i1 ||| ((1 : Int32) <<< (i2 &&& 31))) : Int32)).bind fun v2 => (some (i2 + 1)).bind fun v3 => fn_X3_openOnes_4 n  v2 v3 x
def fn_X3_openOnes  (x : mm_M) : Option Int32 :=
  (fn_X3_openOnes_4 9 0 0 x).bind fun v1 => some v1
abbrev rm_X3_openOnes : Room := { frames := 0, cells := 0, slots := 0, locals := 0 }
theorem df_X3_openOnes : yX3_openOnes.cls = RX3 ∧ yX3_openOnes.cls ≠ "java/lang/invoke/MethodHandle" ∧ yX3_openOnes.cls ≠ "java/lang/invoke/VarHandle" ∧ (parseMethodDescriptor yX3_openOnes.desc).map (fun d => d.parameters.length) = some 0 := by decide +kernel
set_option maxRecDepth 100000 in
set_option maxHeartbeats 4000000 in
theorem lp_X3_openOnes_4 {p : Program} {l : Launch} {e : Env} {s : State} {m : MethodId} {args : Array Value} {below : List Frame} {meth : Method} {c : Code} {Q : State → Prop} {G : va_G} {T : Nat → ClassId} {b : Nat} {z : Nat → Nat} (C : mm_C p m c cX3_openOnes 3 s args wsX3_openOnes RX3 G T b z)  : ∀ (n : Nat) (i1 : Int32) (i2 : Int32) (x : mm_M) (H : Heap) (locs : List Loc) (ls : Array Slot) (r1 : Int32), fn_X3_openOnes_4 n i1 i2 x = some (r1) → mm_H G T b x s H locs → lv_has ls 3 [(0, .ref (b + 1)), (1, .int i1), (2, .int i2)] → (∀ (H1 : Heap) (locs1 : List Loc) (ls1 : Array Slot), mm_H G T b x s H1 locs1 → lv_has ls1 3 [(1, .int r1)] → W p l e rm_X3_openOnes s m args below meth c H1 locs1 0 0 Q (F0 m 36 ls1 [])) → W p l e rm_X3_openOnes s m args below meth c H locs 0 0 Q (F0 m 4 ls []) := by
  have hx := C.1
  have hb := C.2.1
  have w1 := C.2.2.2.2.1 (.fieldLink RX3 29 "LandingFines$River" "landingCount" "I") (by decide +kernel)
  have w2 := C.2.2.2.2.1 (.fieldLink RX3 25 "LandingFines$River" "landings" "[LLandingFines$Landing;") (by decide +kernel)
  have w3 := C.2.2.2.2.1 (.fieldLink RX3 80 "LandingFines$Landing" "isOpen" "Z") (by decide +kernel)
  have hin1 : ∀ w ∈ wsX10, w ∈ wsX3_openOnes := by decide +kernel
  have hin3 : ∀ w ∈ wsX30, w ∈ wsX3_openOnes := by decide +kernel
  intro n
  induction n with
  | zero => intro _ _ _ _ _ _ _ h; cases (show (none : Option Int32) = some _ from h)
  | succ n ih =>
    intro i1 i2 x H locs ls r1 h hH hl kk
    rw [fn_X3_openOnes_4] at h
    refine lv_iload_n hx hb dX3_openOnes_4 rfl (lv_at hl 2 rfl) ?_
    refine lv_aload_n hx hb dX3_openOnes_5 rfl (lv_at hl 0 rfl) ?_
    refine mm_get (v := .int (x 1 2)) C hH hin3 rfl kl_1 (mm_e3 kd_1) (j := 2) (by decide) rfl w1 rfl dX3_openOnes_6 ?_
    refine lv_icmp_ge (tgt := 36) hx hb dX3_openOnes_9 (by decide) (fun c1 => ?_) (fun c1 => ?_)
    · have h := mm_pos c1 h
      have hl := lv_sub (l' := [(1, .int i1)]) hl [1] rfl
      cases h
      exact kk _ _ _ hH (lv_sub hl [0] rfl)
    · have h := mm_neg c1 h
      refine lv_aload_n hx hb dX3_openOnes_12 rfl (lv_at hl 0 rfl) ?_
      refine mm_get (v := .ref (b + 3)) C hH hin3 rfl kl_1 (mm_e3 kd_1) (j := 1) (by decide) rfl w2 rfl dX3_openOnes_13 ?_
      refine lv_iload_n hx hb dX3_openOnes_16 rfl (lv_at hl 2 rfl) ?_
      obtain ⟨g1, h⟩ := mm_grn h
      refine mm_ald9 C hH kd_3 g1 dX3_openOnes_17 ?_
      refine mm_get (v := .int (x (3 + 5 + Int32.toNatClampNeg i2) 0)) C hH hin1 rfl (mm_lt (mm_ldc g1) (by decide)) (mm_e1 (mm_ldc g1)) (j := 0) (by decide) rfl w3 rfl dX3_openOnes_18 ?_
      refine lv_if_eq (tgt := 30) hx hb dX3_openOnes_21 (by decide) (fun c2 => ?_) (fun c2 => ?_)
      · have h := mm_pos c2 h
        obtain ⟨v1, e1, h⟩ := mm_bnd h
        refine lv_iinc (v := v1) (lv' := [(2, .int v1), (0, .ref (b + 1)), (1, .int i1)]) hx hb dX3_openOnes_30 hl (k := 2) rfl (Option.some.inj e1) (by decide) rfl (fun ls hl => ?_)
        refine lv_goto (tgt := 4) hx hb dX3_openOnes_33 (by decide) ?_
        exact ih i1 v1 x _ _ _ _ h hH (lv_sub hl [1, 2, 0] rfl) kk
      · have h := mm_neg c2 h
        refine lv_iload_n hx hb dX3_openOnes_24 rfl (lv_at hl 1 rfl) ?_
        refine lv_iconst (v := 1) hx hb dX3_openOnes_25 (by decide) ?_
        refine lv_iload_n hx hb dX3_openOnes_26 rfl (lv_at hl 2 rfl) ?_
        refine lv_ishl hx hb dX3_openOnes_27 ?_
        refine lv_ior hx hb dX3_openOnes_28 ?_
        obtain ⟨v2, e2, h⟩ := mm_bnd h
        refine mm_nmi e2 ?_
        refine lv_istore_n (lv' := [(1, .int v2), (0, .ref (b + 1)), (2, .int i2)]) hx hb dX3_openOnes_29 rfl hl (by decide) rfl (fun ls hl => ?_)
        obtain ⟨v3, e3, h⟩ := mm_bnd h
        refine lv_iinc (v := v3) (lv' := [(2, .int v3), (1, .int v2), (0, .ref (b + 1))]) hx hb dX3_openOnes_30 hl (k := 2) rfl (Option.some.inj e3) (by decide) rfl (fun ls hl => ?_)
        refine lv_goto (tgt := 4) hx hb dX3_openOnes_33 (by decide) ?_
        exact ih v2 v3 x _ _ _ _ h hH (lv_sub hl [2, 1, 0] rfl) kk
set_option maxRecDepth 100000 in
set_option maxHeartbeats 4000000 in
theorem ct_X3_openOnes (l : Launch) (G : va_G) (T : Nat → ClassId) (b : Nat) (z : Nat → Nat)  (x : mm_M) {r : Int32} (h : fn_X3_openOnes  x = some r) : mm_Ci l yX3_openOnes wsX3_openOnes rm_X3_openOnes G T b z [.ref (b + 1)] x r x := by
  unfold fn_X3_openOnes at h
  refine mm_start (cc := cX3_openOnes) (maxL := 3) (ret := (some .int)) (by decide) rfl (Nat.le_of_ble_eq_true rfl) (fun p e s m below meth c ls C hr hlk hH hl => ?_)
  have hl : lv_has ls 3 [(0, .ref (b + 1))] := hl
  have hx := C.1
  have hb := C.2.1
  refine lv_iconst (v := 0) hx hb dX3_openOnes_0 (by decide) ?_
  refine lv_istore_n (lv' := [(1, .int 0), (0, .ref (b + 1))]) hx hb dX3_openOnes_1 rfl hl (by decide) rfl (fun ls hl => ?_)
  refine lv_iconst (v := 0) hx hb dX3_openOnes_2 (by decide) ?_
  refine lv_istore_n (lv' := [(2, .int 0), (1, .int 0), (0, .ref (b + 1))]) hx hb dX3_openOnes_3 rfl hl (by decide) rfl (fun ls hl => ?_)
  obtain ⟨v1, e1, h⟩ := mm_bnd h
  refine lp_X3_openOnes_4 C 9 0 0 x _ _ _ _ e1 hH (lv_sub hl [2, 1, 0] rfl) (fun H locs ls hH hl => ?_)
  refine lv_iload_n hx hb dX3_openOnes_36 rfl (lv_at hl 0 rfl) ?_
  exact mm_iretP C hH hr hlk rfl h dX3_openOnes_37
def fn_X3_shunnedOnes_4 : Nat → Int32 → Int32 → mm_M → Option Int32
  | 0, _, _, _ => none
  | n + 1, i1, i2, x => if (x 1 2) ≤ i2 then some (i1) else if i2 < 0 ∨ 8 ≤ Int32.toNatClampNeg i2 then none else if (x (3 + 5 + Int32.toNatClampNeg i2) 3) = 0 then (some (i2 + 1)).bind fun v1 => fn_X3_shunnedOnes_4 n  i1 v1 x else (some ((i1 ||| ((1 : Int32) <<< (i2 &&& 31))) : Int32)).bind fun v2 => (some (i2 + 1)).bind fun v3 => fn_X3_shunnedOnes_4 n  v2 v3 x
def fn_X3_shunnedOnes  (x : mm_M) : Option Int32 :=
  (fn_X3_shunnedOnes_4 9 0 0 x).bind fun v1 => some v1
abbrev rm_X3_shunnedOnes : Room := { frames := 0, cells := 0, slots := 0, locals := 0 }
theorem df_X3_shunnedOnes : yX3_shunnedOnes.cls = RX3 ∧ yX3_shunnedOnes.cls ≠ "java/lang/invoke/MethodHandle" ∧ yX3_shunnedOnes.cls ≠ "java/lang/invoke/VarHandle" ∧ (parseMethodDescriptor yX3_shunnedOnes.desc).map (fun d => d.parameters.length) = some 0 := by decide +kernel
set_option maxRecDepth 100000 in
set_option maxHeartbeats 4000000 in
theorem lp_X3_shunnedOnes_4 {p : Program} {l : Launch} {e : Env} {s : State} {m : MethodId} {args : Array Value} {below : List Frame} {meth : Method} {c : Code} {Q : State → Prop} {G : va_G} {T : Nat → ClassId} {b : Nat} {z : Nat → Nat} (C : mm_C p m c cX3_shunnedOnes 3 s args wsX3_shunnedOnes RX3 G T b z)  : ∀ (n : Nat) (i1 : Int32) (i2 : Int32) (x : mm_M) (H : Heap) (locs : List Loc) (ls : Array Slot) (r1 : Int32), fn_X3_shunnedOnes_4 n i1 i2 x = some (r1) → mm_H G T b x s H locs → lv_has ls 3 [(0, .ref (b + 1)), (1, .int i1), (2, .int i2)] → (∀ (H1 : Heap) (locs1 : List Loc) (ls1 : Array Slot), mm_H G T b x s H1 locs1 → lv_has ls1 3 [(1, .int r1)] → W p l e rm_X3_shunnedOnes s m args below meth c H1 locs1 0 0 Q (F0 m 36 ls1 [])) → W p l e rm_X3_shunnedOnes s m args below meth c H locs 0 0 Q (F0 m 4 ls []) := by
  have hx := C.1
  have hb := C.2.1
  have w1 := C.2.2.2.2.1 (.fieldLink RX3 29 "LandingFines$River" "landingCount" "I") (by decide +kernel)
  have w2 := C.2.2.2.2.1 (.fieldLink RX3 25 "LandingFines$River" "landings" "[LLandingFines$Landing;") (by decide +kernel)
  have w3 := C.2.2.2.2.1 (.fieldLink RX3 148 "LandingFines$Landing" "isShunned" "Z") (by decide +kernel)
  have hin1 : ∀ w ∈ wsX10, w ∈ wsX3_shunnedOnes := by decide +kernel
  have hin3 : ∀ w ∈ wsX30, w ∈ wsX3_shunnedOnes := by decide +kernel
  intro n
  induction n with
  | zero => intro _ _ _ _ _ _ _ h; cases (show (none : Option Int32) = some _ from h)
  | succ n ih =>
    intro i1 i2 x H locs ls r1 h hH hl kk
    rw [fn_X3_shunnedOnes_4] at h
    refine lv_iload_n hx hb dX3_shunnedOnes_4 rfl (lv_at hl 2 rfl) ?_
    refine lv_aload_n hx hb dX3_shunnedOnes_5 rfl (lv_at hl 0 rfl) ?_
    refine mm_get (v := .int (x 1 2)) C hH hin3 rfl kl_1 (mm_e3 kd_1) (j := 2) (by decide) rfl w1 rfl dX3_shunnedOnes_6 ?_
    refine lv_icmp_ge (tgt := 36) hx hb dX3_shunnedOnes_9 (by decide) (fun c1 => ?_) (fun c1 => ?_)
    · have h := mm_pos c1 h
      have hl := lv_sub (l' := [(1, .int i1)]) hl [1] rfl
      cases h
      exact kk _ _ _ hH (lv_sub hl [0] rfl)
    · have h := mm_neg c1 h
      refine lv_aload_n hx hb dX3_shunnedOnes_12 rfl (lv_at hl 0 rfl) ?_
      refine mm_get (v := .ref (b + 3)) C hH hin3 rfl kl_1 (mm_e3 kd_1) (j := 1) (by decide) rfl w2 rfl dX3_shunnedOnes_13 ?_
      refine lv_iload_n hx hb dX3_shunnedOnes_16 rfl (lv_at hl 2 rfl) ?_
      obtain ⟨g1, h⟩ := mm_grn h
      refine mm_ald9 C hH kd_3 g1 dX3_shunnedOnes_17 ?_
      refine mm_get (v := .int (x (3 + 5 + Int32.toNatClampNeg i2) 3)) C hH hin1 rfl (mm_lt (mm_ldc g1) (by decide)) (mm_e1 (mm_ldc g1)) (j := 3) (by decide) rfl w3 rfl dX3_shunnedOnes_18 ?_
      refine lv_if_eq (tgt := 30) hx hb dX3_shunnedOnes_21 (by decide) (fun c2 => ?_) (fun c2 => ?_)
      · have h := mm_pos c2 h
        obtain ⟨v1, e1, h⟩ := mm_bnd h
        refine lv_iinc (v := v1) (lv' := [(2, .int v1), (0, .ref (b + 1)), (1, .int i1)]) hx hb dX3_shunnedOnes_30 hl (k := 2) rfl (Option.some.inj e1) (by decide) rfl (fun ls hl => ?_)
        refine lv_goto (tgt := 4) hx hb dX3_shunnedOnes_33 (by decide) ?_
        exact ih i1 v1 x _ _ _ _ h hH (lv_sub hl [1, 2, 0] rfl) kk
      · have h := mm_neg c2 h
        refine lv_iload_n hx hb dX3_shunnedOnes_24 rfl (lv_at hl 1 rfl) ?_
        refine lv_iconst (v := 1) hx hb dX3_shunnedOnes_25 (by decide) ?_
        refine lv_iload_n hx hb dX3_shunnedOnes_26 rfl (lv_at hl 2 rfl) ?_
        refine lv_ishl hx hb dX3_shunnedOnes_27 ?_
        refine lv_ior hx hb dX3_shunnedOnes_28 ?_
        obtain ⟨v2, e2, h⟩ := mm_bnd h
        refine mm_nmi e2 ?_
        refine lv_istore_n (lv' := [(1, .int v2), (0, .ref (b + 1)), (2, .int i2)]) hx hb dX3_shunnedOnes_29 rfl hl (by decide) rfl (fun ls hl => ?_)
        obtain ⟨v3, e3, h⟩ := mm_bnd h
        refine lv_iinc (v := v3) (lv' := [(2, .int v3), (1, .int v2), (0, .ref (b + 1))]) hx hb dX3_shunnedOnes_30 hl (k := 2) rfl (Option.some.inj e3) (by decide) rfl (fun ls hl => ?_)
        refine lv_goto (tgt := 4) hx hb dX3_shunnedOnes_33 (by decide) ?_
        exact ih v2 v3 x _ _ _ _ h hH (lv_sub hl [2, 1, 0] rfl) kk
set_option maxRecDepth 100000 in
set_option maxHeartbeats 4000000 in
theorem ct_X3_shunnedOnes (l : Launch) (G : va_G) (T : Nat → ClassId) (b : Nat) (z : Nat → Nat)  (x : mm_M) {r : Int32} (h : fn_X3_shunnedOnes  x = some r) : mm_Ci l yX3_shunnedOnes wsX3_shunnedOnes rm_X3_shunnedOnes G T b z [.ref (b + 1)] x r x := by
  unfold fn_X3_shunnedOnes at h
  refine mm_start (cc := cX3_shunnedOnes) (maxL := 3) (ret := (some .int)) (by decide) rfl (Nat.le_of_ble_eq_true rfl) (fun p e s m below meth c ls C hr hlk hH hl => ?_)
  have hl : lv_has ls 3 [(0, .ref (b + 1))] := hl
  have hx := C.1
  have hb := C.2.1
  refine lv_iconst (v := 0) hx hb dX3_shunnedOnes_0 (by decide) ?_
  refine lv_istore_n (lv' := [(1, .int 0), (0, .ref (b + 1))]) hx hb dX3_shunnedOnes_1 rfl hl (by decide) rfl (fun ls hl => ?_)
  refine lv_iconst (v := 0) hx hb dX3_shunnedOnes_2 (by decide) ?_
  refine lv_istore_n (lv' := [(2, .int 0), (1, .int 0), (0, .ref (b + 1))]) hx hb dX3_shunnedOnes_3 rfl hl (by decide) rfl (fun ls hl => ?_)
  obtain ⟨v1, e1, h⟩ := mm_bnd h
  refine lp_X3_shunnedOnes_4 C 9 0 0 x _ _ _ _ e1 hH (lv_sub hl [2, 1, 0] rfl) (fun H locs ls hH hl => ?_)
  refine lv_iload_n hx hb dX3_shunnedOnes_36 rfl (lv_at hl 0 rfl) ?_
  exact mm_iretP C hH hr hlk rfl h dX3_shunnedOnes_37
def fn_X3_tell (a1 : Int32) (x : mm_M) : Option Int32 :=
  if a1 = 0 then some (x 1 3) else if a1 = 1 then some (x 1 2) else if a1 = 2 then (fn_X3_openOnes x).bind fun v1 => some v1 else if a1 = 3 then (fn_X3_shunnedOnes x).bind fun v2 => some v2 else if a1 = 4 then some (x 1 4) else if a1 = 5 then some (x 1 5) else if a1 = 6 then some (x 4 3) else if a1 < 7 then some ((-2) : Int32) else if (7 : Int32) ≤ (a1 - 7) then some ((-2) : Int32) else if (a1 - 7) < 0 ∨ 7 ≤ Int32.toNatClampNeg (a1 - 7) then none else some (x 2 (Int32.toNatClampNeg (a1 - 7)))
abbrev rm_X3_tell : Room := { frames := 1, cells := 0, slots := 0, locals := 22 }
theorem df_X3_tell : yX3_tell.cls = RX3 ∧ yX3_tell.cls ≠ "java/lang/invoke/MethodHandle" ∧ yX3_tell.cls ≠ "java/lang/invoke/VarHandle" ∧ (parseMethodDescriptor yX3_tell.desc).map (fun d => d.parameters.length) = some 1 := by decide +kernel
set_option maxRecDepth 100000 in
set_option maxHeartbeats 4000000 in
theorem ct_X3_tell (l : Launch) (G : va_G) (T : Nat → ClassId) (b : Nat) (z : Nat → Nat) (a1 : Int32) (x : mm_M) {r : Int32} (h : fn_X3_tell a1 x = some r) : mm_Ci l yX3_tell wsX3_tell rm_X3_tell G T b z [.ref (b + 1), .int a1] x r x := by
  unfold fn_X3_tell at h
  refine mm_start (cc := cX3_tell) (maxL := 2) (ret := (some .int)) (by decide) rfl (Nat.le_of_ble_eq_true rfl) (fun p e s m below meth c ls C hr hlk hH hl => ?_)
  have hl : lv_has ls 2 [(0, .ref (b + 1)), (1, .int a1)] := hl
  have hx := C.1
  have hb := C.2.1
  have w1 := C.2.2.2.2.1 (.fieldLink RX3 33 "LandingFines$River" "minutesSoFar" "I") (by decide +kernel)
  have w2 := C.2.2.2.2.1 (.fieldLink RX3 29 "LandingFines$River" "landingCount" "I") (by decide +kernel)
  have w3 := C.2.2.2.2.1 (.fieldLink RX3 36 "LandingFines$River" "taken" "I") (by decide +kernel)
  have w4 := C.2.2.2.2.1 (.fieldLink RX3 39 "LandingFines$River" "switches" "I") (by decide +kernel)
  have w5 := C.2.2.2.2.1 (.fieldLink RX3 45 "LandingFines$River" "journal" "LLandingFines$Journal;") (by decide +kernel)
  have w6 := C.2.2.2.2.1 (.fieldLink RX3 145 "LandingFines$Journal" "size" "I") (by decide +kernel)
  have w7 := C.2.2.2.2.1 (.fieldLink RX3 18 "LandingFines$River" "settings" "[I") (by decide +kernel)
  have hin0 : ∀ w ∈ wsX00, w ∈ wsX3_tell := by decide +kernel
  have hin3 : ∀ w ∈ wsX30, w ∈ wsX3_tell := by decide +kernel
  refine lv_iload_n hx hb dX3_tell_0 rfl (lv_at hl 1 rfl) ?_
  by_cases c1 : a1 = 0
  · have h := mm_pos c1 h
    refine lv_tableIn (off := 43) (tgt := 44) hx hb dX3_tell_1 (by rw [c1]; decide) (by rw [c1]; decide) (by rw [c1]; decide) (by decide) ?_
    have hl := lv_sub (l' := [(0, .ref (b + 1))]) hl [0] rfl
    refine lv_aload_n hx hb dX3_tell_44 rfl (lv_at hl 0 rfl) ?_
    refine mm_get (v := .int (x 1 3)) C hH hin3 rfl kl_1 (mm_e3 kd_1) (j := 3) (by decide) rfl w1 rfl dX3_tell_45 ?_
    exact mm_iretP C hH hr hlk rfl h dX3_tell_48
  have h := mm_neg c1 h
  by_cases c2 : a1 = 1
  · have h := mm_pos c2 h
    refine lv_tableIn (off := 48) (tgt := 49) hx hb dX3_tell_1 (by rw [c2]; decide) (by rw [c2]; decide) (by rw [c2]; decide) (by decide) ?_
    have hl := lv_sub (l' := [(0, .ref (b + 1))]) hl [0] rfl
    refine lv_aload_n hx hb dX3_tell_49 rfl (lv_at hl 0 rfl) ?_
    refine mm_get (v := .int (x 1 2)) C hH hin3 rfl kl_1 (mm_e3 kd_1) (j := 2) (by decide) rfl w2 rfl dX3_tell_50 ?_
    exact mm_iretP C hH hr hlk rfl h dX3_tell_53
  have h := mm_neg c2 h
  by_cases c3 : a1 = 2
  · have h := mm_pos c3 h
    refine lv_tableIn (off := 53) (tgt := 54) hx hb dX3_tell_1 (by rw [c3]; decide) (by rw [c3]; decide) (by rw [c3]; decide) (by decide) ?_
    have hl := lv_sub (l' := [(0, .ref (b + 1))]) hl [0] rfl
    refine lv_aload_n hx hb dX3_tell_54 rfl (lv_at hl 0 rfl) ?_
    obtain ⟨v1, e1, h⟩ := mm_bnd h
    refine mm_goi hH (va_runV (As := []) (rest := []) ⟨hx, hb, C.2.2.1, C.2.2.2.1, C.2.2.2.2.1⟩ (ct_X3_openOnes l G T b z x e1) (cwV 0 C.2.2.2.2.1 gX3_tell_X3_openOnes rfl rfl rfl df_X3_openOnes ⟨Nat.le_of_ble_eq_true rfl, Nat.le_of_ble_eq_true rfl⟩) ⟨mm_B.blind, mm_recv (q := (RX3, TX3, 7)) C hH kl_1 (mm_e3 kd_1) rfl, mm_pre C hH⟩ rfl rfl hl.1 rfl (lv_room (Nat.le_of_ble_eq_true rfl)) dX3_tell_55 ⟨Nat.zero_le _, Nat.zero_le _⟩) (fun H locs hH => ?_)
    exact mm_iretP C hH hr hlk rfl h dX3_tell_58
  have h := mm_neg c3 h
  by_cases c4 : a1 = 3
  · have h := mm_pos c4 h
    refine lv_tableIn (off := 58) (tgt := 59) hx hb dX3_tell_1 (by rw [c4]; decide) (by rw [c4]; decide) (by rw [c4]; decide) (by decide) ?_
    have hl := lv_sub (l' := [(0, .ref (b + 1))]) hl [0] rfl
    refine lv_aload_n hx hb dX3_tell_59 rfl (lv_at hl 0 rfl) ?_
    obtain ⟨v2, e2, h⟩ := mm_bnd h
    refine mm_goi hH (va_runV (As := []) (rest := []) ⟨hx, hb, C.2.2.1, C.2.2.2.1, C.2.2.2.2.1⟩ (ct_X3_shunnedOnes l G T b z x e2) (cwV 0 C.2.2.2.2.1 gX3_tell_X3_shunnedOnes rfl rfl rfl df_X3_shunnedOnes ⟨Nat.le_of_ble_eq_true rfl, Nat.le_of_ble_eq_true rfl⟩) ⟨mm_B.blind, mm_recv (q := (RX3, TX3, 7)) C hH kl_1 (mm_e3 kd_1) rfl, mm_pre C hH⟩ rfl rfl hl.1 rfl (lv_room (Nat.le_of_ble_eq_true rfl)) dX3_tell_60 ⟨Nat.zero_le _, Nat.zero_le _⟩) (fun H locs hH => ?_)
    exact mm_iretP C hH hr hlk rfl h dX3_tell_63
  have h := mm_neg c4 h
  by_cases c5 : a1 = 4
  · have h := mm_pos c5 h
    refine lv_tableIn (off := 63) (tgt := 64) hx hb dX3_tell_1 (by rw [c5]; decide) (by rw [c5]; decide) (by rw [c5]; decide) (by decide) ?_
    have hl := lv_sub (l' := [(0, .ref (b + 1))]) hl [0] rfl
    refine lv_aload_n hx hb dX3_tell_64 rfl (lv_at hl 0 rfl) ?_
    refine mm_get (v := .int (x 1 4)) C hH hin3 rfl kl_1 (mm_e3 kd_1) (j := 4) (by decide) rfl w3 rfl dX3_tell_65 ?_
    exact mm_iretP C hH hr hlk rfl h dX3_tell_68
  have h := mm_neg c5 h
  by_cases c6 : a1 = 5
  · have h := mm_pos c6 h
    refine lv_tableIn (off := 68) (tgt := 69) hx hb dX3_tell_1 (by rw [c6]; decide) (by rw [c6]; decide) (by rw [c6]; decide) (by decide) ?_
    have hl := lv_sub (l' := [(0, .ref (b + 1))]) hl [0] rfl
    refine lv_aload_n hx hb dX3_tell_69 rfl (lv_at hl 0 rfl) ?_
    refine mm_get (v := .int (x 1 5)) C hH hin3 rfl kl_1 (mm_e3 kd_1) (j := 5) (by decide) rfl w4 rfl dX3_tell_70 ?_
    exact mm_iretP C hH hr hlk rfl h dX3_tell_73
  have h := mm_neg c6 h
  by_cases c7 : a1 = 6
  · have h := mm_pos c7 h
    refine lv_tableIn (off := 73) (tgt := 74) hx hb dX3_tell_1 (by rw [c7]; decide) (by rw [c7]; decide) (by rw [c7]; decide) (by decide) ?_
    have hl := lv_sub (l' := [(0, .ref (b + 1))]) hl [0] rfl
    refine lv_aload_n hx hb dX3_tell_74 rfl (lv_at hl 0 rfl) ?_
    refine mm_get (v := .ref (b + 4)) C hH hin3 rfl kl_1 (mm_e3 kd_1) (j := 6) (by decide) rfl w5 rfl dX3_tell_75 ?_
    refine mm_get (v := .int (x 4 3)) C hH hin0 rfl kl_4 (mm_e0 kd_4) (j := 3) (by decide) rfl w6 rfl dX3_tell_78 ?_
    exact mm_iretP C hH hr hlk rfl h dX3_tell_81
  have h := mm_neg c7 h
  have nc1 := mm_tn (a := 0) c1 (by decide)
  have nc2 := mm_tn (a := 1) c2 (by decide)
  have nc3 := mm_tn (a := 2) c3 (by decide)
  have nc4 := mm_tn (a := 3) c4 (by decide)
  have nc5 := mm_tn (a := 4) c5 (by decide)
  have nc6 := mm_tn (a := 5) c6 (by decide)
  have nc7 := mm_tn (a := 6) c7 (by decide)
  refine lv_tableOut (tgt := 82) hx hb dX3_tell_1 (by omega) (by decide) ?_
  refine lv_iload_n hx hb dX3_tell_82 rfl (lv_at hl 1 rfl) ?_
  refine lv_bipush (v := 7) hx hb dX3_tell_83 (by decide) ?_
  refine lv_icmp_lt (tgt := 112) hx hb dX3_tell_85 (by decide) (fun c8 => ?_) (fun c8 => ?_)
  · have h := mm_pos c8 h
    have hl := lv_sub (l' := []) hl [] rfl
    refine lv_bipush (v := (-2)) hx hb dX3_tell_112 (by decide) ?_
    exact mm_iretP C hH hr hlk rfl h dX3_tell_114
  · have h := mm_neg c8 h
    refine lv_iload_n hx hb dX3_tell_88 rfl (lv_at hl 1 rfl) ?_
    refine lv_bipush (v := 7) hx hb dX3_tell_89 (by decide) ?_
    refine lv_isub hx hb dX3_tell_91 ?_
    refine lv_aload_n hx hb dX3_tell_92 rfl (lv_at hl 0 rfl) ?_
    refine mm_get (v := .ref (b + 2)) C hH hin3 rfl kl_1 (mm_e3 kd_1) (j := 0) (by decide) rfl w7 rfl dX3_tell_93 ?_
    refine mm_alen (v := 7) C hH kl_2 (mm_e6 kd_2) 0 rfl rfl dX3_tell_96 ?_
    refine lv_icmp_ge (tgt := 112) hx hb dX3_tell_97 (by decide) (fun c9 => ?_) (fun c9 => ?_)
    · have h := mm_pos c9 h
      have hl := lv_sub (l' := []) hl [] rfl
      refine lv_bipush (v := (-2)) hx hb dX3_tell_112 (by decide) ?_
      exact mm_iretP C hH hr hlk rfl h dX3_tell_114
    · have h := mm_neg c9 h
      refine lv_aload_n hx hb dX3_tell_100 rfl (lv_at hl 0 rfl) ?_
      refine mm_get (v := .ref (b + 2)) C hH hin3 rfl kl_1 (mm_e3 kd_1) (j := 0) (by decide) rfl w7 rfl dX3_tell_101 ?_
      refine lv_iload_n hx hb dX3_tell_104 rfl (lv_at hl 1 rfl) ?_
      refine lv_bipush (v := 7) hx hb dX3_tell_105 (by decide) ?_
      refine lv_isub hx hb dX3_tell_107 ?_
      obtain ⟨g1, h⟩ := mm_grn h
      refine mm_iald (n := 7) (jn := (Int32.toNatClampNeg (a1 - 7))) C hH kd_2 ln_2 g1 rfl dX3_tell_108 ?_
      refine lv_goto (tgt := 114) hx hb dX3_tell_109 (by decide) ?_
      have hl := lv_sub (l' := []) hl [] rfl
      exact mm_iretP C hH hr hlk rfl h dX3_tell_114
end
