section
-- ===== PART A: goes FIRST, ahead of the names: the tables' words, and 'selects' of the private methods out of them =====
/-- a private method of a class that the tables say can be made, by its rows of tables_1 -/
def lw_okq (q : MethodName × Nat) : Prop := (q.1.cls ≠ "java/lang/invoke/MethodHandle" ∧ q.1.cls ≠ "java/lang/invoke/VarHandle") ∧ Cond.instantiable q.1.cls q.2 ∈ tables_1 ∧ Cond.privateMethod q.1 ∈ tables_1 ∧ Cond.instanceMethod q.1 ∈ tables_1
theorem lw_p0 : lw_okq (⟨"LandingFines", "keepState", "()V"⟩, 7) := ⟨⟨by decide +kernel, by decide +kernel⟩, List.mem_of_getElem? (i := 10) (by decide +kernel), List.mem_of_getElem? (i := 182) (by decide +kernel), List.mem_of_getElem? (i := 183) (by decide +kernel)⟩
theorem lw_p1 : lw_okq (⟨"LandingFines", "recordUnlessError", "(I)I"⟩, 7) := ⟨⟨by decide +kernel, by decide +kernel⟩, List.mem_of_getElem? (i := 10) (by decide +kernel), List.mem_of_getElem? (i := 210) (by decide +kernel), List.mem_of_getElem? (i := 211) (by decide +kernel)⟩
theorem lw_p2 : lw_okq (⟨"LandingFines", "dropOldest", "()V"⟩, 7) := ⟨⟨by decide +kernel, by decide +kernel⟩, List.mem_of_getElem? (i := 10) (by decide +kernel), List.mem_of_getElem? (i := 214) (by decide +kernel), List.mem_of_getElem? (i := 215) (by decide +kernel)⟩
theorem lw_p3 : lw_okq (⟨"LandingFines", "staysWelcome", "(I)Z"⟩, 7) := ⟨⟨by decide +kernel, by decide +kernel⟩, List.mem_of_getElem? (i := 10) (by decide +kernel), List.mem_of_getElem? (i := 376) (by decide +kernel), List.mem_of_getElem? (i := 377) (by decide +kernel)⟩
theorem lw_p4 : lw_okq (⟨"LandingFines", "carryOutOne", "()I"⟩, 7) := ⟨⟨by decide +kernel, by decide +kernel⟩, List.mem_of_getElem? (i := 10) (by decide +kernel), List.mem_of_getElem? (i := 448) (by decide +kernel), List.mem_of_getElem? (i := 449) (by decide +kernel)⟩
theorem lw_p5 : lw_okq (⟨"LandingFinesModel", "remember", "()V"⟩, 14) := ⟨⟨by decide +kernel, by decide +kernel⟩, List.mem_of_getElem? (i := 465) (by decide +kernel), List.mem_of_getElem? (i := 529) (by decide +kernel), List.mem_of_getElem? (i := 530) (by decide +kernel)⟩
theorem lw_p6 : lw_okq (⟨"LandingFinesModel", "record", "(I)I"⟩, 14) := ⟨⟨by decide +kernel, by decide +kernel⟩, List.mem_of_getElem? (i := 465) (by decide +kernel), List.mem_of_getElem? (i := 533) (by decide +kernel), List.mem_of_getElem? (i := 534) (by decide +kernel)⟩
theorem lw_p7 : lw_okq (⟨"LandingFinesModel", "comes", "(I)I"⟩, 14) := ⟨⟨by decide +kernel, by decide +kernel⟩, List.mem_of_getElem? (i := 465) (by decide +kernel), List.mem_of_getElem? (i := 546) (by decide +kernel), List.mem_of_getElem? (i := 547) (by decide +kernel)⟩
theorem lw_p8 : lw_okq (⟨"LandingFinesModel", "taken", "()I"⟩, 14) := ⟨⟨by decide +kernel, by decide +kernel⟩, List.mem_of_getElem? (i := 465) (by decide +kernel), List.mem_of_getElem? (i := 550) (by decide +kernel), List.mem_of_getElem? (i := 551) (by decide +kernel)⟩
theorem lw_p9 : lw_okq (⟨"LandingFinesModel", "its", "(II)I"⟩, 14) := ⟨⟨by decide +kernel, by decide +kernel⟩, List.mem_of_getElem? (i := 465) (by decide +kernel), List.mem_of_getElem? (i := 554) (by decide +kernel), List.mem_of_getElem? (i := 555) (by decide +kernel)⟩
theorem lw_p10 : lw_okq (⟨"LandingFinesModel", "lay", "(III)V"⟩, 14) := ⟨⟨by decide +kernel, by decide +kernel⟩, List.mem_of_getElem? (i := 465) (by decide +kernel), List.mem_of_getElem? (i := 558) (by decide +kernel), List.mem_of_getElem? (i := 559) (by decide +kernel)⟩
theorem lw_p11 : lw_okq (⟨"LandingFinesModel", "turns", "(II)I"⟩, 14) := ⟨⟨by decide +kernel, by decide +kernel⟩, List.mem_of_getElem? (i := 465) (by decide +kernel), List.mem_of_getElem? (i := 566) (by decide +kernel), List.mem_of_getElem? (i := 567) (by decide +kernel)⟩
theorem lw_p12 : lw_okq (⟨"LandingFinesModel", "isLanding", "(I)Z"⟩, 14) := ⟨⟨by decide +kernel, by decide +kernel⟩, List.mem_of_getElem? (i := 465) (by decide +kernel), List.mem_of_getElem? (i := 570) (by decide +kernel), List.mem_of_getElem? (i := 571) (by decide +kernel)⟩
theorem lw_p13 : lw_okq (⟨"LandingFinesModel", "change", "(IIII)I"⟩, 14) := ⟨⟨by decide +kernel, by decide +kernel⟩, List.mem_of_getElem? (i := 465) (by decide +kernel), List.mem_of_getElem? (i := 574) (by decide +kernel), List.mem_of_getElem? (i := 575) (by decide +kernel)⟩
theorem lw_p14 : lw_okq (⟨"LandingFinesModel", "note", "(II)V"⟩, 14) := ⟨⟨by decide +kernel, by decide +kernel⟩, List.mem_of_getElem? (i := 465) (by decide +kernel), List.mem_of_getElem? (i := 581) (by decide +kernel), List.mem_of_getElem? (i := 582) (by decide +kernel)⟩
theorem lw_p15 : lw_okq (⟨"LandingFinesModel", "costs", "(II)I"⟩, 14) := ⟨⟨by decide +kernel, by decide +kernel⟩, List.mem_of_getElem? (i := 465) (by decide +kernel), List.mem_of_getElem? (i := 593) (by decide +kernel), List.mem_of_getElem? (i := 594) (by decide +kernel)⟩
def lw_privs_1 : List (MethodName × Nat) := [(⟨"LandingFines", "keepState", "()V"⟩, 7), (⟨"LandingFines", "recordUnlessError", "(I)I"⟩, 7), (⟨"LandingFines", "dropOldest", "()V"⟩, 7), (⟨"LandingFines", "staysWelcome", "(I)Z"⟩, 7), (⟨"LandingFines", "carryOutOne", "()I"⟩, 7), (⟨"LandingFinesModel", "remember", "()V"⟩, 14), (⟨"LandingFinesModel", "record", "(I)I"⟩, 14), (⟨"LandingFinesModel", "comes", "(I)I"⟩, 14), (⟨"LandingFinesModel", "taken", "()I"⟩, 14), (⟨"LandingFinesModel", "its", "(II)I"⟩, 14), (⟨"LandingFinesModel", "lay", "(III)V"⟩, 14), (⟨"LandingFinesModel", "turns", "(II)I"⟩, 14), (⟨"LandingFinesModel", "isLanding", "(I)Z"⟩, 14), (⟨"LandingFinesModel", "change", "(IIII)I"⟩, 14), (⟨"LandingFinesModel", "note", "(II)V"⟩, 14), (⟨"LandingFinesModel", "costs", "(II)I"⟩, 14)]
theorem lw_r1 : ∀ q ∈ lw_privs_1, lw_okq q := List.forall_mem_cons.mpr ⟨lw_p0, List.forall_mem_cons.mpr ⟨lw_p1, List.forall_mem_cons.mpr ⟨lw_p2, List.forall_mem_cons.mpr ⟨lw_p3, List.forall_mem_cons.mpr ⟨lw_p4, List.forall_mem_cons.mpr ⟨lw_p5, List.forall_mem_cons.mpr ⟨lw_p6, List.forall_mem_cons.mpr ⟨lw_p7, List.forall_mem_cons.mpr ⟨lw_p8, List.forall_mem_cons.mpr ⟨lw_p9, List.forall_mem_cons.mpr ⟨lw_p10, List.forall_mem_cons.mpr ⟨lw_p11, List.forall_mem_cons.mpr ⟨lw_p12, List.forall_mem_cons.mpr ⟨lw_p13, List.forall_mem_cons.mpr ⟨lw_p14, List.forall_mem_cons.mpr ⟨lw_p15, fun _ h => absurd h List.not_mem_nil⟩⟩⟩⟩⟩⟩⟩⟩⟩⟩⟩⟩⟩⟩⟩⟩
theorem lw_p16 : lw_okq (⟨"LandingFinesModel", "waits", "(I)I"⟩, 14) := ⟨⟨by decide +kernel, by decide +kernel⟩, List.mem_of_getElem? (i := 465) (by decide +kernel), List.mem_of_getElem? (i := 601) (by decide +kernel), List.mem_of_getElem? (i := 602) (by decide +kernel)⟩
theorem lw_p17 : lw_okq (⟨"LandingFinesModel", "minute", "()I"⟩, 14) := ⟨⟨by decide +kernel, by decide +kernel⟩, List.mem_of_getElem? (i := 465) (by decide +kernel), List.mem_of_getElem? (i := 605) (by decide +kernel), List.mem_of_getElem? (i := 606) (by decide +kernel)⟩
theorem lw_p18 : lw_okq (⟨"LandingFinesModel", "tries", "(I)V"⟩, 14) := ⟨⟨by decide +kernel, by decide +kernel⟩, List.mem_of_getElem? (i := 465) (by decide +kernel), List.mem_of_getElem? (i := 609) (by decide +kernel), List.mem_of_getElem? (i := 610) (by decide +kernel)⟩
theorem lw_p19 : lw_okq (⟨"LandingFinesModel", "passes", "()Z"⟩, 14) := ⟨⟨by decide +kernel, by decide +kernel⟩, List.mem_of_getElem? (i := 465) (by decide +kernel), List.mem_of_getElem? (i := 613) (by decide +kernel), List.mem_of_getElem? (i := 614) (by decide +kernel)⟩
theorem lw_p20 : lw_okq (⟨"LandingFinesModel", "mask", "(I)I"⟩, 14) := ⟨⟨by decide +kernel, by decide +kernel⟩, List.mem_of_getElem? (i := 465) (by decide +kernel), List.mem_of_getElem? (i := 625) (by decide +kernel), List.mem_of_getElem? (i := 626) (by decide +kernel)⟩
theorem lw_p21 : lw_okq (⟨"LandingFinesModel", "rank", "(I)I"⟩, 14) := ⟨⟨by decide +kernel, by decide +kernel⟩, List.mem_of_getElem? (i := 465) (by decide +kernel), List.mem_of_getElem? (i := 633) (by decide +kernel), List.mem_of_getElem? (i := 634) (by decide +kernel)⟩
theorem lw_p22 : lw_okq (⟨"LandingFinesModel", "isSteady", "(I)Z"⟩, 14) := ⟨⟨by decide +kernel, by decide +kernel⟩, List.mem_of_getElem? (i := 465) (by decide +kernel), List.mem_of_getElem? (i := 661) (by decide +kernel), List.mem_of_getElem? (i := 662) (by decide +kernel)⟩
theorem lw_p23 : lw_okq (⟨"LandingFinesModel", "isWell", "()Z"⟩, 14) := ⟨⟨by decide +kernel, by decide +kernel⟩, List.mem_of_getElem? (i := 465) (by decide +kernel), List.mem_of_getElem? (i := 678) (by decide +kernel), List.mem_of_getElem? (i := 679) (by decide +kernel)⟩
theorem lw_p24 : lw_okq (⟨"LandingFinesModel", "order", "(Z)I"⟩, 14) := ⟨⟨by decide +kernel, by decide +kernel⟩, List.mem_of_getElem? (i := 465) (by decide +kernel), List.mem_of_getElem? (i := 682) (by decide +kernel), List.mem_of_getElem? (i := 683) (by decide +kernel)⟩
theorem lw_p25 : lw_okq (⟨"LandingFinesModel", "sees", "(II)Z"⟩, 14) := ⟨⟨by decide +kernel, by decide +kernel⟩, List.mem_of_getElem? (i := 465) (by decide +kernel), List.mem_of_getElem? (i := 686) (by decide +kernel), List.mem_of_getElem? (i := 687) (by decide +kernel)⟩
theorem lw_p26 : lw_okq (⟨"LandingFinesModel", "number", "()I"⟩, 14) := ⟨⟨by decide +kernel, by decide +kernel⟩, List.mem_of_getElem? (i := 465) (by decide +kernel), List.mem_of_getElem? (i := 690) (by decide +kernel), List.mem_of_getElem? (i := 691) (by decide +kernel)⟩
theorem lw_p27 : lw_okq (⟨"LandingFinesModel", "digit", "()I"⟩, 14) := ⟨⟨by decide +kernel, by decide +kernel⟩, List.mem_of_getElem? (i := 465) (by decide +kernel), List.mem_of_getElem? (i := 694) (by decide +kernel), List.mem_of_getElem? (i := 695) (by decide +kernel)⟩
def lw_privs_2 : List (MethodName × Nat) := [(⟨"LandingFinesModel", "waits", "(I)I"⟩, 14), (⟨"LandingFinesModel", "minute", "()I"⟩, 14), (⟨"LandingFinesModel", "tries", "(I)V"⟩, 14), (⟨"LandingFinesModel", "passes", "()Z"⟩, 14), (⟨"LandingFinesModel", "mask", "(I)I"⟩, 14), (⟨"LandingFinesModel", "rank", "(I)I"⟩, 14), (⟨"LandingFinesModel", "isSteady", "(I)Z"⟩, 14), (⟨"LandingFinesModel", "isWell", "()Z"⟩, 14), (⟨"LandingFinesModel", "order", "(Z)I"⟩, 14), (⟨"LandingFinesModel", "sees", "(II)Z"⟩, 14), (⟨"LandingFinesModel", "number", "()I"⟩, 14), (⟨"LandingFinesModel", "digit", "()I"⟩, 14)]
theorem lw_r2 : ∀ q ∈ lw_privs_2, lw_okq q := List.forall_mem_cons.mpr ⟨lw_p16, List.forall_mem_cons.mpr ⟨lw_p17, List.forall_mem_cons.mpr ⟨lw_p18, List.forall_mem_cons.mpr ⟨lw_p19, List.forall_mem_cons.mpr ⟨lw_p20, List.forall_mem_cons.mpr ⟨lw_p21, List.forall_mem_cons.mpr ⟨lw_p22, List.forall_mem_cons.mpr ⟨lw_p23, List.forall_mem_cons.mpr ⟨lw_p24, List.forall_mem_cons.mpr ⟨lw_p25, List.forall_mem_cons.mpr ⟨lw_p26, List.forall_mem_cons.mpr ⟨lw_p27, fun _ h => absurd h List.not_mem_nil⟩⟩⟩⟩⟩⟩⟩⟩⟩⟩⟩⟩
def lw_privs : List (MethodName × Nat) := lw_privs_1 ++ (lw_privs_2)
def lw_tbl : List Cond := k2_sels lw_privs ++ tables_1
theorem lw_privs_ok : ∀ q ∈ lw_privs, lw_okq q := by
  show ∀ q ∈ lw_privs_1 ++ (lw_privs_2), lw_okq q
  exact List.forall_mem_append.mpr ⟨lw_r1, lw_r2⟩
-- ===== end of PART A; then your names; then what follows =====
/-! ===== BEGIN words of one list among another's, by their places ===== -/
theorem goodIn_r {big : List Cond} (ws : List Cond) (ps : List Nat) (hp : ws = ps.filterMap (fun i => big[i]?)) (h : ws.all goodWord = true) : GoodIn big ws := by
  intro w hw
  have h1 := List.all_eq_true.mp h w hw
  rw [hp] at hw
  obtain ⟨i, -, hi⟩ := List.mem_filterMap.mp hw
  have hm : w ∈ big := by first | exact List.mem_of_getElem? hi | exact List.getElem?_mem hi
  exact ⟨hm, good_of_word h1⟩
theorem goodIn_app {big a b : List Cond} (ha : GoodIn big a) (hb : GoodIn big b) : GoodIn big (a ++ b) := fun w h => (List.mem_append.mp h).elim (ha w) (hb w)
theorem goodIn_ca {big a b : List Cond} {c : Cond} (ha : GoodIn big (c :: a)) (hb : GoodIn big b) : GoodIn big (c :: (a ++ b)) := fun w h => (List.mem_cons.mp h).elim (fun e => ha w (List.mem_cons.mpr (Or.inl e))) (fun h => (List.mem_append.mp h).elim (fun h => ha w (List.mem_cons.mpr (Or.inr h))) (hb w))
theorem goodIn_sub {big ws : List Cond} (hm : ∀ w ∈ ws, w ∈ big) (h : ws.all goodWord = true) : GoodIn big ws := fun w hw => ⟨hm w hw, good_of_word (List.all_eq_true.mp h w hw)⟩
/-! ===== END ===== -/

/-! ===== BEGIN printed: names, fields, word lists, decode rows ===== -/
def RX0 : String := "LandingFines$Journal"
def TX0 : u_T := fun k => match k with
  | 0 => ("LandingFines$Journal", "sorts", "[I", true)
  | 1 => ("LandingFines$Journal", "places", "[I", true)
  | 2 => ("LandingFines$Journal", "minutes", "[I", true)
  | 3 => ("LandingFines$Journal", "size", "I", false)
  | _ => ("LandingFines$Journal", "next", "I", false)
def tyX0 : Nat → FieldType := fun k => match k with
  | 0 => .array .int
  | 1 => .array .int
  | 2 => .array .int
  | 3 => .int
  | _ => .int
abbrev wsX00 : List Cond := u_ws RX0 TX0 5
theorem nmX0 : ∀ a, a < 5 → ∀ b, b < 5 → a ≠ b → (TX0 a).2.1 ≠ (TX0 b).2.1 := by decide +kernel
theorem tyX0_ok : ∀ k, k < 5 → parseFieldDescriptor (TX0 k).2.2.1 = some (tyX0 k) := by decide +kernel
abbrev cX0_init : ByteArray := prog_2_method_1_code
def yX0_init : MethodName := ⟨RX0, "<init>", "()V"⟩
abbrev cX0_add : ByteArray := prog_2_method_2_code
def yX0_add : MethodName := ⟨RX0, "add", "(III)V"⟩
abbrev cX0_tell : ByteArray := prog_2_method_3_code
def yX0_tell : MethodName := ⟨RX0, "tell", "(II)I"⟩
abbrev cX0_copyFrom : ByteArray := prog_2_method_4_code
def yX0_copyFrom : MethodName := ⟨RX0, "copyFrom", "(LLandingFines$Journal;)V"⟩
def RX1 : String := "LandingFines$Landing"
def TX1 : u_T := fun k => match k with
  | 0 => ("LandingFines$Landing", "isOpen", "Z", false)
  | 1 => ("LandingFines$Landing", "fare", "I", false)
  | 2 => ("LandingFines$Landing", "fine", "I", false)
  | 3 => ("LandingFines$Landing", "isShunned", "Z", false)
  | 4 => ("LandingFines$Landing", "minutesShunned", "I", false)
  | 5 => ("LandingFines$Landing", "minutesSinceHalving", "I", false)
  | 6 => ("LandingFines$Landing", "changes", "I", false)
  | _ => ("LandingFines$Landing", "timesShunned", "I", false)
def tyX1 : Nat → FieldType := fun k => match k with
  | 0 => .boolean
  | 1 => .int
  | 2 => .int
  | 3 => .boolean
  | 4 => .int
  | 5 => .int
  | 6 => .int
  | _ => .int
abbrev wsX10 : List Cond := u_ws RX1 TX1 8
theorem nmX1 : ∀ a, a < 8 → ∀ b, b < 8 → a ≠ b → (TX1 a).2.1 ≠ (TX1 b).2.1 := by decide +kernel
theorem tyX1_ok : ∀ k, k < 8 → parseFieldDescriptor (TX1 k).2.2.1 = some (tyX1 k) := by decide +kernel
abbrev cX1_init : ByteArray := prog_3_method_1_code
def yX1_init : MethodName := ⟨RX1, "<init>", "()V"⟩
abbrev cX1_arrive : ByteArray := prog_3_method_2_code
def yX1_arrive : MethodName := ⟨RX1, "arrive", "(I)V"⟩
abbrev cX1_copyFrom : ByteArray := prog_3_method_3_code
def yX1_copyFrom : MethodName := ⟨RX1, "copyFrom", "(LLandingFines$Landing;)V"⟩
abbrev cX1_canBeTaken : ByteArray := prog_3_method_4_code
def yX1_canBeTaken : MethodName := ⟨RX1, "canBeTaken", "()Z"⟩
abbrev cX1_addFine : ByteArray := prog_3_method_5_code
def yX1_addFine : MethodName := ⟨RX1, "addFine", "(II)Z"⟩
abbrev cX1_passMinute : ByteArray := prog_3_method_6_code
def yX1_passMinute : MethodName := ⟨RX1, "passMinute", "(III)Z"⟩
abbrev cX1_tell : ByteArray := prog_3_method_7_code
def yX1_tell : MethodName := ⟨RX1, "tell", "(I)I"⟩
def RX2 : String := "LandingFines$Pad"
def TX2 : u_T := fun k => match k with
  | 0 => ("LandingFines$Pad", "signs", "[C", true)
  | 1 => ("LandingFines$Pad", "length", "I", false)
  | 2 => ("LandingFines$Pad", "place", "I", false)
  | 3 => ("LandingFines$Pad", "orderSign", "C", false)
  | 4 => ("LandingFines$Pad", "orderLanding", "I", false)
  | _ => ("LandingFines$Pad", "orderNumber", "I", false)
def tyX2 : Nat → FieldType := fun k => match k with
  | 0 => .array .char
  | 1 => .int
  | 2 => .int
  | 3 => .char
  | 4 => .int
  | _ => .int
abbrev wsX20 : List Cond := u_ws RX2 TX2 6
theorem nmX2 : ∀ a, a < 6 → ∀ b, b < 6 → a ≠ b → (TX2 a).2.1 ≠ (TX2 b).2.1 := by decide +kernel
theorem tyX2_ok : ∀ k, k < 6 → parseFieldDescriptor (TX2 k).2.2.1 = some (tyX2 k) := by decide +kernel
abbrev cX2_init : ByteArray := prog_4_method_1_code
def yX2_init : MethodName := ⟨RX2, "<init>", "()V"⟩
abbrev cX2_append : ByteArray := prog_4_method_2_code
def yX2_append : MethodName := ⟨RX2, "append", "(JI)V"⟩
abbrev cX2_clear : ByteArray := prog_4_method_3_code
def yX2_clear : MethodName := ⟨RX2, "clear", "()I"⟩
abbrev cX2_findFault : ByteArray := prog_4_method_4_code
def yX2_findFault : MethodName := ⟨RX2, "findFault", "()I"⟩
abbrev cX2_startReading : ByteArray := prog_4_method_5_code
def yX2_startReading : MethodName := ⟨RX2, "startReading", "()V"⟩
abbrev cX2_readOrder : ByteArray := prog_4_method_6_code
def yX2_readOrder : MethodName := ⟨RX2, "readOrder", "()Z"⟩
abbrev cX2_readSign : ByteArray := prog_4_method_7_code
def yX2_readSign : MethodName := ⟨RX2, "readSign", "(C)Z"⟩
abbrev cX2_readLanding : ByteArray := prog_4_method_8_code
def yX2_readLanding : MethodName := ⟨RX2, "readLanding", "()Z"⟩
abbrev cX2_readNumber : ByteArray := prog_4_method_9_code
def yX2_readNumber : MethodName := ⟨RX2, "readNumber", "()Z"⟩
abbrev cX2_isAtDigit : ByteArray := prog_4_method_10_code
def yX2_isAtDigit : MethodName := ⟨RX2, "isAtDigit", "()Z"⟩
def RX3 : String := "LandingFines$River"
def TX3 : u_T := fun k => match k with
  | 0 => ("LandingFines$River", "settings", "[I", true)
  | 1 => ("LandingFines$River", "landings", "[LLandingFines$Landing;", true)
  | 2 => ("LandingFines$River", "landingCount", "I", false)
  | 3 => ("LandingFines$River", "minutesSoFar", "I", false)
  | 4 => ("LandingFines$River", "taken", "I", false)
  | 5 => ("LandingFines$River", "switches", "I", false)
  | _ => ("LandingFines$River", "journal", "LLandingFines$Journal;", true)
def tyX3 : Nat → FieldType := fun k => match k with
  | 0 => .array .int
  | 1 => .array (.object "LandingFines$Landing")
  | 2 => .int
  | 3 => .int
  | 4 => .int
  | 5 => .int
  | _ => .object "LandingFines$Journal"
abbrev wsX30 : List Cond := u_ws RX3 TX3 7
theorem nmX3 : ∀ a, a < 7 → ∀ b, b < 7 → a ≠ b → (TX3 a).2.1 ≠ (TX3 b).2.1 := by decide +kernel
theorem tyX3_ok : ∀ k, k < 7 → parseFieldDescriptor (TX3 k).2.2.1 = some (tyX3 k) := by decide +kernel
abbrev cX3_init : ByteArray := prog_5_method_1_code
def yX3_init : MethodName := ⟨RX3, "<init>", "()V"⟩
abbrev cX3_copyFrom : ByteArray := prog_5_method_2_code
def yX3_copyFrom : MethodName := ⟨RX3, "copyFrom", "(LLandingFines$River;)V"⟩
abbrev cX3_find : ByteArray := prog_5_method_3_code
def yX3_find : MethodName := ⟨RX3, "find", "(I)LLandingFines$Landing;"⟩
abbrev cX3_changeSetting : ByteArray := prog_5_method_4_code
def yX3_changeSetting : MethodName := ⟨RX3, "changeSetting", "(II)I"⟩
abbrev cX3_addLanding : ByteArray := prog_5_method_5_code
def yX3_addLanding : MethodName := ⟨RX3, "addLanding", "(I)I"⟩
abbrev cX3_openLanding : ByteArray := prog_5_method_6_code
def yX3_openLanding : MethodName := ⟨RX3, "openLanding", "(I)I"⟩
abbrev cX3_closeLanding : ByteArray := prog_5_method_7_code
def yX3_closeLanding : MethodName := ⟨RX3, "closeLanding", "(I)I"⟩
abbrev cX3_changePrice : ByteArray := prog_5_method_8_code
def yX3_changePrice : MethodName := ⟨RX3, "changePrice", "(II)I"⟩
abbrev cX3_finishChange : ByteArray := prog_5_method_9_code
def yX3_finishChange : MethodName := ⟨RX3, "finishChange", "(LLandingFines$Landing;II)I"⟩
abbrev cX3_fineBySort : ByteArray := prog_5_method_10_code
def yX3_fineBySort : MethodName := ⟨RX3, "fineBySort", "(LLandingFines$Landing;I)Z"⟩
abbrev cX3_passMinutes : ByteArray := prog_5_method_11_code
def yX3_passMinutes : MethodName := ⟨RX3, "passMinutes", "(I)I"⟩
abbrev cX3_passOneMinute : ByteArray := prog_5_method_12_code
def yX3_passOneMinute : MethodName := ⟨RX3, "passOneMinute", "()I"⟩
abbrev cX3_passMinuteOf : ByteArray := prog_5_method_13_code
def yX3_passMinuteOf : MethodName := ⟨RX3, "passMinuteOf", "(LLandingFines$Landing;)Z"⟩
abbrev cX3_fade : ByteArray := prog_5_method_14_code
def yX3_fade : MethodName := ⟨RX3, "fade", "(LLandingFines$Landing;I)V"⟩
abbrev cX3_followTaken : ByteArray := prog_5_method_15_code
def yX3_followTaken : MethodName := ⟨RX3, "followTaken", "()V"⟩
abbrev cX3_chosen : ByteArray := prog_5_method_16_code
def yX3_chosen : MethodName := ⟨RX3, "chosen", "(I)I"⟩
abbrev cX3_rankOf : ByteArray := prog_5_method_17_code
def yX3_rankOf : MethodName := ⟨RX3, "rankOf", "(I)I"⟩
abbrev cX3_tell : ByteArray := prog_5_method_18_code
def yX3_tell : MethodName := ⟨RX3, "tell", "(I)I"⟩
abbrev cX3_openOnes : ByteArray := prog_5_method_19_code
def yX3_openOnes : MethodName := ⟨RX3, "openOnes", "()I"⟩
abbrev cX3_shunnedOnes : ByteArray := prog_5_method_20_code
def yX3_shunnedOnes : MethodName := ⟨RX3, "shunnedOnes", "()I"⟩
def RX4 : String := "LandingFines"
def TX4 : u_T := fun k => match k with
  | 0 => ("LandingFines", "river", "LLandingFines$River;", true)
  | 1 => ("LandingFines", "history", "[LLandingFines$River;", true)
  | 2 => ("LandingFines", "historySize", "I", false)
  | 3 => ("LandingFines", "slots", "[LLandingFines$River;", true)
  | 4 => ("LandingFines", "slotUsed", "[Z", true)
  | 5 => ("LandingFines", "pad", "LLandingFines$Pad;", true)
  | _ => ("LandingFines", "trial", "LLandingFines$Landing;", true)
def tyX4 : Nat → FieldType := fun k => match k with
  | 0 => .object "LandingFines$River"
  | 1 => .array (.object "LandingFines$River")
  | 2 => .int
  | 3 => .array (.object "LandingFines$River")
  | 4 => .array .boolean
  | 5 => .object "LandingFines$Pad"
  | _ => .object "LandingFines$Landing"
abbrev wsX40 : List Cond := u_ws RX4 TX4 7
theorem nmX4 : ∀ a, a < 7 → ∀ b, b < 7 → a ≠ b → (TX4 a).2.1 ≠ (TX4 b).2.1 := by decide +kernel
theorem tyX4_ok : ∀ k, k < 7 → parseFieldDescriptor (TX4 k).2.2.1 = some (tyX4 k) := by decide +kernel
abbrev cX4_init : ByteArray := prog_1_method_1_code
def yX4_init : MethodName := ⟨RX4, "<init>", "()V"⟩
abbrev cX4_set : ByteArray := prog_1_method_2_code
def yX4_set : MethodName := ⟨RX4, "set", "(II)I"⟩
abbrev cX4_landing : ByteArray := prog_1_method_3_code
def yX4_landing : MethodName := ⟨RX4, "landing", "(I)I"⟩
abbrev cX4_open : ByteArray := prog_1_method_4_code
def yX4_open : MethodName := ⟨RX4, "open", "(I)I"⟩
abbrev cX4_close : ByteArray := prog_1_method_5_code
def yX4_close : MethodName := ⟨RX4, "close", "(I)I"⟩
abbrev cX4_price : ByteArray := prog_1_method_6_code
def yX4_price : MethodName := ⟨RX4, "price", "(II)I"⟩
abbrev cX4_pass : ByteArray := prog_1_method_7_code
def yX4_pass : MethodName := ⟨RX4, "pass", "(I)I"⟩
abbrev cX4_of : ByteArray := prog_1_method_8_code
def yX4_of : MethodName := ⟨RX4, "of", "(II)I"⟩
abbrev cX4_count : ByteArray := prog_1_method_9_code
def yX4_count : MethodName := ⟨RX4, "count", "(I)I"⟩
abbrev cX4_choice : ByteArray := prog_1_method_10_code
def yX4_choice : MethodName := ⟨RX4, "choice", "(I)I"⟩
abbrev cX4_log : ByteArray := prog_1_method_11_code
def yX4_log : MethodName := ⟨RX4, "log", "(II)I"⟩
abbrev cX4_why : ByteArray := prog_1_method_12_code
def yX4_why : MethodName := ⟨RX4, "why", "(I)I"⟩
abbrev cX4_welcomeIn : ByteArray := prog_1_method_13_code
def yX4_welcomeIn : MethodName := ⟨RX4, "welcomeIn", "(I)I"⟩
abbrev cX4_mayChange : ByteArray := prog_1_method_14_code
def yX4_mayChange : MethodName := ⟨RX4, "mayChange", "(I)I"⟩
abbrev cX4_fineIn : ByteArray := prog_1_method_15_code
def yX4_fineIn : MethodName := ⟨RX4, "fineIn", "(II)I"⟩
abbrev cX4_steady : ByteArray := prog_1_method_16_code
def yX4_steady : MethodName := ⟨RX4, "steady", "()I"⟩
abbrev cX4_staysWelcome : ByteArray := prog_1_method_17_code
def yX4_staysWelcome : MethodName := ⟨RX4, "staysWelcome", "(I)Z"⟩
abbrev cX4_put : ByteArray := prog_1_method_18_code
def yX4_put : MethodName := ⟨RX4, "put", "(J)I"⟩
abbrev cX4_charactersIn : ByteArray := prog_1_method_19_code
def yX4_charactersIn : MethodName := ⟨RX4, "charactersIn", "(J)I"⟩
abbrev cX4_wipe : ByteArray := prog_1_method_20_code
def yX4_wipe : MethodName := ⟨RX4, "wipe", "()I"⟩
abbrev cX4_fault : ByteArray := prog_1_method_21_code
def yX4_fault : MethodName := ⟨RX4, "fault", "()I"⟩
abbrev cX4_carryOut : ByteArray := prog_1_method_22_code
def yX4_carryOut : MethodName := ⟨RX4, "carryOut", "()I"⟩
abbrev cX4_carryOutOne : ByteArray := prog_1_method_23_code
def yX4_carryOutOne : MethodName := ⟨RX4, "carryOutOne", "()I"⟩
abbrev cX4_undo : ByteArray := prog_1_method_24_code
def yX4_undo : MethodName := ⟨RX4, "undo", "()I"⟩
abbrev cX4_save : ByteArray := prog_1_method_25_code
def yX4_save : MethodName := ⟨RX4, "save", "(I)I"⟩
abbrev cX4_restore : ByteArray := prog_1_method_26_code
def yX4_restore : MethodName := ⟨RX4, "restore", "(I)I"⟩
abbrev cX4_keepState : ByteArray := prog_1_method_27_code
def yX4_keepState : MethodName := ⟨RX4, "keepState", "()V"⟩
abbrev cX4_recordUnlessError : ByteArray := prog_1_method_28_code
def yX4_recordUnlessError : MethodName := ⟨RX4, "recordUnlessError", "(I)I"⟩
abbrev cX4_dropOldest : ByteArray := prog_1_method_29_code
def yX4_dropOldest : MethodName := ⟨RX4, "dropOldest", "()V"⟩
def RX5 : String := "LandingFinesModel"
def TX5 : u_T := fun k => match k with
  | 0 => ("LandingFinesModel", "row", "[I", true)
  | 1 => ("LandingFinesModel", "past", "[I", true)
  | 2 => ("LandingFinesModel", "before", "[I", true)
  | 3 => ("LandingFinesModel", "slots", "[I", true)
  | 4 => ("LandingFinesModel", "isSaved", "[Z", true)
  | 5 => ("LandingFinesModel", "states", "I", false)
  | 6 => ("LandingFinesModel", "pad", "[I", true)
  | 7 => ("LandingFinesModel", "length", "I", false)
  | 8 => ("LandingFinesModel", "at", "I", false)
  | 9 => ("LandingFinesModel", "codes", "[I", true)
  | 10 => ("LandingFinesModel", "fine", "I", false)
  | 11 => ("LandingFinesModel", "since", "I", false)
  | 12 => ("LandingFinesModel", "isShunned", "Z", false)
  | _ => ("LandingFinesModel", "shunnedFor", "I", false)
def tyX5 : Nat → FieldType := fun k => match k with
  | 0 => .array .int
  | 1 => .array .int
  | 2 => .array .int
  | 3 => .array .int
  | 4 => .array .boolean
  | 5 => .int
  | 6 => .array .int
  | 7 => .int
  | 8 => .int
  | 9 => .array .int
  | 10 => .int
  | 11 => .int
  | 12 => .boolean
  | _ => .int
abbrev wsX50 : List Cond := u_ws RX5 TX5 14
theorem nmX5 : ∀ a, a < 14 → ∀ b, b < 14 → a ≠ b → (TX5 a).2.1 ≠ (TX5 b).2.1 := by decide +kernel
theorem tyX5_ok : ∀ k, k < 14 → parseFieldDescriptor (TX5 k).2.2.1 = some (tyX5 k) := by decide +kernel
abbrev cX5_init : ByteArray := prog_7_method_1_code
def yX5_init : MethodName := ⟨RX5, "<init>", "()V"⟩
abbrev cX5_in : ByteArray := prog_7_method_2_code
def yX5_in : MethodName := ⟨RX5, "in", "(JII)Z"⟩
abbrev cX5_its : ByteArray := prog_7_method_3_code
def yX5_its : MethodName := ⟨RX5, "its", "(II)I"⟩
abbrev cX5_lay : ByteArray := prog_7_method_4_code
def yX5_lay : MethodName := ⟨RX5, "lay", "(III)V"⟩
abbrev cX5_isLanding : ByteArray := prog_7_method_5_code
def yX5_isLanding : MethodName := ⟨RX5, "isLanding", "(I)Z"⟩
abbrev cX5_remember : ByteArray := prog_7_method_6_code
def yX5_remember : MethodName := ⟨RX5, "remember", "()V"⟩
abbrev cX5_record : ByteArray := prog_7_method_7_code
def yX5_record : MethodName := ⟨RX5, "record", "(I)I"⟩
abbrev cX5_undo : ByteArray := prog_7_method_8_code
def yX5_undo : MethodName := ⟨RX5, "undo", "()I"⟩
abbrev cX5_save : ByteArray := prog_7_method_9_code
def yX5_save : MethodName := ⟨RX5, "save", "(I)I"⟩
abbrev cX5_restore : ByteArray := prog_7_method_10_code
def yX5_restore : MethodName := ⟨RX5, "restore", "(I)I"⟩
abbrev cX5_taken : ByteArray := prog_7_method_11_code
def yX5_taken : MethodName := ⟨RX5, "taken", "()I"⟩
abbrev cX5_note : ByteArray := prog_7_method_12_code
def yX5_note : MethodName := ⟨RX5, "note", "(II)V"⟩
abbrev cX5_held : ByteArray := prog_7_method_13_code
def yX5_held : MethodName := ⟨RX5, "held", "(I)I"⟩
abbrev cX5_change : ByteArray := prog_7_method_14_code
def yX5_change : MethodName := ⟨RX5, "change", "(IIII)I"⟩
abbrev cX5_passes : ByteArray := prog_7_method_15_code
def yX5_passes : MethodName := ⟨RX5, "passes", "()Z"⟩
abbrev cX5_tries : ByteArray := prog_7_method_16_code
def yX5_tries : MethodName := ⟨RX5, "tries", "(I)V"⟩
abbrev cX5_minute : ByteArray := prog_7_method_17_code
def yX5_minute : MethodName := ⟨RX5, "minute", "()I"⟩
abbrev cX5_comes : ByteArray := prog_7_method_18_code
def yX5_comes : MethodName := ⟨RX5, "comes", "(I)I"⟩
abbrev cX5_turns : ByteArray := prog_7_method_19_code
def yX5_turns : MethodName := ⟨RX5, "turns", "(II)I"⟩
abbrev cX5_costs : ByteArray := prog_7_method_20_code
def yX5_costs : MethodName := ⟨RX5, "costs", "(II)I"⟩
abbrev cX5_waits : ByteArray := prog_7_method_21_code
def yX5_waits : MethodName := ⟨RX5, "waits", "(I)I"⟩
abbrev cX5_set : ByteArray := prog_7_method_22_code
def yX5_set : MethodName := ⟨RX5, "set", "(II)I"⟩
abbrev cX5_landing : ByteArray := prog_7_method_23_code
def yX5_landing : MethodName := ⟨RX5, "landing", "(I)I"⟩
abbrev cX5_open : ByteArray := prog_7_method_24_code
def yX5_open : MethodName := ⟨RX5, "open", "(I)I"⟩
abbrev cX5_close : ByteArray := prog_7_method_25_code
def yX5_close : MethodName := ⟨RX5, "close", "(I)I"⟩
abbrev cX5_price : ByteArray := prog_7_method_26_code
def yX5_price : MethodName := ⟨RX5, "price", "(II)I"⟩
abbrev cX5_pass : ByteArray := prog_7_method_27_code
def yX5_pass : MethodName := ⟨RX5, "pass", "(I)I"⟩
abbrev cX5_of : ByteArray := prog_7_method_28_code
def yX5_of : MethodName := ⟨RX5, "of", "(II)I"⟩
abbrev cX5_mask : ByteArray := prog_7_method_29_code
def yX5_mask : MethodName := ⟨RX5, "mask", "(I)I"⟩
abbrev cX5_count : ByteArray := prog_7_method_30_code
def yX5_count : MethodName := ⟨RX5, "count", "(I)I"⟩
abbrev cX5_rank : ByteArray := prog_7_method_31_code
def yX5_rank : MethodName := ⟨RX5, "rank", "(I)I"⟩
abbrev cX5_choice : ByteArray := prog_7_method_32_code
def yX5_choice : MethodName := ⟨RX5, "choice", "(I)I"⟩
abbrev cX5_log : ByteArray := prog_7_method_33_code
def yX5_log : MethodName := ⟨RX5, "log", "(II)I"⟩
abbrev cX5_why : ByteArray := prog_7_method_34_code
def yX5_why : MethodName := ⟨RX5, "why", "(I)I"⟩
abbrev cX5_welcomeIn : ByteArray := prog_7_method_35_code
def yX5_welcomeIn : MethodName := ⟨RX5, "welcomeIn", "(I)I"⟩
abbrev cX5_mayChange : ByteArray := prog_7_method_36_code
def yX5_mayChange : MethodName := ⟨RX5, "mayChange", "(I)I"⟩
abbrev cX5_fineIn : ByteArray := prog_7_method_37_code
def yX5_fineIn : MethodName := ⟨RX5, "fineIn", "(II)I"⟩
abbrev cX5_isSteady : ByteArray := prog_7_method_38_code
def yX5_isSteady : MethodName := ⟨RX5, "isSteady", "(I)Z"⟩
abbrev cX5_steady : ByteArray := prog_7_method_39_code
def yX5_steady : MethodName := ⟨RX5, "steady", "()I"⟩
abbrev cX5_put : ByteArray := prog_7_method_40_code
def yX5_put : MethodName := ⟨RX5, "put", "(J)I"⟩
abbrev cX5_wipe : ByteArray := prog_7_method_41_code
def yX5_wipe : MethodName := ⟨RX5, "wipe", "()I"⟩
abbrev cX5_sees : ByteArray := prog_7_method_42_code
def yX5_sees : MethodName := ⟨RX5, "sees", "(II)Z"⟩
abbrev cX5_number : ByteArray := prog_7_method_43_code
def yX5_number : MethodName := ⟨RX5, "number", "()I"⟩
abbrev cX5_digit : ByteArray := prog_7_method_44_code
def yX5_digit : MethodName := ⟨RX5, "digit", "()I"⟩
abbrev cX5_order : ByteArray := prog_7_method_45_code
def yX5_order : MethodName := ⟨RX5, "order", "(Z)I"⟩
abbrev cX5_isWell : ByteArray := prog_7_method_46_code
def yX5_isWell : MethodName := ⟨RX5, "isWell", "()Z"⟩
abbrev cX5_fault : ByteArray := prog_7_method_47_code
def yX5_fault : MethodName := ⟨RX5, "fault", "()I"⟩
abbrev cX5_carryOut : ByteArray := prog_7_method_48_code
def yX5_carryOut : MethodName := ⟨RX5, "carryOut", "()I"⟩
def RJx8e188 : String := "java/lang/Cloneable"
def TJx8e188 : u_T := fun k => match k with
  | _ => ("", "", "", false)
def tyJx8e188 : Nat → FieldType := fun k => match k with
  | _ => .int
abbrev wsJx8e1880 : List Cond := u_ws RJx8e188 TJx8e188 0
theorem nmJx8e188 : ∀ a, a < 0 → ∀ b, b < 0 → a ≠ b → (TJx8e188 a).2.1 ≠ (TJx8e188 b).2.1 := by decide +kernel
theorem tyJx8e188_ok : ∀ k, k < 0 → parseFieldDescriptor (TJx8e188 k).2.2.1 = some (tyJx8e188 k) := by decide +kernel
def RJ9 : String := "java/lang/Math"
def TJ9 : u_T := fun k => match k with
  | _ => ("", "", "", false)
def tyJ9 : Nat → FieldType := fun k => match k with
  | _ => .int
abbrev wsJ90 : List Cond := u_ws RJ9 TJ9 0
theorem nmJ9 : ∀ a, a < 0 → ∀ b, b < 0 → a ≠ b → (TJ9 a).2.1 ≠ (TJ9 b).2.1 := by decide +kernel
theorem tyJ9_ok : ∀ k, k < 0 → parseFieldDescriptor (TJ9 k).2.2.1 = some (tyJ9 k) := by decide +kernel
abbrev cJ9_max_7cf53 : ByteArray := prog_9_method_65_code
def yJ9_max_7cf53 : MethodName := ⟨RJ9, "max", "(II)I"⟩
abbrev cJ9_min_7cf53 : ByteArray := prog_9_method_69_code
def yJ9_min_7cf53 : MethodName := ⟨RJ9, "min", "(II)I"⟩
def RJ10 : String := "java/lang/System"
def TJ10 : u_T := fun k => match k with
  | _ => ("", "", "", false)
def tyJ10 : Nat → FieldType := fun k => match k with
  | _ => .int
abbrev wsJ100 : List Cond := u_ws RJ10 TJ10 0
theorem nmJ10 : ∀ a, a < 0 → ∀ b, b < 0 → a ≠ b → (TJ10 a).2.1 ≠ (TJ10 b).2.1 := by decide +kernel
theorem tyJ10_ok : ∀ k, k < 0 → parseFieldDescriptor (TJ10 k).2.2.1 = some (tyJ10 k) := by decide +kernel
def RL : String := "LandingFinesLaw"
abbrev cL_law : ByteArray := code
def yL_law : MethodName := ⟨RL, "law", "([I)Z"⟩
def wsX0_init : List Cond := .code yX0_init cX0_init 1 none :: ([.methodLink RX0 3 objectInit, .instanceMethod objectInit, .code objectInit ⟨#[0xb1]⟩ 1 none, .arrayClass .int, .fieldLink RX0 9 "LandingFines$Journal" "sorts" "[I", .fieldLink RX0 15 "LandingFines$Journal" "places" "[I", .fieldLink RX0 18 "LandingFines$Journal" "minutes" "[I", .fieldLink RX0 21 "LandingFines$Journal" "size" "I", .fieldLink RX0 25 "LandingFines$Journal" "next" "I"] ++ wsX00)
def wsX0_add : List Cond := .code yX0_add cX0_add 4 none :: ([.fieldLink RX0 9 "LandingFines$Journal" "sorts" "[I", .fieldLink RX0 25 "LandingFines$Journal" "next" "I", .fieldLink RX0 15 "LandingFines$Journal" "places" "[I", .fieldLink RX0 18 "LandingFines$Journal" "minutes" "[I", .fieldLink RX0 21 "LandingFines$Journal" "size" "I", .methodLink RX0 28 Lib.Math.min.name, .static Lib.Math.min.name, .initialized "java/lang/Math", .code Lib.Math.min.name Lib.Math.min.code 2 (some .int)] ++ wsX00)
def wsX0_tell : List Cond := .code yX0_tell cX0_tell 4 (some .int) :: ([.fieldLink RX0 21 "LandingFines$Journal" "size" "I", .fieldLink RX0 25 "LandingFines$Journal" "next" "I", .fieldLink RX0 9 "LandingFines$Journal" "sorts" "[I", .fieldLink RX0 15 "LandingFines$Journal" "places" "[I", .fieldLink RX0 18 "LandingFines$Journal" "minutes" "[I"] ++ wsX00)
def wsX0_copyFrom : List Cond := .code yX0_copyFrom cX0_copyFrom 2 none :: ([.fieldLink RX0 9 "LandingFines$Journal" "sorts" "[I", .methodLink RX0 34 arraycopyName, .native arraycopyName, .static arraycopyName, .initialized "java/lang/System", .fieldLink RX0 15 "LandingFines$Journal" "places" "[I", .fieldLink RX0 18 "LandingFines$Journal" "minutes" "[I", .fieldLink RX0 21 "LandingFines$Journal" "size" "I", .fieldLink RX0 25 "LandingFines$Journal" "next" "I"] ++ wsX00)
def wsX1_init : List Cond := .code yX1_init cX1_init 1 none :: ([.methodLink RX1 3 objectInit, .instanceMethod objectInit, .code objectInit ⟨#[0xb1]⟩ 1 none])
def wsX1_arrive : List Cond := .code yX1_arrive cX1_arrive 2 none :: ([.fieldLink RX1 9 "LandingFines$Landing" "isOpen" "Z", .fieldLink RX1 15 "LandingFines$Landing" "fare" "I", .fieldLink RX1 19 "LandingFines$Landing" "fine" "I", .fieldLink RX1 22 "LandingFines$Landing" "isShunned" "Z", .fieldLink RX1 25 "LandingFines$Landing" "minutesShunned" "I", .fieldLink RX1 28 "LandingFines$Landing" "minutesSinceHalving" "I", .fieldLink RX1 31 "LandingFines$Landing" "changes" "I", .fieldLink RX1 34 "LandingFines$Landing" "timesShunned" "I"] ++ wsX10)
def wsX1_copyFrom : List Cond := .code yX1_copyFrom cX1_copyFrom 2 none :: ([.fieldLink RX1 9 "LandingFines$Landing" "isOpen" "Z", .fieldLink RX1 15 "LandingFines$Landing" "fare" "I", .fieldLink RX1 19 "LandingFines$Landing" "fine" "I", .fieldLink RX1 22 "LandingFines$Landing" "isShunned" "Z", .fieldLink RX1 25 "LandingFines$Landing" "minutesShunned" "I", .fieldLink RX1 28 "LandingFines$Landing" "minutesSinceHalving" "I", .fieldLink RX1 31 "LandingFines$Landing" "changes" "I", .fieldLink RX1 34 "LandingFines$Landing" "timesShunned" "I"] ++ wsX10)
def wsX1_canBeTaken : List Cond := .code yX1_canBeTaken cX1_canBeTaken 1 (some .boolean) :: ([.fieldLink RX1 9 "LandingFines$Landing" "isOpen" "Z", .fieldLink RX1 22 "LandingFines$Landing" "isShunned" "Z"] ++ wsX10)
def wsX1_addFine : List Cond := .code yX1_addFine cX1_addFine 3 (some .boolean) :: ([.fieldLink RX1 31 "LandingFines$Landing" "changes" "I", .fieldLink RX1 19 "LandingFines$Landing" "fine" "I", .constant RX1 37 (99999), .methodLink RX1 38 Lib.Math.min.name, .static Lib.Math.min.name, .initialized "java/lang/Math", .code Lib.Math.min.name Lib.Math.min.code 2 (some .int), .fieldLink RX1 22 "LandingFines$Landing" "isShunned" "Z", .fieldLink RX1 25 "LandingFines$Landing" "minutesShunned" "I", .fieldLink RX1 34 "LandingFines$Landing" "timesShunned" "I"] ++ wsX10)
def wsX1_passMinute : List Cond := .code yX1_passMinute cX1_passMinute 4 (some .boolean) :: ([.fieldLink RX1 28 "LandingFines$Landing" "minutesSinceHalving" "I", .fieldLink RX1 19 "LandingFines$Landing" "fine" "I", .fieldLink RX1 22 "LandingFines$Landing" "isShunned" "Z", .fieldLink RX1 25 "LandingFines$Landing" "minutesShunned" "I", .methodLink RX1 38 Lib.Math.min.name, .static Lib.Math.min.name, .initialized "java/lang/Math", .code Lib.Math.min.name Lib.Math.min.code 2 (some .int)] ++ wsX10)
def wsX1_tell : List Cond := .code yX1_tell cX1_tell 2 (some .int) :: ([.fieldLink RX1 9 "LandingFines$Landing" "isOpen" "Z", .fieldLink RX1 15 "LandingFines$Landing" "fare" "I", .fieldLink RX1 19 "LandingFines$Landing" "fine" "I", .fieldLink RX1 22 "LandingFines$Landing" "isShunned" "Z", .fieldLink RX1 25 "LandingFines$Landing" "minutesShunned" "I", .fieldLink RX1 28 "LandingFines$Landing" "minutesSinceHalving" "I", .fieldLink RX1 31 "LandingFines$Landing" "changes" "I", .fieldLink RX1 34 "LandingFines$Landing" "timesShunned" "I"] ++ wsX10)
def wsX2_init : List Cond := .code yX2_init cX2_init 1 none :: ([.methodLink RX2 3 objectInit, .instanceMethod objectInit, .code objectInit ⟨#[0xb1]⟩ 1 none, .arrayClass .char, .fieldLink RX2 9 "LandingFines$Pad" "signs" "[C", .fieldLink RX2 15 "LandingFines$Pad" "length" "I", .fieldLink RX2 19 "LandingFines$Pad" "place" "I", .fieldLink RX2 22 "LandingFines$Pad" "orderSign" "C", .fieldLink RX2 26 "LandingFines$Pad" "orderLanding" "I", .fieldLink RX2 29 "LandingFines$Pad" "orderNumber" "I"] ++ wsX20)
def wsX2_append : List Cond := .code yX2_append cX2_append 5 none :: ([.fieldLink RX2 15 "LandingFines$Pad" "length" "I", .fieldLink RX2 9 "LandingFines$Pad" "signs" "[C", .constantLong RX2 32 (255)] ++ wsX20)
def wsX2_clear : List Cond := .code yX2_clear cX2_clear 2 (some .int) :: ([.fieldLink RX2 15 "LandingFines$Pad" "length" "I"] ++ wsX20)
def wsX2_startReading : List Cond := .code yX2_startReading cX2_startReading 1 none :: ([.fieldLink RX2 19 "LandingFines$Pad" "place" "I"] ++ wsX20)
def wsX2_isAtDigit : List Cond := .code yX2_isAtDigit cX2_isAtDigit 1 (some .boolean) :: ([.fieldLink RX2 19 "LandingFines$Pad" "place" "I", .fieldLink RX2 15 "LandingFines$Pad" "length" "I", .fieldLink RX2 9 "LandingFines$Pad" "signs" "[C"] ++ wsX20)
def wsX2_readNumber : List Cond := .code yX2_readNumber cX2_readNumber 2 (some .boolean) :: ([.fieldLink RX2 29 "LandingFines$Pad" "orderNumber" "I", .fieldLink RX2 9 "LandingFines$Pad" "signs" "[C", .fieldLink RX2 19 "LandingFines$Pad" "place" "I", .methodLink RX2 51 yX2_isAtDigit, .instanceMethod yX2_isAtDigit, .selects RX2 yX2_isAtDigit yX2_isAtDigit, .initialized RX2, .code yX2_isAtDigit cX2_isAtDigit 1 (some .boolean), .fieldLink RX2 15 "LandingFines$Pad" "length" "I"] ++ wsX20)
def wsX2_readLanding : List Cond := .code yX2_readLanding cX2_readLanding 1 (some .boolean) :: ([.fieldLink RX2 9 "LandingFines$Pad" "signs" "[C", .fieldLink RX2 19 "LandingFines$Pad" "place" "I", .fieldLink RX2 26 "LandingFines$Pad" "orderLanding" "I", .methodLink RX2 51 yX2_isAtDigit, .instanceMethod yX2_isAtDigit, .selects RX2 yX2_isAtDigit yX2_isAtDigit, .initialized RX2, .code yX2_isAtDigit cX2_isAtDigit 1 (some .boolean), .fieldLink RX2 15 "LandingFines$Pad" "length" "I"] ++ wsX20)
def wsX2_readSign : List Cond := .code yX2_readSign cX2_readSign 2 (some .boolean) :: ([.fieldLink RX2 19 "LandingFines$Pad" "place" "I", .fieldLink RX2 15 "LandingFines$Pad" "length" "I", .fieldLink RX2 9 "LandingFines$Pad" "signs" "[C"] ++ wsX20)
def wsX2_readOrder : List Cond := .code yX2_readOrder cX2_readOrder 1 (some .boolean) :: ([.fieldLink RX2 19 "LandingFines$Pad" "place" "I", .fieldLink RX2 15 "LandingFines$Pad" "length" "I", .fieldLink RX2 9 "LandingFines$Pad" "signs" "[C", .fieldLink RX2 22 "LandingFines$Pad" "orderSign" "C", .methodLink RX2 45 yX2_readNumber, .instanceMethod yX2_readNumber, .selects RX2 yX2_readNumber yX2_readNumber, .initialized RX2, .code yX2_readNumber cX2_readNumber 2 (some .boolean), .fieldLink RX2 29 "LandingFines$Pad" "orderNumber" "I", .methodLink RX2 51 yX2_isAtDigit, .instanceMethod yX2_isAtDigit, .selects RX2 yX2_isAtDigit yX2_isAtDigit, .code yX2_isAtDigit cX2_isAtDigit 1 (some .boolean), .methodLink RX2 48 yX2_readLanding, .instanceMethod yX2_readLanding, .selects RX2 yX2_readLanding yX2_readLanding, .code yX2_readLanding cX2_readLanding 1 (some .boolean), .fieldLink RX2 26 "LandingFines$Pad" "orderLanding" "I", .methodLink RX2 41 yX2_readSign, .instanceMethod yX2_readSign, .selects RX2 yX2_readSign yX2_readSign, .code yX2_readSign cX2_readSign 2 (some .boolean)] ++ wsX20)
def wsX2_findFault_r1 : List Cond := [Cond.fieldLink RX2 19 "LandingFines$Pad" "place" "I", Cond.fieldLink RX2 15 "LandingFines$Pad" "length" "I", Cond.methodLink RX2 34 yX2_startReading, Cond.instanceMethod yX2_startReading, Cond.selects RX2 yX2_startReading yX2_startReading, Cond.initialized RX2, Cond.code yX2_startReading cX2_startReading 1 none, Cond.methodLink RX2 37 yX2_readOrder, Cond.instanceMethod yX2_readOrder, Cond.selects RX2 yX2_readOrder yX2_readOrder, Cond.code yX2_readOrder cX2_readOrder 1 (some .boolean), Cond.fieldLink RX2 9 "LandingFines$Pad" "signs" "[C", Cond.fieldLink RX2 22 "LandingFines$Pad" "orderSign" "C", Cond.methodLink RX2 45 yX2_readNumber, Cond.instanceMethod yX2_readNumber, Cond.selects RX2 yX2_readNumber yX2_readNumber, Cond.code yX2_readNumber cX2_readNumber 2 (some .boolean), Cond.fieldLink RX2 29 "LandingFines$Pad" "orderNumber" "I", Cond.methodLink RX2 51 yX2_isAtDigit, Cond.instanceMethod yX2_isAtDigit, Cond.selects RX2 yX2_isAtDigit yX2_isAtDigit, Cond.code yX2_isAtDigit cX2_isAtDigit 1 (some .boolean), Cond.methodLink RX2 48 yX2_readLanding, Cond.instanceMethod yX2_readLanding]
def wsX2_findFault_r2 : List Cond := [Cond.selects RX2 yX2_readLanding yX2_readLanding, Cond.code yX2_readLanding cX2_readLanding 1 (some .boolean), Cond.fieldLink RX2 26 "LandingFines$Pad" "orderLanding" "I", Cond.methodLink RX2 41 yX2_readSign, Cond.instanceMethod yX2_readSign, Cond.selects RX2 yX2_readSign yX2_readSign, Cond.code yX2_readSign cX2_readSign 2 (some .boolean)]
def wsX2_findFault : List Cond := .code yX2_findFault cX2_findFault 2 (some .int) :: ((wsX2_findFault_r1 ++ wsX2_findFault_r2) ++ wsX20)
def wsX3_init_r1 : List Cond := [Cond.methodLink RX3 3 objectInit, Cond.instanceMethod objectInit, Cond.code objectInit ⟨#[0xb1]⟩ 1 none, Cond.methodLink RX3 13 ⟨"[I", "clone", "()Ljava/lang/Object;"⟩, Cond.sameMethod "[I" "java/lang/Object" "clone" "()Ljava/lang/Object;", Cond.native ⟨"java/lang/Object", "clone", "()Ljava/lang/Object;"⟩, Cond.instanceMethod ⟨"java/lang/Object", "clone", "()Ljava/lang/Object;"⟩, Cond.selects "[I" ⟨"[I", "clone", "()Ljava/lang/Object;"⟩ ⟨"java/lang/Object", "clone", "()Ljava/lang/Object;"⟩, Cond.classLink RX3 14 "[I", Cond.fieldLink RX3 18 "LandingFines$River" "settings" "[I", Cond.classLink RX3 23 RX1, Cond.fieldLink RX3 25 "LandingFines$River" "landings" "[LLandingFines$Landing;", Cond.fieldLink RX3 29 "LandingFines$River" "landingCount" "I", Cond.fieldLink RX3 33 "LandingFines$River" "minutesSoFar" "I", Cond.fieldLink RX3 36 "LandingFines$River" "taken" "I", Cond.fieldLink RX3 39 "LandingFines$River" "switches" "I", Cond.classLink RX3 42 RX0, Cond.instantiable RX0 5, Cond.initialized RX0, Cond.fieldLink RX3 45 "LandingFines$River" "journal" "LLandingFines$Journal;", Cond.instantiable RX1 8, Cond.initialized RX1, Cond.instanceMethod yX0_init, Cond.code yX0_init cX0_init 1 none]
def wsX3_init_r2 : List Cond := [Cond.methodLink RX0 3 objectInit, Cond.arrayClass .int, Cond.fieldLink RX0 9 "LandingFines$Journal" "sorts" "[I", Cond.fieldLink RX0 15 "LandingFines$Journal" "places" "[I", Cond.fieldLink RX0 18 "LandingFines$Journal" "minutes" "[I", Cond.fieldLink RX0 21 "LandingFines$Journal" "size" "I", Cond.fieldLink RX0 25 "LandingFines$Journal" "next" "I", Cond.instanceMethod yX1_init, Cond.code yX1_init cX1_init 1 none, Cond.methodLink RX1 3 objectInit]
def wsX3_init : List Cond := .code yX3_init cX3_init 2 none :: ((wsX3_init_r1 ++ wsX3_init_r2) ++ wsX30 ++ wsX00 ++ wsX10)
def wsX3_copyFrom_r1 : List Cond := [Cond.fieldLink RX3 18 "LandingFines$River" "settings" "[I", Cond.methodLink RX3 50 arraycopyName, Cond.native arraycopyName, Cond.static arraycopyName, Cond.initialized "java/lang/System", Cond.fieldLink RX3 25 "LandingFines$River" "landings" "[LLandingFines$Landing;", Cond.fieldLink RX3 29 "LandingFines$River" "landingCount" "I", Cond.fieldLink RX3 33 "LandingFines$River" "minutesSoFar" "I", Cond.fieldLink RX3 36 "LandingFines$River" "taken" "I", Cond.fieldLink RX3 39 "LandingFines$River" "switches" "I", Cond.fieldLink RX3 45 "LandingFines$River" "journal" "LLandingFines$Journal;", Cond.methodLink RX3 56 yX1_copyFrom, Cond.instanceMethod yX1_copyFrom, Cond.selects RX1 yX1_copyFrom yX1_copyFrom, Cond.initialized RX1, Cond.code yX1_copyFrom cX1_copyFrom 2 none, Cond.fieldLink RX1 9 "LandingFines$Landing" "isOpen" "Z", Cond.fieldLink RX1 15 "LandingFines$Landing" "fare" "I", Cond.fieldLink RX1 19 "LandingFines$Landing" "fine" "I", Cond.fieldLink RX1 22 "LandingFines$Landing" "isShunned" "Z", Cond.fieldLink RX1 25 "LandingFines$Landing" "minutesShunned" "I", Cond.fieldLink RX1 28 "LandingFines$Landing" "minutesSinceHalving" "I", Cond.fieldLink RX1 31 "LandingFines$Landing" "changes" "I", Cond.fieldLink RX1 34 "LandingFines$Landing" "timesShunned" "I"]
def wsX3_copyFrom_r2 : List Cond := [Cond.methodLink RX3 60 yX0_copyFrom, Cond.instanceMethod yX0_copyFrom, Cond.selects RX0 yX0_copyFrom yX0_copyFrom, Cond.initialized RX0, Cond.code yX0_copyFrom cX0_copyFrom 2 none, Cond.fieldLink RX0 9 "LandingFines$Journal" "sorts" "[I", Cond.methodLink RX0 34 arraycopyName, Cond.fieldLink RX0 15 "LandingFines$Journal" "places" "[I", Cond.fieldLink RX0 18 "LandingFines$Journal" "minutes" "[I", Cond.fieldLink RX0 21 "LandingFines$Journal" "size" "I", Cond.fieldLink RX0 25 "LandingFines$Journal" "next" "I"]
def wsX3_copyFrom : List Cond := .code yX3_copyFrom cX3_copyFrom 3 none :: ((wsX3_copyFrom_r1 ++ wsX3_copyFrom_r2) ++ wsX30 ++ wsX10 ++ wsX00)
def wsX3_find : List Cond := .code yX3_find cX3_find 2 (some (.object "LandingFines$Landing")) :: ([.fieldLink RX3 29 "LandingFines$River" "landingCount" "I", .fieldLink RX3 25 "LandingFines$River" "landings" "[LLandingFines$Landing;"] ++ wsX30)
def wsX3_changeSetting : List Cond := .code yX3_changeSetting cX3_changeSetting 4 (some .int) :: ([.fieldLink RX3 18 "LandingFines$River" "settings" "[I"] ++ wsX30)
def wsX3_followTaken : List Cond := .code yX3_followTaken cX3_followTaken 3 none :: ([.fieldLink RX3 29 "LandingFines$River" "landingCount" "I", .fieldLink RX3 25 "LandingFines$River" "landings" "[LLandingFines$Landing;", .fieldLink RX3 88 "LandingFines$Landing" "fare" "I", .fieldLink RX3 36 "LandingFines$River" "taken" "I", .fieldLink RX3 39 "LandingFines$River" "switches" "I", .methodLink RX3 131 yX1_canBeTaken, .instanceMethod yX1_canBeTaken, .selects RX1 yX1_canBeTaken yX1_canBeTaken, .initialized RX1, .code yX1_canBeTaken cX1_canBeTaken 1 (some .boolean), .fieldLink RX1 9 "LandingFines$Landing" "isOpen" "Z", .fieldLink RX1 22 "LandingFines$Landing" "isShunned" "Z"] ++ wsX30 ++ wsX10)
def wsX3_addLanding_r1 : List Cond := [Cond.fieldLink RX3 29 "LandingFines$River" "landingCount" "I", Cond.fieldLink RX3 25 "LandingFines$River" "landings" "[LLandingFines$Landing;", Cond.methodLink RX3 69 yX1_arrive, Cond.instanceMethod yX1_arrive, Cond.selects RX1 yX1_arrive yX1_arrive, Cond.initialized RX1, Cond.code yX1_arrive cX1_arrive 2 none, Cond.fieldLink RX1 9 "LandingFines$Landing" "isOpen" "Z", Cond.fieldLink RX1 15 "LandingFines$Landing" "fare" "I", Cond.fieldLink RX1 19 "LandingFines$Landing" "fine" "I", Cond.fieldLink RX1 22 "LandingFines$Landing" "isShunned" "Z", Cond.fieldLink RX1 25 "LandingFines$Landing" "minutesShunned" "I", Cond.fieldLink RX1 28 "LandingFines$Landing" "minutesSinceHalving" "I", Cond.fieldLink RX1 31 "LandingFines$Landing" "changes" "I", Cond.fieldLink RX1 34 "LandingFines$Landing" "timesShunned" "I", Cond.methodLink RX3 73 yX3_followTaken, Cond.instanceMethod yX3_followTaken, Cond.selects RX3 yX3_followTaken yX3_followTaken, Cond.initialized RX3, Cond.code yX3_followTaken cX3_followTaken 3 none, Cond.fieldLink RX3 88 "LandingFines$Landing" "fare" "I", Cond.fieldLink RX3 36 "LandingFines$River" "taken" "I", Cond.fieldLink RX3 39 "LandingFines$River" "switches" "I", Cond.methodLink RX3 131 yX1_canBeTaken]
def wsX3_addLanding_r2 : List Cond := [Cond.instanceMethod yX1_canBeTaken, Cond.selects RX1 yX1_canBeTaken yX1_canBeTaken, Cond.code yX1_canBeTaken cX1_canBeTaken 1 (some .boolean)]
def wsX3_addLanding : List Cond := .code yX3_addLanding cX3_addLanding 2 (some .int) :: ((wsX3_addLanding_r1 ++ wsX3_addLanding_r2) ++ wsX30 ++ wsX10)
def wsX3_fineBySort : List Cond := .code yX3_fineBySort cX3_fineBySort 3 (some .boolean) :: ([.fieldLink RX3 18 "LandingFines$River" "settings" "[I", .methodLink RX3 102 yX1_addFine, .instanceMethod yX1_addFine, .selects RX1 yX1_addFine yX1_addFine, .initialized RX1, .code yX1_addFine cX1_addFine 3 (some .boolean), .fieldLink RX1 31 "LandingFines$Landing" "changes" "I", .fieldLink RX1 19 "LandingFines$Landing" "fine" "I", .constant RX1 37 (99999), .methodLink RX1 38 Lib.Math.min.name, .static Lib.Math.min.name, .initialized "java/lang/Math", .code Lib.Math.min.name Lib.Math.min.code 2 (some .int), .fieldLink RX1 22 "LandingFines$Landing" "isShunned" "Z", .fieldLink RX1 25 "LandingFines$Landing" "minutesShunned" "I", .fieldLink RX1 34 "LandingFines$Landing" "timesShunned" "I"] ++ wsX30 ++ wsX10)
def wsX3_finishChange_r1 : List Cond := [Cond.fieldLink RX3 45 "LandingFines$River" "journal" "LLandingFines$Journal;", Cond.fieldLink RX3 33 "LandingFines$River" "minutesSoFar" "I", Cond.fieldLink RX3 99 "LandingFines$Landing" "fine" "I", Cond.methodLink RX3 91 yX0_add, Cond.instanceMethod yX0_add, Cond.selects RX0 yX0_add yX0_add, Cond.initialized RX0, Cond.code yX0_add cX0_add 4 none, Cond.fieldLink RX0 9 "LandingFines$Journal" "sorts" "[I", Cond.fieldLink RX0 25 "LandingFines$Journal" "next" "I", Cond.fieldLink RX0 15 "LandingFines$Journal" "places" "[I", Cond.fieldLink RX0 18 "LandingFines$Journal" "minutes" "[I", Cond.fieldLink RX0 21 "LandingFines$Journal" "size" "I", Cond.methodLink RX0 28 Lib.Math.min.name, Cond.static Lib.Math.min.name, Cond.initialized "java/lang/Math", Cond.code Lib.Math.min.name Lib.Math.min.code 2 (some .int), Cond.methodLink RX3 95 yX3_fineBySort, Cond.instanceMethod yX3_fineBySort, Cond.selects RX3 yX3_fineBySort yX3_fineBySort, Cond.initialized RX3, Cond.code yX3_fineBySort cX3_fineBySort 3 (some .boolean), Cond.fieldLink RX3 18 "LandingFines$River" "settings" "[I", Cond.methodLink RX3 102 yX1_addFine]
def wsX3_finishChange_r2 : List Cond := [Cond.instanceMethod yX1_addFine, Cond.selects RX1 yX1_addFine yX1_addFine, Cond.initialized RX1, Cond.code yX1_addFine cX1_addFine 3 (some .boolean), Cond.fieldLink RX1 31 "LandingFines$Landing" "changes" "I", Cond.fieldLink RX1 19 "LandingFines$Landing" "fine" "I", Cond.constant RX1 37 (99999), Cond.methodLink RX1 38 Lib.Math.min.name, Cond.fieldLink RX1 22 "LandingFines$Landing" "isShunned" "Z", Cond.fieldLink RX1 25 "LandingFines$Landing" "minutesShunned" "I", Cond.fieldLink RX1 34 "LandingFines$Landing" "timesShunned" "I", Cond.methodLink RX3 73 yX3_followTaken, Cond.instanceMethod yX3_followTaken, Cond.selects RX3 yX3_followTaken yX3_followTaken, Cond.code yX3_followTaken cX3_followTaken 3 none, Cond.fieldLink RX3 29 "LandingFines$River" "landingCount" "I", Cond.fieldLink RX3 25 "LandingFines$River" "landings" "[LLandingFines$Landing;", Cond.fieldLink RX3 88 "LandingFines$Landing" "fare" "I", Cond.fieldLink RX3 36 "LandingFines$River" "taken" "I", Cond.fieldLink RX3 39 "LandingFines$River" "switches" "I", Cond.methodLink RX3 131 yX1_canBeTaken, Cond.instanceMethod yX1_canBeTaken, Cond.selects RX1 yX1_canBeTaken yX1_canBeTaken, Cond.code yX1_canBeTaken cX1_canBeTaken 1 (some .boolean)]
def wsX3_finishChange_r3 : List Cond := [Cond.fieldLink RX1 9 "LandingFines$Landing" "isOpen" "Z"]
def wsX3_finishChange : List Cond := .code yX3_finishChange cX3_finishChange 4 (some .int) :: ((wsX3_finishChange_r1 ++ (wsX3_finishChange_r2 ++ wsX3_finishChange_r3)) ++ wsX30 ++ wsX10 ++ wsX00)
def wsX3_openLanding_r1 : List Cond := [Cond.fieldLink RX3 80 "LandingFines$Landing" "isOpen" "Z", Cond.methodLink RX3 76 yX3_find, Cond.instanceMethod yX3_find, Cond.selects RX3 yX3_find yX3_find, Cond.initialized RX3, Cond.code yX3_find cX3_find 2 (some (.object "LandingFines$Landing")), Cond.fieldLink RX3 29 "LandingFines$River" "landingCount" "I", Cond.fieldLink RX3 25 "LandingFines$River" "landings" "[LLandingFines$Landing;", Cond.methodLink RX3 84 yX3_finishChange, Cond.instanceMethod yX3_finishChange, Cond.selects RX3 yX3_finishChange yX3_finishChange, Cond.code yX3_finishChange cX3_finishChange 4 (some .int), Cond.fieldLink RX3 45 "LandingFines$River" "journal" "LLandingFines$Journal;", Cond.fieldLink RX3 33 "LandingFines$River" "minutesSoFar" "I", Cond.fieldLink RX3 99 "LandingFines$Landing" "fine" "I", Cond.methodLink RX3 91 yX0_add, Cond.instanceMethod yX0_add, Cond.selects RX0 yX0_add yX0_add, Cond.initialized RX0, Cond.code yX0_add cX0_add 4 none, Cond.fieldLink RX0 9 "LandingFines$Journal" "sorts" "[I", Cond.fieldLink RX0 25 "LandingFines$Journal" "next" "I", Cond.fieldLink RX0 15 "LandingFines$Journal" "places" "[I", Cond.fieldLink RX0 18 "LandingFines$Journal" "minutes" "[I"]
def wsX3_openLanding_r2 : List Cond := [Cond.fieldLink RX0 21 "LandingFines$Journal" "size" "I", Cond.methodLink RX0 28 Lib.Math.min.name, Cond.static Lib.Math.min.name, Cond.initialized "java/lang/Math", Cond.code Lib.Math.min.name Lib.Math.min.code 2 (some .int), Cond.methodLink RX3 95 yX3_fineBySort, Cond.instanceMethod yX3_fineBySort, Cond.selects RX3 yX3_fineBySort yX3_fineBySort, Cond.code yX3_fineBySort cX3_fineBySort 3 (some .boolean), Cond.fieldLink RX3 18 "LandingFines$River" "settings" "[I", Cond.methodLink RX3 102 yX1_addFine, Cond.instanceMethod yX1_addFine, Cond.selects RX1 yX1_addFine yX1_addFine, Cond.initialized RX1, Cond.code yX1_addFine cX1_addFine 3 (some .boolean), Cond.fieldLink RX1 31 "LandingFines$Landing" "changes" "I", Cond.fieldLink RX1 19 "LandingFines$Landing" "fine" "I", Cond.constant RX1 37 (99999), Cond.methodLink RX1 38 Lib.Math.min.name, Cond.fieldLink RX1 22 "LandingFines$Landing" "isShunned" "Z", Cond.fieldLink RX1 25 "LandingFines$Landing" "minutesShunned" "I", Cond.fieldLink RX1 34 "LandingFines$Landing" "timesShunned" "I", Cond.methodLink RX3 73 yX3_followTaken, Cond.instanceMethod yX3_followTaken]
def wsX3_openLanding_r3 : List Cond := [Cond.selects RX3 yX3_followTaken yX3_followTaken, Cond.code yX3_followTaken cX3_followTaken 3 none, Cond.fieldLink RX3 88 "LandingFines$Landing" "fare" "I", Cond.fieldLink RX3 36 "LandingFines$River" "taken" "I", Cond.fieldLink RX3 39 "LandingFines$River" "switches" "I", Cond.methodLink RX3 131 yX1_canBeTaken, Cond.instanceMethod yX1_canBeTaken, Cond.selects RX1 yX1_canBeTaken yX1_canBeTaken, Cond.code yX1_canBeTaken cX1_canBeTaken 1 (some .boolean), Cond.fieldLink RX1 9 "LandingFines$Landing" "isOpen" "Z"]
def wsX3_openLanding : List Cond := .code yX3_openLanding cX3_openLanding 3 (some .int) :: ((wsX3_openLanding_r1 ++ (wsX3_openLanding_r2 ++ wsX3_openLanding_r3)) ++ wsX10 ++ wsX30 ++ wsX00)
def wsX3_closeLanding_r1 : List Cond := [Cond.fieldLink RX3 80 "LandingFines$Landing" "isOpen" "Z", Cond.methodLink RX3 76 yX3_find, Cond.instanceMethod yX3_find, Cond.selects RX3 yX3_find yX3_find, Cond.initialized RX3, Cond.code yX3_find cX3_find 2 (some (.object "LandingFines$Landing")), Cond.fieldLink RX3 29 "LandingFines$River" "landingCount" "I", Cond.fieldLink RX3 25 "LandingFines$River" "landings" "[LLandingFines$Landing;", Cond.methodLink RX3 84 yX3_finishChange, Cond.instanceMethod yX3_finishChange, Cond.selects RX3 yX3_finishChange yX3_finishChange, Cond.code yX3_finishChange cX3_finishChange 4 (some .int), Cond.fieldLink RX3 45 "LandingFines$River" "journal" "LLandingFines$Journal;", Cond.fieldLink RX3 33 "LandingFines$River" "minutesSoFar" "I", Cond.fieldLink RX3 99 "LandingFines$Landing" "fine" "I", Cond.methodLink RX3 91 yX0_add, Cond.instanceMethod yX0_add, Cond.selects RX0 yX0_add yX0_add, Cond.initialized RX0, Cond.code yX0_add cX0_add 4 none, Cond.fieldLink RX0 9 "LandingFines$Journal" "sorts" "[I", Cond.fieldLink RX0 25 "LandingFines$Journal" "next" "I", Cond.fieldLink RX0 15 "LandingFines$Journal" "places" "[I", Cond.fieldLink RX0 18 "LandingFines$Journal" "minutes" "[I"]
def wsX3_closeLanding_r2 : List Cond := [Cond.fieldLink RX0 21 "LandingFines$Journal" "size" "I", Cond.methodLink RX0 28 Lib.Math.min.name, Cond.static Lib.Math.min.name, Cond.initialized "java/lang/Math", Cond.code Lib.Math.min.name Lib.Math.min.code 2 (some .int), Cond.methodLink RX3 95 yX3_fineBySort, Cond.instanceMethod yX3_fineBySort, Cond.selects RX3 yX3_fineBySort yX3_fineBySort, Cond.code yX3_fineBySort cX3_fineBySort 3 (some .boolean), Cond.fieldLink RX3 18 "LandingFines$River" "settings" "[I", Cond.methodLink RX3 102 yX1_addFine, Cond.instanceMethod yX1_addFine, Cond.selects RX1 yX1_addFine yX1_addFine, Cond.initialized RX1, Cond.code yX1_addFine cX1_addFine 3 (some .boolean), Cond.fieldLink RX1 31 "LandingFines$Landing" "changes" "I", Cond.fieldLink RX1 19 "LandingFines$Landing" "fine" "I", Cond.constant RX1 37 (99999), Cond.methodLink RX1 38 Lib.Math.min.name, Cond.fieldLink RX1 22 "LandingFines$Landing" "isShunned" "Z", Cond.fieldLink RX1 25 "LandingFines$Landing" "minutesShunned" "I", Cond.fieldLink RX1 34 "LandingFines$Landing" "timesShunned" "I", Cond.methodLink RX3 73 yX3_followTaken, Cond.instanceMethod yX3_followTaken]
def wsX3_closeLanding_r3 : List Cond := [Cond.selects RX3 yX3_followTaken yX3_followTaken, Cond.code yX3_followTaken cX3_followTaken 3 none, Cond.fieldLink RX3 88 "LandingFines$Landing" "fare" "I", Cond.fieldLink RX3 36 "LandingFines$River" "taken" "I", Cond.fieldLink RX3 39 "LandingFines$River" "switches" "I", Cond.methodLink RX3 131 yX1_canBeTaken, Cond.instanceMethod yX1_canBeTaken, Cond.selects RX1 yX1_canBeTaken yX1_canBeTaken, Cond.code yX1_canBeTaken cX1_canBeTaken 1 (some .boolean), Cond.fieldLink RX1 9 "LandingFines$Landing" "isOpen" "Z"]
def wsX3_closeLanding : List Cond := .code yX3_closeLanding cX3_closeLanding 3 (some .int) :: ((wsX3_closeLanding_r1 ++ (wsX3_closeLanding_r2 ++ wsX3_closeLanding_r3)) ++ wsX10 ++ wsX30 ++ wsX00)
def wsX3_changePrice_r1 : List Cond := [Cond.fieldLink RX3 88 "LandingFines$Landing" "fare" "I", Cond.methodLink RX3 76 yX3_find, Cond.instanceMethod yX3_find, Cond.selects RX3 yX3_find yX3_find, Cond.initialized RX3, Cond.code yX3_find cX3_find 2 (some (.object "LandingFines$Landing")), Cond.fieldLink RX3 29 "LandingFines$River" "landingCount" "I", Cond.fieldLink RX3 25 "LandingFines$River" "landings" "[LLandingFines$Landing;", Cond.methodLink RX3 84 yX3_finishChange, Cond.instanceMethod yX3_finishChange, Cond.selects RX3 yX3_finishChange yX3_finishChange, Cond.code yX3_finishChange cX3_finishChange 4 (some .int), Cond.fieldLink RX3 45 "LandingFines$River" "journal" "LLandingFines$Journal;", Cond.fieldLink RX3 33 "LandingFines$River" "minutesSoFar" "I", Cond.fieldLink RX3 99 "LandingFines$Landing" "fine" "I", Cond.methodLink RX3 91 yX0_add, Cond.instanceMethod yX0_add, Cond.selects RX0 yX0_add yX0_add, Cond.initialized RX0, Cond.code yX0_add cX0_add 4 none, Cond.fieldLink RX0 9 "LandingFines$Journal" "sorts" "[I", Cond.fieldLink RX0 25 "LandingFines$Journal" "next" "I", Cond.fieldLink RX0 15 "LandingFines$Journal" "places" "[I", Cond.fieldLink RX0 18 "LandingFines$Journal" "minutes" "[I"]
def wsX3_changePrice_r2 : List Cond := [Cond.fieldLink RX0 21 "LandingFines$Journal" "size" "I", Cond.methodLink RX0 28 Lib.Math.min.name, Cond.static Lib.Math.min.name, Cond.initialized "java/lang/Math", Cond.code Lib.Math.min.name Lib.Math.min.code 2 (some .int), Cond.methodLink RX3 95 yX3_fineBySort, Cond.instanceMethod yX3_fineBySort, Cond.selects RX3 yX3_fineBySort yX3_fineBySort, Cond.code yX3_fineBySort cX3_fineBySort 3 (some .boolean), Cond.fieldLink RX3 18 "LandingFines$River" "settings" "[I", Cond.methodLink RX3 102 yX1_addFine, Cond.instanceMethod yX1_addFine, Cond.selects RX1 yX1_addFine yX1_addFine, Cond.initialized RX1, Cond.code yX1_addFine cX1_addFine 3 (some .boolean), Cond.fieldLink RX1 31 "LandingFines$Landing" "changes" "I", Cond.fieldLink RX1 19 "LandingFines$Landing" "fine" "I", Cond.constant RX1 37 (99999), Cond.methodLink RX1 38 Lib.Math.min.name, Cond.fieldLink RX1 22 "LandingFines$Landing" "isShunned" "Z", Cond.fieldLink RX1 25 "LandingFines$Landing" "minutesShunned" "I", Cond.fieldLink RX1 34 "LandingFines$Landing" "timesShunned" "I", Cond.methodLink RX3 73 yX3_followTaken, Cond.instanceMethod yX3_followTaken]
def wsX3_changePrice_r3 : List Cond := [Cond.selects RX3 yX3_followTaken yX3_followTaken, Cond.code yX3_followTaken cX3_followTaken 3 none, Cond.fieldLink RX3 36 "LandingFines$River" "taken" "I", Cond.fieldLink RX3 39 "LandingFines$River" "switches" "I", Cond.methodLink RX3 131 yX1_canBeTaken, Cond.instanceMethod yX1_canBeTaken, Cond.selects RX1 yX1_canBeTaken yX1_canBeTaken, Cond.code yX1_canBeTaken cX1_canBeTaken 1 (some .boolean), Cond.fieldLink RX1 9 "LandingFines$Landing" "isOpen" "Z"]
def wsX3_changePrice : List Cond := .code yX3_changePrice cX3_changePrice 4 (some .int) :: ((wsX3_changePrice_r1 ++ (wsX3_changePrice_r2 ++ wsX3_changePrice_r3)) ++ wsX10 ++ wsX30 ++ wsX00)
def wsX3_passMinuteOf : List Cond := .code yX3_passMinuteOf cX3_passMinuteOf 2 (some .boolean) :: ([.fieldLink RX3 18 "LandingFines$River" "settings" "[I", .methodLink RX3 115 yX1_passMinute, .instanceMethod yX1_passMinute, .selects RX1 yX1_passMinute yX1_passMinute, .initialized RX1, .code yX1_passMinute cX1_passMinute 4 (some .boolean), .fieldLink RX1 28 "LandingFines$Landing" "minutesSinceHalving" "I", .fieldLink RX1 19 "LandingFines$Landing" "fine" "I", .fieldLink RX1 22 "LandingFines$Landing" "isShunned" "Z", .fieldLink RX1 25 "LandingFines$Landing" "minutesShunned" "I", .methodLink RX1 38 Lib.Math.min.name, .static Lib.Math.min.name, .initialized "java/lang/Math", .code Lib.Math.min.name Lib.Math.min.code 2 (some .int)] ++ wsX30 ++ wsX10)
def wsX3_passOneMinute_r1 : List Cond := [Cond.fieldLink RX3 33 "LandingFines$River" "minutesSoFar" "I", Cond.fieldLink RX3 29 "LandingFines$River" "landingCount" "I", Cond.fieldLink RX3 25 "LandingFines$River" "landings" "[LLandingFines$Landing;", Cond.fieldLink RX3 45 "LandingFines$River" "journal" "LLandingFines$Journal;", Cond.methodLink RX3 111 yX3_passMinuteOf, Cond.instanceMethod yX3_passMinuteOf, Cond.selects RX3 yX3_passMinuteOf yX3_passMinuteOf, Cond.initialized RX3, Cond.code yX3_passMinuteOf cX3_passMinuteOf 2 (some .boolean), Cond.fieldLink RX3 18 "LandingFines$River" "settings" "[I", Cond.methodLink RX3 115 yX1_passMinute, Cond.instanceMethod yX1_passMinute, Cond.selects RX1 yX1_passMinute yX1_passMinute, Cond.initialized RX1, Cond.code yX1_passMinute cX1_passMinute 4 (some .boolean), Cond.fieldLink RX1 28 "LandingFines$Landing" "minutesSinceHalving" "I", Cond.fieldLink RX1 19 "LandingFines$Landing" "fine" "I", Cond.fieldLink RX1 22 "LandingFines$Landing" "isShunned" "Z", Cond.fieldLink RX1 25 "LandingFines$Landing" "minutesShunned" "I", Cond.methodLink RX1 38 Lib.Math.min.name, Cond.static Lib.Math.min.name, Cond.initialized "java/lang/Math", Cond.code Lib.Math.min.name Lib.Math.min.code 2 (some .int), Cond.methodLink RX3 91 yX0_add]
def wsX3_passOneMinute_r2 : List Cond := [Cond.instanceMethod yX0_add, Cond.selects RX0 yX0_add yX0_add, Cond.initialized RX0, Cond.code yX0_add cX0_add 4 none, Cond.fieldLink RX0 9 "LandingFines$Journal" "sorts" "[I", Cond.fieldLink RX0 25 "LandingFines$Journal" "next" "I", Cond.fieldLink RX0 15 "LandingFines$Journal" "places" "[I", Cond.fieldLink RX0 18 "LandingFines$Journal" "minutes" "[I", Cond.fieldLink RX0 21 "LandingFines$Journal" "size" "I", Cond.methodLink RX0 28 Lib.Math.min.name, Cond.methodLink RX3 73 yX3_followTaken, Cond.instanceMethod yX3_followTaken, Cond.selects RX3 yX3_followTaken yX3_followTaken, Cond.code yX3_followTaken cX3_followTaken 3 none, Cond.fieldLink RX3 88 "LandingFines$Landing" "fare" "I", Cond.fieldLink RX3 36 "LandingFines$River" "taken" "I", Cond.fieldLink RX3 39 "LandingFines$River" "switches" "I", Cond.methodLink RX3 131 yX1_canBeTaken, Cond.instanceMethod yX1_canBeTaken, Cond.selects RX1 yX1_canBeTaken yX1_canBeTaken, Cond.code yX1_canBeTaken cX1_canBeTaken 1 (some .boolean), Cond.fieldLink RX1 9 "LandingFines$Landing" "isOpen" "Z"]
def wsX3_passOneMinute : List Cond := .code yX3_passOneMinute cX3_passOneMinute 3 (some .int) :: ((wsX3_passOneMinute_r1 ++ wsX3_passOneMinute_r2) ++ wsX30 ++ wsX10 ++ wsX00)
def wsX3_passMinutes_r1 : List Cond := [Cond.fieldLink RX3 33 "LandingFines$River" "minutesSoFar" "I", Cond.constant RX3 106 (99999), Cond.methodLink RX3 107 yX3_passOneMinute, Cond.instanceMethod yX3_passOneMinute, Cond.selects RX3 yX3_passOneMinute yX3_passOneMinute, Cond.initialized RX3, Cond.code yX3_passOneMinute cX3_passOneMinute 3 (some .int), Cond.fieldLink RX3 29 "LandingFines$River" "landingCount" "I", Cond.fieldLink RX3 25 "LandingFines$River" "landings" "[LLandingFines$Landing;", Cond.fieldLink RX3 45 "LandingFines$River" "journal" "LLandingFines$Journal;", Cond.methodLink RX3 111 yX3_passMinuteOf, Cond.instanceMethod yX3_passMinuteOf, Cond.selects RX3 yX3_passMinuteOf yX3_passMinuteOf, Cond.code yX3_passMinuteOf cX3_passMinuteOf 2 (some .boolean), Cond.fieldLink RX3 18 "LandingFines$River" "settings" "[I", Cond.methodLink RX3 115 yX1_passMinute, Cond.instanceMethod yX1_passMinute, Cond.selects RX1 yX1_passMinute yX1_passMinute, Cond.initialized RX1, Cond.code yX1_passMinute cX1_passMinute 4 (some .boolean), Cond.fieldLink RX1 28 "LandingFines$Landing" "minutesSinceHalving" "I", Cond.fieldLink RX1 19 "LandingFines$Landing" "fine" "I", Cond.fieldLink RX1 22 "LandingFines$Landing" "isShunned" "Z", Cond.fieldLink RX1 25 "LandingFines$Landing" "minutesShunned" "I"]
def wsX3_passMinutes_r2 : List Cond := [Cond.methodLink RX1 38 Lib.Math.min.name, Cond.static Lib.Math.min.name, Cond.initialized "java/lang/Math", Cond.code Lib.Math.min.name Lib.Math.min.code 2 (some .int), Cond.methodLink RX3 91 yX0_add, Cond.instanceMethod yX0_add, Cond.selects RX0 yX0_add yX0_add, Cond.initialized RX0, Cond.code yX0_add cX0_add 4 none, Cond.fieldLink RX0 9 "LandingFines$Journal" "sorts" "[I", Cond.fieldLink RX0 25 "LandingFines$Journal" "next" "I", Cond.fieldLink RX0 15 "LandingFines$Journal" "places" "[I", Cond.fieldLink RX0 18 "LandingFines$Journal" "minutes" "[I", Cond.fieldLink RX0 21 "LandingFines$Journal" "size" "I", Cond.methodLink RX0 28 Lib.Math.min.name, Cond.methodLink RX3 73 yX3_followTaken, Cond.instanceMethod yX3_followTaken, Cond.selects RX3 yX3_followTaken yX3_followTaken, Cond.code yX3_followTaken cX3_followTaken 3 none, Cond.fieldLink RX3 88 "LandingFines$Landing" "fare" "I", Cond.fieldLink RX3 36 "LandingFines$River" "taken" "I", Cond.fieldLink RX3 39 "LandingFines$River" "switches" "I", Cond.methodLink RX3 131 yX1_canBeTaken, Cond.instanceMethod yX1_canBeTaken]
def wsX3_passMinutes_r3 : List Cond := [Cond.selects RX1 yX1_canBeTaken yX1_canBeTaken, Cond.code yX1_canBeTaken cX1_canBeTaken 1 (some .boolean), Cond.fieldLink RX1 9 "LandingFines$Landing" "isOpen" "Z"]
def wsX3_passMinutes : List Cond := .code yX3_passMinutes cX3_passMinutes 4 (some .int) :: ((wsX3_passMinutes_r1 ++ (wsX3_passMinutes_r2 ++ wsX3_passMinutes_r3)) ++ wsX30 ++ wsX10 ++ wsX00)
def wsX3_fade : List Cond := .code yX3_fade cX3_fade 5 none :: ([.fieldLink RX3 18 "LandingFines$River" "settings" "[I", .methodLink RX3 119 Lib.Math.max.name, .static Lib.Math.max.name, .initialized "java/lang/Math", .code Lib.Math.max.name Lib.Math.max.code 2 (some .int), .fieldLink RX3 125 "LandingFines$Landing" "minutesSinceHalving" "I", .fieldLink RX3 99 "LandingFines$Landing" "fine" "I", .methodLink RX3 128 Lib.Math.min.name, .static Lib.Math.min.name, .code Lib.Math.min.name Lib.Math.min.code 2 (some .int)] ++ wsX30 ++ wsX10)
def wsX3_rankOf : List Cond := .code yX3_rankOf cX3_rankOf 6 (some .int) :: ([.fieldLink RX3 25 "LandingFines$River" "landings" "[LLandingFines$Landing;", .fieldLink RX3 88 "LandingFines$Landing" "fare" "I", .fieldLink RX3 29 "LandingFines$River" "landingCount" "I", .methodLink RX3 131 yX1_canBeTaken, .instanceMethod yX1_canBeTaken, .selects RX1 yX1_canBeTaken yX1_canBeTaken, .initialized RX1, .code yX1_canBeTaken cX1_canBeTaken 1 (some .boolean), .fieldLink RX1 9 "LandingFines$Landing" "isOpen" "Z", .fieldLink RX1 22 "LandingFines$Landing" "isShunned" "Z"] ++ wsX30 ++ wsX10)
def wsX3_chosen : List Cond := .code yX3_chosen cX3_chosen 3 (some .int) :: ([.fieldLink RX3 29 "LandingFines$River" "landingCount" "I", .fieldLink RX3 25 "LandingFines$River" "landings" "[LLandingFines$Landing;", .methodLink RX3 131 yX1_canBeTaken, .instanceMethod yX1_canBeTaken, .selects RX1 yX1_canBeTaken yX1_canBeTaken, .initialized RX1, .code yX1_canBeTaken cX1_canBeTaken 1 (some .boolean), .fieldLink RX1 9 "LandingFines$Landing" "isOpen" "Z", .fieldLink RX1 22 "LandingFines$Landing" "isShunned" "Z", .methodLink RX3 135 yX3_rankOf, .instanceMethod yX3_rankOf, .selects RX3 yX3_rankOf yX3_rankOf, .initialized RX3, .code yX3_rankOf cX3_rankOf 6 (some .int), .fieldLink RX3 88 "LandingFines$Landing" "fare" "I"] ++ wsX30 ++ wsX10)
def wsX3_openOnes : List Cond := .code yX3_openOnes cX3_openOnes 3 (some .int) :: ([.fieldLink RX3 29 "LandingFines$River" "landingCount" "I", .fieldLink RX3 25 "LandingFines$River" "landings" "[LLandingFines$Landing;", .fieldLink RX3 80 "LandingFines$Landing" "isOpen" "Z"] ++ wsX30 ++ wsX10)
def wsX3_shunnedOnes : List Cond := .code yX3_shunnedOnes cX3_shunnedOnes 3 (some .int) :: ([.fieldLink RX3 29 "LandingFines$River" "landingCount" "I", .fieldLink RX3 25 "LandingFines$River" "landings" "[LLandingFines$Landing;", .fieldLink RX3 148 "LandingFines$Landing" "isShunned" "Z"] ++ wsX30 ++ wsX10)
def wsX3_tell : List Cond := .code yX3_tell cX3_tell 2 (some .int) :: ([.fieldLink RX3 33 "LandingFines$River" "minutesSoFar" "I", .fieldLink RX3 29 "LandingFines$River" "landingCount" "I", .fieldLink RX3 36 "LandingFines$River" "taken" "I", .fieldLink RX3 39 "LandingFines$River" "switches" "I", .fieldLink RX3 45 "LandingFines$River" "journal" "LLandingFines$Journal;", .fieldLink RX3 145 "LandingFines$Journal" "size" "I", .fieldLink RX3 18 "LandingFines$River" "settings" "[I", .methodLink RX3 139 yX3_openOnes, .instanceMethod yX3_openOnes, .selects RX3 yX3_openOnes yX3_openOnes, .initialized RX3, .code yX3_openOnes cX3_openOnes 3 (some .int), .fieldLink RX3 25 "LandingFines$River" "landings" "[LLandingFines$Landing;", .fieldLink RX3 80 "LandingFines$Landing" "isOpen" "Z", .methodLink RX3 142 yX3_shunnedOnes, .instanceMethod yX3_shunnedOnes, .selects RX3 yX3_shunnedOnes yX3_shunnedOnes, .code yX3_shunnedOnes cX3_shunnedOnes 3 (some .int), .fieldLink RX3 148 "LandingFines$Landing" "isShunned" "Z"] ++ wsX30 ++ wsX00 ++ wsX10)
def wsX4_init_r1 : List Cond := [Cond.methodLink RX4 1 objectInit, Cond.instanceMethod objectInit, Cond.code objectInit ⟨#[0xb1]⟩ 1 none, Cond.classLink RX4 7 RX3, Cond.instantiable RX3 7, Cond.initialized RX3, Cond.fieldLink RX4 10 "LandingFines" "river" "LLandingFines$River;", Cond.fieldLink RX4 16 "LandingFines" "history" "[LLandingFines$River;", Cond.fieldLink RX4 20 "LandingFines" "historySize" "I", Cond.fieldLink RX4 24 "LandingFines" "slots" "[LLandingFines$River;", Cond.arrayClass .boolean, Cond.fieldLink RX4 27 "LandingFines" "slotUsed" "[Z", Cond.classLink RX4 31 RX2, Cond.instantiable RX2 6, Cond.initialized RX2, Cond.fieldLink RX4 34 "LandingFines" "pad" "LLandingFines$Pad;", Cond.classLink RX4 38 RX1, Cond.instantiable RX1 8, Cond.initialized RX1, Cond.fieldLink RX4 41 "LandingFines" "trial" "LLandingFines$Landing;", Cond.methodLink RX4 9 yX3_init, Cond.instanceMethod yX3_init, Cond.code yX3_init cX3_init 2 none, Cond.methodLink RX3 3 objectInit]
def wsX4_init_r2 : List Cond := [Cond.methodLink RX3 13 ⟨"[I", "clone", "()Ljava/lang/Object;"⟩, Cond.sameMethod "[I" "java/lang/Object" "clone" "()Ljava/lang/Object;", Cond.native ⟨"java/lang/Object", "clone", "()Ljava/lang/Object;"⟩, Cond.instanceMethod ⟨"java/lang/Object", "clone", "()Ljava/lang/Object;"⟩, Cond.selects "[I" ⟨"[I", "clone", "()Ljava/lang/Object;"⟩ ⟨"java/lang/Object", "clone", "()Ljava/lang/Object;"⟩, Cond.classLink RX3 14 "[I", Cond.fieldLink RX3 18 "LandingFines$River" "settings" "[I", Cond.classLink RX3 23 RX1, Cond.fieldLink RX3 25 "LandingFines$River" "landings" "[LLandingFines$Landing;", Cond.fieldLink RX3 29 "LandingFines$River" "landingCount" "I", Cond.fieldLink RX3 33 "LandingFines$River" "minutesSoFar" "I", Cond.fieldLink RX3 36 "LandingFines$River" "taken" "I", Cond.fieldLink RX3 39 "LandingFines$River" "switches" "I", Cond.classLink RX3 42 RX0, Cond.instantiable RX0 5, Cond.initialized RX0, Cond.fieldLink RX3 45 "LandingFines$River" "journal" "LLandingFines$Journal;", Cond.instanceMethod yX0_init, Cond.code yX0_init cX0_init 1 none, Cond.methodLink RX0 3 objectInit, Cond.arrayClass .int, Cond.fieldLink RX0 9 "LandingFines$Journal" "sorts" "[I", Cond.fieldLink RX0 15 "LandingFines$Journal" "places" "[I", Cond.fieldLink RX0 18 "LandingFines$Journal" "minutes" "[I"]
def wsX4_init_r3 : List Cond := [Cond.fieldLink RX0 21 "LandingFines$Journal" "size" "I", Cond.fieldLink RX0 25 "LandingFines$Journal" "next" "I", Cond.instanceMethod yX1_init, Cond.code yX1_init cX1_init 1 none, Cond.methodLink RX1 3 objectInit, Cond.instanceMethod yX2_init, Cond.code yX2_init cX2_init 1 none, Cond.methodLink RX2 3 objectInit, Cond.arrayClass .char, Cond.fieldLink RX2 9 "LandingFines$Pad" "signs" "[C", Cond.fieldLink RX2 15 "LandingFines$Pad" "length" "I", Cond.fieldLink RX2 19 "LandingFines$Pad" "place" "I", Cond.fieldLink RX2 22 "LandingFines$Pad" "orderSign" "C", Cond.fieldLink RX2 26 "LandingFines$Pad" "orderLanding" "I", Cond.fieldLink RX2 29 "LandingFines$Pad" "orderNumber" "I"]
def wsX4_init : List Cond := .code yX4_init cX4_init 2 none :: ((wsX4_init_r1 ++ (wsX4_init_r2 ++ wsX4_init_r3)) ++ wsX30 ++ wsX40 ++ wsX20 ++ wsX10 ++ wsX00)
def wsX4_keepState_r1 : List Cond := [Cond.fieldLink RX4 16 "LandingFines" "history" "[LLandingFines$River;", Cond.fieldLink RX4 20 "LandingFines" "historySize" "I", Cond.fieldLink RX4 10 "LandingFines" "river" "LLandingFines$River;", Cond.methodLink RX4 171 yX3_copyFrom, Cond.instanceMethod yX3_copyFrom, Cond.selects RX3 yX3_copyFrom yX3_copyFrom, Cond.initialized RX3, Cond.code yX3_copyFrom cX3_copyFrom 3 none, Cond.fieldLink RX3 18 "LandingFines$River" "settings" "[I", Cond.methodLink RX3 50 arraycopyName, Cond.native arraycopyName, Cond.static arraycopyName, Cond.initialized "java/lang/System", Cond.fieldLink RX3 25 "LandingFines$River" "landings" "[LLandingFines$Landing;", Cond.fieldLink RX3 29 "LandingFines$River" "landingCount" "I", Cond.fieldLink RX3 33 "LandingFines$River" "minutesSoFar" "I", Cond.fieldLink RX3 36 "LandingFines$River" "taken" "I", Cond.fieldLink RX3 39 "LandingFines$River" "switches" "I", Cond.fieldLink RX3 45 "LandingFines$River" "journal" "LLandingFines$Journal;", Cond.methodLink RX3 56 yX1_copyFrom, Cond.instanceMethod yX1_copyFrom, Cond.selects RX1 yX1_copyFrom yX1_copyFrom, Cond.initialized RX1, Cond.code yX1_copyFrom cX1_copyFrom 2 none]
def wsX4_keepState_r2 : List Cond := [Cond.fieldLink RX1 9 "LandingFines$Landing" "isOpen" "Z", Cond.fieldLink RX1 15 "LandingFines$Landing" "fare" "I", Cond.fieldLink RX1 19 "LandingFines$Landing" "fine" "I", Cond.fieldLink RX1 22 "LandingFines$Landing" "isShunned" "Z", Cond.fieldLink RX1 25 "LandingFines$Landing" "minutesShunned" "I", Cond.fieldLink RX1 28 "LandingFines$Landing" "minutesSinceHalving" "I", Cond.fieldLink RX1 31 "LandingFines$Landing" "changes" "I", Cond.fieldLink RX1 34 "LandingFines$Landing" "timesShunned" "I", Cond.methodLink RX3 60 yX0_copyFrom, Cond.instanceMethod yX0_copyFrom, Cond.selects RX0 yX0_copyFrom yX0_copyFrom, Cond.initialized RX0, Cond.code yX0_copyFrom cX0_copyFrom 2 none, Cond.fieldLink RX0 9 "LandingFines$Journal" "sorts" "[I", Cond.methodLink RX0 34 arraycopyName, Cond.fieldLink RX0 15 "LandingFines$Journal" "places" "[I", Cond.fieldLink RX0 18 "LandingFines$Journal" "minutes" "[I", Cond.fieldLink RX0 21 "LandingFines$Journal" "size" "I", Cond.fieldLink RX0 25 "LandingFines$Journal" "next" "I"]
def wsX4_keepState : List Cond := .code yX4_keepState cX4_keepState 1 none :: ((wsX4_keepState_r1 ++ wsX4_keepState_r2) ++ wsX40 ++ wsX30 ++ wsX10 ++ wsX00)
def wsX4_dropOldest : List Cond := .code yX4_dropOldest cX4_dropOldest 3 none :: ([.fieldLink RX4 16 "LandingFines" "history" "[LLandingFines$River;"] ++ wsX40)
def wsX4_recordUnlessError : List Cond := .code yX4_recordUnlessError cX4_recordUnlessError 2 (some .int) :: ([.fieldLink RX4 20 "LandingFines" "historySize" "I", .methodLink RX4 177 yX4_dropOldest, .instanceMethod yX4_dropOldest, .selects RX4 yX4_dropOldest yX4_dropOldest, .initialized RX4, .code yX4_dropOldest cX4_dropOldest 3 none, .fieldLink RX4 16 "LandingFines" "history" "[LLandingFines$River;"] ++ wsX40)
def wsX4_set_r1 : List Cond := [Cond.fieldLink RX4 10 "LandingFines" "river" "LLandingFines$River;", Cond.methodLink RX4 45 yX4_keepState, Cond.instanceMethod yX4_keepState, Cond.selects RX4 yX4_keepState yX4_keepState, Cond.initialized RX4, Cond.code yX4_keepState cX4_keepState 1 none, Cond.fieldLink RX4 16 "LandingFines" "history" "[LLandingFines$River;", Cond.fieldLink RX4 20 "LandingFines" "historySize" "I", Cond.methodLink RX4 171 yX3_copyFrom, Cond.instanceMethod yX3_copyFrom, Cond.selects RX3 yX3_copyFrom yX3_copyFrom, Cond.initialized RX3, Cond.code yX3_copyFrom cX3_copyFrom 3 none, Cond.fieldLink RX3 18 "LandingFines$River" "settings" "[I", Cond.methodLink RX3 50 arraycopyName, Cond.native arraycopyName, Cond.static arraycopyName, Cond.initialized "java/lang/System", Cond.fieldLink RX3 25 "LandingFines$River" "landings" "[LLandingFines$Landing;", Cond.fieldLink RX3 29 "LandingFines$River" "landingCount" "I", Cond.fieldLink RX3 33 "LandingFines$River" "minutesSoFar" "I", Cond.fieldLink RX3 36 "LandingFines$River" "taken" "I", Cond.fieldLink RX3 39 "LandingFines$River" "switches" "I", Cond.fieldLink RX3 45 "LandingFines$River" "journal" "LLandingFines$Journal;"]
def wsX4_set_r2 : List Cond := [Cond.methodLink RX3 56 yX1_copyFrom, Cond.instanceMethod yX1_copyFrom, Cond.selects RX1 yX1_copyFrom yX1_copyFrom, Cond.initialized RX1, Cond.code yX1_copyFrom cX1_copyFrom 2 none, Cond.fieldLink RX1 9 "LandingFines$Landing" "isOpen" "Z", Cond.fieldLink RX1 15 "LandingFines$Landing" "fare" "I", Cond.fieldLink RX1 19 "LandingFines$Landing" "fine" "I", Cond.fieldLink RX1 22 "LandingFines$Landing" "isShunned" "Z", Cond.fieldLink RX1 25 "LandingFines$Landing" "minutesShunned" "I", Cond.fieldLink RX1 28 "LandingFines$Landing" "minutesSinceHalving" "I", Cond.fieldLink RX1 31 "LandingFines$Landing" "changes" "I", Cond.fieldLink RX1 34 "LandingFines$Landing" "timesShunned" "I", Cond.methodLink RX3 60 yX0_copyFrom, Cond.instanceMethod yX0_copyFrom, Cond.selects RX0 yX0_copyFrom yX0_copyFrom, Cond.initialized RX0, Cond.code yX0_copyFrom cX0_copyFrom 2 none, Cond.fieldLink RX0 9 "LandingFines$Journal" "sorts" "[I", Cond.methodLink RX0 34 arraycopyName, Cond.fieldLink RX0 15 "LandingFines$Journal" "places" "[I", Cond.fieldLink RX0 18 "LandingFines$Journal" "minutes" "[I", Cond.fieldLink RX0 21 "LandingFines$Journal" "size" "I", Cond.fieldLink RX0 25 "LandingFines$Journal" "next" "I"]
def wsX4_set_r3 : List Cond := [Cond.methodLink RX4 48 yX3_changeSetting, Cond.instanceMethod yX3_changeSetting, Cond.selects RX3 yX3_changeSetting yX3_changeSetting, Cond.code yX3_changeSetting cX3_changeSetting 4 (some .int), Cond.methodLink RX4 52 yX4_recordUnlessError, Cond.instanceMethod yX4_recordUnlessError, Cond.selects RX4 yX4_recordUnlessError yX4_recordUnlessError, Cond.code yX4_recordUnlessError cX4_recordUnlessError 2 (some .int), Cond.methodLink RX4 177 yX4_dropOldest, Cond.instanceMethod yX4_dropOldest, Cond.selects RX4 yX4_dropOldest yX4_dropOldest, Cond.code yX4_dropOldest cX4_dropOldest 3 none]
def wsX4_set : List Cond := .code yX4_set cX4_set 3 (some .int) :: ((wsX4_set_r1 ++ (wsX4_set_r2 ++ wsX4_set_r3)) ++ wsX40 ++ wsX30 ++ wsX10 ++ wsX00)
def wsX4_landing_r1 : List Cond := [Cond.fieldLink RX4 10 "LandingFines" "river" "LLandingFines$River;", Cond.methodLink RX4 45 yX4_keepState, Cond.instanceMethod yX4_keepState, Cond.selects RX4 yX4_keepState yX4_keepState, Cond.initialized RX4, Cond.code yX4_keepState cX4_keepState 1 none, Cond.fieldLink RX4 16 "LandingFines" "history" "[LLandingFines$River;", Cond.fieldLink RX4 20 "LandingFines" "historySize" "I", Cond.methodLink RX4 171 yX3_copyFrom, Cond.instanceMethod yX3_copyFrom, Cond.selects RX3 yX3_copyFrom yX3_copyFrom, Cond.initialized RX3, Cond.code yX3_copyFrom cX3_copyFrom 3 none, Cond.fieldLink RX3 18 "LandingFines$River" "settings" "[I", Cond.methodLink RX3 50 arraycopyName, Cond.native arraycopyName, Cond.static arraycopyName, Cond.initialized "java/lang/System", Cond.fieldLink RX3 25 "LandingFines$River" "landings" "[LLandingFines$Landing;", Cond.fieldLink RX3 29 "LandingFines$River" "landingCount" "I", Cond.fieldLink RX3 33 "LandingFines$River" "minutesSoFar" "I", Cond.fieldLink RX3 36 "LandingFines$River" "taken" "I", Cond.fieldLink RX3 39 "LandingFines$River" "switches" "I", Cond.fieldLink RX3 45 "LandingFines$River" "journal" "LLandingFines$Journal;"]
def wsX4_landing_r2 : List Cond := [Cond.methodLink RX3 56 yX1_copyFrom, Cond.instanceMethod yX1_copyFrom, Cond.selects RX1 yX1_copyFrom yX1_copyFrom, Cond.initialized RX1, Cond.code yX1_copyFrom cX1_copyFrom 2 none, Cond.fieldLink RX1 9 "LandingFines$Landing" "isOpen" "Z", Cond.fieldLink RX1 15 "LandingFines$Landing" "fare" "I", Cond.fieldLink RX1 19 "LandingFines$Landing" "fine" "I", Cond.fieldLink RX1 22 "LandingFines$Landing" "isShunned" "Z", Cond.fieldLink RX1 25 "LandingFines$Landing" "minutesShunned" "I", Cond.fieldLink RX1 28 "LandingFines$Landing" "minutesSinceHalving" "I", Cond.fieldLink RX1 31 "LandingFines$Landing" "changes" "I", Cond.fieldLink RX1 34 "LandingFines$Landing" "timesShunned" "I", Cond.methodLink RX3 60 yX0_copyFrom, Cond.instanceMethod yX0_copyFrom, Cond.selects RX0 yX0_copyFrom yX0_copyFrom, Cond.initialized RX0, Cond.code yX0_copyFrom cX0_copyFrom 2 none, Cond.fieldLink RX0 9 "LandingFines$Journal" "sorts" "[I", Cond.methodLink RX0 34 arraycopyName, Cond.fieldLink RX0 15 "LandingFines$Journal" "places" "[I", Cond.fieldLink RX0 18 "LandingFines$Journal" "minutes" "[I", Cond.fieldLink RX0 21 "LandingFines$Journal" "size" "I", Cond.fieldLink RX0 25 "LandingFines$Journal" "next" "I"]
def wsX4_landing_r3 : List Cond := [Cond.methodLink RX4 56 yX3_addLanding, Cond.instanceMethod yX3_addLanding, Cond.selects RX3 yX3_addLanding yX3_addLanding, Cond.code yX3_addLanding cX3_addLanding 2 (some .int), Cond.methodLink RX3 69 yX1_arrive, Cond.instanceMethod yX1_arrive, Cond.selects RX1 yX1_arrive yX1_arrive, Cond.code yX1_arrive cX1_arrive 2 none, Cond.methodLink RX3 73 yX3_followTaken, Cond.instanceMethod yX3_followTaken, Cond.selects RX3 yX3_followTaken yX3_followTaken, Cond.code yX3_followTaken cX3_followTaken 3 none, Cond.fieldLink RX3 88 "LandingFines$Landing" "fare" "I", Cond.methodLink RX3 131 yX1_canBeTaken, Cond.instanceMethod yX1_canBeTaken, Cond.selects RX1 yX1_canBeTaken yX1_canBeTaken, Cond.code yX1_canBeTaken cX1_canBeTaken 1 (some .boolean), Cond.methodLink RX4 52 yX4_recordUnlessError, Cond.instanceMethod yX4_recordUnlessError, Cond.selects RX4 yX4_recordUnlessError yX4_recordUnlessError, Cond.code yX4_recordUnlessError cX4_recordUnlessError 2 (some .int), Cond.methodLink RX4 177 yX4_dropOldest, Cond.instanceMethod yX4_dropOldest, Cond.selects RX4 yX4_dropOldest yX4_dropOldest]
def wsX4_landing_r4 : List Cond := [Cond.code yX4_dropOldest cX4_dropOldest 3 none]
def wsX4_landing : List Cond := .code yX4_landing cX4_landing 2 (some .int) :: ((wsX4_landing_r1 ++ (wsX4_landing_r2 ++ (wsX4_landing_r3 ++ wsX4_landing_r4))) ++ wsX40 ++ wsX30 ++ wsX10 ++ wsX00)
def wsX4_open_r1 : List Cond := [Cond.fieldLink RX4 10 "LandingFines" "river" "LLandingFines$River;", Cond.methodLink RX4 45 yX4_keepState, Cond.instanceMethod yX4_keepState, Cond.selects RX4 yX4_keepState yX4_keepState, Cond.initialized RX4, Cond.code yX4_keepState cX4_keepState 1 none, Cond.fieldLink RX4 16 "LandingFines" "history" "[LLandingFines$River;", Cond.fieldLink RX4 20 "LandingFines" "historySize" "I", Cond.methodLink RX4 171 yX3_copyFrom, Cond.instanceMethod yX3_copyFrom, Cond.selects RX3 yX3_copyFrom yX3_copyFrom, Cond.initialized RX3, Cond.code yX3_copyFrom cX3_copyFrom 3 none, Cond.fieldLink RX3 18 "LandingFines$River" "settings" "[I", Cond.methodLink RX3 50 arraycopyName, Cond.native arraycopyName, Cond.static arraycopyName, Cond.initialized "java/lang/System", Cond.fieldLink RX3 25 "LandingFines$River" "landings" "[LLandingFines$Landing;", Cond.fieldLink RX3 29 "LandingFines$River" "landingCount" "I", Cond.fieldLink RX3 33 "LandingFines$River" "minutesSoFar" "I", Cond.fieldLink RX3 36 "LandingFines$River" "taken" "I", Cond.fieldLink RX3 39 "LandingFines$River" "switches" "I", Cond.fieldLink RX3 45 "LandingFines$River" "journal" "LLandingFines$Journal;"]
def wsX4_open_r2 : List Cond := [Cond.methodLink RX3 56 yX1_copyFrom, Cond.instanceMethod yX1_copyFrom, Cond.selects RX1 yX1_copyFrom yX1_copyFrom, Cond.initialized RX1, Cond.code yX1_copyFrom cX1_copyFrom 2 none, Cond.fieldLink RX1 9 "LandingFines$Landing" "isOpen" "Z", Cond.fieldLink RX1 15 "LandingFines$Landing" "fare" "I", Cond.fieldLink RX1 19 "LandingFines$Landing" "fine" "I", Cond.fieldLink RX1 22 "LandingFines$Landing" "isShunned" "Z", Cond.fieldLink RX1 25 "LandingFines$Landing" "minutesShunned" "I", Cond.fieldLink RX1 28 "LandingFines$Landing" "minutesSinceHalving" "I", Cond.fieldLink RX1 31 "LandingFines$Landing" "changes" "I", Cond.fieldLink RX1 34 "LandingFines$Landing" "timesShunned" "I", Cond.methodLink RX3 60 yX0_copyFrom, Cond.instanceMethod yX0_copyFrom, Cond.selects RX0 yX0_copyFrom yX0_copyFrom, Cond.initialized RX0, Cond.code yX0_copyFrom cX0_copyFrom 2 none, Cond.fieldLink RX0 9 "LandingFines$Journal" "sorts" "[I", Cond.methodLink RX0 34 arraycopyName, Cond.fieldLink RX0 15 "LandingFines$Journal" "places" "[I", Cond.fieldLink RX0 18 "LandingFines$Journal" "minutes" "[I", Cond.fieldLink RX0 21 "LandingFines$Journal" "size" "I", Cond.fieldLink RX0 25 "LandingFines$Journal" "next" "I"]
def wsX4_open_r3 : List Cond := [Cond.methodLink RX4 59 yX3_openLanding, Cond.instanceMethod yX3_openLanding, Cond.selects RX3 yX3_openLanding yX3_openLanding, Cond.code yX3_openLanding cX3_openLanding 3 (some .int), Cond.fieldLink RX3 80 "LandingFines$Landing" "isOpen" "Z", Cond.methodLink RX3 76 yX3_find, Cond.instanceMethod yX3_find, Cond.selects RX3 yX3_find yX3_find, Cond.code yX3_find cX3_find 2 (some (.object "LandingFines$Landing")), Cond.methodLink RX3 84 yX3_finishChange, Cond.instanceMethod yX3_finishChange, Cond.selects RX3 yX3_finishChange yX3_finishChange, Cond.code yX3_finishChange cX3_finishChange 4 (some .int), Cond.fieldLink RX3 99 "LandingFines$Landing" "fine" "I", Cond.methodLink RX3 91 yX0_add, Cond.instanceMethod yX0_add, Cond.selects RX0 yX0_add yX0_add, Cond.code yX0_add cX0_add 4 none, Cond.methodLink RX0 28 Lib.Math.min.name, Cond.static Lib.Math.min.name, Cond.initialized "java/lang/Math", Cond.code Lib.Math.min.name Lib.Math.min.code 2 (some .int), Cond.methodLink RX3 95 yX3_fineBySort, Cond.instanceMethod yX3_fineBySort]
def wsX4_open_r4 : List Cond := [Cond.selects RX3 yX3_fineBySort yX3_fineBySort, Cond.code yX3_fineBySort cX3_fineBySort 3 (some .boolean), Cond.methodLink RX3 102 yX1_addFine, Cond.instanceMethod yX1_addFine, Cond.selects RX1 yX1_addFine yX1_addFine, Cond.code yX1_addFine cX1_addFine 3 (some .boolean), Cond.constant RX1 37 (99999), Cond.methodLink RX1 38 Lib.Math.min.name, Cond.methodLink RX3 73 yX3_followTaken, Cond.instanceMethod yX3_followTaken, Cond.selects RX3 yX3_followTaken yX3_followTaken, Cond.code yX3_followTaken cX3_followTaken 3 none, Cond.fieldLink RX3 88 "LandingFines$Landing" "fare" "I", Cond.methodLink RX3 131 yX1_canBeTaken, Cond.instanceMethod yX1_canBeTaken, Cond.selects RX1 yX1_canBeTaken yX1_canBeTaken, Cond.code yX1_canBeTaken cX1_canBeTaken 1 (some .boolean), Cond.methodLink RX4 52 yX4_recordUnlessError, Cond.instanceMethod yX4_recordUnlessError, Cond.selects RX4 yX4_recordUnlessError yX4_recordUnlessError, Cond.code yX4_recordUnlessError cX4_recordUnlessError 2 (some .int), Cond.methodLink RX4 177 yX4_dropOldest, Cond.instanceMethod yX4_dropOldest, Cond.selects RX4 yX4_dropOldest yX4_dropOldest]
def wsX4_open_r5 : List Cond := [Cond.code yX4_dropOldest cX4_dropOldest 3 none]
def wsX4_open : List Cond := .code yX4_open cX4_open 2 (some .int) :: ((wsX4_open_r1 ++ (wsX4_open_r2 ++ (wsX4_open_r3 ++ (wsX4_open_r4 ++ wsX4_open_r5)))) ++ wsX40 ++ wsX30 ++ wsX10 ++ wsX00)
def wsX4_close_r1 : List Cond := [Cond.fieldLink RX4 10 "LandingFines" "river" "LLandingFines$River;", Cond.methodLink RX4 45 yX4_keepState, Cond.instanceMethod yX4_keepState, Cond.selects RX4 yX4_keepState yX4_keepState, Cond.initialized RX4, Cond.code yX4_keepState cX4_keepState 1 none, Cond.fieldLink RX4 16 "LandingFines" "history" "[LLandingFines$River;", Cond.fieldLink RX4 20 "LandingFines" "historySize" "I", Cond.methodLink RX4 171 yX3_copyFrom, Cond.instanceMethod yX3_copyFrom, Cond.selects RX3 yX3_copyFrom yX3_copyFrom, Cond.initialized RX3, Cond.code yX3_copyFrom cX3_copyFrom 3 none, Cond.fieldLink RX3 18 "LandingFines$River" "settings" "[I", Cond.methodLink RX3 50 arraycopyName, Cond.native arraycopyName, Cond.static arraycopyName, Cond.initialized "java/lang/System", Cond.fieldLink RX3 25 "LandingFines$River" "landings" "[LLandingFines$Landing;", Cond.fieldLink RX3 29 "LandingFines$River" "landingCount" "I", Cond.fieldLink RX3 33 "LandingFines$River" "minutesSoFar" "I", Cond.fieldLink RX3 36 "LandingFines$River" "taken" "I", Cond.fieldLink RX3 39 "LandingFines$River" "switches" "I", Cond.fieldLink RX3 45 "LandingFines$River" "journal" "LLandingFines$Journal;"]
def wsX4_close_r2 : List Cond := [Cond.methodLink RX3 56 yX1_copyFrom, Cond.instanceMethod yX1_copyFrom, Cond.selects RX1 yX1_copyFrom yX1_copyFrom, Cond.initialized RX1, Cond.code yX1_copyFrom cX1_copyFrom 2 none, Cond.fieldLink RX1 9 "LandingFines$Landing" "isOpen" "Z", Cond.fieldLink RX1 15 "LandingFines$Landing" "fare" "I", Cond.fieldLink RX1 19 "LandingFines$Landing" "fine" "I", Cond.fieldLink RX1 22 "LandingFines$Landing" "isShunned" "Z", Cond.fieldLink RX1 25 "LandingFines$Landing" "minutesShunned" "I", Cond.fieldLink RX1 28 "LandingFines$Landing" "minutesSinceHalving" "I", Cond.fieldLink RX1 31 "LandingFines$Landing" "changes" "I", Cond.fieldLink RX1 34 "LandingFines$Landing" "timesShunned" "I", Cond.methodLink RX3 60 yX0_copyFrom, Cond.instanceMethod yX0_copyFrom, Cond.selects RX0 yX0_copyFrom yX0_copyFrom, Cond.initialized RX0, Cond.code yX0_copyFrom cX0_copyFrom 2 none, Cond.fieldLink RX0 9 "LandingFines$Journal" "sorts" "[I", Cond.methodLink RX0 34 arraycopyName, Cond.fieldLink RX0 15 "LandingFines$Journal" "places" "[I", Cond.fieldLink RX0 18 "LandingFines$Journal" "minutes" "[I", Cond.fieldLink RX0 21 "LandingFines$Journal" "size" "I", Cond.fieldLink RX0 25 "LandingFines$Journal" "next" "I"]
def wsX4_close_r3 : List Cond := [Cond.methodLink RX4 62 yX3_closeLanding, Cond.instanceMethod yX3_closeLanding, Cond.selects RX3 yX3_closeLanding yX3_closeLanding, Cond.code yX3_closeLanding cX3_closeLanding 3 (some .int), Cond.fieldLink RX3 80 "LandingFines$Landing" "isOpen" "Z", Cond.methodLink RX3 76 yX3_find, Cond.instanceMethod yX3_find, Cond.selects RX3 yX3_find yX3_find, Cond.code yX3_find cX3_find 2 (some (.object "LandingFines$Landing")), Cond.methodLink RX3 84 yX3_finishChange, Cond.instanceMethod yX3_finishChange, Cond.selects RX3 yX3_finishChange yX3_finishChange, Cond.code yX3_finishChange cX3_finishChange 4 (some .int), Cond.fieldLink RX3 99 "LandingFines$Landing" "fine" "I", Cond.methodLink RX3 91 yX0_add, Cond.instanceMethod yX0_add, Cond.selects RX0 yX0_add yX0_add, Cond.code yX0_add cX0_add 4 none, Cond.methodLink RX0 28 Lib.Math.min.name, Cond.static Lib.Math.min.name, Cond.initialized "java/lang/Math", Cond.code Lib.Math.min.name Lib.Math.min.code 2 (some .int), Cond.methodLink RX3 95 yX3_fineBySort, Cond.instanceMethod yX3_fineBySort]
def wsX4_close_r4 : List Cond := [Cond.selects RX3 yX3_fineBySort yX3_fineBySort, Cond.code yX3_fineBySort cX3_fineBySort 3 (some .boolean), Cond.methodLink RX3 102 yX1_addFine, Cond.instanceMethod yX1_addFine, Cond.selects RX1 yX1_addFine yX1_addFine, Cond.code yX1_addFine cX1_addFine 3 (some .boolean), Cond.constant RX1 37 (99999), Cond.methodLink RX1 38 Lib.Math.min.name, Cond.methodLink RX3 73 yX3_followTaken, Cond.instanceMethod yX3_followTaken, Cond.selects RX3 yX3_followTaken yX3_followTaken, Cond.code yX3_followTaken cX3_followTaken 3 none, Cond.fieldLink RX3 88 "LandingFines$Landing" "fare" "I", Cond.methodLink RX3 131 yX1_canBeTaken, Cond.instanceMethod yX1_canBeTaken, Cond.selects RX1 yX1_canBeTaken yX1_canBeTaken, Cond.code yX1_canBeTaken cX1_canBeTaken 1 (some .boolean), Cond.methodLink RX4 52 yX4_recordUnlessError, Cond.instanceMethod yX4_recordUnlessError, Cond.selects RX4 yX4_recordUnlessError yX4_recordUnlessError, Cond.code yX4_recordUnlessError cX4_recordUnlessError 2 (some .int), Cond.methodLink RX4 177 yX4_dropOldest, Cond.instanceMethod yX4_dropOldest, Cond.selects RX4 yX4_dropOldest yX4_dropOldest]
def wsX4_close_r5 : List Cond := [Cond.code yX4_dropOldest cX4_dropOldest 3 none]
def wsX4_close : List Cond := .code yX4_close cX4_close 2 (some .int) :: ((wsX4_close_r1 ++ (wsX4_close_r2 ++ (wsX4_close_r3 ++ (wsX4_close_r4 ++ wsX4_close_r5)))) ++ wsX40 ++ wsX30 ++ wsX10 ++ wsX00)
def wsX4_price_r1 : List Cond := [Cond.fieldLink RX4 10 "LandingFines" "river" "LLandingFines$River;", Cond.methodLink RX4 45 yX4_keepState, Cond.instanceMethod yX4_keepState, Cond.selects RX4 yX4_keepState yX4_keepState, Cond.initialized RX4, Cond.code yX4_keepState cX4_keepState 1 none, Cond.fieldLink RX4 16 "LandingFines" "history" "[LLandingFines$River;", Cond.fieldLink RX4 20 "LandingFines" "historySize" "I", Cond.methodLink RX4 171 yX3_copyFrom, Cond.instanceMethod yX3_copyFrom, Cond.selects RX3 yX3_copyFrom yX3_copyFrom, Cond.initialized RX3, Cond.code yX3_copyFrom cX3_copyFrom 3 none, Cond.fieldLink RX3 18 "LandingFines$River" "settings" "[I", Cond.methodLink RX3 50 arraycopyName, Cond.native arraycopyName, Cond.static arraycopyName, Cond.initialized "java/lang/System", Cond.fieldLink RX3 25 "LandingFines$River" "landings" "[LLandingFines$Landing;", Cond.fieldLink RX3 29 "LandingFines$River" "landingCount" "I", Cond.fieldLink RX3 33 "LandingFines$River" "minutesSoFar" "I", Cond.fieldLink RX3 36 "LandingFines$River" "taken" "I", Cond.fieldLink RX3 39 "LandingFines$River" "switches" "I", Cond.fieldLink RX3 45 "LandingFines$River" "journal" "LLandingFines$Journal;"]
def wsX4_price_r2 : List Cond := [Cond.methodLink RX3 56 yX1_copyFrom, Cond.instanceMethod yX1_copyFrom, Cond.selects RX1 yX1_copyFrom yX1_copyFrom, Cond.initialized RX1, Cond.code yX1_copyFrom cX1_copyFrom 2 none, Cond.fieldLink RX1 9 "LandingFines$Landing" "isOpen" "Z", Cond.fieldLink RX1 15 "LandingFines$Landing" "fare" "I", Cond.fieldLink RX1 19 "LandingFines$Landing" "fine" "I", Cond.fieldLink RX1 22 "LandingFines$Landing" "isShunned" "Z", Cond.fieldLink RX1 25 "LandingFines$Landing" "minutesShunned" "I", Cond.fieldLink RX1 28 "LandingFines$Landing" "minutesSinceHalving" "I", Cond.fieldLink RX1 31 "LandingFines$Landing" "changes" "I", Cond.fieldLink RX1 34 "LandingFines$Landing" "timesShunned" "I", Cond.methodLink RX3 60 yX0_copyFrom, Cond.instanceMethod yX0_copyFrom, Cond.selects RX0 yX0_copyFrom yX0_copyFrom, Cond.initialized RX0, Cond.code yX0_copyFrom cX0_copyFrom 2 none, Cond.fieldLink RX0 9 "LandingFines$Journal" "sorts" "[I", Cond.methodLink RX0 34 arraycopyName, Cond.fieldLink RX0 15 "LandingFines$Journal" "places" "[I", Cond.fieldLink RX0 18 "LandingFines$Journal" "minutes" "[I", Cond.fieldLink RX0 21 "LandingFines$Journal" "size" "I", Cond.fieldLink RX0 25 "LandingFines$Journal" "next" "I"]
def wsX4_price_r3 : List Cond := [Cond.methodLink RX4 65 yX3_changePrice, Cond.instanceMethod yX3_changePrice, Cond.selects RX3 yX3_changePrice yX3_changePrice, Cond.code yX3_changePrice cX3_changePrice 4 (some .int), Cond.fieldLink RX3 88 "LandingFines$Landing" "fare" "I", Cond.methodLink RX3 76 yX3_find, Cond.instanceMethod yX3_find, Cond.selects RX3 yX3_find yX3_find, Cond.code yX3_find cX3_find 2 (some (.object "LandingFines$Landing")), Cond.methodLink RX3 84 yX3_finishChange, Cond.instanceMethod yX3_finishChange, Cond.selects RX3 yX3_finishChange yX3_finishChange, Cond.code yX3_finishChange cX3_finishChange 4 (some .int), Cond.fieldLink RX3 99 "LandingFines$Landing" "fine" "I", Cond.methodLink RX3 91 yX0_add, Cond.instanceMethod yX0_add, Cond.selects RX0 yX0_add yX0_add, Cond.code yX0_add cX0_add 4 none, Cond.methodLink RX0 28 Lib.Math.min.name, Cond.static Lib.Math.min.name, Cond.initialized "java/lang/Math", Cond.code Lib.Math.min.name Lib.Math.min.code 2 (some .int), Cond.methodLink RX3 95 yX3_fineBySort, Cond.instanceMethod yX3_fineBySort]
def wsX4_price_r4 : List Cond := [Cond.selects RX3 yX3_fineBySort yX3_fineBySort, Cond.code yX3_fineBySort cX3_fineBySort 3 (some .boolean), Cond.methodLink RX3 102 yX1_addFine, Cond.instanceMethod yX1_addFine, Cond.selects RX1 yX1_addFine yX1_addFine, Cond.code yX1_addFine cX1_addFine 3 (some .boolean), Cond.constant RX1 37 (99999), Cond.methodLink RX1 38 Lib.Math.min.name, Cond.methodLink RX3 73 yX3_followTaken, Cond.instanceMethod yX3_followTaken, Cond.selects RX3 yX3_followTaken yX3_followTaken, Cond.code yX3_followTaken cX3_followTaken 3 none, Cond.methodLink RX3 131 yX1_canBeTaken, Cond.instanceMethod yX1_canBeTaken, Cond.selects RX1 yX1_canBeTaken yX1_canBeTaken, Cond.code yX1_canBeTaken cX1_canBeTaken 1 (some .boolean), Cond.methodLink RX4 52 yX4_recordUnlessError, Cond.instanceMethod yX4_recordUnlessError, Cond.selects RX4 yX4_recordUnlessError yX4_recordUnlessError, Cond.code yX4_recordUnlessError cX4_recordUnlessError 2 (some .int), Cond.methodLink RX4 177 yX4_dropOldest, Cond.instanceMethod yX4_dropOldest, Cond.selects RX4 yX4_dropOldest yX4_dropOldest, Cond.code yX4_dropOldest cX4_dropOldest 3 none]
def wsX4_price : List Cond := .code yX4_price cX4_price 3 (some .int) :: ((wsX4_price_r1 ++ (wsX4_price_r2 ++ (wsX4_price_r3 ++ wsX4_price_r4))) ++ wsX40 ++ wsX30 ++ wsX10 ++ wsX00)
def wsX4_pass_r1 : List Cond := [Cond.fieldLink RX4 10 "LandingFines" "river" "LLandingFines$River;", Cond.methodLink RX4 45 yX4_keepState, Cond.instanceMethod yX4_keepState, Cond.selects RX4 yX4_keepState yX4_keepState, Cond.initialized RX4, Cond.code yX4_keepState cX4_keepState 1 none, Cond.fieldLink RX4 16 "LandingFines" "history" "[LLandingFines$River;", Cond.fieldLink RX4 20 "LandingFines" "historySize" "I", Cond.methodLink RX4 171 yX3_copyFrom, Cond.instanceMethod yX3_copyFrom, Cond.selects RX3 yX3_copyFrom yX3_copyFrom, Cond.initialized RX3, Cond.code yX3_copyFrom cX3_copyFrom 3 none, Cond.fieldLink RX3 18 "LandingFines$River" "settings" "[I", Cond.methodLink RX3 50 arraycopyName, Cond.native arraycopyName, Cond.static arraycopyName, Cond.initialized "java/lang/System", Cond.fieldLink RX3 25 "LandingFines$River" "landings" "[LLandingFines$Landing;", Cond.fieldLink RX3 29 "LandingFines$River" "landingCount" "I", Cond.fieldLink RX3 33 "LandingFines$River" "minutesSoFar" "I", Cond.fieldLink RX3 36 "LandingFines$River" "taken" "I", Cond.fieldLink RX3 39 "LandingFines$River" "switches" "I", Cond.fieldLink RX3 45 "LandingFines$River" "journal" "LLandingFines$Journal;"]
def wsX4_pass_r2 : List Cond := [Cond.methodLink RX3 56 yX1_copyFrom, Cond.instanceMethod yX1_copyFrom, Cond.selects RX1 yX1_copyFrom yX1_copyFrom, Cond.initialized RX1, Cond.code yX1_copyFrom cX1_copyFrom 2 none, Cond.fieldLink RX1 9 "LandingFines$Landing" "isOpen" "Z", Cond.fieldLink RX1 15 "LandingFines$Landing" "fare" "I", Cond.fieldLink RX1 19 "LandingFines$Landing" "fine" "I", Cond.fieldLink RX1 22 "LandingFines$Landing" "isShunned" "Z", Cond.fieldLink RX1 25 "LandingFines$Landing" "minutesShunned" "I", Cond.fieldLink RX1 28 "LandingFines$Landing" "minutesSinceHalving" "I", Cond.fieldLink RX1 31 "LandingFines$Landing" "changes" "I", Cond.fieldLink RX1 34 "LandingFines$Landing" "timesShunned" "I", Cond.methodLink RX3 60 yX0_copyFrom, Cond.instanceMethod yX0_copyFrom, Cond.selects RX0 yX0_copyFrom yX0_copyFrom, Cond.initialized RX0, Cond.code yX0_copyFrom cX0_copyFrom 2 none, Cond.fieldLink RX0 9 "LandingFines$Journal" "sorts" "[I", Cond.methodLink RX0 34 arraycopyName, Cond.fieldLink RX0 15 "LandingFines$Journal" "places" "[I", Cond.fieldLink RX0 18 "LandingFines$Journal" "minutes" "[I", Cond.fieldLink RX0 21 "LandingFines$Journal" "size" "I", Cond.fieldLink RX0 25 "LandingFines$Journal" "next" "I"]
def wsX4_pass_r3 : List Cond := [Cond.methodLink RX4 68 yX3_passMinutes, Cond.instanceMethod yX3_passMinutes, Cond.selects RX3 yX3_passMinutes yX3_passMinutes, Cond.code yX3_passMinutes cX3_passMinutes 4 (some .int), Cond.constant RX3 106 (99999), Cond.methodLink RX3 107 yX3_passOneMinute, Cond.instanceMethod yX3_passOneMinute, Cond.selects RX3 yX3_passOneMinute yX3_passOneMinute, Cond.code yX3_passOneMinute cX3_passOneMinute 3 (some .int), Cond.methodLink RX3 111 yX3_passMinuteOf, Cond.instanceMethod yX3_passMinuteOf, Cond.selects RX3 yX3_passMinuteOf yX3_passMinuteOf, Cond.code yX3_passMinuteOf cX3_passMinuteOf 2 (some .boolean), Cond.methodLink RX3 115 yX1_passMinute, Cond.instanceMethod yX1_passMinute, Cond.selects RX1 yX1_passMinute yX1_passMinute, Cond.code yX1_passMinute cX1_passMinute 4 (some .boolean), Cond.methodLink RX1 38 Lib.Math.min.name, Cond.static Lib.Math.min.name, Cond.initialized "java/lang/Math", Cond.code Lib.Math.min.name Lib.Math.min.code 2 (some .int), Cond.methodLink RX3 91 yX0_add, Cond.instanceMethod yX0_add, Cond.selects RX0 yX0_add yX0_add]
def wsX4_pass_r4 : List Cond := [Cond.code yX0_add cX0_add 4 none, Cond.methodLink RX0 28 Lib.Math.min.name, Cond.methodLink RX3 73 yX3_followTaken, Cond.instanceMethod yX3_followTaken, Cond.selects RX3 yX3_followTaken yX3_followTaken, Cond.code yX3_followTaken cX3_followTaken 3 none, Cond.fieldLink RX3 88 "LandingFines$Landing" "fare" "I", Cond.methodLink RX3 131 yX1_canBeTaken, Cond.instanceMethod yX1_canBeTaken, Cond.selects RX1 yX1_canBeTaken yX1_canBeTaken, Cond.code yX1_canBeTaken cX1_canBeTaken 1 (some .boolean), Cond.methodLink RX4 52 yX4_recordUnlessError, Cond.instanceMethod yX4_recordUnlessError, Cond.selects RX4 yX4_recordUnlessError yX4_recordUnlessError, Cond.code yX4_recordUnlessError cX4_recordUnlessError 2 (some .int), Cond.methodLink RX4 177 yX4_dropOldest, Cond.instanceMethod yX4_dropOldest, Cond.selects RX4 yX4_dropOldest yX4_dropOldest, Cond.code yX4_dropOldest cX4_dropOldest 3 none]
def wsX4_pass : List Cond := .code yX4_pass cX4_pass 2 (some .int) :: ((wsX4_pass_r1 ++ (wsX4_pass_r2 ++ (wsX4_pass_r3 ++ wsX4_pass_r4))) ++ wsX40 ++ wsX30 ++ wsX10 ++ wsX00)
def wsX4_of : List Cond := .code yX4_of cX4_of 4 (some .int) :: ([.fieldLink RX4 10 "LandingFines" "river" "LLandingFines$River;", .methodLink RX4 71 yX3_find, .instanceMethod yX3_find, .selects RX3 yX3_find yX3_find, .initialized RX3, .code yX3_find cX3_find 2 (some (.object "LandingFines$Landing")), .fieldLink RX3 29 "LandingFines$River" "landingCount" "I", .fieldLink RX3 25 "LandingFines$River" "landings" "[LLandingFines$Landing;", .methodLink RX4 75 yX1_tell, .instanceMethod yX1_tell, .selects RX1 yX1_tell yX1_tell, .initialized RX1, .code yX1_tell cX1_tell 2 (some .int), .fieldLink RX1 9 "LandingFines$Landing" "isOpen" "Z", .fieldLink RX1 15 "LandingFines$Landing" "fare" "I", .fieldLink RX1 19 "LandingFines$Landing" "fine" "I", .fieldLink RX1 22 "LandingFines$Landing" "isShunned" "Z", .fieldLink RX1 25 "LandingFines$Landing" "minutesShunned" "I", .fieldLink RX1 28 "LandingFines$Landing" "minutesSinceHalving" "I", .fieldLink RX1 31 "LandingFines$Landing" "changes" "I", .fieldLink RX1 34 "LandingFines$Landing" "timesShunned" "I"] ++ wsX40 ++ wsX30 ++ wsX10)
def wsX4_count_r1 : List Cond := [Cond.fieldLink RX4 34 "LandingFines" "pad" "LLandingFines$Pad;", Cond.fieldLink RX4 78 "LandingFines$Pad" "length" "I", Cond.fieldLink RX4 20 "LandingFines" "historySize" "I", Cond.fieldLink RX4 10 "LandingFines" "river" "LLandingFines$River;", Cond.methodLink RX4 81 yX3_tell, Cond.instanceMethod yX3_tell, Cond.selects RX3 yX3_tell yX3_tell, Cond.initialized RX3, Cond.code yX3_tell cX3_tell 2 (some .int), Cond.fieldLink RX3 33 "LandingFines$River" "minutesSoFar" "I", Cond.fieldLink RX3 29 "LandingFines$River" "landingCount" "I", Cond.fieldLink RX3 36 "LandingFines$River" "taken" "I", Cond.fieldLink RX3 39 "LandingFines$River" "switches" "I", Cond.fieldLink RX3 45 "LandingFines$River" "journal" "LLandingFines$Journal;", Cond.fieldLink RX3 145 "LandingFines$Journal" "size" "I", Cond.fieldLink RX3 18 "LandingFines$River" "settings" "[I", Cond.methodLink RX3 139 yX3_openOnes, Cond.instanceMethod yX3_openOnes, Cond.selects RX3 yX3_openOnes yX3_openOnes, Cond.code yX3_openOnes cX3_openOnes 3 (some .int), Cond.fieldLink RX3 25 "LandingFines$River" "landings" "[LLandingFines$Landing;", Cond.fieldLink RX3 80 "LandingFines$Landing" "isOpen" "Z", Cond.methodLink RX3 142 yX3_shunnedOnes, Cond.instanceMethod yX3_shunnedOnes]
def wsX4_count_r2 : List Cond := [Cond.selects RX3 yX3_shunnedOnes yX3_shunnedOnes, Cond.code yX3_shunnedOnes cX3_shunnedOnes 3 (some .int), Cond.fieldLink RX3 148 "LandingFines$Landing" "isShunned" "Z"]
def wsX4_count : List Cond := .code yX4_count cX4_count 2 (some .int) :: ((wsX4_count_r1 ++ wsX4_count_r2) ++ wsX40 ++ wsX20 ++ wsX30 ++ wsX00 ++ wsX10)
def wsX4_choice : List Cond := .code yX4_choice cX4_choice 2 (some .int) :: ([.fieldLink RX4 10 "LandingFines" "river" "LLandingFines$River;", .methodLink RX4 82 yX3_chosen, .instanceMethod yX3_chosen, .selects RX3 yX3_chosen yX3_chosen, .initialized RX3, .code yX3_chosen cX3_chosen 3 (some .int), .fieldLink RX3 29 "LandingFines$River" "landingCount" "I", .fieldLink RX3 25 "LandingFines$River" "landings" "[LLandingFines$Landing;", .methodLink RX3 131 yX1_canBeTaken, .instanceMethod yX1_canBeTaken, .selects RX1 yX1_canBeTaken yX1_canBeTaken, .initialized RX1, .code yX1_canBeTaken cX1_canBeTaken 1 (some .boolean), .fieldLink RX1 9 "LandingFines$Landing" "isOpen" "Z", .fieldLink RX1 22 "LandingFines$Landing" "isShunned" "Z", .methodLink RX3 135 yX3_rankOf, .instanceMethod yX3_rankOf, .selects RX3 yX3_rankOf yX3_rankOf, .code yX3_rankOf cX3_rankOf 6 (some .int), .fieldLink RX3 88 "LandingFines$Landing" "fare" "I"] ++ wsX40 ++ wsX30 ++ wsX10)
def wsX4_log : List Cond := .code yX4_log cX4_log 3 (some .int) :: ([.fieldLink RX4 10 "LandingFines" "river" "LLandingFines$River;", .fieldLink RX4 85 "LandingFines$River" "journal" "LLandingFines$Journal;", .methodLink RX4 89 yX0_tell, .instanceMethod yX0_tell, .selects RX0 yX0_tell yX0_tell, .initialized RX0, .code yX0_tell cX0_tell 4 (some .int), .fieldLink RX0 21 "LandingFines$Journal" "size" "I", .fieldLink RX0 25 "LandingFines$Journal" "next" "I", .fieldLink RX0 9 "LandingFines$Journal" "sorts" "[I", .fieldLink RX0 15 "LandingFines$Journal" "places" "[I", .fieldLink RX0 18 "LandingFines$Journal" "minutes" "[I"] ++ wsX40 ++ wsX30 ++ wsX00)
def wsX4_why : List Cond := .code yX4_why cX4_why 3 (some .int) :: ([.fieldLink RX4 10 "LandingFines" "river" "LLandingFines$River;", .fieldLink RX4 93 "LandingFines$River" "taken" "I", .fieldLink RX4 96 "LandingFines$Landing" "isOpen" "Z", .fieldLink RX4 100 "LandingFines$Landing" "isShunned" "Z", .methodLink RX4 71 yX3_find, .instanceMethod yX3_find, .selects RX3 yX3_find yX3_find, .initialized RX3, .code yX3_find cX3_find 2 (some (.object "LandingFines$Landing")), .fieldLink RX3 29 "LandingFines$River" "landingCount" "I", .fieldLink RX3 25 "LandingFines$River" "landings" "[LLandingFines$Landing;"] ++ wsX40 ++ wsX30 ++ wsX10)
def wsX4_welcomeIn_r1 : List Cond := [Cond.fieldLink RX4 10 "LandingFines" "river" "LLandingFines$River;", Cond.fieldLink RX4 41 "LandingFines" "trial" "LLandingFines$Landing;", Cond.fieldLink RX4 100 "LandingFines$Landing" "isShunned" "Z", Cond.methodLink RX4 71 yX3_find, Cond.instanceMethod yX3_find, Cond.selects RX3 yX3_find yX3_find, Cond.initialized RX3, Cond.code yX3_find cX3_find 2 (some (.object "LandingFines$Landing")), Cond.fieldLink RX3 29 "LandingFines$River" "landingCount" "I", Cond.fieldLink RX3 25 "LandingFines$River" "landings" "[LLandingFines$Landing;", Cond.methodLink RX4 103 yX1_copyFrom, Cond.instanceMethod yX1_copyFrom, Cond.selects RX1 yX1_copyFrom yX1_copyFrom, Cond.initialized RX1, Cond.code yX1_copyFrom cX1_copyFrom 2 none, Cond.fieldLink RX1 9 "LandingFines$Landing" "isOpen" "Z", Cond.fieldLink RX1 15 "LandingFines$Landing" "fare" "I", Cond.fieldLink RX1 19 "LandingFines$Landing" "fine" "I", Cond.fieldLink RX1 22 "LandingFines$Landing" "isShunned" "Z", Cond.fieldLink RX1 25 "LandingFines$Landing" "minutesShunned" "I", Cond.fieldLink RX1 28 "LandingFines$Landing" "minutesSinceHalving" "I", Cond.fieldLink RX1 31 "LandingFines$Landing" "changes" "I", Cond.fieldLink RX1 34 "LandingFines$Landing" "timesShunned" "I", Cond.methodLink RX4 107 yX3_passMinuteOf]
def wsX4_welcomeIn_r2 : List Cond := [Cond.instanceMethod yX3_passMinuteOf, Cond.selects RX3 yX3_passMinuteOf yX3_passMinuteOf, Cond.code yX3_passMinuteOf cX3_passMinuteOf 2 (some .boolean), Cond.fieldLink RX3 18 "LandingFines$River" "settings" "[I", Cond.methodLink RX3 115 yX1_passMinute, Cond.instanceMethod yX1_passMinute, Cond.selects RX1 yX1_passMinute yX1_passMinute, Cond.code yX1_passMinute cX1_passMinute 4 (some .boolean), Cond.methodLink RX1 38 Lib.Math.min.name, Cond.static Lib.Math.min.name, Cond.initialized "java/lang/Math", Cond.code Lib.Math.min.name Lib.Math.min.code 2 (some .int)]
def wsX4_welcomeIn : List Cond := .code yX4_welcomeIn cX4_welcomeIn 4 (some .int) :: ((wsX4_welcomeIn_r1 ++ wsX4_welcomeIn_r2) ++ wsX40 ++ wsX10 ++ wsX30)
def wsX4_mayChange_r1 : List Cond := [Cond.fieldLink RX4 10 "LandingFines" "river" "LLandingFines$River;", Cond.fieldLink RX4 100 "LandingFines$Landing" "isShunned" "Z", Cond.fieldLink RX4 41 "LandingFines" "trial" "LLandingFines$Landing;", Cond.fieldLink RX4 96 "LandingFines$Landing" "isOpen" "Z", Cond.methodLink RX4 71 yX3_find, Cond.instanceMethod yX3_find, Cond.selects RX3 yX3_find yX3_find, Cond.initialized RX3, Cond.code yX3_find cX3_find 2 (some (.object "LandingFines$Landing")), Cond.fieldLink RX3 29 "LandingFines$River" "landingCount" "I", Cond.fieldLink RX3 25 "LandingFines$River" "landings" "[LLandingFines$Landing;", Cond.methodLink RX4 103 yX1_copyFrom, Cond.instanceMethod yX1_copyFrom, Cond.selects RX1 yX1_copyFrom yX1_copyFrom, Cond.initialized RX1, Cond.code yX1_copyFrom cX1_copyFrom 2 none, Cond.fieldLink RX1 9 "LandingFines$Landing" "isOpen" "Z", Cond.fieldLink RX1 15 "LandingFines$Landing" "fare" "I", Cond.fieldLink RX1 19 "LandingFines$Landing" "fine" "I", Cond.fieldLink RX1 22 "LandingFines$Landing" "isShunned" "Z", Cond.fieldLink RX1 25 "LandingFines$Landing" "minutesShunned" "I", Cond.fieldLink RX1 28 "LandingFines$Landing" "minutesSinceHalving" "I", Cond.fieldLink RX1 31 "LandingFines$Landing" "changes" "I", Cond.fieldLink RX1 34 "LandingFines$Landing" "timesShunned" "I"]
def wsX4_mayChange_r2 : List Cond := [Cond.methodLink RX4 111 yX3_fineBySort, Cond.instanceMethod yX3_fineBySort, Cond.selects RX3 yX3_fineBySort yX3_fineBySort, Cond.code yX3_fineBySort cX3_fineBySort 3 (some .boolean), Cond.fieldLink RX3 18 "LandingFines$River" "settings" "[I", Cond.methodLink RX3 102 yX1_addFine, Cond.instanceMethod yX1_addFine, Cond.selects RX1 yX1_addFine yX1_addFine, Cond.code yX1_addFine cX1_addFine 3 (some .boolean), Cond.constant RX1 37 (99999), Cond.methodLink RX1 38 Lib.Math.min.name, Cond.static Lib.Math.min.name, Cond.initialized "java/lang/Math", Cond.code Lib.Math.min.name Lib.Math.min.code 2 (some .int)]
def wsX4_mayChange : List Cond := .code yX4_mayChange cX4_mayChange 4 (some .int) :: ((wsX4_mayChange_r1 ++ wsX4_mayChange_r2) ++ wsX40 ++ wsX10 ++ wsX30)
def wsX4_fineIn_r1 : List Cond := [Cond.fieldLink RX4 10 "LandingFines" "river" "LLandingFines$River;", Cond.fieldLink RX4 41 "LandingFines" "trial" "LLandingFines$Landing;", Cond.fieldLink RX4 115 "LandingFines$Landing" "fine" "I", Cond.methodLink RX4 71 yX3_find, Cond.instanceMethod yX3_find, Cond.selects RX3 yX3_find yX3_find, Cond.initialized RX3, Cond.code yX3_find cX3_find 2 (some (.object "LandingFines$Landing")), Cond.fieldLink RX3 29 "LandingFines$River" "landingCount" "I", Cond.fieldLink RX3 25 "LandingFines$River" "landings" "[LLandingFines$Landing;", Cond.methodLink RX4 103 yX1_copyFrom, Cond.instanceMethod yX1_copyFrom, Cond.selects RX1 yX1_copyFrom yX1_copyFrom, Cond.initialized RX1, Cond.code yX1_copyFrom cX1_copyFrom 2 none, Cond.fieldLink RX1 9 "LandingFines$Landing" "isOpen" "Z", Cond.fieldLink RX1 15 "LandingFines$Landing" "fare" "I", Cond.fieldLink RX1 19 "LandingFines$Landing" "fine" "I", Cond.fieldLink RX1 22 "LandingFines$Landing" "isShunned" "Z", Cond.fieldLink RX1 25 "LandingFines$Landing" "minutesShunned" "I", Cond.fieldLink RX1 28 "LandingFines$Landing" "minutesSinceHalving" "I", Cond.fieldLink RX1 31 "LandingFines$Landing" "changes" "I", Cond.fieldLink RX1 34 "LandingFines$Landing" "timesShunned" "I", Cond.methodLink RX4 107 yX3_passMinuteOf]
def wsX4_fineIn_r2 : List Cond := [Cond.instanceMethod yX3_passMinuteOf, Cond.selects RX3 yX3_passMinuteOf yX3_passMinuteOf, Cond.code yX3_passMinuteOf cX3_passMinuteOf 2 (some .boolean), Cond.fieldLink RX3 18 "LandingFines$River" "settings" "[I", Cond.methodLink RX3 115 yX1_passMinute, Cond.instanceMethod yX1_passMinute, Cond.selects RX1 yX1_passMinute yX1_passMinute, Cond.code yX1_passMinute cX1_passMinute 4 (some .boolean), Cond.methodLink RX1 38 Lib.Math.min.name, Cond.static Lib.Math.min.name, Cond.initialized "java/lang/Math", Cond.code Lib.Math.min.name Lib.Math.min.code 2 (some .int)]
def wsX4_fineIn : List Cond := .code yX4_fineIn cX4_fineIn 5 (some .int) :: ((wsX4_fineIn_r1 ++ wsX4_fineIn_r2) ++ wsX40 ++ wsX10 ++ wsX30)
def wsX4_staysWelcome_r1 : List Cond := [Cond.fieldLink RX4 41 "LandingFines" "trial" "LLandingFines$Landing;", Cond.fieldLink RX4 10 "LandingFines" "river" "LLandingFines$River;", Cond.methodLink RX4 122 yX1_arrive, Cond.instanceMethod yX1_arrive, Cond.selects RX1 yX1_arrive yX1_arrive, Cond.initialized RX1, Cond.code yX1_arrive cX1_arrive 2 none, Cond.fieldLink RX1 9 "LandingFines$Landing" "isOpen" "Z", Cond.fieldLink RX1 15 "LandingFines$Landing" "fare" "I", Cond.fieldLink RX1 19 "LandingFines$Landing" "fine" "I", Cond.fieldLink RX1 22 "LandingFines$Landing" "isShunned" "Z", Cond.fieldLink RX1 25 "LandingFines$Landing" "minutesShunned" "I", Cond.fieldLink RX1 28 "LandingFines$Landing" "minutesSinceHalving" "I", Cond.fieldLink RX1 31 "LandingFines$Landing" "changes" "I", Cond.fieldLink RX1 34 "LandingFines$Landing" "timesShunned" "I", Cond.methodLink RX4 111 yX3_fineBySort, Cond.instanceMethod yX3_fineBySort, Cond.selects RX3 yX3_fineBySort yX3_fineBySort, Cond.initialized RX3, Cond.code yX3_fineBySort cX3_fineBySort 3 (some .boolean), Cond.fieldLink RX3 18 "LandingFines$River" "settings" "[I", Cond.methodLink RX3 102 yX1_addFine, Cond.instanceMethod yX1_addFine, Cond.selects RX1 yX1_addFine yX1_addFine]
def wsX4_staysWelcome_r2 : List Cond := [Cond.code yX1_addFine cX1_addFine 3 (some .boolean), Cond.constant RX1 37 (99999), Cond.methodLink RX1 38 Lib.Math.min.name, Cond.static Lib.Math.min.name, Cond.initialized "java/lang/Math", Cond.code Lib.Math.min.name Lib.Math.min.code 2 (some .int), Cond.methodLink RX4 126 yX3_fade, Cond.instanceMethod yX3_fade, Cond.selects RX3 yX3_fade yX3_fade, Cond.code yX3_fade cX3_fade 5 none, Cond.methodLink RX3 119 Lib.Math.max.name, Cond.static Lib.Math.max.name, Cond.code Lib.Math.max.name Lib.Math.max.code 2 (some .int), Cond.fieldLink RX3 125 "LandingFines$Landing" "minutesSinceHalving" "I", Cond.fieldLink RX3 99 "LandingFines$Landing" "fine" "I", Cond.methodLink RX3 128 Lib.Math.min.name]
def wsX4_staysWelcome : List Cond := .code yX4_staysWelcome cX4_staysWelcome 3 (some .boolean) :: ((wsX4_staysWelcome_r1 ++ wsX4_staysWelcome_r2) ++ wsX40 ++ wsX10 ++ wsX30)
def wsX4_steady_r1 : List Cond := [Cond.methodLink RX4 118 yX4_staysWelcome, Cond.instanceMethod yX4_staysWelcome, Cond.selects RX4 yX4_staysWelcome yX4_staysWelcome, Cond.initialized RX4, Cond.code yX4_staysWelcome cX4_staysWelcome 3 (some .boolean), Cond.fieldLink RX4 41 "LandingFines" "trial" "LLandingFines$Landing;", Cond.fieldLink RX4 10 "LandingFines" "river" "LLandingFines$River;", Cond.methodLink RX4 122 yX1_arrive, Cond.instanceMethod yX1_arrive, Cond.selects RX1 yX1_arrive yX1_arrive, Cond.initialized RX1, Cond.code yX1_arrive cX1_arrive 2 none, Cond.fieldLink RX1 9 "LandingFines$Landing" "isOpen" "Z", Cond.fieldLink RX1 15 "LandingFines$Landing" "fare" "I", Cond.fieldLink RX1 19 "LandingFines$Landing" "fine" "I", Cond.fieldLink RX1 22 "LandingFines$Landing" "isShunned" "Z", Cond.fieldLink RX1 25 "LandingFines$Landing" "minutesShunned" "I", Cond.fieldLink RX1 28 "LandingFines$Landing" "minutesSinceHalving" "I", Cond.fieldLink RX1 31 "LandingFines$Landing" "changes" "I", Cond.fieldLink RX1 34 "LandingFines$Landing" "timesShunned" "I", Cond.methodLink RX4 111 yX3_fineBySort, Cond.instanceMethod yX3_fineBySort, Cond.selects RX3 yX3_fineBySort yX3_fineBySort, Cond.initialized RX3]
def wsX4_steady_r2 : List Cond := [Cond.code yX3_fineBySort cX3_fineBySort 3 (some .boolean), Cond.fieldLink RX3 18 "LandingFines$River" "settings" "[I", Cond.methodLink RX3 102 yX1_addFine, Cond.instanceMethod yX1_addFine, Cond.selects RX1 yX1_addFine yX1_addFine, Cond.code yX1_addFine cX1_addFine 3 (some .boolean), Cond.constant RX1 37 (99999), Cond.methodLink RX1 38 Lib.Math.min.name, Cond.static Lib.Math.min.name, Cond.initialized "java/lang/Math", Cond.code Lib.Math.min.name Lib.Math.min.code 2 (some .int), Cond.methodLink RX4 126 yX3_fade, Cond.instanceMethod yX3_fade, Cond.selects RX3 yX3_fade yX3_fade, Cond.code yX3_fade cX3_fade 5 none, Cond.methodLink RX3 119 Lib.Math.max.name, Cond.static Lib.Math.max.name, Cond.code Lib.Math.max.name Lib.Math.max.code 2 (some .int), Cond.fieldLink RX3 125 "LandingFines$Landing" "minutesSinceHalving" "I", Cond.fieldLink RX3 99 "LandingFines$Landing" "fine" "I", Cond.methodLink RX3 128 Lib.Math.min.name]
def wsX4_steady : List Cond := .code yX4_steady cX4_steady 2 (some .int) :: ((wsX4_steady_r1 ++ wsX4_steady_r2) ++ wsX40 ++ wsX10 ++ wsX30)
def wsX4_charactersIn : List Cond := .code yX4_charactersIn cX4_charactersIn 6 (some .int) :: ([.constantLong RX4 138 (255)])
def wsX4_put : List Cond := .code yX4_put cX4_put 4 (some .int) :: ([.fieldLink RX4 34 "LandingFines" "pad" "LLandingFines$Pad;", .fieldLink RX4 78 "LandingFines$Pad" "length" "I", .methodLink RX4 130 yX4_charactersIn, .static yX4_charactersIn, .initialized RX4, .code yX4_charactersIn cX4_charactersIn 6 (some .int), .constantLong RX4 138 (255), .methodLink RX4 134 yX2_append, .instanceMethod yX2_append, .selects RX2 yX2_append yX2_append, .initialized RX2, .code yX2_append cX2_append 5 none, .fieldLink RX2 15 "LandingFines$Pad" "length" "I", .fieldLink RX2 9 "LandingFines$Pad" "signs" "[C", .constantLong RX2 32 (255)] ++ wsX40 ++ wsX20)
def wsX4_wipe : List Cond := .code yX4_wipe cX4_wipe 1 (some .int) :: ([.fieldLink RX4 34 "LandingFines" "pad" "LLandingFines$Pad;", .methodLink RX4 140 yX2_clear, .instanceMethod yX2_clear, .selects RX2 yX2_clear yX2_clear, .initialized RX2, .code yX2_clear cX2_clear 2 (some .int), .fieldLink RX2 15 "LandingFines$Pad" "length" "I"] ++ wsX40 ++ wsX20)
def wsX4_fault_r1 : List Cond := [Cond.fieldLink RX4 34 "LandingFines" "pad" "LLandingFines$Pad;", Cond.methodLink RX4 144 yX2_findFault, Cond.instanceMethod yX2_findFault, Cond.selects RX2 yX2_findFault yX2_findFault, Cond.initialized RX2, Cond.code yX2_findFault cX2_findFault 2 (some .int), Cond.fieldLink RX2 19 "LandingFines$Pad" "place" "I", Cond.fieldLink RX2 15 "LandingFines$Pad" "length" "I", Cond.methodLink RX2 34 yX2_startReading, Cond.instanceMethod yX2_startReading, Cond.selects RX2 yX2_startReading yX2_startReading, Cond.code yX2_startReading cX2_startReading 1 none, Cond.methodLink RX2 37 yX2_readOrder, Cond.instanceMethod yX2_readOrder, Cond.selects RX2 yX2_readOrder yX2_readOrder, Cond.code yX2_readOrder cX2_readOrder 1 (some .boolean), Cond.fieldLink RX2 9 "LandingFines$Pad" "signs" "[C", Cond.fieldLink RX2 22 "LandingFines$Pad" "orderSign" "C", Cond.methodLink RX2 45 yX2_readNumber, Cond.instanceMethod yX2_readNumber, Cond.selects RX2 yX2_readNumber yX2_readNumber, Cond.code yX2_readNumber cX2_readNumber 2 (some .boolean), Cond.fieldLink RX2 29 "LandingFines$Pad" "orderNumber" "I", Cond.methodLink RX2 51 yX2_isAtDigit]
def wsX4_fault_r2 : List Cond := [Cond.instanceMethod yX2_isAtDigit, Cond.selects RX2 yX2_isAtDigit yX2_isAtDigit, Cond.code yX2_isAtDigit cX2_isAtDigit 1 (some .boolean), Cond.methodLink RX2 48 yX2_readLanding, Cond.instanceMethod yX2_readLanding, Cond.selects RX2 yX2_readLanding yX2_readLanding, Cond.code yX2_readLanding cX2_readLanding 1 (some .boolean), Cond.fieldLink RX2 26 "LandingFines$Pad" "orderLanding" "I", Cond.methodLink RX2 41 yX2_readSign, Cond.instanceMethod yX2_readSign, Cond.selects RX2 yX2_readSign yX2_readSign, Cond.code yX2_readSign cX2_readSign 2 (some .boolean)]
def wsX4_fault : List Cond := .code yX4_fault cX4_fault 1 (some .int) :: ((wsX4_fault_r1 ++ wsX4_fault_r2) ++ wsX40 ++ wsX20)
def wsX4_carryOutOne_r1 : List Cond := [Cond.fieldLink RX4 34 "LandingFines" "pad" "LLandingFines$Pad;", Cond.fieldLink RX4 161 "LandingFines$Pad" "orderSign" "C", Cond.fieldLink RX4 10 "LandingFines" "river" "LLandingFines$River;", Cond.fieldLink RX4 165 "LandingFines$Pad" "orderNumber" "I", Cond.fieldLink RX4 168 "LandingFines$Pad" "orderLanding" "I", Cond.methodLink RX4 56 yX3_addLanding, Cond.instanceMethod yX3_addLanding, Cond.selects RX3 yX3_addLanding yX3_addLanding, Cond.initialized RX3, Cond.code yX3_addLanding cX3_addLanding 2 (some .int), Cond.fieldLink RX3 29 "LandingFines$River" "landingCount" "I", Cond.fieldLink RX3 25 "LandingFines$River" "landings" "[LLandingFines$Landing;", Cond.methodLink RX3 69 yX1_arrive, Cond.instanceMethod yX1_arrive, Cond.selects RX1 yX1_arrive yX1_arrive, Cond.initialized RX1, Cond.code yX1_arrive cX1_arrive 2 none, Cond.fieldLink RX1 9 "LandingFines$Landing" "isOpen" "Z", Cond.fieldLink RX1 15 "LandingFines$Landing" "fare" "I", Cond.fieldLink RX1 19 "LandingFines$Landing" "fine" "I", Cond.fieldLink RX1 22 "LandingFines$Landing" "isShunned" "Z", Cond.fieldLink RX1 25 "LandingFines$Landing" "minutesShunned" "I", Cond.fieldLink RX1 28 "LandingFines$Landing" "minutesSinceHalving" "I", Cond.fieldLink RX1 31 "LandingFines$Landing" "changes" "I"]
def wsX4_carryOutOne_r2 : List Cond := [Cond.fieldLink RX1 34 "LandingFines$Landing" "timesShunned" "I", Cond.methodLink RX3 73 yX3_followTaken, Cond.instanceMethod yX3_followTaken, Cond.selects RX3 yX3_followTaken yX3_followTaken, Cond.code yX3_followTaken cX3_followTaken 3 none, Cond.fieldLink RX3 88 "LandingFines$Landing" "fare" "I", Cond.fieldLink RX3 36 "LandingFines$River" "taken" "I", Cond.fieldLink RX3 39 "LandingFines$River" "switches" "I", Cond.methodLink RX3 131 yX1_canBeTaken, Cond.instanceMethod yX1_canBeTaken, Cond.selects RX1 yX1_canBeTaken yX1_canBeTaken, Cond.code yX1_canBeTaken cX1_canBeTaken 1 (some .boolean), Cond.methodLink RX4 59 yX3_openLanding, Cond.instanceMethod yX3_openLanding, Cond.selects RX3 yX3_openLanding yX3_openLanding, Cond.code yX3_openLanding cX3_openLanding 3 (some .int), Cond.fieldLink RX3 80 "LandingFines$Landing" "isOpen" "Z", Cond.methodLink RX3 76 yX3_find, Cond.instanceMethod yX3_find, Cond.selects RX3 yX3_find yX3_find, Cond.code yX3_find cX3_find 2 (some (.object "LandingFines$Landing")), Cond.methodLink RX3 84 yX3_finishChange, Cond.instanceMethod yX3_finishChange, Cond.selects RX3 yX3_finishChange yX3_finishChange]
def wsX4_carryOutOne_r3 : List Cond := [Cond.code yX3_finishChange cX3_finishChange 4 (some .int), Cond.fieldLink RX3 45 "LandingFines$River" "journal" "LLandingFines$Journal;", Cond.fieldLink RX3 33 "LandingFines$River" "minutesSoFar" "I", Cond.fieldLink RX3 99 "LandingFines$Landing" "fine" "I", Cond.methodLink RX3 91 yX0_add, Cond.instanceMethod yX0_add, Cond.selects RX0 yX0_add yX0_add, Cond.initialized RX0, Cond.code yX0_add cX0_add 4 none, Cond.fieldLink RX0 9 "LandingFines$Journal" "sorts" "[I", Cond.fieldLink RX0 25 "LandingFines$Journal" "next" "I", Cond.fieldLink RX0 15 "LandingFines$Journal" "places" "[I", Cond.fieldLink RX0 18 "LandingFines$Journal" "minutes" "[I", Cond.fieldLink RX0 21 "LandingFines$Journal" "size" "I", Cond.methodLink RX0 28 Lib.Math.min.name, Cond.static Lib.Math.min.name, Cond.initialized "java/lang/Math", Cond.code Lib.Math.min.name Lib.Math.min.code 2 (some .int), Cond.methodLink RX3 95 yX3_fineBySort, Cond.instanceMethod yX3_fineBySort, Cond.selects RX3 yX3_fineBySort yX3_fineBySort, Cond.code yX3_fineBySort cX3_fineBySort 3 (some .boolean), Cond.fieldLink RX3 18 "LandingFines$River" "settings" "[I", Cond.methodLink RX3 102 yX1_addFine]
def wsX4_carryOutOne_r4 : List Cond := [Cond.instanceMethod yX1_addFine, Cond.selects RX1 yX1_addFine yX1_addFine, Cond.code yX1_addFine cX1_addFine 3 (some .boolean), Cond.constant RX1 37 (99999), Cond.methodLink RX1 38 Lib.Math.min.name, Cond.methodLink RX4 62 yX3_closeLanding, Cond.instanceMethod yX3_closeLanding, Cond.selects RX3 yX3_closeLanding yX3_closeLanding, Cond.code yX3_closeLanding cX3_closeLanding 3 (some .int), Cond.methodLink RX4 65 yX3_changePrice, Cond.instanceMethod yX3_changePrice, Cond.selects RX3 yX3_changePrice yX3_changePrice, Cond.code yX3_changePrice cX3_changePrice 4 (some .int), Cond.methodLink RX4 68 yX3_passMinutes, Cond.instanceMethod yX3_passMinutes, Cond.selects RX3 yX3_passMinutes yX3_passMinutes, Cond.code yX3_passMinutes cX3_passMinutes 4 (some .int), Cond.constant RX3 106 (99999), Cond.methodLink RX3 107 yX3_passOneMinute, Cond.instanceMethod yX3_passOneMinute, Cond.selects RX3 yX3_passOneMinute yX3_passOneMinute, Cond.code yX3_passOneMinute cX3_passOneMinute 3 (some .int), Cond.methodLink RX3 111 yX3_passMinuteOf, Cond.instanceMethod yX3_passMinuteOf]
def wsX4_carryOutOne_r5 : List Cond := [Cond.selects RX3 yX3_passMinuteOf yX3_passMinuteOf, Cond.code yX3_passMinuteOf cX3_passMinuteOf 2 (some .boolean), Cond.methodLink RX3 115 yX1_passMinute, Cond.instanceMethod yX1_passMinute, Cond.selects RX1 yX1_passMinute yX1_passMinute, Cond.code yX1_passMinute cX1_passMinute 4 (some .boolean)]
def wsX4_carryOutOne : List Cond := .code yX4_carryOutOne cX4_carryOutOne 1 (some .int) :: ((wsX4_carryOutOne_r1 ++ (wsX4_carryOutOne_r2 ++ (wsX4_carryOutOne_r3 ++ (wsX4_carryOutOne_r4 ++ wsX4_carryOutOne_r5)))) ++ wsX40 ++ wsX20 ++ wsX30 ++ wsX10 ++ wsX00)
def wsX4_carryOut_r1 : List Cond := [Cond.fieldLink RX4 34 "LandingFines" "pad" "LLandingFines$Pad;", Cond.methodLink RX4 144 yX2_findFault, Cond.instanceMethod yX2_findFault, Cond.selects RX2 yX2_findFault yX2_findFault, Cond.initialized RX2, Cond.code yX2_findFault cX2_findFault 2 (some .int), Cond.fieldLink RX2 19 "LandingFines$Pad" "place" "I", Cond.fieldLink RX2 15 "LandingFines$Pad" "length" "I", Cond.methodLink RX2 34 yX2_startReading, Cond.instanceMethod yX2_startReading, Cond.selects RX2 yX2_startReading yX2_startReading, Cond.code yX2_startReading cX2_startReading 1 none, Cond.methodLink RX2 37 yX2_readOrder, Cond.instanceMethod yX2_readOrder, Cond.selects RX2 yX2_readOrder yX2_readOrder, Cond.code yX2_readOrder cX2_readOrder 1 (some .boolean), Cond.fieldLink RX2 9 "LandingFines$Pad" "signs" "[C", Cond.fieldLink RX2 22 "LandingFines$Pad" "orderSign" "C", Cond.methodLink RX2 45 yX2_readNumber, Cond.instanceMethod yX2_readNumber, Cond.selects RX2 yX2_readNumber yX2_readNumber, Cond.code yX2_readNumber cX2_readNumber 2 (some .boolean), Cond.fieldLink RX2 29 "LandingFines$Pad" "orderNumber" "I", Cond.methodLink RX2 51 yX2_isAtDigit]
def wsX4_carryOut_r2 : List Cond := [Cond.instanceMethod yX2_isAtDigit, Cond.selects RX2 yX2_isAtDigit yX2_isAtDigit, Cond.code yX2_isAtDigit cX2_isAtDigit 1 (some .boolean), Cond.methodLink RX2 48 yX2_readLanding, Cond.instanceMethod yX2_readLanding, Cond.selects RX2 yX2_readLanding yX2_readLanding, Cond.code yX2_readLanding cX2_readLanding 1 (some .boolean), Cond.fieldLink RX2 26 "LandingFines$Pad" "orderLanding" "I", Cond.methodLink RX2 41 yX2_readSign, Cond.instanceMethod yX2_readSign, Cond.selects RX2 yX2_readSign yX2_readSign, Cond.code yX2_readSign cX2_readSign 2 (some .boolean), Cond.methodLink RX4 45 yX4_keepState, Cond.instanceMethod yX4_keepState, Cond.selects RX4 yX4_keepState yX4_keepState, Cond.initialized RX4, Cond.code yX4_keepState cX4_keepState 1 none, Cond.fieldLink RX4 16 "LandingFines" "history" "[LLandingFines$River;", Cond.fieldLink RX4 20 "LandingFines" "historySize" "I", Cond.fieldLink RX4 10 "LandingFines" "river" "LLandingFines$River;", Cond.methodLink RX4 171 yX3_copyFrom, Cond.instanceMethod yX3_copyFrom, Cond.selects RX3 yX3_copyFrom yX3_copyFrom, Cond.initialized RX3]
def wsX4_carryOut_r3 : List Cond := [Cond.code yX3_copyFrom cX3_copyFrom 3 none, Cond.fieldLink RX3 18 "LandingFines$River" "settings" "[I", Cond.methodLink RX3 50 arraycopyName, Cond.native arraycopyName, Cond.static arraycopyName, Cond.initialized "java/lang/System", Cond.fieldLink RX3 25 "LandingFines$River" "landings" "[LLandingFines$Landing;", Cond.fieldLink RX3 29 "LandingFines$River" "landingCount" "I", Cond.fieldLink RX3 33 "LandingFines$River" "minutesSoFar" "I", Cond.fieldLink RX3 36 "LandingFines$River" "taken" "I", Cond.fieldLink RX3 39 "LandingFines$River" "switches" "I", Cond.fieldLink RX3 45 "LandingFines$River" "journal" "LLandingFines$Journal;", Cond.methodLink RX3 56 yX1_copyFrom, Cond.instanceMethod yX1_copyFrom, Cond.selects RX1 yX1_copyFrom yX1_copyFrom, Cond.initialized RX1, Cond.code yX1_copyFrom cX1_copyFrom 2 none, Cond.fieldLink RX1 9 "LandingFines$Landing" "isOpen" "Z", Cond.fieldLink RX1 15 "LandingFines$Landing" "fare" "I", Cond.fieldLink RX1 19 "LandingFines$Landing" "fine" "I", Cond.fieldLink RX1 22 "LandingFines$Landing" "isShunned" "Z", Cond.fieldLink RX1 25 "LandingFines$Landing" "minutesShunned" "I", Cond.fieldLink RX1 28 "LandingFines$Landing" "minutesSinceHalving" "I", Cond.fieldLink RX1 31 "LandingFines$Landing" "changes" "I"]
def wsX4_carryOut_r4 : List Cond := [Cond.fieldLink RX1 34 "LandingFines$Landing" "timesShunned" "I", Cond.methodLink RX3 60 yX0_copyFrom, Cond.instanceMethod yX0_copyFrom, Cond.selects RX0 yX0_copyFrom yX0_copyFrom, Cond.initialized RX0, Cond.code yX0_copyFrom cX0_copyFrom 2 none, Cond.fieldLink RX0 9 "LandingFines$Journal" "sorts" "[I", Cond.methodLink RX0 34 arraycopyName, Cond.fieldLink RX0 15 "LandingFines$Journal" "places" "[I", Cond.fieldLink RX0 18 "LandingFines$Journal" "minutes" "[I", Cond.fieldLink RX0 21 "LandingFines$Journal" "size" "I", Cond.fieldLink RX0 25 "LandingFines$Journal" "next" "I", Cond.methodLink RX4 147 yX2_startReading, Cond.methodLink RX4 150 yX2_readOrder, Cond.methodLink RX4 154 yX4_carryOutOne, Cond.instanceMethod yX4_carryOutOne, Cond.selects RX4 yX4_carryOutOne yX4_carryOutOne, Cond.code yX4_carryOutOne cX4_carryOutOne 1 (some .int), Cond.fieldLink RX4 161 "LandingFines$Pad" "orderSign" "C", Cond.fieldLink RX4 165 "LandingFines$Pad" "orderNumber" "I", Cond.fieldLink RX4 168 "LandingFines$Pad" "orderLanding" "I", Cond.methodLink RX4 56 yX3_addLanding, Cond.instanceMethod yX3_addLanding, Cond.selects RX3 yX3_addLanding yX3_addLanding]
def wsX4_carryOut_r5 : List Cond := [Cond.code yX3_addLanding cX3_addLanding 2 (some .int), Cond.methodLink RX3 69 yX1_arrive, Cond.instanceMethod yX1_arrive, Cond.selects RX1 yX1_arrive yX1_arrive, Cond.code yX1_arrive cX1_arrive 2 none, Cond.methodLink RX3 73 yX3_followTaken, Cond.instanceMethod yX3_followTaken, Cond.selects RX3 yX3_followTaken yX3_followTaken, Cond.code yX3_followTaken cX3_followTaken 3 none, Cond.fieldLink RX3 88 "LandingFines$Landing" "fare" "I", Cond.methodLink RX3 131 yX1_canBeTaken, Cond.instanceMethod yX1_canBeTaken, Cond.selects RX1 yX1_canBeTaken yX1_canBeTaken, Cond.code yX1_canBeTaken cX1_canBeTaken 1 (some .boolean), Cond.methodLink RX4 59 yX3_openLanding, Cond.instanceMethod yX3_openLanding, Cond.selects RX3 yX3_openLanding yX3_openLanding, Cond.code yX3_openLanding cX3_openLanding 3 (some .int), Cond.fieldLink RX3 80 "LandingFines$Landing" "isOpen" "Z", Cond.methodLink RX3 76 yX3_find, Cond.instanceMethod yX3_find, Cond.selects RX3 yX3_find yX3_find, Cond.code yX3_find cX3_find 2 (some (.object "LandingFines$Landing")), Cond.methodLink RX3 84 yX3_finishChange]
def wsX4_carryOut_r6 : List Cond := [Cond.instanceMethod yX3_finishChange, Cond.selects RX3 yX3_finishChange yX3_finishChange, Cond.code yX3_finishChange cX3_finishChange 4 (some .int), Cond.fieldLink RX3 99 "LandingFines$Landing" "fine" "I", Cond.methodLink RX3 91 yX0_add, Cond.instanceMethod yX0_add, Cond.selects RX0 yX0_add yX0_add, Cond.code yX0_add cX0_add 4 none, Cond.methodLink RX0 28 Lib.Math.min.name, Cond.static Lib.Math.min.name, Cond.initialized "java/lang/Math", Cond.code Lib.Math.min.name Lib.Math.min.code 2 (some .int), Cond.methodLink RX3 95 yX3_fineBySort, Cond.instanceMethod yX3_fineBySort, Cond.selects RX3 yX3_fineBySort yX3_fineBySort, Cond.code yX3_fineBySort cX3_fineBySort 3 (some .boolean), Cond.methodLink RX3 102 yX1_addFine, Cond.instanceMethod yX1_addFine, Cond.selects RX1 yX1_addFine yX1_addFine, Cond.code yX1_addFine cX1_addFine 3 (some .boolean), Cond.constant RX1 37 (99999), Cond.methodLink RX1 38 Lib.Math.min.name, Cond.methodLink RX4 62 yX3_closeLanding, Cond.instanceMethod yX3_closeLanding]
def wsX4_carryOut_r7 : List Cond := [Cond.selects RX3 yX3_closeLanding yX3_closeLanding, Cond.code yX3_closeLanding cX3_closeLanding 3 (some .int), Cond.methodLink RX4 65 yX3_changePrice, Cond.instanceMethod yX3_changePrice, Cond.selects RX3 yX3_changePrice yX3_changePrice, Cond.code yX3_changePrice cX3_changePrice 4 (some .int), Cond.methodLink RX4 68 yX3_passMinutes, Cond.instanceMethod yX3_passMinutes, Cond.selects RX3 yX3_passMinutes yX3_passMinutes, Cond.code yX3_passMinutes cX3_passMinutes 4 (some .int), Cond.constant RX3 106 (99999), Cond.methodLink RX3 107 yX3_passOneMinute, Cond.instanceMethod yX3_passOneMinute, Cond.selects RX3 yX3_passOneMinute yX3_passOneMinute, Cond.code yX3_passOneMinute cX3_passOneMinute 3 (some .int), Cond.methodLink RX3 111 yX3_passMinuteOf, Cond.instanceMethod yX3_passMinuteOf, Cond.selects RX3 yX3_passMinuteOf yX3_passMinuteOf, Cond.code yX3_passMinuteOf cX3_passMinuteOf 2 (some .boolean), Cond.methodLink RX3 115 yX1_passMinute, Cond.instanceMethod yX1_passMinute, Cond.selects RX1 yX1_passMinute yX1_passMinute, Cond.code yX1_passMinute cX1_passMinute 4 (some .boolean), Cond.methodLink RX4 157 yX2_readSign]
def wsX4_carryOut_r8 : List Cond := [Cond.methodLink RX4 140 yX2_clear, Cond.instanceMethod yX2_clear, Cond.selects RX2 yX2_clear yX2_clear, Cond.code yX2_clear cX2_clear 2 (some .int), Cond.methodLink RX4 52 yX4_recordUnlessError, Cond.instanceMethod yX4_recordUnlessError, Cond.selects RX4 yX4_recordUnlessError yX4_recordUnlessError, Cond.code yX4_recordUnlessError cX4_recordUnlessError 2 (some .int), Cond.methodLink RX4 177 yX4_dropOldest, Cond.instanceMethod yX4_dropOldest, Cond.selects RX4 yX4_dropOldest yX4_dropOldest, Cond.code yX4_dropOldest cX4_dropOldest 3 none]
def wsX4_carryOut : List Cond := .code yX4_carryOut cX4_carryOut 3 (some .int) :: ((wsX4_carryOut_r1 ++ (wsX4_carryOut_r2 ++ (wsX4_carryOut_r3 ++ (wsX4_carryOut_r4 ++ (wsX4_carryOut_r5 ++ (wsX4_carryOut_r6 ++ (wsX4_carryOut_r7 ++ wsX4_carryOut_r8))))))) ++ wsX40 ++ wsX20 ++ wsX30 ++ wsX10 ++ wsX00)
def wsX4_undo_r1 : List Cond := [Cond.fieldLink RX4 20 "LandingFines" "historySize" "I", Cond.fieldLink RX4 10 "LandingFines" "river" "LLandingFines$River;", Cond.fieldLink RX4 16 "LandingFines" "history" "[LLandingFines$River;", Cond.methodLink RX4 171 yX3_copyFrom, Cond.instanceMethod yX3_copyFrom, Cond.selects RX3 yX3_copyFrom yX3_copyFrom, Cond.initialized RX3, Cond.code yX3_copyFrom cX3_copyFrom 3 none, Cond.fieldLink RX3 18 "LandingFines$River" "settings" "[I", Cond.methodLink RX3 50 arraycopyName, Cond.native arraycopyName, Cond.static arraycopyName, Cond.initialized "java/lang/System", Cond.fieldLink RX3 25 "LandingFines$River" "landings" "[LLandingFines$Landing;", Cond.fieldLink RX3 29 "LandingFines$River" "landingCount" "I", Cond.fieldLink RX3 33 "LandingFines$River" "minutesSoFar" "I", Cond.fieldLink RX3 36 "LandingFines$River" "taken" "I", Cond.fieldLink RX3 39 "LandingFines$River" "switches" "I", Cond.fieldLink RX3 45 "LandingFines$River" "journal" "LLandingFines$Journal;", Cond.methodLink RX3 56 yX1_copyFrom, Cond.instanceMethod yX1_copyFrom, Cond.selects RX1 yX1_copyFrom yX1_copyFrom, Cond.initialized RX1, Cond.code yX1_copyFrom cX1_copyFrom 2 none]
def wsX4_undo_r2 : List Cond := [Cond.fieldLink RX1 9 "LandingFines$Landing" "isOpen" "Z", Cond.fieldLink RX1 15 "LandingFines$Landing" "fare" "I", Cond.fieldLink RX1 19 "LandingFines$Landing" "fine" "I", Cond.fieldLink RX1 22 "LandingFines$Landing" "isShunned" "Z", Cond.fieldLink RX1 25 "LandingFines$Landing" "minutesShunned" "I", Cond.fieldLink RX1 28 "LandingFines$Landing" "minutesSinceHalving" "I", Cond.fieldLink RX1 31 "LandingFines$Landing" "changes" "I", Cond.fieldLink RX1 34 "LandingFines$Landing" "timesShunned" "I", Cond.methodLink RX3 60 yX0_copyFrom, Cond.instanceMethod yX0_copyFrom, Cond.selects RX0 yX0_copyFrom yX0_copyFrom, Cond.initialized RX0, Cond.code yX0_copyFrom cX0_copyFrom 2 none, Cond.fieldLink RX0 9 "LandingFines$Journal" "sorts" "[I", Cond.methodLink RX0 34 arraycopyName, Cond.fieldLink RX0 15 "LandingFines$Journal" "places" "[I", Cond.fieldLink RX0 18 "LandingFines$Journal" "minutes" "[I", Cond.fieldLink RX0 21 "LandingFines$Journal" "size" "I", Cond.fieldLink RX0 25 "LandingFines$Journal" "next" "I"]
def wsX4_undo : List Cond := .code yX4_undo cX4_undo 1 (some .int) :: ((wsX4_undo_r1 ++ wsX4_undo_r2) ++ wsX40 ++ wsX30 ++ wsX10 ++ wsX00)
def wsX4_save_r1 : List Cond := [Cond.fieldLink RX4 24 "LandingFines" "slots" "[LLandingFines$River;", Cond.fieldLink RX4 10 "LandingFines" "river" "LLandingFines$River;", Cond.fieldLink RX4 27 "LandingFines" "slotUsed" "[Z", Cond.fieldLink RX4 174 "LandingFines$River" "landingCount" "I", Cond.methodLink RX4 171 yX3_copyFrom, Cond.instanceMethod yX3_copyFrom, Cond.selects RX3 yX3_copyFrom yX3_copyFrom, Cond.initialized RX3, Cond.code yX3_copyFrom cX3_copyFrom 3 none, Cond.fieldLink RX3 18 "LandingFines$River" "settings" "[I", Cond.methodLink RX3 50 arraycopyName, Cond.native arraycopyName, Cond.static arraycopyName, Cond.initialized "java/lang/System", Cond.fieldLink RX3 25 "LandingFines$River" "landings" "[LLandingFines$Landing;", Cond.fieldLink RX3 29 "LandingFines$River" "landingCount" "I", Cond.fieldLink RX3 33 "LandingFines$River" "minutesSoFar" "I", Cond.fieldLink RX3 36 "LandingFines$River" "taken" "I", Cond.fieldLink RX3 39 "LandingFines$River" "switches" "I", Cond.fieldLink RX3 45 "LandingFines$River" "journal" "LLandingFines$Journal;", Cond.methodLink RX3 56 yX1_copyFrom, Cond.instanceMethod yX1_copyFrom, Cond.selects RX1 yX1_copyFrom yX1_copyFrom, Cond.initialized RX1]
def wsX4_save_r2 : List Cond := [Cond.code yX1_copyFrom cX1_copyFrom 2 none, Cond.fieldLink RX1 9 "LandingFines$Landing" "isOpen" "Z", Cond.fieldLink RX1 15 "LandingFines$Landing" "fare" "I", Cond.fieldLink RX1 19 "LandingFines$Landing" "fine" "I", Cond.fieldLink RX1 22 "LandingFines$Landing" "isShunned" "Z", Cond.fieldLink RX1 25 "LandingFines$Landing" "minutesShunned" "I", Cond.fieldLink RX1 28 "LandingFines$Landing" "minutesSinceHalving" "I", Cond.fieldLink RX1 31 "LandingFines$Landing" "changes" "I", Cond.fieldLink RX1 34 "LandingFines$Landing" "timesShunned" "I", Cond.methodLink RX3 60 yX0_copyFrom, Cond.instanceMethod yX0_copyFrom, Cond.selects RX0 yX0_copyFrom yX0_copyFrom, Cond.initialized RX0, Cond.code yX0_copyFrom cX0_copyFrom 2 none, Cond.fieldLink RX0 9 "LandingFines$Journal" "sorts" "[I", Cond.methodLink RX0 34 arraycopyName, Cond.fieldLink RX0 15 "LandingFines$Journal" "places" "[I", Cond.fieldLink RX0 18 "LandingFines$Journal" "minutes" "[I", Cond.fieldLink RX0 21 "LandingFines$Journal" "size" "I", Cond.fieldLink RX0 25 "LandingFines$Journal" "next" "I"]
def wsX4_save : List Cond := .code yX4_save cX4_save 2 (some .int) :: ((wsX4_save_r1 ++ wsX4_save_r2) ++ wsX40 ++ wsX30 ++ wsX10 ++ wsX00)
def wsX4_restore_r1 : List Cond := [Cond.fieldLink RX4 27 "LandingFines" "slotUsed" "[Z", Cond.fieldLink RX4 10 "LandingFines" "river" "LLandingFines$River;", Cond.fieldLink RX4 24 "LandingFines" "slots" "[LLandingFines$River;", Cond.fieldLink RX4 174 "LandingFines$River" "landingCount" "I", Cond.methodLink RX4 45 yX4_keepState, Cond.instanceMethod yX4_keepState, Cond.selects RX4 yX4_keepState yX4_keepState, Cond.initialized RX4, Cond.code yX4_keepState cX4_keepState 1 none, Cond.fieldLink RX4 16 "LandingFines" "history" "[LLandingFines$River;", Cond.fieldLink RX4 20 "LandingFines" "historySize" "I", Cond.methodLink RX4 171 yX3_copyFrom, Cond.instanceMethod yX3_copyFrom, Cond.selects RX3 yX3_copyFrom yX3_copyFrom, Cond.initialized RX3, Cond.code yX3_copyFrom cX3_copyFrom 3 none, Cond.fieldLink RX3 18 "LandingFines$River" "settings" "[I", Cond.methodLink RX3 50 arraycopyName, Cond.native arraycopyName, Cond.static arraycopyName, Cond.initialized "java/lang/System", Cond.fieldLink RX3 25 "LandingFines$River" "landings" "[LLandingFines$Landing;", Cond.fieldLink RX3 29 "LandingFines$River" "landingCount" "I", Cond.fieldLink RX3 33 "LandingFines$River" "minutesSoFar" "I"]
def wsX4_restore_r2 : List Cond := [Cond.fieldLink RX3 36 "LandingFines$River" "taken" "I", Cond.fieldLink RX3 39 "LandingFines$River" "switches" "I", Cond.fieldLink RX3 45 "LandingFines$River" "journal" "LLandingFines$Journal;", Cond.methodLink RX3 56 yX1_copyFrom, Cond.instanceMethod yX1_copyFrom, Cond.selects RX1 yX1_copyFrom yX1_copyFrom, Cond.initialized RX1, Cond.code yX1_copyFrom cX1_copyFrom 2 none, Cond.fieldLink RX1 9 "LandingFines$Landing" "isOpen" "Z", Cond.fieldLink RX1 15 "LandingFines$Landing" "fare" "I", Cond.fieldLink RX1 19 "LandingFines$Landing" "fine" "I", Cond.fieldLink RX1 22 "LandingFines$Landing" "isShunned" "Z", Cond.fieldLink RX1 25 "LandingFines$Landing" "minutesShunned" "I", Cond.fieldLink RX1 28 "LandingFines$Landing" "minutesSinceHalving" "I", Cond.fieldLink RX1 31 "LandingFines$Landing" "changes" "I", Cond.fieldLink RX1 34 "LandingFines$Landing" "timesShunned" "I", Cond.methodLink RX3 60 yX0_copyFrom, Cond.instanceMethod yX0_copyFrom, Cond.selects RX0 yX0_copyFrom yX0_copyFrom, Cond.initialized RX0, Cond.code yX0_copyFrom cX0_copyFrom 2 none, Cond.fieldLink RX0 9 "LandingFines$Journal" "sorts" "[I", Cond.methodLink RX0 34 arraycopyName, Cond.fieldLink RX0 15 "LandingFines$Journal" "places" "[I"]
def wsX4_restore_r3 : List Cond := [Cond.fieldLink RX0 18 "LandingFines$Journal" "minutes" "[I", Cond.fieldLink RX0 21 "LandingFines$Journal" "size" "I", Cond.fieldLink RX0 25 "LandingFines$Journal" "next" "I", Cond.methodLink RX4 52 yX4_recordUnlessError, Cond.instanceMethod yX4_recordUnlessError, Cond.selects RX4 yX4_recordUnlessError yX4_recordUnlessError, Cond.code yX4_recordUnlessError cX4_recordUnlessError 2 (some .int), Cond.methodLink RX4 177 yX4_dropOldest, Cond.instanceMethod yX4_dropOldest, Cond.selects RX4 yX4_dropOldest yX4_dropOldest, Cond.code yX4_dropOldest cX4_dropOldest 3 none]
def wsX4_restore : List Cond := .code yX4_restore cX4_restore 2 (some .int) :: ((wsX4_restore_r1 ++ (wsX4_restore_r2 ++ wsX4_restore_r3)) ++ wsX40 ++ wsX30 ++ wsX10 ++ wsX00)
def wsX5_init : List Cond := .code yX5_init cX5_init 1 none :: ([.methodLink RX5 1 objectInit, .instanceMethod objectInit, .code objectInit ⟨#[0xb1]⟩ 1 none, .arrayClass .int, .fieldLink RX5 7 "LandingFinesModel" "row" "[I", .fieldLink RX5 13 "LandingFinesModel" "past" "[I", .fieldLink RX5 16 "LandingFinesModel" "before" "[I", .fieldLink RX5 19 "LandingFinesModel" "slots" "[I", .arrayClass .boolean, .fieldLink RX5 22 "LandingFinesModel" "isSaved" "[Z", .fieldLink RX5 26 "LandingFinesModel" "pad" "[I", .fieldLink RX5 29 "LandingFinesModel" "codes" "[I"] ++ wsX50)
def wsX5_in : List Cond := .code yX5_in cX5_in 4 (some .boolean) :: ([])
def wsX5_its : List Cond := .code yX5_its cX5_its 3 (some .int) :: ([.fieldLink RX5 7 "LandingFinesModel" "row" "[I"] ++ wsX50)
def wsX5_lay : List Cond := .code yX5_lay cX5_lay 4 none :: ([.fieldLink RX5 7 "LandingFinesModel" "row" "[I"] ++ wsX50)
def wsX5_isLanding : List Cond := .code yX5_isLanding cX5_isLanding 2 (some .boolean) :: ([.fieldLink RX5 7 "LandingFinesModel" "row" "[I", .methodLink RX5 32 yX5_in, .static yX5_in, .initialized RX5, .code yX5_in cX5_in 4 (some .boolean)] ++ wsX50)
def wsX5_remember : List Cond := .code yX5_remember cX5_remember 2 none :: ([.fieldLink RX5 16 "LandingFinesModel" "before" "[I", .fieldLink RX5 7 "LandingFinesModel" "row" "[I"] ++ wsX50)
def wsX5_record : List Cond := .code yX5_record cX5_record 3 (some .int) :: ([.fieldLink RX5 36 "LandingFinesModel" "states" "I", .fieldLink RX5 13 "LandingFinesModel" "past" "[I", .fieldLink RX5 16 "LandingFinesModel" "before" "[I"] ++ wsX50)
def wsX5_undo : List Cond := .code yX5_undo cX5_undo 2 (some .int) :: ([.fieldLink RX5 36 "LandingFinesModel" "states" "I", .fieldLink RX5 7 "LandingFinesModel" "row" "[I", .fieldLink RX5 13 "LandingFinesModel" "past" "[I"] ++ wsX50)
def wsX5_save : List Cond := .code yX5_save cX5_save 3 (some .int) :: ([.fieldLink RX5 19 "LandingFinesModel" "slots" "[I", .fieldLink RX5 7 "LandingFinesModel" "row" "[I", .fieldLink RX5 22 "LandingFinesModel" "isSaved" "[Z", .methodLink RX5 32 yX5_in, .static yX5_in, .initialized RX5, .code yX5_in cX5_in 4 (some .boolean)] ++ wsX50)
def wsX5_restore : List Cond := .code yX5_restore cX5_restore 3 (some .int) :: ([.fieldLink RX5 22 "LandingFinesModel" "isSaved" "[Z", .fieldLink RX5 7 "LandingFinesModel" "row" "[I", .fieldLink RX5 19 "LandingFinesModel" "slots" "[I", .methodLink RX5 32 yX5_in, .static yX5_in, .initialized RX5, .code yX5_in cX5_in 4 (some .boolean), .methodLink RX5 40 yX5_remember, .instanceMethod yX5_remember, .selects RX5 yX5_remember yX5_remember, .code yX5_remember cX5_remember 2 none, .fieldLink RX5 16 "LandingFinesModel" "before" "[I", .methodLink RX5 43 yX5_record, .instanceMethod yX5_record, .selects RX5 yX5_record yX5_record, .code yX5_record cX5_record 3 (some .int), .fieldLink RX5 36 "LandingFinesModel" "states" "I", .fieldLink RX5 13 "LandingFinesModel" "past" "[I"] ++ wsX50)
def wsX5_taken : List Cond := .code yX5_taken cX5_taken 4 (some .int) :: ([.fieldLink RX5 7 "LandingFinesModel" "row" "[I", .methodLink RX5 47 yX5_its, .instanceMethod yX5_its, .selects RX5 yX5_its yX5_its, .initialized RX5, .code yX5_its cX5_its 3 (some .int)] ++ wsX50)
def wsX5_note : List Cond := .code yX5_note cX5_note 4 none :: ([.fieldLink RX5 7 "LandingFinesModel" "row" "[I"] ++ wsX50)
def wsX5_held : List Cond := .code yX5_held cX5_held 1 (some .int) :: ([.constant RX5 51 (99999)])
def wsX5_change : List Cond := .code yX5_change cX5_change 6 (some .int) :: ([.fieldLink RX5 7 "LandingFinesModel" "row" "[I", .methodLink RX5 52 yX5_taken, .instanceMethod yX5_taken, .selects RX5 yX5_taken yX5_taken, .initialized RX5, .code yX5_taken cX5_taken 4 (some .int), .methodLink RX5 47 yX5_its, .instanceMethod yX5_its, .selects RX5 yX5_its yX5_its, .code yX5_its cX5_its 3 (some .int), .methodLink RX5 56 yX5_lay, .instanceMethod yX5_lay, .selects RX5 yX5_lay yX5_lay, .code yX5_lay cX5_lay 4 none, .methodLink RX5 60 yX5_held, .static yX5_held, .code yX5_held cX5_held 1 (some .int), .constant RX5 51 (99999), .methodLink RX5 63 yX5_note, .instanceMethod yX5_note, .selects RX5 yX5_note yX5_note, .code yX5_note cX5_note 4 none] ++ wsX50)
def wsX5_passes : List Cond := .code yX5_passes cX5_passes 2 (some .boolean) :: ([.fieldLink RX5 67 "LandingFinesModel" "since" "I", .fieldLink RX5 7 "LandingFinesModel" "row" "[I", .fieldLink RX5 70 "LandingFinesModel" "fine" "I", .fieldLink RX5 73 "LandingFinesModel" "isShunned" "Z", .fieldLink RX5 77 "LandingFinesModel" "shunnedFor" "I"] ++ wsX50)
def wsX5_tries : List Cond := .code yX5_tries cX5_tries 2 none :: ([.fieldLink RX5 70 "LandingFinesModel" "fine" "I", .fieldLink RX5 67 "LandingFinesModel" "since" "I", .fieldLink RX5 73 "LandingFinesModel" "isShunned" "Z", .fieldLink RX5 77 "LandingFinesModel" "shunnedFor" "I", .methodLink RX5 47 yX5_its, .instanceMethod yX5_its, .selects RX5 yX5_its yX5_its, .initialized RX5, .code yX5_its cX5_its 3 (some .int), .fieldLink RX5 7 "LandingFinesModel" "row" "[I"] ++ wsX50)
def wsX5_minute_r1 : List Cond := [Cond.fieldLink RX5 7 "LandingFinesModel" "row" "[I", Cond.fieldLink RX5 70 "LandingFinesModel" "fine" "I", Cond.fieldLink RX5 67 "LandingFinesModel" "since" "I", Cond.fieldLink RX5 73 "LandingFinesModel" "isShunned" "Z", Cond.fieldLink RX5 77 "LandingFinesModel" "shunnedFor" "I", Cond.methodLink RX5 52 yX5_taken, Cond.instanceMethod yX5_taken, Cond.selects RX5 yX5_taken yX5_taken, Cond.initialized RX5, Cond.code yX5_taken cX5_taken 4 (some .int), Cond.methodLink RX5 47 yX5_its, Cond.instanceMethod yX5_its, Cond.selects RX5 yX5_its yX5_its, Cond.code yX5_its cX5_its 3 (some .int), Cond.methodLink RX5 80 yX5_tries, Cond.instanceMethod yX5_tries, Cond.selects RX5 yX5_tries yX5_tries, Cond.code yX5_tries cX5_tries 2 none, Cond.methodLink RX5 84 yX5_passes, Cond.instanceMethod yX5_passes, Cond.selects RX5 yX5_passes yX5_passes, Cond.code yX5_passes cX5_passes 2 (some .boolean), Cond.methodLink RX5 56 yX5_lay, Cond.instanceMethod yX5_lay]
def wsX5_minute_r2 : List Cond := [Cond.selects RX5 yX5_lay yX5_lay, Cond.code yX5_lay cX5_lay 4 none, Cond.methodLink RX5 63 yX5_note, Cond.instanceMethod yX5_note, Cond.selects RX5 yX5_note yX5_note, Cond.code yX5_note cX5_note 4 none]
def wsX5_minute : List Cond := .code yX5_minute cX5_minute 5 (some .int) :: ((wsX5_minute_r1 ++ wsX5_minute_r2) ++ wsX50)
def wsX5_comes : List Cond := .code yX5_comes cX5_comes 5 (some .int) :: ([.fieldLink RX5 7 "LandingFinesModel" "row" "[I", .methodLink RX5 32 yX5_in, .static yX5_in, .initialized RX5, .code yX5_in cX5_in 4 (some .boolean), .methodLink RX5 52 yX5_taken, .instanceMethod yX5_taken, .selects RX5 yX5_taken yX5_taken, .code yX5_taken cX5_taken 4 (some .int), .methodLink RX5 47 yX5_its, .instanceMethod yX5_its, .selects RX5 yX5_its yX5_its, .code yX5_its cX5_its 3 (some .int), .methodLink RX5 56 yX5_lay, .instanceMethod yX5_lay, .selects RX5 yX5_lay yX5_lay, .code yX5_lay cX5_lay 4 none] ++ wsX50)
def wsX5_turns_r1 : List Cond := [Cond.methodLink RX5 88 yX5_isLanding, Cond.instanceMethod yX5_isLanding, Cond.selects RX5 yX5_isLanding yX5_isLanding, Cond.initialized RX5, Cond.code yX5_isLanding cX5_isLanding 2 (some .boolean), Cond.fieldLink RX5 7 "LandingFinesModel" "row" "[I", Cond.methodLink RX5 32 yX5_in, Cond.static yX5_in, Cond.code yX5_in cX5_in 4 (some .boolean), Cond.methodLink RX5 47 yX5_its, Cond.instanceMethod yX5_its, Cond.selects RX5 yX5_its yX5_its, Cond.code yX5_its cX5_its 3 (some .int), Cond.methodLink RX5 92 yX5_change, Cond.instanceMethod yX5_change, Cond.selects RX5 yX5_change yX5_change, Cond.code yX5_change cX5_change 6 (some .int), Cond.methodLink RX5 52 yX5_taken, Cond.instanceMethod yX5_taken, Cond.selects RX5 yX5_taken yX5_taken, Cond.code yX5_taken cX5_taken 4 (some .int), Cond.methodLink RX5 56 yX5_lay, Cond.instanceMethod yX5_lay, Cond.selects RX5 yX5_lay yX5_lay]
def wsX5_turns_r2 : List Cond := [Cond.code yX5_lay cX5_lay 4 none, Cond.methodLink RX5 60 yX5_held, Cond.static yX5_held, Cond.code yX5_held cX5_held 1 (some .int), Cond.constant RX5 51 (99999), Cond.methodLink RX5 63 yX5_note, Cond.instanceMethod yX5_note, Cond.selects RX5 yX5_note yX5_note, Cond.code yX5_note cX5_note 4 none]
def wsX5_turns : List Cond := .code yX5_turns cX5_turns 3 (some .int) :: ((wsX5_turns_r1 ++ wsX5_turns_r2) ++ wsX50)
def wsX5_costs_r1 : List Cond := [Cond.methodLink RX5 88 yX5_isLanding, Cond.instanceMethod yX5_isLanding, Cond.selects RX5 yX5_isLanding yX5_isLanding, Cond.initialized RX5, Cond.code yX5_isLanding cX5_isLanding 2 (some .boolean), Cond.fieldLink RX5 7 "LandingFinesModel" "row" "[I", Cond.methodLink RX5 32 yX5_in, Cond.static yX5_in, Cond.code yX5_in cX5_in 4 (some .boolean), Cond.methodLink RX5 47 yX5_its, Cond.instanceMethod yX5_its, Cond.selects RX5 yX5_its yX5_its, Cond.code yX5_its cX5_its 3 (some .int), Cond.methodLink RX5 92 yX5_change, Cond.instanceMethod yX5_change, Cond.selects RX5 yX5_change yX5_change, Cond.code yX5_change cX5_change 6 (some .int), Cond.methodLink RX5 52 yX5_taken, Cond.instanceMethod yX5_taken, Cond.selects RX5 yX5_taken yX5_taken, Cond.code yX5_taken cX5_taken 4 (some .int), Cond.methodLink RX5 56 yX5_lay, Cond.instanceMethod yX5_lay, Cond.selects RX5 yX5_lay yX5_lay]
def wsX5_costs_r2 : List Cond := [Cond.code yX5_lay cX5_lay 4 none, Cond.methodLink RX5 60 yX5_held, Cond.static yX5_held, Cond.code yX5_held cX5_held 1 (some .int), Cond.constant RX5 51 (99999), Cond.methodLink RX5 63 yX5_note, Cond.instanceMethod yX5_note, Cond.selects RX5 yX5_note yX5_note, Cond.code yX5_note cX5_note 4 none]
def wsX5_costs : List Cond := .code yX5_costs cX5_costs 3 (some .int) :: ((wsX5_costs_r1 ++ wsX5_costs_r2) ++ wsX50)
def wsX5_waits_r1 : List Cond := [Cond.fieldLink RX5 7 "LandingFinesModel" "row" "[I", Cond.constant RX5 51 (99999), Cond.methodLink RX5 32 yX5_in, Cond.static yX5_in, Cond.initialized RX5, Cond.code yX5_in cX5_in 4 (some .boolean), Cond.methodLink RX5 96 yX5_minute, Cond.instanceMethod yX5_minute, Cond.selects RX5 yX5_minute yX5_minute, Cond.code yX5_minute cX5_minute 5 (some .int), Cond.fieldLink RX5 70 "LandingFinesModel" "fine" "I", Cond.fieldLink RX5 67 "LandingFinesModel" "since" "I", Cond.fieldLink RX5 73 "LandingFinesModel" "isShunned" "Z", Cond.fieldLink RX5 77 "LandingFinesModel" "shunnedFor" "I", Cond.methodLink RX5 52 yX5_taken, Cond.instanceMethod yX5_taken, Cond.selects RX5 yX5_taken yX5_taken, Cond.code yX5_taken cX5_taken 4 (some .int), Cond.methodLink RX5 47 yX5_its, Cond.instanceMethod yX5_its, Cond.selects RX5 yX5_its yX5_its, Cond.code yX5_its cX5_its 3 (some .int), Cond.methodLink RX5 80 yX5_tries, Cond.instanceMethod yX5_tries]
def wsX5_waits_r2 : List Cond := [Cond.selects RX5 yX5_tries yX5_tries, Cond.code yX5_tries cX5_tries 2 none, Cond.methodLink RX5 84 yX5_passes, Cond.instanceMethod yX5_passes, Cond.selects RX5 yX5_passes yX5_passes, Cond.code yX5_passes cX5_passes 2 (some .boolean), Cond.methodLink RX5 56 yX5_lay, Cond.instanceMethod yX5_lay, Cond.selects RX5 yX5_lay yX5_lay, Cond.code yX5_lay cX5_lay 4 none, Cond.methodLink RX5 63 yX5_note, Cond.instanceMethod yX5_note, Cond.selects RX5 yX5_note yX5_note, Cond.code yX5_note cX5_note 4 none]
def wsX5_waits : List Cond := .code yX5_waits cX5_waits 4 (some .int) :: ((wsX5_waits_r1 ++ wsX5_waits_r2) ++ wsX50)
def wsX5_set : List Cond := .code yX5_set cX5_set 6 (some .int) :: ([.constant RX5 51 (99999), .fieldLink RX5 7 "LandingFinesModel" "row" "[I", .methodLink RX5 32 yX5_in, .static yX5_in, .initialized RX5, .code yX5_in cX5_in 4 (some .boolean), .methodLink RX5 40 yX5_remember, .instanceMethod yX5_remember, .selects RX5 yX5_remember yX5_remember, .code yX5_remember cX5_remember 2 none, .fieldLink RX5 16 "LandingFinesModel" "before" "[I", .methodLink RX5 43 yX5_record, .instanceMethod yX5_record, .selects RX5 yX5_record yX5_record, .code yX5_record cX5_record 3 (some .int), .fieldLink RX5 36 "LandingFinesModel" "states" "I", .fieldLink RX5 13 "LandingFinesModel" "past" "[I"] ++ wsX50)
def wsX5_landing_r1 : List Cond := [Cond.methodLink RX5 40 yX5_remember, Cond.instanceMethod yX5_remember, Cond.selects RX5 yX5_remember yX5_remember, Cond.initialized RX5, Cond.code yX5_remember cX5_remember 2 none, Cond.fieldLink RX5 16 "LandingFinesModel" "before" "[I", Cond.fieldLink RX5 7 "LandingFinesModel" "row" "[I", Cond.methodLink RX5 99 yX5_comes, Cond.instanceMethod yX5_comes, Cond.selects RX5 yX5_comes yX5_comes, Cond.code yX5_comes cX5_comes 5 (some .int), Cond.methodLink RX5 32 yX5_in, Cond.static yX5_in, Cond.code yX5_in cX5_in 4 (some .boolean), Cond.methodLink RX5 52 yX5_taken, Cond.instanceMethod yX5_taken, Cond.selects RX5 yX5_taken yX5_taken, Cond.code yX5_taken cX5_taken 4 (some .int), Cond.methodLink RX5 47 yX5_its, Cond.instanceMethod yX5_its, Cond.selects RX5 yX5_its yX5_its, Cond.code yX5_its cX5_its 3 (some .int), Cond.methodLink RX5 56 yX5_lay, Cond.instanceMethod yX5_lay]
def wsX5_landing_r2 : List Cond := [Cond.selects RX5 yX5_lay yX5_lay, Cond.code yX5_lay cX5_lay 4 none, Cond.methodLink RX5 43 yX5_record, Cond.instanceMethod yX5_record, Cond.selects RX5 yX5_record yX5_record, Cond.code yX5_record cX5_record 3 (some .int), Cond.fieldLink RX5 36 "LandingFinesModel" "states" "I", Cond.fieldLink RX5 13 "LandingFinesModel" "past" "[I"]
def wsX5_landing : List Cond := .code yX5_landing cX5_landing 2 (some .int) :: ((wsX5_landing_r1 ++ wsX5_landing_r2) ++ wsX50)
def wsX5_open_r1 : List Cond := [Cond.methodLink RX5 40 yX5_remember, Cond.instanceMethod yX5_remember, Cond.selects RX5 yX5_remember yX5_remember, Cond.initialized RX5, Cond.code yX5_remember cX5_remember 2 none, Cond.fieldLink RX5 16 "LandingFinesModel" "before" "[I", Cond.fieldLink RX5 7 "LandingFinesModel" "row" "[I", Cond.methodLink RX5 102 yX5_turns, Cond.instanceMethod yX5_turns, Cond.selects RX5 yX5_turns yX5_turns, Cond.code yX5_turns cX5_turns 3 (some .int), Cond.methodLink RX5 88 yX5_isLanding, Cond.instanceMethod yX5_isLanding, Cond.selects RX5 yX5_isLanding yX5_isLanding, Cond.code yX5_isLanding cX5_isLanding 2 (some .boolean), Cond.methodLink RX5 32 yX5_in, Cond.static yX5_in, Cond.code yX5_in cX5_in 4 (some .boolean), Cond.methodLink RX5 47 yX5_its, Cond.instanceMethod yX5_its, Cond.selects RX5 yX5_its yX5_its, Cond.code yX5_its cX5_its 3 (some .int), Cond.methodLink RX5 92 yX5_change, Cond.instanceMethod yX5_change]
def wsX5_open_r2 : List Cond := [Cond.selects RX5 yX5_change yX5_change, Cond.code yX5_change cX5_change 6 (some .int), Cond.methodLink RX5 52 yX5_taken, Cond.instanceMethod yX5_taken, Cond.selects RX5 yX5_taken yX5_taken, Cond.code yX5_taken cX5_taken 4 (some .int), Cond.methodLink RX5 56 yX5_lay, Cond.instanceMethod yX5_lay, Cond.selects RX5 yX5_lay yX5_lay, Cond.code yX5_lay cX5_lay 4 none, Cond.methodLink RX5 60 yX5_held, Cond.static yX5_held, Cond.code yX5_held cX5_held 1 (some .int), Cond.constant RX5 51 (99999), Cond.methodLink RX5 63 yX5_note, Cond.instanceMethod yX5_note, Cond.selects RX5 yX5_note yX5_note, Cond.code yX5_note cX5_note 4 none, Cond.methodLink RX5 43 yX5_record, Cond.instanceMethod yX5_record, Cond.selects RX5 yX5_record yX5_record, Cond.code yX5_record cX5_record 3 (some .int), Cond.fieldLink RX5 36 "LandingFinesModel" "states" "I", Cond.fieldLink RX5 13 "LandingFinesModel" "past" "[I"]
def wsX5_open : List Cond := .code yX5_open cX5_open 2 (some .int) :: ((wsX5_open_r1 ++ wsX5_open_r2) ++ wsX50)
def wsX5_close_r1 : List Cond := [Cond.methodLink RX5 40 yX5_remember, Cond.instanceMethod yX5_remember, Cond.selects RX5 yX5_remember yX5_remember, Cond.initialized RX5, Cond.code yX5_remember cX5_remember 2 none, Cond.fieldLink RX5 16 "LandingFinesModel" "before" "[I", Cond.fieldLink RX5 7 "LandingFinesModel" "row" "[I", Cond.methodLink RX5 102 yX5_turns, Cond.instanceMethod yX5_turns, Cond.selects RX5 yX5_turns yX5_turns, Cond.code yX5_turns cX5_turns 3 (some .int), Cond.methodLink RX5 88 yX5_isLanding, Cond.instanceMethod yX5_isLanding, Cond.selects RX5 yX5_isLanding yX5_isLanding, Cond.code yX5_isLanding cX5_isLanding 2 (some .boolean), Cond.methodLink RX5 32 yX5_in, Cond.static yX5_in, Cond.code yX5_in cX5_in 4 (some .boolean), Cond.methodLink RX5 47 yX5_its, Cond.instanceMethod yX5_its, Cond.selects RX5 yX5_its yX5_its, Cond.code yX5_its cX5_its 3 (some .int), Cond.methodLink RX5 92 yX5_change, Cond.instanceMethod yX5_change]
def wsX5_close_r2 : List Cond := [Cond.selects RX5 yX5_change yX5_change, Cond.code yX5_change cX5_change 6 (some .int), Cond.methodLink RX5 52 yX5_taken, Cond.instanceMethod yX5_taken, Cond.selects RX5 yX5_taken yX5_taken, Cond.code yX5_taken cX5_taken 4 (some .int), Cond.methodLink RX5 56 yX5_lay, Cond.instanceMethod yX5_lay, Cond.selects RX5 yX5_lay yX5_lay, Cond.code yX5_lay cX5_lay 4 none, Cond.methodLink RX5 60 yX5_held, Cond.static yX5_held, Cond.code yX5_held cX5_held 1 (some .int), Cond.constant RX5 51 (99999), Cond.methodLink RX5 63 yX5_note, Cond.instanceMethod yX5_note, Cond.selects RX5 yX5_note yX5_note, Cond.code yX5_note cX5_note 4 none, Cond.methodLink RX5 43 yX5_record, Cond.instanceMethod yX5_record, Cond.selects RX5 yX5_record yX5_record, Cond.code yX5_record cX5_record 3 (some .int), Cond.fieldLink RX5 36 "LandingFinesModel" "states" "I", Cond.fieldLink RX5 13 "LandingFinesModel" "past" "[I"]
def wsX5_close : List Cond := .code yX5_close cX5_close 2 (some .int) :: ((wsX5_close_r1 ++ wsX5_close_r2) ++ wsX50)
def wsX5_price_r1 : List Cond := [Cond.methodLink RX5 40 yX5_remember, Cond.instanceMethod yX5_remember, Cond.selects RX5 yX5_remember yX5_remember, Cond.initialized RX5, Cond.code yX5_remember cX5_remember 2 none, Cond.fieldLink RX5 16 "LandingFinesModel" "before" "[I", Cond.fieldLink RX5 7 "LandingFinesModel" "row" "[I", Cond.methodLink RX5 105 yX5_costs, Cond.instanceMethod yX5_costs, Cond.selects RX5 yX5_costs yX5_costs, Cond.code yX5_costs cX5_costs 3 (some .int), Cond.methodLink RX5 88 yX5_isLanding, Cond.instanceMethod yX5_isLanding, Cond.selects RX5 yX5_isLanding yX5_isLanding, Cond.code yX5_isLanding cX5_isLanding 2 (some .boolean), Cond.methodLink RX5 32 yX5_in, Cond.static yX5_in, Cond.code yX5_in cX5_in 4 (some .boolean), Cond.methodLink RX5 47 yX5_its, Cond.instanceMethod yX5_its, Cond.selects RX5 yX5_its yX5_its, Cond.code yX5_its cX5_its 3 (some .int), Cond.methodLink RX5 92 yX5_change, Cond.instanceMethod yX5_change]
def wsX5_price_r2 : List Cond := [Cond.selects RX5 yX5_change yX5_change, Cond.code yX5_change cX5_change 6 (some .int), Cond.methodLink RX5 52 yX5_taken, Cond.instanceMethod yX5_taken, Cond.selects RX5 yX5_taken yX5_taken, Cond.code yX5_taken cX5_taken 4 (some .int), Cond.methodLink RX5 56 yX5_lay, Cond.instanceMethod yX5_lay, Cond.selects RX5 yX5_lay yX5_lay, Cond.code yX5_lay cX5_lay 4 none, Cond.methodLink RX5 60 yX5_held, Cond.static yX5_held, Cond.code yX5_held cX5_held 1 (some .int), Cond.constant RX5 51 (99999), Cond.methodLink RX5 63 yX5_note, Cond.instanceMethod yX5_note, Cond.selects RX5 yX5_note yX5_note, Cond.code yX5_note cX5_note 4 none, Cond.methodLink RX5 43 yX5_record, Cond.instanceMethod yX5_record, Cond.selects RX5 yX5_record yX5_record, Cond.code yX5_record cX5_record 3 (some .int), Cond.fieldLink RX5 36 "LandingFinesModel" "states" "I", Cond.fieldLink RX5 13 "LandingFinesModel" "past" "[I"]
def wsX5_price : List Cond := .code yX5_price cX5_price 3 (some .int) :: ((wsX5_price_r1 ++ wsX5_price_r2) ++ wsX50)
def wsX5_pass_r1 : List Cond := [Cond.methodLink RX5 40 yX5_remember, Cond.instanceMethod yX5_remember, Cond.selects RX5 yX5_remember yX5_remember, Cond.initialized RX5, Cond.code yX5_remember cX5_remember 2 none, Cond.fieldLink RX5 16 "LandingFinesModel" "before" "[I", Cond.fieldLink RX5 7 "LandingFinesModel" "row" "[I", Cond.methodLink RX5 108 yX5_waits, Cond.instanceMethod yX5_waits, Cond.selects RX5 yX5_waits yX5_waits, Cond.code yX5_waits cX5_waits 4 (some .int), Cond.constant RX5 51 (99999), Cond.methodLink RX5 32 yX5_in, Cond.static yX5_in, Cond.code yX5_in cX5_in 4 (some .boolean), Cond.methodLink RX5 96 yX5_minute, Cond.instanceMethod yX5_minute, Cond.selects RX5 yX5_minute yX5_minute, Cond.code yX5_minute cX5_minute 5 (some .int), Cond.fieldLink RX5 70 "LandingFinesModel" "fine" "I", Cond.fieldLink RX5 67 "LandingFinesModel" "since" "I", Cond.fieldLink RX5 73 "LandingFinesModel" "isShunned" "Z", Cond.fieldLink RX5 77 "LandingFinesModel" "shunnedFor" "I", Cond.methodLink RX5 52 yX5_taken]
def wsX5_pass_r2 : List Cond := [Cond.instanceMethod yX5_taken, Cond.selects RX5 yX5_taken yX5_taken, Cond.code yX5_taken cX5_taken 4 (some .int), Cond.methodLink RX5 47 yX5_its, Cond.instanceMethod yX5_its, Cond.selects RX5 yX5_its yX5_its, Cond.code yX5_its cX5_its 3 (some .int), Cond.methodLink RX5 80 yX5_tries, Cond.instanceMethod yX5_tries, Cond.selects RX5 yX5_tries yX5_tries, Cond.code yX5_tries cX5_tries 2 none, Cond.methodLink RX5 84 yX5_passes, Cond.instanceMethod yX5_passes, Cond.selects RX5 yX5_passes yX5_passes, Cond.code yX5_passes cX5_passes 2 (some .boolean), Cond.methodLink RX5 56 yX5_lay, Cond.instanceMethod yX5_lay, Cond.selects RX5 yX5_lay yX5_lay, Cond.code yX5_lay cX5_lay 4 none, Cond.methodLink RX5 63 yX5_note, Cond.instanceMethod yX5_note, Cond.selects RX5 yX5_note yX5_note, Cond.code yX5_note cX5_note 4 none, Cond.methodLink RX5 43 yX5_record]
def wsX5_pass_r3 : List Cond := [Cond.instanceMethod yX5_record, Cond.selects RX5 yX5_record yX5_record, Cond.code yX5_record cX5_record 3 (some .int), Cond.fieldLink RX5 36 "LandingFinesModel" "states" "I", Cond.fieldLink RX5 13 "LandingFinesModel" "past" "[I"]
def wsX5_pass : List Cond := .code yX5_pass cX5_pass 2 (some .int) :: ((wsX5_pass_r1 ++ (wsX5_pass_r2 ++ wsX5_pass_r3)) ++ wsX50)
def wsX5_of : List Cond := .code yX5_of cX5_of 3 (some .int) :: ([.methodLink RX5 88 yX5_isLanding, .instanceMethod yX5_isLanding, .selects RX5 yX5_isLanding yX5_isLanding, .initialized RX5, .code yX5_isLanding cX5_isLanding 2 (some .boolean), .fieldLink RX5 7 "LandingFinesModel" "row" "[I", .methodLink RX5 32 yX5_in, .static yX5_in, .code yX5_in cX5_in 4 (some .boolean), .methodLink RX5 47 yX5_its, .instanceMethod yX5_its, .selects RX5 yX5_its yX5_its, .code yX5_its cX5_its 3 (some .int)] ++ wsX50)
def wsX5_mask : List Cond := .code yX5_mask cX5_mask 4 (some .int) :: ([.fieldLink RX5 7 "LandingFinesModel" "row" "[I", .methodLink RX5 47 yX5_its, .instanceMethod yX5_its, .selects RX5 yX5_its yX5_its, .initialized RX5, .code yX5_its cX5_its 3 (some .int)] ++ wsX50)
def wsX5_count : List Cond := .code yX5_count cX5_count 2 (some .int) :: ([.fieldLink RX5 7 "LandingFinesModel" "row" "[I", .fieldLink RX5 114 "LandingFinesModel" "length" "I", .fieldLink RX5 36 "LandingFinesModel" "states" "I", .methodLink RX5 32 yX5_in, .static yX5_in, .initialized RX5, .code yX5_in cX5_in 4 (some .boolean), .methodLink RX5 111 yX5_mask, .instanceMethod yX5_mask, .selects RX5 yX5_mask yX5_mask, .code yX5_mask cX5_mask 4 (some .int), .methodLink RX5 47 yX5_its, .instanceMethod yX5_its, .selects RX5 yX5_its yX5_its, .code yX5_its cX5_its 3 (some .int), .methodLink RX5 52 yX5_taken, .instanceMethod yX5_taken, .selects RX5 yX5_taken yX5_taken, .code yX5_taken cX5_taken 4 (some .int)] ++ wsX50)
def wsX5_rank : List Cond := .code yX5_rank cX5_rank 5 (some .int) :: ([.fieldLink RX5 7 "LandingFinesModel" "row" "[I", .methodLink RX5 47 yX5_its, .instanceMethod yX5_its, .selects RX5 yX5_its yX5_its, .initialized RX5, .code yX5_its cX5_its 3 (some .int)] ++ wsX50)
def wsX5_choice : List Cond := .code yX5_choice cX5_choice 3 (some .int) :: ([.fieldLink RX5 7 "LandingFinesModel" "row" "[I", .methodLink RX5 47 yX5_its, .instanceMethod yX5_its, .selects RX5 yX5_its yX5_its, .initialized RX5, .code yX5_its cX5_its 3 (some .int), .methodLink RX5 117 yX5_rank, .instanceMethod yX5_rank, .selects RX5 yX5_rank yX5_rank, .code yX5_rank cX5_rank 5 (some .int)] ++ wsX50)
def wsX5_log : List Cond := .code yX5_log cX5_log 3 (some .int) :: ([.fieldLink RX5 7 "LandingFinesModel" "row" "[I", .methodLink RX5 32 yX5_in, .static yX5_in, .initialized RX5, .code yX5_in cX5_in 4 (some .boolean)] ++ wsX50)
def wsX5_why : List Cond := .code yX5_why cX5_why 2 (some .int) :: ([.methodLink RX5 88 yX5_isLanding, .instanceMethod yX5_isLanding, .selects RX5 yX5_isLanding yX5_isLanding, .initialized RX5, .code yX5_isLanding cX5_isLanding 2 (some .boolean), .fieldLink RX5 7 "LandingFinesModel" "row" "[I", .methodLink RX5 32 yX5_in, .static yX5_in, .code yX5_in cX5_in 4 (some .boolean), .methodLink RX5 47 yX5_its, .instanceMethod yX5_its, .selects RX5 yX5_its yX5_its, .code yX5_its cX5_its 3 (some .int), .methodLink RX5 52 yX5_taken, .instanceMethod yX5_taken, .selects RX5 yX5_taken yX5_taken, .code yX5_taken cX5_taken 4 (some .int)] ++ wsX50)
def wsX5_welcomeIn_r1 : List Cond := [Cond.fieldLink RX5 73 "LandingFinesModel" "isShunned" "Z", Cond.methodLink RX5 88 yX5_isLanding, Cond.instanceMethod yX5_isLanding, Cond.selects RX5 yX5_isLanding yX5_isLanding, Cond.initialized RX5, Cond.code yX5_isLanding cX5_isLanding 2 (some .boolean), Cond.fieldLink RX5 7 "LandingFinesModel" "row" "[I", Cond.methodLink RX5 32 yX5_in, Cond.static yX5_in, Cond.code yX5_in cX5_in 4 (some .boolean), Cond.methodLink RX5 80 yX5_tries, Cond.instanceMethod yX5_tries, Cond.selects RX5 yX5_tries yX5_tries, Cond.code yX5_tries cX5_tries 2 none, Cond.fieldLink RX5 70 "LandingFinesModel" "fine" "I", Cond.fieldLink RX5 67 "LandingFinesModel" "since" "I", Cond.fieldLink RX5 77 "LandingFinesModel" "shunnedFor" "I", Cond.methodLink RX5 47 yX5_its, Cond.instanceMethod yX5_its, Cond.selects RX5 yX5_its yX5_its, Cond.code yX5_its cX5_its 3 (some .int), Cond.methodLink RX5 84 yX5_passes, Cond.instanceMethod yX5_passes, Cond.selects RX5 yX5_passes yX5_passes]
def wsX5_welcomeIn_r2 : List Cond := [Cond.code yX5_passes cX5_passes 2 (some .boolean)]
def wsX5_welcomeIn : List Cond := .code yX5_welcomeIn cX5_welcomeIn 4 (some .int) :: ((wsX5_welcomeIn_r1 ++ wsX5_welcomeIn_r2) ++ wsX50)
def wsX5_mayChange : List Cond := .code yX5_mayChange cX5_mayChange 5 (some .int) :: ([.fieldLink RX5 7 "LandingFinesModel" "row" "[I", .methodLink RX5 88 yX5_isLanding, .instanceMethod yX5_isLanding, .selects RX5 yX5_isLanding yX5_isLanding, .initialized RX5, .code yX5_isLanding cX5_isLanding 2 (some .boolean), .methodLink RX5 32 yX5_in, .static yX5_in, .code yX5_in cX5_in 4 (some .boolean), .methodLink RX5 47 yX5_its, .instanceMethod yX5_its, .selects RX5 yX5_its yX5_its, .code yX5_its cX5_its 3 (some .int), .methodLink RX5 60 yX5_held, .static yX5_held, .code yX5_held cX5_held 1 (some .int), .constant RX5 51 (99999)] ++ wsX50)
def wsX5_fineIn_r1 : List Cond := [Cond.fieldLink RX5 70 "LandingFinesModel" "fine" "I", Cond.methodLink RX5 88 yX5_isLanding, Cond.instanceMethod yX5_isLanding, Cond.selects RX5 yX5_isLanding yX5_isLanding, Cond.initialized RX5, Cond.code yX5_isLanding cX5_isLanding 2 (some .boolean), Cond.fieldLink RX5 7 "LandingFinesModel" "row" "[I", Cond.methodLink RX5 32 yX5_in, Cond.static yX5_in, Cond.code yX5_in cX5_in 4 (some .boolean), Cond.methodLink RX5 80 yX5_tries, Cond.instanceMethod yX5_tries, Cond.selects RX5 yX5_tries yX5_tries, Cond.code yX5_tries cX5_tries 2 none, Cond.fieldLink RX5 67 "LandingFinesModel" "since" "I", Cond.fieldLink RX5 73 "LandingFinesModel" "isShunned" "Z", Cond.fieldLink RX5 77 "LandingFinesModel" "shunnedFor" "I", Cond.methodLink RX5 47 yX5_its, Cond.instanceMethod yX5_its, Cond.selects RX5 yX5_its yX5_its, Cond.code yX5_its cX5_its 3 (some .int), Cond.methodLink RX5 84 yX5_passes, Cond.instanceMethod yX5_passes, Cond.selects RX5 yX5_passes yX5_passes]
def wsX5_fineIn_r2 : List Cond := [Cond.code yX5_passes cX5_passes 2 (some .boolean)]
def wsX5_fineIn : List Cond := .code yX5_fineIn cX5_fineIn 5 (some .int) :: ((wsX5_fineIn_r1 ++ wsX5_fineIn_r2) ++ wsX50)
def wsX5_isSteady : List Cond := .code yX5_isSteady cX5_isSteady 5 (some .boolean) :: ([.fieldLink RX5 70 "LandingFinesModel" "fine" "I", .fieldLink RX5 67 "LandingFinesModel" "since" "I", .fieldLink RX5 73 "LandingFinesModel" "isShunned" "Z", .fieldLink RX5 7 "LandingFinesModel" "row" "[I", .methodLink RX5 60 yX5_held, .static yX5_held, .initialized RX5, .code yX5_held cX5_held 1 (some .int), .constant RX5 51 (99999), .methodLink RX5 84 yX5_passes, .instanceMethod yX5_passes, .selects RX5 yX5_passes yX5_passes, .code yX5_passes cX5_passes 2 (some .boolean), .fieldLink RX5 77 "LandingFinesModel" "shunnedFor" "I"] ++ wsX50)
def wsX5_steady : List Cond := .code yX5_steady cX5_steady 2 (some .int) :: ([.methodLink RX5 120 yX5_isSteady, .instanceMethod yX5_isSteady, .selects RX5 yX5_isSteady yX5_isSteady, .initialized RX5, .code yX5_isSteady cX5_isSteady 5 (some .boolean), .fieldLink RX5 70 "LandingFinesModel" "fine" "I", .fieldLink RX5 67 "LandingFinesModel" "since" "I", .fieldLink RX5 73 "LandingFinesModel" "isShunned" "Z", .fieldLink RX5 7 "LandingFinesModel" "row" "[I", .methodLink RX5 60 yX5_held, .static yX5_held, .code yX5_held cX5_held 1 (some .int), .constant RX5 51 (99999), .methodLink RX5 84 yX5_passes, .instanceMethod yX5_passes, .selects RX5 yX5_passes yX5_passes, .code yX5_passes cX5_passes 2 (some .boolean), .fieldLink RX5 77 "LandingFinesModel" "shunnedFor" "I"] ++ wsX50)
def wsX5_put : List Cond := .code yX5_put cX5_put 7 (some .int) :: ([.fieldLink RX5 29 "LandingFinesModel" "codes" "[I", .constantLong RX5 123 (255), .fieldLink RX5 114 "LandingFinesModel" "length" "I", .fieldLink RX5 26 "LandingFinesModel" "pad" "[I", .methodLink RX5 32 yX5_in, .static yX5_in, .initialized RX5, .code yX5_in cX5_in 4 (some .boolean)] ++ wsX50)
def wsX5_wipe : List Cond := .code yX5_wipe cX5_wipe 2 (some .int) :: ([.fieldLink RX5 114 "LandingFinesModel" "length" "I"] ++ wsX50)
def wsX5_sees : List Cond := .code yX5_sees cX5_sees 3 (some .boolean) :: ([.fieldLink RX5 125 "LandingFinesModel" "at" "I", .fieldLink RX5 114 "LandingFinesModel" "length" "I", .fieldLink RX5 26 "LandingFinesModel" "pad" "[I", .methodLink RX5 32 yX5_in, .static yX5_in, .initialized RX5, .code yX5_in cX5_in 4 (some .boolean)] ++ wsX50)
def wsX5_number : List Cond := .code yX5_number cX5_number 2 (some .int) :: ([.fieldLink RX5 26 "LandingFinesModel" "pad" "[I", .fieldLink RX5 125 "LandingFinesModel" "at" "I", .methodLink RX5 128 yX5_sees, .instanceMethod yX5_sees, .selects RX5 yX5_sees yX5_sees, .initialized RX5, .code yX5_sees cX5_sees 3 (some .boolean), .fieldLink RX5 114 "LandingFinesModel" "length" "I", .methodLink RX5 32 yX5_in, .static yX5_in, .code yX5_in cX5_in 4 (some .boolean)] ++ wsX50)
def wsX5_digit : List Cond := .code yX5_digit cX5_digit 1 (some .int) :: ([.fieldLink RX5 125 "LandingFinesModel" "at" "I", .fieldLink RX5 26 "LandingFinesModel" "pad" "[I"] ++ wsX50)
def wsX5_order_r1 : List Cond := [Cond.fieldLink RX5 125 "LandingFinesModel" "at" "I", Cond.fieldLink RX5 114 "LandingFinesModel" "length" "I", Cond.fieldLink RX5 26 "LandingFinesModel" "pad" "[I", Cond.methodLink RX5 128 yX5_sees, Cond.instanceMethod yX5_sees, Cond.selects RX5 yX5_sees yX5_sees, Cond.initialized RX5, Cond.code yX5_sees cX5_sees 3 (some .boolean), Cond.methodLink RX5 32 yX5_in, Cond.static yX5_in, Cond.code yX5_in cX5_in 4 (some .boolean), Cond.methodLink RX5 132 yX5_number, Cond.instanceMethod yX5_number, Cond.selects RX5 yX5_number yX5_number, Cond.code yX5_number cX5_number 2 (some .int), Cond.methodLink RX5 135 yX5_digit, Cond.instanceMethod yX5_digit, Cond.selects RX5 yX5_digit yX5_digit, Cond.code yX5_digit cX5_digit 1 (some .int), Cond.methodLink RX5 99 yX5_comes, Cond.instanceMethod yX5_comes, Cond.selects RX5 yX5_comes yX5_comes, Cond.code yX5_comes cX5_comes 5 (some .int), Cond.fieldLink RX5 7 "LandingFinesModel" "row" "[I"]
def wsX5_order_r2 : List Cond := [Cond.methodLink RX5 52 yX5_taken, Cond.instanceMethod yX5_taken, Cond.selects RX5 yX5_taken yX5_taken, Cond.code yX5_taken cX5_taken 4 (some .int), Cond.methodLink RX5 47 yX5_its, Cond.instanceMethod yX5_its, Cond.selects RX5 yX5_its yX5_its, Cond.code yX5_its cX5_its 3 (some .int), Cond.methodLink RX5 56 yX5_lay, Cond.instanceMethod yX5_lay, Cond.selects RX5 yX5_lay yX5_lay, Cond.code yX5_lay cX5_lay 4 none, Cond.methodLink RX5 102 yX5_turns, Cond.instanceMethod yX5_turns, Cond.selects RX5 yX5_turns yX5_turns, Cond.code yX5_turns cX5_turns 3 (some .int), Cond.methodLink RX5 88 yX5_isLanding, Cond.instanceMethod yX5_isLanding, Cond.selects RX5 yX5_isLanding yX5_isLanding, Cond.code yX5_isLanding cX5_isLanding 2 (some .boolean), Cond.methodLink RX5 92 yX5_change, Cond.instanceMethod yX5_change, Cond.selects RX5 yX5_change yX5_change, Cond.code yX5_change cX5_change 6 (some .int)]
def wsX5_order_r3 : List Cond := [Cond.methodLink RX5 60 yX5_held, Cond.static yX5_held, Cond.code yX5_held cX5_held 1 (some .int), Cond.constant RX5 51 (99999), Cond.methodLink RX5 63 yX5_note, Cond.instanceMethod yX5_note, Cond.selects RX5 yX5_note yX5_note, Cond.code yX5_note cX5_note 4 none, Cond.methodLink RX5 105 yX5_costs, Cond.instanceMethod yX5_costs, Cond.selects RX5 yX5_costs yX5_costs, Cond.code yX5_costs cX5_costs 3 (some .int), Cond.methodLink RX5 108 yX5_waits, Cond.instanceMethod yX5_waits, Cond.selects RX5 yX5_waits yX5_waits, Cond.code yX5_waits cX5_waits 4 (some .int), Cond.methodLink RX5 96 yX5_minute, Cond.instanceMethod yX5_minute, Cond.selects RX5 yX5_minute yX5_minute, Cond.code yX5_minute cX5_minute 5 (some .int), Cond.fieldLink RX5 70 "LandingFinesModel" "fine" "I", Cond.fieldLink RX5 67 "LandingFinesModel" "since" "I", Cond.fieldLink RX5 73 "LandingFinesModel" "isShunned" "Z", Cond.fieldLink RX5 77 "LandingFinesModel" "shunnedFor" "I"]
def wsX5_order_r4 : List Cond := [Cond.methodLink RX5 80 yX5_tries, Cond.instanceMethod yX5_tries, Cond.selects RX5 yX5_tries yX5_tries, Cond.code yX5_tries cX5_tries 2 none, Cond.methodLink RX5 84 yX5_passes, Cond.instanceMethod yX5_passes, Cond.selects RX5 yX5_passes yX5_passes, Cond.code yX5_passes cX5_passes 2 (some .boolean)]
def wsX5_order : List Cond := .code yX5_order cX5_order 5 (some .int) :: ((wsX5_order_r1 ++ (wsX5_order_r2 ++ (wsX5_order_r3 ++ wsX5_order_r4))) ++ wsX50)
def wsX5_isWell_r1 : List Cond := [Cond.fieldLink RX5 125 "LandingFinesModel" "at" "I", Cond.fieldLink RX5 114 "LandingFinesModel" "length" "I", Cond.methodLink RX5 138 yX5_order, Cond.instanceMethod yX5_order, Cond.selects RX5 yX5_order yX5_order, Cond.initialized RX5, Cond.code yX5_order cX5_order 5 (some .int), Cond.fieldLink RX5 26 "LandingFinesModel" "pad" "[I", Cond.methodLink RX5 128 yX5_sees, Cond.instanceMethod yX5_sees, Cond.selects RX5 yX5_sees yX5_sees, Cond.code yX5_sees cX5_sees 3 (some .boolean), Cond.methodLink RX5 32 yX5_in, Cond.static yX5_in, Cond.code yX5_in cX5_in 4 (some .boolean), Cond.methodLink RX5 132 yX5_number, Cond.instanceMethod yX5_number, Cond.selects RX5 yX5_number yX5_number, Cond.code yX5_number cX5_number 2 (some .int), Cond.methodLink RX5 135 yX5_digit, Cond.instanceMethod yX5_digit, Cond.selects RX5 yX5_digit yX5_digit, Cond.code yX5_digit cX5_digit 1 (some .int), Cond.methodLink RX5 99 yX5_comes]
def wsX5_isWell_r2 : List Cond := [Cond.instanceMethod yX5_comes, Cond.selects RX5 yX5_comes yX5_comes, Cond.code yX5_comes cX5_comes 5 (some .int), Cond.fieldLink RX5 7 "LandingFinesModel" "row" "[I", Cond.methodLink RX5 52 yX5_taken, Cond.instanceMethod yX5_taken, Cond.selects RX5 yX5_taken yX5_taken, Cond.code yX5_taken cX5_taken 4 (some .int), Cond.methodLink RX5 47 yX5_its, Cond.instanceMethod yX5_its, Cond.selects RX5 yX5_its yX5_its, Cond.code yX5_its cX5_its 3 (some .int), Cond.methodLink RX5 56 yX5_lay, Cond.instanceMethod yX5_lay, Cond.selects RX5 yX5_lay yX5_lay, Cond.code yX5_lay cX5_lay 4 none, Cond.methodLink RX5 102 yX5_turns, Cond.instanceMethod yX5_turns, Cond.selects RX5 yX5_turns yX5_turns, Cond.code yX5_turns cX5_turns 3 (some .int), Cond.methodLink RX5 88 yX5_isLanding, Cond.instanceMethod yX5_isLanding, Cond.selects RX5 yX5_isLanding yX5_isLanding, Cond.code yX5_isLanding cX5_isLanding 2 (some .boolean)]
def wsX5_isWell_r3 : List Cond := [Cond.methodLink RX5 92 yX5_change, Cond.instanceMethod yX5_change, Cond.selects RX5 yX5_change yX5_change, Cond.code yX5_change cX5_change 6 (some .int), Cond.methodLink RX5 60 yX5_held, Cond.static yX5_held, Cond.code yX5_held cX5_held 1 (some .int), Cond.constant RX5 51 (99999), Cond.methodLink RX5 63 yX5_note, Cond.instanceMethod yX5_note, Cond.selects RX5 yX5_note yX5_note, Cond.code yX5_note cX5_note 4 none, Cond.methodLink RX5 105 yX5_costs, Cond.instanceMethod yX5_costs, Cond.selects RX5 yX5_costs yX5_costs, Cond.code yX5_costs cX5_costs 3 (some .int), Cond.methodLink RX5 108 yX5_waits, Cond.instanceMethod yX5_waits, Cond.selects RX5 yX5_waits yX5_waits, Cond.code yX5_waits cX5_waits 4 (some .int), Cond.methodLink RX5 96 yX5_minute, Cond.instanceMethod yX5_minute, Cond.selects RX5 yX5_minute yX5_minute, Cond.code yX5_minute cX5_minute 5 (some .int)]
def wsX5_isWell_r4 : List Cond := [Cond.fieldLink RX5 70 "LandingFinesModel" "fine" "I", Cond.fieldLink RX5 67 "LandingFinesModel" "since" "I", Cond.fieldLink RX5 73 "LandingFinesModel" "isShunned" "Z", Cond.fieldLink RX5 77 "LandingFinesModel" "shunnedFor" "I", Cond.methodLink RX5 80 yX5_tries, Cond.instanceMethod yX5_tries, Cond.selects RX5 yX5_tries yX5_tries, Cond.code yX5_tries cX5_tries 2 none, Cond.methodLink RX5 84 yX5_passes, Cond.instanceMethod yX5_passes, Cond.selects RX5 yX5_passes yX5_passes, Cond.code yX5_passes cX5_passes 2 (some .boolean)]
def wsX5_isWell : List Cond := .code yX5_isWell cX5_isWell 2 (some .boolean) :: ((wsX5_isWell_r1 ++ (wsX5_isWell_r2 ++ (wsX5_isWell_r3 ++ wsX5_isWell_r4))) ++ wsX50)
def wsX5_fault_r1 : List Cond := [Cond.fieldLink RX5 125 "LandingFinesModel" "at" "I", Cond.methodLink RX5 142 yX5_isWell, Cond.instanceMethod yX5_isWell, Cond.selects RX5 yX5_isWell yX5_isWell, Cond.initialized RX5, Cond.code yX5_isWell cX5_isWell 2 (some .boolean), Cond.fieldLink RX5 114 "LandingFinesModel" "length" "I", Cond.methodLink RX5 138 yX5_order, Cond.instanceMethod yX5_order, Cond.selects RX5 yX5_order yX5_order, Cond.code yX5_order cX5_order 5 (some .int), Cond.fieldLink RX5 26 "LandingFinesModel" "pad" "[I", Cond.methodLink RX5 128 yX5_sees, Cond.instanceMethod yX5_sees, Cond.selects RX5 yX5_sees yX5_sees, Cond.code yX5_sees cX5_sees 3 (some .boolean), Cond.methodLink RX5 32 yX5_in, Cond.static yX5_in, Cond.code yX5_in cX5_in 4 (some .boolean), Cond.methodLink RX5 132 yX5_number, Cond.instanceMethod yX5_number, Cond.selects RX5 yX5_number yX5_number, Cond.code yX5_number cX5_number 2 (some .int), Cond.methodLink RX5 135 yX5_digit]
def wsX5_fault_r2 : List Cond := [Cond.instanceMethod yX5_digit, Cond.selects RX5 yX5_digit yX5_digit, Cond.code yX5_digit cX5_digit 1 (some .int), Cond.methodLink RX5 99 yX5_comes, Cond.instanceMethod yX5_comes, Cond.selects RX5 yX5_comes yX5_comes, Cond.code yX5_comes cX5_comes 5 (some .int), Cond.fieldLink RX5 7 "LandingFinesModel" "row" "[I", Cond.methodLink RX5 52 yX5_taken, Cond.instanceMethod yX5_taken, Cond.selects RX5 yX5_taken yX5_taken, Cond.code yX5_taken cX5_taken 4 (some .int), Cond.methodLink RX5 47 yX5_its, Cond.instanceMethod yX5_its, Cond.selects RX5 yX5_its yX5_its, Cond.code yX5_its cX5_its 3 (some .int), Cond.methodLink RX5 56 yX5_lay, Cond.instanceMethod yX5_lay, Cond.selects RX5 yX5_lay yX5_lay, Cond.code yX5_lay cX5_lay 4 none, Cond.methodLink RX5 102 yX5_turns, Cond.instanceMethod yX5_turns, Cond.selects RX5 yX5_turns yX5_turns, Cond.code yX5_turns cX5_turns 3 (some .int)]
def wsX5_fault_r3 : List Cond := [Cond.methodLink RX5 88 yX5_isLanding, Cond.instanceMethod yX5_isLanding, Cond.selects RX5 yX5_isLanding yX5_isLanding, Cond.code yX5_isLanding cX5_isLanding 2 (some .boolean), Cond.methodLink RX5 92 yX5_change, Cond.instanceMethod yX5_change, Cond.selects RX5 yX5_change yX5_change, Cond.code yX5_change cX5_change 6 (some .int), Cond.methodLink RX5 60 yX5_held, Cond.static yX5_held, Cond.code yX5_held cX5_held 1 (some .int), Cond.constant RX5 51 (99999), Cond.methodLink RX5 63 yX5_note, Cond.instanceMethod yX5_note, Cond.selects RX5 yX5_note yX5_note, Cond.code yX5_note cX5_note 4 none, Cond.methodLink RX5 105 yX5_costs, Cond.instanceMethod yX5_costs, Cond.selects RX5 yX5_costs yX5_costs, Cond.code yX5_costs cX5_costs 3 (some .int), Cond.methodLink RX5 108 yX5_waits, Cond.instanceMethod yX5_waits, Cond.selects RX5 yX5_waits yX5_waits, Cond.code yX5_waits cX5_waits 4 (some .int)]
def wsX5_fault_r4 : List Cond := [Cond.methodLink RX5 96 yX5_minute, Cond.instanceMethod yX5_minute, Cond.selects RX5 yX5_minute yX5_minute, Cond.code yX5_minute cX5_minute 5 (some .int), Cond.fieldLink RX5 70 "LandingFinesModel" "fine" "I", Cond.fieldLink RX5 67 "LandingFinesModel" "since" "I", Cond.fieldLink RX5 73 "LandingFinesModel" "isShunned" "Z", Cond.fieldLink RX5 77 "LandingFinesModel" "shunnedFor" "I", Cond.methodLink RX5 80 yX5_tries, Cond.instanceMethod yX5_tries, Cond.selects RX5 yX5_tries yX5_tries, Cond.code yX5_tries cX5_tries 2 none, Cond.methodLink RX5 84 yX5_passes, Cond.instanceMethod yX5_passes, Cond.selects RX5 yX5_passes yX5_passes, Cond.code yX5_passes cX5_passes 2 (some .boolean)]
def wsX5_fault : List Cond := .code yX5_fault cX5_fault 1 (some .int) :: ((wsX5_fault_r1 ++ (wsX5_fault_r2 ++ (wsX5_fault_r3 ++ wsX5_fault_r4))) ++ wsX50)
def wsX5_carryOut_r1 : List Cond := [Cond.fieldLink RX5 125 "LandingFinesModel" "at" "I", Cond.fieldLink RX5 114 "LandingFinesModel" "length" "I", Cond.methodLink RX5 142 yX5_isWell, Cond.instanceMethod yX5_isWell, Cond.selects RX5 yX5_isWell yX5_isWell, Cond.initialized RX5, Cond.code yX5_isWell cX5_isWell 2 (some .boolean), Cond.methodLink RX5 138 yX5_order, Cond.instanceMethod yX5_order, Cond.selects RX5 yX5_order yX5_order, Cond.code yX5_order cX5_order 5 (some .int), Cond.fieldLink RX5 26 "LandingFinesModel" "pad" "[I", Cond.methodLink RX5 128 yX5_sees, Cond.instanceMethod yX5_sees, Cond.selects RX5 yX5_sees yX5_sees, Cond.code yX5_sees cX5_sees 3 (some .boolean), Cond.methodLink RX5 32 yX5_in, Cond.static yX5_in, Cond.code yX5_in cX5_in 4 (some .boolean), Cond.methodLink RX5 132 yX5_number, Cond.instanceMethod yX5_number, Cond.selects RX5 yX5_number yX5_number, Cond.code yX5_number cX5_number 2 (some .int), Cond.methodLink RX5 135 yX5_digit]
def wsX5_carryOut_r2 : List Cond := [Cond.instanceMethod yX5_digit, Cond.selects RX5 yX5_digit yX5_digit, Cond.code yX5_digit cX5_digit 1 (some .int), Cond.methodLink RX5 99 yX5_comes, Cond.instanceMethod yX5_comes, Cond.selects RX5 yX5_comes yX5_comes, Cond.code yX5_comes cX5_comes 5 (some .int), Cond.fieldLink RX5 7 "LandingFinesModel" "row" "[I", Cond.methodLink RX5 52 yX5_taken, Cond.instanceMethod yX5_taken, Cond.selects RX5 yX5_taken yX5_taken, Cond.code yX5_taken cX5_taken 4 (some .int), Cond.methodLink RX5 47 yX5_its, Cond.instanceMethod yX5_its, Cond.selects RX5 yX5_its yX5_its, Cond.code yX5_its cX5_its 3 (some .int), Cond.methodLink RX5 56 yX5_lay, Cond.instanceMethod yX5_lay, Cond.selects RX5 yX5_lay yX5_lay, Cond.code yX5_lay cX5_lay 4 none, Cond.methodLink RX5 102 yX5_turns, Cond.instanceMethod yX5_turns, Cond.selects RX5 yX5_turns yX5_turns, Cond.code yX5_turns cX5_turns 3 (some .int)]
def wsX5_carryOut_r3 : List Cond := [Cond.methodLink RX5 88 yX5_isLanding, Cond.instanceMethod yX5_isLanding, Cond.selects RX5 yX5_isLanding yX5_isLanding, Cond.code yX5_isLanding cX5_isLanding 2 (some .boolean), Cond.methodLink RX5 92 yX5_change, Cond.instanceMethod yX5_change, Cond.selects RX5 yX5_change yX5_change, Cond.code yX5_change cX5_change 6 (some .int), Cond.methodLink RX5 60 yX5_held, Cond.static yX5_held, Cond.code yX5_held cX5_held 1 (some .int), Cond.constant RX5 51 (99999), Cond.methodLink RX5 63 yX5_note, Cond.instanceMethod yX5_note, Cond.selects RX5 yX5_note yX5_note, Cond.code yX5_note cX5_note 4 none, Cond.methodLink RX5 105 yX5_costs, Cond.instanceMethod yX5_costs, Cond.selects RX5 yX5_costs yX5_costs, Cond.code yX5_costs cX5_costs 3 (some .int), Cond.methodLink RX5 108 yX5_waits, Cond.instanceMethod yX5_waits, Cond.selects RX5 yX5_waits yX5_waits, Cond.code yX5_waits cX5_waits 4 (some .int)]
def wsX5_carryOut_r4 : List Cond := [Cond.methodLink RX5 96 yX5_minute, Cond.instanceMethod yX5_minute, Cond.selects RX5 yX5_minute yX5_minute, Cond.code yX5_minute cX5_minute 5 (some .int), Cond.fieldLink RX5 70 "LandingFinesModel" "fine" "I", Cond.fieldLink RX5 67 "LandingFinesModel" "since" "I", Cond.fieldLink RX5 73 "LandingFinesModel" "isShunned" "Z", Cond.fieldLink RX5 77 "LandingFinesModel" "shunnedFor" "I", Cond.methodLink RX5 80 yX5_tries, Cond.instanceMethod yX5_tries, Cond.selects RX5 yX5_tries yX5_tries, Cond.code yX5_tries cX5_tries 2 none, Cond.methodLink RX5 84 yX5_passes, Cond.instanceMethod yX5_passes, Cond.selects RX5 yX5_passes yX5_passes, Cond.code yX5_passes cX5_passes 2 (some .boolean), Cond.methodLink RX5 40 yX5_remember, Cond.instanceMethod yX5_remember, Cond.selects RX5 yX5_remember yX5_remember, Cond.code yX5_remember cX5_remember 2 none, Cond.fieldLink RX5 16 "LandingFinesModel" "before" "[I", Cond.methodLink RX5 43 yX5_record, Cond.instanceMethod yX5_record, Cond.selects RX5 yX5_record yX5_record]
def wsX5_carryOut_r5 : List Cond := [Cond.code yX5_record cX5_record 3 (some .int), Cond.fieldLink RX5 36 "LandingFinesModel" "states" "I", Cond.fieldLink RX5 13 "LandingFinesModel" "past" "[I"]
def wsX5_carryOut : List Cond := .code yX5_carryOut cX5_carryOut 3 (some .int) :: ((wsX5_carryOut_r1 ++ (wsX5_carryOut_r2 ++ (wsX5_carryOut_r3 ++ (wsX5_carryOut_r4 ++ wsX5_carryOut_r5)))) ++ wsX50)
def wsJ9_max_7cf53 : List Cond := .code yJ9_max_7cf53 cJ9_max_7cf53 2 (some .int) :: ([])
def wsJ9_min_7cf53 : List Cond := .code yJ9_min_7cf53 cJ9_min_7cf53 2 (some .int) :: ([])
def wsL_law_r1 : List Cond := [Cond.classLink RL 7 RX4, Cond.instantiable RX4 7, Cond.initialized RX4, Cond.classLink RL 10 RX5, Cond.instantiable RX5 14, Cond.initialized RX5, Cond.constantLong RL 76 (4294967295), Cond.methodLink RL 9 yX4_init, Cond.instanceMethod yX4_init, Cond.code yX4_init cX4_init 2 none, Cond.methodLink RX4 1 objectInit, Cond.instanceMethod objectInit, Cond.code objectInit ⟨#[0xb1]⟩ 1 none, Cond.classLink RX4 7 RX3, Cond.instantiable RX3 7, Cond.initialized RX3, Cond.fieldLink RX4 10 "LandingFines" "river" "LLandingFines$River;", Cond.fieldLink RX4 16 "LandingFines" "history" "[LLandingFines$River;", Cond.fieldLink RX4 20 "LandingFines" "historySize" "I", Cond.fieldLink RX4 24 "LandingFines" "slots" "[LLandingFines$River;", Cond.arrayClass .boolean, Cond.fieldLink RX4 27 "LandingFines" "slotUsed" "[Z", Cond.classLink RX4 31 RX2, Cond.instantiable RX2 6]
def wsL_law_r2 : List Cond := [Cond.initialized RX2, Cond.fieldLink RX4 34 "LandingFines" "pad" "LLandingFines$Pad;", Cond.classLink RX4 38 RX1, Cond.instantiable RX1 8, Cond.initialized RX1, Cond.fieldLink RX4 41 "LandingFines" "trial" "LLandingFines$Landing;", Cond.methodLink RX4 9 yX3_init, Cond.instanceMethod yX3_init, Cond.code yX3_init cX3_init 2 none, Cond.methodLink RX3 3 objectInit, Cond.methodLink RX3 13 ⟨"[I", "clone", "()Ljava/lang/Object;"⟩, Cond.sameMethod "[I" "java/lang/Object" "clone" "()Ljava/lang/Object;", Cond.native ⟨"java/lang/Object", "clone", "()Ljava/lang/Object;"⟩, Cond.instanceMethod ⟨"java/lang/Object", "clone", "()Ljava/lang/Object;"⟩, Cond.selects "[I" ⟨"[I", "clone", "()Ljava/lang/Object;"⟩ ⟨"java/lang/Object", "clone", "()Ljava/lang/Object;"⟩, Cond.classLink RX3 14 "[I", Cond.fieldLink RX3 18 "LandingFines$River" "settings" "[I", Cond.classLink RX3 23 RX1, Cond.fieldLink RX3 25 "LandingFines$River" "landings" "[LLandingFines$Landing;", Cond.fieldLink RX3 29 "LandingFines$River" "landingCount" "I", Cond.fieldLink RX3 33 "LandingFines$River" "minutesSoFar" "I", Cond.fieldLink RX3 36 "LandingFines$River" "taken" "I", Cond.fieldLink RX3 39 "LandingFines$River" "switches" "I", Cond.classLink RX3 42 RX0]
def wsL_law_r3 : List Cond := [Cond.instantiable RX0 5, Cond.initialized RX0, Cond.fieldLink RX3 45 "LandingFines$River" "journal" "LLandingFines$Journal;", Cond.instanceMethod yX0_init, Cond.code yX0_init cX0_init 1 none, Cond.methodLink RX0 3 objectInit, Cond.arrayClass .int, Cond.fieldLink RX0 9 "LandingFines$Journal" "sorts" "[I", Cond.fieldLink RX0 15 "LandingFines$Journal" "places" "[I", Cond.fieldLink RX0 18 "LandingFines$Journal" "minutes" "[I", Cond.fieldLink RX0 21 "LandingFines$Journal" "size" "I", Cond.fieldLink RX0 25 "LandingFines$Journal" "next" "I", Cond.instanceMethod yX1_init, Cond.code yX1_init cX1_init 1 none, Cond.methodLink RX1 3 objectInit, Cond.instanceMethod yX2_init, Cond.code yX2_init cX2_init 1 none, Cond.methodLink RX2 3 objectInit, Cond.arrayClass .char, Cond.fieldLink RX2 9 "LandingFines$Pad" "signs" "[C", Cond.fieldLink RX2 15 "LandingFines$Pad" "length" "I", Cond.fieldLink RX2 19 "LandingFines$Pad" "place" "I", Cond.fieldLink RX2 22 "LandingFines$Pad" "orderSign" "C", Cond.fieldLink RX2 26 "LandingFines$Pad" "orderLanding" "I"]
def wsL_law_r4 : List Cond := [Cond.fieldLink RX2 29 "LandingFines$Pad" "orderNumber" "I", Cond.methodLink RL 12 yX5_init, Cond.instanceMethod yX5_init, Cond.code yX5_init cX5_init 1 none, Cond.methodLink RX5 1 objectInit, Cond.fieldLink RX5 7 "LandingFinesModel" "row" "[I", Cond.fieldLink RX5 13 "LandingFinesModel" "past" "[I", Cond.fieldLink RX5 16 "LandingFinesModel" "before" "[I", Cond.fieldLink RX5 19 "LandingFinesModel" "slots" "[I", Cond.fieldLink RX5 22 "LandingFinesModel" "isSaved" "[Z", Cond.fieldLink RX5 26 "LandingFinesModel" "pad" "[I", Cond.fieldLink RX5 29 "LandingFinesModel" "codes" "[I", Cond.methodLink RL 13 yX4_set, Cond.instanceMethod yX4_set, Cond.selects RX4 yX4_set yX4_set, Cond.code yX4_set cX4_set 3 (some .int), Cond.methodLink RX4 45 yX4_keepState, Cond.instanceMethod yX4_keepState, Cond.selects RX4 yX4_keepState yX4_keepState, Cond.code yX4_keepState cX4_keepState 1 none, Cond.methodLink RX4 171 yX3_copyFrom, Cond.instanceMethod yX3_copyFrom, Cond.selects RX3 yX3_copyFrom yX3_copyFrom, Cond.code yX3_copyFrom cX3_copyFrom 3 none]
def wsL_law_r5 : List Cond := [Cond.methodLink RX3 50 arraycopyName, Cond.native arraycopyName, Cond.static arraycopyName, Cond.initialized "java/lang/System", Cond.methodLink RX3 56 yX1_copyFrom, Cond.instanceMethod yX1_copyFrom, Cond.selects RX1 yX1_copyFrom yX1_copyFrom, Cond.code yX1_copyFrom cX1_copyFrom 2 none, Cond.fieldLink RX1 9 "LandingFines$Landing" "isOpen" "Z", Cond.fieldLink RX1 15 "LandingFines$Landing" "fare" "I", Cond.fieldLink RX1 19 "LandingFines$Landing" "fine" "I", Cond.fieldLink RX1 22 "LandingFines$Landing" "isShunned" "Z", Cond.fieldLink RX1 25 "LandingFines$Landing" "minutesShunned" "I", Cond.fieldLink RX1 28 "LandingFines$Landing" "minutesSinceHalving" "I", Cond.fieldLink RX1 31 "LandingFines$Landing" "changes" "I", Cond.fieldLink RX1 34 "LandingFines$Landing" "timesShunned" "I", Cond.methodLink RX3 60 yX0_copyFrom, Cond.instanceMethod yX0_copyFrom, Cond.selects RX0 yX0_copyFrom yX0_copyFrom, Cond.code yX0_copyFrom cX0_copyFrom 2 none, Cond.methodLink RX0 34 arraycopyName, Cond.methodLink RX4 48 yX3_changeSetting, Cond.instanceMethod yX3_changeSetting, Cond.selects RX3 yX3_changeSetting yX3_changeSetting]
def wsL_law_r6 : List Cond := [Cond.code yX3_changeSetting cX3_changeSetting 4 (some .int), Cond.methodLink RX4 52 yX4_recordUnlessError, Cond.instanceMethod yX4_recordUnlessError, Cond.selects RX4 yX4_recordUnlessError yX4_recordUnlessError, Cond.code yX4_recordUnlessError cX4_recordUnlessError 2 (some .int), Cond.methodLink RX4 177 yX4_dropOldest, Cond.instanceMethod yX4_dropOldest, Cond.selects RX4 yX4_dropOldest yX4_dropOldest, Cond.code yX4_dropOldest cX4_dropOldest 3 none, Cond.methodLink RL 17 yX5_set, Cond.instanceMethod yX5_set, Cond.selects RX5 yX5_set yX5_set, Cond.code yX5_set cX5_set 6 (some .int), Cond.constant RX5 51 (99999), Cond.methodLink RX5 32 yX5_in, Cond.static yX5_in, Cond.code yX5_in cX5_in 4 (some .boolean), Cond.methodLink RX5 40 yX5_remember, Cond.instanceMethod yX5_remember, Cond.selects RX5 yX5_remember yX5_remember, Cond.code yX5_remember cX5_remember 2 none, Cond.methodLink RX5 43 yX5_record, Cond.instanceMethod yX5_record, Cond.selects RX5 yX5_record yX5_record]
def wsL_law_r7 : List Cond := [Cond.code yX5_record cX5_record 3 (some .int), Cond.fieldLink RX5 36 "LandingFinesModel" "states" "I", Cond.methodLink RL 18 yX4_landing, Cond.instanceMethod yX4_landing, Cond.selects RX4 yX4_landing yX4_landing, Cond.code yX4_landing cX4_landing 2 (some .int), Cond.methodLink RX4 56 yX3_addLanding, Cond.instanceMethod yX3_addLanding, Cond.selects RX3 yX3_addLanding yX3_addLanding, Cond.code yX3_addLanding cX3_addLanding 2 (some .int), Cond.methodLink RX3 69 yX1_arrive, Cond.instanceMethod yX1_arrive, Cond.selects RX1 yX1_arrive yX1_arrive, Cond.code yX1_arrive cX1_arrive 2 none, Cond.methodLink RX3 73 yX3_followTaken, Cond.instanceMethod yX3_followTaken, Cond.selects RX3 yX3_followTaken yX3_followTaken, Cond.code yX3_followTaken cX3_followTaken 3 none, Cond.fieldLink RX3 88 "LandingFines$Landing" "fare" "I", Cond.methodLink RX3 131 yX1_canBeTaken, Cond.instanceMethod yX1_canBeTaken, Cond.selects RX1 yX1_canBeTaken yX1_canBeTaken, Cond.code yX1_canBeTaken cX1_canBeTaken 1 (some .boolean), Cond.methodLink RL 22 yX5_landing]
def wsL_law_r8 : List Cond := [Cond.instanceMethod yX5_landing, Cond.selects RX5 yX5_landing yX5_landing, Cond.code yX5_landing cX5_landing 2 (some .int), Cond.methodLink RX5 99 yX5_comes, Cond.instanceMethod yX5_comes, Cond.selects RX5 yX5_comes yX5_comes, Cond.code yX5_comes cX5_comes 5 (some .int), Cond.methodLink RX5 52 yX5_taken, Cond.instanceMethod yX5_taken, Cond.selects RX5 yX5_taken yX5_taken, Cond.code yX5_taken cX5_taken 4 (some .int), Cond.methodLink RX5 47 yX5_its, Cond.instanceMethod yX5_its, Cond.selects RX5 yX5_its yX5_its, Cond.code yX5_its cX5_its 3 (some .int), Cond.methodLink RX5 56 yX5_lay, Cond.instanceMethod yX5_lay, Cond.selects RX5 yX5_lay yX5_lay, Cond.code yX5_lay cX5_lay 4 none, Cond.methodLink RL 23 yX4_open, Cond.instanceMethod yX4_open, Cond.selects RX4 yX4_open yX4_open, Cond.code yX4_open cX4_open 2 (some .int), Cond.methodLink RX4 59 yX3_openLanding]
def wsL_law_r9 : List Cond := [Cond.instanceMethod yX3_openLanding, Cond.selects RX3 yX3_openLanding yX3_openLanding, Cond.code yX3_openLanding cX3_openLanding 3 (some .int), Cond.fieldLink RX3 80 "LandingFines$Landing" "isOpen" "Z", Cond.methodLink RX3 76 yX3_find, Cond.instanceMethod yX3_find, Cond.selects RX3 yX3_find yX3_find, Cond.code yX3_find cX3_find 2 (some (.object "LandingFines$Landing")), Cond.methodLink RX3 84 yX3_finishChange, Cond.instanceMethod yX3_finishChange, Cond.selects RX3 yX3_finishChange yX3_finishChange, Cond.code yX3_finishChange cX3_finishChange 4 (some .int), Cond.fieldLink RX3 99 "LandingFines$Landing" "fine" "I", Cond.methodLink RX3 91 yX0_add, Cond.instanceMethod yX0_add, Cond.selects RX0 yX0_add yX0_add, Cond.code yX0_add cX0_add 4 none, Cond.methodLink RX0 28 Lib.Math.min.name, Cond.static Lib.Math.min.name, Cond.initialized "java/lang/Math", Cond.code Lib.Math.min.name Lib.Math.min.code 2 (some .int), Cond.methodLink RX3 95 yX3_fineBySort, Cond.instanceMethod yX3_fineBySort, Cond.selects RX3 yX3_fineBySort yX3_fineBySort]
def wsL_law_r10 : List Cond := [Cond.code yX3_fineBySort cX3_fineBySort 3 (some .boolean), Cond.methodLink RX3 102 yX1_addFine, Cond.instanceMethod yX1_addFine, Cond.selects RX1 yX1_addFine yX1_addFine, Cond.code yX1_addFine cX1_addFine 3 (some .boolean), Cond.constant RX1 37 (99999), Cond.methodLink RX1 38 Lib.Math.min.name, Cond.methodLink RL 26 yX5_open, Cond.instanceMethod yX5_open, Cond.selects RX5 yX5_open yX5_open, Cond.code yX5_open cX5_open 2 (some .int), Cond.methodLink RX5 102 yX5_turns, Cond.instanceMethod yX5_turns, Cond.selects RX5 yX5_turns yX5_turns, Cond.code yX5_turns cX5_turns 3 (some .int), Cond.methodLink RX5 88 yX5_isLanding, Cond.instanceMethod yX5_isLanding, Cond.selects RX5 yX5_isLanding yX5_isLanding, Cond.code yX5_isLanding cX5_isLanding 2 (some .boolean), Cond.methodLink RX5 92 yX5_change, Cond.instanceMethod yX5_change, Cond.selects RX5 yX5_change yX5_change, Cond.code yX5_change cX5_change 6 (some .int), Cond.methodLink RX5 60 yX5_held]
def wsL_law_r11 : List Cond := [Cond.static yX5_held, Cond.code yX5_held cX5_held 1 (some .int), Cond.methodLink RX5 63 yX5_note, Cond.instanceMethod yX5_note, Cond.selects RX5 yX5_note yX5_note, Cond.code yX5_note cX5_note 4 none, Cond.methodLink RL 27 yX4_close, Cond.instanceMethod yX4_close, Cond.selects RX4 yX4_close yX4_close, Cond.code yX4_close cX4_close 2 (some .int), Cond.methodLink RX4 62 yX3_closeLanding, Cond.instanceMethod yX3_closeLanding, Cond.selects RX3 yX3_closeLanding yX3_closeLanding, Cond.code yX3_closeLanding cX3_closeLanding 3 (some .int), Cond.methodLink RL 30 yX5_close, Cond.instanceMethod yX5_close, Cond.selects RX5 yX5_close yX5_close, Cond.code yX5_close cX5_close 2 (some .int), Cond.methodLink RL 31 yX4_price, Cond.instanceMethod yX4_price, Cond.selects RX4 yX4_price yX4_price, Cond.code yX4_price cX4_price 3 (some .int), Cond.methodLink RX4 65 yX3_changePrice, Cond.instanceMethod yX3_changePrice]
def wsL_law_r12 : List Cond := [Cond.selects RX3 yX3_changePrice yX3_changePrice, Cond.code yX3_changePrice cX3_changePrice 4 (some .int), Cond.methodLink RL 34 yX5_price, Cond.instanceMethod yX5_price, Cond.selects RX5 yX5_price yX5_price, Cond.code yX5_price cX5_price 3 (some .int), Cond.methodLink RX5 105 yX5_costs, Cond.instanceMethod yX5_costs, Cond.selects RX5 yX5_costs yX5_costs, Cond.code yX5_costs cX5_costs 3 (some .int), Cond.methodLink RL 35 yX4_pass, Cond.instanceMethod yX4_pass, Cond.selects RX4 yX4_pass yX4_pass, Cond.code yX4_pass cX4_pass 2 (some .int), Cond.methodLink RX4 68 yX3_passMinutes, Cond.instanceMethod yX3_passMinutes, Cond.selects RX3 yX3_passMinutes yX3_passMinutes, Cond.code yX3_passMinutes cX3_passMinutes 4 (some .int), Cond.constant RX3 106 (99999), Cond.methodLink RX3 107 yX3_passOneMinute, Cond.instanceMethod yX3_passOneMinute, Cond.selects RX3 yX3_passOneMinute yX3_passOneMinute, Cond.code yX3_passOneMinute cX3_passOneMinute 3 (some .int), Cond.methodLink RX3 111 yX3_passMinuteOf]
def wsL_law_r13 : List Cond := [Cond.instanceMethod yX3_passMinuteOf, Cond.selects RX3 yX3_passMinuteOf yX3_passMinuteOf, Cond.code yX3_passMinuteOf cX3_passMinuteOf 2 (some .boolean), Cond.methodLink RX3 115 yX1_passMinute, Cond.instanceMethod yX1_passMinute, Cond.selects RX1 yX1_passMinute yX1_passMinute, Cond.code yX1_passMinute cX1_passMinute 4 (some .boolean), Cond.methodLink RL 38 yX5_pass, Cond.instanceMethod yX5_pass, Cond.selects RX5 yX5_pass yX5_pass, Cond.code yX5_pass cX5_pass 2 (some .int), Cond.methodLink RX5 108 yX5_waits, Cond.instanceMethod yX5_waits, Cond.selects RX5 yX5_waits yX5_waits, Cond.code yX5_waits cX5_waits 4 (some .int), Cond.methodLink RX5 96 yX5_minute, Cond.instanceMethod yX5_minute, Cond.selects RX5 yX5_minute yX5_minute, Cond.code yX5_minute cX5_minute 5 (some .int), Cond.fieldLink RX5 70 "LandingFinesModel" "fine" "I", Cond.fieldLink RX5 67 "LandingFinesModel" "since" "I", Cond.fieldLink RX5 73 "LandingFinesModel" "isShunned" "Z", Cond.fieldLink RX5 77 "LandingFinesModel" "shunnedFor" "I", Cond.methodLink RX5 80 yX5_tries]
def wsL_law_r14 : List Cond := [Cond.instanceMethod yX5_tries, Cond.selects RX5 yX5_tries yX5_tries, Cond.code yX5_tries cX5_tries 2 none, Cond.methodLink RX5 84 yX5_passes, Cond.instanceMethod yX5_passes, Cond.selects RX5 yX5_passes yX5_passes, Cond.code yX5_passes cX5_passes 2 (some .boolean), Cond.methodLink RL 39 yX4_of, Cond.instanceMethod yX4_of, Cond.selects RX4 yX4_of yX4_of, Cond.code yX4_of cX4_of 4 (some .int), Cond.methodLink RX4 71 yX3_find, Cond.methodLink RX4 75 yX1_tell, Cond.instanceMethod yX1_tell, Cond.selects RX1 yX1_tell yX1_tell, Cond.code yX1_tell cX1_tell 2 (some .int), Cond.methodLink RL 42 yX5_of, Cond.instanceMethod yX5_of, Cond.selects RX5 yX5_of yX5_of, Cond.code yX5_of cX5_of 3 (some .int), Cond.methodLink RL 43 yX4_count, Cond.instanceMethod yX4_count, Cond.selects RX4 yX4_count yX4_count, Cond.code yX4_count cX4_count 2 (some .int)]
def wsL_law_r15 : List Cond := [Cond.fieldLink RX4 78 "LandingFines$Pad" "length" "I", Cond.methodLink RX4 81 yX3_tell, Cond.instanceMethod yX3_tell, Cond.selects RX3 yX3_tell yX3_tell, Cond.code yX3_tell cX3_tell 2 (some .int), Cond.fieldLink RX3 145 "LandingFines$Journal" "size" "I", Cond.methodLink RX3 139 yX3_openOnes, Cond.instanceMethod yX3_openOnes, Cond.selects RX3 yX3_openOnes yX3_openOnes, Cond.code yX3_openOnes cX3_openOnes 3 (some .int), Cond.methodLink RX3 142 yX3_shunnedOnes, Cond.instanceMethod yX3_shunnedOnes, Cond.selects RX3 yX3_shunnedOnes yX3_shunnedOnes, Cond.code yX3_shunnedOnes cX3_shunnedOnes 3 (some .int), Cond.fieldLink RX3 148 "LandingFines$Landing" "isShunned" "Z", Cond.methodLink RL 46 yX5_count, Cond.instanceMethod yX5_count, Cond.selects RX5 yX5_count yX5_count, Cond.code yX5_count cX5_count 2 (some .int), Cond.fieldLink RX5 114 "LandingFinesModel" "length" "I", Cond.methodLink RX5 111 yX5_mask, Cond.instanceMethod yX5_mask, Cond.selects RX5 yX5_mask yX5_mask, Cond.code yX5_mask cX5_mask 4 (some .int)]
def wsL_law_r16 : List Cond := [Cond.methodLink RL 47 yX4_choice, Cond.instanceMethod yX4_choice, Cond.selects RX4 yX4_choice yX4_choice, Cond.code yX4_choice cX4_choice 2 (some .int), Cond.methodLink RX4 82 yX3_chosen, Cond.instanceMethod yX3_chosen, Cond.selects RX3 yX3_chosen yX3_chosen, Cond.code yX3_chosen cX3_chosen 3 (some .int), Cond.methodLink RX3 135 yX3_rankOf, Cond.instanceMethod yX3_rankOf, Cond.selects RX3 yX3_rankOf yX3_rankOf, Cond.code yX3_rankOf cX3_rankOf 6 (some .int), Cond.methodLink RL 50 yX5_choice, Cond.instanceMethod yX5_choice, Cond.selects RX5 yX5_choice yX5_choice, Cond.code yX5_choice cX5_choice 3 (some .int), Cond.methodLink RX5 117 yX5_rank, Cond.instanceMethod yX5_rank, Cond.selects RX5 yX5_rank yX5_rank, Cond.code yX5_rank cX5_rank 5 (some .int), Cond.methodLink RL 51 yX4_log, Cond.instanceMethod yX4_log, Cond.selects RX4 yX4_log yX4_log, Cond.code yX4_log cX4_log 3 (some .int)]
def wsL_law_r17 : List Cond := [Cond.fieldLink RX4 85 "LandingFines$River" "journal" "LLandingFines$Journal;", Cond.methodLink RX4 89 yX0_tell, Cond.instanceMethod yX0_tell, Cond.selects RX0 yX0_tell yX0_tell, Cond.code yX0_tell cX0_tell 4 (some .int), Cond.methodLink RL 54 yX5_log, Cond.instanceMethod yX5_log, Cond.selects RX5 yX5_log yX5_log, Cond.code yX5_log cX5_log 3 (some .int), Cond.methodLink RL 55 yX4_why, Cond.instanceMethod yX4_why, Cond.selects RX4 yX4_why yX4_why, Cond.code yX4_why cX4_why 3 (some .int), Cond.fieldLink RX4 93 "LandingFines$River" "taken" "I", Cond.fieldLink RX4 96 "LandingFines$Landing" "isOpen" "Z", Cond.fieldLink RX4 100 "LandingFines$Landing" "isShunned" "Z", Cond.methodLink RL 58 yX5_why, Cond.instanceMethod yX5_why, Cond.selects RX5 yX5_why yX5_why, Cond.code yX5_why cX5_why 2 (some .int), Cond.methodLink RL 59 yX4_welcomeIn, Cond.instanceMethod yX4_welcomeIn, Cond.selects RX4 yX4_welcomeIn yX4_welcomeIn, Cond.code yX4_welcomeIn cX4_welcomeIn 4 (some .int)]
def wsL_law_r18 : List Cond := [Cond.methodLink RX4 103 yX1_copyFrom, Cond.methodLink RX4 107 yX3_passMinuteOf, Cond.methodLink RL 62 yX5_welcomeIn, Cond.instanceMethod yX5_welcomeIn, Cond.selects RX5 yX5_welcomeIn yX5_welcomeIn, Cond.code yX5_welcomeIn cX5_welcomeIn 4 (some .int), Cond.methodLink RL 63 yX4_mayChange, Cond.instanceMethod yX4_mayChange, Cond.selects RX4 yX4_mayChange yX4_mayChange, Cond.code yX4_mayChange cX4_mayChange 4 (some .int), Cond.methodLink RX4 111 yX3_fineBySort, Cond.methodLink RL 66 yX5_mayChange, Cond.instanceMethod yX5_mayChange, Cond.selects RX5 yX5_mayChange yX5_mayChange, Cond.code yX5_mayChange cX5_mayChange 5 (some .int), Cond.methodLink RL 67 yX4_fineIn, Cond.instanceMethod yX4_fineIn, Cond.selects RX4 yX4_fineIn yX4_fineIn, Cond.code yX4_fineIn cX4_fineIn 5 (some .int), Cond.fieldLink RX4 115 "LandingFines$Landing" "fine" "I", Cond.methodLink RL 70 yX5_fineIn, Cond.instanceMethod yX5_fineIn, Cond.selects RX5 yX5_fineIn yX5_fineIn, Cond.code yX5_fineIn cX5_fineIn 5 (some .int)]
def wsL_law_r19 : List Cond := [Cond.methodLink RL 71 yX4_steady, Cond.instanceMethod yX4_steady, Cond.selects RX4 yX4_steady yX4_steady, Cond.code yX4_steady cX4_steady 2 (some .int), Cond.methodLink RX4 118 yX4_staysWelcome, Cond.instanceMethod yX4_staysWelcome, Cond.selects RX4 yX4_staysWelcome yX4_staysWelcome, Cond.code yX4_staysWelcome cX4_staysWelcome 3 (some .boolean), Cond.methodLink RX4 122 yX1_arrive, Cond.methodLink RX4 126 yX3_fade, Cond.instanceMethod yX3_fade, Cond.selects RX3 yX3_fade yX3_fade, Cond.code yX3_fade cX3_fade 5 none, Cond.methodLink RX3 119 Lib.Math.max.name, Cond.static Lib.Math.max.name, Cond.code Lib.Math.max.name Lib.Math.max.code 2 (some .int), Cond.fieldLink RX3 125 "LandingFines$Landing" "minutesSinceHalving" "I", Cond.methodLink RX3 128 Lib.Math.min.name, Cond.methodLink RL 75 yX5_steady, Cond.instanceMethod yX5_steady, Cond.selects RX5 yX5_steady yX5_steady, Cond.code yX5_steady cX5_steady 2 (some .int), Cond.methodLink RX5 120 yX5_isSteady, Cond.instanceMethod yX5_isSteady]
def wsL_law_r20 : List Cond := [Cond.selects RX5 yX5_isSteady yX5_isSteady, Cond.code yX5_isSteady cX5_isSteady 5 (some .boolean), Cond.methodLink RL 78 yX4_put, Cond.instanceMethod yX4_put, Cond.selects RX4 yX4_put yX4_put, Cond.code yX4_put cX4_put 4 (some .int), Cond.methodLink RX4 130 yX4_charactersIn, Cond.static yX4_charactersIn, Cond.code yX4_charactersIn cX4_charactersIn 6 (some .int), Cond.constantLong RX4 138 (255), Cond.methodLink RX4 134 yX2_append, Cond.instanceMethod yX2_append, Cond.selects RX2 yX2_append yX2_append, Cond.code yX2_append cX2_append 5 none, Cond.constantLong RX2 32 (255), Cond.methodLink RL 82 yX5_put, Cond.instanceMethod yX5_put, Cond.selects RX5 yX5_put yX5_put, Cond.code yX5_put cX5_put 7 (some .int), Cond.constantLong RX5 123 (255), Cond.methodLink RL 83 yX4_wipe, Cond.instanceMethod yX4_wipe, Cond.selects RX4 yX4_wipe yX4_wipe, Cond.code yX4_wipe cX4_wipe 1 (some .int)]
def wsL_law_r21 : List Cond := [Cond.methodLink RX4 140 yX2_clear, Cond.instanceMethod yX2_clear, Cond.selects RX2 yX2_clear yX2_clear, Cond.code yX2_clear cX2_clear 2 (some .int), Cond.methodLink RL 86 yX5_wipe, Cond.instanceMethod yX5_wipe, Cond.selects RX5 yX5_wipe yX5_wipe, Cond.code yX5_wipe cX5_wipe 2 (some .int), Cond.methodLink RL 87 yX4_fault, Cond.instanceMethod yX4_fault, Cond.selects RX4 yX4_fault yX4_fault, Cond.code yX4_fault cX4_fault 1 (some .int), Cond.methodLink RX4 144 yX2_findFault, Cond.instanceMethod yX2_findFault, Cond.selects RX2 yX2_findFault yX2_findFault, Cond.code yX2_findFault cX2_findFault 2 (some .int), Cond.methodLink RX2 34 yX2_startReading, Cond.instanceMethod yX2_startReading, Cond.selects RX2 yX2_startReading yX2_startReading, Cond.code yX2_startReading cX2_startReading 1 none, Cond.methodLink RX2 37 yX2_readOrder, Cond.instanceMethod yX2_readOrder, Cond.selects RX2 yX2_readOrder yX2_readOrder, Cond.code yX2_readOrder cX2_readOrder 1 (some .boolean)]
def wsL_law_r22 : List Cond := [Cond.methodLink RX2 45 yX2_readNumber, Cond.instanceMethod yX2_readNumber, Cond.selects RX2 yX2_readNumber yX2_readNumber, Cond.code yX2_readNumber cX2_readNumber 2 (some .boolean), Cond.methodLink RX2 51 yX2_isAtDigit, Cond.instanceMethod yX2_isAtDigit, Cond.selects RX2 yX2_isAtDigit yX2_isAtDigit, Cond.code yX2_isAtDigit cX2_isAtDigit 1 (some .boolean), Cond.methodLink RX2 48 yX2_readLanding, Cond.instanceMethod yX2_readLanding, Cond.selects RX2 yX2_readLanding yX2_readLanding, Cond.code yX2_readLanding cX2_readLanding 1 (some .boolean), Cond.methodLink RX2 41 yX2_readSign, Cond.instanceMethod yX2_readSign, Cond.selects RX2 yX2_readSign yX2_readSign, Cond.code yX2_readSign cX2_readSign 2 (some .boolean), Cond.methodLink RL 90 yX5_fault, Cond.instanceMethod yX5_fault, Cond.selects RX5 yX5_fault yX5_fault, Cond.code yX5_fault cX5_fault 1 (some .int), Cond.fieldLink RX5 125 "LandingFinesModel" "at" "I", Cond.methodLink RX5 142 yX5_isWell, Cond.instanceMethod yX5_isWell, Cond.selects RX5 yX5_isWell yX5_isWell]
def wsL_law_r23 : List Cond := [Cond.code yX5_isWell cX5_isWell 2 (some .boolean), Cond.methodLink RX5 138 yX5_order, Cond.instanceMethod yX5_order, Cond.selects RX5 yX5_order yX5_order, Cond.code yX5_order cX5_order 5 (some .int), Cond.methodLink RX5 128 yX5_sees, Cond.instanceMethod yX5_sees, Cond.selects RX5 yX5_sees yX5_sees, Cond.code yX5_sees cX5_sees 3 (some .boolean), Cond.methodLink RX5 132 yX5_number, Cond.instanceMethod yX5_number, Cond.selects RX5 yX5_number yX5_number, Cond.code yX5_number cX5_number 2 (some .int), Cond.methodLink RX5 135 yX5_digit, Cond.instanceMethod yX5_digit, Cond.selects RX5 yX5_digit yX5_digit, Cond.code yX5_digit cX5_digit 1 (some .int), Cond.methodLink RL 91 yX4_carryOut, Cond.instanceMethod yX4_carryOut, Cond.selects RX4 yX4_carryOut yX4_carryOut, Cond.code yX4_carryOut cX4_carryOut 3 (some .int), Cond.methodLink RX4 147 yX2_startReading, Cond.methodLink RX4 150 yX2_readOrder, Cond.methodLink RX4 154 yX4_carryOutOne]
def wsL_law_r24 : List Cond := [Cond.instanceMethod yX4_carryOutOne, Cond.selects RX4 yX4_carryOutOne yX4_carryOutOne, Cond.code yX4_carryOutOne cX4_carryOutOne 1 (some .int), Cond.fieldLink RX4 161 "LandingFines$Pad" "orderSign" "C", Cond.fieldLink RX4 165 "LandingFines$Pad" "orderNumber" "I", Cond.fieldLink RX4 168 "LandingFines$Pad" "orderLanding" "I", Cond.methodLink RX4 157 yX2_readSign, Cond.methodLink RL 94 yX5_carryOut, Cond.instanceMethod yX5_carryOut, Cond.selects RX5 yX5_carryOut yX5_carryOut, Cond.code yX5_carryOut cX5_carryOut 3 (some .int), Cond.methodLink RL 95 yX4_undo, Cond.instanceMethod yX4_undo, Cond.selects RX4 yX4_undo yX4_undo, Cond.code yX4_undo cX4_undo 1 (some .int), Cond.methodLink RL 98 yX5_undo, Cond.instanceMethod yX5_undo, Cond.selects RX5 yX5_undo yX5_undo, Cond.code yX5_undo cX5_undo 2 (some .int), Cond.methodLink RL 99 yX4_save, Cond.instanceMethod yX4_save, Cond.selects RX4 yX4_save yX4_save, Cond.code yX4_save cX4_save 2 (some .int), Cond.fieldLink RX4 174 "LandingFines$River" "landingCount" "I"]
def wsL_law_r25 : List Cond := [Cond.methodLink RL 102 yX5_save, Cond.instanceMethod yX5_save, Cond.selects RX5 yX5_save yX5_save, Cond.code yX5_save cX5_save 3 (some .int), Cond.methodLink RL 103 yX4_restore, Cond.instanceMethod yX4_restore, Cond.selects RX4 yX4_restore yX4_restore, Cond.code yX4_restore cX4_restore 2 (some .int), Cond.methodLink RL 106 yX5_restore, Cond.instanceMethod yX5_restore, Cond.selects RX5 yX5_restore yX5_restore, Cond.code yX5_restore cX5_restore 3 (some .int)]
def wsL_law : List Cond := (wsL_law_r1 ++ (wsL_law_r2 ++ (wsL_law_r3 ++ (wsL_law_r4 ++ (wsL_law_r5 ++ (wsL_law_r6 ++ (wsL_law_r7 ++ (wsL_law_r8 ++ (wsL_law_r9 ++ (wsL_law_r10 ++ (wsL_law_r11 ++ (wsL_law_r12 ++ (wsL_law_r13 ++ (wsL_law_r14 ++ (wsL_law_r15 ++ (wsL_law_r16 ++ (wsL_law_r17 ++ (wsL_law_r18 ++ (wsL_law_r19 ++ (wsL_law_r20 ++ (wsL_law_r21 ++ (wsL_law_r22 ++ (wsL_law_r23 ++ (wsL_law_r24 ++ wsL_law_r25)))))))))))))))))))))))) ++ wsX40 ++ wsX50 ++ wsX30 ++ wsX20 ++ wsX10 ++ wsX00 ++ ([] : List Cond)
end
section
set_option maxRecDepth 20000 in
theorem wsL_in_1 : ∀ w ∈ wsL_law_r1, w ∈ lw_tbl := by decide +kernel
set_option maxRecDepth 20000 in
theorem wsL_in_2 : ∀ w ∈ wsL_law_r2, w ∈ lw_tbl := by decide +kernel
set_option maxRecDepth 20000 in
theorem wsL_in_3 : ∀ w ∈ wsL_law_r3, w ∈ lw_tbl := by decide +kernel
set_option maxRecDepth 20000 in
theorem wsL_in_4 : ∀ w ∈ wsL_law_r4, w ∈ lw_tbl := by decide +kernel
set_option maxRecDepth 20000 in
theorem wsL_in_5 : ∀ w ∈ wsL_law_r5, w ∈ lw_tbl := by decide +kernel
set_option maxRecDepth 20000 in
theorem wsL_in_6 : ∀ w ∈ wsL_law_r6, w ∈ lw_tbl := by decide +kernel
set_option maxRecDepth 20000 in
theorem wsL_in_7 : ∀ w ∈ wsL_law_r7, w ∈ lw_tbl := by decide +kernel
set_option maxRecDepth 20000 in
theorem wsL_in_8 : ∀ w ∈ wsL_law_r8, w ∈ lw_tbl := by decide +kernel
set_option maxRecDepth 20000 in
theorem wsL_in_9 : ∀ w ∈ wsL_law_r9, w ∈ lw_tbl := by decide +kernel
set_option maxRecDepth 20000 in
theorem wsL_in_10 : ∀ w ∈ wsL_law_r10, w ∈ lw_tbl := by decide +kernel
set_option maxRecDepth 20000 in
theorem wsL_in_11 : ∀ w ∈ wsL_law_r11, w ∈ lw_tbl := by decide +kernel
set_option maxRecDepth 20000 in
theorem wsL_in_12 : ∀ w ∈ wsL_law_r12, w ∈ lw_tbl := by decide +kernel
set_option maxRecDepth 20000 in
theorem wsL_in_13 : ∀ w ∈ wsL_law_r13, w ∈ lw_tbl := by decide +kernel
end
section
set_option maxRecDepth 20000 in
theorem wsL_in_14 : ∀ w ∈ wsL_law_r14, w ∈ lw_tbl := by decide +kernel
set_option maxRecDepth 20000 in
theorem wsL_in_15 : ∀ w ∈ wsL_law_r15, w ∈ lw_tbl := by decide +kernel
set_option maxRecDepth 20000 in
theorem wsL_in_16 : ∀ w ∈ wsL_law_r16, w ∈ lw_tbl := by decide +kernel
set_option maxRecDepth 20000 in
theorem wsL_in_17 : ∀ w ∈ wsL_law_r17, w ∈ lw_tbl := by decide +kernel
set_option maxRecDepth 20000 in
theorem wsL_in_18 : ∀ w ∈ wsL_law_r18, w ∈ lw_tbl := by decide +kernel
set_option maxRecDepth 20000 in
theorem wsL_in_19 : ∀ w ∈ wsL_law_r19, w ∈ lw_tbl := by decide +kernel
set_option maxRecDepth 20000 in
theorem wsL_in_20 : ∀ w ∈ wsL_law_r20, w ∈ lw_tbl := by decide +kernel
set_option maxRecDepth 20000 in
theorem wsL_in_21 : ∀ w ∈ wsL_law_r21, w ∈ lw_tbl := by decide +kernel
set_option maxRecDepth 20000 in
theorem wsL_in_22 : ∀ w ∈ wsL_law_r22, w ∈ lw_tbl := by decide +kernel
set_option maxRecDepth 20000 in
theorem wsL_in_23 : ∀ w ∈ wsL_law_r23, w ∈ lw_tbl := by decide +kernel
set_option maxRecDepth 20000 in
theorem wsL_in_24 : ∀ w ∈ wsL_law_r24, w ∈ lw_tbl := by decide +kernel
set_option maxRecDepth 20000 in
theorem wsL_in_25 : ∀ w ∈ wsL_law_r25, w ∈ lw_tbl := by decide +kernel
set_option maxRecDepth 20000 in
theorem wsL_inX4 : ∀ w ∈ wsX40, w ∈ lw_tbl := by decide +kernel
set_option maxRecDepth 20000 in
theorem wsL_inX5 : ∀ w ∈ wsX50, w ∈ lw_tbl := by decide +kernel
set_option maxRecDepth 20000 in
theorem wsL_inX3 : ∀ w ∈ wsX30, w ∈ lw_tbl := by decide +kernel
set_option maxRecDepth 20000 in
theorem wsL_inX2 : ∀ w ∈ wsX20, w ∈ lw_tbl := by decide +kernel
set_option maxRecDepth 20000 in
theorem wsL_inX1 : ∀ w ∈ wsX10, w ∈ lw_tbl := by decide +kernel
set_option maxRecDepth 20000 in
theorem wsL_inX0 : ∀ w ∈ wsX00, w ∈ lw_tbl := by decide +kernel
end
section
theorem wsL_law_in : ∀ w ∈ wsL_law, w ∈ lw_tbl := (List.forall_mem_append.mpr ⟨(List.forall_mem_append.mpr ⟨(List.forall_mem_append.mpr ⟨(List.forall_mem_append.mpr ⟨(List.forall_mem_append.mpr ⟨(List.forall_mem_append.mpr ⟨(List.forall_mem_append.mpr ⟨(List.forall_mem_append.mpr ⟨wsL_in_1, (List.forall_mem_append.mpr ⟨wsL_in_2, (List.forall_mem_append.mpr ⟨wsL_in_3, (List.forall_mem_append.mpr ⟨wsL_in_4, (List.forall_mem_append.mpr ⟨wsL_in_5, (List.forall_mem_append.mpr ⟨wsL_in_6, (List.forall_mem_append.mpr ⟨wsL_in_7, (List.forall_mem_append.mpr ⟨wsL_in_8, (List.forall_mem_append.mpr ⟨wsL_in_9, (List.forall_mem_append.mpr ⟨wsL_in_10, (List.forall_mem_append.mpr ⟨wsL_in_11, (List.forall_mem_append.mpr ⟨wsL_in_12, (List.forall_mem_append.mpr ⟨wsL_in_13, (List.forall_mem_append.mpr ⟨wsL_in_14, (List.forall_mem_append.mpr ⟨wsL_in_15, (List.forall_mem_append.mpr ⟨wsL_in_16, (List.forall_mem_append.mpr ⟨wsL_in_17, (List.forall_mem_append.mpr ⟨wsL_in_18, (List.forall_mem_append.mpr ⟨wsL_in_19, (List.forall_mem_append.mpr ⟨wsL_in_20, (List.forall_mem_append.mpr ⟨wsL_in_21, (List.forall_mem_append.mpr ⟨wsL_in_22, (List.forall_mem_append.mpr ⟨wsL_in_23, (List.forall_mem_append.mpr ⟨wsL_in_24, wsL_in_25⟩)⟩)⟩)⟩)⟩)⟩)⟩)⟩)⟩)⟩)⟩)⟩)⟩)⟩)⟩)⟩)⟩)⟩)⟩)⟩)⟩)⟩)⟩)⟩), wsL_inX4⟩), wsL_inX5⟩), wsL_inX3⟩), wsL_inX2⟩), wsL_inX1⟩), wsL_inX0⟩), fun _ h => absurd h List.not_mem_nil⟩)
theorem inlX0 : ∀ w ∈ wsX00, w ∈ wsL_law := fun _ h => List.mem_append_left _ (List.mem_append_right _ h)
theorem inX0 : ∀ w ∈ wsX00, w ∈ lw_tbl := fun w h => wsL_law_in w (inlX0 w h)
theorem inlX1 : ∀ w ∈ wsX10, w ∈ wsL_law := fun _ h => List.mem_append_left _ (List.mem_append_left _ (List.mem_append_right _ h))
theorem inX1 : ∀ w ∈ wsX10, w ∈ lw_tbl := fun w h => wsL_law_in w (inlX1 w h)
theorem inlX2 : ∀ w ∈ wsX20, w ∈ wsL_law := fun _ h => List.mem_append_left _ (List.mem_append_left _ (List.mem_append_left _ (List.mem_append_right _ h)))
theorem inX2 : ∀ w ∈ wsX20, w ∈ lw_tbl := fun w h => wsL_law_in w (inlX2 w h)
theorem inlX3 : ∀ w ∈ wsX30, w ∈ wsL_law := fun _ h => List.mem_append_left _ (List.mem_append_left _ (List.mem_append_left _ (List.mem_append_left _ (List.mem_append_right _ h))))
theorem inX3 : ∀ w ∈ wsX30, w ∈ lw_tbl := fun w h => wsL_law_in w (inlX3 w h)
theorem inlX4 : ∀ w ∈ wsX40, w ∈ wsL_law := fun _ h => List.mem_append_left _ (List.mem_append_left _ (List.mem_append_left _ (List.mem_append_left _ (List.mem_append_left _ (List.mem_append_left _ (List.mem_append_right _ h))))))
theorem inX4 : ∀ w ∈ wsX40, w ∈ lw_tbl := fun w h => wsL_law_in w (inlX4 w h)
theorem inlX5 : ∀ w ∈ wsX50, w ∈ wsL_law := fun _ h => List.mem_append_left _ (List.mem_append_left _ (List.mem_append_left _ (List.mem_append_left _ (List.mem_append_left _ (List.mem_append_right _ h)))))
theorem inX5 : ∀ w ∈ wsX50, w ∈ lw_tbl := fun w h => wsL_law_in w (inlX5 w h)
theorem inJx8e188 : ∀ w ∈ wsJx8e1880, w ∈ lw_tbl := by decide +kernel
theorem inJ9 : ∀ w ∈ wsJ90, w ∈ lw_tbl := by decide +kernel
end
section
theorem inJ10 : ∀ w ∈ wsJ100, w ∈ lw_tbl := by decide +kernel
theorem dX0_init_0 : decode cX0_init 0 = .ok (.aload_n 0, 1) := by decide +kernel
theorem dX0_init_1 : decode cX0_init 1 = .ok (.invokespecial 3, 3) := by decide +kernel
theorem dX0_init_4 : decode cX0_init 4 = .ok (.aload_n 0, 1) := by decide +kernel
theorem dX0_init_5 : decode cX0_init 5 = .ok (.bipush 20, 2) := by decide +kernel
theorem dX0_init_7 : decode cX0_init 7 = .ok (.newarray .int, 2) := by decide +kernel
theorem dX0_init_9 : decode cX0_init 9 = .ok (.putfield 9, 3) := by decide +kernel
theorem dX0_init_12 : decode cX0_init 12 = .ok (.aload_n 0, 1) := by decide +kernel
theorem dX0_init_13 : decode cX0_init 13 = .ok (.bipush 20, 2) := by decide +kernel
theorem dX0_init_15 : decode cX0_init 15 = .ok (.newarray .int, 2) := by decide +kernel
theorem dX0_init_17 : decode cX0_init 17 = .ok (.putfield 15, 3) := by decide +kernel
theorem dX0_init_20 : decode cX0_init 20 = .ok (.aload_n 0, 1) := by decide +kernel
theorem dX0_init_21 : decode cX0_init 21 = .ok (.bipush 20, 2) := by decide +kernel
theorem dX0_init_23 : decode cX0_init 23 = .ok (.newarray .int, 2) := by decide +kernel
theorem dX0_init_25 : decode cX0_init 25 = .ok (.putfield 18, 3) := by decide +kernel
theorem dX0_init_28 : decode cX0_init 28 = .ok (.aload_n 0, 1) := by decide +kernel
theorem dX0_init_29 : decode cX0_init 29 = .ok (.iconst 0, 1) := by decide +kernel
theorem dX0_init_30 : decode cX0_init 30 = .ok (.putfield 21, 3) := by decide +kernel
theorem dX0_init_33 : decode cX0_init 33 = .ok (.aload_n 0, 1) := by decide +kernel
theorem dX0_init_34 : decode cX0_init 34 = .ok (.iconst 0, 1) := by decide +kernel
theorem dX0_init_35 : decode cX0_init 35 = .ok (.putfield 25, 3) := by decide +kernel
theorem dX0_init_38 : decode cX0_init 38 = .ok (.return_, 1) := by decide +kernel
theorem dX0_add_0 : decode cX0_add 0 = .ok (.aload_n 0, 1) := by decide +kernel
theorem dX0_add_1 : decode cX0_add 1 = .ok (.getfield 9, 3) := by decide +kernel
theorem dX0_add_4 : decode cX0_add 4 = .ok (.aload_n 0, 1) := by decide +kernel
theorem dX0_add_5 : decode cX0_add 5 = .ok (.getfield 25, 3) := by decide +kernel
theorem dX0_add_8 : decode cX0_add 8 = .ok (.iload_n 1, 1) := by decide +kernel
theorem dX0_add_9 : decode cX0_add 9 = .ok (.iastore, 1) := by decide +kernel
theorem dX0_add_10 : decode cX0_add 10 = .ok (.aload_n 0, 1) := by decide +kernel
theorem dX0_add_11 : decode cX0_add 11 = .ok (.getfield 15, 3) := by decide +kernel
theorem dX0_add_14 : decode cX0_add 14 = .ok (.aload_n 0, 1) := by decide +kernel
theorem dX0_add_15 : decode cX0_add 15 = .ok (.getfield 25, 3) := by decide +kernel
theorem dX0_add_18 : decode cX0_add 18 = .ok (.iload_n 2, 1) := by decide +kernel
theorem dX0_add_19 : decode cX0_add 19 = .ok (.iastore, 1) := by decide +kernel
theorem dX0_add_20 : decode cX0_add 20 = .ok (.aload_n 0, 1) := by decide +kernel
theorem dX0_add_21 : decode cX0_add 21 = .ok (.getfield 18, 3) := by decide +kernel
theorem dX0_add_24 : decode cX0_add 24 = .ok (.aload_n 0, 1) := by decide +kernel
theorem dX0_add_25 : decode cX0_add 25 = .ok (.getfield 25, 3) := by decide +kernel
theorem dX0_add_28 : decode cX0_add 28 = .ok (.iload_n 3, 1) := by decide +kernel
theorem dX0_add_29 : decode cX0_add 29 = .ok (.iastore, 1) := by decide +kernel
theorem dX0_add_30 : decode cX0_add 30 = .ok (.aload_n 0, 1) := by decide +kernel
theorem dX0_add_31 : decode cX0_add 31 = .ok (.aload_n 0, 1) := by decide +kernel
theorem dX0_add_32 : decode cX0_add 32 = .ok (.getfield 25, 3) := by decide +kernel
theorem dX0_add_35 : decode cX0_add 35 = .ok (.iconst 1, 1) := by decide +kernel
theorem dX0_add_36 : decode cX0_add 36 = .ok (.iadd, 1) := by decide +kernel
theorem dX0_add_37 : decode cX0_add 37 = .ok (.bipush 20, 2) := by decide +kernel
theorem dX0_add_39 : decode cX0_add 39 = .ok (.if_icmp .ge 12, 3) := by decide +kernel
theorem dX0_add_42 : decode cX0_add 42 = .ok (.aload_n 0, 1) := by decide +kernel
theorem dX0_add_43 : decode cX0_add 43 = .ok (.getfield 25, 3) := by decide +kernel
theorem dX0_add_46 : decode cX0_add 46 = .ok (.iconst 1, 1) := by decide +kernel
theorem dX0_add_47 : decode cX0_add 47 = .ok (.iadd, 1) := by decide +kernel
theorem dX0_add_48 : decode cX0_add 48 = .ok (.goto 4, 3) := by decide +kernel
theorem dX0_add_51 : decode cX0_add 51 = .ok (.iconst 0, 1) := by decide +kernel
theorem dX0_add_52 : decode cX0_add 52 = .ok (.putfield 25, 3) := by decide +kernel
theorem dX0_add_55 : decode cX0_add 55 = .ok (.aload_n 0, 1) := by decide +kernel
theorem dX0_add_56 : decode cX0_add 56 = .ok (.aload_n 0, 1) := by decide +kernel
theorem dX0_add_57 : decode cX0_add 57 = .ok (.getfield 21, 3) := by decide +kernel
theorem dX0_add_60 : decode cX0_add 60 = .ok (.iconst 1, 1) := by decide +kernel
theorem dX0_add_61 : decode cX0_add 61 = .ok (.iadd, 1) := by decide +kernel
theorem dX0_add_62 : decode cX0_add 62 = .ok (.bipush 20, 2) := by decide +kernel
theorem dX0_add_64 : decode cX0_add 64 = .ok (.invokestatic 28, 3) := by decide +kernel
theorem dX0_add_67 : decode cX0_add 67 = .ok (.putfield 21, 3) := by decide +kernel
theorem dX0_add_70 : decode cX0_add 70 = .ok (.return_, 1) := by decide +kernel
theorem dX0_tell_0 : decode cX0_tell 0 = .ok (.iload_n 1, 1) := by decide +kernel
theorem dX0_tell_1 : decode cX0_tell 1 = .ok (.ifCond .lt 11, 3) := by decide +kernel
theorem dX0_tell_4 : decode cX0_tell 4 = .ok (.iload_n 1, 1) := by decide +kernel
theorem dX0_tell_5 : decode cX0_tell 5 = .ok (.aload_n 0, 1) := by decide +kernel
theorem dX0_tell_6 : decode cX0_tell 6 = .ok (.getfield 21, 3) := by decide +kernel
theorem dX0_tell_9 : decode cX0_tell 9 = .ok (.if_icmp .lt 5, 3) := by decide +kernel
theorem dX0_tell_12 : decode cX0_tell 12 = .ok (.iconst (-1), 1) := by decide +kernel
theorem dX0_tell_13 : decode cX0_tell 13 = .ok (.ireturn, 1) := by decide +kernel
theorem dX0_tell_14 : decode cX0_tell 14 = .ok (.aload_n 0, 1) := by decide +kernel
theorem dX0_tell_15 : decode cX0_tell 15 = .ok (.getfield 25, 3) := by decide +kernel
theorem dX0_tell_18 : decode cX0_tell 18 = .ok (.iconst 1, 1) := by decide +kernel
theorem dX0_tell_19 : decode cX0_tell 19 = .ok (.isub, 1) := by decide +kernel
theorem dX0_tell_20 : decode cX0_tell 20 = .ok (.iload_n 1, 1) := by decide +kernel
theorem dX0_tell_21 : decode cX0_tell 21 = .ok (.isub, 1) := by decide +kernel
theorem dX0_tell_22 : decode cX0_tell 22 = .ok (.istore_n 3, 1) := by decide +kernel
theorem dX0_tell_23 : decode cX0_tell 23 = .ok (.iload_n 3, 1) := by decide +kernel
theorem dX0_tell_24 : decode cX0_tell 24 = .ok (.ifCond .ge 6, 3) := by decide +kernel
theorem dX0_tell_27 : decode cX0_tell 27 = .ok (.iinc 3 20, 3) := by decide +kernel
theorem dX0_tell_30 : decode cX0_tell 30 = .ok (.iload_n 2, 1) := by decide +kernel
theorem dX0_tell_31 : decode cX0_tell 31 = .ok (.tableswitch 46 0 2 #[25, 32, 39], 25) := by decide +kernel
theorem dX0_tell_56 : decode cX0_tell 56 = .ok (.aload_n 0, 1) := by decide +kernel
theorem dX0_tell_57 : decode cX0_tell 57 = .ok (.getfield 9, 3) := by decide +kernel
theorem dX0_tell_60 : decode cX0_tell 60 = .ok (.iload_n 3, 1) := by decide +kernel
theorem dX0_tell_61 : decode cX0_tell 61 = .ok (.iaload, 1) := by decide +kernel
theorem dX0_tell_62 : decode cX0_tell 62 = .ok (.ireturn, 1) := by decide +kernel
theorem dX0_tell_63 : decode cX0_tell 63 = .ok (.aload_n 0, 1) := by decide +kernel
theorem dX0_tell_64 : decode cX0_tell 64 = .ok (.getfield 15, 3) := by decide +kernel
theorem dX0_tell_67 : decode cX0_tell 67 = .ok (.iload_n 3, 1) := by decide +kernel
theorem dX0_tell_68 : decode cX0_tell 68 = .ok (.iaload, 1) := by decide +kernel
theorem dX0_tell_69 : decode cX0_tell 69 = .ok (.ireturn, 1) := by decide +kernel
theorem dX0_tell_70 : decode cX0_tell 70 = .ok (.aload_n 0, 1) := by decide +kernel
theorem dX0_tell_71 : decode cX0_tell 71 = .ok (.getfield 18, 3) := by decide +kernel
theorem dX0_tell_74 : decode cX0_tell 74 = .ok (.iload_n 3, 1) := by decide +kernel
theorem dX0_tell_75 : decode cX0_tell 75 = .ok (.iaload, 1) := by decide +kernel
theorem dX0_tell_76 : decode cX0_tell 76 = .ok (.ireturn, 1) := by decide +kernel
theorem dX0_tell_77 : decode cX0_tell 77 = .ok (.bipush (-2), 2) := by decide +kernel
theorem dX0_tell_79 : decode cX0_tell 79 = .ok (.ireturn, 1) := by decide +kernel
theorem dX0_copyFrom_0 : decode cX0_copyFrom 0 = .ok (.aload_n 1, 1) := by decide +kernel
theorem dX0_copyFrom_1 : decode cX0_copyFrom 1 = .ok (.getfield 9, 3) := by decide +kernel
theorem dX0_copyFrom_4 : decode cX0_copyFrom 4 = .ok (.iconst 0, 1) := by decide +kernel
theorem dX0_copyFrom_5 : decode cX0_copyFrom 5 = .ok (.aload_n 0, 1) := by decide +kernel
theorem dX0_copyFrom_6 : decode cX0_copyFrom 6 = .ok (.getfield 9, 3) := by decide +kernel
theorem dX0_copyFrom_9 : decode cX0_copyFrom 9 = .ok (.iconst 0, 1) := by decide +kernel
theorem dX0_copyFrom_10 : decode cX0_copyFrom 10 = .ok (.bipush 20, 2) := by decide +kernel
theorem dX0_copyFrom_12 : decode cX0_copyFrom 12 = .ok (.invokestatic 34, 3) := by decide +kernel
theorem dX0_copyFrom_15 : decode cX0_copyFrom 15 = .ok (.aload_n 1, 1) := by decide +kernel
theorem dX0_copyFrom_16 : decode cX0_copyFrom 16 = .ok (.getfield 15, 3) := by decide +kernel
theorem dX0_copyFrom_19 : decode cX0_copyFrom 19 = .ok (.iconst 0, 1) := by decide +kernel
theorem dX0_copyFrom_20 : decode cX0_copyFrom 20 = .ok (.aload_n 0, 1) := by decide +kernel
theorem dX0_copyFrom_21 : decode cX0_copyFrom 21 = .ok (.getfield 15, 3) := by decide +kernel
theorem dX0_copyFrom_24 : decode cX0_copyFrom 24 = .ok (.iconst 0, 1) := by decide +kernel
theorem dX0_copyFrom_25 : decode cX0_copyFrom 25 = .ok (.bipush 20, 2) := by decide +kernel
theorem dX0_copyFrom_27 : decode cX0_copyFrom 27 = .ok (.invokestatic 34, 3) := by decide +kernel
theorem dX0_copyFrom_30 : decode cX0_copyFrom 30 = .ok (.aload_n 1, 1) := by decide +kernel
theorem dX0_copyFrom_31 : decode cX0_copyFrom 31 = .ok (.getfield 18, 3) := by decide +kernel
theorem dX0_copyFrom_34 : decode cX0_copyFrom 34 = .ok (.iconst 0, 1) := by decide +kernel
theorem dX0_copyFrom_35 : decode cX0_copyFrom 35 = .ok (.aload_n 0, 1) := by decide +kernel
theorem dX0_copyFrom_36 : decode cX0_copyFrom 36 = .ok (.getfield 18, 3) := by decide +kernel
theorem dX0_copyFrom_39 : decode cX0_copyFrom 39 = .ok (.iconst 0, 1) := by decide +kernel
theorem dX0_copyFrom_40 : decode cX0_copyFrom 40 = .ok (.bipush 20, 2) := by decide +kernel
theorem dX0_copyFrom_42 : decode cX0_copyFrom 42 = .ok (.invokestatic 34, 3) := by decide +kernel
theorem dX0_copyFrom_45 : decode cX0_copyFrom 45 = .ok (.aload_n 0, 1) := by decide +kernel
theorem dX0_copyFrom_46 : decode cX0_copyFrom 46 = .ok (.aload_n 1, 1) := by decide +kernel
theorem dX0_copyFrom_47 : decode cX0_copyFrom 47 = .ok (.getfield 21, 3) := by decide +kernel
theorem dX0_copyFrom_50 : decode cX0_copyFrom 50 = .ok (.putfield 21, 3) := by decide +kernel
theorem dX0_copyFrom_53 : decode cX0_copyFrom 53 = .ok (.aload_n 0, 1) := by decide +kernel
theorem dX0_copyFrom_54 : decode cX0_copyFrom 54 = .ok (.aload_n 1, 1) := by decide +kernel
theorem dX0_copyFrom_55 : decode cX0_copyFrom 55 = .ok (.getfield 25, 3) := by decide +kernel
theorem dX0_copyFrom_58 : decode cX0_copyFrom 58 = .ok (.putfield 25, 3) := by decide +kernel
theorem dX0_copyFrom_61 : decode cX0_copyFrom 61 = .ok (.return_, 1) := by decide +kernel
theorem dX1_init_0 : decode cX1_init 0 = .ok (.aload_n 0, 1) := by decide +kernel
theorem dX1_init_1 : decode cX1_init 1 = .ok (.invokespecial 3, 3) := by decide +kernel
theorem dX1_init_4 : decode cX1_init 4 = .ok (.return_, 1) := by decide +kernel
theorem dX1_arrive_0 : decode cX1_arrive 0 = .ok (.aload_n 0, 1) := by decide +kernel
theorem dX1_arrive_1 : decode cX1_arrive 1 = .ok (.iconst 1, 1) := by decide +kernel
theorem dX1_arrive_2 : decode cX1_arrive 2 = .ok (.putfield 9, 3) := by decide +kernel
theorem dX1_arrive_5 : decode cX1_arrive 5 = .ok (.aload_n 0, 1) := by decide +kernel
theorem dX1_arrive_6 : decode cX1_arrive 6 = .ok (.iload_n 1, 1) := by decide +kernel
theorem dX1_arrive_7 : decode cX1_arrive 7 = .ok (.putfield 15, 3) := by decide +kernel
theorem dX1_arrive_10 : decode cX1_arrive 10 = .ok (.aload_n 0, 1) := by decide +kernel
theorem dX1_arrive_11 : decode cX1_arrive 11 = .ok (.iconst 0, 1) := by decide +kernel
theorem dX1_arrive_12 : decode cX1_arrive 12 = .ok (.putfield 19, 3) := by decide +kernel
theorem dX1_arrive_15 : decode cX1_arrive 15 = .ok (.aload_n 0, 1) := by decide +kernel
theorem dX1_arrive_16 : decode cX1_arrive 16 = .ok (.iconst 0, 1) := by decide +kernel
theorem dX1_arrive_17 : decode cX1_arrive 17 = .ok (.putfield 22, 3) := by decide +kernel
theorem dX1_arrive_20 : decode cX1_arrive 20 = .ok (.aload_n 0, 1) := by decide +kernel
theorem dX1_arrive_21 : decode cX1_arrive 21 = .ok (.iconst 0, 1) := by decide +kernel
theorem dX1_arrive_22 : decode cX1_arrive 22 = .ok (.putfield 25, 3) := by decide +kernel
theorem dX1_arrive_25 : decode cX1_arrive 25 = .ok (.aload_n 0, 1) := by decide +kernel
theorem dX1_arrive_26 : decode cX1_arrive 26 = .ok (.iconst 0, 1) := by decide +kernel
theorem dX1_arrive_27 : decode cX1_arrive 27 = .ok (.putfield 28, 3) := by decide +kernel
theorem dX1_arrive_30 : decode cX1_arrive 30 = .ok (.aload_n 0, 1) := by decide +kernel
theorem dX1_arrive_31 : decode cX1_arrive 31 = .ok (.iconst 0, 1) := by decide +kernel
theorem dX1_arrive_32 : decode cX1_arrive 32 = .ok (.putfield 31, 3) := by decide +kernel
theorem dX1_arrive_35 : decode cX1_arrive 35 = .ok (.aload_n 0, 1) := by decide +kernel
theorem dX1_arrive_36 : decode cX1_arrive 36 = .ok (.iconst 0, 1) := by decide +kernel
theorem dX1_arrive_37 : decode cX1_arrive 37 = .ok (.putfield 34, 3) := by decide +kernel
theorem dX1_arrive_40 : decode cX1_arrive 40 = .ok (.return_, 1) := by decide +kernel
theorem dX1_copyFrom_0 : decode cX1_copyFrom 0 = .ok (.aload_n 0, 1) := by decide +kernel
theorem dX1_copyFrom_1 : decode cX1_copyFrom 1 = .ok (.aload_n 1, 1) := by decide +kernel
theorem dX1_copyFrom_2 : decode cX1_copyFrom 2 = .ok (.getfield 9, 3) := by decide +kernel
theorem dX1_copyFrom_5 : decode cX1_copyFrom 5 = .ok (.putfield 9, 3) := by decide +kernel
theorem dX1_copyFrom_8 : decode cX1_copyFrom 8 = .ok (.aload_n 0, 1) := by decide +kernel
theorem dX1_copyFrom_9 : decode cX1_copyFrom 9 = .ok (.aload_n 1, 1) := by decide +kernel
theorem dX1_copyFrom_10 : decode cX1_copyFrom 10 = .ok (.getfield 15, 3) := by decide +kernel
theorem dX1_copyFrom_13 : decode cX1_copyFrom 13 = .ok (.putfield 15, 3) := by decide +kernel
theorem dX1_copyFrom_16 : decode cX1_copyFrom 16 = .ok (.aload_n 0, 1) := by decide +kernel
theorem dX1_copyFrom_17 : decode cX1_copyFrom 17 = .ok (.aload_n 1, 1) := by decide +kernel
theorem dX1_copyFrom_18 : decode cX1_copyFrom 18 = .ok (.getfield 19, 3) := by decide +kernel
theorem dX1_copyFrom_21 : decode cX1_copyFrom 21 = .ok (.putfield 19, 3) := by decide +kernel
theorem dX1_copyFrom_24 : decode cX1_copyFrom 24 = .ok (.aload_n 0, 1) := by decide +kernel
theorem dX1_copyFrom_25 : decode cX1_copyFrom 25 = .ok (.aload_n 1, 1) := by decide +kernel
theorem dX1_copyFrom_26 : decode cX1_copyFrom 26 = .ok (.getfield 22, 3) := by decide +kernel
theorem dX1_copyFrom_29 : decode cX1_copyFrom 29 = .ok (.putfield 22, 3) := by decide +kernel
theorem dX1_copyFrom_32 : decode cX1_copyFrom 32 = .ok (.aload_n 0, 1) := by decide +kernel
theorem dX1_copyFrom_33 : decode cX1_copyFrom 33 = .ok (.aload_n 1, 1) := by decide +kernel
theorem dX1_copyFrom_34 : decode cX1_copyFrom 34 = .ok (.getfield 25, 3) := by decide +kernel
theorem dX1_copyFrom_37 : decode cX1_copyFrom 37 = .ok (.putfield 25, 3) := by decide +kernel
theorem dX1_copyFrom_40 : decode cX1_copyFrom 40 = .ok (.aload_n 0, 1) := by decide +kernel
theorem dX1_copyFrom_41 : decode cX1_copyFrom 41 = .ok (.aload_n 1, 1) := by decide +kernel
theorem dX1_copyFrom_42 : decode cX1_copyFrom 42 = .ok (.getfield 28, 3) := by decide +kernel
theorem dX1_copyFrom_45 : decode cX1_copyFrom 45 = .ok (.putfield 28, 3) := by decide +kernel
theorem dX1_copyFrom_48 : decode cX1_copyFrom 48 = .ok (.aload_n 0, 1) := by decide +kernel
theorem dX1_copyFrom_49 : decode cX1_copyFrom 49 = .ok (.aload_n 1, 1) := by decide +kernel
theorem dX1_copyFrom_50 : decode cX1_copyFrom 50 = .ok (.getfield 31, 3) := by decide +kernel
theorem dX1_copyFrom_53 : decode cX1_copyFrom 53 = .ok (.putfield 31, 3) := by decide +kernel
theorem dX1_copyFrom_56 : decode cX1_copyFrom 56 = .ok (.aload_n 0, 1) := by decide +kernel
theorem dX1_copyFrom_57 : decode cX1_copyFrom 57 = .ok (.aload_n 1, 1) := by decide +kernel
theorem dX1_copyFrom_58 : decode cX1_copyFrom 58 = .ok (.getfield 34, 3) := by decide +kernel
theorem dX1_copyFrom_61 : decode cX1_copyFrom 61 = .ok (.putfield 34, 3) := by decide +kernel
theorem dX1_copyFrom_64 : decode cX1_copyFrom 64 = .ok (.return_, 1) := by decide +kernel
theorem dX1_canBeTaken_0 : decode cX1_canBeTaken 0 = .ok (.aload_n 0, 1) := by decide +kernel
theorem dX1_canBeTaken_1 : decode cX1_canBeTaken 1 = .ok (.getfield 9, 3) := by decide +kernel
theorem dX1_canBeTaken_4 : decode cX1_canBeTaken 4 = .ok (.ifCond .eq 14, 3) := by decide +kernel
theorem dX1_canBeTaken_7 : decode cX1_canBeTaken 7 = .ok (.aload_n 0, 1) := by decide +kernel
theorem dX1_canBeTaken_8 : decode cX1_canBeTaken 8 = .ok (.getfield 22, 3) := by decide +kernel
theorem dX1_canBeTaken_11 : decode cX1_canBeTaken 11 = .ok (.ifCond .ne 7, 3) := by decide +kernel
theorem dX1_canBeTaken_14 : decode cX1_canBeTaken 14 = .ok (.iconst 1, 1) := by decide +kernel
theorem dX1_canBeTaken_15 : decode cX1_canBeTaken 15 = .ok (.goto 4, 3) := by decide +kernel
theorem dX1_canBeTaken_18 : decode cX1_canBeTaken 18 = .ok (.iconst 0, 1) := by decide +kernel
theorem dX1_canBeTaken_19 : decode cX1_canBeTaken 19 = .ok (.ireturn, 1) := by decide +kernel
theorem dX1_addFine_0 : decode cX1_addFine 0 = .ok (.aload_n 0, 1) := by decide +kernel
theorem dX1_addFine_1 : decode cX1_addFine 1 = .ok (.dup, 1) := by decide +kernel
theorem dX1_addFine_2 : decode cX1_addFine 2 = .ok (.getfield 31, 3) := by decide +kernel
theorem dX1_addFine_5 : decode cX1_addFine 5 = .ok (.iconst 1, 1) := by decide +kernel
theorem dX1_addFine_6 : decode cX1_addFine 6 = .ok (.iadd, 1) := by decide +kernel
theorem dX1_addFine_7 : decode cX1_addFine 7 = .ok (.putfield 31, 3) := by decide +kernel
theorem dX1_addFine_10 : decode cX1_addFine 10 = .ok (.aload_n 0, 1) := by decide +kernel
theorem dX1_addFine_11 : decode cX1_addFine 11 = .ok (.aload_n 0, 1) := by decide +kernel
theorem dX1_addFine_12 : decode cX1_addFine 12 = .ok (.getfield 19, 3) := by decide +kernel
theorem dX1_addFine_15 : decode cX1_addFine 15 = .ok (.iload_n 1, 1) := by decide +kernel
theorem dX1_addFine_16 : decode cX1_addFine 16 = .ok (.iadd, 1) := by decide +kernel
theorem dX1_addFine_17 : decode cX1_addFine 17 = .ok (.ldc 37, 2) := by decide +kernel
theorem dX1_addFine_19 : decode cX1_addFine 19 = .ok (.invokestatic 38, 3) := by decide +kernel
theorem dX1_addFine_22 : decode cX1_addFine 22 = .ok (.putfield 19, 3) := by decide +kernel
theorem dX1_addFine_25 : decode cX1_addFine 25 = .ok (.aload_n 0, 1) := by decide +kernel
theorem dX1_addFine_26 : decode cX1_addFine 26 = .ok (.getfield 22, 3) := by decide +kernel
theorem dX1_addFine_29 : decode cX1_addFine 29 = .ok (.ifCond .ne 11, 3) := by decide +kernel
theorem dX1_addFine_32 : decode cX1_addFine 32 = .ok (.aload_n 0, 1) := by decide +kernel
theorem dX1_addFine_33 : decode cX1_addFine 33 = .ok (.getfield 19, 3) := by decide +kernel
theorem dX1_addFine_36 : decode cX1_addFine 36 = .ok (.iload_n 2, 1) := by decide +kernel
theorem dX1_addFine_37 : decode cX1_addFine 37 = .ok (.if_icmp .gt 5, 3) := by decide +kernel
theorem dX1_addFine_40 : decode cX1_addFine 40 = .ok (.iconst 0, 1) := by decide +kernel
theorem dX1_addFine_41 : decode cX1_addFine 41 = .ok (.ireturn, 1) := by decide +kernel
theorem dX1_addFine_42 : decode cX1_addFine 42 = .ok (.aload_n 0, 1) := by decide +kernel
theorem dX1_addFine_43 : decode cX1_addFine 43 = .ok (.iconst 1, 1) := by decide +kernel
theorem dX1_addFine_44 : decode cX1_addFine 44 = .ok (.putfield 22, 3) := by decide +kernel
theorem dX1_addFine_47 : decode cX1_addFine 47 = .ok (.aload_n 0, 1) := by decide +kernel
theorem dX1_addFine_48 : decode cX1_addFine 48 = .ok (.iconst 0, 1) := by decide +kernel
theorem dX1_addFine_49 : decode cX1_addFine 49 = .ok (.putfield 25, 3) := by decide +kernel
theorem dX1_addFine_52 : decode cX1_addFine 52 = .ok (.aload_n 0, 1) := by decide +kernel
theorem dX1_addFine_53 : decode cX1_addFine 53 = .ok (.dup, 1) := by decide +kernel
theorem dX1_addFine_54 : decode cX1_addFine 54 = .ok (.getfield 34, 3) := by decide +kernel
theorem dX1_addFine_57 : decode cX1_addFine 57 = .ok (.iconst 1, 1) := by decide +kernel
theorem dX1_addFine_58 : decode cX1_addFine 58 = .ok (.iadd, 1) := by decide +kernel
theorem dX1_addFine_59 : decode cX1_addFine 59 = .ok (.putfield 34, 3) := by decide +kernel
theorem dX1_addFine_62 : decode cX1_addFine 62 = .ok (.iconst 1, 1) := by decide +kernel
theorem dX1_addFine_63 : decode cX1_addFine 63 = .ok (.ireturn, 1) := by decide +kernel
theorem dX1_passMinute_0 : decode cX1_passMinute 0 = .ok (.aload_n 0, 1) := by decide +kernel
theorem dX1_passMinute_1 : decode cX1_passMinute 1 = .ok (.dup, 1) := by decide +kernel
theorem dX1_passMinute_2 : decode cX1_passMinute 2 = .ok (.getfield 28, 3) := by decide +kernel
theorem dX1_passMinute_5 : decode cX1_passMinute 5 = .ok (.iconst 1, 1) := by decide +kernel
theorem dX1_passMinute_6 : decode cX1_passMinute 6 = .ok (.iadd, 1) := by decide +kernel
theorem dX1_passMinute_7 : decode cX1_passMinute 7 = .ok (.putfield 28, 3) := by decide +kernel
theorem dX1_passMinute_10 : decode cX1_passMinute 10 = .ok (.aload_n 0, 1) := by decide +kernel
theorem dX1_passMinute_11 : decode cX1_passMinute 11 = .ok (.getfield 28, 3) := by decide +kernel
theorem dX1_passMinute_14 : decode cX1_passMinute 14 = .ok (.iload_n 1, 1) := by decide +kernel
theorem dX1_passMinute_15 : decode cX1_passMinute 15 = .ok (.if_icmp .lt 18, 3) := by decide +kernel
theorem dX1_passMinute_18 : decode cX1_passMinute 18 = .ok (.aload_n 0, 1) := by decide +kernel
theorem dX1_passMinute_19 : decode cX1_passMinute 19 = .ok (.dup, 1) := by decide +kernel
theorem dX1_passMinute_20 : decode cX1_passMinute 20 = .ok (.getfield 19, 3) := by decide +kernel
theorem dX1_passMinute_23 : decode cX1_passMinute 23 = .ok (.iconst 2, 1) := by decide +kernel
theorem dX1_passMinute_24 : decode cX1_passMinute 24 = .ok (.idiv, 1) := by decide +kernel
theorem dX1_passMinute_25 : decode cX1_passMinute 25 = .ok (.putfield 19, 3) := by decide +kernel
theorem dX1_passMinute_28 : decode cX1_passMinute 28 = .ok (.aload_n 0, 1) := by decide +kernel
theorem dX1_passMinute_29 : decode cX1_passMinute 29 = .ok (.iconst 0, 1) := by decide +kernel
theorem dX1_passMinute_30 : decode cX1_passMinute 30 = .ok (.putfield 28, 3) := by decide +kernel
theorem dX1_passMinute_33 : decode cX1_passMinute 33 = .ok (.aload_n 0, 1) := by decide +kernel
theorem dX1_passMinute_34 : decode cX1_passMinute 34 = .ok (.getfield 22, 3) := by decide +kernel
theorem dX1_passMinute_37 : decode cX1_passMinute 37 = .ok (.ifCond .ne 5, 3) := by decide +kernel
theorem dX1_passMinute_40 : decode cX1_passMinute 40 = .ok (.iconst 0, 1) := by decide +kernel
theorem dX1_passMinute_41 : decode cX1_passMinute 41 = .ok (.ireturn, 1) := by decide +kernel
theorem dX1_passMinute_42 : decode cX1_passMinute 42 = .ok (.aload_n 0, 1) := by decide +kernel
theorem dX1_passMinute_43 : decode cX1_passMinute 43 = .ok (.dup, 1) := by decide +kernel
theorem dX1_passMinute_44 : decode cX1_passMinute 44 = .ok (.getfield 25, 3) := by decide +kernel
theorem dX1_passMinute_47 : decode cX1_passMinute 47 = .ok (.iconst 1, 1) := by decide +kernel
theorem dX1_passMinute_48 : decode cX1_passMinute 48 = .ok (.iadd, 1) := by decide +kernel
theorem dX1_passMinute_49 : decode cX1_passMinute 49 = .ok (.putfield 25, 3) := by decide +kernel
theorem dX1_passMinute_52 : decode cX1_passMinute 52 = .ok (.aload_n 0, 1) := by decide +kernel
theorem dX1_passMinute_53 : decode cX1_passMinute 53 = .ok (.getfield 19, 3) := by decide +kernel
theorem dX1_passMinute_56 : decode cX1_passMinute 56 = .ok (.iload_n 2, 1) := by decide +kernel
theorem dX1_passMinute_57 : decode cX1_passMinute 57 = .ok (.if_icmp .lt 13, 3) := by decide +kernel
theorem dX1_passMinute_60 : decode cX1_passMinute 60 = .ok (.aload_n 0, 1) := by decide +kernel
theorem dX1_passMinute_61 : decode cX1_passMinute 61 = .ok (.getfield 25, 3) := by decide +kernel
theorem dX1_passMinute_64 : decode cX1_passMinute 64 = .ok (.iload_n 3, 1) := by decide +kernel
theorem dX1_passMinute_65 : decode cX1_passMinute 65 = .ok (.if_icmp .ge 5, 3) := by decide +kernel
theorem dX1_passMinute_68 : decode cX1_passMinute 68 = .ok (.iconst 0, 1) := by decide +kernel
theorem dX1_passMinute_69 : decode cX1_passMinute 69 = .ok (.ireturn, 1) := by decide +kernel
theorem dX1_passMinute_70 : decode cX1_passMinute 70 = .ok (.aload_n 0, 1) := by decide +kernel
theorem dX1_passMinute_71 : decode cX1_passMinute 71 = .ok (.iconst 0, 1) := by decide +kernel
theorem dX1_passMinute_72 : decode cX1_passMinute 72 = .ok (.putfield 22, 3) := by decide +kernel
theorem dX1_passMinute_75 : decode cX1_passMinute 75 = .ok (.aload_n 0, 1) := by decide +kernel
theorem dX1_passMinute_76 : decode cX1_passMinute 76 = .ok (.iconst 0, 1) := by decide +kernel
theorem dX1_passMinute_77 : decode cX1_passMinute 77 = .ok (.putfield 25, 3) := by decide +kernel
theorem dX1_passMinute_80 : decode cX1_passMinute 80 = .ok (.aload_n 0, 1) := by decide +kernel
theorem dX1_passMinute_81 : decode cX1_passMinute 81 = .ok (.aload_n 0, 1) := by decide +kernel
theorem dX1_passMinute_82 : decode cX1_passMinute 82 = .ok (.getfield 19, 3) := by decide +kernel
theorem dX1_passMinute_85 : decode cX1_passMinute 85 = .ok (.iload_n 2, 1) := by decide +kernel
theorem dX1_passMinute_86 : decode cX1_passMinute 86 = .ok (.iconst 1, 1) := by decide +kernel
theorem dX1_passMinute_87 : decode cX1_passMinute 87 = .ok (.isub, 1) := by decide +kernel
theorem dX1_passMinute_88 : decode cX1_passMinute 88 = .ok (.invokestatic 38, 3) := by decide +kernel
theorem dX1_passMinute_91 : decode cX1_passMinute 91 = .ok (.putfield 19, 3) := by decide +kernel
theorem dX1_passMinute_94 : decode cX1_passMinute 94 = .ok (.iconst 1, 1) := by decide +kernel
theorem dX1_passMinute_95 : decode cX1_passMinute 95 = .ok (.ireturn, 1) := by decide +kernel
theorem dX1_tell_0 : decode cX1_tell 0 = .ok (.iload_n 1, 1) := by decide +kernel
theorem dX1_tell_1 : decode cX1_tell 1 = .ok (.tableswitch 103 0 7 #[47, 60, 65, 70, 83, 88, 93, 98], 47) := by decide +kernel
theorem dX1_tell_48 : decode cX1_tell 48 = .ok (.aload_n 0, 1) := by decide +kernel
theorem dX1_tell_49 : decode cX1_tell 49 = .ok (.getfield 9, 3) := by decide +kernel
theorem dX1_tell_52 : decode cX1_tell 52 = .ok (.ifCond .eq 7, 3) := by decide +kernel
theorem dX1_tell_55 : decode cX1_tell 55 = .ok (.iconst 1, 1) := by decide +kernel
theorem dX1_tell_56 : decode cX1_tell 56 = .ok (.goto 4, 3) := by decide +kernel
theorem dX1_tell_59 : decode cX1_tell 59 = .ok (.iconst 0, 1) := by decide +kernel
theorem dX1_tell_60 : decode cX1_tell 60 = .ok (.ireturn, 1) := by decide +kernel
theorem dX1_tell_61 : decode cX1_tell 61 = .ok (.aload_n 0, 1) := by decide +kernel
theorem dX1_tell_62 : decode cX1_tell 62 = .ok (.getfield 15, 3) := by decide +kernel
theorem dX1_tell_65 : decode cX1_tell 65 = .ok (.ireturn, 1) := by decide +kernel
theorem dX1_tell_66 : decode cX1_tell 66 = .ok (.aload_n 0, 1) := by decide +kernel
theorem dX1_tell_67 : decode cX1_tell 67 = .ok (.getfield 19, 3) := by decide +kernel
theorem dX1_tell_70 : decode cX1_tell 70 = .ok (.ireturn, 1) := by decide +kernel
theorem dX1_tell_71 : decode cX1_tell 71 = .ok (.aload_n 0, 1) := by decide +kernel
theorem dX1_tell_72 : decode cX1_tell 72 = .ok (.getfield 22, 3) := by decide +kernel
theorem dX1_tell_75 : decode cX1_tell 75 = .ok (.ifCond .eq 7, 3) := by decide +kernel
theorem dX1_tell_78 : decode cX1_tell 78 = .ok (.iconst 1, 1) := by decide +kernel
theorem dX1_tell_79 : decode cX1_tell 79 = .ok (.goto 4, 3) := by decide +kernel
theorem dX1_tell_82 : decode cX1_tell 82 = .ok (.iconst 0, 1) := by decide +kernel
theorem dX1_tell_83 : decode cX1_tell 83 = .ok (.ireturn, 1) := by decide +kernel
theorem dX1_tell_84 : decode cX1_tell 84 = .ok (.aload_n 0, 1) := by decide +kernel
theorem dX1_tell_85 : decode cX1_tell 85 = .ok (.getfield 25, 3) := by decide +kernel
theorem dX1_tell_88 : decode cX1_tell 88 = .ok (.ireturn, 1) := by decide +kernel
theorem dX1_tell_89 : decode cX1_tell 89 = .ok (.aload_n 0, 1) := by decide +kernel
theorem dX1_tell_90 : decode cX1_tell 90 = .ok (.getfield 28, 3) := by decide +kernel
theorem dX1_tell_93 : decode cX1_tell 93 = .ok (.ireturn, 1) := by decide +kernel
theorem dX1_tell_94 : decode cX1_tell 94 = .ok (.aload_n 0, 1) := by decide +kernel
theorem dX1_tell_95 : decode cX1_tell 95 = .ok (.getfield 31, 3) := by decide +kernel
theorem dX1_tell_98 : decode cX1_tell 98 = .ok (.ireturn, 1) := by decide +kernel
theorem dX1_tell_99 : decode cX1_tell 99 = .ok (.aload_n 0, 1) := by decide +kernel
theorem dX1_tell_100 : decode cX1_tell 100 = .ok (.getfield 34, 3) := by decide +kernel
theorem dX1_tell_103 : decode cX1_tell 103 = .ok (.ireturn, 1) := by decide +kernel
theorem dX1_tell_104 : decode cX1_tell 104 = .ok (.bipush (-2), 2) := by decide +kernel
theorem dX1_tell_106 : decode cX1_tell 106 = .ok (.ireturn, 1) := by decide +kernel
theorem dX2_init_0 : decode cX2_init 0 = .ok (.aload_n 0, 1) := by decide +kernel
theorem dX2_init_1 : decode cX2_init 1 = .ok (.invokespecial 3, 3) := by decide +kernel
theorem dX2_init_4 : decode cX2_init 4 = .ok (.aload_n 0, 1) := by decide +kernel
theorem dX2_init_5 : decode cX2_init 5 = .ok (.bipush 80, 2) := by decide +kernel
theorem dX2_init_7 : decode cX2_init 7 = .ok (.newarray .char, 2) := by decide +kernel
theorem dX2_init_9 : decode cX2_init 9 = .ok (.putfield 9, 3) := by decide +kernel
theorem dX2_init_12 : decode cX2_init 12 = .ok (.aload_n 0, 1) := by decide +kernel
theorem dX2_init_13 : decode cX2_init 13 = .ok (.iconst 0, 1) := by decide +kernel
theorem dX2_init_14 : decode cX2_init 14 = .ok (.putfield 15, 3) := by decide +kernel
theorem dX2_init_17 : decode cX2_init 17 = .ok (.aload_n 0, 1) := by decide +kernel
theorem dX2_init_18 : decode cX2_init 18 = .ok (.iconst 0, 1) := by decide +kernel
theorem dX2_init_19 : decode cX2_init 19 = .ok (.putfield 19, 3) := by decide +kernel
theorem dX2_init_22 : decode cX2_init 22 = .ok (.aload_n 0, 1) := by decide +kernel
theorem dX2_init_23 : decode cX2_init 23 = .ok (.bipush 32, 2) := by decide +kernel
theorem dX2_init_25 : decode cX2_init 25 = .ok (.putfield 22, 3) := by decide +kernel
theorem dX2_init_28 : decode cX2_init 28 = .ok (.aload_n 0, 1) := by decide +kernel
theorem dX2_init_29 : decode cX2_init 29 = .ok (.iconst 0, 1) := by decide +kernel
theorem dX2_init_30 : decode cX2_init 30 = .ok (.putfield 26, 3) := by decide +kernel
theorem dX2_init_33 : decode cX2_init 33 = .ok (.aload_n 0, 1) := by decide +kernel
theorem dX2_init_34 : decode cX2_init 34 = .ok (.iconst 0, 1) := by decide +kernel
theorem dX2_init_35 : decode cX2_init 35 = .ok (.putfield 29, 3) := by decide +kernel
theorem dX2_init_38 : decode cX2_init 38 = .ok (.return_, 1) := by decide +kernel
theorem dX2_append_0 : decode cX2_append 0 = .ok (.iload_n 3, 1) := by decide +kernel
theorem dX2_append_1 : decode cX2_append 1 = .ok (.iconst 1, 1) := by decide +kernel
theorem dX2_append_2 : decode cX2_append 2 = .ok (.isub, 1) := by decide +kernel
theorem dX2_append_3 : decode cX2_append 3 = .ok (.istore 4, 2) := by decide +kernel
theorem dX2_append_5 : decode cX2_append 5 = .ok (.iload 4, 2) := by decide +kernel
theorem dX2_append_7 : decode cX2_append 7 = .ok (.ifCond .lt 50, 3) := by decide +kernel
theorem dX2_append_10 : decode cX2_append 10 = .ok (.aload_n 0, 1) := by decide +kernel
theorem dX2_append_11 : decode cX2_append 11 = .ok (.getfield 15, 3) := by decide +kernel
theorem dX2_append_14 : decode cX2_append 14 = .ok (.bipush 80, 2) := by decide +kernel
theorem dX2_append_16 : decode cX2_append 16 = .ok (.if_icmp .ge 41, 3) := by decide +kernel
theorem dX2_append_19 : decode cX2_append 19 = .ok (.aload_n 0, 1) := by decide +kernel
theorem dX2_append_20 : decode cX2_append 20 = .ok (.getfield 9, 3) := by decide +kernel
theorem dX2_append_23 : decode cX2_append 23 = .ok (.aload_n 0, 1) := by decide +kernel
theorem dX2_append_24 : decode cX2_append 24 = .ok (.getfield 15, 3) := by decide +kernel
theorem dX2_append_27 : decode cX2_append 27 = .ok (.lload_n 1, 1) := by decide +kernel
theorem dX2_append_28 : decode cX2_append 28 = .ok (.bipush 8, 2) := by decide +kernel
theorem dX2_append_30 : decode cX2_append 30 = .ok (.iload 4, 2) := by decide +kernel
theorem dX2_append_32 : decode cX2_append 32 = .ok (.imul, 1) := by decide +kernel
theorem dX2_append_33 : decode cX2_append 33 = .ok (.lushr, 1) := by decide +kernel
theorem dX2_append_34 : decode cX2_append 34 = .ok (.ldc2_w 32, 3) := by decide +kernel
theorem dX2_append_37 : decode cX2_append 37 = .ok (.land, 1) := by decide +kernel
theorem dX2_append_38 : decode cX2_append 38 = .ok (.l2i, 1) := by decide +kernel
theorem dX2_append_39 : decode cX2_append 39 = .ok (.i2c, 1) := by decide +kernel
theorem dX2_append_40 : decode cX2_append 40 = .ok (.castore, 1) := by decide +kernel
theorem dX2_append_41 : decode cX2_append 41 = .ok (.aload_n 0, 1) := by decide +kernel
theorem dX2_append_42 : decode cX2_append 42 = .ok (.dup, 1) := by decide +kernel
theorem dX2_append_43 : decode cX2_append 43 = .ok (.getfield 15, 3) := by decide +kernel
theorem dX2_append_46 : decode cX2_append 46 = .ok (.iconst 1, 1) := by decide +kernel
theorem dX2_append_47 : decode cX2_append 47 = .ok (.iadd, 1) := by decide +kernel
theorem dX2_append_48 : decode cX2_append 48 = .ok (.putfield 15, 3) := by decide +kernel
theorem dX2_append_51 : decode cX2_append 51 = .ok (.iinc 4 (-1), 3) := by decide +kernel
theorem dX2_append_54 : decode cX2_append 54 = .ok (.goto (-49), 3) := by decide +kernel
theorem dX2_append_57 : decode cX2_append 57 = .ok (.return_, 1) := by decide +kernel
theorem dX2_clear_0 : decode cX2_clear 0 = .ok (.aload_n 0, 1) := by decide +kernel
theorem dX2_clear_1 : decode cX2_clear 1 = .ok (.getfield 15, 3) := by decide +kernel
theorem dX2_clear_4 : decode cX2_clear 4 = .ok (.istore_n 1, 1) := by decide +kernel
theorem dX2_clear_5 : decode cX2_clear 5 = .ok (.aload_n 0, 1) := by decide +kernel
theorem dX2_clear_6 : decode cX2_clear 6 = .ok (.iconst 0, 1) := by decide +kernel
theorem dX2_clear_7 : decode cX2_clear 7 = .ok (.putfield 15, 3) := by decide +kernel
theorem dX2_clear_10 : decode cX2_clear 10 = .ok (.iload_n 1, 1) := by decide +kernel
theorem dX2_clear_11 : decode cX2_clear 11 = .ok (.ireturn, 1) := by decide +kernel
set_option maxRecDepth 20000 in
theorem ggX2_findFault_X2_startReading : GoodIn wsX2_findFault wsX2_startReading := goodIn_r _ [7, 1, 32, 33, 34, 35, 36, 37] (by decide +kernel) (by decide +kernel)
set_option maxRecDepth 20000 in
theorem gX2_findFault_X2_startReading : GoodIn wsX2_findFault (wsV RX2 34 RX2 yX2_startReading wsX2_startReading) := goodIn_app (goodIn_of _ (by decide +kernel)) ggX2_findFault_X2_startReading
set_option maxRecDepth 20000 in
theorem ggX2_findFault_X2_readOrder : GoodIn wsX2_findFault wsX2_readOrder := goodIn_r _ [11, 1, 2, 12, 13, 14, 15, 16, 6, 17, 18, 19, 20, 21, 22, 23, 24, 25, 26, 27, 28, 29, 30, 31, 32, 33, 34, 35, 36, 37] (by decide +kernel) (by decide +kernel)
set_option maxRecDepth 20000 in
theorem gX2_findFault_X2_readOrder : GoodIn wsX2_findFault (wsV RX2 37 RX2 yX2_readOrder wsX2_readOrder) := goodIn_app (goodIn_of _ (by decide +kernel)) ggX2_findFault_X2_readOrder
set_option maxRecDepth 20000 in
theorem ggX2_findFault_X2_readSign : GoodIn wsX2_findFault wsX2_readSign := goodIn_r _ [31, 1, 2, 12, 32, 33, 34, 35, 36, 37] (by decide +kernel) (by decide +kernel)
set_option maxRecDepth 20000 in
theorem gX2_findFault_X2_readSign : GoodIn wsX2_findFault (wsV RX2 41 RX2 yX2_readSign wsX2_readSign) := goodIn_app (goodIn_of _ (by decide +kernel)) ggX2_findFault_X2_readSign
theorem dX2_findFault_0 : decode cX2_findFault 0 = .ok (.aload_n 0, 1) := by decide +kernel
theorem dX2_findFault_1 : decode cX2_findFault 1 = .ok (.invokevirtual 34, 3) := by decide +kernel
theorem dX2_findFault_4 : decode cX2_findFault 4 = .ok (.iconst 0, 1) := by decide +kernel
theorem dX2_findFault_5 : decode cX2_findFault 5 = .ok (.istore_n 1, 1) := by decide +kernel
theorem dX2_findFault_6 : decode cX2_findFault 6 = .ok (.iload_n 1, 1) := by decide +kernel
theorem dX2_findFault_7 : decode cX2_findFault 7 = .ok (.bipush 80, 2) := by decide +kernel
theorem dX2_findFault_9 : decode cX2_findFault 9 = .ok (.if_icmp .ge 46, 3) := by decide +kernel
theorem dX2_findFault_12 : decode cX2_findFault 12 = .ok (.aload_n 0, 1) := by decide +kernel
theorem dX2_findFault_13 : decode cX2_findFault 13 = .ok (.invokevirtual 37, 3) := by decide +kernel
theorem dX2_findFault_16 : decode cX2_findFault 16 = .ok (.ifCond .eq 39, 3) := by decide +kernel
theorem dX2_findFault_19 : decode cX2_findFault 19 = .ok (.aload_n 0, 1) := by decide +kernel
theorem dX2_findFault_20 : decode cX2_findFault 20 = .ok (.bipush 59, 2) := by decide +kernel
theorem dX2_findFault_22 : decode cX2_findFault 22 = .ok (.invokevirtual 41, 3) := by decide +kernel
theorem dX2_findFault_25 : decode cX2_findFault 25 = .ok (.ifCond .ne 24, 3) := by decide +kernel
theorem dX2_findFault_28 : decode cX2_findFault 28 = .ok (.aload_n 0, 1) := by decide +kernel
theorem dX2_findFault_29 : decode cX2_findFault 29 = .ok (.getfield 19, 3) := by decide +kernel
theorem dX2_findFault_32 : decode cX2_findFault 32 = .ok (.aload_n 0, 1) := by decide +kernel
theorem dX2_findFault_33 : decode cX2_findFault 33 = .ok (.getfield 15, 3) := by decide +kernel
theorem dX2_findFault_36 : decode cX2_findFault 36 = .ok (.if_icmp .ne 8, 3) := by decide +kernel
theorem dX2_findFault_39 : decode cX2_findFault 39 = .ok (.bipush (-6), 2) := by decide +kernel
theorem dX2_findFault_41 : decode cX2_findFault 41 = .ok (.goto 7, 3) := by decide +kernel
theorem dX2_findFault_44 : decode cX2_findFault 44 = .ok (.aload_n 0, 1) := by decide +kernel
theorem dX2_findFault_45 : decode cX2_findFault 45 = .ok (.getfield 19, 3) := by decide +kernel
theorem dX2_findFault_48 : decode cX2_findFault 48 = .ok (.ireturn, 1) := by decide +kernel
theorem dX2_findFault_49 : decode cX2_findFault 49 = .ok (.iinc 1 1, 3) := by decide +kernel
theorem dX2_findFault_52 : decode cX2_findFault 52 = .ok (.goto (-46), 3) := by decide +kernel
theorem dX2_findFault_55 : decode cX2_findFault 55 = .ok (.aload_n 0, 1) := by decide +kernel
theorem dX2_findFault_56 : decode cX2_findFault 56 = .ok (.getfield 19, 3) := by decide +kernel
theorem dX2_findFault_59 : decode cX2_findFault 59 = .ok (.ireturn, 1) := by decide +kernel
theorem dX2_startReading_0 : decode cX2_startReading 0 = .ok (.aload_n 0, 1) := by decide +kernel
theorem dX2_startReading_1 : decode cX2_startReading 1 = .ok (.iconst 0, 1) := by decide +kernel
theorem dX2_startReading_2 : decode cX2_startReading 2 = .ok (.putfield 19, 3) := by decide +kernel
theorem dX2_startReading_5 : decode cX2_startReading 5 = .ok (.return_, 1) := by decide +kernel
set_option maxRecDepth 20000 in
theorem ggX2_readOrder_X2_readNumber : GoodIn wsX2_readOrder wsX2_readNumber := goodIn_r _ [9, 10, 3, 1, 11, 12, 13, 8, 14, 2, 24, 25, 26, 27, 28, 29] (by decide +kernel) (by decide +kernel)
set_option maxRecDepth 20000 in
theorem gX2_readOrder_X2_readNumber : GoodIn wsX2_readOrder (wsV RX2 45 RX2 yX2_readNumber wsX2_readNumber) := goodIn_app (goodIn_of _ (by decide +kernel)) ggX2_readOrder_X2_readNumber
set_option maxRecDepth 20000 in
theorem ggX2_readOrder_X2_readLanding : GoodIn wsX2_readOrder wsX2_readLanding := goodIn_r _ [18, 3, 1, 19, 11, 12, 13, 8, 14, 2, 24, 25, 26, 27, 28, 29] (by decide +kernel) (by decide +kernel)
set_option maxRecDepth 20000 in
theorem gX2_readOrder_X2_readLanding : GoodIn wsX2_readOrder (wsV RX2 48 RX2 yX2_readLanding wsX2_readLanding) := goodIn_app (goodIn_of _ (by decide +kernel)) ggX2_readOrder_X2_readLanding
set_option maxRecDepth 20000 in
theorem ggX2_readOrder_X2_readSign : GoodIn wsX2_readOrder wsX2_readSign := goodIn_r _ [23, 1, 2, 3, 24, 25, 26, 27, 28, 29] (by decide +kernel) (by decide +kernel)
set_option maxRecDepth 20000 in
theorem gX2_readOrder_X2_readSign : GoodIn wsX2_readOrder (wsV RX2 41 RX2 yX2_readSign wsX2_readSign) := goodIn_app (goodIn_of _ (by decide +kernel)) ggX2_readOrder_X2_readSign
theorem dX2_readOrder_0 : decode cX2_readOrder 0 = .ok (.aload_n 0, 1) := by decide +kernel
theorem dX2_readOrder_1 : decode cX2_readOrder 1 = .ok (.getfield 19, 3) := by decide +kernel
theorem dX2_readOrder_4 : decode cX2_readOrder 4 = .ok (.aload_n 0, 1) := by decide +kernel
theorem dX2_readOrder_5 : decode cX2_readOrder 5 = .ok (.getfield 15, 3) := by decide +kernel
theorem dX2_readOrder_8 : decode cX2_readOrder 8 = .ok (.if_icmp .lt 5, 3) := by decide +kernel
theorem dX2_readOrder_11 : decode cX2_readOrder 11 = .ok (.iconst 0, 1) := by decide +kernel
theorem dX2_readOrder_12 : decode cX2_readOrder 12 = .ok (.ireturn, 1) := by decide +kernel
theorem dX2_readOrder_13 : decode cX2_readOrder 13 = .ok (.aload_n 0, 1) := by decide +kernel
theorem dX2_readOrder_14 : decode cX2_readOrder 14 = .ok (.aload_n 0, 1) := by decide +kernel
theorem dX2_readOrder_15 : decode cX2_readOrder 15 = .ok (.getfield 9, 3) := by decide +kernel
theorem dX2_readOrder_18 : decode cX2_readOrder 18 = .ok (.aload_n 0, 1) := by decide +kernel
theorem dX2_readOrder_19 : decode cX2_readOrder 19 = .ok (.getfield 19, 3) := by decide +kernel
theorem dX2_readOrder_22 : decode cX2_readOrder 22 = .ok (.caload, 1) := by decide +kernel
theorem dX2_readOrder_23 : decode cX2_readOrder 23 = .ok (.putfield 22, 3) := by decide +kernel
theorem dX2_readOrder_26 : decode cX2_readOrder 26 = .ok (.aload_n 0, 1) := by decide +kernel
theorem dX2_readOrder_27 : decode cX2_readOrder 27 = .ok (.getfield 22, 3) := by decide +kernel
theorem dX2_readOrder_30 : decode cX2_readOrder 30 = .ok (.lookupswitch 119 #[(43, 50), (99, 65), (111, 65), (112, 80), (116, 50)], 50) := by decide +kernel
theorem dX2_readOrder_80 : decode cX2_readOrder 80 = .ok (.aload_n 0, 1) := by decide +kernel
theorem dX2_readOrder_81 : decode cX2_readOrder 81 = .ok (.dup, 1) := by decide +kernel
theorem dX2_readOrder_82 : decode cX2_readOrder 82 = .ok (.getfield 19, 3) := by decide +kernel
theorem dX2_readOrder_85 : decode cX2_readOrder 85 = .ok (.iconst 1, 1) := by decide +kernel
theorem dX2_readOrder_86 : decode cX2_readOrder 86 = .ok (.iadd, 1) := by decide +kernel
theorem dX2_readOrder_87 : decode cX2_readOrder 87 = .ok (.putfield 19, 3) := by decide +kernel
theorem dX2_readOrder_90 : decode cX2_readOrder 90 = .ok (.aload_n 0, 1) := by decide +kernel
theorem dX2_readOrder_91 : decode cX2_readOrder 91 = .ok (.invokevirtual 45, 3) := by decide +kernel
theorem dX2_readOrder_94 : decode cX2_readOrder 94 = .ok (.ireturn, 1) := by decide +kernel
theorem dX2_readOrder_95 : decode cX2_readOrder 95 = .ok (.aload_n 0, 1) := by decide +kernel
theorem dX2_readOrder_96 : decode cX2_readOrder 96 = .ok (.dup, 1) := by decide +kernel
theorem dX2_readOrder_97 : decode cX2_readOrder 97 = .ok (.getfield 19, 3) := by decide +kernel
theorem dX2_readOrder_100 : decode cX2_readOrder 100 = .ok (.iconst 1, 1) := by decide +kernel
theorem dX2_readOrder_101 : decode cX2_readOrder 101 = .ok (.iadd, 1) := by decide +kernel
theorem dX2_readOrder_102 : decode cX2_readOrder 102 = .ok (.putfield 19, 3) := by decide +kernel
theorem dX2_readOrder_105 : decode cX2_readOrder 105 = .ok (.aload_n 0, 1) := by decide +kernel
theorem dX2_readOrder_106 : decode cX2_readOrder 106 = .ok (.invokevirtual 48, 3) := by decide +kernel
theorem dX2_readOrder_109 : decode cX2_readOrder 109 = .ok (.ireturn, 1) := by decide +kernel
theorem dX2_readOrder_110 : decode cX2_readOrder 110 = .ok (.aload_n 0, 1) := by decide +kernel
theorem dX2_readOrder_111 : decode cX2_readOrder 111 = .ok (.dup, 1) := by decide +kernel
theorem dX2_readOrder_112 : decode cX2_readOrder 112 = .ok (.getfield 19, 3) := by decide +kernel
theorem dX2_readOrder_115 : decode cX2_readOrder 115 = .ok (.iconst 1, 1) := by decide +kernel
theorem dX2_readOrder_116 : decode cX2_readOrder 116 = .ok (.iadd, 1) := by decide +kernel
theorem dX2_readOrder_117 : decode cX2_readOrder 117 = .ok (.putfield 19, 3) := by decide +kernel
theorem dX2_readOrder_120 : decode cX2_readOrder 120 = .ok (.aload_n 0, 1) := by decide +kernel
theorem dX2_readOrder_121 : decode cX2_readOrder 121 = .ok (.invokevirtual 48, 3) := by decide +kernel
theorem dX2_readOrder_124 : decode cX2_readOrder 124 = .ok (.ifCond .eq 23, 3) := by decide +kernel
theorem dX2_readOrder_127 : decode cX2_readOrder 127 = .ok (.aload_n 0, 1) := by decide +kernel
theorem dX2_readOrder_128 : decode cX2_readOrder 128 = .ok (.bipush 61, 2) := by decide +kernel
theorem dX2_readOrder_130 : decode cX2_readOrder 130 = .ok (.invokevirtual 41, 3) := by decide +kernel
theorem dX2_readOrder_133 : decode cX2_readOrder 133 = .ok (.ifCond .eq 14, 3) := by decide +kernel
theorem dX2_readOrder_136 : decode cX2_readOrder 136 = .ok (.aload_n 0, 1) := by decide +kernel
theorem dX2_readOrder_137 : decode cX2_readOrder 137 = .ok (.invokevirtual 45, 3) := by decide +kernel
theorem dX2_readOrder_140 : decode cX2_readOrder 140 = .ok (.ifCond .eq 7, 3) := by decide +kernel
theorem dX2_readOrder_143 : decode cX2_readOrder 143 = .ok (.iconst 1, 1) := by decide +kernel
theorem dX2_readOrder_144 : decode cX2_readOrder 144 = .ok (.goto 4, 3) := by decide +kernel
theorem dX2_readOrder_147 : decode cX2_readOrder 147 = .ok (.iconst 0, 1) := by decide +kernel
theorem dX2_readOrder_148 : decode cX2_readOrder 148 = .ok (.ireturn, 1) := by decide +kernel
theorem dX2_readOrder_149 : decode cX2_readOrder 149 = .ok (.iconst 0, 1) := by decide +kernel
theorem dX2_readOrder_150 : decode cX2_readOrder 150 = .ok (.ireturn, 1) := by decide +kernel
theorem dX2_readSign_0 : decode cX2_readSign 0 = .ok (.aload_n 0, 1) := by decide +kernel
theorem dX2_readSign_1 : decode cX2_readSign 1 = .ok (.getfield 19, 3) := by decide +kernel
theorem dX2_readSign_4 : decode cX2_readSign 4 = .ok (.aload_n 0, 1) := by decide +kernel
theorem dX2_readSign_5 : decode cX2_readSign 5 = .ok (.getfield 15, 3) := by decide +kernel
theorem dX2_readSign_8 : decode cX2_readSign 8 = .ok (.if_icmp .ge 16, 3) := by decide +kernel
theorem dX2_readSign_11 : decode cX2_readSign 11 = .ok (.aload_n 0, 1) := by decide +kernel
theorem dX2_readSign_12 : decode cX2_readSign 12 = .ok (.getfield 9, 3) := by decide +kernel
theorem dX2_readSign_15 : decode cX2_readSign 15 = .ok (.aload_n 0, 1) := by decide +kernel
theorem dX2_readSign_16 : decode cX2_readSign 16 = .ok (.getfield 19, 3) := by decide +kernel
theorem dX2_readSign_19 : decode cX2_readSign 19 = .ok (.caload, 1) := by decide +kernel
theorem dX2_readSign_20 : decode cX2_readSign 20 = .ok (.iload_n 1, 1) := by decide +kernel
theorem dX2_readSign_21 : decode cX2_readSign 21 = .ok (.if_icmp .eq 5, 3) := by decide +kernel
theorem dX2_readSign_24 : decode cX2_readSign 24 = .ok (.iconst 0, 1) := by decide +kernel
theorem dX2_readSign_25 : decode cX2_readSign 25 = .ok (.ireturn, 1) := by decide +kernel
theorem dX2_readSign_26 : decode cX2_readSign 26 = .ok (.aload_n 0, 1) := by decide +kernel
theorem dX2_readSign_27 : decode cX2_readSign 27 = .ok (.dup, 1) := by decide +kernel
theorem dX2_readSign_28 : decode cX2_readSign 28 = .ok (.getfield 19, 3) := by decide +kernel
theorem dX2_readSign_31 : decode cX2_readSign 31 = .ok (.iconst 1, 1) := by decide +kernel
theorem dX2_readSign_32 : decode cX2_readSign 32 = .ok (.iadd, 1) := by decide +kernel
theorem dX2_readSign_33 : decode cX2_readSign 33 = .ok (.putfield 19, 3) := by decide +kernel
theorem dX2_readSign_36 : decode cX2_readSign 36 = .ok (.iconst 1, 1) := by decide +kernel
theorem dX2_readSign_37 : decode cX2_readSign 37 = .ok (.ireturn, 1) := by decide +kernel
set_option maxRecDepth 20000 in
theorem ggX2_readLanding_X2_isAtDigit : GoodIn wsX2_readLanding wsX2_isAtDigit := goodIn_r _ [8, 2, 9, 1, 10, 11, 12, 13, 14, 15] (by decide +kernel) (by decide +kernel)
set_option maxRecDepth 20000 in
theorem gX2_readLanding_X2_isAtDigit : GoodIn wsX2_readLanding (wsV RX2 51 RX2 yX2_isAtDigit wsX2_isAtDigit) := goodIn_app (goodIn_of _ (by decide +kernel)) ggX2_readLanding_X2_isAtDigit
theorem dX2_readLanding_0 : decode cX2_readLanding 0 = .ok (.aload_n 0, 1) := by decide +kernel
theorem dX2_readLanding_1 : decode cX2_readLanding 1 = .ok (.invokevirtual 51, 3) := by decide +kernel
theorem dX2_readLanding_4 : decode cX2_readLanding 4 = .ok (.ifCond .ne 5, 3) := by decide +kernel
theorem dX2_readLanding_7 : decode cX2_readLanding 7 = .ok (.iconst 0, 1) := by decide +kernel
theorem dX2_readLanding_8 : decode cX2_readLanding 8 = .ok (.ireturn, 1) := by decide +kernel
theorem dX2_readLanding_9 : decode cX2_readLanding 9 = .ok (.aload_n 0, 1) := by decide +kernel
theorem dX2_readLanding_10 : decode cX2_readLanding 10 = .ok (.aload_n 0, 1) := by decide +kernel
theorem dX2_readLanding_11 : decode cX2_readLanding 11 = .ok (.getfield 9, 3) := by decide +kernel
theorem dX2_readLanding_14 : decode cX2_readLanding 14 = .ok (.aload_n 0, 1) := by decide +kernel
theorem dX2_readLanding_15 : decode cX2_readLanding 15 = .ok (.getfield 19, 3) := by decide +kernel
theorem dX2_readLanding_18 : decode cX2_readLanding 18 = .ok (.caload, 1) := by decide +kernel
theorem dX2_readLanding_19 : decode cX2_readLanding 19 = .ok (.bipush 48, 2) := by decide +kernel
theorem dX2_readLanding_21 : decode cX2_readLanding 21 = .ok (.isub, 1) := by decide +kernel
theorem dX2_readLanding_22 : decode cX2_readLanding 22 = .ok (.putfield 26, 3) := by decide +kernel
theorem dX2_readLanding_25 : decode cX2_readLanding 25 = .ok (.aload_n 0, 1) := by decide +kernel
theorem dX2_readLanding_26 : decode cX2_readLanding 26 = .ok (.dup, 1) := by decide +kernel
theorem dX2_readLanding_27 : decode cX2_readLanding 27 = .ok (.getfield 19, 3) := by decide +kernel
theorem dX2_readLanding_30 : decode cX2_readLanding 30 = .ok (.iconst 1, 1) := by decide +kernel
theorem dX2_readLanding_31 : decode cX2_readLanding 31 = .ok (.iadd, 1) := by decide +kernel
theorem dX2_readLanding_32 : decode cX2_readLanding 32 = .ok (.putfield 19, 3) := by decide +kernel
theorem dX2_readLanding_35 : decode cX2_readLanding 35 = .ok (.iconst 1, 1) := by decide +kernel
theorem dX2_readLanding_36 : decode cX2_readLanding 36 = .ok (.ireturn, 1) := by decide +kernel
set_option maxRecDepth 20000 in
theorem ggX2_readNumber_X2_isAtDigit : GoodIn wsX2_readNumber wsX2_isAtDigit := goodIn_r _ [8, 3, 9, 2, 10, 11, 12, 13, 14, 15] (by decide +kernel) (by decide +kernel)
set_option maxRecDepth 20000 in
theorem gX2_readNumber_X2_isAtDigit : GoodIn wsX2_readNumber (wsV RX2 51 RX2 yX2_isAtDigit wsX2_isAtDigit) := goodIn_app (goodIn_of _ (by decide +kernel)) ggX2_readNumber_X2_isAtDigit
theorem dX2_readNumber_0 : decode cX2_readNumber 0 = .ok (.aload_n 0, 1) := by decide +kernel
theorem dX2_readNumber_1 : decode cX2_readNumber 1 = .ok (.invokevirtual 51, 3) := by decide +kernel
theorem dX2_readNumber_4 : decode cX2_readNumber 4 = .ok (.ifCond .ne 5, 3) := by decide +kernel
theorem dX2_readNumber_7 : decode cX2_readNumber 7 = .ok (.iconst 0, 1) := by decide +kernel
theorem dX2_readNumber_8 : decode cX2_readNumber 8 = .ok (.ireturn, 1) := by decide +kernel
theorem dX2_readNumber_9 : decode cX2_readNumber 9 = .ok (.aload_n 0, 1) := by decide +kernel
theorem dX2_readNumber_10 : decode cX2_readNumber 10 = .ok (.iconst 0, 1) := by decide +kernel
theorem dX2_readNumber_11 : decode cX2_readNumber 11 = .ok (.putfield 29, 3) := by decide +kernel
theorem dX2_readNumber_14 : decode cX2_readNumber 14 = .ok (.iconst 0, 1) := by decide +kernel
theorem dX2_readNumber_15 : decode cX2_readNumber 15 = .ok (.istore_n 1, 1) := by decide +kernel
theorem dX2_readNumber_16 : decode cX2_readNumber 16 = .ok (.iload_n 1, 1) := by decide +kernel
theorem dX2_readNumber_17 : decode cX2_readNumber 17 = .ok (.iconst 3, 1) := by decide +kernel
theorem dX2_readNumber_18 : decode cX2_readNumber 18 = .ok (.if_icmp .ge 61, 3) := by decide +kernel
theorem dX2_readNumber_21 : decode cX2_readNumber 21 = .ok (.aload_n 0, 1) := by decide +kernel
theorem dX2_readNumber_22 : decode cX2_readNumber 22 = .ok (.invokevirtual 51, 3) := by decide +kernel
theorem dX2_readNumber_25 : decode cX2_readNumber 25 = .ok (.ifCond .eq 54, 3) := by decide +kernel
theorem dX2_readNumber_28 : decode cX2_readNumber 28 = .ok (.iload_n 1, 1) := by decide +kernel
theorem dX2_readNumber_29 : decode cX2_readNumber 29 = .ok (.ifCond .eq 10, 3) := by decide +kernel
theorem dX2_readNumber_32 : decode cX2_readNumber 32 = .ok (.aload_n 0, 1) := by decide +kernel
theorem dX2_readNumber_33 : decode cX2_readNumber 33 = .ok (.getfield 29, 3) := by decide +kernel
theorem dX2_readNumber_36 : decode cX2_readNumber 36 = .ok (.ifCond .le 43, 3) := by decide +kernel
theorem dX2_readNumber_39 : decode cX2_readNumber 39 = .ok (.aload_n 0, 1) := by decide +kernel
theorem dX2_readNumber_40 : decode cX2_readNumber 40 = .ok (.aload_n 0, 1) := by decide +kernel
theorem dX2_readNumber_41 : decode cX2_readNumber 41 = .ok (.getfield 29, 3) := by decide +kernel
theorem dX2_readNumber_44 : decode cX2_readNumber 44 = .ok (.bipush 10, 2) := by decide +kernel
theorem dX2_readNumber_46 : decode cX2_readNumber 46 = .ok (.imul, 1) := by decide +kernel
theorem dX2_readNumber_47 : decode cX2_readNumber 47 = .ok (.aload_n 0, 1) := by decide +kernel
theorem dX2_readNumber_48 : decode cX2_readNumber 48 = .ok (.getfield 9, 3) := by decide +kernel
theorem dX2_readNumber_51 : decode cX2_readNumber 51 = .ok (.aload_n 0, 1) := by decide +kernel
theorem dX2_readNumber_52 : decode cX2_readNumber 52 = .ok (.getfield 19, 3) := by decide +kernel
theorem dX2_readNumber_55 : decode cX2_readNumber 55 = .ok (.caload, 1) := by decide +kernel
theorem dX2_readNumber_56 : decode cX2_readNumber 56 = .ok (.iadd, 1) := by decide +kernel
theorem dX2_readNumber_57 : decode cX2_readNumber 57 = .ok (.bipush 48, 2) := by decide +kernel
theorem dX2_readNumber_59 : decode cX2_readNumber 59 = .ok (.isub, 1) := by decide +kernel
theorem dX2_readNumber_60 : decode cX2_readNumber 60 = .ok (.putfield 29, 3) := by decide +kernel
theorem dX2_readNumber_63 : decode cX2_readNumber 63 = .ok (.aload_n 0, 1) := by decide +kernel
theorem dX2_readNumber_64 : decode cX2_readNumber 64 = .ok (.dup, 1) := by decide +kernel
theorem dX2_readNumber_65 : decode cX2_readNumber 65 = .ok (.getfield 19, 3) := by decide +kernel
theorem dX2_readNumber_68 : decode cX2_readNumber 68 = .ok (.iconst 1, 1) := by decide +kernel
theorem dX2_readNumber_69 : decode cX2_readNumber 69 = .ok (.iadd, 1) := by decide +kernel
theorem dX2_readNumber_70 : decode cX2_readNumber 70 = .ok (.putfield 19, 3) := by decide +kernel
theorem dX2_readNumber_73 : decode cX2_readNumber 73 = .ok (.iinc 1 1, 3) := by decide +kernel
theorem dX2_readNumber_76 : decode cX2_readNumber 76 = .ok (.goto (-60), 3) := by decide +kernel
theorem dX2_readNumber_79 : decode cX2_readNumber 79 = .ok (.iconst 1, 1) := by decide +kernel
theorem dX2_readNumber_80 : decode cX2_readNumber 80 = .ok (.ireturn, 1) := by decide +kernel
theorem dX2_isAtDigit_0 : decode cX2_isAtDigit 0 = .ok (.aload_n 0, 1) := by decide +kernel
theorem dX2_isAtDigit_1 : decode cX2_isAtDigit 1 = .ok (.getfield 19, 3) := by decide +kernel
theorem dX2_isAtDigit_4 : decode cX2_isAtDigit 4 = .ok (.aload_n 0, 1) := by decide +kernel
theorem dX2_isAtDigit_5 : decode cX2_isAtDigit 5 = .ok (.getfield 15, 3) := by decide +kernel
theorem dX2_isAtDigit_8 : decode cX2_isAtDigit 8 = .ok (.if_icmp .ge 35, 3) := by decide +kernel
theorem dX2_isAtDigit_11 : decode cX2_isAtDigit 11 = .ok (.aload_n 0, 1) := by decide +kernel
theorem dX2_isAtDigit_12 : decode cX2_isAtDigit 12 = .ok (.getfield 9, 3) := by decide +kernel
theorem dX2_isAtDigit_15 : decode cX2_isAtDigit 15 = .ok (.aload_n 0, 1) := by decide +kernel
theorem dX2_isAtDigit_16 : decode cX2_isAtDigit 16 = .ok (.getfield 19, 3) := by decide +kernel
theorem dX2_isAtDigit_19 : decode cX2_isAtDigit 19 = .ok (.caload, 1) := by decide +kernel
theorem dX2_isAtDigit_20 : decode cX2_isAtDigit 20 = .ok (.bipush 48, 2) := by decide +kernel
theorem dX2_isAtDigit_22 : decode cX2_isAtDigit 22 = .ok (.if_icmp .lt 21, 3) := by decide +kernel
theorem dX2_isAtDigit_25 : decode cX2_isAtDigit 25 = .ok (.aload_n 0, 1) := by decide +kernel
theorem dX2_isAtDigit_26 : decode cX2_isAtDigit 26 = .ok (.getfield 9, 3) := by decide +kernel
theorem dX2_isAtDigit_29 : decode cX2_isAtDigit 29 = .ok (.aload_n 0, 1) := by decide +kernel
theorem dX2_isAtDigit_30 : decode cX2_isAtDigit 30 = .ok (.getfield 19, 3) := by decide +kernel
theorem dX2_isAtDigit_33 : decode cX2_isAtDigit 33 = .ok (.caload, 1) := by decide +kernel
theorem dX2_isAtDigit_34 : decode cX2_isAtDigit 34 = .ok (.bipush 57, 2) := by decide +kernel
theorem dX2_isAtDigit_36 : decode cX2_isAtDigit 36 = .ok (.if_icmp .gt 7, 3) := by decide +kernel
theorem dX2_isAtDigit_39 : decode cX2_isAtDigit 39 = .ok (.iconst 1, 1) := by decide +kernel
theorem dX2_isAtDigit_40 : decode cX2_isAtDigit 40 = .ok (.goto 4, 3) := by decide +kernel
theorem dX2_isAtDigit_43 : decode cX2_isAtDigit 43 = .ok (.iconst 0, 1) := by decide +kernel
theorem dX2_isAtDigit_44 : decode cX2_isAtDigit 44 = .ok (.ireturn, 1) := by decide +kernel
set_option maxRecDepth 20000 in
theorem ggX3_init_X0_init : GoodIn wsX3_init wsX0_init := goodIn_r _ [24, 25, 2, 3, 26, 27, 28, 29, 30, 31, 42, 43, 44, 45, 46] (by decide +kernel) (by decide +kernel)
set_option maxRecDepth 20000 in
theorem gX3_init_X0_init_n44 : GoodIn wsX3_init (wsX0_init) := ggX3_init_X0_init
set_option maxRecDepth 20000 in
theorem ggX3_init_X1_init : GoodIn wsX3_init wsX1_init := goodIn_r _ [33, 34, 2, 3] (by decide +kernel) (by decide +kernel)
set_option maxRecDepth 20000 in
theorem gX3_init_X1_init_n49 : GoodIn wsX3_init (wsX1_init) := ggX3_init_X1_init
theorem dX3_init_0 : decode cX3_init 0 = .ok (.aload_n 0, 1) := by decide +kernel
theorem dX3_init_1 : decode cX3_init 1 = .ok (.invokespecial 3, 3) := by decide +kernel
theorem dX3_init_4 : decode cX3_init 4 = .ok (.aload_n 0, 1) := by decide +kernel
theorem dX3_init_5 : decode cX3_init 5 = .ok (.getstatic 9, 3) := by decide +kernel
theorem dX3_init_8 : decode cX3_init 8 = .ok (.invokevirtual 13, 3) := by decide +kernel
theorem dX3_init_11 : decode cX3_init 11 = .ok (.checkcast 14, 3) := by decide +kernel
theorem dX3_init_14 : decode cX3_init 14 = .ok (.putfield 18, 3) := by decide +kernel
theorem dX3_init_17 : decode cX3_init 17 = .ok (.aload_n 0, 1) := by decide +kernel
theorem dX3_init_18 : decode cX3_init 18 = .ok (.bipush 8, 2) := by decide +kernel
theorem dX3_init_20 : decode cX3_init 20 = .ok (.anewarray 23, 3) := by decide +kernel
theorem dX3_init_23 : decode cX3_init 23 = .ok (.putfield 25, 3) := by decide +kernel
theorem dX3_init_26 : decode cX3_init 26 = .ok (.aload_n 0, 1) := by decide +kernel
theorem dX3_init_27 : decode cX3_init 27 = .ok (.iconst 0, 1) := by decide +kernel
theorem dX3_init_28 : decode cX3_init 28 = .ok (.putfield 29, 3) := by decide +kernel
theorem dX3_init_31 : decode cX3_init 31 = .ok (.aload_n 0, 1) := by decide +kernel
theorem dX3_init_32 : decode cX3_init 32 = .ok (.iconst 0, 1) := by decide +kernel
theorem dX3_init_33 : decode cX3_init 33 = .ok (.putfield 33, 3) := by decide +kernel
theorem dX3_init_36 : decode cX3_init 36 = .ok (.aload_n 0, 1) := by decide +kernel
theorem dX3_init_37 : decode cX3_init 37 = .ok (.bipush (-6), 2) := by decide +kernel
theorem dX3_init_39 : decode cX3_init 39 = .ok (.putfield 36, 3) := by decide +kernel
theorem dX3_init_42 : decode cX3_init 42 = .ok (.aload_n 0, 1) := by decide +kernel
theorem dX3_init_43 : decode cX3_init 43 = .ok (.iconst 0, 1) := by decide +kernel
theorem dX3_init_44 : decode cX3_init 44 = .ok (.putfield 39, 3) := by decide +kernel
theorem dX3_init_47 : decode cX3_init 47 = .ok (.aload_n 0, 1) := by decide +kernel
theorem dX3_init_48 : decode cX3_init 48 = .ok (.new 42, 3) := by decide +kernel
theorem dX3_init_51 : decode cX3_init 51 = .ok (.dup, 1) := by decide +kernel
theorem dX3_init_52 : decode cX3_init 52 = .ok (.invokespecial 44, 3) := by decide +kernel
theorem dX3_init_55 : decode cX3_init 55 = .ok (.putfield 45, 3) := by decide +kernel
theorem dX3_init_58 : decode cX3_init 58 = .ok (.iconst 0, 1) := by decide +kernel
theorem dX3_init_59 : decode cX3_init 59 = .ok (.istore_n 1, 1) := by decide +kernel
theorem dX3_init_60 : decode cX3_init 60 = .ok (.iload_n 1, 1) := by decide +kernel
theorem dX3_init_61 : decode cX3_init 61 = .ok (.aload_n 0, 1) := by decide +kernel
theorem dX3_init_62 : decode cX3_init 62 = .ok (.getfield 25, 3) := by decide +kernel
theorem dX3_init_65 : decode cX3_init 65 = .ok (.arraylength, 1) := by decide +kernel
theorem dX3_init_66 : decode cX3_init 66 = .ok (.if_icmp .ge 22, 3) := by decide +kernel
theorem dX3_init_69 : decode cX3_init 69 = .ok (.aload_n 0, 1) := by decide +kernel
theorem dX3_init_70 : decode cX3_init 70 = .ok (.getfield 25, 3) := by decide +kernel
theorem dX3_init_73 : decode cX3_init 73 = .ok (.iload_n 1, 1) := by decide +kernel
theorem dX3_init_74 : decode cX3_init 74 = .ok (.new 23, 3) := by decide +kernel
theorem dX3_init_77 : decode cX3_init 77 = .ok (.dup, 1) := by decide +kernel
theorem dX3_init_78 : decode cX3_init 78 = .ok (.invokespecial 49, 3) := by decide +kernel
theorem dX3_init_81 : decode cX3_init 81 = .ok (.aastore, 1) := by decide +kernel
theorem dX3_init_82 : decode cX3_init 82 = .ok (.iinc 1 1, 3) := by decide +kernel
theorem dX3_init_85 : decode cX3_init 85 = .ok (.goto (-25), 3) := by decide +kernel
theorem dX3_init_88 : decode cX3_init 88 = .ok (.return_, 1) := by decide +kernel
set_option maxRecDepth 20000 in
theorem ggX3_copyFrom_X1_copyFrom : GoodIn wsX3_copyFrom wsX1_copyFrom := goodIn_r _ [16, 17, 18, 19, 20, 21, 22, 23, 24, 43, 44, 45, 46, 47, 48, 49, 50] (by decide +kernel) (by decide +kernel)
set_option maxRecDepth 20000 in
theorem gX3_copyFrom_X1_copyFrom : GoodIn wsX3_copyFrom (wsV RX3 56 RX1 yX1_copyFrom wsX1_copyFrom) := goodIn_app (goodIn_of _ (by decide +kernel)) ggX3_copyFrom_X1_copyFrom
set_option maxRecDepth 20000 in
theorem ggX3_copyFrom_X0_copyFrom : GoodIn wsX3_copyFrom wsX0_copyFrom := goodIn_r _ [29, 30, 31, 3, 4, 5, 32, 33, 34, 35, 51, 52, 53, 54, 55] (by decide +kernel) (by decide +kernel)
set_option maxRecDepth 20000 in
theorem gX3_copyFrom_X0_copyFrom : GoodIn wsX3_copyFrom (wsV RX3 60 RX0 yX0_copyFrom wsX0_copyFrom) := goodIn_app (goodIn_of _ (by decide +kernel)) ggX3_copyFrom_X0_copyFrom
theorem dX3_copyFrom_0 : decode cX3_copyFrom 0 = .ok (.aload_n 1, 1) := by decide +kernel
theorem dX3_copyFrom_1 : decode cX3_copyFrom 1 = .ok (.getfield 18, 3) := by decide +kernel
theorem dX3_copyFrom_4 : decode cX3_copyFrom 4 = .ok (.iconst 0, 1) := by decide +kernel
theorem dX3_copyFrom_5 : decode cX3_copyFrom 5 = .ok (.aload_n 0, 1) := by decide +kernel
theorem dX3_copyFrom_6 : decode cX3_copyFrom 6 = .ok (.getfield 18, 3) := by decide +kernel
theorem dX3_copyFrom_9 : decode cX3_copyFrom 9 = .ok (.iconst 0, 1) := by decide +kernel
theorem dX3_copyFrom_10 : decode cX3_copyFrom 10 = .ok (.aload_n 0, 1) := by decide +kernel
theorem dX3_copyFrom_11 : decode cX3_copyFrom 11 = .ok (.getfield 18, 3) := by decide +kernel
theorem dX3_copyFrom_14 : decode cX3_copyFrom 14 = .ok (.arraylength, 1) := by decide +kernel
theorem dX3_copyFrom_15 : decode cX3_copyFrom 15 = .ok (.invokestatic 50, 3) := by decide +kernel
theorem dX3_copyFrom_18 : decode cX3_copyFrom 18 = .ok (.iconst 0, 1) := by decide +kernel
theorem dX3_copyFrom_19 : decode cX3_copyFrom 19 = .ok (.istore_n 2, 1) := by decide +kernel
theorem dX3_copyFrom_20 : decode cX3_copyFrom 20 = .ok (.iload_n 2, 1) := by decide +kernel
theorem dX3_copyFrom_21 : decode cX3_copyFrom 21 = .ok (.aload_n 0, 1) := by decide +kernel
theorem dX3_copyFrom_22 : decode cX3_copyFrom 22 = .ok (.getfield 25, 3) := by decide +kernel
theorem dX3_copyFrom_25 : decode cX3_copyFrom 25 = .ok (.arraylength, 1) := by decide +kernel
theorem dX3_copyFrom_26 : decode cX3_copyFrom 26 = .ok (.if_icmp .ge 24, 3) := by decide +kernel
theorem dX3_copyFrom_29 : decode cX3_copyFrom 29 = .ok (.aload_n 0, 1) := by decide +kernel
theorem dX3_copyFrom_30 : decode cX3_copyFrom 30 = .ok (.getfield 25, 3) := by decide +kernel
theorem dX3_copyFrom_33 : decode cX3_copyFrom 33 = .ok (.iload_n 2, 1) := by decide +kernel
theorem dX3_copyFrom_34 : decode cX3_copyFrom 34 = .ok (.aaload, 1) := by decide +kernel
theorem dX3_copyFrom_35 : decode cX3_copyFrom 35 = .ok (.aload_n 1, 1) := by decide +kernel
theorem dX3_copyFrom_36 : decode cX3_copyFrom 36 = .ok (.getfield 25, 3) := by decide +kernel
theorem dX3_copyFrom_39 : decode cX3_copyFrom 39 = .ok (.iload_n 2, 1) := by decide +kernel
theorem dX3_copyFrom_40 : decode cX3_copyFrom 40 = .ok (.aaload, 1) := by decide +kernel
theorem dX3_copyFrom_41 : decode cX3_copyFrom 41 = .ok (.invokevirtual 56, 3) := by decide +kernel
theorem dX3_copyFrom_44 : decode cX3_copyFrom 44 = .ok (.iinc 2 1, 3) := by decide +kernel
theorem dX3_copyFrom_47 : decode cX3_copyFrom 47 = .ok (.goto (-27), 3) := by decide +kernel
theorem dX3_copyFrom_50 : decode cX3_copyFrom 50 = .ok (.aload_n 0, 1) := by decide +kernel
end
section
theorem dX3_copyFrom_51 : decode cX3_copyFrom 51 = .ok (.aload_n 1, 1) := by decide +kernel
theorem dX3_copyFrom_52 : decode cX3_copyFrom 52 = .ok (.getfield 29, 3) := by decide +kernel
theorem dX3_copyFrom_55 : decode cX3_copyFrom 55 = .ok (.putfield 29, 3) := by decide +kernel
theorem dX3_copyFrom_58 : decode cX3_copyFrom 58 = .ok (.aload_n 0, 1) := by decide +kernel
theorem dX3_copyFrom_59 : decode cX3_copyFrom 59 = .ok (.aload_n 1, 1) := by decide +kernel
theorem dX3_copyFrom_60 : decode cX3_copyFrom 60 = .ok (.getfield 33, 3) := by decide +kernel
theorem dX3_copyFrom_63 : decode cX3_copyFrom 63 = .ok (.putfield 33, 3) := by decide +kernel
theorem dX3_copyFrom_66 : decode cX3_copyFrom 66 = .ok (.aload_n 0, 1) := by decide +kernel
theorem dX3_copyFrom_67 : decode cX3_copyFrom 67 = .ok (.aload_n 1, 1) := by decide +kernel
theorem dX3_copyFrom_68 : decode cX3_copyFrom 68 = .ok (.getfield 36, 3) := by decide +kernel
theorem dX3_copyFrom_71 : decode cX3_copyFrom 71 = .ok (.putfield 36, 3) := by decide +kernel
theorem dX3_copyFrom_74 : decode cX3_copyFrom 74 = .ok (.aload_n 0, 1) := by decide +kernel
theorem dX3_copyFrom_75 : decode cX3_copyFrom 75 = .ok (.aload_n 1, 1) := by decide +kernel
theorem dX3_copyFrom_76 : decode cX3_copyFrom 76 = .ok (.getfield 39, 3) := by decide +kernel
theorem dX3_copyFrom_79 : decode cX3_copyFrom 79 = .ok (.putfield 39, 3) := by decide +kernel
theorem dX3_copyFrom_82 : decode cX3_copyFrom 82 = .ok (.aload_n 0, 1) := by decide +kernel
theorem dX3_copyFrom_83 : decode cX3_copyFrom 83 = .ok (.getfield 45, 3) := by decide +kernel
theorem dX3_copyFrom_86 : decode cX3_copyFrom 86 = .ok (.aload_n 1, 1) := by decide +kernel
theorem dX3_copyFrom_87 : decode cX3_copyFrom 87 = .ok (.getfield 45, 3) := by decide +kernel
theorem dX3_copyFrom_90 : decode cX3_copyFrom 90 = .ok (.invokevirtual 60, 3) := by decide +kernel
theorem dX3_copyFrom_93 : decode cX3_copyFrom 93 = .ok (.return_, 1) := by decide +kernel
theorem dX3_find_0 : decode cX3_find 0 = .ok (.iload_n 1, 1) := by decide +kernel
theorem dX3_find_1 : decode cX3_find 1 = .ok (.ifCond .lt 11, 3) := by decide +kernel
theorem dX3_find_4 : decode cX3_find 4 = .ok (.iload_n 1, 1) := by decide +kernel
theorem dX3_find_5 : decode cX3_find 5 = .ok (.aload_n 0, 1) := by decide +kernel
theorem dX3_find_6 : decode cX3_find 6 = .ok (.getfield 29, 3) := by decide +kernel
theorem dX3_find_9 : decode cX3_find 9 = .ok (.if_icmp .lt 7, 3) := by decide +kernel
theorem dX3_find_12 : decode cX3_find 12 = .ok (.aconst_null, 1) := by decide +kernel
theorem dX3_find_13 : decode cX3_find 13 = .ok (.goto 9, 3) := by decide +kernel
theorem dX3_find_16 : decode cX3_find 16 = .ok (.aload_n 0, 1) := by decide +kernel
theorem dX3_find_17 : decode cX3_find 17 = .ok (.getfield 25, 3) := by decide +kernel
theorem dX3_find_20 : decode cX3_find 20 = .ok (.iload_n 1, 1) := by decide +kernel
theorem dX3_find_21 : decode cX3_find 21 = .ok (.aaload, 1) := by decide +kernel
theorem dX3_find_22 : decode cX3_find 22 = .ok (.areturn, 1) := by decide +kernel
theorem dX3_changeSetting_0 : decode cX3_changeSetting 0 = .ok (.iload_n 1, 1) := by decide +kernel
theorem dX3_changeSetting_1 : decode cX3_changeSetting 1 = .ok (.ifCond .lt 12, 3) := by decide +kernel
theorem dX3_changeSetting_4 : decode cX3_changeSetting 4 = .ok (.iload_n 1, 1) := by decide +kernel
theorem dX3_changeSetting_5 : decode cX3_changeSetting 5 = .ok (.aload_n 0, 1) := by decide +kernel
theorem dX3_changeSetting_6 : decode cX3_changeSetting 6 = .ok (.getfield 18, 3) := by decide +kernel
theorem dX3_changeSetting_9 : decode cX3_changeSetting 9 = .ok (.arraylength, 1) := by decide +kernel
theorem dX3_changeSetting_10 : decode cX3_changeSetting 10 = .ok (.if_icmp .lt 6, 3) := by decide +kernel
theorem dX3_changeSetting_13 : decode cX3_changeSetting 13 = .ok (.bipush (-2), 2) := by decide +kernel
theorem dX3_changeSetting_15 : decode cX3_changeSetting 15 = .ok (.ireturn, 1) := by decide +kernel
theorem dX3_changeSetting_16 : decode cX3_changeSetting 16 = .ok (.iload_n 2, 1) := by decide +kernel
theorem dX3_changeSetting_17 : decode cX3_changeSetting 17 = .ok (.getstatic 63, 3) := by decide +kernel
theorem dX3_changeSetting_20 : decode cX3_changeSetting 20 = .ok (.iload_n 1, 1) := by decide +kernel
theorem dX3_changeSetting_21 : decode cX3_changeSetting 21 = .ok (.iaload, 1) := by decide +kernel
theorem dX3_changeSetting_22 : decode cX3_changeSetting 22 = .ok (.if_icmp .lt 12, 3) := by decide +kernel
theorem dX3_changeSetting_25 : decode cX3_changeSetting 25 = .ok (.iload_n 2, 1) := by decide +kernel
theorem dX3_changeSetting_26 : decode cX3_changeSetting 26 = .ok (.getstatic 66, 3) := by decide +kernel
theorem dX3_changeSetting_29 : decode cX3_changeSetting 29 = .ok (.iload_n 1, 1) := by decide +kernel
theorem dX3_changeSetting_30 : decode cX3_changeSetting 30 = .ok (.iaload, 1) := by decide +kernel
theorem dX3_changeSetting_31 : decode cX3_changeSetting 31 = .ok (.if_icmp .le 6, 3) := by decide +kernel
theorem dX3_changeSetting_34 : decode cX3_changeSetting 34 = .ok (.bipush (-2), 2) := by decide +kernel
theorem dX3_changeSetting_36 : decode cX3_changeSetting 36 = .ok (.ireturn, 1) := by decide +kernel
theorem dX3_changeSetting_37 : decode cX3_changeSetting 37 = .ok (.aload_n 0, 1) := by decide +kernel
theorem dX3_changeSetting_38 : decode cX3_changeSetting 38 = .ok (.getfield 18, 3) := by decide +kernel
theorem dX3_changeSetting_41 : decode cX3_changeSetting 41 = .ok (.iload_n 1, 1) := by decide +kernel
theorem dX3_changeSetting_42 : decode cX3_changeSetting 42 = .ok (.iaload, 1) := by decide +kernel
theorem dX3_changeSetting_43 : decode cX3_changeSetting 43 = .ok (.istore_n 3, 1) := by decide +kernel
theorem dX3_changeSetting_44 : decode cX3_changeSetting 44 = .ok (.aload_n 0, 1) := by decide +kernel
theorem dX3_changeSetting_45 : decode cX3_changeSetting 45 = .ok (.getfield 18, 3) := by decide +kernel
theorem dX3_changeSetting_48 : decode cX3_changeSetting 48 = .ok (.iload_n 1, 1) := by decide +kernel
theorem dX3_changeSetting_49 : decode cX3_changeSetting 49 = .ok (.iload_n 2, 1) := by decide +kernel
theorem dX3_changeSetting_50 : decode cX3_changeSetting 50 = .ok (.iastore, 1) := by decide +kernel
theorem dX3_changeSetting_51 : decode cX3_changeSetting 51 = .ok (.iload_n 3, 1) := by decide +kernel
theorem dX3_changeSetting_52 : decode cX3_changeSetting 52 = .ok (.ireturn, 1) := by decide +kernel
set_option maxRecDepth 20000 in
theorem ggX3_addLanding_X1_arrive : GoodIn wsX3_addLanding wsX1_arrive := goodIn_r _ [7, 8, 9, 10, 11, 12, 13, 14, 15, 35, 36, 37, 38, 39, 40, 41, 42] (by decide +kernel) (by decide +kernel)
set_option maxRecDepth 20000 in
theorem gX3_addLanding_X1_arrive : GoodIn wsX3_addLanding (wsV RX3 69 RX1 yX1_arrive wsX1_arrive) := goodIn_app (goodIn_of _ (by decide +kernel)) ggX3_addLanding_X1_arrive
set_option maxRecDepth 20000 in
theorem ggX3_addLanding_X3_followTaken : GoodIn wsX3_addLanding wsX3_followTaken := goodIn_r _ [20, 1, 2, 21, 22, 23, 24, 25, 26, 6, 27, 8, 11, 28, 29, 30, 31, 32, 33, 34, 35, 36, 37, 38, 39, 40, 41, 42] (by decide +kernel) (by decide +kernel)
set_option maxRecDepth 20000 in
theorem gX3_addLanding_X3_followTaken : GoodIn wsX3_addLanding (wsV RX3 73 RX3 yX3_followTaken wsX3_followTaken) := goodIn_app (goodIn_of _ (by decide +kernel)) ggX3_addLanding_X3_followTaken
theorem dX3_addLanding_0 : decode cX3_addLanding 0 = .ok (.iload_n 1, 1) := by decide +kernel
theorem dX3_addLanding_1 : decode cX3_addLanding 1 = .ok (.ifCond .lt 10, 3) := by decide +kernel
theorem dX3_addLanding_4 : decode cX3_addLanding 4 = .ok (.iload_n 1, 1) := by decide +kernel
theorem dX3_addLanding_5 : decode cX3_addLanding 5 = .ok (.sipush 999, 3) := by decide +kernel
theorem dX3_addLanding_8 : decode cX3_addLanding 8 = .ok (.if_icmp .le 6, 3) := by decide +kernel
theorem dX3_addLanding_11 : decode cX3_addLanding 11 = .ok (.bipush (-2), 2) := by decide +kernel
theorem dX3_addLanding_13 : decode cX3_addLanding 13 = .ok (.ireturn, 1) := by decide +kernel
theorem dX3_addLanding_14 : decode cX3_addLanding 14 = .ok (.aload_n 0, 1) := by decide +kernel
theorem dX3_addLanding_15 : decode cX3_addLanding 15 = .ok (.getfield 29, 3) := by decide +kernel
theorem dX3_addLanding_18 : decode cX3_addLanding 18 = .ok (.bipush 8, 2) := by decide +kernel
theorem dX3_addLanding_20 : decode cX3_addLanding 20 = .ok (.if_icmp .lt 6, 3) := by decide +kernel
theorem dX3_addLanding_23 : decode cX3_addLanding 23 = .ok (.bipush (-4), 2) := by decide +kernel
theorem dX3_addLanding_25 : decode cX3_addLanding 25 = .ok (.ireturn, 1) := by decide +kernel
theorem dX3_addLanding_26 : decode cX3_addLanding 26 = .ok (.aload_n 0, 1) := by decide +kernel
theorem dX3_addLanding_27 : decode cX3_addLanding 27 = .ok (.getfield 25, 3) := by decide +kernel
theorem dX3_addLanding_30 : decode cX3_addLanding 30 = .ok (.aload_n 0, 1) := by decide +kernel
theorem dX3_addLanding_31 : decode cX3_addLanding 31 = .ok (.getfield 29, 3) := by decide +kernel
theorem dX3_addLanding_34 : decode cX3_addLanding 34 = .ok (.aaload, 1) := by decide +kernel
theorem dX3_addLanding_35 : decode cX3_addLanding 35 = .ok (.iload_n 1, 1) := by decide +kernel
theorem dX3_addLanding_36 : decode cX3_addLanding 36 = .ok (.invokevirtual 69, 3) := by decide +kernel
theorem dX3_addLanding_39 : decode cX3_addLanding 39 = .ok (.aload_n 0, 1) := by decide +kernel
theorem dX3_addLanding_40 : decode cX3_addLanding 40 = .ok (.dup, 1) := by decide +kernel
theorem dX3_addLanding_41 : decode cX3_addLanding 41 = .ok (.getfield 29, 3) := by decide +kernel
theorem dX3_addLanding_44 : decode cX3_addLanding 44 = .ok (.iconst 1, 1) := by decide +kernel
theorem dX3_addLanding_45 : decode cX3_addLanding 45 = .ok (.iadd, 1) := by decide +kernel
theorem dX3_addLanding_46 : decode cX3_addLanding 46 = .ok (.putfield 29, 3) := by decide +kernel
theorem dX3_addLanding_49 : decode cX3_addLanding 49 = .ok (.aload_n 0, 1) := by decide +kernel
theorem dX3_addLanding_50 : decode cX3_addLanding 50 = .ok (.invokevirtual 73, 3) := by decide +kernel
theorem dX3_addLanding_53 : decode cX3_addLanding 53 = .ok (.aload_n 0, 1) := by decide +kernel
theorem dX3_addLanding_54 : decode cX3_addLanding 54 = .ok (.getfield 29, 3) := by decide +kernel
theorem dX3_addLanding_57 : decode cX3_addLanding 57 = .ok (.iconst 1, 1) := by decide +kernel
theorem dX3_addLanding_58 : decode cX3_addLanding 58 = .ok (.isub, 1) := by decide +kernel
theorem dX3_addLanding_59 : decode cX3_addLanding 59 = .ok (.ireturn, 1) := by decide +kernel
set_option maxRecDepth 20000 in
theorem ggX3_openLanding_X3_find : GoodIn wsX3_openLanding wsX3_find := goodIn_r _ [6, 7, 8, 67, 68, 69, 70, 71, 72, 73] (by decide +kernel) (by decide +kernel)
set_option maxRecDepth 20000 in
theorem gX3_openLanding_X3_find : GoodIn wsX3_openLanding (wsV RX3 76 RX3 yX3_find wsX3_find) := goodIn_app (goodIn_of _ (by decide +kernel)) ggX3_openLanding_X3_find
set_option maxRecDepth 20000 in
theorem ggX3_openLanding_X3_finishChange : GoodIn wsX3_openLanding wsX3_finishChange := goodIn_r _ [12, 13, 14, 15, 16, 17, 18, 19, 20, 21, 22, 23, 24, 25, 26, 27, 28, 29, 30, 31, 32, 5, 33, 34, 35, 36, 37, 38, 39, 40, 41, 42, 43, 44, 45, 46, 47, 48, 49, 50, 7, 8, 51, 52, 53, 54, 55, 56, 57, 58, 67, 68, 69, 70, 71, 72, 73, 59, 60, 61, 62, 63, 64, 65, 66, 74, 75, 76, 77, 78] (by decide +kernel) (by decide +kernel)
set_option maxRecDepth 20000 in
theorem gX3_openLanding_X3_finishChange : GoodIn wsX3_openLanding (wsV RX3 84 RX3 yX3_finishChange wsX3_finishChange) := goodIn_app (goodIn_of _ (by decide +kernel)) ggX3_openLanding_X3_finishChange
theorem dX3_openLanding_0 : decode cX3_openLanding 0 = .ok (.aload_n 0, 1) := by decide +kernel
theorem dX3_openLanding_1 : decode cX3_openLanding 1 = .ok (.iload_n 1, 1) := by decide +kernel
theorem dX3_openLanding_2 : decode cX3_openLanding 2 = .ok (.invokevirtual 76, 3) := by decide +kernel
theorem dX3_openLanding_5 : decode cX3_openLanding 5 = .ok (.astore_n 2, 1) := by decide +kernel
theorem dX3_openLanding_6 : decode cX3_openLanding 6 = .ok (.aload_n 2, 1) := by decide +kernel
theorem dX3_openLanding_7 : decode cX3_openLanding 7 = .ok (.ifnonnull 5, 3) := by decide +kernel
theorem dX3_openLanding_10 : decode cX3_openLanding 10 = .ok (.iconst (-1), 1) := by decide +kernel
theorem dX3_openLanding_11 : decode cX3_openLanding 11 = .ok (.ireturn, 1) := by decide +kernel
theorem dX3_openLanding_12 : decode cX3_openLanding 12 = .ok (.aload_n 2, 1) := by decide +kernel
theorem dX3_openLanding_13 : decode cX3_openLanding 13 = .ok (.getfield 80, 3) := by decide +kernel
theorem dX3_openLanding_16 : decode cX3_openLanding 16 = .ok (.ifCond .eq 6, 3) := by decide +kernel
theorem dX3_openLanding_19 : decode cX3_openLanding 19 = .ok (.bipush (-5), 2) := by decide +kernel
theorem dX3_openLanding_21 : decode cX3_openLanding 21 = .ok (.ireturn, 1) := by decide +kernel
theorem dX3_openLanding_22 : decode cX3_openLanding 22 = .ok (.aload_n 2, 1) := by decide +kernel
theorem dX3_openLanding_23 : decode cX3_openLanding 23 = .ok (.iconst 1, 1) := by decide +kernel
theorem dX3_openLanding_24 : decode cX3_openLanding 24 = .ok (.putfield 80, 3) := by decide +kernel
theorem dX3_openLanding_27 : decode cX3_openLanding 27 = .ok (.aload_n 0, 1) := by decide +kernel
theorem dX3_openLanding_28 : decode cX3_openLanding 28 = .ok (.aload_n 2, 1) := by decide +kernel
theorem dX3_openLanding_29 : decode cX3_openLanding 29 = .ok (.iload_n 1, 1) := by decide +kernel
theorem dX3_openLanding_30 : decode cX3_openLanding 30 = .ok (.iconst 1, 1) := by decide +kernel
theorem dX3_openLanding_31 : decode cX3_openLanding 31 = .ok (.invokevirtual 84, 3) := by decide +kernel
theorem dX3_openLanding_34 : decode cX3_openLanding 34 = .ok (.ireturn, 1) := by decide +kernel
set_option maxRecDepth 20000 in
theorem ggX3_closeLanding_X3_find : GoodIn wsX3_closeLanding wsX3_find := goodIn_r _ [6, 7, 8, 67, 68, 69, 70, 71, 72, 73] (by decide +kernel) (by decide +kernel)
set_option maxRecDepth 20000 in
theorem gX3_closeLanding_X3_find : GoodIn wsX3_closeLanding (wsV RX3 76 RX3 yX3_find wsX3_find) := goodIn_app (goodIn_of _ (by decide +kernel)) ggX3_closeLanding_X3_find
set_option maxRecDepth 20000 in
theorem ggX3_closeLanding_X3_finishChange : GoodIn wsX3_closeLanding wsX3_finishChange := goodIn_r _ [12, 13, 14, 15, 16, 17, 18, 19, 20, 21, 22, 23, 24, 25, 26, 27, 28, 29, 30, 31, 32, 5, 33, 34, 35, 36, 37, 38, 39, 40, 41, 42, 43, 44, 45, 46, 47, 48, 49, 50, 7, 8, 51, 52, 53, 54, 55, 56, 57, 58, 67, 68, 69, 70, 71, 72, 73, 59, 60, 61, 62, 63, 64, 65, 66, 74, 75, 76, 77, 78] (by decide +kernel) (by decide +kernel)
set_option maxRecDepth 20000 in
theorem gX3_closeLanding_X3_finishChange : GoodIn wsX3_closeLanding (wsV RX3 84 RX3 yX3_finishChange wsX3_finishChange) := goodIn_app (goodIn_of _ (by decide +kernel)) ggX3_closeLanding_X3_finishChange
theorem dX3_closeLanding_0 : decode cX3_closeLanding 0 = .ok (.aload_n 0, 1) := by decide +kernel
theorem dX3_closeLanding_1 : decode cX3_closeLanding 1 = .ok (.iload_n 1, 1) := by decide +kernel
theorem dX3_closeLanding_2 : decode cX3_closeLanding 2 = .ok (.invokevirtual 76, 3) := by decide +kernel
theorem dX3_closeLanding_5 : decode cX3_closeLanding 5 = .ok (.astore_n 2, 1) := by decide +kernel
theorem dX3_closeLanding_6 : decode cX3_closeLanding 6 = .ok (.aload_n 2, 1) := by decide +kernel
theorem dX3_closeLanding_7 : decode cX3_closeLanding 7 = .ok (.ifnonnull 5, 3) := by decide +kernel
theorem dX3_closeLanding_10 : decode cX3_closeLanding 10 = .ok (.iconst (-1), 1) := by decide +kernel
theorem dX3_closeLanding_11 : decode cX3_closeLanding 11 = .ok (.ireturn, 1) := by decide +kernel
theorem dX3_closeLanding_12 : decode cX3_closeLanding 12 = .ok (.aload_n 2, 1) := by decide +kernel
theorem dX3_closeLanding_13 : decode cX3_closeLanding 13 = .ok (.getfield 80, 3) := by decide +kernel
theorem dX3_closeLanding_16 : decode cX3_closeLanding 16 = .ok (.ifCond .ne 6, 3) := by decide +kernel
theorem dX3_closeLanding_19 : decode cX3_closeLanding 19 = .ok (.bipush (-5), 2) := by decide +kernel
theorem dX3_closeLanding_21 : decode cX3_closeLanding 21 = .ok (.ireturn, 1) := by decide +kernel
theorem dX3_closeLanding_22 : decode cX3_closeLanding 22 = .ok (.aload_n 2, 1) := by decide +kernel
theorem dX3_closeLanding_23 : decode cX3_closeLanding 23 = .ok (.iconst 0, 1) := by decide +kernel
theorem dX3_closeLanding_24 : decode cX3_closeLanding 24 = .ok (.putfield 80, 3) := by decide +kernel
theorem dX3_closeLanding_27 : decode cX3_closeLanding 27 = .ok (.aload_n 0, 1) := by decide +kernel
theorem dX3_closeLanding_28 : decode cX3_closeLanding 28 = .ok (.aload_n 2, 1) := by decide +kernel
theorem dX3_closeLanding_29 : decode cX3_closeLanding 29 = .ok (.iload_n 1, 1) := by decide +kernel
theorem dX3_closeLanding_30 : decode cX3_closeLanding 30 = .ok (.iconst 0, 1) := by decide +kernel
theorem dX3_closeLanding_31 : decode cX3_closeLanding 31 = .ok (.invokevirtual 84, 3) := by decide +kernel
theorem dX3_closeLanding_34 : decode cX3_closeLanding 34 = .ok (.ireturn, 1) := by decide +kernel
set_option maxRecDepth 20000 in
theorem ggX3_changePrice_X3_find : GoodIn wsX3_changePrice wsX3_find := goodIn_r _ [6, 7, 8, 66, 67, 68, 69, 70, 71, 72] (by decide +kernel) (by decide +kernel)
set_option maxRecDepth 20000 in
theorem gX3_changePrice_X3_find : GoodIn wsX3_changePrice (wsV RX3 76 RX3 yX3_find wsX3_find) := goodIn_app (goodIn_of _ (by decide +kernel)) ggX3_changePrice_X3_find
set_option maxRecDepth 20000 in
theorem ggX3_changePrice_X3_finishChange : GoodIn wsX3_changePrice wsX3_finishChange := goodIn_r _ [12, 13, 14, 15, 16, 17, 18, 19, 20, 21, 22, 23, 24, 25, 26, 27, 28, 29, 30, 31, 32, 5, 33, 34, 35, 36, 37, 38, 39, 40, 41, 42, 43, 44, 45, 46, 47, 48, 49, 50, 7, 8, 1, 51, 52, 53, 54, 55, 56, 57, 66, 67, 68, 69, 70, 71, 72, 58, 59, 60, 61, 62, 63, 64, 65, 73, 74, 75, 76, 77] (by decide +kernel) (by decide +kernel)
set_option maxRecDepth 20000 in
theorem gX3_changePrice_X3_finishChange : GoodIn wsX3_changePrice (wsV RX3 84 RX3 yX3_finishChange wsX3_finishChange) := goodIn_app (goodIn_of _ (by decide +kernel)) ggX3_changePrice_X3_finishChange
theorem dX3_changePrice_0 : decode cX3_changePrice 0 = .ok (.aload_n 0, 1) := by decide +kernel
theorem dX3_changePrice_1 : decode cX3_changePrice 1 = .ok (.iload_n 1, 1) := by decide +kernel
theorem dX3_changePrice_2 : decode cX3_changePrice 2 = .ok (.invokevirtual 76, 3) := by decide +kernel
theorem dX3_changePrice_5 : decode cX3_changePrice 5 = .ok (.astore_n 3, 1) := by decide +kernel
theorem dX3_changePrice_6 : decode cX3_changePrice 6 = .ok (.aload_n 3, 1) := by decide +kernel
theorem dX3_changePrice_7 : decode cX3_changePrice 7 = .ok (.ifnonnull 5, 3) := by decide +kernel
theorem dX3_changePrice_10 : decode cX3_changePrice 10 = .ok (.iconst (-1), 1) := by decide +kernel
theorem dX3_changePrice_11 : decode cX3_changePrice 11 = .ok (.ireturn, 1) := by decide +kernel
theorem dX3_changePrice_12 : decode cX3_changePrice 12 = .ok (.iload_n 2, 1) := by decide +kernel
theorem dX3_changePrice_13 : decode cX3_changePrice 13 = .ok (.ifCond .lt 10, 3) := by decide +kernel
theorem dX3_changePrice_16 : decode cX3_changePrice 16 = .ok (.iload_n 2, 1) := by decide +kernel
theorem dX3_changePrice_17 : decode cX3_changePrice 17 = .ok (.sipush 999, 3) := by decide +kernel
theorem dX3_changePrice_20 : decode cX3_changePrice 20 = .ok (.if_icmp .le 6, 3) := by decide +kernel
theorem dX3_changePrice_23 : decode cX3_changePrice 23 = .ok (.bipush (-2), 2) := by decide +kernel
theorem dX3_changePrice_25 : decode cX3_changePrice 25 = .ok (.ireturn, 1) := by decide +kernel
theorem dX3_changePrice_26 : decode cX3_changePrice 26 = .ok (.aload_n 3, 1) := by decide +kernel
theorem dX3_changePrice_27 : decode cX3_changePrice 27 = .ok (.getfield 88, 3) := by decide +kernel
theorem dX3_changePrice_30 : decode cX3_changePrice 30 = .ok (.iload_n 2, 1) := by decide +kernel
theorem dX3_changePrice_31 : decode cX3_changePrice 31 = .ok (.if_icmp .ne 6, 3) := by decide +kernel
theorem dX3_changePrice_34 : decode cX3_changePrice 34 = .ok (.bipush (-5), 2) := by decide +kernel
theorem dX3_changePrice_36 : decode cX3_changePrice 36 = .ok (.ireturn, 1) := by decide +kernel
theorem dX3_changePrice_37 : decode cX3_changePrice 37 = .ok (.aload_n 3, 1) := by decide +kernel
theorem dX3_changePrice_38 : decode cX3_changePrice 38 = .ok (.iload_n 2, 1) := by decide +kernel
theorem dX3_changePrice_39 : decode cX3_changePrice 39 = .ok (.putfield 88, 3) := by decide +kernel
theorem dX3_changePrice_42 : decode cX3_changePrice 42 = .ok (.aload_n 0, 1) := by decide +kernel
theorem dX3_changePrice_43 : decode cX3_changePrice 43 = .ok (.aload_n 3, 1) := by decide +kernel
theorem dX3_changePrice_44 : decode cX3_changePrice 44 = .ok (.iload_n 1, 1) := by decide +kernel
theorem dX3_changePrice_45 : decode cX3_changePrice 45 = .ok (.iconst 2, 1) := by decide +kernel
theorem dX3_changePrice_46 : decode cX3_changePrice 46 = .ok (.invokevirtual 84, 3) := by decide +kernel
theorem dX3_changePrice_49 : decode cX3_changePrice 49 = .ok (.ireturn, 1) := by decide +kernel
set_option maxRecDepth 20000 in
theorem ggX3_finishChange_X0_add : GoodIn wsX3_finishChange wsX0_add := goodIn_r _ [8, 9, 10, 11, 12, 13, 14, 15, 16, 17, 65, 66, 67, 68, 69] (by decide +kernel) (by decide +kernel)
set_option maxRecDepth 20000 in
theorem gX3_finishChange_X0_add : GoodIn wsX3_finishChange (wsV RX3 91 RX0 yX0_add wsX0_add) := goodIn_app (goodIn_of _ (by decide +kernel)) ggX3_finishChange_X0_add
set_option maxRecDepth 20000 in
theorem ggX3_finishChange_X3_fineBySort : GoodIn wsX3_finishChange wsX3_fineBySort := goodIn_r _ [22, 23, 24, 25, 26, 27, 28, 29, 30, 31, 32, 15, 16, 17, 33, 34, 35, 50, 51, 52, 53, 54, 55, 56, 57, 58, 59, 60, 61, 62, 63, 64] (by decide +kernel) (by decide +kernel)
set_option maxRecDepth 20000 in
theorem gX3_finishChange_X3_fineBySort : GoodIn wsX3_finishChange (wsV RX3 95 RX3 yX3_fineBySort wsX3_fineBySort) := goodIn_app (goodIn_of _ (by decide +kernel)) ggX3_finishChange_X3_fineBySort
set_option maxRecDepth 20000 in
theorem ggX3_finishChange_X3_followTaken : GoodIn wsX3_finishChange wsX3_followTaken := goodIn_r _ [39, 40, 41, 42, 43, 44, 45, 46, 47, 27, 48, 49, 33, 50, 51, 52, 53, 54, 55, 56, 57, 58, 59, 60, 61, 62, 63, 64] (by decide +kernel) (by decide +kernel)
set_option maxRecDepth 20000 in
theorem gX3_finishChange_X3_followTaken : GoodIn wsX3_finishChange (wsV RX3 73 RX3 yX3_followTaken wsX3_followTaken) := goodIn_app (goodIn_of _ (by decide +kernel)) ggX3_finishChange_X3_followTaken
theorem dX3_finishChange_0 : decode cX3_finishChange 0 = .ok (.aload_n 0, 1) := by decide +kernel
theorem dX3_finishChange_1 : decode cX3_finishChange 1 = .ok (.getfield 45, 3) := by decide +kernel
theorem dX3_finishChange_4 : decode cX3_finishChange 4 = .ok (.iload_n 3, 1) := by decide +kernel
theorem dX3_finishChange_5 : decode cX3_finishChange 5 = .ok (.iload_n 2, 1) := by decide +kernel
theorem dX3_finishChange_6 : decode cX3_finishChange 6 = .ok (.aload_n 0, 1) := by decide +kernel
theorem dX3_finishChange_7 : decode cX3_finishChange 7 = .ok (.getfield 33, 3) := by decide +kernel
theorem dX3_finishChange_10 : decode cX3_finishChange 10 = .ok (.invokevirtual 91, 3) := by decide +kernel
theorem dX3_finishChange_13 : decode cX3_finishChange 13 = .ok (.aload_n 0, 1) := by decide +kernel
theorem dX3_finishChange_14 : decode cX3_finishChange 14 = .ok (.aload_n 1, 1) := by decide +kernel
theorem dX3_finishChange_15 : decode cX3_finishChange 15 = .ok (.iload_n 3, 1) := by decide +kernel
theorem dX3_finishChange_16 : decode cX3_finishChange 16 = .ok (.invokevirtual 95, 3) := by decide +kernel
theorem dX3_finishChange_19 : decode cX3_finishChange 19 = .ok (.ifCond .eq 16, 3) := by decide +kernel
theorem dX3_finishChange_22 : decode cX3_finishChange 22 = .ok (.aload_n 0, 1) := by decide +kernel
theorem dX3_finishChange_23 : decode cX3_finishChange 23 = .ok (.getfield 45, 3) := by decide +kernel
theorem dX3_finishChange_26 : decode cX3_finishChange 26 = .ok (.iconst 3, 1) := by decide +kernel
theorem dX3_finishChange_27 : decode cX3_finishChange 27 = .ok (.iload_n 2, 1) := by decide +kernel
theorem dX3_finishChange_28 : decode cX3_finishChange 28 = .ok (.aload_n 0, 1) := by decide +kernel
theorem dX3_finishChange_29 : decode cX3_finishChange 29 = .ok (.getfield 33, 3) := by decide +kernel
theorem dX3_finishChange_32 : decode cX3_finishChange 32 = .ok (.invokevirtual 91, 3) := by decide +kernel
theorem dX3_finishChange_35 : decode cX3_finishChange 35 = .ok (.aload_n 0, 1) := by decide +kernel
theorem dX3_finishChange_36 : decode cX3_finishChange 36 = .ok (.invokevirtual 73, 3) := by decide +kernel
theorem dX3_finishChange_39 : decode cX3_finishChange 39 = .ok (.aload_n 1, 1) := by decide +kernel
theorem dX3_finishChange_40 : decode cX3_finishChange 40 = .ok (.getfield 99, 3) := by decide +kernel
theorem dX3_finishChange_43 : decode cX3_finishChange 43 = .ok (.ireturn, 1) := by decide +kernel
set_option maxRecDepth 20000 in
theorem ggX3_fineBySort_X1_addFine : GoodIn wsX3_fineBySort wsX1_addFine := goodIn_r _ [6, 7, 8, 9, 10, 11, 12, 13, 14, 15, 16, 24, 25, 26, 27, 28, 29, 30, 31] (by decide +kernel) (by decide +kernel)
set_option maxRecDepth 20000 in
theorem gX3_fineBySort_X1_addFine : GoodIn wsX3_fineBySort (wsV RX3 102 RX1 yX1_addFine wsX1_addFine) := goodIn_app (goodIn_of _ (by decide +kernel)) ggX3_fineBySort_X1_addFine
theorem dX3_fineBySort_0 : decode cX3_fineBySort 0 = .ok (.aload_n 1, 1) := by decide +kernel
theorem dX3_fineBySort_1 : decode cX3_fineBySort 1 = .ok (.aload_n 0, 1) := by decide +kernel
theorem dX3_fineBySort_2 : decode cX3_fineBySort 2 = .ok (.getfield 18, 3) := by decide +kernel
theorem dX3_fineBySort_5 : decode cX3_fineBySort 5 = .ok (.iload_n 2, 1) := by decide +kernel
theorem dX3_fineBySort_6 : decode cX3_fineBySort 6 = .ok (.iaload, 1) := by decide +kernel
theorem dX3_fineBySort_7 : decode cX3_fineBySort 7 = .ok (.aload_n 0, 1) := by decide +kernel
theorem dX3_fineBySort_8 : decode cX3_fineBySort 8 = .ok (.getfield 18, 3) := by decide +kernel
theorem dX3_fineBySort_11 : decode cX3_fineBySort 11 = .ok (.iconst 4, 1) := by decide +kernel
theorem dX3_fineBySort_12 : decode cX3_fineBySort 12 = .ok (.iaload, 1) := by decide +kernel
theorem dX3_fineBySort_13 : decode cX3_fineBySort 13 = .ok (.invokevirtual 102, 3) := by decide +kernel
theorem dX3_fineBySort_16 : decode cX3_fineBySort 16 = .ok (.ireturn, 1) := by decide +kernel
set_option maxRecDepth 20000 in
theorem ggX3_passMinutes_X3_passOneMinute : GoodIn wsX3_passMinutes wsX3_passOneMinute := goodIn_r _ [7, 1, 8, 9, 10, 11, 12, 13, 6, 14, 15, 16, 17, 18, 19, 20, 21, 22, 23, 24, 25, 26, 27, 28, 29, 30, 31, 32, 33, 34, 35, 36, 37, 38, 39, 40, 41, 42, 43, 44, 45, 46, 47, 48, 49, 50, 51, 52, 53, 54, 55, 56, 57, 58, 59, 60, 61, 62, 63, 64, 65, 66, 67, 68, 69, 70, 71] (by decide +kernel) (by decide +kernel)
set_option maxRecDepth 20000 in
theorem gX3_passMinutes_X3_passOneMinute : GoodIn wsX3_passMinutes (wsV RX3 107 RX3 yX3_passOneMinute wsX3_passOneMinute) := goodIn_app (goodIn_of _ (by decide +kernel)) ggX3_passMinutes_X3_passOneMinute
theorem dX3_passMinutes_0 : decode cX3_passMinutes 0 = .ok (.iload_n 1, 1) := by decide +kernel
theorem dX3_passMinutes_1 : decode cX3_passMinutes 1 = .ok (.iconst 1, 1) := by decide +kernel
theorem dX3_passMinutes_2 : decode cX3_passMinutes 2 = .ok (.if_icmp .lt 10, 3) := by decide +kernel
theorem dX3_passMinutes_5 : decode cX3_passMinutes 5 = .ok (.iload_n 1, 1) := by decide +kernel
theorem dX3_passMinutes_6 : decode cX3_passMinutes 6 = .ok (.sipush 999, 3) := by decide +kernel
theorem dX3_passMinutes_9 : decode cX3_passMinutes 9 = .ok (.if_icmp .le 6, 3) := by decide +kernel
theorem dX3_passMinutes_12 : decode cX3_passMinutes 12 = .ok (.bipush (-2), 2) := by decide +kernel
theorem dX3_passMinutes_14 : decode cX3_passMinutes 14 = .ok (.ireturn, 1) := by decide +kernel
theorem dX3_passMinutes_15 : decode cX3_passMinutes 15 = .ok (.aload_n 0, 1) := by decide +kernel
theorem dX3_passMinutes_16 : decode cX3_passMinutes 16 = .ok (.getfield 33, 3) := by decide +kernel
theorem dX3_passMinutes_19 : decode cX3_passMinutes 19 = .ok (.iload_n 1, 1) := by decide +kernel
theorem dX3_passMinutes_20 : decode cX3_passMinutes 20 = .ok (.iadd, 1) := by decide +kernel
theorem dX3_passMinutes_21 : decode cX3_passMinutes 21 = .ok (.ldc 106, 2) := by decide +kernel
theorem dX3_passMinutes_23 : decode cX3_passMinutes 23 = .ok (.if_icmp .le 6, 3) := by decide +kernel
theorem dX3_passMinutes_26 : decode cX3_passMinutes 26 = .ok (.bipush (-5), 2) := by decide +kernel
theorem dX3_passMinutes_28 : decode cX3_passMinutes 28 = .ok (.ireturn, 1) := by decide +kernel
theorem dX3_passMinutes_29 : decode cX3_passMinutes 29 = .ok (.iconst 0, 1) := by decide +kernel
theorem dX3_passMinutes_30 : decode cX3_passMinutes 30 = .ok (.istore_n 2, 1) := by decide +kernel
theorem dX3_passMinutes_31 : decode cX3_passMinutes 31 = .ok (.iconst 0, 1) := by decide +kernel
theorem dX3_passMinutes_32 : decode cX3_passMinutes 32 = .ok (.istore_n 3, 1) := by decide +kernel
theorem dX3_passMinutes_33 : decode cX3_passMinutes 33 = .ok (.iload_n 3, 1) := by decide +kernel
theorem dX3_passMinutes_34 : decode cX3_passMinutes 34 = .ok (.iload_n 1, 1) := by decide +kernel
theorem dX3_passMinutes_35 : decode cX3_passMinutes 35 = .ok (.if_icmp .ge 16, 3) := by decide +kernel
theorem dX3_passMinutes_38 : decode cX3_passMinutes 38 = .ok (.iload_n 2, 1) := by decide +kernel
theorem dX3_passMinutes_39 : decode cX3_passMinutes 39 = .ok (.aload_n 0, 1) := by decide +kernel
theorem dX3_passMinutes_40 : decode cX3_passMinutes 40 = .ok (.invokevirtual 107, 3) := by decide +kernel
theorem dX3_passMinutes_43 : decode cX3_passMinutes 43 = .ok (.iadd, 1) := by decide +kernel
theorem dX3_passMinutes_44 : decode cX3_passMinutes 44 = .ok (.istore_n 2, 1) := by decide +kernel
theorem dX3_passMinutes_45 : decode cX3_passMinutes 45 = .ok (.iinc 3 1, 3) := by decide +kernel
theorem dX3_passMinutes_48 : decode cX3_passMinutes 48 = .ok (.goto (-15), 3) := by decide +kernel
theorem dX3_passMinutes_51 : decode cX3_passMinutes 51 = .ok (.iload_n 2, 1) := by decide +kernel
theorem dX3_passMinutes_52 : decode cX3_passMinutes 52 = .ok (.ireturn, 1) := by decide +kernel
set_option maxRecDepth 20000 in
theorem ggX3_passOneMinute_X3_passMinuteOf : GoodIn wsX3_passOneMinute wsX3_passMinuteOf := goodIn_r _ [9, 10, 11, 12, 13, 14, 15, 16, 17, 18, 19, 20, 21, 22, 23, 47, 48, 49, 50, 51, 52, 53, 54, 55, 56, 57, 58, 59, 60, 61] (by decide +kernel) (by decide +kernel)
set_option maxRecDepth 20000 in
theorem gX3_passOneMinute_X3_passMinuteOf : GoodIn wsX3_passOneMinute (wsV RX3 111 RX3 yX3_passMinuteOf wsX3_passMinuteOf) := goodIn_app (goodIn_of _ (by decide +kernel)) ggX3_passOneMinute_X3_passMinuteOf
set_option maxRecDepth 20000 in
theorem ggX3_passOneMinute_X0_add : GoodIn wsX3_passOneMinute wsX0_add := goodIn_r _ [28, 29, 30, 31, 32, 33, 34, 21, 22, 23, 62, 63, 64, 65, 66] (by decide +kernel) (by decide +kernel)
set_option maxRecDepth 20000 in
theorem gX3_passOneMinute_X0_add : GoodIn wsX3_passOneMinute (wsV RX3 91 RX0 yX0_add wsX0_add) := goodIn_app (goodIn_of _ (by decide +kernel)) ggX3_passOneMinute_X0_add
set_option maxRecDepth 20000 in
theorem ggX3_passOneMinute_X3_followTaken : GoodIn wsX3_passOneMinute wsX3_followTaken := goodIn_r _ [38, 2, 3, 39, 40, 41, 42, 43, 44, 14, 45, 46, 18, 47, 48, 49, 50, 51, 52, 53, 54, 55, 56, 57, 58, 59, 60, 61] (by decide +kernel) (by decide +kernel)
set_option maxRecDepth 20000 in
theorem gX3_passOneMinute_X3_followTaken : GoodIn wsX3_passOneMinute (wsV RX3 73 RX3 yX3_followTaken wsX3_followTaken) := goodIn_app (goodIn_of _ (by decide +kernel)) ggX3_passOneMinute_X3_followTaken
theorem dX3_passOneMinute_0 : decode cX3_passOneMinute 0 = .ok (.aload_n 0, 1) := by decide +kernel
theorem dX3_passOneMinute_1 : decode cX3_passOneMinute 1 = .ok (.dup, 1) := by decide +kernel
theorem dX3_passOneMinute_2 : decode cX3_passOneMinute 2 = .ok (.getfield 33, 3) := by decide +kernel
theorem dX3_passOneMinute_5 : decode cX3_passOneMinute 5 = .ok (.iconst 1, 1) := by decide +kernel
theorem dX3_passOneMinute_6 : decode cX3_passOneMinute 6 = .ok (.iadd, 1) := by decide +kernel
theorem dX3_passOneMinute_7 : decode cX3_passOneMinute 7 = .ok (.putfield 33, 3) := by decide +kernel
theorem dX3_passOneMinute_10 : decode cX3_passOneMinute 10 = .ok (.iconst 0, 1) := by decide +kernel
theorem dX3_passOneMinute_11 : decode cX3_passOneMinute 11 = .ok (.istore_n 1, 1) := by decide +kernel
theorem dX3_passOneMinute_12 : decode cX3_passOneMinute 12 = .ok (.iconst 0, 1) := by decide +kernel
theorem dX3_passOneMinute_13 : decode cX3_passOneMinute 13 = .ok (.istore_n 2, 1) := by decide +kernel
theorem dX3_passOneMinute_14 : decode cX3_passOneMinute 14 = .ok (.iload_n 2, 1) := by decide +kernel
theorem dX3_passOneMinute_15 : decode cX3_passOneMinute 15 = .ok (.aload_n 0, 1) := by decide +kernel
theorem dX3_passOneMinute_16 : decode cX3_passOneMinute 16 = .ok (.getfield 29, 3) := by decide +kernel
theorem dX3_passOneMinute_19 : decode cX3_passOneMinute 19 = .ok (.if_icmp .ge 38, 3) := by decide +kernel
theorem dX3_passOneMinute_22 : decode cX3_passOneMinute 22 = .ok (.aload_n 0, 1) := by decide +kernel
theorem dX3_passOneMinute_23 : decode cX3_passOneMinute 23 = .ok (.aload_n 0, 1) := by decide +kernel
theorem dX3_passOneMinute_24 : decode cX3_passOneMinute 24 = .ok (.getfield 25, 3) := by decide +kernel
theorem dX3_passOneMinute_27 : decode cX3_passOneMinute 27 = .ok (.iload_n 2, 1) := by decide +kernel
theorem dX3_passOneMinute_28 : decode cX3_passOneMinute 28 = .ok (.aaload, 1) := by decide +kernel
theorem dX3_passOneMinute_29 : decode cX3_passOneMinute 29 = .ok (.invokevirtual 111, 3) := by decide +kernel
theorem dX3_passOneMinute_32 : decode cX3_passOneMinute 32 = .ok (.ifCond .eq 19, 3) := by decide +kernel
theorem dX3_passOneMinute_35 : decode cX3_passOneMinute 35 = .ok (.aload_n 0, 1) := by decide +kernel
theorem dX3_passOneMinute_36 : decode cX3_passOneMinute 36 = .ok (.getfield 45, 3) := by decide +kernel
theorem dX3_passOneMinute_39 : decode cX3_passOneMinute 39 = .ok (.iconst 4, 1) := by decide +kernel
theorem dX3_passOneMinute_40 : decode cX3_passOneMinute 40 = .ok (.iload_n 2, 1) := by decide +kernel
theorem dX3_passOneMinute_41 : decode cX3_passOneMinute 41 = .ok (.aload_n 0, 1) := by decide +kernel
theorem dX3_passOneMinute_42 : decode cX3_passOneMinute 42 = .ok (.getfield 33, 3) := by decide +kernel
theorem dX3_passOneMinute_45 : decode cX3_passOneMinute 45 = .ok (.invokevirtual 91, 3) := by decide +kernel
theorem dX3_passOneMinute_48 : decode cX3_passOneMinute 48 = .ok (.iinc 1 1, 3) := by decide +kernel
theorem dX3_passOneMinute_51 : decode cX3_passOneMinute 51 = .ok (.iinc 2 1, 3) := by decide +kernel
theorem dX3_passOneMinute_54 : decode cX3_passOneMinute 54 = .ok (.goto (-40), 3) := by decide +kernel
theorem dX3_passOneMinute_57 : decode cX3_passOneMinute 57 = .ok (.iload_n 1, 1) := by decide +kernel
theorem dX3_passOneMinute_58 : decode cX3_passOneMinute 58 = .ok (.ifCond .le 7, 3) := by decide +kernel
theorem dX3_passOneMinute_61 : decode cX3_passOneMinute 61 = .ok (.aload_n 0, 1) := by decide +kernel
theorem dX3_passOneMinute_62 : decode cX3_passOneMinute 62 = .ok (.invokevirtual 73, 3) := by decide +kernel
theorem dX3_passOneMinute_65 : decode cX3_passOneMinute 65 = .ok (.iload_n 1, 1) := by decide +kernel
theorem dX3_passOneMinute_66 : decode cX3_passOneMinute 66 = .ok (.ireturn, 1) := by decide +kernel
set_option maxRecDepth 20000 in
theorem ggX3_passMinuteOf_X1_passMinute : GoodIn wsX3_passMinuteOf wsX1_passMinute := goodIn_r _ [6, 7, 8, 9, 10, 11, 12, 13, 14, 22, 23, 24, 25, 26, 27, 28, 29] (by decide +kernel) (by decide +kernel)
set_option maxRecDepth 20000 in
theorem gX3_passMinuteOf_X1_passMinute : GoodIn wsX3_passMinuteOf (wsV RX3 115 RX1 yX1_passMinute wsX1_passMinute) := goodIn_app (goodIn_of _ (by decide +kernel)) ggX3_passMinuteOf_X1_passMinute
theorem dX3_passMinuteOf_0 : decode cX3_passMinuteOf 0 = .ok (.aload_n 1, 1) := by decide +kernel
theorem dX3_passMinuteOf_1 : decode cX3_passMinuteOf 1 = .ok (.aload_n 0, 1) := by decide +kernel
theorem dX3_passMinuteOf_2 : decode cX3_passMinuteOf 2 = .ok (.getfield 18, 3) := by decide +kernel
theorem dX3_passMinuteOf_5 : decode cX3_passMinuteOf 5 = .ok (.iconst 3, 1) := by decide +kernel
theorem dX3_passMinuteOf_6 : decode cX3_passMinuteOf 6 = .ok (.iaload, 1) := by decide +kernel
theorem dX3_passMinuteOf_7 : decode cX3_passMinuteOf 7 = .ok (.aload_n 0, 1) := by decide +kernel
theorem dX3_passMinuteOf_8 : decode cX3_passMinuteOf 8 = .ok (.getfield 18, 3) := by decide +kernel
theorem dX3_passMinuteOf_11 : decode cX3_passMinuteOf 11 = .ok (.iconst 5, 1) := by decide +kernel
theorem dX3_passMinuteOf_12 : decode cX3_passMinuteOf 12 = .ok (.iaload, 1) := by decide +kernel
theorem dX3_passMinuteOf_13 : decode cX3_passMinuteOf 13 = .ok (.aload_n 0, 1) := by decide +kernel
theorem dX3_passMinuteOf_14 : decode cX3_passMinuteOf 14 = .ok (.getfield 18, 3) := by decide +kernel
theorem dX3_passMinuteOf_17 : decode cX3_passMinuteOf 17 = .ok (.bipush 6, 2) := by decide +kernel
theorem dX3_passMinuteOf_19 : decode cX3_passMinuteOf 19 = .ok (.iaload, 1) := by decide +kernel
theorem dX3_passMinuteOf_20 : decode cX3_passMinuteOf 20 = .ok (.invokevirtual 115, 3) := by decide +kernel
theorem dX3_passMinuteOf_23 : decode cX3_passMinuteOf 23 = .ok (.ireturn, 1) := by decide +kernel
theorem dX3_fade_0 : decode cX3_fade 0 = .ok (.iconst 1, 1) := by decide +kernel
theorem dX3_fade_1 : decode cX3_fade 1 = .ok (.aload_n 0, 1) := by decide +kernel
theorem dX3_fade_2 : decode cX3_fade 2 = .ok (.getfield 18, 3) := by decide +kernel
theorem dX3_fade_5 : decode cX3_fade 5 = .ok (.iconst 3, 1) := by decide +kernel
theorem dX3_fade_6 : decode cX3_fade 6 = .ok (.iaload, 1) := by decide +kernel
theorem dX3_fade_7 : decode cX3_fade 7 = .ok (.invokestatic 119, 3) := by decide +kernel
theorem dX3_fade_10 : decode cX3_fade 10 = .ok (.istore_n 3, 1) := by decide +kernel
theorem dX3_fade_11 : decode cX3_fade 11 = .ok (.aload_n 1, 1) := by decide +kernel
theorem dX3_fade_12 : decode cX3_fade 12 = .ok (.getfield 125, 3) := by decide +kernel
theorem dX3_fade_15 : decode cX3_fade 15 = .ok (.iload_n 2, 1) := by decide +kernel
theorem dX3_fade_16 : decode cX3_fade 16 = .ok (.iadd, 1) := by decide +kernel
theorem dX3_fade_17 : decode cX3_fade 17 = .ok (.istore 4, 2) := by decide +kernel
theorem dX3_fade_19 : decode cX3_fade 19 = .ok (.aload_n 1, 1) := by decide +kernel
theorem dX3_fade_20 : decode cX3_fade 20 = .ok (.dup, 1) := by decide +kernel
theorem dX3_fade_21 : decode cX3_fade 21 = .ok (.getfield 99, 3) := by decide +kernel
theorem dX3_fade_24 : decode cX3_fade 24 = .ok (.iload 4, 2) := by decide +kernel
theorem dX3_fade_26 : decode cX3_fade 26 = .ok (.iload_n 3, 1) := by decide +kernel
theorem dX3_fade_27 : decode cX3_fade 27 = .ok (.idiv, 1) := by decide +kernel
theorem dX3_fade_28 : decode cX3_fade 28 = .ok (.bipush 31, 2) := by decide +kernel
theorem dX3_fade_30 : decode cX3_fade 30 = .ok (.invokestatic 128, 3) := by decide +kernel
theorem dX3_fade_33 : decode cX3_fade 33 = .ok (.ishr, 1) := by decide +kernel
theorem dX3_fade_34 : decode cX3_fade 34 = .ok (.putfield 99, 3) := by decide +kernel
theorem dX3_fade_37 : decode cX3_fade 37 = .ok (.aload_n 1, 1) := by decide +kernel
theorem dX3_fade_38 : decode cX3_fade 38 = .ok (.iload 4, 2) := by decide +kernel
theorem dX3_fade_40 : decode cX3_fade 40 = .ok (.iload_n 3, 1) := by decide +kernel
theorem dX3_fade_41 : decode cX3_fade 41 = .ok (.irem, 1) := by decide +kernel
theorem dX3_fade_42 : decode cX3_fade 42 = .ok (.putfield 125, 3) := by decide +kernel
theorem dX3_fade_45 : decode cX3_fade 45 = .ok (.return_, 1) := by decide +kernel
set_option maxRecDepth 20000 in
theorem ggX3_followTaken_X1_canBeTaken : GoodIn wsX3_followTaken wsX1_canBeTaken := goodIn_r _ [10, 11, 12, 20, 21, 22, 23, 24, 25, 26, 27] (by decide +kernel) (by decide +kernel)
set_option maxRecDepth 20000 in
theorem gX3_followTaken_X1_canBeTaken : GoodIn wsX3_followTaken (wsV RX3 131 RX1 yX1_canBeTaken wsX1_canBeTaken) := goodIn_app (goodIn_of _ (by decide +kernel)) ggX3_followTaken_X1_canBeTaken
theorem dX3_followTaken_0 : decode cX3_followTaken 0 = .ok (.bipush (-6), 2) := by decide +kernel
theorem dX3_followTaken_2 : decode cX3_followTaken 2 = .ok (.istore_n 1, 1) := by decide +kernel
theorem dX3_followTaken_3 : decode cX3_followTaken 3 = .ok (.iconst 0, 1) := by decide +kernel
theorem dX3_followTaken_4 : decode cX3_followTaken 4 = .ok (.istore_n 2, 1) := by decide +kernel
theorem dX3_followTaken_5 : decode cX3_followTaken 5 = .ok (.iload_n 2, 1) := by decide +kernel
theorem dX3_followTaken_6 : decode cX3_followTaken 6 = .ok (.aload_n 0, 1) := by decide +kernel
theorem dX3_followTaken_7 : decode cX3_followTaken 7 = .ok (.getfield 29, 3) := by decide +kernel
theorem dX3_followTaken_10 : decode cX3_followTaken 10 = .ok (.if_icmp .ge 48, 3) := by decide +kernel
theorem dX3_followTaken_13 : decode cX3_followTaken 13 = .ok (.aload_n 0, 1) := by decide +kernel
theorem dX3_followTaken_14 : decode cX3_followTaken 14 = .ok (.getfield 25, 3) := by decide +kernel
theorem dX3_followTaken_17 : decode cX3_followTaken 17 = .ok (.iload_n 2, 1) := by decide +kernel
theorem dX3_followTaken_18 : decode cX3_followTaken 18 = .ok (.aaload, 1) := by decide +kernel
theorem dX3_followTaken_19 : decode cX3_followTaken 19 = .ok (.invokevirtual 131, 3) := by decide +kernel
theorem dX3_followTaken_22 : decode cX3_followTaken 22 = .ok (.ifCond .eq 30, 3) := by decide +kernel
theorem dX3_followTaken_25 : decode cX3_followTaken 25 = .ok (.iload_n 1, 1) := by decide +kernel
theorem dX3_followTaken_26 : decode cX3_followTaken 26 = .ok (.ifCond .lt 24, 3) := by decide +kernel
theorem dX3_followTaken_29 : decode cX3_followTaken 29 = .ok (.aload_n 0, 1) := by decide +kernel
theorem dX3_followTaken_30 : decode cX3_followTaken 30 = .ok (.getfield 25, 3) := by decide +kernel
theorem dX3_followTaken_33 : decode cX3_followTaken 33 = .ok (.iload_n 2, 1) := by decide +kernel
theorem dX3_followTaken_34 : decode cX3_followTaken 34 = .ok (.aaload, 1) := by decide +kernel
theorem dX3_followTaken_35 : decode cX3_followTaken 35 = .ok (.getfield 88, 3) := by decide +kernel
theorem dX3_followTaken_38 : decode cX3_followTaken 38 = .ok (.aload_n 0, 1) := by decide +kernel
theorem dX3_followTaken_39 : decode cX3_followTaken 39 = .ok (.getfield 25, 3) := by decide +kernel
theorem dX3_followTaken_42 : decode cX3_followTaken 42 = .ok (.iload_n 1, 1) := by decide +kernel
theorem dX3_followTaken_43 : decode cX3_followTaken 43 = .ok (.aaload, 1) := by decide +kernel
theorem dX3_followTaken_44 : decode cX3_followTaken 44 = .ok (.getfield 88, 3) := by decide +kernel
theorem dX3_followTaken_47 : decode cX3_followTaken 47 = .ok (.if_icmp .ge 5, 3) := by decide +kernel
theorem dX3_followTaken_50 : decode cX3_followTaken 50 = .ok (.iload_n 2, 1) := by decide +kernel
theorem dX3_followTaken_51 : decode cX3_followTaken 51 = .ok (.istore_n 1, 1) := by decide +kernel
theorem dX3_followTaken_52 : decode cX3_followTaken 52 = .ok (.iinc 2 1, 3) := by decide +kernel
theorem dX3_followTaken_55 : decode cX3_followTaken 55 = .ok (.goto (-50), 3) := by decide +kernel
theorem dX3_followTaken_58 : decode cX3_followTaken 58 = .ok (.iload_n 1, 1) := by decide +kernel
theorem dX3_followTaken_59 : decode cX3_followTaken 59 = .ok (.aload_n 0, 1) := by decide +kernel
theorem dX3_followTaken_60 : decode cX3_followTaken 60 = .ok (.getfield 36, 3) := by decide +kernel
theorem dX3_followTaken_63 : decode cX3_followTaken 63 = .ok (.if_icmp .eq 18, 3) := by decide +kernel
theorem dX3_followTaken_66 : decode cX3_followTaken 66 = .ok (.aload_n 0, 1) := by decide +kernel
theorem dX3_followTaken_67 : decode cX3_followTaken 67 = .ok (.iload_n 1, 1) := by decide +kernel
theorem dX3_followTaken_68 : decode cX3_followTaken 68 = .ok (.putfield 36, 3) := by decide +kernel
theorem dX3_followTaken_71 : decode cX3_followTaken 71 = .ok (.aload_n 0, 1) := by decide +kernel
theorem dX3_followTaken_72 : decode cX3_followTaken 72 = .ok (.dup, 1) := by decide +kernel
theorem dX3_followTaken_73 : decode cX3_followTaken 73 = .ok (.getfield 39, 3) := by decide +kernel
theorem dX3_followTaken_76 : decode cX3_followTaken 76 = .ok (.iconst 1, 1) := by decide +kernel
theorem dX3_followTaken_77 : decode cX3_followTaken 77 = .ok (.iadd, 1) := by decide +kernel
theorem dX3_followTaken_78 : decode cX3_followTaken 78 = .ok (.putfield 39, 3) := by decide +kernel
theorem dX3_followTaken_81 : decode cX3_followTaken 81 = .ok (.return_, 1) := by decide +kernel
set_option maxRecDepth 20000 in
theorem ggX3_chosen_X1_canBeTaken : GoodIn wsX3_chosen wsX1_canBeTaken := goodIn_r _ [7, 8, 9, 23, 24, 25, 26, 27, 28, 29, 30] (by decide +kernel) (by decide +kernel)
set_option maxRecDepth 20000 in
theorem gX3_chosen_X1_canBeTaken : GoodIn wsX3_chosen (wsV RX3 131 RX1 yX1_canBeTaken wsX1_canBeTaken) := goodIn_app (goodIn_of _ (by decide +kernel)) ggX3_chosen_X1_canBeTaken
set_option maxRecDepth 20000 in
theorem ggX3_chosen_X3_rankOf : GoodIn wsX3_chosen wsX3_rankOf := goodIn_r _ [14, 2, 15, 1, 3, 4, 5, 6, 7, 8, 9, 16, 17, 18, 19, 20, 21, 22, 23, 24, 25, 26, 27, 28, 29, 30] (by decide +kernel) (by decide +kernel)
set_option maxRecDepth 20000 in
theorem gX3_chosen_X3_rankOf : GoodIn wsX3_chosen (wsV RX3 135 RX3 yX3_rankOf wsX3_rankOf) := goodIn_app (goodIn_of _ (by decide +kernel)) ggX3_chosen_X3_rankOf
theorem dX3_chosen_0 : decode cX3_chosen 0 = .ok (.iconst 0, 1) := by decide +kernel
theorem dX3_chosen_1 : decode cX3_chosen 1 = .ok (.istore_n 2, 1) := by decide +kernel
theorem dX3_chosen_2 : decode cX3_chosen 2 = .ok (.iload_n 2, 1) := by decide +kernel
theorem dX3_chosen_3 : decode cX3_chosen 3 = .ok (.aload_n 0, 1) := by decide +kernel
theorem dX3_chosen_4 : decode cX3_chosen 4 = .ok (.getfield 29, 3) := by decide +kernel
theorem dX3_chosen_7 : decode cX3_chosen 7 = .ok (.if_icmp .ge 32, 3) := by decide +kernel
theorem dX3_chosen_10 : decode cX3_chosen 10 = .ok (.aload_n 0, 1) := by decide +kernel
theorem dX3_chosen_11 : decode cX3_chosen 11 = .ok (.getfield 25, 3) := by decide +kernel
theorem dX3_chosen_14 : decode cX3_chosen 14 = .ok (.iload_n 2, 1) := by decide +kernel
theorem dX3_chosen_15 : decode cX3_chosen 15 = .ok (.aaload, 1) := by decide +kernel
theorem dX3_chosen_16 : decode cX3_chosen 16 = .ok (.invokevirtual 131, 3) := by decide +kernel
theorem dX3_chosen_19 : decode cX3_chosen 19 = .ok (.ifCond .eq 14, 3) := by decide +kernel
theorem dX3_chosen_22 : decode cX3_chosen 22 = .ok (.aload_n 0, 1) := by decide +kernel
theorem dX3_chosen_23 : decode cX3_chosen 23 = .ok (.iload_n 2, 1) := by decide +kernel
theorem dX3_chosen_24 : decode cX3_chosen 24 = .ok (.invokevirtual 135, 3) := by decide +kernel
theorem dX3_chosen_27 : decode cX3_chosen 27 = .ok (.iload_n 1, 1) := by decide +kernel
theorem dX3_chosen_28 : decode cX3_chosen 28 = .ok (.if_icmp .ne 5, 3) := by decide +kernel
theorem dX3_chosen_31 : decode cX3_chosen 31 = .ok (.iload_n 2, 1) := by decide +kernel
theorem dX3_chosen_32 : decode cX3_chosen 32 = .ok (.ireturn, 1) := by decide +kernel
theorem dX3_chosen_33 : decode cX3_chosen 33 = .ok (.iinc 2 1, 3) := by decide +kernel
theorem dX3_chosen_36 : decode cX3_chosen 36 = .ok (.goto (-34), 3) := by decide +kernel
theorem dX3_chosen_39 : decode cX3_chosen 39 = .ok (.iconst (-1), 1) := by decide +kernel
theorem dX3_chosen_40 : decode cX3_chosen 40 = .ok (.ireturn, 1) := by decide +kernel
set_option maxRecDepth 20000 in
theorem ggX3_rankOf_X1_canBeTaken : GoodIn wsX3_rankOf wsX1_canBeTaken := goodIn_r _ [8, 9, 10, 18, 19, 20, 21, 22, 23, 24, 25] (by decide +kernel) (by decide +kernel)
set_option maxRecDepth 20000 in
theorem gX3_rankOf_X1_canBeTaken : GoodIn wsX3_rankOf (wsV RX3 131 RX1 yX1_canBeTaken wsX1_canBeTaken) := goodIn_app (goodIn_of _ (by decide +kernel)) ggX3_rankOf_X1_canBeTaken
theorem dX3_rankOf_0 : decode cX3_rankOf 0 = .ok (.iconst 0, 1) := by decide +kernel
theorem dX3_rankOf_1 : decode cX3_rankOf 1 = .ok (.istore_n 2, 1) := by decide +kernel
theorem dX3_rankOf_2 : decode cX3_rankOf 2 = .ok (.aload_n 0, 1) := by decide +kernel
theorem dX3_rankOf_3 : decode cX3_rankOf 3 = .ok (.getfield 25, 3) := by decide +kernel
theorem dX3_rankOf_6 : decode cX3_rankOf 6 = .ok (.iload_n 1, 1) := by decide +kernel
theorem dX3_rankOf_7 : decode cX3_rankOf 7 = .ok (.aaload, 1) := by decide +kernel
theorem dX3_rankOf_8 : decode cX3_rankOf 8 = .ok (.getfield 88, 3) := by decide +kernel
theorem dX3_rankOf_11 : decode cX3_rankOf 11 = .ok (.istore_n 3, 1) := by decide +kernel
theorem dX3_rankOf_12 : decode cX3_rankOf 12 = .ok (.iconst 0, 1) := by decide +kernel
theorem dX3_rankOf_13 : decode cX3_rankOf 13 = .ok (.istore 4, 2) := by decide +kernel
theorem dX3_rankOf_15 : decode cX3_rankOf 15 = .ok (.iload 4, 2) := by decide +kernel
theorem dX3_rankOf_17 : decode cX3_rankOf 17 = .ok (.aload_n 0, 1) := by decide +kernel
theorem dX3_rankOf_18 : decode cX3_rankOf 18 = .ok (.getfield 29, 3) := by decide +kernel
theorem dX3_rankOf_21 : decode cX3_rankOf 21 = .ok (.if_icmp .ge 53, 3) := by decide +kernel
theorem dX3_rankOf_24 : decode cX3_rankOf 24 = .ok (.aload_n 0, 1) := by decide +kernel
theorem dX3_rankOf_25 : decode cX3_rankOf 25 = .ok (.getfield 25, 3) := by decide +kernel
theorem dX3_rankOf_28 : decode cX3_rankOf 28 = .ok (.iload 4, 2) := by decide +kernel
theorem dX3_rankOf_30 : decode cX3_rankOf 30 = .ok (.aaload, 1) := by decide +kernel
theorem dX3_rankOf_31 : decode cX3_rankOf 31 = .ok (.astore 5, 2) := by decide +kernel
theorem dX3_rankOf_33 : decode cX3_rankOf 33 = .ok (.aload 5, 2) := by decide +kernel
theorem dX3_rankOf_35 : decode cX3_rankOf 35 = .ok (.invokevirtual 131, 3) := by decide +kernel
theorem dX3_rankOf_38 : decode cX3_rankOf 38 = .ok (.ifCond .eq 30, 3) := by decide +kernel
theorem dX3_rankOf_41 : decode cX3_rankOf 41 = .ok (.aload 5, 2) := by decide +kernel
theorem dX3_rankOf_43 : decode cX3_rankOf 43 = .ok (.getfield 88, 3) := by decide +kernel
theorem dX3_rankOf_46 : decode cX3_rankOf 46 = .ok (.iload_n 3, 1) := by decide +kernel
theorem dX3_rankOf_47 : decode cX3_rankOf 47 = .ok (.if_icmp .lt 18, 3) := by decide +kernel
theorem dX3_rankOf_50 : decode cX3_rankOf 50 = .ok (.aload 5, 2) := by decide +kernel
theorem dX3_rankOf_52 : decode cX3_rankOf 52 = .ok (.getfield 88, 3) := by decide +kernel
theorem dX3_rankOf_55 : decode cX3_rankOf 55 = .ok (.iload_n 3, 1) := by decide +kernel
theorem dX3_rankOf_56 : decode cX3_rankOf 56 = .ok (.if_icmp .ne 12, 3) := by decide +kernel
theorem dX3_rankOf_59 : decode cX3_rankOf 59 = .ok (.iload 4, 2) := by decide +kernel
theorem dX3_rankOf_61 : decode cX3_rankOf 61 = .ok (.iload_n 1, 1) := by decide +kernel
theorem dX3_rankOf_62 : decode cX3_rankOf 62 = .ok (.if_icmp .ge 6, 3) := by decide +kernel
theorem dX3_rankOf_65 : decode cX3_rankOf 65 = .ok (.iinc 2 1, 3) := by decide +kernel
theorem dX3_rankOf_68 : decode cX3_rankOf 68 = .ok (.iinc 4 1, 3) := by decide +kernel
theorem dX3_rankOf_71 : decode cX3_rankOf 71 = .ok (.goto (-56), 3) := by decide +kernel
theorem dX3_rankOf_74 : decode cX3_rankOf 74 = .ok (.iload_n 2, 1) := by decide +kernel
theorem dX3_rankOf_75 : decode cX3_rankOf 75 = .ok (.ireturn, 1) := by decide +kernel
set_option maxRecDepth 20000 in
theorem ggX3_tell_X3_openOnes : GoodIn wsX3_tell wsX3_openOnes := goodIn_r _ [12, 2, 13, 14, 20, 21, 22, 23, 24, 25, 26, 32, 33, 34, 35, 36, 37, 38, 39] (by decide +kernel) (by decide +kernel)
set_option maxRecDepth 20000 in
theorem gX3_tell_X3_openOnes : GoodIn wsX3_tell (wsV RX3 139 RX3 yX3_openOnes wsX3_openOnes) := goodIn_app (goodIn_of _ (by decide +kernel)) ggX3_tell_X3_openOnes
set_option maxRecDepth 20000 in
theorem ggX3_tell_X3_shunnedOnes : GoodIn wsX3_tell wsX3_shunnedOnes := goodIn_r _ [18, 2, 13, 19, 20, 21, 22, 23, 24, 25, 26, 32, 33, 34, 35, 36, 37, 38, 39] (by decide +kernel) (by decide +kernel)
set_option maxRecDepth 20000 in
theorem gX3_tell_X3_shunnedOnes : GoodIn wsX3_tell (wsV RX3 142 RX3 yX3_shunnedOnes wsX3_shunnedOnes) := goodIn_app (goodIn_of _ (by decide +kernel)) ggX3_tell_X3_shunnedOnes
theorem dX3_tell_0 : decode cX3_tell 0 = .ok (.iload_n 1, 1) := by decide +kernel
theorem dX3_tell_1 : decode cX3_tell 1 = .ok (.tableswitch 81 0 6 #[43, 48, 53, 58, 63, 68, 73], 43) := by decide +kernel
theorem dX3_tell_44 : decode cX3_tell 44 = .ok (.aload_n 0, 1) := by decide +kernel
theorem dX3_tell_45 : decode cX3_tell 45 = .ok (.getfield 33, 3) := by decide +kernel
theorem dX3_tell_48 : decode cX3_tell 48 = .ok (.ireturn, 1) := by decide +kernel
theorem dX3_tell_49 : decode cX3_tell 49 = .ok (.aload_n 0, 1) := by decide +kernel
theorem dX3_tell_50 : decode cX3_tell 50 = .ok (.getfield 29, 3) := by decide +kernel
theorem dX3_tell_53 : decode cX3_tell 53 = .ok (.ireturn, 1) := by decide +kernel
theorem dX3_tell_54 : decode cX3_tell 54 = .ok (.aload_n 0, 1) := by decide +kernel
theorem dX3_tell_55 : decode cX3_tell 55 = .ok (.invokevirtual 139, 3) := by decide +kernel
theorem dX3_tell_58 : decode cX3_tell 58 = .ok (.ireturn, 1) := by decide +kernel
theorem dX3_tell_59 : decode cX3_tell 59 = .ok (.aload_n 0, 1) := by decide +kernel
theorem dX3_tell_60 : decode cX3_tell 60 = .ok (.invokevirtual 142, 3) := by decide +kernel
theorem dX3_tell_63 : decode cX3_tell 63 = .ok (.ireturn, 1) := by decide +kernel
theorem dX3_tell_64 : decode cX3_tell 64 = .ok (.aload_n 0, 1) := by decide +kernel
theorem dX3_tell_65 : decode cX3_tell 65 = .ok (.getfield 36, 3) := by decide +kernel
theorem dX3_tell_68 : decode cX3_tell 68 = .ok (.ireturn, 1) := by decide +kernel
theorem dX3_tell_69 : decode cX3_tell 69 = .ok (.aload_n 0, 1) := by decide +kernel
theorem dX3_tell_70 : decode cX3_tell 70 = .ok (.getfield 39, 3) := by decide +kernel
theorem dX3_tell_73 : decode cX3_tell 73 = .ok (.ireturn, 1) := by decide +kernel
theorem dX3_tell_74 : decode cX3_tell 74 = .ok (.aload_n 0, 1) := by decide +kernel
theorem dX3_tell_75 : decode cX3_tell 75 = .ok (.getfield 45, 3) := by decide +kernel
theorem dX3_tell_78 : decode cX3_tell 78 = .ok (.getfield 145, 3) := by decide +kernel
theorem dX3_tell_81 : decode cX3_tell 81 = .ok (.ireturn, 1) := by decide +kernel
theorem dX3_tell_82 : decode cX3_tell 82 = .ok (.iload_n 1, 1) := by decide +kernel
theorem dX3_tell_83 : decode cX3_tell 83 = .ok (.bipush 7, 2) := by decide +kernel
theorem dX3_tell_85 : decode cX3_tell 85 = .ok (.if_icmp .lt 27, 3) := by decide +kernel
theorem dX3_tell_88 : decode cX3_tell 88 = .ok (.iload_n 1, 1) := by decide +kernel
theorem dX3_tell_89 : decode cX3_tell 89 = .ok (.bipush 7, 2) := by decide +kernel
theorem dX3_tell_91 : decode cX3_tell 91 = .ok (.isub, 1) := by decide +kernel
theorem dX3_tell_92 : decode cX3_tell 92 = .ok (.aload_n 0, 1) := by decide +kernel
theorem dX3_tell_93 : decode cX3_tell 93 = .ok (.getfield 18, 3) := by decide +kernel
theorem dX3_tell_96 : decode cX3_tell 96 = .ok (.arraylength, 1) := by decide +kernel
theorem dX3_tell_97 : decode cX3_tell 97 = .ok (.if_icmp .ge 15, 3) := by decide +kernel
theorem dX3_tell_100 : decode cX3_tell 100 = .ok (.aload_n 0, 1) := by decide +kernel
theorem dX3_tell_101 : decode cX3_tell 101 = .ok (.getfield 18, 3) := by decide +kernel
theorem dX3_tell_104 : decode cX3_tell 104 = .ok (.iload_n 1, 1) := by decide +kernel
theorem dX3_tell_105 : decode cX3_tell 105 = .ok (.bipush 7, 2) := by decide +kernel
theorem dX3_tell_107 : decode cX3_tell 107 = .ok (.isub, 1) := by decide +kernel
theorem dX3_tell_108 : decode cX3_tell 108 = .ok (.iaload, 1) := by decide +kernel
theorem dX3_tell_109 : decode cX3_tell 109 = .ok (.goto 5, 3) := by decide +kernel
theorem dX3_tell_112 : decode cX3_tell 112 = .ok (.bipush (-2), 2) := by decide +kernel
theorem dX3_tell_114 : decode cX3_tell 114 = .ok (.ireturn, 1) := by decide +kernel
theorem dX3_openOnes_0 : decode cX3_openOnes 0 = .ok (.iconst 0, 1) := by decide +kernel
theorem dX3_openOnes_1 : decode cX3_openOnes 1 = .ok (.istore_n 1, 1) := by decide +kernel
theorem dX3_openOnes_2 : decode cX3_openOnes 2 = .ok (.iconst 0, 1) := by decide +kernel
theorem dX3_openOnes_3 : decode cX3_openOnes 3 = .ok (.istore_n 2, 1) := by decide +kernel
theorem dX3_openOnes_4 : decode cX3_openOnes 4 = .ok (.iload_n 2, 1) := by decide +kernel
theorem dX3_openOnes_5 : decode cX3_openOnes 5 = .ok (.aload_n 0, 1) := by decide +kernel
theorem dX3_openOnes_6 : decode cX3_openOnes 6 = .ok (.getfield 29, 3) := by decide +kernel
theorem dX3_openOnes_9 : decode cX3_openOnes 9 = .ok (.if_icmp .ge 27, 3) := by decide +kernel
theorem dX3_openOnes_12 : decode cX3_openOnes 12 = .ok (.aload_n 0, 1) := by decide +kernel
theorem dX3_openOnes_13 : decode cX3_openOnes 13 = .ok (.getfield 25, 3) := by decide +kernel
theorem dX3_openOnes_16 : decode cX3_openOnes 16 = .ok (.iload_n 2, 1) := by decide +kernel
theorem dX3_openOnes_17 : decode cX3_openOnes 17 = .ok (.aaload, 1) := by decide +kernel
theorem dX3_openOnes_18 : decode cX3_openOnes 18 = .ok (.getfield 80, 3) := by decide +kernel
theorem dX3_openOnes_21 : decode cX3_openOnes 21 = .ok (.ifCond .eq 9, 3) := by decide +kernel
theorem dX3_openOnes_24 : decode cX3_openOnes 24 = .ok (.iload_n 1, 1) := by decide +kernel
theorem dX3_openOnes_25 : decode cX3_openOnes 25 = .ok (.iconst 1, 1) := by decide +kernel
theorem dX3_openOnes_26 : decode cX3_openOnes 26 = .ok (.iload_n 2, 1) := by decide +kernel
theorem dX3_openOnes_27 : decode cX3_openOnes 27 = .ok (.ishl, 1) := by decide +kernel
theorem dX3_openOnes_28 : decode cX3_openOnes 28 = .ok (.ior, 1) := by decide +kernel
theorem dX3_openOnes_29 : decode cX3_openOnes 29 = .ok (.istore_n 1, 1) := by decide +kernel
theorem dX3_openOnes_30 : decode cX3_openOnes 30 = .ok (.iinc 2 1, 3) := by decide +kernel
theorem dX3_openOnes_33 : decode cX3_openOnes 33 = .ok (.goto (-29), 3) := by decide +kernel
theorem dX3_openOnes_36 : decode cX3_openOnes 36 = .ok (.iload_n 1, 1) := by decide +kernel
theorem dX3_openOnes_37 : decode cX3_openOnes 37 = .ok (.ireturn, 1) := by decide +kernel
theorem dX3_shunnedOnes_0 : decode cX3_shunnedOnes 0 = .ok (.iconst 0, 1) := by decide +kernel
theorem dX3_shunnedOnes_1 : decode cX3_shunnedOnes 1 = .ok (.istore_n 1, 1) := by decide +kernel
theorem dX3_shunnedOnes_2 : decode cX3_shunnedOnes 2 = .ok (.iconst 0, 1) := by decide +kernel
theorem dX3_shunnedOnes_3 : decode cX3_shunnedOnes 3 = .ok (.istore_n 2, 1) := by decide +kernel
theorem dX3_shunnedOnes_4 : decode cX3_shunnedOnes 4 = .ok (.iload_n 2, 1) := by decide +kernel
theorem dX3_shunnedOnes_5 : decode cX3_shunnedOnes 5 = .ok (.aload_n 0, 1) := by decide +kernel
theorem dX3_shunnedOnes_6 : decode cX3_shunnedOnes 6 = .ok (.getfield 29, 3) := by decide +kernel
theorem dX3_shunnedOnes_9 : decode cX3_shunnedOnes 9 = .ok (.if_icmp .ge 27, 3) := by decide +kernel
theorem dX3_shunnedOnes_12 : decode cX3_shunnedOnes 12 = .ok (.aload_n 0, 1) := by decide +kernel
theorem dX3_shunnedOnes_13 : decode cX3_shunnedOnes 13 = .ok (.getfield 25, 3) := by decide +kernel
theorem dX3_shunnedOnes_16 : decode cX3_shunnedOnes 16 = .ok (.iload_n 2, 1) := by decide +kernel
theorem dX3_shunnedOnes_17 : decode cX3_shunnedOnes 17 = .ok (.aaload, 1) := by decide +kernel
theorem dX3_shunnedOnes_18 : decode cX3_shunnedOnes 18 = .ok (.getfield 148, 3) := by decide +kernel
theorem dX3_shunnedOnes_21 : decode cX3_shunnedOnes 21 = .ok (.ifCond .eq 9, 3) := by decide +kernel
theorem dX3_shunnedOnes_24 : decode cX3_shunnedOnes 24 = .ok (.iload_n 1, 1) := by decide +kernel
theorem dX3_shunnedOnes_25 : decode cX3_shunnedOnes 25 = .ok (.iconst 1, 1) := by decide +kernel
theorem dX3_shunnedOnes_26 : decode cX3_shunnedOnes 26 = .ok (.iload_n 2, 1) := by decide +kernel
theorem dX3_shunnedOnes_27 : decode cX3_shunnedOnes 27 = .ok (.ishl, 1) := by decide +kernel
theorem dX3_shunnedOnes_28 : decode cX3_shunnedOnes 28 = .ok (.ior, 1) := by decide +kernel
theorem dX3_shunnedOnes_29 : decode cX3_shunnedOnes 29 = .ok (.istore_n 1, 1) := by decide +kernel
theorem dX3_shunnedOnes_30 : decode cX3_shunnedOnes 30 = .ok (.iinc 2 1, 3) := by decide +kernel
theorem dX3_shunnedOnes_33 : decode cX3_shunnedOnes 33 = .ok (.goto (-29), 3) := by decide +kernel
theorem dX3_shunnedOnes_36 : decode cX3_shunnedOnes 36 = .ok (.iload_n 1, 1) := by decide +kernel
theorem dX3_shunnedOnes_37 : decode cX3_shunnedOnes 37 = .ok (.ireturn, 1) := by decide +kernel
set_option maxRecDepth 20000 in
theorem ggX4_init_X3_init : GoodIn wsX4_init wsX3_init := goodIn_r _ [23, 24, 2, 3, 25, 26, 27, 28, 29, 30, 31, 32, 33, 34, 35, 36, 37, 38, 39, 40, 41, 18, 19, 42, 43, 44, 45, 46, 47, 48, 49, 50, 51, 52, 53, 64, 65, 66, 67, 68, 69, 70, 92, 93, 94, 95, 96, 84, 85, 86, 87, 88, 89, 90, 91] (by decide +kernel) (by decide +kernel)
set_option maxRecDepth 20000 in
theorem gX4_init_X3_init : GoodIn wsX4_init (wsX3_init) := ggX4_init_X3_init
set_option maxRecDepth 20000 in
theorem ggX4_init_X2_init : GoodIn wsX4_init wsX2_init := goodIn_r _ [55, 56, 2, 3, 57, 58, 59, 60, 61, 62, 63, 78, 79, 80, 81, 82, 83] (by decide +kernel) (by decide +kernel)
set_option maxRecDepth 20000 in
theorem gX4_init_X2_init_n33 : GoodIn wsX4_init (wsX2_init) := ggX4_init_X2_init
set_option maxRecDepth 20000 in
theorem ggX4_init_X1_init : GoodIn wsX4_init wsX1_init := goodIn_r _ [52, 53, 2, 3] (by decide +kernel) (by decide +kernel)
set_option maxRecDepth 20000 in
theorem gX4_init_X1_init_n40 : GoodIn wsX4_init (wsX1_init) := ggX4_init_X1_init
theorem dX4_init_0 : decode cX4_init 0 = .ok (.aload_n 0, 1) := by decide +kernel
theorem dX4_init_1 : decode cX4_init 1 = .ok (.invokespecial 1, 3) := by decide +kernel
theorem dX4_init_4 : decode cX4_init 4 = .ok (.aload_n 0, 1) := by decide +kernel
theorem dX4_init_5 : decode cX4_init 5 = .ok (.new 7, 3) := by decide +kernel
theorem dX4_init_8 : decode cX4_init 8 = .ok (.dup, 1) := by decide +kernel
theorem dX4_init_9 : decode cX4_init 9 = .ok (.invokespecial 9, 3) := by decide +kernel
theorem dX4_init_12 : decode cX4_init 12 = .ok (.putfield 10, 3) := by decide +kernel
theorem dX4_init_15 : decode cX4_init 15 = .ok (.aload_n 0, 1) := by decide +kernel
theorem dX4_init_16 : decode cX4_init 16 = .ok (.bipush 7, 2) := by decide +kernel
theorem dX4_init_18 : decode cX4_init 18 = .ok (.anewarray 7, 3) := by decide +kernel
theorem dX4_init_21 : decode cX4_init 21 = .ok (.putfield 16, 3) := by decide +kernel
theorem dX4_init_24 : decode cX4_init 24 = .ok (.aload_n 0, 1) := by decide +kernel
theorem dX4_init_25 : decode cX4_init 25 = .ok (.iconst 0, 1) := by decide +kernel
theorem dX4_init_26 : decode cX4_init 26 = .ok (.putfield 20, 3) := by decide +kernel
theorem dX4_init_29 : decode cX4_init 29 = .ok (.aload_n 0, 1) := by decide +kernel
theorem dX4_init_30 : decode cX4_init 30 = .ok (.iconst 2, 1) := by decide +kernel
theorem dX4_init_31 : decode cX4_init 31 = .ok (.anewarray 7, 3) := by decide +kernel
theorem dX4_init_34 : decode cX4_init 34 = .ok (.putfield 24, 3) := by decide +kernel
theorem dX4_init_37 : decode cX4_init 37 = .ok (.aload_n 0, 1) := by decide +kernel
theorem dX4_init_38 : decode cX4_init 38 = .ok (.iconst 2, 1) := by decide +kernel
theorem dX4_init_39 : decode cX4_init 39 = .ok (.newarray .boolean, 2) := by decide +kernel
theorem dX4_init_41 : decode cX4_init 41 = .ok (.putfield 27, 3) := by decide +kernel
theorem dX4_init_44 : decode cX4_init 44 = .ok (.aload_n 0, 1) := by decide +kernel
theorem dX4_init_45 : decode cX4_init 45 = .ok (.new 31, 3) := by decide +kernel
theorem dX4_init_48 : decode cX4_init 48 = .ok (.dup, 1) := by decide +kernel
theorem dX4_init_49 : decode cX4_init 49 = .ok (.invokespecial 33, 3) := by decide +kernel
theorem dX4_init_52 : decode cX4_init 52 = .ok (.putfield 34, 3) := by decide +kernel
theorem dX4_init_55 : decode cX4_init 55 = .ok (.aload_n 0, 1) := by decide +kernel
theorem dX4_init_56 : decode cX4_init 56 = .ok (.new 38, 3) := by decide +kernel
theorem dX4_init_59 : decode cX4_init 59 = .ok (.dup, 1) := by decide +kernel
theorem dX4_init_60 : decode cX4_init 60 = .ok (.invokespecial 40, 3) := by decide +kernel
theorem dX4_init_63 : decode cX4_init 63 = .ok (.putfield 41, 3) := by decide +kernel
theorem dX4_init_66 : decode cX4_init 66 = .ok (.iconst 0, 1) := by decide +kernel
theorem dX4_init_67 : decode cX4_init 67 = .ok (.istore_n 1, 1) := by decide +kernel
theorem dX4_init_68 : decode cX4_init 68 = .ok (.iload_n 1, 1) := by decide +kernel
theorem dX4_init_69 : decode cX4_init 69 = .ok (.aload_n 0, 1) := by decide +kernel
theorem dX4_init_70 : decode cX4_init 70 = .ok (.getfield 16, 3) := by decide +kernel
theorem dX4_init_73 : decode cX4_init 73 = .ok (.arraylength, 1) := by decide +kernel
theorem dX4_init_74 : decode cX4_init 74 = .ok (.if_icmp .ge 22, 3) := by decide +kernel
theorem dX4_init_77 : decode cX4_init 77 = .ok (.aload_n 0, 1) := by decide +kernel
theorem dX4_init_78 : decode cX4_init 78 = .ok (.getfield 16, 3) := by decide +kernel
theorem dX4_init_81 : decode cX4_init 81 = .ok (.iload_n 1, 1) := by decide +kernel
theorem dX4_init_82 : decode cX4_init 82 = .ok (.new 7, 3) := by decide +kernel
theorem dX4_init_85 : decode cX4_init 85 = .ok (.dup, 1) := by decide +kernel
theorem dX4_init_86 : decode cX4_init 86 = .ok (.invokespecial 9, 3) := by decide +kernel
theorem dX4_init_89 : decode cX4_init 89 = .ok (.aastore, 1) := by decide +kernel
theorem dX4_init_90 : decode cX4_init 90 = .ok (.iinc 1 1, 3) := by decide +kernel
theorem dX4_init_93 : decode cX4_init 93 = .ok (.goto (-25), 3) := by decide +kernel
theorem dX4_init_96 : decode cX4_init 96 = .ok (.iconst 0, 1) := by decide +kernel
theorem dX4_init_97 : decode cX4_init 97 = .ok (.istore_n 1, 1) := by decide +kernel
theorem dX4_init_98 : decode cX4_init 98 = .ok (.iload_n 1, 1) := by decide +kernel
theorem dX4_init_99 : decode cX4_init 99 = .ok (.aload_n 0, 1) := by decide +kernel
theorem dX4_init_100 : decode cX4_init 100 = .ok (.getfield 24, 3) := by decide +kernel
theorem dX4_init_103 : decode cX4_init 103 = .ok (.arraylength, 1) := by decide +kernel
theorem dX4_init_104 : decode cX4_init 104 = .ok (.if_icmp .ge 22, 3) := by decide +kernel
theorem dX4_init_107 : decode cX4_init 107 = .ok (.aload_n 0, 1) := by decide +kernel
theorem dX4_init_108 : decode cX4_init 108 = .ok (.getfield 24, 3) := by decide +kernel
theorem dX4_init_111 : decode cX4_init 111 = .ok (.iload_n 1, 1) := by decide +kernel
theorem dX4_init_112 : decode cX4_init 112 = .ok (.new 7, 3) := by decide +kernel
theorem dX4_init_115 : decode cX4_init 115 = .ok (.dup, 1) := by decide +kernel
theorem dX4_init_116 : decode cX4_init 116 = .ok (.invokespecial 9, 3) := by decide +kernel
theorem dX4_init_119 : decode cX4_init 119 = .ok (.aastore, 1) := by decide +kernel
theorem dX4_init_120 : decode cX4_init 120 = .ok (.iinc 1 1, 3) := by decide +kernel
theorem dX4_init_123 : decode cX4_init 123 = .ok (.goto (-25), 3) := by decide +kernel
theorem dX4_init_126 : decode cX4_init 126 = .ok (.return_, 1) := by decide +kernel
set_option maxRecDepth 20000 in
theorem ggX4_set_X4_keepState : GoodIn wsX4_set wsX4_keepState := goodIn_r _ [6, 7, 8, 1, 9, 10, 11, 12, 13, 14, 15, 16, 17, 18, 19, 20, 21, 22, 23, 24, 25, 26, 27, 28, 29, 30, 31, 32, 33, 34, 35, 36, 37, 38, 39, 40, 41, 42, 43, 44, 45, 46, 47, 48, 61, 62, 63, 64, 65, 66, 67, 68, 69, 70, 71, 72, 73, 74, 75, 76, 77, 78, 79, 80, 81, 82, 83, 84, 85, 86, 87] (by decide +kernel) (by decide +kernel)
set_option maxRecDepth 20000 in
theorem gX4_set_X4_keepState : GoodIn wsX4_set (wsV RX4 45 RX4 yX4_keepState wsX4_keepState) := goodIn_app (goodIn_of _ (by decide +kernel)) ggX4_set_X4_keepState
set_option maxRecDepth 20000 in
theorem ggX4_set_X3_changeSetting : GoodIn wsX4_set wsX3_changeSetting := goodIn_r _ [52, 14, 68, 69, 70, 71, 72, 73, 74] (by decide +kernel) (by decide +kernel)
set_option maxRecDepth 20000 in
theorem gX4_set_X3_changeSetting : GoodIn wsX4_set (wsV RX4 48 RX3 yX3_changeSetting wsX3_changeSetting) := goodIn_app (goodIn_of _ (by decide +kernel)) ggX4_set_X3_changeSetting
set_option maxRecDepth 20000 in
theorem ggX4_set_X4_recordUnlessError : GoodIn wsX4_set wsX4_recordUnlessError := goodIn_r _ [56, 8, 57, 58, 59, 5, 60, 7, 61, 62, 63, 64, 65, 66, 67] (by decide +kernel) (by decide +kernel)
set_option maxRecDepth 20000 in
theorem gX4_set_X4_recordUnlessError : GoodIn wsX4_set (wsV RX4 52 RX4 yX4_recordUnlessError wsX4_recordUnlessError) := goodIn_app (goodIn_of _ (by decide +kernel)) ggX4_set_X4_recordUnlessError
theorem dX4_set_0 : decode cX4_set 0 = .ok (.aload_n 0, 1) := by decide +kernel
theorem dX4_set_1 : decode cX4_set 1 = .ok (.invokevirtual 45, 3) := by decide +kernel
theorem dX4_set_4 : decode cX4_set 4 = .ok (.aload_n 0, 1) := by decide +kernel
theorem dX4_set_5 : decode cX4_set 5 = .ok (.aload_n 0, 1) := by decide +kernel
theorem dX4_set_6 : decode cX4_set 6 = .ok (.getfield 10, 3) := by decide +kernel
theorem dX4_set_9 : decode cX4_set 9 = .ok (.iload_n 1, 1) := by decide +kernel
theorem dX4_set_10 : decode cX4_set 10 = .ok (.iload_n 2, 1) := by decide +kernel
theorem dX4_set_11 : decode cX4_set 11 = .ok (.invokevirtual 48, 3) := by decide +kernel
theorem dX4_set_14 : decode cX4_set 14 = .ok (.invokevirtual 52, 3) := by decide +kernel
theorem dX4_set_17 : decode cX4_set 17 = .ok (.ireturn, 1) := by decide +kernel
set_option maxRecDepth 20000 in
theorem ggX4_landing_X4_keepState : GoodIn wsX4_landing wsX4_keepState := goodIn_r _ [6, 7, 8, 1, 9, 10, 11, 12, 13, 14, 15, 16, 17, 18, 19, 20, 21, 22, 23, 24, 25, 26, 27, 28, 29, 30, 31, 32, 33, 34, 35, 36, 37, 38, 39, 40, 41, 42, 43, 44, 45, 46, 47, 48, 74, 75, 76, 77, 78, 79, 80, 81, 82, 83, 84, 85, 86, 87, 88, 89, 90, 91, 92, 93, 94, 95, 96, 97, 98, 99, 100] (by decide +kernel) (by decide +kernel)
set_option maxRecDepth 20000 in
theorem gX4_landing_X4_keepState : GoodIn wsX4_landing (wsV RX4 45 RX4 yX4_keepState wsX4_keepState) := goodIn_app (goodIn_of _ (by decide +kernel)) ggX4_landing_X4_keepState
set_option maxRecDepth 20000 in
theorem ggX4_landing_X3_addLanding : GoodIn wsX4_landing wsX3_addLanding := goodIn_r _ [52, 20, 19, 53, 54, 55, 28, 56, 30, 31, 32, 33, 34, 35, 36, 37, 57, 58, 59, 12, 60, 61, 22, 23, 62, 63, 64, 65, 81, 82, 83, 84, 85, 86, 87, 88, 89, 90, 91, 92, 93, 94, 95] (by decide +kernel) (by decide +kernel)
set_option maxRecDepth 20000 in
theorem gX4_landing_X3_addLanding : GoodIn wsX4_landing (wsV RX4 56 RX3 yX3_addLanding wsX3_addLanding) := goodIn_app (goodIn_of _ (by decide +kernel)) ggX4_landing_X3_addLanding
set_option maxRecDepth 20000 in
theorem ggX4_landing_X4_recordUnlessError : GoodIn wsX4_landing wsX4_recordUnlessError := goodIn_r _ [69, 8, 70, 71, 72, 5, 73, 7, 74, 75, 76, 77, 78, 79, 80] (by decide +kernel) (by decide +kernel)
set_option maxRecDepth 20000 in
theorem gX4_landing_X4_recordUnlessError : GoodIn wsX4_landing (wsV RX4 52 RX4 yX4_recordUnlessError wsX4_recordUnlessError) := goodIn_app (goodIn_of _ (by decide +kernel)) ggX4_landing_X4_recordUnlessError
end
section
theorem dX4_landing_0 : decode cX4_landing 0 = .ok (.aload_n 0, 1) := by decide +kernel
theorem dX4_landing_1 : decode cX4_landing 1 = .ok (.invokevirtual 45, 3) := by decide +kernel
theorem dX4_landing_4 : decode cX4_landing 4 = .ok (.aload_n 0, 1) := by decide +kernel
theorem dX4_landing_5 : decode cX4_landing 5 = .ok (.aload_n 0, 1) := by decide +kernel
theorem dX4_landing_6 : decode cX4_landing 6 = .ok (.getfield 10, 3) := by decide +kernel
theorem dX4_landing_9 : decode cX4_landing 9 = .ok (.iload_n 1, 1) := by decide +kernel
theorem dX4_landing_10 : decode cX4_landing 10 = .ok (.invokevirtual 56, 3) := by decide +kernel
theorem dX4_landing_13 : decode cX4_landing 13 = .ok (.invokevirtual 52, 3) := by decide +kernel
theorem dX4_landing_16 : decode cX4_landing 16 = .ok (.ireturn, 1) := by decide +kernel
set_option maxRecDepth 20000 in
theorem ggX4_open_X4_keepState : GoodIn wsX4_open wsX4_keepState := goodIn_r _ [6, 7, 8, 1, 9, 10, 11, 12, 13, 14, 15, 16, 17, 18, 19, 20, 21, 22, 23, 24, 25, 26, 27, 28, 29, 30, 31, 32, 33, 34, 35, 36, 37, 38, 39, 40, 41, 42, 43, 44, 45, 46, 47, 48, 98, 99, 100, 101, 102, 103, 104, 105, 106, 107, 108, 109, 110, 111, 112, 113, 114, 115, 116, 117, 118, 119, 120, 121, 122, 123, 124] (by decide +kernel) (by decide +kernel)
set_option maxRecDepth 20000 in
theorem gX4_open_X4_keepState : GoodIn wsX4_open (wsV RX4 45 RX4 yX4_keepState wsX4_keepState) := goodIn_app (goodIn_of _ (by decide +kernel)) ggX4_open_X4_keepState
set_option maxRecDepth 20000 in
theorem ggX4_open_X3_openLanding : GoodIn wsX4_open wsX3_openLanding := goodIn_r _ [52, 53, 54, 55, 56, 12, 57, 20, 19, 58, 59, 60, 61, 24, 21, 62, 63, 64, 65, 41, 66, 43, 48, 45, 46, 47, 67, 68, 69, 70, 71, 72, 73, 74, 14, 75, 76, 77, 28, 78, 36, 32, 79, 80, 33, 34, 37, 81, 82, 83, 84, 85, 22, 23, 86, 87, 88, 89, 30, 112, 113, 114, 115, 116, 117, 118, 119, 105, 106, 107, 108, 109, 110, 111, 120, 121, 122, 123, 124] (by decide +kernel) (by decide +kernel)
set_option maxRecDepth 20000 in
theorem gX4_open_X3_openLanding : GoodIn wsX4_open (wsV RX4 59 RX3 yX3_openLanding wsX3_openLanding) := goodIn_app (goodIn_of _ (by decide +kernel)) ggX4_open_X3_openLanding
set_option maxRecDepth 20000 in
theorem ggX4_open_X4_recordUnlessError : GoodIn wsX4_open wsX4_recordUnlessError := goodIn_r _ [93, 8, 94, 95, 96, 5, 97, 7, 98, 99, 100, 101, 102, 103, 104] (by decide +kernel) (by decide +kernel)
set_option maxRecDepth 20000 in
theorem gX4_open_X4_recordUnlessError : GoodIn wsX4_open (wsV RX4 52 RX4 yX4_recordUnlessError wsX4_recordUnlessError) := goodIn_app (goodIn_of _ (by decide +kernel)) ggX4_open_X4_recordUnlessError
theorem dX4_open_0 : decode cX4_open 0 = .ok (.aload_n 0, 1) := by decide +kernel
theorem dX4_open_1 : decode cX4_open 1 = .ok (.invokevirtual 45, 3) := by decide +kernel
theorem dX4_open_4 : decode cX4_open 4 = .ok (.aload_n 0, 1) := by decide +kernel
theorem dX4_open_5 : decode cX4_open 5 = .ok (.aload_n 0, 1) := by decide +kernel
theorem dX4_open_6 : decode cX4_open 6 = .ok (.getfield 10, 3) := by decide +kernel
theorem dX4_open_9 : decode cX4_open 9 = .ok (.iload_n 1, 1) := by decide +kernel
theorem dX4_open_10 : decode cX4_open 10 = .ok (.invokevirtual 59, 3) := by decide +kernel
theorem dX4_open_13 : decode cX4_open 13 = .ok (.invokevirtual 52, 3) := by decide +kernel
theorem dX4_open_16 : decode cX4_open 16 = .ok (.ireturn, 1) := by decide +kernel
set_option maxRecDepth 20000 in
theorem ggX4_close_X4_keepState : GoodIn wsX4_close wsX4_keepState := goodIn_r _ [6, 7, 8, 1, 9, 10, 11, 12, 13, 14, 15, 16, 17, 18, 19, 20, 21, 22, 23, 24, 25, 26, 27, 28, 29, 30, 31, 32, 33, 34, 35, 36, 37, 38, 39, 40, 41, 42, 43, 44, 45, 46, 47, 48, 98, 99, 100, 101, 102, 103, 104, 105, 106, 107, 108, 109, 110, 111, 112, 113, 114, 115, 116, 117, 118, 119, 120, 121, 122, 123, 124] (by decide +kernel) (by decide +kernel)
set_option maxRecDepth 20000 in
theorem gX4_close_X4_keepState : GoodIn wsX4_close (wsV RX4 45 RX4 yX4_keepState wsX4_keepState) := goodIn_app (goodIn_of _ (by decide +kernel)) ggX4_close_X4_keepState
set_option maxRecDepth 20000 in
theorem ggX4_close_X3_closeLanding : GoodIn wsX4_close wsX3_closeLanding := goodIn_r _ [52, 53, 54, 55, 56, 12, 57, 20, 19, 58, 59, 60, 61, 24, 21, 62, 63, 64, 65, 41, 66, 43, 48, 45, 46, 47, 67, 68, 69, 70, 71, 72, 73, 74, 14, 75, 76, 77, 28, 78, 36, 32, 79, 80, 33, 34, 37, 81, 82, 83, 84, 85, 22, 23, 86, 87, 88, 89, 30, 112, 113, 114, 115, 116, 117, 118, 119, 105, 106, 107, 108, 109, 110, 111, 120, 121, 122, 123, 124] (by decide +kernel) (by decide +kernel)
set_option maxRecDepth 20000 in
theorem gX4_close_X3_closeLanding : GoodIn wsX4_close (wsV RX4 62 RX3 yX3_closeLanding wsX3_closeLanding) := goodIn_app (goodIn_of _ (by decide +kernel)) ggX4_close_X3_closeLanding
set_option maxRecDepth 20000 in
theorem ggX4_close_X4_recordUnlessError : GoodIn wsX4_close wsX4_recordUnlessError := goodIn_r _ [93, 8, 94, 95, 96, 5, 97, 7, 98, 99, 100, 101, 102, 103, 104] (by decide +kernel) (by decide +kernel)
set_option maxRecDepth 20000 in
theorem gX4_close_X4_recordUnlessError : GoodIn wsX4_close (wsV RX4 52 RX4 yX4_recordUnlessError wsX4_recordUnlessError) := goodIn_app (goodIn_of _ (by decide +kernel)) ggX4_close_X4_recordUnlessError
theorem dX4_close_0 : decode cX4_close 0 = .ok (.aload_n 0, 1) := by decide +kernel
theorem dX4_close_1 : decode cX4_close 1 = .ok (.invokevirtual 45, 3) := by decide +kernel
theorem dX4_close_4 : decode cX4_close 4 = .ok (.aload_n 0, 1) := by decide +kernel
theorem dX4_close_5 : decode cX4_close 5 = .ok (.aload_n 0, 1) := by decide +kernel
theorem dX4_close_6 : decode cX4_close 6 = .ok (.getfield 10, 3) := by decide +kernel
theorem dX4_close_9 : decode cX4_close 9 = .ok (.iload_n 1, 1) := by decide +kernel
theorem dX4_close_10 : decode cX4_close 10 = .ok (.invokevirtual 62, 3) := by decide +kernel
theorem dX4_close_13 : decode cX4_close 13 = .ok (.invokevirtual 52, 3) := by decide +kernel
theorem dX4_close_16 : decode cX4_close 16 = .ok (.ireturn, 1) := by decide +kernel
set_option maxRecDepth 20000 in
theorem ggX4_price_X4_keepState : GoodIn wsX4_price wsX4_keepState := goodIn_r _ [6, 7, 8, 1, 9, 10, 11, 12, 13, 14, 15, 16, 17, 18, 19, 20, 21, 22, 23, 24, 25, 26, 27, 28, 29, 30, 31, 32, 33, 34, 35, 36, 37, 38, 39, 40, 41, 42, 43, 44, 45, 46, 47, 48, 97, 98, 99, 100, 101, 102, 103, 104, 105, 106, 107, 108, 109, 110, 111, 112, 113, 114, 115, 116, 117, 118, 119, 120, 121, 122, 123] (by decide +kernel) (by decide +kernel)
set_option maxRecDepth 20000 in
theorem gX4_price_X4_keepState : GoodIn wsX4_price (wsV RX4 45 RX4 yX4_keepState wsX4_keepState) := goodIn_app (goodIn_of _ (by decide +kernel)) ggX4_price_X4_keepState
set_option maxRecDepth 20000 in
theorem ggX4_price_X3_changePrice : GoodIn wsX4_price wsX3_changePrice := goodIn_r _ [52, 53, 54, 55, 56, 12, 57, 20, 19, 58, 59, 60, 61, 24, 21, 62, 63, 64, 65, 41, 66, 43, 48, 45, 46, 47, 67, 68, 69, 70, 71, 72, 73, 74, 14, 75, 76, 77, 28, 78, 36, 32, 79, 80, 33, 34, 37, 81, 82, 83, 84, 22, 23, 85, 86, 87, 88, 30, 111, 112, 113, 114, 115, 116, 117, 118, 104, 105, 106, 107, 108, 109, 110, 119, 120, 121, 122, 123] (by decide +kernel) (by decide +kernel)
set_option maxRecDepth 20000 in
theorem gX4_price_X3_changePrice : GoodIn wsX4_price (wsV RX4 65 RX3 yX3_changePrice wsX3_changePrice) := goodIn_app (goodIn_of _ (by decide +kernel)) ggX4_price_X3_changePrice
set_option maxRecDepth 20000 in
theorem ggX4_price_X4_recordUnlessError : GoodIn wsX4_price wsX4_recordUnlessError := goodIn_r _ [92, 8, 93, 94, 95, 5, 96, 7, 97, 98, 99, 100, 101, 102, 103] (by decide +kernel) (by decide +kernel)
set_option maxRecDepth 20000 in
theorem gX4_price_X4_recordUnlessError : GoodIn wsX4_price (wsV RX4 52 RX4 yX4_recordUnlessError wsX4_recordUnlessError) := goodIn_app (goodIn_of _ (by decide +kernel)) ggX4_price_X4_recordUnlessError
theorem dX4_price_0 : decode cX4_price 0 = .ok (.aload_n 0, 1) := by decide +kernel
theorem dX4_price_1 : decode cX4_price 1 = .ok (.invokevirtual 45, 3) := by decide +kernel
theorem dX4_price_4 : decode cX4_price 4 = .ok (.aload_n 0, 1) := by decide +kernel
theorem dX4_price_5 : decode cX4_price 5 = .ok (.aload_n 0, 1) := by decide +kernel
theorem dX4_price_6 : decode cX4_price 6 = .ok (.getfield 10, 3) := by decide +kernel
theorem dX4_price_9 : decode cX4_price 9 = .ok (.iload_n 1, 1) := by decide +kernel
theorem dX4_price_10 : decode cX4_price 10 = .ok (.iload_n 2, 1) := by decide +kernel
theorem dX4_price_11 : decode cX4_price 11 = .ok (.invokevirtual 65, 3) := by decide +kernel
theorem dX4_price_14 : decode cX4_price 14 = .ok (.invokevirtual 52, 3) := by decide +kernel
theorem dX4_price_17 : decode cX4_price 17 = .ok (.ireturn, 1) := by decide +kernel
set_option maxRecDepth 20000 in
theorem ggX4_pass_X4_keepState : GoodIn wsX4_pass wsX4_keepState := goodIn_r _ [6, 7, 8, 1, 9, 10, 11, 12, 13, 14, 15, 16, 17, 18, 19, 20, 21, 22, 23, 24, 25, 26, 27, 28, 29, 30, 31, 32, 33, 34, 35, 36, 37, 38, 39, 40, 41, 42, 43, 44, 45, 46, 47, 48, 92, 93, 94, 95, 96, 97, 98, 99, 100, 101, 102, 103, 104, 105, 106, 107, 108, 109, 110, 111, 112, 113, 114, 115, 116, 117, 118] (by decide +kernel) (by decide +kernel)
set_option maxRecDepth 20000 in
theorem gX4_pass_X4_keepState : GoodIn wsX4_pass (wsV RX4 45 RX4 yX4_keepState wsX4_keepState) := goodIn_app (goodIn_of _ (by decide +kernel)) ggX4_pass_X4_keepState
set_option maxRecDepth 20000 in
theorem ggX4_pass_X3_passMinutes : GoodIn wsX4_pass wsX3_passMinutes := goodIn_r _ [52, 21, 53, 54, 55, 56, 12, 57, 20, 19, 24, 58, 59, 60, 61, 14, 62, 63, 64, 28, 65, 35, 32, 33, 34, 66, 67, 68, 69, 70, 71, 72, 41, 73, 43, 48, 45, 46, 47, 74, 75, 76, 77, 78, 79, 22, 23, 80, 81, 82, 83, 30, 99, 100, 101, 102, 103, 104, 105, 106, 107, 108, 109, 110, 111, 112, 113, 114, 115, 116, 117, 118] (by decide +kernel) (by decide +kernel)
set_option maxRecDepth 20000 in
theorem gX4_pass_X3_passMinutes : GoodIn wsX4_pass (wsV RX4 68 RX3 yX3_passMinutes wsX3_passMinutes) := goodIn_app (goodIn_of _ (by decide +kernel)) ggX4_pass_X3_passMinutes
set_option maxRecDepth 20000 in
theorem ggX4_pass_X4_recordUnlessError : GoodIn wsX4_pass wsX4_recordUnlessError := goodIn_r _ [87, 8, 88, 89, 90, 5, 91, 7, 92, 93, 94, 95, 96, 97, 98] (by decide +kernel) (by decide +kernel)
set_option maxRecDepth 20000 in
theorem gX4_pass_X4_recordUnlessError : GoodIn wsX4_pass (wsV RX4 52 RX4 yX4_recordUnlessError wsX4_recordUnlessError) := goodIn_app (goodIn_of _ (by decide +kernel)) ggX4_pass_X4_recordUnlessError
theorem dX4_pass_0 : decode cX4_pass 0 = .ok (.aload_n 0, 1) := by decide +kernel
theorem dX4_pass_1 : decode cX4_pass 1 = .ok (.invokevirtual 45, 3) := by decide +kernel
theorem dX4_pass_4 : decode cX4_pass 4 = .ok (.aload_n 0, 1) := by decide +kernel
theorem dX4_pass_5 : decode cX4_pass 5 = .ok (.aload_n 0, 1) := by decide +kernel
theorem dX4_pass_6 : decode cX4_pass 6 = .ok (.getfield 10, 3) := by decide +kernel
theorem dX4_pass_9 : decode cX4_pass 9 = .ok (.iload_n 1, 1) := by decide +kernel
theorem dX4_pass_10 : decode cX4_pass 10 = .ok (.invokevirtual 68, 3) := by decide +kernel
theorem dX4_pass_13 : decode cX4_pass 13 = .ok (.invokevirtual 52, 3) := by decide +kernel
theorem dX4_pass_16 : decode cX4_pass 16 = .ok (.ireturn, 1) := by decide +kernel
set_option maxRecDepth 20000 in
theorem ggX4_of_X3_find : GoodIn wsX4_of wsX3_find := goodIn_r _ [6, 7, 8, 29, 30, 31, 32, 33, 34, 35] (by decide +kernel) (by decide +kernel)
set_option maxRecDepth 20000 in
theorem gX4_of_X3_find : GoodIn wsX4_of (wsV RX4 71 RX3 yX3_find wsX3_find) := goodIn_app (goodIn_of _ (by decide +kernel)) ggX4_of_X3_find
set_option maxRecDepth 20000 in
theorem ggX4_of_X1_tell : GoodIn wsX4_of wsX1_tell := goodIn_r _ [13, 14, 15, 16, 17, 18, 19, 20, 21, 36, 37, 38, 39, 40, 41, 42, 43] (by decide +kernel) (by decide +kernel)
set_option maxRecDepth 20000 in
theorem gX4_of_X1_tell : GoodIn wsX4_of (wsV RX4 75 RX1 yX1_tell wsX1_tell) := goodIn_app (goodIn_of _ (by decide +kernel)) ggX4_of_X1_tell
theorem dX4_of_0 : decode cX4_of 0 = .ok (.aload_n 0, 1) := by decide +kernel
theorem dX4_of_1 : decode cX4_of 1 = .ok (.getfield 10, 3) := by decide +kernel
theorem dX4_of_4 : decode cX4_of 4 = .ok (.iload_n 1, 1) := by decide +kernel
theorem dX4_of_5 : decode cX4_of 5 = .ok (.invokevirtual 71, 3) := by decide +kernel
theorem dX4_of_8 : decode cX4_of 8 = .ok (.astore_n 3, 1) := by decide +kernel
theorem dX4_of_9 : decode cX4_of 9 = .ok (.aload_n 3, 1) := by decide +kernel
theorem dX4_of_10 : decode cX4_of 10 = .ok (.ifnonnull 7, 3) := by decide +kernel
theorem dX4_of_13 : decode cX4_of 13 = .ok (.iconst (-1), 1) := by decide +kernel
theorem dX4_of_14 : decode cX4_of 14 = .ok (.goto 8, 3) := by decide +kernel
theorem dX4_of_17 : decode cX4_of 17 = .ok (.aload_n 3, 1) := by decide +kernel
theorem dX4_of_18 : decode cX4_of 18 = .ok (.iload_n 2, 1) := by decide +kernel
theorem dX4_of_19 : decode cX4_of 19 = .ok (.invokevirtual 75, 3) := by decide +kernel
theorem dX4_of_22 : decode cX4_of 22 = .ok (.ireturn, 1) := by decide +kernel
set_option maxRecDepth 20000 in
theorem ggX4_count_X3_tell : GoodIn wsX4_count wsX3_tell := goodIn_r _ [9, 10, 11, 12, 13, 14, 15, 16, 17, 18, 19, 8, 20, 21, 22, 23, 24, 25, 26, 27, 41, 42, 43, 44, 45, 46, 47, 48, 49, 50, 51, 52, 53, 54, 55, 56, 57, 58, 59, 60] (by decide +kernel) (by decide +kernel)
set_option maxRecDepth 20000 in
theorem gX4_count_X3_tell : GoodIn wsX4_count (wsV RX4 81 RX3 yX3_tell wsX3_tell) := goodIn_app (goodIn_of _ (by decide +kernel)) ggX4_count_X3_tell
theorem dX4_count_0 : decode cX4_count 0 = .ok (.iload_n 1, 1) := by decide +kernel
theorem dX4_count_1 : decode cX4_count 1 = .ok (.bipush 14, 2) := by decide +kernel
theorem dX4_count_3 : decode cX4_count 3 = .ok (.if_icmp .ne 11, 3) := by decide +kernel
theorem dX4_count_6 : decode cX4_count 6 = .ok (.aload_n 0, 1) := by decide +kernel
theorem dX4_count_7 : decode cX4_count 7 = .ok (.getfield 34, 3) := by decide +kernel
theorem dX4_count_10 : decode cX4_count 10 = .ok (.getfield 78, 3) := by decide +kernel
theorem dX4_count_13 : decode cX4_count 13 = .ok (.ireturn, 1) := by decide +kernel
theorem dX4_count_14 : decode cX4_count 14 = .ok (.iload_n 1, 1) := by decide +kernel
theorem dX4_count_15 : decode cX4_count 15 = .ok (.bipush 15, 2) := by decide +kernel
theorem dX4_count_17 : decode cX4_count 17 = .ok (.if_icmp .ne 8, 3) := by decide +kernel
theorem dX4_count_20 : decode cX4_count 20 = .ok (.aload_n 0, 1) := by decide +kernel
theorem dX4_count_21 : decode cX4_count 21 = .ok (.getfield 20, 3) := by decide +kernel
theorem dX4_count_24 : decode cX4_count 24 = .ok (.ireturn, 1) := by decide +kernel
theorem dX4_count_25 : decode cX4_count 25 = .ok (.aload_n 0, 1) := by decide +kernel
theorem dX4_count_26 : decode cX4_count 26 = .ok (.getfield 10, 3) := by decide +kernel
theorem dX4_count_29 : decode cX4_count 29 = .ok (.iload_n 1, 1) := by decide +kernel
theorem dX4_count_30 : decode cX4_count 30 = .ok (.invokevirtual 81, 3) := by decide +kernel
theorem dX4_count_33 : decode cX4_count 33 = .ok (.ireturn, 1) := by decide +kernel
set_option maxRecDepth 20000 in
theorem ggX4_choice_X3_chosen : GoodIn wsX4_choice wsX3_chosen := goodIn_r _ [6, 7, 8, 9, 10, 11, 12, 13, 14, 15, 16, 17, 18, 5, 19, 20, 28, 29, 30, 31, 32, 33, 34, 35, 36, 37, 38, 39, 40, 41, 42] (by decide +kernel) (by decide +kernel)
set_option maxRecDepth 20000 in
theorem gX4_choice_X3_chosen : GoodIn wsX4_choice (wsV RX4 82 RX3 yX3_chosen wsX3_chosen) := goodIn_app (goodIn_of _ (by decide +kernel)) ggX4_choice_X3_chosen
theorem dX4_choice_0 : decode cX4_choice 0 = .ok (.aload_n 0, 1) := by decide +kernel
theorem dX4_choice_1 : decode cX4_choice 1 = .ok (.getfield 10, 3) := by decide +kernel
theorem dX4_choice_4 : decode cX4_choice 4 = .ok (.iload_n 1, 1) := by decide +kernel
theorem dX4_choice_5 : decode cX4_choice 5 = .ok (.invokevirtual 82, 3) := by decide +kernel
theorem dX4_choice_8 : decode cX4_choice 8 = .ok (.ireturn, 1) := by decide +kernel
set_option maxRecDepth 20000 in
theorem ggX4_log_X0_tell : GoodIn wsX4_log wsX0_tell := goodIn_r _ [7, 8, 9, 10, 11, 12, 27, 28, 29, 30, 31] (by decide +kernel) (by decide +kernel)
set_option maxRecDepth 20000 in
theorem gX4_log_X0_tell : GoodIn wsX4_log (wsV RX4 89 RX0 yX0_tell wsX0_tell) := goodIn_app (goodIn_of _ (by decide +kernel)) ggX4_log_X0_tell
theorem dX4_log_0 : decode cX4_log 0 = .ok (.aload_n 0, 1) := by decide +kernel
theorem dX4_log_1 : decode cX4_log 1 = .ok (.getfield 10, 3) := by decide +kernel
theorem dX4_log_4 : decode cX4_log 4 = .ok (.getfield 85, 3) := by decide +kernel
theorem dX4_log_7 : decode cX4_log 7 = .ok (.iload_n 1, 1) := by decide +kernel
theorem dX4_log_8 : decode cX4_log 8 = .ok (.iload_n 2, 1) := by decide +kernel
theorem dX4_log_9 : decode cX4_log 9 = .ok (.invokevirtual 89, 3) := by decide +kernel
theorem dX4_log_12 : decode cX4_log 12 = .ok (.ireturn, 1) := by decide +kernel
set_option maxRecDepth 20000 in
theorem ggX4_why_X3_find : GoodIn wsX4_why wsX3_find := goodIn_r _ [9, 10, 11, 19, 20, 21, 22, 23, 24, 25] (by decide +kernel) (by decide +kernel)
set_option maxRecDepth 20000 in
theorem gX4_why_X3_find : GoodIn wsX4_why (wsV RX4 71 RX3 yX3_find wsX3_find) := goodIn_app (goodIn_of _ (by decide +kernel)) ggX4_why_X3_find
theorem dX4_why_0 : decode cX4_why 0 = .ok (.aload_n 0, 1) := by decide +kernel
theorem dX4_why_1 : decode cX4_why 1 = .ok (.getfield 10, 3) := by decide +kernel
theorem dX4_why_4 : decode cX4_why 4 = .ok (.iload_n 1, 1) := by decide +kernel
theorem dX4_why_5 : decode cX4_why 5 = .ok (.invokevirtual 71, 3) := by decide +kernel
theorem dX4_why_8 : decode cX4_why 8 = .ok (.astore_n 2, 1) := by decide +kernel
theorem dX4_why_9 : decode cX4_why 9 = .ok (.aload_n 2, 1) := by decide +kernel
theorem dX4_why_10 : decode cX4_why 10 = .ok (.ifnonnull 5, 3) := by decide +kernel
theorem dX4_why_13 : decode cX4_why 13 = .ok (.iconst (-1), 1) := by decide +kernel
theorem dX4_why_14 : decode cX4_why 14 = .ok (.ireturn, 1) := by decide +kernel
theorem dX4_why_15 : decode cX4_why 15 = .ok (.iload_n 1, 1) := by decide +kernel
theorem dX4_why_16 : decode cX4_why 16 = .ok (.aload_n 0, 1) := by decide +kernel
theorem dX4_why_17 : decode cX4_why 17 = .ok (.getfield 10, 3) := by decide +kernel
theorem dX4_why_20 : decode cX4_why 20 = .ok (.getfield 93, 3) := by decide +kernel
theorem dX4_why_23 : decode cX4_why 23 = .ok (.if_icmp .ne 5, 3) := by decide +kernel
theorem dX4_why_26 : decode cX4_why 26 = .ok (.iconst 0, 1) := by decide +kernel
theorem dX4_why_27 : decode cX4_why 27 = .ok (.ireturn, 1) := by decide +kernel
theorem dX4_why_28 : decode cX4_why 28 = .ok (.aload_n 2, 1) := by decide +kernel
theorem dX4_why_29 : decode cX4_why 29 = .ok (.getfield 96, 3) := by decide +kernel
theorem dX4_why_32 : decode cX4_why 32 = .ok (.ifCond .ne 5, 3) := by decide +kernel
theorem dX4_why_35 : decode cX4_why 35 = .ok (.iconst 1, 1) := by decide +kernel
theorem dX4_why_36 : decode cX4_why 36 = .ok (.ireturn, 1) := by decide +kernel
theorem dX4_why_37 : decode cX4_why 37 = .ok (.aload_n 2, 1) := by decide +kernel
theorem dX4_why_38 : decode cX4_why 38 = .ok (.getfield 100, 3) := by decide +kernel
theorem dX4_why_41 : decode cX4_why 41 = .ok (.ifCond .eq 7, 3) := by decide +kernel
theorem dX4_why_44 : decode cX4_why 44 = .ok (.iconst 2, 1) := by decide +kernel
theorem dX4_why_45 : decode cX4_why 45 = .ok (.goto 4, 3) := by decide +kernel
theorem dX4_why_48 : decode cX4_why 48 = .ok (.iconst 3, 1) := by decide +kernel
theorem dX4_why_49 : decode cX4_why 49 = .ok (.ireturn, 1) := by decide +kernel
set_option maxRecDepth 20000 in
theorem ggX4_welcomeIn_X3_find : GoodIn wsX4_welcomeIn wsX3_find := goodIn_r _ [8, 9, 10, 52, 53, 54, 55, 56, 57, 58] (by decide +kernel) (by decide +kernel)
set_option maxRecDepth 20000 in
theorem gX4_welcomeIn_X3_find : GoodIn wsX4_welcomeIn (wsV RX4 71 RX3 yX3_find wsX3_find) := goodIn_app (goodIn_of _ (by decide +kernel)) ggX4_welcomeIn_X3_find
set_option maxRecDepth 20000 in
theorem ggX4_welcomeIn_X1_copyFrom : GoodIn wsX4_welcomeIn wsX1_copyFrom := goodIn_r _ [15, 16, 17, 18, 19, 20, 21, 22, 23, 44, 45, 46, 47, 48, 49, 50, 51] (by decide +kernel) (by decide +kernel)
set_option maxRecDepth 20000 in
theorem gX4_welcomeIn_X1_copyFrom : GoodIn wsX4_welcomeIn (wsV RX4 103 RX1 yX1_copyFrom wsX1_copyFrom) := goodIn_app (goodIn_of _ (by decide +kernel)) ggX4_welcomeIn_X1_copyFrom
set_option maxRecDepth 20000 in
theorem ggX4_welcomeIn_X3_passMinuteOf : GoodIn wsX4_welcomeIn wsX3_passMinuteOf := goodIn_r _ [27, 28, 29, 30, 31, 14, 32, 21, 18, 19, 20, 33, 34, 35, 36, 52, 53, 54, 55, 56, 57, 58, 44, 45, 46, 47, 48, 49, 50, 51] (by decide +kernel) (by decide +kernel)
set_option maxRecDepth 20000 in
theorem gX4_welcomeIn_X3_passMinuteOf : GoodIn wsX4_welcomeIn (wsV RX4 107 RX3 yX3_passMinuteOf wsX3_passMinuteOf) := goodIn_app (goodIn_of _ (by decide +kernel)) ggX4_welcomeIn_X3_passMinuteOf
theorem dX4_welcomeIn_0 : decode cX4_welcomeIn 0 = .ok (.aload_n 0, 1) := by decide +kernel
theorem dX4_welcomeIn_1 : decode cX4_welcomeIn 1 = .ok (.getfield 10, 3) := by decide +kernel
theorem dX4_welcomeIn_4 : decode cX4_welcomeIn 4 = .ok (.iload_n 1, 1) := by decide +kernel
theorem dX4_welcomeIn_5 : decode cX4_welcomeIn 5 = .ok (.invokevirtual 71, 3) := by decide +kernel
theorem dX4_welcomeIn_8 : decode cX4_welcomeIn 8 = .ok (.astore_n 2, 1) := by decide +kernel
theorem dX4_welcomeIn_9 : decode cX4_welcomeIn 9 = .ok (.aload_n 2, 1) := by decide +kernel
theorem dX4_welcomeIn_10 : decode cX4_welcomeIn 10 = .ok (.ifnonnull 5, 3) := by decide +kernel
theorem dX4_welcomeIn_13 : decode cX4_welcomeIn 13 = .ok (.iconst (-1), 1) := by decide +kernel
theorem dX4_welcomeIn_14 : decode cX4_welcomeIn 14 = .ok (.ireturn, 1) := by decide +kernel
theorem dX4_welcomeIn_15 : decode cX4_welcomeIn 15 = .ok (.aload_n 0, 1) := by decide +kernel
theorem dX4_welcomeIn_16 : decode cX4_welcomeIn 16 = .ok (.getfield 41, 3) := by decide +kernel
theorem dX4_welcomeIn_19 : decode cX4_welcomeIn 19 = .ok (.aload_n 2, 1) := by decide +kernel
theorem dX4_welcomeIn_20 : decode cX4_welcomeIn 20 = .ok (.invokevirtual 103, 3) := by decide +kernel
theorem dX4_welcomeIn_23 : decode cX4_welcomeIn 23 = .ok (.iconst 0, 1) := by decide +kernel
theorem dX4_welcomeIn_24 : decode cX4_welcomeIn 24 = .ok (.istore_n 3, 1) := by decide +kernel
theorem dX4_welcomeIn_25 : decode cX4_welcomeIn 25 = .ok (.aload_n 0, 1) := by decide +kernel
theorem dX4_welcomeIn_26 : decode cX4_welcomeIn 26 = .ok (.getfield 41, 3) := by decide +kernel
theorem dX4_welcomeIn_29 : decode cX4_welcomeIn 29 = .ok (.getfield 100, 3) := by decide +kernel
theorem dX4_welcomeIn_32 : decode cX4_welcomeIn 32 = .ok (.ifCond .eq 28, 3) := by decide +kernel
theorem dX4_welcomeIn_35 : decode cX4_welcomeIn 35 = .ok (.iload_n 3, 1) := by decide +kernel
theorem dX4_welcomeIn_36 : decode cX4_welcomeIn 36 = .ok (.sipush 999, 3) := by decide +kernel
theorem dX4_welcomeIn_39 : decode cX4_welcomeIn 39 = .ok (.if_icmp .ge 21, 3) := by decide +kernel
theorem dX4_welcomeIn_42 : decode cX4_welcomeIn 42 = .ok (.aload_n 0, 1) := by decide +kernel
theorem dX4_welcomeIn_43 : decode cX4_welcomeIn 43 = .ok (.getfield 10, 3) := by decide +kernel
theorem dX4_welcomeIn_46 : decode cX4_welcomeIn 46 = .ok (.aload_n 0, 1) := by decide +kernel
theorem dX4_welcomeIn_47 : decode cX4_welcomeIn 47 = .ok (.getfield 41, 3) := by decide +kernel
theorem dX4_welcomeIn_50 : decode cX4_welcomeIn 50 = .ok (.invokevirtual 107, 3) := by decide +kernel
theorem dX4_welcomeIn_53 : decode cX4_welcomeIn 53 = .ok (.pop, 1) := by decide +kernel
theorem dX4_welcomeIn_54 : decode cX4_welcomeIn 54 = .ok (.iinc 3 1, 3) := by decide +kernel
theorem dX4_welcomeIn_57 : decode cX4_welcomeIn 57 = .ok (.goto (-32), 3) := by decide +kernel
theorem dX4_welcomeIn_60 : decode cX4_welcomeIn 60 = .ok (.iload_n 3, 1) := by decide +kernel
theorem dX4_welcomeIn_61 : decode cX4_welcomeIn 61 = .ok (.ireturn, 1) := by decide +kernel
set_option maxRecDepth 20000 in
theorem ggX4_mayChange_X3_find : GoodIn wsX4_mayChange wsX3_find := goodIn_r _ [9, 10, 11, 54, 55, 56, 57, 58, 59, 60] (by decide +kernel) (by decide +kernel)
set_option maxRecDepth 20000 in
theorem gX4_mayChange_X3_find : GoodIn wsX4_mayChange (wsV RX4 71 RX3 yX3_find wsX3_find) := goodIn_app (goodIn_of _ (by decide +kernel)) ggX4_mayChange_X3_find
set_option maxRecDepth 20000 in
theorem ggX4_mayChange_X1_copyFrom : GoodIn wsX4_mayChange wsX1_copyFrom := goodIn_r _ [16, 17, 18, 19, 20, 21, 22, 23, 24, 46, 47, 48, 49, 50, 51, 52, 53] (by decide +kernel) (by decide +kernel)
set_option maxRecDepth 20000 in
theorem gX4_mayChange_X1_copyFrom : GoodIn wsX4_mayChange (wsV RX4 103 RX1 yX1_copyFrom wsX1_copyFrom) := goodIn_app (goodIn_of _ (by decide +kernel)) ggX4_mayChange_X1_copyFrom
set_option maxRecDepth 20000 in
theorem ggX4_mayChange_X3_fineBySort : GoodIn wsX4_mayChange wsX3_fineBySort := goodIn_r _ [28, 29, 30, 31, 32, 15, 33, 23, 19, 34, 35, 36, 37, 38, 20, 21, 24, 54, 55, 56, 57, 58, 59, 60, 46, 47, 48, 49, 50, 51, 52, 53] (by decide +kernel) (by decide +kernel)
set_option maxRecDepth 20000 in
theorem gX4_mayChange_X3_fineBySort : GoodIn wsX4_mayChange (wsV RX4 111 RX3 yX3_fineBySort wsX3_fineBySort) := goodIn_app (goodIn_of _ (by decide +kernel)) ggX4_mayChange_X3_fineBySort
theorem dX4_mayChange_0 : decode cX4_mayChange 0 = .ok (.aload_n 0, 1) := by decide +kernel
theorem dX4_mayChange_1 : decode cX4_mayChange 1 = .ok (.getfield 10, 3) := by decide +kernel
theorem dX4_mayChange_4 : decode cX4_mayChange 4 = .ok (.iload_n 1, 1) := by decide +kernel
theorem dX4_mayChange_5 : decode cX4_mayChange 5 = .ok (.invokevirtual 71, 3) := by decide +kernel
theorem dX4_mayChange_8 : decode cX4_mayChange 8 = .ok (.astore_n 2, 1) := by decide +kernel
theorem dX4_mayChange_9 : decode cX4_mayChange 9 = .ok (.aload_n 2, 1) := by decide +kernel
theorem dX4_mayChange_10 : decode cX4_mayChange 10 = .ok (.ifnonnull 5, 3) := by decide +kernel
theorem dX4_mayChange_13 : decode cX4_mayChange 13 = .ok (.iconst (-1), 1) := by decide +kernel
theorem dX4_mayChange_14 : decode cX4_mayChange 14 = .ok (.ireturn, 1) := by decide +kernel
theorem dX4_mayChange_15 : decode cX4_mayChange 15 = .ok (.aload_n 2, 1) := by decide +kernel
theorem dX4_mayChange_16 : decode cX4_mayChange 16 = .ok (.getfield 100, 3) := by decide +kernel
theorem dX4_mayChange_19 : decode cX4_mayChange 19 = .ok (.ifCond .eq 5, 3) := by decide +kernel
theorem dX4_mayChange_22 : decode cX4_mayChange 22 = .ok (.iconst 0, 1) := by decide +kernel
theorem dX4_mayChange_23 : decode cX4_mayChange 23 = .ok (.ireturn, 1) := by decide +kernel
theorem dX4_mayChange_24 : decode cX4_mayChange 24 = .ok (.aload_n 0, 1) := by decide +kernel
theorem dX4_mayChange_25 : decode cX4_mayChange 25 = .ok (.getfield 41, 3) := by decide +kernel
theorem dX4_mayChange_28 : decode cX4_mayChange 28 = .ok (.aload_n 2, 1) := by decide +kernel
theorem dX4_mayChange_29 : decode cX4_mayChange 29 = .ok (.invokevirtual 103, 3) := by decide +kernel
theorem dX4_mayChange_32 : decode cX4_mayChange 32 = .ok (.iconst 1, 1) := by decide +kernel
theorem dX4_mayChange_33 : decode cX4_mayChange 33 = .ok (.istore_n 3, 1) := by decide +kernel
theorem dX4_mayChange_34 : decode cX4_mayChange 34 = .ok (.iload_n 3, 1) := by decide +kernel
theorem dX4_mayChange_35 : decode cX4_mayChange 35 = .ok (.bipush 100, 2) := by decide +kernel
theorem dX4_mayChange_37 : decode cX4_mayChange 37 = .ok (.if_icmp .gt 62, 3) := by decide +kernel
theorem dX4_mayChange_40 : decode cX4_mayChange 40 = .ok (.aload_n 0, 1) := by decide +kernel
theorem dX4_mayChange_41 : decode cX4_mayChange 41 = .ok (.getfield 41, 3) := by decide +kernel
theorem dX4_mayChange_44 : decode cX4_mayChange 44 = .ok (.aload_n 0, 1) := by decide +kernel
theorem dX4_mayChange_45 : decode cX4_mayChange 45 = .ok (.getfield 41, 3) := by decide +kernel
theorem dX4_mayChange_48 : decode cX4_mayChange 48 = .ok (.getfield 96, 3) := by decide +kernel
theorem dX4_mayChange_51 : decode cX4_mayChange 51 = .ok (.ifCond .ne 7, 3) := by decide +kernel
theorem dX4_mayChange_54 : decode cX4_mayChange 54 = .ok (.iconst 1, 1) := by decide +kernel
theorem dX4_mayChange_55 : decode cX4_mayChange 55 = .ok (.goto 4, 3) := by decide +kernel
theorem dX4_mayChange_58 : decode cX4_mayChange 58 = .ok (.iconst 0, 1) := by decide +kernel
theorem dX4_mayChange_59 : decode cX4_mayChange 59 = .ok (.putfield 96, 3) := by decide +kernel
theorem dX4_mayChange_62 : decode cX4_mayChange 62 = .ok (.aload_n 0, 1) := by decide +kernel
theorem dX4_mayChange_63 : decode cX4_mayChange 63 = .ok (.getfield 10, 3) := by decide +kernel
theorem dX4_mayChange_66 : decode cX4_mayChange 66 = .ok (.aload_n 0, 1) := by decide +kernel
theorem dX4_mayChange_67 : decode cX4_mayChange 67 = .ok (.getfield 41, 3) := by decide +kernel
theorem dX4_mayChange_70 : decode cX4_mayChange 70 = .ok (.aload_n 0, 1) := by decide +kernel
theorem dX4_mayChange_71 : decode cX4_mayChange 71 = .ok (.getfield 41, 3) := by decide +kernel
theorem dX4_mayChange_74 : decode cX4_mayChange 74 = .ok (.getfield 96, 3) := by decide +kernel
theorem dX4_mayChange_77 : decode cX4_mayChange 77 = .ok (.ifCond .eq 7, 3) := by decide +kernel
theorem dX4_mayChange_80 : decode cX4_mayChange 80 = .ok (.iconst 1, 1) := by decide +kernel
theorem dX4_mayChange_81 : decode cX4_mayChange 81 = .ok (.goto 4, 3) := by decide +kernel
theorem dX4_mayChange_84 : decode cX4_mayChange 84 = .ok (.iconst 0, 1) := by decide +kernel
theorem dX4_mayChange_85 : decode cX4_mayChange 85 = .ok (.invokevirtual 111, 3) := by decide +kernel
theorem dX4_mayChange_88 : decode cX4_mayChange 88 = .ok (.ifCond .eq 5, 3) := by decide +kernel
theorem dX4_mayChange_91 : decode cX4_mayChange 91 = .ok (.iload_n 3, 1) := by decide +kernel
theorem dX4_mayChange_92 : decode cX4_mayChange 92 = .ok (.ireturn, 1) := by decide +kernel
theorem dX4_mayChange_93 : decode cX4_mayChange 93 = .ok (.iinc 3 1, 3) := by decide +kernel
theorem dX4_mayChange_96 : decode cX4_mayChange 96 = .ok (.goto (-62), 3) := by decide +kernel
theorem dX4_mayChange_99 : decode cX4_mayChange 99 = .ok (.bipush (-6), 2) := by decide +kernel
theorem dX4_mayChange_101 : decode cX4_mayChange 101 = .ok (.ireturn, 1) := by decide +kernel
set_option maxRecDepth 20000 in
theorem ggX4_fineIn_X3_find : GoodIn wsX4_fineIn wsX3_find := goodIn_r _ [8, 9, 10, 52, 53, 54, 55, 56, 57, 58] (by decide +kernel) (by decide +kernel)
set_option maxRecDepth 20000 in
theorem gX4_fineIn_X3_find : GoodIn wsX4_fineIn (wsV RX4 71 RX3 yX3_find wsX3_find) := goodIn_app (goodIn_of _ (by decide +kernel)) ggX4_fineIn_X3_find
set_option maxRecDepth 20000 in
theorem ggX4_fineIn_X1_copyFrom : GoodIn wsX4_fineIn wsX1_copyFrom := goodIn_r _ [15, 16, 17, 18, 19, 20, 21, 22, 23, 44, 45, 46, 47, 48, 49, 50, 51] (by decide +kernel) (by decide +kernel)
set_option maxRecDepth 20000 in
theorem gX4_fineIn_X1_copyFrom : GoodIn wsX4_fineIn (wsV RX4 103 RX1 yX1_copyFrom wsX1_copyFrom) := goodIn_app (goodIn_of _ (by decide +kernel)) ggX4_fineIn_X1_copyFrom
set_option maxRecDepth 20000 in
theorem ggX4_fineIn_X3_passMinuteOf : GoodIn wsX4_fineIn wsX3_passMinuteOf := goodIn_r _ [27, 28, 29, 30, 31, 14, 32, 21, 18, 19, 20, 33, 34, 35, 36, 52, 53, 54, 55, 56, 57, 58, 44, 45, 46, 47, 48, 49, 50, 51] (by decide +kernel) (by decide +kernel)
set_option maxRecDepth 20000 in
theorem gX4_fineIn_X3_passMinuteOf : GoodIn wsX4_fineIn (wsV RX4 107 RX3 yX3_passMinuteOf wsX3_passMinuteOf) := goodIn_app (goodIn_of _ (by decide +kernel)) ggX4_fineIn_X3_passMinuteOf
theorem dX4_fineIn_0 : decode cX4_fineIn 0 = .ok (.aload_n 0, 1) := by decide +kernel
theorem dX4_fineIn_1 : decode cX4_fineIn 1 = .ok (.getfield 10, 3) := by decide +kernel
theorem dX4_fineIn_4 : decode cX4_fineIn 4 = .ok (.iload_n 1, 1) := by decide +kernel
theorem dX4_fineIn_5 : decode cX4_fineIn 5 = .ok (.invokevirtual 71, 3) := by decide +kernel
theorem dX4_fineIn_8 : decode cX4_fineIn 8 = .ok (.astore_n 3, 1) := by decide +kernel
theorem dX4_fineIn_9 : decode cX4_fineIn 9 = .ok (.aload_n 3, 1) := by decide +kernel
theorem dX4_fineIn_10 : decode cX4_fineIn 10 = .ok (.ifnonnull 5, 3) := by decide +kernel
theorem dX4_fineIn_13 : decode cX4_fineIn 13 = .ok (.iconst (-1), 1) := by decide +kernel
theorem dX4_fineIn_14 : decode cX4_fineIn 14 = .ok (.ireturn, 1) := by decide +kernel
theorem dX4_fineIn_15 : decode cX4_fineIn 15 = .ok (.iload_n 2, 1) := by decide +kernel
theorem dX4_fineIn_16 : decode cX4_fineIn 16 = .ok (.ifCond .lt 10, 3) := by decide +kernel
theorem dX4_fineIn_19 : decode cX4_fineIn 19 = .ok (.iload_n 2, 1) := by decide +kernel
theorem dX4_fineIn_20 : decode cX4_fineIn 20 = .ok (.sipush 999, 3) := by decide +kernel
theorem dX4_fineIn_23 : decode cX4_fineIn 23 = .ok (.if_icmp .le 6, 3) := by decide +kernel
theorem dX4_fineIn_26 : decode cX4_fineIn 26 = .ok (.bipush (-2), 2) := by decide +kernel
theorem dX4_fineIn_28 : decode cX4_fineIn 28 = .ok (.ireturn, 1) := by decide +kernel
theorem dX4_fineIn_29 : decode cX4_fineIn 29 = .ok (.aload_n 0, 1) := by decide +kernel
theorem dX4_fineIn_30 : decode cX4_fineIn 30 = .ok (.getfield 41, 3) := by decide +kernel
theorem dX4_fineIn_33 : decode cX4_fineIn 33 = .ok (.aload_n 3, 1) := by decide +kernel
theorem dX4_fineIn_34 : decode cX4_fineIn 34 = .ok (.invokevirtual 103, 3) := by decide +kernel
theorem dX4_fineIn_37 : decode cX4_fineIn 37 = .ok (.iconst 0, 1) := by decide +kernel
theorem dX4_fineIn_38 : decode cX4_fineIn 38 = .ok (.istore 4, 2) := by decide +kernel
theorem dX4_fineIn_40 : decode cX4_fineIn 40 = .ok (.iload 4, 2) := by decide +kernel
theorem dX4_fineIn_42 : decode cX4_fineIn 42 = .ok (.iload_n 2, 1) := by decide +kernel
theorem dX4_fineIn_43 : decode cX4_fineIn 43 = .ok (.if_icmp .ge 21, 3) := by decide +kernel
theorem dX4_fineIn_46 : decode cX4_fineIn 46 = .ok (.aload_n 0, 1) := by decide +kernel
theorem dX4_fineIn_47 : decode cX4_fineIn 47 = .ok (.getfield 10, 3) := by decide +kernel
theorem dX4_fineIn_50 : decode cX4_fineIn 50 = .ok (.aload_n 0, 1) := by decide +kernel
theorem dX4_fineIn_51 : decode cX4_fineIn 51 = .ok (.getfield 41, 3) := by decide +kernel
theorem dX4_fineIn_54 : decode cX4_fineIn 54 = .ok (.invokevirtual 107, 3) := by decide +kernel
theorem dX4_fineIn_57 : decode cX4_fineIn 57 = .ok (.pop, 1) := by decide +kernel
theorem dX4_fineIn_58 : decode cX4_fineIn 58 = .ok (.iinc 4 1, 3) := by decide +kernel
theorem dX4_fineIn_61 : decode cX4_fineIn 61 = .ok (.goto (-21), 3) := by decide +kernel
theorem dX4_fineIn_64 : decode cX4_fineIn 64 = .ok (.aload_n 0, 1) := by decide +kernel
theorem dX4_fineIn_65 : decode cX4_fineIn 65 = .ok (.getfield 41, 3) := by decide +kernel
theorem dX4_fineIn_68 : decode cX4_fineIn 68 = .ok (.getfield 115, 3) := by decide +kernel
theorem dX4_fineIn_71 : decode cX4_fineIn 71 = .ok (.ireturn, 1) := by decide +kernel
set_option maxRecDepth 20000 in
theorem ggX4_steady_X4_staysWelcome : GoodIn wsX4_steady wsX4_staysWelcome := goodIn_r _ [5, 6, 7, 8, 9, 10, 11, 12, 13, 14, 15, 16, 17, 18, 19, 20, 21, 22, 23, 24, 25, 26, 27, 28, 29, 30, 31, 32, 33, 34, 35, 36, 37, 38, 39, 40, 41, 42, 43, 44, 45, 46, 47, 48, 49, 50, 51, 52, 53, 54, 55, 56, 57, 58, 59, 60, 61, 62, 63, 64, 65, 66, 67] (by decide +kernel) (by decide +kernel)
set_option maxRecDepth 20000 in
theorem gX4_steady_X4_staysWelcome : GoodIn wsX4_steady (wsV RX4 118 RX4 yX4_staysWelcome wsX4_staysWelcome) := goodIn_app (goodIn_of _ (by decide +kernel)) ggX4_steady_X4_staysWelcome
theorem dX4_steady_0 : decode cX4_steady 0 = .ok (.iconst 0, 1) := by decide +kernel
theorem dX4_steady_1 : decode cX4_steady 1 = .ok (.istore_n 1, 1) := by decide +kernel
theorem dX4_steady_2 : decode cX4_steady 2 = .ok (.iload_n 1, 1) := by decide +kernel
theorem dX4_steady_3 : decode cX4_steady 3 = .ok (.sipush 200, 3) := by decide +kernel
theorem dX4_steady_6 : decode cX4_steady 6 = .ok (.if_icmp .gt 19, 3) := by decide +kernel
theorem dX4_steady_9 : decode cX4_steady 9 = .ok (.aload_n 0, 1) := by decide +kernel
theorem dX4_steady_10 : decode cX4_steady 10 = .ok (.iload_n 1, 1) := by decide +kernel
theorem dX4_steady_11 : decode cX4_steady 11 = .ok (.invokevirtual 118, 3) := by decide +kernel
theorem dX4_steady_14 : decode cX4_steady 14 = .ok (.ifCond .eq 5, 3) := by decide +kernel
theorem dX4_steady_17 : decode cX4_steady 17 = .ok (.iload_n 1, 1) := by decide +kernel
theorem dX4_steady_18 : decode cX4_steady 18 = .ok (.ireturn, 1) := by decide +kernel
theorem dX4_steady_19 : decode cX4_steady 19 = .ok (.iinc 1 1, 3) := by decide +kernel
theorem dX4_steady_22 : decode cX4_steady 22 = .ok (.goto (-20), 3) := by decide +kernel
theorem dX4_steady_25 : decode cX4_steady 25 = .ok (.bipush (-6), 2) := by decide +kernel
theorem dX4_steady_27 : decode cX4_steady 27 = .ok (.ireturn, 1) := by decide +kernel
set_option maxRecDepth 20000 in
theorem ggX4_staysWelcome_X1_arrive : GoodIn wsX4_staysWelcome wsX1_arrive := goodIn_r _ [7, 8, 9, 10, 11, 12, 13, 14, 15, 48, 49, 50, 51, 52, 53, 54, 55] (by decide +kernel) (by decide +kernel)
set_option maxRecDepth 20000 in
theorem gX4_staysWelcome_X1_arrive : GoodIn wsX4_staysWelcome (wsV RX4 122 RX1 yX1_arrive wsX1_arrive) := goodIn_app (goodIn_of _ (by decide +kernel)) ggX4_staysWelcome_X1_arrive
set_option maxRecDepth 20000 in
theorem ggX4_staysWelcome_X3_fineBySort : GoodIn wsX4_staysWelcome wsX3_fineBySort := goodIn_r _ [20, 21, 22, 23, 24, 6, 25, 14, 10, 26, 27, 28, 29, 30, 11, 12, 15, 56, 57, 58, 59, 60, 61, 62, 48, 49, 50, 51, 52, 53, 54, 55] (by decide +kernel) (by decide +kernel)
set_option maxRecDepth 20000 in
theorem gX4_staysWelcome_X3_fineBySort : GoodIn wsX4_staysWelcome (wsV RX4 111 RX3 yX3_fineBySort wsX3_fineBySort) := goodIn_app (goodIn_of _ (by decide +kernel)) ggX4_staysWelcome_X3_fineBySort
set_option maxRecDepth 20000 in
theorem ggX4_staysWelcome_X3_fade : GoodIn wsX4_staysWelcome wsX3_fade := goodIn_r _ [34, 21, 35, 36, 29, 37, 38, 39, 40, 28, 30, 56, 57, 58, 59, 60, 61, 62, 48, 49, 50, 51, 52, 53, 54, 55] (by decide +kernel) (by decide +kernel)
set_option maxRecDepth 20000 in
theorem gX4_staysWelcome_X3_fade : GoodIn wsX4_staysWelcome (wsV RX4 126 RX3 yX3_fade wsX3_fade) := goodIn_app (goodIn_of _ (by decide +kernel)) ggX4_staysWelcome_X3_fade
theorem dX4_staysWelcome_0 : decode cX4_staysWelcome 0 = .ok (.aload_n 0, 1) := by decide +kernel
theorem dX4_staysWelcome_1 : decode cX4_staysWelcome 1 = .ok (.getfield 41, 3) := by decide +kernel
theorem dX4_staysWelcome_4 : decode cX4_staysWelcome 4 = .ok (.iconst 0, 1) := by decide +kernel
theorem dX4_staysWelcome_5 : decode cX4_staysWelcome 5 = .ok (.invokevirtual 122, 3) := by decide +kernel
theorem dX4_staysWelcome_8 : decode cX4_staysWelcome 8 = .ok (.iconst 0, 1) := by decide +kernel
theorem dX4_staysWelcome_9 : decode cX4_staysWelcome 9 = .ok (.istore_n 2, 1) := by decide +kernel
theorem dX4_staysWelcome_10 : decode cX4_staysWelcome 10 = .ok (.iload_n 2, 1) := by decide +kernel
theorem dX4_staysWelcome_11 : decode cX4_staysWelcome 11 = .ok (.bipush 80, 2) := by decide +kernel
theorem dX4_staysWelcome_13 : decode cX4_staysWelcome 13 = .ok (.if_icmp .ge 48, 3) := by decide +kernel
theorem dX4_staysWelcome_16 : decode cX4_staysWelcome 16 = .ok (.aload_n 0, 1) := by decide +kernel
theorem dX4_staysWelcome_17 : decode cX4_staysWelcome 17 = .ok (.getfield 10, 3) := by decide +kernel
theorem dX4_staysWelcome_20 : decode cX4_staysWelcome 20 = .ok (.aload_n 0, 1) := by decide +kernel
theorem dX4_staysWelcome_21 : decode cX4_staysWelcome 21 = .ok (.getfield 41, 3) := by decide +kernel
theorem dX4_staysWelcome_24 : decode cX4_staysWelcome 24 = .ok (.iload_n 2, 1) := by decide +kernel
theorem dX4_staysWelcome_25 : decode cX4_staysWelcome 25 = .ok (.iconst 2, 1) := by decide +kernel
theorem dX4_staysWelcome_26 : decode cX4_staysWelcome 26 = .ok (.irem, 1) := by decide +kernel
theorem dX4_staysWelcome_27 : decode cX4_staysWelcome 27 = .ok (.ifCond .ne 7, 3) := by decide +kernel
theorem dX4_staysWelcome_30 : decode cX4_staysWelcome 30 = .ok (.iconst 0, 1) := by decide +kernel
theorem dX4_staysWelcome_31 : decode cX4_staysWelcome 31 = .ok (.goto 4, 3) := by decide +kernel
theorem dX4_staysWelcome_34 : decode cX4_staysWelcome 34 = .ok (.iconst 1, 1) := by decide +kernel
theorem dX4_staysWelcome_35 : decode cX4_staysWelcome 35 = .ok (.invokevirtual 111, 3) := by decide +kernel
theorem dX4_staysWelcome_38 : decode cX4_staysWelcome 38 = .ok (.ifCond .eq 5, 3) := by decide +kernel
theorem dX4_staysWelcome_41 : decode cX4_staysWelcome 41 = .ok (.iconst 0, 1) := by decide +kernel
theorem dX4_staysWelcome_42 : decode cX4_staysWelcome 42 = .ok (.ireturn, 1) := by decide +kernel
theorem dX4_staysWelcome_43 : decode cX4_staysWelcome 43 = .ok (.aload_n 0, 1) := by decide +kernel
theorem dX4_staysWelcome_44 : decode cX4_staysWelcome 44 = .ok (.getfield 10, 3) := by decide +kernel
theorem dX4_staysWelcome_47 : decode cX4_staysWelcome 47 = .ok (.aload_n 0, 1) := by decide +kernel
theorem dX4_staysWelcome_48 : decode cX4_staysWelcome 48 = .ok (.getfield 41, 3) := by decide +kernel
theorem dX4_staysWelcome_51 : decode cX4_staysWelcome 51 = .ok (.iload_n 1, 1) := by decide +kernel
theorem dX4_staysWelcome_52 : decode cX4_staysWelcome 52 = .ok (.invokevirtual 126, 3) := by decide +kernel
theorem dX4_staysWelcome_55 : decode cX4_staysWelcome 55 = .ok (.iinc 2 1, 3) := by decide +kernel
theorem dX4_staysWelcome_58 : decode cX4_staysWelcome 58 = .ok (.goto (-48), 3) := by decide +kernel
theorem dX4_staysWelcome_61 : decode cX4_staysWelcome 61 = .ok (.iconst 1, 1) := by decide +kernel
theorem dX4_staysWelcome_62 : decode cX4_staysWelcome 62 = .ok (.ireturn, 1) := by decide +kernel
set_option maxRecDepth 20000 in
theorem ggX4_put_X4_charactersIn : GoodIn wsX4_put wsX4_charactersIn := goodIn_r _ [6, 7] (by decide +kernel) (by decide +kernel)
set_option maxRecDepth 20000 in
theorem gX4_put_X4_charactersIn : GoodIn wsX4_put (va_wsS RX4 130 yX4_charactersIn wsX4_charactersIn) := goodIn_app (goodIn_of _ (by decide +kernel)) ggX4_put_X4_charactersIn
set_option maxRecDepth 20000 in
theorem ggX4_put_X2_append : GoodIn wsX4_put wsX2_append := goodIn_r _ [12, 13, 14, 15, 23, 24, 25, 26, 27, 28] (by decide +kernel) (by decide +kernel)
set_option maxRecDepth 20000 in
theorem gX4_put_X2_append : GoodIn wsX4_put (wsV RX4 134 RX2 yX2_append wsX2_append) := goodIn_app (goodIn_of _ (by decide +kernel)) ggX4_put_X2_append
theorem dX4_put_0 : decode cX4_put 0 = .ok (.lload_n 1, 1) := by decide +kernel
theorem dX4_put_1 : decode cX4_put 1 = .ok (.invokestatic 130, 3) := by decide +kernel
theorem dX4_put_4 : decode cX4_put 4 = .ok (.istore_n 3, 1) := by decide +kernel
theorem dX4_put_5 : decode cX4_put 5 = .ok (.iload_n 3, 1) := by decide +kernel
theorem dX4_put_6 : decode cX4_put 6 = .ok (.ifCond .ne 6, 3) := by decide +kernel
theorem dX4_put_9 : decode cX4_put 9 = .ok (.bipush (-2), 2) := by decide +kernel
theorem dX4_put_11 : decode cX4_put 11 = .ok (.ireturn, 1) := by decide +kernel
theorem dX4_put_12 : decode cX4_put 12 = .ok (.aload_n 0, 1) := by decide +kernel
theorem dX4_put_13 : decode cX4_put 13 = .ok (.getfield 34, 3) := by decide +kernel
theorem dX4_put_16 : decode cX4_put 16 = .ok (.getfield 78, 3) := by decide +kernel
theorem dX4_put_19 : decode cX4_put 19 = .ok (.iload_n 3, 1) := by decide +kernel
theorem dX4_put_20 : decode cX4_put 20 = .ok (.iadd, 1) := by decide +kernel
theorem dX4_put_21 : decode cX4_put 21 = .ok (.bipush 80, 2) := by decide +kernel
theorem dX4_put_23 : decode cX4_put 23 = .ok (.if_icmp .le 6, 3) := by decide +kernel
theorem dX4_put_26 : decode cX4_put 26 = .ok (.bipush (-4), 2) := by decide +kernel
theorem dX4_put_28 : decode cX4_put 28 = .ok (.ireturn, 1) := by decide +kernel
theorem dX4_put_29 : decode cX4_put 29 = .ok (.aload_n 0, 1) := by decide +kernel
theorem dX4_put_30 : decode cX4_put 30 = .ok (.getfield 34, 3) := by decide +kernel
theorem dX4_put_33 : decode cX4_put 33 = .ok (.lload_n 1, 1) := by decide +kernel
theorem dX4_put_34 : decode cX4_put 34 = .ok (.iload_n 3, 1) := by decide +kernel
theorem dX4_put_35 : decode cX4_put 35 = .ok (.invokevirtual 134, 3) := by decide +kernel
theorem dX4_put_38 : decode cX4_put 38 = .ok (.aload_n 0, 1) := by decide +kernel
theorem dX4_put_39 : decode cX4_put 39 = .ok (.getfield 34, 3) := by decide +kernel
theorem dX4_put_42 : decode cX4_put 42 = .ok (.getfield 78, 3) := by decide +kernel
theorem dX4_put_45 : decode cX4_put 45 = .ok (.ireturn, 1) := by decide +kernel
theorem dX4_charactersIn_0 : decode cX4_charactersIn 0 = .ok (.iconst 0, 1) := by decide +kernel
theorem dX4_charactersIn_1 : decode cX4_charactersIn 1 = .ok (.istore_n 2, 1) := by decide +kernel
theorem dX4_charactersIn_2 : decode cX4_charactersIn 2 = .ok (.lload_n 0, 1) := by decide +kernel
theorem dX4_charactersIn_3 : decode cX4_charactersIn 3 = .ok (.lstore_n 3, 1) := by decide +kernel
theorem dX4_charactersIn_4 : decode cX4_charactersIn 4 = .ok (.lload_n 3, 1) := by decide +kernel
theorem dX4_charactersIn_5 : decode cX4_charactersIn 5 = .ok (.lconst 0, 1) := by decide +kernel
theorem dX4_charactersIn_6 : decode cX4_charactersIn 6 = .ok (.lcmp, 1) := by decide +kernel
theorem dX4_charactersIn_7 : decode cX4_charactersIn 7 = .ok (.ifCond .eq 44, 3) := by decide +kernel
theorem dX4_charactersIn_10 : decode cX4_charactersIn 10 = .ok (.iload_n 2, 1) := by decide +kernel
theorem dX4_charactersIn_11 : decode cX4_charactersIn 11 = .ok (.bipush 8, 2) := by decide +kernel
theorem dX4_charactersIn_13 : decode cX4_charactersIn 13 = .ok (.if_icmp .ge 38, 3) := by decide +kernel
theorem dX4_charactersIn_16 : decode cX4_charactersIn 16 = .ok (.lload_n 3, 1) := by decide +kernel
theorem dX4_charactersIn_17 : decode cX4_charactersIn 17 = .ok (.ldc2_w 138, 3) := by decide +kernel
theorem dX4_charactersIn_20 : decode cX4_charactersIn 20 = .ok (.land, 1) := by decide +kernel
theorem dX4_charactersIn_21 : decode cX4_charactersIn 21 = .ok (.l2i, 1) := by decide +kernel
theorem dX4_charactersIn_22 : decode cX4_charactersIn 22 = .ok (.istore 5, 2) := by decide +kernel
theorem dX4_charactersIn_24 : decode cX4_charactersIn 24 = .ok (.iload 5, 2) := by decide +kernel
theorem dX4_charactersIn_26 : decode cX4_charactersIn 26 = .ok (.bipush 33, 2) := by decide +kernel
theorem dX4_charactersIn_28 : decode cX4_charactersIn 28 = .ok (.if_icmp .lt 10, 3) := by decide +kernel
theorem dX4_charactersIn_31 : decode cX4_charactersIn 31 = .ok (.iload 5, 2) := by decide +kernel
theorem dX4_charactersIn_33 : decode cX4_charactersIn 33 = .ok (.bipush 126, 2) := by decide +kernel
theorem dX4_charactersIn_35 : decode cX4_charactersIn 35 = .ok (.if_icmp .le 5, 3) := by decide +kernel
theorem dX4_charactersIn_38 : decode cX4_charactersIn 38 = .ok (.iconst 0, 1) := by decide +kernel
theorem dX4_charactersIn_39 : decode cX4_charactersIn 39 = .ok (.ireturn, 1) := by decide +kernel
theorem dX4_charactersIn_40 : decode cX4_charactersIn 40 = .ok (.iinc 2 1, 3) := by decide +kernel
theorem dX4_charactersIn_43 : decode cX4_charactersIn 43 = .ok (.lload_n 3, 1) := by decide +kernel
theorem dX4_charactersIn_44 : decode cX4_charactersIn 44 = .ok (.bipush 8, 2) := by decide +kernel
theorem dX4_charactersIn_46 : decode cX4_charactersIn 46 = .ok (.lushr, 1) := by decide +kernel
theorem dX4_charactersIn_47 : decode cX4_charactersIn 47 = .ok (.lstore_n 3, 1) := by decide +kernel
theorem dX4_charactersIn_48 : decode cX4_charactersIn 48 = .ok (.goto (-44), 3) := by decide +kernel
theorem dX4_charactersIn_51 : decode cX4_charactersIn 51 = .ok (.iload_n 2, 1) := by decide +kernel
theorem dX4_charactersIn_52 : decode cX4_charactersIn 52 = .ok (.ireturn, 1) := by decide +kernel
set_option maxRecDepth 20000 in
theorem ggX4_wipe_X2_clear : GoodIn wsX4_wipe wsX2_clear := goodIn_r _ [6, 7, 15, 16, 17, 18, 19, 20] (by decide +kernel) (by decide +kernel)
set_option maxRecDepth 20000 in
theorem gX4_wipe_X2_clear : GoodIn wsX4_wipe (wsV RX4 140 RX2 yX2_clear wsX2_clear) := goodIn_app (goodIn_of _ (by decide +kernel)) ggX4_wipe_X2_clear
theorem dX4_wipe_0 : decode cX4_wipe 0 = .ok (.aload_n 0, 1) := by decide +kernel
theorem dX4_wipe_1 : decode cX4_wipe 1 = .ok (.getfield 34, 3) := by decide +kernel
theorem dX4_wipe_4 : decode cX4_wipe 4 = .ok (.invokevirtual 140, 3) := by decide +kernel
theorem dX4_wipe_7 : decode cX4_wipe 7 = .ok (.ireturn, 1) := by decide +kernel
set_option maxRecDepth 20000 in
theorem ggX4_fault_X2_findFault : GoodIn wsX4_fault wsX2_findFault := goodIn_r _ [6, 7, 8, 9, 10, 11, 5, 12, 13, 14, 15, 16, 17, 18, 19, 20, 21, 22, 23, 24, 25, 26, 27, 28, 29, 30, 31, 32, 33, 34, 35, 36, 44, 45, 46, 47, 48, 49] (by decide +kernel) (by decide +kernel)
set_option maxRecDepth 20000 in
theorem gX4_fault_X2_findFault : GoodIn wsX4_fault (wsV RX4 144 RX2 yX2_findFault wsX2_findFault) := goodIn_app (goodIn_of _ (by decide +kernel)) ggX4_fault_X2_findFault
theorem dX4_fault_0 : decode cX4_fault 0 = .ok (.aload_n 0, 1) := by decide +kernel
theorem dX4_fault_1 : decode cX4_fault 1 = .ok (.getfield 34, 3) := by decide +kernel
theorem dX4_fault_4 : decode cX4_fault 4 = .ok (.invokevirtual 144, 3) := by decide +kernel
theorem dX4_fault_7 : decode cX4_fault 7 = .ok (.ireturn, 1) := by decide +kernel
set_option maxRecDepth 20000 in
theorem ggX4_carryOut_X2_findFault : GoodIn wsX4_carryOut wsX2_findFault := goodIn_r _ [6, 7, 8, 9, 10, 11, 5, 12, 13, 14, 15, 16, 17, 18, 19, 20, 21, 22, 23, 24, 25, 26, 27, 28, 29, 30, 31, 32, 33, 34, 35, 36, 188, 189, 190, 191, 192, 193] (by decide +kernel) (by decide +kernel)
set_option maxRecDepth 20000 in
theorem gX4_carryOut_X2_findFault : GoodIn wsX4_carryOut (wsV RX4 144 RX2 yX2_findFault wsX2_findFault) := goodIn_app (goodIn_of _ (by decide +kernel)) ggX4_carryOut_X2_findFault
set_option maxRecDepth 20000 in
theorem ggX4_carryOut_X4_keepState : GoodIn wsX4_carryOut wsX4_keepState := goodIn_r _ [41, 42, 43, 44, 45, 46, 47, 48, 49, 50, 51, 52, 53, 54, 55, 56, 57, 58, 59, 60, 61, 62, 63, 64, 65, 66, 67, 68, 69, 70, 71, 72, 73, 74, 75, 76, 77, 78, 79, 80, 81, 82, 83, 84, 181, 182, 183, 184, 185, 186, 187, 194, 195, 196, 197, 198, 199, 200, 201, 202, 203, 204, 205, 206, 207, 208, 209, 210, 211, 212, 213] (by decide +kernel) (by decide +kernel)
set_option maxRecDepth 20000 in
theorem gX4_carryOut_X4_keepState : GoodIn wsX4_carryOut (wsV RX4 45 RX4 yX4_keepState wsX4_keepState) := goodIn_app (goodIn_of _ (by decide +kernel)) ggX4_carryOut_X4_keepState
set_option maxRecDepth 20000 in
theorem ggX4_carryOut_X2_startReading : GoodIn wsX4_carryOut wsX2_startReading := goodIn_r _ [12, 7, 188, 189, 190, 191, 192, 193] (by decide +kernel) (by decide +kernel)
set_option maxRecDepth 20000 in
theorem gX4_carryOut_X2_startReading : GoodIn wsX4_carryOut (wsV RX4 147 RX2 yX2_startReading wsX2_startReading) := goodIn_app (goodIn_of _ (by decide +kernel)) ggX4_carryOut_X2_startReading
set_option maxRecDepth 20000 in
theorem ggX4_carryOut_X2_readOrder : GoodIn wsX4_carryOut wsX2_readOrder := goodIn_r _ [16, 7, 8, 17, 18, 19, 20, 21, 5, 22, 23, 24, 25, 26, 27, 28, 29, 30, 31, 32, 33, 34, 35, 36, 188, 189, 190, 191, 192, 193] (by decide +kernel) (by decide +kernel)
set_option maxRecDepth 20000 in
theorem gX4_carryOut_X2_readOrder : GoodIn wsX4_carryOut (wsV RX4 150 RX2 yX2_readOrder wsX2_readOrder) := goodIn_app (goodIn_of _ (by decide +kernel)) ggX4_carryOut_X2_readOrder
set_option maxRecDepth 20000 in
theorem ggX4_carryOut_X4_carryOutOne : GoodIn wsX4_carryOut wsX4_carryOutOne := goodIn_r _ [90, 1, 91, 44, 92, 93, 94, 95, 96, 48, 97, 56, 55, 98, 99, 100, 64, 101, 66, 67, 68, 69, 70, 71, 72, 73, 102, 103, 104, 105, 106, 58, 59, 107, 108, 109, 110, 111, 112, 113, 114, 115, 116, 117, 118, 119, 120, 121, 122, 123, 60, 57, 124, 125, 126, 127, 77, 128, 79, 84, 81, 82, 83, 129, 130, 131, 132, 133, 134, 135, 136, 50, 137, 138, 139, 140, 141, 142, 143, 144, 145, 146, 147, 148, 149, 150, 151, 152, 153, 154, 155, 156, 157, 158, 159, 160, 161, 162, 163, 164, 165, 166, 167, 181, 182, 183, 184, 185, 186, 187, 188, 189, 190, 191, 192, 193, 194, 195, 196, 197, 198, 199, 200, 201, 202, 203, 204, 205, 206, 207, 208, 209, 210, 211, 212, 213] (by decide +kernel) (by decide +kernel)
set_option maxRecDepth 20000 in
theorem gX4_carryOut_X4_carryOutOne : GoodIn wsX4_carryOut (wsV RX4 154 RX4 yX4_carryOutOne wsX4_carryOutOne) := goodIn_app (goodIn_of _ (by decide +kernel)) ggX4_carryOut_X4_carryOutOne
set_option maxRecDepth 20000 in
theorem ggX4_carryOut_X2_readSign : GoodIn wsX4_carryOut wsX2_readSign := goodIn_r _ [36, 7, 8, 17, 188, 189, 190, 191, 192, 193] (by decide +kernel) (by decide +kernel)
set_option maxRecDepth 20000 in
theorem gX4_carryOut_X2_readSign : GoodIn wsX4_carryOut (wsV RX4 157 RX2 yX2_readSign wsX2_readSign) := goodIn_app (goodIn_of _ (by decide +kernel)) ggX4_carryOut_X2_readSign
set_option maxRecDepth 20000 in
theorem ggX4_carryOut_X2_clear : GoodIn wsX4_carryOut wsX2_clear := goodIn_r _ [172, 8, 188, 189, 190, 191, 192, 193] (by decide +kernel) (by decide +kernel)
set_option maxRecDepth 20000 in
theorem gX4_carryOut_X2_clear : GoodIn wsX4_carryOut (wsV RX4 140 RX2 yX2_clear wsX2_clear) := goodIn_app (goodIn_of _ (by decide +kernel)) ggX4_carryOut_X2_clear
set_option maxRecDepth 20000 in
theorem ggX4_carryOut_X4_recordUnlessError : GoodIn wsX4_carryOut wsX4_recordUnlessError := goodIn_r _ [176, 43, 177, 178, 179, 40, 180, 42, 181, 182, 183, 184, 185, 186, 187] (by decide +kernel) (by decide +kernel)
set_option maxRecDepth 20000 in
theorem gX4_carryOut_X4_recordUnlessError : GoodIn wsX4_carryOut (wsV RX4 52 RX4 yX4_recordUnlessError wsX4_recordUnlessError) := goodIn_app (goodIn_of _ (by decide +kernel)) ggX4_carryOut_X4_recordUnlessError
theorem dX4_carryOut_0 : decode cX4_carryOut 0 = .ok (.aload_n 0, 1) := by decide +kernel
theorem dX4_carryOut_1 : decode cX4_carryOut 1 = .ok (.getfield 34, 3) := by decide +kernel
theorem dX4_carryOut_4 : decode cX4_carryOut 4 = .ok (.invokevirtual 144, 3) := by decide +kernel
theorem dX4_carryOut_7 : decode cX4_carryOut 7 = .ok (.bipush (-6), 2) := by decide +kernel
theorem dX4_carryOut_9 : decode cX4_carryOut 9 = .ok (.if_icmp .eq 6, 3) := by decide +kernel
theorem dX4_carryOut_12 : decode cX4_carryOut 12 = .ok (.bipush (-3), 2) := by decide +kernel
theorem dX4_carryOut_14 : decode cX4_carryOut 14 = .ok (.ireturn, 1) := by decide +kernel
theorem dX4_carryOut_15 : decode cX4_carryOut 15 = .ok (.aload_n 0, 1) := by decide +kernel
theorem dX4_carryOut_16 : decode cX4_carryOut 16 = .ok (.invokevirtual 45, 3) := by decide +kernel
theorem dX4_carryOut_19 : decode cX4_carryOut 19 = .ok (.iconst 0, 1) := by decide +kernel
theorem dX4_carryOut_20 : decode cX4_carryOut 20 = .ok (.istore_n 1, 1) := by decide +kernel
theorem dX4_carryOut_21 : decode cX4_carryOut 21 = .ok (.aload_n 0, 1) := by decide +kernel
theorem dX4_carryOut_22 : decode cX4_carryOut 22 = .ok (.getfield 34, 3) := by decide +kernel
theorem dX4_carryOut_25 : decode cX4_carryOut 25 = .ok (.invokevirtual 147, 3) := by decide +kernel
theorem dX4_carryOut_28 : decode cX4_carryOut 28 = .ok (.iconst 0, 1) := by decide +kernel
theorem dX4_carryOut_29 : decode cX4_carryOut 29 = .ok (.istore_n 2, 1) := by decide +kernel
theorem dX4_carryOut_30 : decode cX4_carryOut 30 = .ok (.iload_n 2, 1) := by decide +kernel
theorem dX4_carryOut_31 : decode cX4_carryOut 31 = .ok (.bipush 80, 2) := by decide +kernel
theorem dX4_carryOut_33 : decode cX4_carryOut 33 = .ok (.if_icmp .ge 47, 3) := by decide +kernel
theorem dX4_carryOut_36 : decode cX4_carryOut 36 = .ok (.aload_n 0, 1) := by decide +kernel
theorem dX4_carryOut_37 : decode cX4_carryOut 37 = .ok (.getfield 34, 3) := by decide +kernel
theorem dX4_carryOut_40 : decode cX4_carryOut 40 = .ok (.invokevirtual 150, 3) := by decide +kernel
theorem dX4_carryOut_43 : decode cX4_carryOut 43 = .ok (.ifCond .eq 37, 3) := by decide +kernel
theorem dX4_carryOut_46 : decode cX4_carryOut 46 = .ok (.aload_n 0, 1) := by decide +kernel
theorem dX4_carryOut_47 : decode cX4_carryOut 47 = .ok (.invokevirtual 154, 3) := by decide +kernel
theorem dX4_carryOut_50 : decode cX4_carryOut 50 = .ok (.ifCond .ge 6, 3) := by decide +kernel
theorem dX4_carryOut_53 : decode cX4_carryOut 53 = .ok (.goto 27, 3) := by decide +kernel
theorem dX4_carryOut_56 : decode cX4_carryOut 56 = .ok (.iinc 1 1, 3) := by decide +kernel
theorem dX4_carryOut_59 : decode cX4_carryOut 59 = .ok (.aload_n 0, 1) := by decide +kernel
theorem dX4_carryOut_60 : decode cX4_carryOut 60 = .ok (.getfield 34, 3) := by decide +kernel
theorem dX4_carryOut_63 : decode cX4_carryOut 63 = .ok (.bipush 59, 2) := by decide +kernel
theorem dX4_carryOut_65 : decode cX4_carryOut 65 = .ok (.invokevirtual 157, 3) := by decide +kernel
theorem dX4_carryOut_68 : decode cX4_carryOut 68 = .ok (.ifCond .ne 6, 3) := by decide +kernel
theorem dX4_carryOut_71 : decode cX4_carryOut 71 = .ok (.goto 9, 3) := by decide +kernel
theorem dX4_carryOut_74 : decode cX4_carryOut 74 = .ok (.iinc 2 1, 3) := by decide +kernel
theorem dX4_carryOut_77 : decode cX4_carryOut 77 = .ok (.goto (-47), 3) := by decide +kernel
theorem dX4_carryOut_80 : decode cX4_carryOut 80 = .ok (.aload_n 0, 1) := by decide +kernel
theorem dX4_carryOut_81 : decode cX4_carryOut 81 = .ok (.getfield 34, 3) := by decide +kernel
theorem dX4_carryOut_84 : decode cX4_carryOut 84 = .ok (.invokevirtual 140, 3) := by decide +kernel
theorem dX4_carryOut_87 : decode cX4_carryOut 87 = .ok (.pop, 1) := by decide +kernel
theorem dX4_carryOut_88 : decode cX4_carryOut 88 = .ok (.aload_n 0, 1) := by decide +kernel
theorem dX4_carryOut_89 : decode cX4_carryOut 89 = .ok (.iload_n 1, 1) := by decide +kernel
theorem dX4_carryOut_90 : decode cX4_carryOut 90 = .ok (.invokevirtual 52, 3) := by decide +kernel
theorem dX4_carryOut_93 : decode cX4_carryOut 93 = .ok (.ireturn, 1) := by decide +kernel
set_option maxRecDepth 20000 in
theorem ggX4_carryOutOne_X3_addLanding : GoodIn wsX4_carryOutOne wsX3_addLanding := goodIn_r _ [10, 11, 12, 13, 14, 15, 16, 17, 18, 19, 20, 21, 22, 23, 24, 25, 26, 27, 28, 9, 29, 30, 31, 32, 33, 34, 35, 36, 116, 117, 118, 119, 120, 121, 122, 123, 124, 125, 126, 127, 128, 129, 130] (by decide +kernel) (by decide +kernel)
set_option maxRecDepth 20000 in
theorem gX4_carryOutOne_X3_addLanding : GoodIn wsX4_carryOutOne (wsV RX4 56 RX3 yX3_addLanding wsX3_addLanding) := goodIn_app (goodIn_of _ (by decide +kernel)) ggX4_carryOutOne_X3_addLanding
set_option maxRecDepth 20000 in
theorem ggX4_carryOutOne_X3_openLanding : GoodIn wsX4_carryOutOne wsX3_openLanding := goodIn_r _ [40, 41, 42, 43, 44, 9, 45, 11, 12, 46, 47, 48, 49, 50, 51, 52, 53, 54, 55, 56, 57, 58, 59, 60, 61, 62, 63, 64, 65, 66, 67, 68, 69, 70, 71, 72, 73, 74, 16, 75, 24, 20, 76, 77, 21, 22, 25, 26, 27, 28, 29, 30, 31, 32, 33, 34, 35, 36, 18, 123, 124, 125, 126, 127, 128, 129, 130, 116, 117, 118, 119, 120, 121, 122, 131, 132, 133, 134, 135] (by decide +kernel) (by decide +kernel)
set_option maxRecDepth 20000 in
theorem gX4_carryOutOne_X3_openLanding : GoodIn wsX4_carryOutOne (wsV RX4 59 RX3 yX3_openLanding wsX3_openLanding) := goodIn_app (goodIn_of _ (by decide +kernel)) ggX4_carryOutOne_X3_openLanding
set_option maxRecDepth 20000 in
theorem ggX4_carryOutOne_X3_closeLanding : GoodIn wsX4_carryOutOne wsX3_closeLanding := goodIn_r _ [81, 41, 42, 43, 44, 9, 45, 11, 12, 46, 47, 48, 49, 50, 51, 52, 53, 54, 55, 56, 57, 58, 59, 60, 61, 62, 63, 64, 65, 66, 67, 68, 69, 70, 71, 72, 73, 74, 16, 75, 24, 20, 76, 77, 21, 22, 25, 26, 27, 28, 29, 30, 31, 32, 33, 34, 35, 36, 18, 123, 124, 125, 126, 127, 128, 129, 130, 116, 117, 118, 119, 120, 121, 122, 131, 132, 133, 134, 135] (by decide +kernel) (by decide +kernel)
set_option maxRecDepth 20000 in
theorem gX4_carryOutOne_X3_closeLanding : GoodIn wsX4_carryOutOne (wsV RX4 62 RX3 yX3_closeLanding wsX3_closeLanding) := goodIn_app (goodIn_of _ (by decide +kernel)) ggX4_carryOutOne_X3_closeLanding
set_option maxRecDepth 20000 in
theorem ggX4_carryOutOne_X3_changePrice : GoodIn wsX4_carryOutOne wsX3_changePrice := goodIn_r _ [85, 30, 42, 43, 44, 9, 45, 11, 12, 46, 47, 48, 49, 50, 51, 52, 53, 54, 55, 56, 57, 58, 59, 60, 61, 62, 63, 64, 65, 66, 67, 68, 69, 70, 71, 72, 73, 74, 16, 75, 24, 20, 76, 77, 21, 22, 25, 26, 27, 28, 29, 31, 32, 33, 34, 35, 36, 18, 123, 124, 125, 126, 127, 128, 129, 130, 116, 117, 118, 119, 120, 121, 122, 131, 132, 133, 134, 135] (by decide +kernel) (by decide +kernel)
set_option maxRecDepth 20000 in
theorem gX4_carryOutOne_X3_changePrice : GoodIn wsX4_carryOutOne (wsV RX4 65 RX3 yX3_changePrice wsX3_changePrice) := goodIn_app (goodIn_of _ (by decide +kernel)) ggX4_carryOutOne_X3_changePrice
set_option maxRecDepth 20000 in
theorem ggX4_carryOutOne_X3_passMinutes : GoodIn wsX4_carryOutOne wsX3_passMinutes := goodIn_r _ [89, 51, 90, 91, 92, 93, 9, 94, 11, 12, 50, 95, 96, 97, 98, 71, 99, 100, 101, 16, 102, 23, 20, 21, 22, 77, 64, 65, 66, 53, 54, 55, 56, 57, 58, 59, 60, 61, 62, 63, 26, 27, 28, 29, 30, 31, 32, 33, 34, 35, 36, 18, 116, 117, 118, 119, 120, 121, 122, 123, 124, 125, 126, 127, 128, 129, 130, 131, 132, 133, 134, 135] (by decide +kernel) (by decide +kernel)
set_option maxRecDepth 20000 in
theorem gX4_carryOutOne_X3_passMinutes : GoodIn wsX4_carryOutOne (wsV RX4 68 RX3 yX3_passMinutes wsX3_passMinutes) := goodIn_app (goodIn_of _ (by decide +kernel)) ggX4_carryOutOne_X3_passMinutes
theorem dX4_carryOutOne_0 : decode cX4_carryOutOne 0 = .ok (.aload_n 0, 1) := by decide +kernel
theorem dX4_carryOutOne_1 : decode cX4_carryOutOne 1 = .ok (.getfield 34, 3) := by decide +kernel
theorem dX4_carryOutOne_4 : decode cX4_carryOutOne 4 = .ok (.getfield 161, 3) := by decide +kernel
theorem dX4_carryOutOne_7 : decode cX4_carryOutOne 7 = .ok (.lookupswitch 108 #[(43, 41), (99, 71), (111, 56), (112, 86)], 41) := by decide +kernel
theorem dX4_carryOutOne_48 : decode cX4_carryOutOne 48 = .ok (.aload_n 0, 1) := by decide +kernel
theorem dX4_carryOutOne_49 : decode cX4_carryOutOne 49 = .ok (.getfield 10, 3) := by decide +kernel
theorem dX4_carryOutOne_52 : decode cX4_carryOutOne 52 = .ok (.aload_n 0, 1) := by decide +kernel
theorem dX4_carryOutOne_53 : decode cX4_carryOutOne 53 = .ok (.getfield 34, 3) := by decide +kernel
theorem dX4_carryOutOne_56 : decode cX4_carryOutOne 56 = .ok (.getfield 165, 3) := by decide +kernel
theorem dX4_carryOutOne_59 : decode cX4_carryOutOne 59 = .ok (.invokevirtual 56, 3) := by decide +kernel
theorem dX4_carryOutOne_62 : decode cX4_carryOutOne 62 = .ok (.ireturn, 1) := by decide +kernel
theorem dX4_carryOutOne_63 : decode cX4_carryOutOne 63 = .ok (.aload_n 0, 1) := by decide +kernel
theorem dX4_carryOutOne_64 : decode cX4_carryOutOne 64 = .ok (.getfield 10, 3) := by decide +kernel
theorem dX4_carryOutOne_67 : decode cX4_carryOutOne 67 = .ok (.aload_n 0, 1) := by decide +kernel
theorem dX4_carryOutOne_68 : decode cX4_carryOutOne 68 = .ok (.getfield 34, 3) := by decide +kernel
theorem dX4_carryOutOne_71 : decode cX4_carryOutOne 71 = .ok (.getfield 168, 3) := by decide +kernel
theorem dX4_carryOutOne_74 : decode cX4_carryOutOne 74 = .ok (.invokevirtual 59, 3) := by decide +kernel
theorem dX4_carryOutOne_77 : decode cX4_carryOutOne 77 = .ok (.ireturn, 1) := by decide +kernel
theorem dX4_carryOutOne_78 : decode cX4_carryOutOne 78 = .ok (.aload_n 0, 1) := by decide +kernel
theorem dX4_carryOutOne_79 : decode cX4_carryOutOne 79 = .ok (.getfield 10, 3) := by decide +kernel
theorem dX4_carryOutOne_82 : decode cX4_carryOutOne 82 = .ok (.aload_n 0, 1) := by decide +kernel
theorem dX4_carryOutOne_83 : decode cX4_carryOutOne 83 = .ok (.getfield 34, 3) := by decide +kernel
theorem dX4_carryOutOne_86 : decode cX4_carryOutOne 86 = .ok (.getfield 168, 3) := by decide +kernel
theorem dX4_carryOutOne_89 : decode cX4_carryOutOne 89 = .ok (.invokevirtual 62, 3) := by decide +kernel
theorem dX4_carryOutOne_92 : decode cX4_carryOutOne 92 = .ok (.ireturn, 1) := by decide +kernel
theorem dX4_carryOutOne_93 : decode cX4_carryOutOne 93 = .ok (.aload_n 0, 1) := by decide +kernel
theorem dX4_carryOutOne_94 : decode cX4_carryOutOne 94 = .ok (.getfield 10, 3) := by decide +kernel
theorem dX4_carryOutOne_97 : decode cX4_carryOutOne 97 = .ok (.aload_n 0, 1) := by decide +kernel
theorem dX4_carryOutOne_98 : decode cX4_carryOutOne 98 = .ok (.getfield 34, 3) := by decide +kernel
theorem dX4_carryOutOne_101 : decode cX4_carryOutOne 101 = .ok (.getfield 168, 3) := by decide +kernel
theorem dX4_carryOutOne_104 : decode cX4_carryOutOne 104 = .ok (.aload_n 0, 1) := by decide +kernel
theorem dX4_carryOutOne_105 : decode cX4_carryOutOne 105 = .ok (.getfield 34, 3) := by decide +kernel
theorem dX4_carryOutOne_108 : decode cX4_carryOutOne 108 = .ok (.getfield 165, 3) := by decide +kernel
theorem dX4_carryOutOne_111 : decode cX4_carryOutOne 111 = .ok (.invokevirtual 65, 3) := by decide +kernel
theorem dX4_carryOutOne_114 : decode cX4_carryOutOne 114 = .ok (.ireturn, 1) := by decide +kernel
theorem dX4_carryOutOne_115 : decode cX4_carryOutOne 115 = .ok (.aload_n 0, 1) := by decide +kernel
theorem dX4_carryOutOne_116 : decode cX4_carryOutOne 116 = .ok (.getfield 10, 3) := by decide +kernel
theorem dX4_carryOutOne_119 : decode cX4_carryOutOne 119 = .ok (.aload_n 0, 1) := by decide +kernel
theorem dX4_carryOutOne_120 : decode cX4_carryOutOne 120 = .ok (.getfield 34, 3) := by decide +kernel
theorem dX4_carryOutOne_123 : decode cX4_carryOutOne 123 = .ok (.getfield 165, 3) := by decide +kernel
theorem dX4_carryOutOne_126 : decode cX4_carryOutOne 126 = .ok (.invokevirtual 68, 3) := by decide +kernel
theorem dX4_carryOutOne_129 : decode cX4_carryOutOne 129 = .ok (.ireturn, 1) := by decide +kernel
set_option maxRecDepth 20000 in
theorem ggX4_undo_X3_copyFrom : GoodIn wsX4_undo wsX3_copyFrom := goodIn_r _ [8, 9, 10, 11, 12, 13, 14, 15, 16, 17, 18, 19, 20, 21, 22, 23, 24, 25, 26, 27, 28, 29, 30, 31, 32, 33, 34, 35, 36, 37, 38, 39, 40, 41, 42, 43, 51, 52, 53, 54, 55, 56, 57, 58, 59, 60, 61, 62, 63, 64, 65, 66, 67, 68, 69, 70] (by decide +kernel) (by decide +kernel)
set_option maxRecDepth 20000 in
theorem gX4_undo_X3_copyFrom : GoodIn wsX4_undo (wsV RX4 171 RX3 yX3_copyFrom wsX3_copyFrom) := goodIn_app (goodIn_of _ (by decide +kernel)) ggX4_undo_X3_copyFrom
theorem dX4_undo_0 : decode cX4_undo 0 = .ok (.aload_n 0, 1) := by decide +kernel
theorem dX4_undo_1 : decode cX4_undo 1 = .ok (.getfield 20, 3) := by decide +kernel
theorem dX4_undo_4 : decode cX4_undo 4 = .ok (.iconst 1, 1) := by decide +kernel
theorem dX4_undo_5 : decode cX4_undo 5 = .ok (.if_icmp .ge 6, 3) := by decide +kernel
theorem dX4_undo_8 : decode cX4_undo 8 = .ok (.bipush (-5), 2) := by decide +kernel
theorem dX4_undo_10 : decode cX4_undo 10 = .ok (.ireturn, 1) := by decide +kernel
theorem dX4_undo_11 : decode cX4_undo 11 = .ok (.aload_n 0, 1) := by decide +kernel
theorem dX4_undo_12 : decode cX4_undo 12 = .ok (.dup, 1) := by decide +kernel
theorem dX4_undo_13 : decode cX4_undo 13 = .ok (.getfield 20, 3) := by decide +kernel
theorem dX4_undo_16 : decode cX4_undo 16 = .ok (.iconst 1, 1) := by decide +kernel
theorem dX4_undo_17 : decode cX4_undo 17 = .ok (.isub, 1) := by decide +kernel
theorem dX4_undo_18 : decode cX4_undo 18 = .ok (.putfield 20, 3) := by decide +kernel
theorem dX4_undo_21 : decode cX4_undo 21 = .ok (.aload_n 0, 1) := by decide +kernel
theorem dX4_undo_22 : decode cX4_undo 22 = .ok (.getfield 10, 3) := by decide +kernel
theorem dX4_undo_25 : decode cX4_undo 25 = .ok (.aload_n 0, 1) := by decide +kernel
theorem dX4_undo_26 : decode cX4_undo 26 = .ok (.getfield 16, 3) := by decide +kernel
theorem dX4_undo_29 : decode cX4_undo 29 = .ok (.aload_n 0, 1) := by decide +kernel
theorem dX4_undo_30 : decode cX4_undo 30 = .ok (.getfield 20, 3) := by decide +kernel
theorem dX4_undo_33 : decode cX4_undo 33 = .ok (.aaload, 1) := by decide +kernel
theorem dX4_undo_34 : decode cX4_undo 34 = .ok (.invokevirtual 171, 3) := by decide +kernel
theorem dX4_undo_37 : decode cX4_undo 37 = .ok (.aload_n 0, 1) := by decide +kernel
theorem dX4_undo_38 : decode cX4_undo 38 = .ok (.getfield 20, 3) := by decide +kernel
theorem dX4_undo_41 : decode cX4_undo 41 = .ok (.ireturn, 1) := by decide +kernel
set_option maxRecDepth 20000 in
theorem ggX4_save_X3_copyFrom : GoodIn wsX4_save wsX3_copyFrom := goodIn_r _ [9, 10, 11, 12, 13, 14, 15, 16, 17, 18, 19, 20, 21, 22, 23, 24, 25, 26, 27, 28, 29, 30, 31, 32, 33, 34, 35, 36, 37, 38, 39, 40, 41, 42, 43, 44, 52, 53, 54, 55, 56, 57, 58, 59, 60, 61, 62, 63, 64, 65, 66, 67, 68, 69, 70, 71] (by decide +kernel) (by decide +kernel)
set_option maxRecDepth 20000 in
theorem gX4_save_X3_copyFrom : GoodIn wsX4_save (wsV RX4 171 RX3 yX3_copyFrom wsX3_copyFrom) := goodIn_app (goodIn_of _ (by decide +kernel)) ggX4_save_X3_copyFrom
theorem dX4_save_0 : decode cX4_save 0 = .ok (.iload_n 1, 1) := by decide +kernel
theorem dX4_save_1 : decode cX4_save 1 = .ok (.ifCond .lt 8, 3) := by decide +kernel
theorem dX4_save_4 : decode cX4_save 4 = .ok (.iload_n 1, 1) := by decide +kernel
theorem dX4_save_5 : decode cX4_save 5 = .ok (.iconst 2, 1) := by decide +kernel
theorem dX4_save_6 : decode cX4_save 6 = .ok (.if_icmp .lt 6, 3) := by decide +kernel
theorem dX4_save_9 : decode cX4_save 9 = .ok (.bipush (-2), 2) := by decide +kernel
theorem dX4_save_11 : decode cX4_save 11 = .ok (.ireturn, 1) := by decide +kernel
theorem dX4_save_12 : decode cX4_save 12 = .ok (.aload_n 0, 1) := by decide +kernel
theorem dX4_save_13 : decode cX4_save 13 = .ok (.getfield 24, 3) := by decide +kernel
theorem dX4_save_16 : decode cX4_save 16 = .ok (.iload_n 1, 1) := by decide +kernel
theorem dX4_save_17 : decode cX4_save 17 = .ok (.aaload, 1) := by decide +kernel
theorem dX4_save_18 : decode cX4_save 18 = .ok (.aload_n 0, 1) := by decide +kernel
theorem dX4_save_19 : decode cX4_save 19 = .ok (.getfield 10, 3) := by decide +kernel
theorem dX4_save_22 : decode cX4_save 22 = .ok (.invokevirtual 171, 3) := by decide +kernel
theorem dX4_save_25 : decode cX4_save 25 = .ok (.aload_n 0, 1) := by decide +kernel
theorem dX4_save_26 : decode cX4_save 26 = .ok (.getfield 27, 3) := by decide +kernel
theorem dX4_save_29 : decode cX4_save 29 = .ok (.iload_n 1, 1) := by decide +kernel
theorem dX4_save_30 : decode cX4_save 30 = .ok (.iconst 1, 1) := by decide +kernel
theorem dX4_save_31 : decode cX4_save 31 = .ok (.bastore, 1) := by decide +kernel
theorem dX4_save_32 : decode cX4_save 32 = .ok (.aload_n 0, 1) := by decide +kernel
theorem dX4_save_33 : decode cX4_save 33 = .ok (.getfield 10, 3) := by decide +kernel
theorem dX4_save_36 : decode cX4_save 36 = .ok (.getfield 174, 3) := by decide +kernel
theorem dX4_save_39 : decode cX4_save 39 = .ok (.ireturn, 1) := by decide +kernel
set_option maxRecDepth 20000 in
theorem ggX4_restore_X4_keepState : GoodIn wsX4_restore wsX4_keepState := goodIn_r _ [9, 10, 11, 2, 12, 13, 14, 15, 16, 17, 18, 19, 20, 21, 22, 23, 24, 25, 26, 27, 28, 29, 30, 31, 32, 33, 34, 35, 36, 37, 38, 39, 40, 41, 42, 43, 44, 45, 46, 47, 48, 49, 50, 51, 60, 61, 62, 63, 64, 65, 66, 67, 68, 69, 70, 71, 72, 73, 74, 75, 76, 77, 78, 79, 80, 81, 82, 83, 84, 85, 86] (by decide +kernel) (by decide +kernel)
set_option maxRecDepth 20000 in
theorem gX4_restore_X4_keepState : GoodIn wsX4_restore (wsV RX4 45 RX4 yX4_keepState wsX4_keepState) := goodIn_app (goodIn_of _ (by decide +kernel)) ggX4_restore_X4_keepState
set_option maxRecDepth 20000 in
theorem ggX4_restore_X3_copyFrom : GoodIn wsX4_restore wsX3_copyFrom := goodIn_r _ [16, 17, 18, 19, 20, 21, 22, 23, 24, 25, 26, 27, 28, 29, 30, 31, 32, 33, 34, 35, 36, 37, 38, 39, 40, 41, 42, 43, 44, 45, 46, 47, 48, 49, 50, 51, 67, 68, 69, 70, 71, 72, 73, 74, 75, 76, 77, 78, 79, 80, 81, 82, 83, 84, 85, 86] (by decide +kernel) (by decide +kernel)
set_option maxRecDepth 20000 in
theorem gX4_restore_X3_copyFrom : GoodIn wsX4_restore (wsV RX4 171 RX3 yX3_copyFrom wsX3_copyFrom) := goodIn_app (goodIn_of _ (by decide +kernel)) ggX4_restore_X3_copyFrom
set_option maxRecDepth 20000 in
theorem ggX4_restore_X4_recordUnlessError : GoodIn wsX4_restore wsX4_recordUnlessError := goodIn_r _ [55, 11, 56, 57, 58, 8, 59, 10, 60, 61, 62, 63, 64, 65, 66] (by decide +kernel) (by decide +kernel)
set_option maxRecDepth 20000 in
theorem gX4_restore_X4_recordUnlessError : GoodIn wsX4_restore (wsV RX4 52 RX4 yX4_recordUnlessError wsX4_recordUnlessError) := goodIn_app (goodIn_of _ (by decide +kernel)) ggX4_restore_X4_recordUnlessError
theorem dX4_restore_0 : decode cX4_restore 0 = .ok (.iload_n 1, 1) := by decide +kernel
theorem dX4_restore_1 : decode cX4_restore 1 = .ok (.ifCond .lt 8, 3) := by decide +kernel
theorem dX4_restore_4 : decode cX4_restore 4 = .ok (.iload_n 1, 1) := by decide +kernel
theorem dX4_restore_5 : decode cX4_restore 5 = .ok (.iconst 2, 1) := by decide +kernel
theorem dX4_restore_6 : decode cX4_restore 6 = .ok (.if_icmp .lt 6, 3) := by decide +kernel
theorem dX4_restore_9 : decode cX4_restore 9 = .ok (.bipush (-2), 2) := by decide +kernel
theorem dX4_restore_11 : decode cX4_restore 11 = .ok (.ireturn, 1) := by decide +kernel
theorem dX4_restore_12 : decode cX4_restore 12 = .ok (.aload_n 0, 1) := by decide +kernel
theorem dX4_restore_13 : decode cX4_restore 13 = .ok (.getfield 27, 3) := by decide +kernel
theorem dX4_restore_16 : decode cX4_restore 16 = .ok (.iload_n 1, 1) := by decide +kernel
theorem dX4_restore_17 : decode cX4_restore 17 = .ok (.baload, 1) := by decide +kernel
theorem dX4_restore_18 : decode cX4_restore 18 = .ok (.ifCond .ne 6, 3) := by decide +kernel
theorem dX4_restore_21 : decode cX4_restore 21 = .ok (.bipush (-5), 2) := by decide +kernel
theorem dX4_restore_23 : decode cX4_restore 23 = .ok (.ireturn, 1) := by decide +kernel
theorem dX4_restore_24 : decode cX4_restore 24 = .ok (.aload_n 0, 1) := by decide +kernel
theorem dX4_restore_25 : decode cX4_restore 25 = .ok (.invokevirtual 45, 3) := by decide +kernel
theorem dX4_restore_28 : decode cX4_restore 28 = .ok (.aload_n 0, 1) := by decide +kernel
theorem dX4_restore_29 : decode cX4_restore 29 = .ok (.getfield 10, 3) := by decide +kernel
theorem dX4_restore_32 : decode cX4_restore 32 = .ok (.aload_n 0, 1) := by decide +kernel
theorem dX4_restore_33 : decode cX4_restore 33 = .ok (.getfield 24, 3) := by decide +kernel
theorem dX4_restore_36 : decode cX4_restore 36 = .ok (.iload_n 1, 1) := by decide +kernel
theorem dX4_restore_37 : decode cX4_restore 37 = .ok (.aaload, 1) := by decide +kernel
theorem dX4_restore_38 : decode cX4_restore 38 = .ok (.invokevirtual 171, 3) := by decide +kernel
theorem dX4_restore_41 : decode cX4_restore 41 = .ok (.aload_n 0, 1) := by decide +kernel
end
section
theorem dX4_restore_42 : decode cX4_restore 42 = .ok (.aload_n 0, 1) := by decide +kernel
theorem dX4_restore_43 : decode cX4_restore 43 = .ok (.getfield 10, 3) := by decide +kernel
theorem dX4_restore_46 : decode cX4_restore 46 = .ok (.getfield 174, 3) := by decide +kernel
theorem dX4_restore_49 : decode cX4_restore 49 = .ok (.invokevirtual 52, 3) := by decide +kernel
theorem dX4_restore_52 : decode cX4_restore 52 = .ok (.ireturn, 1) := by decide +kernel
set_option maxRecDepth 20000 in
theorem ggX4_keepState_X3_copyFrom : GoodIn wsX4_keepState wsX3_copyFrom := goodIn_r _ [8, 9, 10, 11, 12, 13, 14, 15, 16, 17, 18, 19, 20, 21, 22, 23, 24, 25, 26, 27, 28, 29, 30, 31, 32, 33, 34, 35, 36, 37, 38, 39, 40, 41, 42, 43, 51, 52, 53, 54, 55, 56, 57, 58, 59, 60, 61, 62, 63, 64, 65, 66, 67, 68, 69, 70] (by decide +kernel) (by decide +kernel)
set_option maxRecDepth 20000 in
theorem gX4_keepState_X3_copyFrom : GoodIn wsX4_keepState (wsV RX4 171 RX3 yX3_copyFrom wsX3_copyFrom) := goodIn_app (goodIn_of _ (by decide +kernel)) ggX4_keepState_X3_copyFrom
theorem dX4_keepState_0 : decode cX4_keepState 0 = .ok (.aload_n 0, 1) := by decide +kernel
theorem dX4_keepState_1 : decode cX4_keepState 1 = .ok (.getfield 16, 3) := by decide +kernel
theorem dX4_keepState_4 : decode cX4_keepState 4 = .ok (.aload_n 0, 1) := by decide +kernel
theorem dX4_keepState_5 : decode cX4_keepState 5 = .ok (.getfield 20, 3) := by decide +kernel
theorem dX4_keepState_8 : decode cX4_keepState 8 = .ok (.aaload, 1) := by decide +kernel
theorem dX4_keepState_9 : decode cX4_keepState 9 = .ok (.aload_n 0, 1) := by decide +kernel
theorem dX4_keepState_10 : decode cX4_keepState 10 = .ok (.getfield 10, 3) := by decide +kernel
theorem dX4_keepState_13 : decode cX4_keepState 13 = .ok (.invokevirtual 171, 3) := by decide +kernel
theorem dX4_keepState_16 : decode cX4_keepState 16 = .ok (.return_, 1) := by decide +kernel
set_option maxRecDepth 20000 in
theorem ggX4_recordUnlessError_X4_dropOldest : GoodIn wsX4_recordUnlessError wsX4_dropOldest := goodIn_r _ [6, 7, 8, 9, 10, 11, 12, 13, 14] (by decide +kernel) (by decide +kernel)
set_option maxRecDepth 20000 in
theorem gX4_recordUnlessError_X4_dropOldest : GoodIn wsX4_recordUnlessError (wsV RX4 177 RX4 yX4_dropOldest wsX4_dropOldest) := goodIn_app (goodIn_of _ (by decide +kernel)) ggX4_recordUnlessError_X4_dropOldest
theorem dX4_recordUnlessError_0 : decode cX4_recordUnlessError 0 = .ok (.iload_n 1, 1) := by decide +kernel
theorem dX4_recordUnlessError_1 : decode cX4_recordUnlessError 1 = .ok (.ifCond .ge 5, 3) := by decide +kernel
theorem dX4_recordUnlessError_4 : decode cX4_recordUnlessError 4 = .ok (.iload_n 1, 1) := by decide +kernel
theorem dX4_recordUnlessError_5 : decode cX4_recordUnlessError 5 = .ok (.ireturn, 1) := by decide +kernel
theorem dX4_recordUnlessError_6 : decode cX4_recordUnlessError 6 = .ok (.aload_n 0, 1) := by decide +kernel
theorem dX4_recordUnlessError_7 : decode cX4_recordUnlessError 7 = .ok (.getfield 20, 3) := by decide +kernel
theorem dX4_recordUnlessError_10 : decode cX4_recordUnlessError 10 = .ok (.bipush 6, 2) := by decide +kernel
theorem dX4_recordUnlessError_12 : decode cX4_recordUnlessError 12 = .ok (.if_icmp .ge 16, 3) := by decide +kernel
theorem dX4_recordUnlessError_15 : decode cX4_recordUnlessError 15 = .ok (.aload_n 0, 1) := by decide +kernel
theorem dX4_recordUnlessError_16 : decode cX4_recordUnlessError 16 = .ok (.dup, 1) := by decide +kernel
theorem dX4_recordUnlessError_17 : decode cX4_recordUnlessError 17 = .ok (.getfield 20, 3) := by decide +kernel
theorem dX4_recordUnlessError_20 : decode cX4_recordUnlessError 20 = .ok (.iconst 1, 1) := by decide +kernel
theorem dX4_recordUnlessError_21 : decode cX4_recordUnlessError 21 = .ok (.iadd, 1) := by decide +kernel
theorem dX4_recordUnlessError_22 : decode cX4_recordUnlessError 22 = .ok (.putfield 20, 3) := by decide +kernel
theorem dX4_recordUnlessError_25 : decode cX4_recordUnlessError 25 = .ok (.goto 7, 3) := by decide +kernel
theorem dX4_recordUnlessError_28 : decode cX4_recordUnlessError 28 = .ok (.aload_n 0, 1) := by decide +kernel
theorem dX4_recordUnlessError_29 : decode cX4_recordUnlessError 29 = .ok (.invokevirtual 177, 3) := by decide +kernel
theorem dX4_recordUnlessError_32 : decode cX4_recordUnlessError 32 = .ok (.iload_n 1, 1) := by decide +kernel
theorem dX4_recordUnlessError_33 : decode cX4_recordUnlessError 33 = .ok (.ireturn, 1) := by decide +kernel
theorem dX4_dropOldest_0 : decode cX4_dropOldest 0 = .ok (.aload_n 0, 1) := by decide +kernel
theorem dX4_dropOldest_1 : decode cX4_dropOldest 1 = .ok (.getfield 16, 3) := by decide +kernel
theorem dX4_dropOldest_4 : decode cX4_dropOldest 4 = .ok (.iconst 0, 1) := by decide +kernel
theorem dX4_dropOldest_5 : decode cX4_dropOldest 5 = .ok (.aaload, 1) := by decide +kernel
theorem dX4_dropOldest_6 : decode cX4_dropOldest 6 = .ok (.astore_n 1, 1) := by decide +kernel
theorem dX4_dropOldest_7 : decode cX4_dropOldest 7 = .ok (.iconst 0, 1) := by decide +kernel
theorem dX4_dropOldest_8 : decode cX4_dropOldest 8 = .ok (.istore_n 2, 1) := by decide +kernel
theorem dX4_dropOldest_9 : decode cX4_dropOldest 9 = .ok (.iload_n 2, 1) := by decide +kernel
theorem dX4_dropOldest_10 : decode cX4_dropOldest 10 = .ok (.bipush 6, 2) := by decide +kernel
theorem dX4_dropOldest_12 : decode cX4_dropOldest 12 = .ok (.if_icmp .ge 23, 3) := by decide +kernel
theorem dX4_dropOldest_15 : decode cX4_dropOldest 15 = .ok (.aload_n 0, 1) := by decide +kernel
theorem dX4_dropOldest_16 : decode cX4_dropOldest 16 = .ok (.getfield 16, 3) := by decide +kernel
theorem dX4_dropOldest_19 : decode cX4_dropOldest 19 = .ok (.iload_n 2, 1) := by decide +kernel
theorem dX4_dropOldest_20 : decode cX4_dropOldest 20 = .ok (.aload_n 0, 1) := by decide +kernel
theorem dX4_dropOldest_21 : decode cX4_dropOldest 21 = .ok (.getfield 16, 3) := by decide +kernel
theorem dX4_dropOldest_24 : decode cX4_dropOldest 24 = .ok (.iload_n 2, 1) := by decide +kernel
theorem dX4_dropOldest_25 : decode cX4_dropOldest 25 = .ok (.iconst 1, 1) := by decide +kernel
theorem dX4_dropOldest_26 : decode cX4_dropOldest 26 = .ok (.iadd, 1) := by decide +kernel
theorem dX4_dropOldest_27 : decode cX4_dropOldest 27 = .ok (.aaload, 1) := by decide +kernel
theorem dX4_dropOldest_28 : decode cX4_dropOldest 28 = .ok (.aastore, 1) := by decide +kernel
theorem dX4_dropOldest_29 : decode cX4_dropOldest 29 = .ok (.iinc 2 1, 3) := by decide +kernel
theorem dX4_dropOldest_32 : decode cX4_dropOldest 32 = .ok (.goto (-23), 3) := by decide +kernel
theorem dX4_dropOldest_35 : decode cX4_dropOldest 35 = .ok (.aload_n 0, 1) := by decide +kernel
theorem dX4_dropOldest_36 : decode cX4_dropOldest 36 = .ok (.getfield 16, 3) := by decide +kernel
theorem dX4_dropOldest_39 : decode cX4_dropOldest 39 = .ok (.bipush 6, 2) := by decide +kernel
theorem dX4_dropOldest_41 : decode cX4_dropOldest 41 = .ok (.aload_n 1, 1) := by decide +kernel
theorem dX4_dropOldest_42 : decode cX4_dropOldest 42 = .ok (.aastore, 1) := by decide +kernel
theorem dX4_dropOldest_43 : decode cX4_dropOldest 43 = .ok (.return_, 1) := by decide +kernel
theorem dX5_init_0 : decode cX5_init 0 = .ok (.aload_n 0, 1) := by decide +kernel
theorem dX5_init_1 : decode cX5_init 1 = .ok (.invokespecial 1, 3) := by decide +kernel
theorem dX5_init_4 : decode cX5_init 4 = .ok (.aload_n 0, 1) := by decide +kernel
theorem dX5_init_5 : decode cX5_init 5 = .ok (.sipush 135, 3) := by decide +kernel
theorem dX5_init_8 : decode cX5_init 8 = .ok (.newarray .int, 2) := by decide +kernel
theorem dX5_init_10 : decode cX5_init 10 = .ok (.putfield 7, 3) := by decide +kernel
theorem dX5_init_13 : decode cX5_init 13 = .ok (.aload_n 0, 1) := by decide +kernel
theorem dX5_init_14 : decode cX5_init 14 = .ok (.sipush 810, 3) := by decide +kernel
theorem dX5_init_17 : decode cX5_init 17 = .ok (.newarray .int, 2) := by decide +kernel
theorem dX5_init_19 : decode cX5_init 19 = .ok (.putfield 13, 3) := by decide +kernel
theorem dX5_init_22 : decode cX5_init 22 = .ok (.aload_n 0, 1) := by decide +kernel
theorem dX5_init_23 : decode cX5_init 23 = .ok (.sipush 135, 3) := by decide +kernel
theorem dX5_init_26 : decode cX5_init 26 = .ok (.newarray .int, 2) := by decide +kernel
theorem dX5_init_28 : decode cX5_init 28 = .ok (.putfield 16, 3) := by decide +kernel
theorem dX5_init_31 : decode cX5_init 31 = .ok (.aload_n 0, 1) := by decide +kernel
theorem dX5_init_32 : decode cX5_init 32 = .ok (.sipush 270, 3) := by decide +kernel
theorem dX5_init_35 : decode cX5_init 35 = .ok (.newarray .int, 2) := by decide +kernel
theorem dX5_init_37 : decode cX5_init 37 = .ok (.putfield 19, 3) := by decide +kernel
theorem dX5_init_40 : decode cX5_init 40 = .ok (.aload_n 0, 1) := by decide +kernel
theorem dX5_init_41 : decode cX5_init 41 = .ok (.iconst 2, 1) := by decide +kernel
theorem dX5_init_42 : decode cX5_init 42 = .ok (.newarray .boolean, 2) := by decide +kernel
theorem dX5_init_44 : decode cX5_init 44 = .ok (.putfield 22, 3) := by decide +kernel
theorem dX5_init_47 : decode cX5_init 47 = .ok (.aload_n 0, 1) := by decide +kernel
theorem dX5_init_48 : decode cX5_init 48 = .ok (.bipush 80, 2) := by decide +kernel
theorem dX5_init_50 : decode cX5_init 50 = .ok (.newarray .int, 2) := by decide +kernel
theorem dX5_init_52 : decode cX5_init 52 = .ok (.putfield 26, 3) := by decide +kernel
theorem dX5_init_55 : decode cX5_init 55 = .ok (.aload_n 0, 1) := by decide +kernel
theorem dX5_init_56 : decode cX5_init 56 = .ok (.bipush 8, 2) := by decide +kernel
theorem dX5_init_58 : decode cX5_init 58 = .ok (.newarray .int, 2) := by decide +kernel
theorem dX5_init_60 : decode cX5_init 60 = .ok (.putfield 29, 3) := by decide +kernel
theorem dX5_init_63 : decode cX5_init 63 = .ok (.aload_n 0, 1) := by decide +kernel
theorem dX5_init_64 : decode cX5_init 64 = .ok (.getfield 7, 3) := by decide +kernel
theorem dX5_init_67 : decode cX5_init 67 = .ok (.iconst 0, 1) := by decide +kernel
theorem dX5_init_68 : decode cX5_init 68 = .ok (.sipush 1000, 3) := by decide +kernel
theorem dX5_init_71 : decode cX5_init 71 = .ok (.iastore, 1) := by decide +kernel
theorem dX5_init_72 : decode cX5_init 72 = .ok (.aload_n 0, 1) := by decide +kernel
theorem dX5_init_73 : decode cX5_init 73 = .ok (.getfield 7, 3) := by decide +kernel
theorem dX5_init_76 : decode cX5_init 76 = .ok (.iconst 2, 1) := by decide +kernel
theorem dX5_init_77 : decode cX5_init 77 = .ok (.sipush 500, 3) := by decide +kernel
theorem dX5_init_80 : decode cX5_init 80 = .ok (.iastore, 1) := by decide +kernel
theorem dX5_init_81 : decode cX5_init 81 = .ok (.aload_n 0, 1) := by decide +kernel
theorem dX5_init_82 : decode cX5_init 82 = .ok (.getfield 7, 3) := by decide +kernel
theorem dX5_init_85 : decode cX5_init 85 = .ok (.iconst 3, 1) := by decide +kernel
theorem dX5_init_86 : decode cX5_init 86 = .ok (.bipush 15, 2) := by decide +kernel
theorem dX5_init_88 : decode cX5_init 88 = .ok (.iastore, 1) := by decide +kernel
theorem dX5_init_89 : decode cX5_init 89 = .ok (.aload_n 0, 1) := by decide +kernel
theorem dX5_init_90 : decode cX5_init 90 = .ok (.getfield 7, 3) := by decide +kernel
theorem dX5_init_93 : decode cX5_init 93 = .ok (.iconst 4, 1) := by decide +kernel
theorem dX5_init_94 : decode cX5_init 94 = .ok (.sipush 2000, 3) := by decide +kernel
theorem dX5_init_97 : decode cX5_init 97 = .ok (.iastore, 1) := by decide +kernel
theorem dX5_init_98 : decode cX5_init 98 = .ok (.aload_n 0, 1) := by decide +kernel
theorem dX5_init_99 : decode cX5_init 99 = .ok (.getfield 7, 3) := by decide +kernel
theorem dX5_init_102 : decode cX5_init 102 = .ok (.iconst 5, 1) := by decide +kernel
theorem dX5_init_103 : decode cX5_init 103 = .ok (.sipush 750, 3) := by decide +kernel
theorem dX5_init_106 : decode cX5_init 106 = .ok (.iastore, 1) := by decide +kernel
theorem dX5_init_107 : decode cX5_init 107 = .ok (.aload_n 0, 1) := by decide +kernel
theorem dX5_init_108 : decode cX5_init 108 = .ok (.getfield 7, 3) := by decide +kernel
theorem dX5_init_111 : decode cX5_init 111 = .ok (.bipush 6, 2) := by decide +kernel
theorem dX5_init_113 : decode cX5_init 113 = .ok (.bipush 60, 2) := by decide +kernel
theorem dX5_init_115 : decode cX5_init 115 = .ok (.iastore, 1) := by decide +kernel
theorem dX5_init_116 : decode cX5_init 116 = .ok (.return_, 1) := by decide +kernel
theorem dX5_in_0 : decode cX5_in 0 = .ok (.lload_n 0, 1) := by decide +kernel
theorem dX5_in_1 : decode cX5_in 1 = .ok (.iload_n 2, 1) := by decide +kernel
theorem dX5_in_2 : decode cX5_in 2 = .ok (.i2l, 1) := by decide +kernel
theorem dX5_in_3 : decode cX5_in 3 = .ok (.lcmp, 1) := by decide +kernel
theorem dX5_in_4 : decode cX5_in 4 = .ok (.ifCond .lt 14, 3) := by decide +kernel
theorem dX5_in_7 : decode cX5_in 7 = .ok (.lload_n 0, 1) := by decide +kernel
theorem dX5_in_8 : decode cX5_in 8 = .ok (.iload_n 3, 1) := by decide +kernel
theorem dX5_in_9 : decode cX5_in 9 = .ok (.i2l, 1) := by decide +kernel
theorem dX5_in_10 : decode cX5_in 10 = .ok (.lcmp, 1) := by decide +kernel
theorem dX5_in_11 : decode cX5_in 11 = .ok (.ifCond .gt 7, 3) := by decide +kernel
theorem dX5_in_14 : decode cX5_in 14 = .ok (.iconst 1, 1) := by decide +kernel
theorem dX5_in_15 : decode cX5_in 15 = .ok (.goto 4, 3) := by decide +kernel
theorem dX5_in_18 : decode cX5_in 18 = .ok (.iconst 0, 1) := by decide +kernel
theorem dX5_in_19 : decode cX5_in 19 = .ok (.ireturn, 1) := by decide +kernel
theorem dX5_its_0 : decode cX5_its 0 = .ok (.aload_n 0, 1) := by decide +kernel
theorem dX5_its_1 : decode cX5_its 1 = .ok (.getfield 7, 3) := by decide +kernel
theorem dX5_its_4 : decode cX5_its 4 = .ok (.bipush 71, 2) := by decide +kernel
theorem dX5_its_6 : decode cX5_its 6 = .ok (.bipush 8, 2) := by decide +kernel
theorem dX5_its_8 : decode cX5_its 8 = .ok (.iload_n 1, 1) := by decide +kernel
theorem dX5_its_9 : decode cX5_its 9 = .ok (.imul, 1) := by decide +kernel
theorem dX5_its_10 : decode cX5_its 10 = .ok (.iadd, 1) := by decide +kernel
theorem dX5_its_11 : decode cX5_its 11 = .ok (.iload_n 2, 1) := by decide +kernel
theorem dX5_its_12 : decode cX5_its 12 = .ok (.iadd, 1) := by decide +kernel
theorem dX5_its_13 : decode cX5_its 13 = .ok (.iaload, 1) := by decide +kernel
theorem dX5_its_14 : decode cX5_its 14 = .ok (.ireturn, 1) := by decide +kernel
theorem dX5_lay_0 : decode cX5_lay 0 = .ok (.aload_n 0, 1) := by decide +kernel
theorem dX5_lay_1 : decode cX5_lay 1 = .ok (.getfield 7, 3) := by decide +kernel
theorem dX5_lay_4 : decode cX5_lay 4 = .ok (.bipush 71, 2) := by decide +kernel
theorem dX5_lay_6 : decode cX5_lay 6 = .ok (.bipush 8, 2) := by decide +kernel
theorem dX5_lay_8 : decode cX5_lay 8 = .ok (.iload_n 1, 1) := by decide +kernel
theorem dX5_lay_9 : decode cX5_lay 9 = .ok (.imul, 1) := by decide +kernel
theorem dX5_lay_10 : decode cX5_lay 10 = .ok (.iadd, 1) := by decide +kernel
theorem dX5_lay_11 : decode cX5_lay 11 = .ok (.iload_n 2, 1) := by decide +kernel
theorem dX5_lay_12 : decode cX5_lay 12 = .ok (.iadd, 1) := by decide +kernel
theorem dX5_lay_13 : decode cX5_lay 13 = .ok (.iload_n 3, 1) := by decide +kernel
theorem dX5_lay_14 : decode cX5_lay 14 = .ok (.iastore, 1) := by decide +kernel
theorem dX5_lay_15 : decode cX5_lay 15 = .ok (.return_, 1) := by decide +kernel
set_option maxRecDepth 20000 in
theorem ggX5_isLanding_X5_in : GoodIn wsX5_isLanding wsX5_in := goodIn_r _ [5] (by decide +kernel) (by decide +kernel)
set_option maxRecDepth 20000 in
theorem gX5_isLanding_X5_in : GoodIn wsX5_isLanding (va_wsS RX5 32 yX5_in wsX5_in) := goodIn_app (goodIn_of _ (by decide +kernel)) ggX5_isLanding_X5_in
theorem dX5_isLanding_0 : decode cX5_isLanding 0 = .ok (.iload_n 1, 1) := by decide +kernel
theorem dX5_isLanding_1 : decode cX5_isLanding 1 = .ok (.i2l, 1) := by decide +kernel
theorem dX5_isLanding_2 : decode cX5_isLanding 2 = .ok (.iconst 0, 1) := by decide +kernel
theorem dX5_isLanding_3 : decode cX5_isLanding 3 = .ok (.aload_n 0, 1) := by decide +kernel
theorem dX5_isLanding_4 : decode cX5_isLanding 4 = .ok (.getfield 7, 3) := by decide +kernel
theorem dX5_isLanding_7 : decode cX5_isLanding 7 = .ok (.bipush 8, 2) := by decide +kernel
theorem dX5_isLanding_9 : decode cX5_isLanding 9 = .ok (.iaload, 1) := by decide +kernel
theorem dX5_isLanding_10 : decode cX5_isLanding 10 = .ok (.iconst 1, 1) := by decide +kernel
theorem dX5_isLanding_11 : decode cX5_isLanding 11 = .ok (.isub, 1) := by decide +kernel
theorem dX5_isLanding_12 : decode cX5_isLanding 12 = .ok (.invokestatic 32, 3) := by decide +kernel
theorem dX5_isLanding_15 : decode cX5_isLanding 15 = .ok (.ireturn, 1) := by decide +kernel
theorem dX5_remember_0 : decode cX5_remember 0 = .ok (.iconst 0, 1) := by decide +kernel
theorem dX5_remember_1 : decode cX5_remember 1 = .ok (.istore_n 1, 1) := by decide +kernel
theorem dX5_remember_2 : decode cX5_remember 2 = .ok (.iload_n 1, 1) := by decide +kernel
theorem dX5_remember_3 : decode cX5_remember 3 = .ok (.sipush 135, 3) := by decide +kernel
theorem dX5_remember_6 : decode cX5_remember 6 = .ok (.if_icmp .ge 21, 3) := by decide +kernel
theorem dX5_remember_9 : decode cX5_remember 9 = .ok (.aload_n 0, 1) := by decide +kernel
theorem dX5_remember_10 : decode cX5_remember 10 = .ok (.getfield 16, 3) := by decide +kernel
theorem dX5_remember_13 : decode cX5_remember 13 = .ok (.iload_n 1, 1) := by decide +kernel
theorem dX5_remember_14 : decode cX5_remember 14 = .ok (.aload_n 0, 1) := by decide +kernel
theorem dX5_remember_15 : decode cX5_remember 15 = .ok (.getfield 7, 3) := by decide +kernel
theorem dX5_remember_18 : decode cX5_remember 18 = .ok (.iload_n 1, 1) := by decide +kernel
theorem dX5_remember_19 : decode cX5_remember 19 = .ok (.iaload, 1) := by decide +kernel
theorem dX5_remember_20 : decode cX5_remember 20 = .ok (.iastore, 1) := by decide +kernel
theorem dX5_remember_21 : decode cX5_remember 21 = .ok (.iinc 1 1, 3) := by decide +kernel
theorem dX5_remember_24 : decode cX5_remember 24 = .ok (.goto (-22), 3) := by decide +kernel
theorem dX5_remember_27 : decode cX5_remember 27 = .ok (.return_, 1) := by decide +kernel
theorem dX5_record_0 : decode cX5_record 0 = .ok (.iload_n 1, 1) := by decide +kernel
theorem dX5_record_1 : decode cX5_record 1 = .ok (.ifCond .ge 5, 3) := by decide +kernel
theorem dX5_record_4 : decode cX5_record 4 = .ok (.iload_n 1, 1) := by decide +kernel
theorem dX5_record_5 : decode cX5_record 5 = .ok (.ireturn, 1) := by decide +kernel
theorem dX5_record_6 : decode cX5_record 6 = .ok (.aload_n 0, 1) := by decide +kernel
theorem dX5_record_7 : decode cX5_record 7 = .ok (.getfield 36, 3) := by decide +kernel
theorem dX5_record_10 : decode cX5_record 10 = .ok (.bipush 6, 2) := by decide +kernel
theorem dX5_record_12 : decode cX5_record 12 = .ok (.if_icmp .ne 44, 3) := by decide +kernel
theorem dX5_record_15 : decode cX5_record 15 = .ok (.iconst 0, 1) := by decide +kernel
theorem dX5_record_16 : decode cX5_record 16 = .ok (.istore_n 2, 1) := by decide +kernel
theorem dX5_record_17 : decode cX5_record 17 = .ok (.iload_n 2, 1) := by decide +kernel
theorem dX5_record_18 : decode cX5_record 18 = .ok (.sipush 675, 3) := by decide +kernel
theorem dX5_record_21 : decode cX5_record 21 = .ok (.if_icmp .ge 25, 3) := by decide +kernel
theorem dX5_record_24 : decode cX5_record 24 = .ok (.aload_n 0, 1) := by decide +kernel
theorem dX5_record_25 : decode cX5_record 25 = .ok (.getfield 13, 3) := by decide +kernel
theorem dX5_record_28 : decode cX5_record 28 = .ok (.iload_n 2, 1) := by decide +kernel
theorem dX5_record_29 : decode cX5_record 29 = .ok (.aload_n 0, 1) := by decide +kernel
theorem dX5_record_30 : decode cX5_record 30 = .ok (.getfield 13, 3) := by decide +kernel
theorem dX5_record_33 : decode cX5_record 33 = .ok (.sipush 135, 3) := by decide +kernel
theorem dX5_record_36 : decode cX5_record 36 = .ok (.iload_n 2, 1) := by decide +kernel
theorem dX5_record_37 : decode cX5_record 37 = .ok (.iadd, 1) := by decide +kernel
theorem dX5_record_38 : decode cX5_record 38 = .ok (.iaload, 1) := by decide +kernel
theorem dX5_record_39 : decode cX5_record 39 = .ok (.iastore, 1) := by decide +kernel
theorem dX5_record_40 : decode cX5_record 40 = .ok (.iinc 2 1, 3) := by decide +kernel
theorem dX5_record_43 : decode cX5_record 43 = .ok (.goto (-26), 3) := by decide +kernel
theorem dX5_record_46 : decode cX5_record 46 = .ok (.aload_n 0, 1) := by decide +kernel
theorem dX5_record_47 : decode cX5_record 47 = .ok (.dup, 1) := by decide +kernel
theorem dX5_record_48 : decode cX5_record 48 = .ok (.getfield 36, 3) := by decide +kernel
theorem dX5_record_51 : decode cX5_record 51 = .ok (.iconst 1, 1) := by decide +kernel
theorem dX5_record_52 : decode cX5_record 52 = .ok (.isub, 1) := by decide +kernel
theorem dX5_record_53 : decode cX5_record 53 = .ok (.putfield 36, 3) := by decide +kernel
theorem dX5_record_56 : decode cX5_record 56 = .ok (.iconst 0, 1) := by decide +kernel
theorem dX5_record_57 : decode cX5_record 57 = .ok (.istore_n 2, 1) := by decide +kernel
theorem dX5_record_58 : decode cX5_record 58 = .ok (.iload_n 2, 1) := by decide +kernel
theorem dX5_record_59 : decode cX5_record 59 = .ok (.sipush 135, 3) := by decide +kernel
theorem dX5_record_62 : decode cX5_record 62 = .ok (.if_icmp .ge 30, 3) := by decide +kernel
theorem dX5_record_65 : decode cX5_record 65 = .ok (.aload_n 0, 1) := by decide +kernel
theorem dX5_record_66 : decode cX5_record 66 = .ok (.getfield 13, 3) := by decide +kernel
theorem dX5_record_69 : decode cX5_record 69 = .ok (.sipush 135, 3) := by decide +kernel
theorem dX5_record_72 : decode cX5_record 72 = .ok (.aload_n 0, 1) := by decide +kernel
theorem dX5_record_73 : decode cX5_record 73 = .ok (.getfield 36, 3) := by decide +kernel
theorem dX5_record_76 : decode cX5_record 76 = .ok (.imul, 1) := by decide +kernel
theorem dX5_record_77 : decode cX5_record 77 = .ok (.iload_n 2, 1) := by decide +kernel
theorem dX5_record_78 : decode cX5_record 78 = .ok (.iadd, 1) := by decide +kernel
theorem dX5_record_79 : decode cX5_record 79 = .ok (.aload_n 0, 1) := by decide +kernel
theorem dX5_record_80 : decode cX5_record 80 = .ok (.getfield 16, 3) := by decide +kernel
theorem dX5_record_83 : decode cX5_record 83 = .ok (.iload_n 2, 1) := by decide +kernel
theorem dX5_record_84 : decode cX5_record 84 = .ok (.iaload, 1) := by decide +kernel
theorem dX5_record_85 : decode cX5_record 85 = .ok (.iastore, 1) := by decide +kernel
theorem dX5_record_86 : decode cX5_record 86 = .ok (.iinc 2 1, 3) := by decide +kernel
theorem dX5_record_89 : decode cX5_record 89 = .ok (.goto (-31), 3) := by decide +kernel
theorem dX5_record_92 : decode cX5_record 92 = .ok (.aload_n 0, 1) := by decide +kernel
theorem dX5_record_93 : decode cX5_record 93 = .ok (.dup, 1) := by decide +kernel
theorem dX5_record_94 : decode cX5_record 94 = .ok (.getfield 36, 3) := by decide +kernel
theorem dX5_record_97 : decode cX5_record 97 = .ok (.iconst 1, 1) := by decide +kernel
theorem dX5_record_98 : decode cX5_record 98 = .ok (.iadd, 1) := by decide +kernel
theorem dX5_record_99 : decode cX5_record 99 = .ok (.putfield 36, 3) := by decide +kernel
theorem dX5_record_102 : decode cX5_record 102 = .ok (.iload_n 1, 1) := by decide +kernel
theorem dX5_record_103 : decode cX5_record 103 = .ok (.ireturn, 1) := by decide +kernel
theorem dX5_undo_0 : decode cX5_undo 0 = .ok (.aload_n 0, 1) := by decide +kernel
theorem dX5_undo_1 : decode cX5_undo 1 = .ok (.getfield 36, 3) := by decide +kernel
theorem dX5_undo_4 : decode cX5_undo 4 = .ok (.ifCond .ne 6, 3) := by decide +kernel
theorem dX5_undo_7 : decode cX5_undo 7 = .ok (.bipush (-5), 2) := by decide +kernel
theorem dX5_undo_9 : decode cX5_undo 9 = .ok (.ireturn, 1) := by decide +kernel
theorem dX5_undo_10 : decode cX5_undo 10 = .ok (.aload_n 0, 1) := by decide +kernel
theorem dX5_undo_11 : decode cX5_undo 11 = .ok (.dup, 1) := by decide +kernel
theorem dX5_undo_12 : decode cX5_undo 12 = .ok (.getfield 36, 3) := by decide +kernel
theorem dX5_undo_15 : decode cX5_undo 15 = .ok (.iconst 1, 1) := by decide +kernel
theorem dX5_undo_16 : decode cX5_undo 16 = .ok (.isub, 1) := by decide +kernel
theorem dX5_undo_17 : decode cX5_undo 17 = .ok (.putfield 36, 3) := by decide +kernel
theorem dX5_undo_20 : decode cX5_undo 20 = .ok (.iconst 0, 1) := by decide +kernel
theorem dX5_undo_21 : decode cX5_undo 21 = .ok (.istore_n 1, 1) := by decide +kernel
theorem dX5_undo_22 : decode cX5_undo 22 = .ok (.iload_n 1, 1) := by decide +kernel
theorem dX5_undo_23 : decode cX5_undo 23 = .ok (.sipush 135, 3) := by decide +kernel
theorem dX5_undo_26 : decode cX5_undo 26 = .ok (.if_icmp .ge 30, 3) := by decide +kernel
theorem dX5_undo_29 : decode cX5_undo 29 = .ok (.aload_n 0, 1) := by decide +kernel
theorem dX5_undo_30 : decode cX5_undo 30 = .ok (.getfield 7, 3) := by decide +kernel
theorem dX5_undo_33 : decode cX5_undo 33 = .ok (.iload_n 1, 1) := by decide +kernel
theorem dX5_undo_34 : decode cX5_undo 34 = .ok (.aload_n 0, 1) := by decide +kernel
theorem dX5_undo_35 : decode cX5_undo 35 = .ok (.getfield 13, 3) := by decide +kernel
theorem dX5_undo_38 : decode cX5_undo 38 = .ok (.sipush 135, 3) := by decide +kernel
theorem dX5_undo_41 : decode cX5_undo 41 = .ok (.aload_n 0, 1) := by decide +kernel
theorem dX5_undo_42 : decode cX5_undo 42 = .ok (.getfield 36, 3) := by decide +kernel
theorem dX5_undo_45 : decode cX5_undo 45 = .ok (.imul, 1) := by decide +kernel
theorem dX5_undo_46 : decode cX5_undo 46 = .ok (.iload_n 1, 1) := by decide +kernel
theorem dX5_undo_47 : decode cX5_undo 47 = .ok (.iadd, 1) := by decide +kernel
theorem dX5_undo_48 : decode cX5_undo 48 = .ok (.iaload, 1) := by decide +kernel
theorem dX5_undo_49 : decode cX5_undo 49 = .ok (.iastore, 1) := by decide +kernel
theorem dX5_undo_50 : decode cX5_undo 50 = .ok (.iinc 1 1, 3) := by decide +kernel
theorem dX5_undo_53 : decode cX5_undo 53 = .ok (.goto (-31), 3) := by decide +kernel
theorem dX5_undo_56 : decode cX5_undo 56 = .ok (.aload_n 0, 1) := by decide +kernel
theorem dX5_undo_57 : decode cX5_undo 57 = .ok (.getfield 36, 3) := by decide +kernel
theorem dX5_undo_60 : decode cX5_undo 60 = .ok (.ireturn, 1) := by decide +kernel
set_option maxRecDepth 20000 in
theorem ggX5_save_X5_in : GoodIn wsX5_save wsX5_in := goodIn_r _ [7] (by decide +kernel) (by decide +kernel)
set_option maxRecDepth 20000 in
theorem gX5_save_X5_in : GoodIn wsX5_save (va_wsS RX5 32 yX5_in wsX5_in) := goodIn_app (goodIn_of _ (by decide +kernel)) ggX5_save_X5_in
theorem dX5_save_0 : decode cX5_save 0 = .ok (.iload_n 1, 1) := by decide +kernel
theorem dX5_save_1 : decode cX5_save 1 = .ok (.i2l, 1) := by decide +kernel
theorem dX5_save_2 : decode cX5_save 2 = .ok (.iconst 0, 1) := by decide +kernel
theorem dX5_save_3 : decode cX5_save 3 = .ok (.iconst 1, 1) := by decide +kernel
theorem dX5_save_4 : decode cX5_save 4 = .ok (.invokestatic 32, 3) := by decide +kernel
theorem dX5_save_7 : decode cX5_save 7 = .ok (.ifCond .ne 6, 3) := by decide +kernel
theorem dX5_save_10 : decode cX5_save 10 = .ok (.bipush (-2), 2) := by decide +kernel
theorem dX5_save_12 : decode cX5_save 12 = .ok (.ireturn, 1) := by decide +kernel
theorem dX5_save_13 : decode cX5_save 13 = .ok (.iconst 0, 1) := by decide +kernel
theorem dX5_save_14 : decode cX5_save 14 = .ok (.istore_n 2, 1) := by decide +kernel
theorem dX5_save_15 : decode cX5_save 15 = .ok (.iload_n 2, 1) := by decide +kernel
theorem dX5_save_16 : decode cX5_save 16 = .ok (.sipush 135, 3) := by decide +kernel
theorem dX5_save_19 : decode cX5_save 19 = .ok (.if_icmp .ge 27, 3) := by decide +kernel
theorem dX5_save_22 : decode cX5_save 22 = .ok (.aload_n 0, 1) := by decide +kernel
theorem dX5_save_23 : decode cX5_save 23 = .ok (.getfield 19, 3) := by decide +kernel
theorem dX5_save_26 : decode cX5_save 26 = .ok (.sipush 135, 3) := by decide +kernel
theorem dX5_save_29 : decode cX5_save 29 = .ok (.iload_n 1, 1) := by decide +kernel
theorem dX5_save_30 : decode cX5_save 30 = .ok (.imul, 1) := by decide +kernel
theorem dX5_save_31 : decode cX5_save 31 = .ok (.iload_n 2, 1) := by decide +kernel
theorem dX5_save_32 : decode cX5_save 32 = .ok (.iadd, 1) := by decide +kernel
theorem dX5_save_33 : decode cX5_save 33 = .ok (.aload_n 0, 1) := by decide +kernel
theorem dX5_save_34 : decode cX5_save 34 = .ok (.getfield 7, 3) := by decide +kernel
theorem dX5_save_37 : decode cX5_save 37 = .ok (.iload_n 2, 1) := by decide +kernel
theorem dX5_save_38 : decode cX5_save 38 = .ok (.iaload, 1) := by decide +kernel
theorem dX5_save_39 : decode cX5_save 39 = .ok (.iastore, 1) := by decide +kernel
theorem dX5_save_40 : decode cX5_save 40 = .ok (.iinc 2 1, 3) := by decide +kernel
theorem dX5_save_43 : decode cX5_save 43 = .ok (.goto (-28), 3) := by decide +kernel
theorem dX5_save_46 : decode cX5_save 46 = .ok (.aload_n 0, 1) := by decide +kernel
theorem dX5_save_47 : decode cX5_save 47 = .ok (.getfield 22, 3) := by decide +kernel
theorem dX5_save_50 : decode cX5_save 50 = .ok (.iload_n 1, 1) := by decide +kernel
theorem dX5_save_51 : decode cX5_save 51 = .ok (.iconst 1, 1) := by decide +kernel
theorem dX5_save_52 : decode cX5_save 52 = .ok (.bastore, 1) := by decide +kernel
theorem dX5_save_53 : decode cX5_save 53 = .ok (.aload_n 0, 1) := by decide +kernel
theorem dX5_save_54 : decode cX5_save 54 = .ok (.getfield 7, 3) := by decide +kernel
theorem dX5_save_57 : decode cX5_save 57 = .ok (.bipush 8, 2) := by decide +kernel
theorem dX5_save_59 : decode cX5_save 59 = .ok (.iaload, 1) := by decide +kernel
theorem dX5_save_60 : decode cX5_save 60 = .ok (.ireturn, 1) := by decide +kernel
set_option maxRecDepth 20000 in
theorem ggX5_restore_X5_in : GoodIn wsX5_restore wsX5_in := goodIn_r _ [7] (by decide +kernel) (by decide +kernel)
set_option maxRecDepth 20000 in
theorem gX5_restore_X5_in : GoodIn wsX5_restore (va_wsS RX5 32 yX5_in wsX5_in) := goodIn_app (goodIn_of _ (by decide +kernel)) ggX5_restore_X5_in
set_option maxRecDepth 20000 in
theorem ggX5_restore_X5_remember : GoodIn wsX5_restore wsX5_remember := goodIn_r _ [11, 12, 2, 19, 20, 21, 22, 23, 24, 25, 26, 27, 28, 29, 30, 31, 32] (by decide +kernel) (by decide +kernel)
set_option maxRecDepth 20000 in
theorem gX5_restore_X5_remember : GoodIn wsX5_restore (wsV RX5 40 RX5 yX5_remember wsX5_remember) := goodIn_app (goodIn_of _ (by decide +kernel)) ggX5_restore_X5_remember
set_option maxRecDepth 20000 in
theorem ggX5_restore_X5_record : GoodIn wsX5_restore wsX5_record := goodIn_r _ [16, 17, 18, 12, 19, 20, 21, 22, 23, 24, 25, 26, 27, 28, 29, 30, 31, 32] (by decide +kernel) (by decide +kernel)
set_option maxRecDepth 20000 in
theorem gX5_restore_X5_record : GoodIn wsX5_restore (wsV RX5 43 RX5 yX5_record wsX5_record) := goodIn_app (goodIn_of _ (by decide +kernel)) ggX5_restore_X5_record
theorem dX5_restore_0 : decode cX5_restore 0 = .ok (.iload_n 1, 1) := by decide +kernel
theorem dX5_restore_1 : decode cX5_restore 1 = .ok (.i2l, 1) := by decide +kernel
theorem dX5_restore_2 : decode cX5_restore 2 = .ok (.iconst 0, 1) := by decide +kernel
theorem dX5_restore_3 : decode cX5_restore 3 = .ok (.iconst 1, 1) := by decide +kernel
theorem dX5_restore_4 : decode cX5_restore 4 = .ok (.invokestatic 32, 3) := by decide +kernel
theorem dX5_restore_7 : decode cX5_restore 7 = .ok (.ifCond .ne 6, 3) := by decide +kernel
theorem dX5_restore_10 : decode cX5_restore 10 = .ok (.bipush (-2), 2) := by decide +kernel
theorem dX5_restore_12 : decode cX5_restore 12 = .ok (.ireturn, 1) := by decide +kernel
theorem dX5_restore_13 : decode cX5_restore 13 = .ok (.aload_n 0, 1) := by decide +kernel
theorem dX5_restore_14 : decode cX5_restore 14 = .ok (.getfield 22, 3) := by decide +kernel
theorem dX5_restore_17 : decode cX5_restore 17 = .ok (.iload_n 1, 1) := by decide +kernel
theorem dX5_restore_18 : decode cX5_restore 18 = .ok (.baload, 1) := by decide +kernel
theorem dX5_restore_19 : decode cX5_restore 19 = .ok (.ifCond .ne 6, 3) := by decide +kernel
theorem dX5_restore_22 : decode cX5_restore 22 = .ok (.bipush (-5), 2) := by decide +kernel
theorem dX5_restore_24 : decode cX5_restore 24 = .ok (.ireturn, 1) := by decide +kernel
theorem dX5_restore_25 : decode cX5_restore 25 = .ok (.aload_n 0, 1) := by decide +kernel
theorem dX5_restore_26 : decode cX5_restore 26 = .ok (.invokevirtual 40, 3) := by decide +kernel
theorem dX5_restore_29 : decode cX5_restore 29 = .ok (.iconst 0, 1) := by decide +kernel
theorem dX5_restore_30 : decode cX5_restore 30 = .ok (.istore_n 2, 1) := by decide +kernel
theorem dX5_restore_31 : decode cX5_restore 31 = .ok (.iload_n 2, 1) := by decide +kernel
theorem dX5_restore_32 : decode cX5_restore 32 = .ok (.sipush 135, 3) := by decide +kernel
theorem dX5_restore_35 : decode cX5_restore 35 = .ok (.if_icmp .ge 27, 3) := by decide +kernel
theorem dX5_restore_38 : decode cX5_restore 38 = .ok (.aload_n 0, 1) := by decide +kernel
theorem dX5_restore_39 : decode cX5_restore 39 = .ok (.getfield 7, 3) := by decide +kernel
theorem dX5_restore_42 : decode cX5_restore 42 = .ok (.iload_n 2, 1) := by decide +kernel
theorem dX5_restore_43 : decode cX5_restore 43 = .ok (.aload_n 0, 1) := by decide +kernel
theorem dX5_restore_44 : decode cX5_restore 44 = .ok (.getfield 19, 3) := by decide +kernel
theorem dX5_restore_47 : decode cX5_restore 47 = .ok (.sipush 135, 3) := by decide +kernel
theorem dX5_restore_50 : decode cX5_restore 50 = .ok (.iload_n 1, 1) := by decide +kernel
theorem dX5_restore_51 : decode cX5_restore 51 = .ok (.imul, 1) := by decide +kernel
theorem dX5_restore_52 : decode cX5_restore 52 = .ok (.iload_n 2, 1) := by decide +kernel
theorem dX5_restore_53 : decode cX5_restore 53 = .ok (.iadd, 1) := by decide +kernel
theorem dX5_restore_54 : decode cX5_restore 54 = .ok (.iaload, 1) := by decide +kernel
theorem dX5_restore_55 : decode cX5_restore 55 = .ok (.iastore, 1) := by decide +kernel
theorem dX5_restore_56 : decode cX5_restore 56 = .ok (.iinc 2 1, 3) := by decide +kernel
theorem dX5_restore_59 : decode cX5_restore 59 = .ok (.goto (-28), 3) := by decide +kernel
theorem dX5_restore_62 : decode cX5_restore 62 = .ok (.aload_n 0, 1) := by decide +kernel
theorem dX5_restore_63 : decode cX5_restore 63 = .ok (.aload_n 0, 1) := by decide +kernel
theorem dX5_restore_64 : decode cX5_restore 64 = .ok (.getfield 7, 3) := by decide +kernel
theorem dX5_restore_67 : decode cX5_restore 67 = .ok (.bipush 8, 2) := by decide +kernel
theorem dX5_restore_69 : decode cX5_restore 69 = .ok (.iaload, 1) := by decide +kernel
theorem dX5_restore_70 : decode cX5_restore 70 = .ok (.invokevirtual 43, 3) := by decide +kernel
theorem dX5_restore_73 : decode cX5_restore 73 = .ok (.ireturn, 1) := by decide +kernel
set_option maxRecDepth 20000 in
theorem ggX5_taken_X5_its : GoodIn wsX5_taken wsX5_its := goodIn_r _ [6, 1, 7, 8, 9, 10, 11, 12, 13, 14, 15, 16, 17, 18, 19, 20] (by decide +kernel) (by decide +kernel)
set_option maxRecDepth 20000 in
theorem gX5_taken_X5_its : GoodIn wsX5_taken (wsV RX5 47 RX5 yX5_its wsX5_its) := goodIn_app (goodIn_of _ (by decide +kernel)) ggX5_taken_X5_its
theorem dX5_taken_0 : decode cX5_taken 0 = .ok (.bipush (-6), 2) := by decide +kernel
theorem dX5_taken_2 : decode cX5_taken 2 = .ok (.istore_n 1, 1) := by decide +kernel
theorem dX5_taken_3 : decode cX5_taken 3 = .ok (.iconst 0, 1) := by decide +kernel
theorem dX5_taken_4 : decode cX5_taken 4 = .ok (.istore_n 2, 1) := by decide +kernel
theorem dX5_taken_5 : decode cX5_taken 5 = .ok (.iload_n 2, 1) := by decide +kernel
theorem dX5_taken_6 : decode cX5_taken 6 = .ok (.aload_n 0, 1) := by decide +kernel
theorem dX5_taken_7 : decode cX5_taken 7 = .ok (.getfield 7, 3) := by decide +kernel
theorem dX5_taken_10 : decode cX5_taken 10 = .ok (.bipush 8, 2) := by decide +kernel
theorem dX5_taken_12 : decode cX5_taken 12 = .ok (.iaload, 1) := by decide +kernel
theorem dX5_taken_13 : decode cX5_taken 13 = .ok (.if_icmp .ge 65, 3) := by decide +kernel
theorem dX5_taken_16 : decode cX5_taken 16 = .ok (.aload_n 0, 1) := by decide +kernel
theorem dX5_taken_17 : decode cX5_taken 17 = .ok (.iload_n 2, 1) := by decide +kernel
theorem dX5_taken_18 : decode cX5_taken 18 = .ok (.iconst 0, 1) := by decide +kernel
theorem dX5_taken_19 : decode cX5_taken 19 = .ok (.invokevirtual 47, 3) := by decide +kernel
theorem dX5_taken_22 : decode cX5_taken 22 = .ok (.iconst 1, 1) := by decide +kernel
theorem dX5_taken_23 : decode cX5_taken 23 = .ok (.if_icmp .ne 16, 3) := by decide +kernel
theorem dX5_taken_26 : decode cX5_taken 26 = .ok (.aload_n 0, 1) := by decide +kernel
theorem dX5_taken_27 : decode cX5_taken 27 = .ok (.iload_n 2, 1) := by decide +kernel
theorem dX5_taken_28 : decode cX5_taken 28 = .ok (.iconst 3, 1) := by decide +kernel
theorem dX5_taken_29 : decode cX5_taken 29 = .ok (.invokevirtual 47, 3) := by decide +kernel
theorem dX5_taken_32 : decode cX5_taken 32 = .ok (.ifCond .ne 7, 3) := by decide +kernel
theorem dX5_taken_35 : decode cX5_taken 35 = .ok (.iconst 1, 1) := by decide +kernel
theorem dX5_taken_36 : decode cX5_taken 36 = .ok (.goto 4, 3) := by decide +kernel
theorem dX5_taken_39 : decode cX5_taken 39 = .ok (.iconst 0, 1) := by decide +kernel
theorem dX5_taken_40 : decode cX5_taken 40 = .ok (.istore_n 3, 1) := by decide +kernel
theorem dX5_taken_41 : decode cX5_taken 41 = .ok (.iload_n 3, 1) := by decide +kernel
theorem dX5_taken_42 : decode cX5_taken 42 = .ok (.ifCond .eq 28, 3) := by decide +kernel
theorem dX5_taken_45 : decode cX5_taken 45 = .ok (.iload_n 1, 1) := by decide +kernel
theorem dX5_taken_46 : decode cX5_taken 46 = .ok (.bipush (-6), 2) := by decide +kernel
theorem dX5_taken_48 : decode cX5_taken 48 = .ok (.if_icmp .eq 18, 3) := by decide +kernel
theorem dX5_taken_51 : decode cX5_taken 51 = .ok (.aload_n 0, 1) := by decide +kernel
theorem dX5_taken_52 : decode cX5_taken 52 = .ok (.iload_n 2, 1) := by decide +kernel
theorem dX5_taken_53 : decode cX5_taken 53 = .ok (.iconst 1, 1) := by decide +kernel
theorem dX5_taken_54 : decode cX5_taken 54 = .ok (.invokevirtual 47, 3) := by decide +kernel
theorem dX5_taken_57 : decode cX5_taken 57 = .ok (.aload_n 0, 1) := by decide +kernel
theorem dX5_taken_58 : decode cX5_taken 58 = .ok (.iload_n 1, 1) := by decide +kernel
theorem dX5_taken_59 : decode cX5_taken 59 = .ok (.iconst 1, 1) := by decide +kernel
theorem dX5_taken_60 : decode cX5_taken 60 = .ok (.invokevirtual 47, 3) := by decide +kernel
theorem dX5_taken_63 : decode cX5_taken 63 = .ok (.if_icmp .ge 7, 3) := by decide +kernel
theorem dX5_taken_66 : decode cX5_taken 66 = .ok (.iload_n 2, 1) := by decide +kernel
theorem dX5_taken_67 : decode cX5_taken 67 = .ok (.goto 4, 3) := by decide +kernel
theorem dX5_taken_70 : decode cX5_taken 70 = .ok (.iload_n 1, 1) := by decide +kernel
theorem dX5_taken_71 : decode cX5_taken 71 = .ok (.istore_n 1, 1) := by decide +kernel
theorem dX5_taken_72 : decode cX5_taken 72 = .ok (.iinc 2 1, 3) := by decide +kernel
theorem dX5_taken_75 : decode cX5_taken 75 = .ok (.goto (-70), 3) := by decide +kernel
theorem dX5_taken_78 : decode cX5_taken 78 = .ok (.iload_n 1, 1) := by decide +kernel
theorem dX5_taken_79 : decode cX5_taken 79 = .ok (.ireturn, 1) := by decide +kernel
theorem dX5_note_0 : decode cX5_note 0 = .ok (.bipush 70, 2) := by decide +kernel
theorem dX5_note_2 : decode cX5_note 2 = .ok (.istore_n 3, 1) := by decide +kernel
theorem dX5_note_3 : decode cX5_note 3 = .ok (.iload_n 3, 1) := by decide +kernel
theorem dX5_note_4 : decode cX5_note 4 = .ok (.bipush 14, 2) := by decide +kernel
theorem dX5_note_6 : decode cX5_note 6 = .ok (.if_icmp .lt 23, 3) := by decide +kernel
theorem dX5_note_9 : decode cX5_note 9 = .ok (.aload_n 0, 1) := by decide +kernel
theorem dX5_note_10 : decode cX5_note 10 = .ok (.getfield 7, 3) := by decide +kernel
theorem dX5_note_13 : decode cX5_note 13 = .ok (.iload_n 3, 1) := by decide +kernel
theorem dX5_note_14 : decode cX5_note 14 = .ok (.aload_n 0, 1) := by decide +kernel
theorem dX5_note_15 : decode cX5_note 15 = .ok (.getfield 7, 3) := by decide +kernel
theorem dX5_note_18 : decode cX5_note 18 = .ok (.iload_n 3, 1) := by decide +kernel
theorem dX5_note_19 : decode cX5_note 19 = .ok (.iconst 3, 1) := by decide +kernel
theorem dX5_note_20 : decode cX5_note 20 = .ok (.isub, 1) := by decide +kernel
theorem dX5_note_21 : decode cX5_note 21 = .ok (.iaload, 1) := by decide +kernel
theorem dX5_note_22 : decode cX5_note 22 = .ok (.iastore, 1) := by decide +kernel
theorem dX5_note_23 : decode cX5_note 23 = .ok (.iinc 3 (-1), 3) := by decide +kernel
theorem dX5_note_26 : decode cX5_note 26 = .ok (.goto (-23), 3) := by decide +kernel
theorem dX5_note_29 : decode cX5_note 29 = .ok (.aload_n 0, 1) := by decide +kernel
theorem dX5_note_30 : decode cX5_note 30 = .ok (.getfield 7, 3) := by decide +kernel
theorem dX5_note_33 : decode cX5_note 33 = .ok (.bipush 11, 2) := by decide +kernel
theorem dX5_note_35 : decode cX5_note 35 = .ok (.iload_n 1, 1) := by decide +kernel
theorem dX5_note_36 : decode cX5_note 36 = .ok (.iastore, 1) := by decide +kernel
theorem dX5_note_37 : decode cX5_note 37 = .ok (.aload_n 0, 1) := by decide +kernel
theorem dX5_note_38 : decode cX5_note 38 = .ok (.getfield 7, 3) := by decide +kernel
theorem dX5_note_41 : decode cX5_note 41 = .ok (.bipush 12, 2) := by decide +kernel
theorem dX5_note_43 : decode cX5_note 43 = .ok (.iload_n 2, 1) := by decide +kernel
theorem dX5_note_44 : decode cX5_note 44 = .ok (.iastore, 1) := by decide +kernel
theorem dX5_note_45 : decode cX5_note 45 = .ok (.aload_n 0, 1) := by decide +kernel
theorem dX5_note_46 : decode cX5_note 46 = .ok (.getfield 7, 3) := by decide +kernel
theorem dX5_note_49 : decode cX5_note 49 = .ok (.bipush 13, 2) := by decide +kernel
theorem dX5_note_51 : decode cX5_note 51 = .ok (.aload_n 0, 1) := by decide +kernel
theorem dX5_note_52 : decode cX5_note 52 = .ok (.getfield 7, 3) := by decide +kernel
theorem dX5_note_55 : decode cX5_note 55 = .ok (.bipush 7, 2) := by decide +kernel
theorem dX5_note_57 : decode cX5_note 57 = .ok (.iaload, 1) := by decide +kernel
theorem dX5_note_58 : decode cX5_note 58 = .ok (.iastore, 1) := by decide +kernel
theorem dX5_note_59 : decode cX5_note 59 = .ok (.aload_n 0, 1) := by decide +kernel
theorem dX5_note_60 : decode cX5_note 60 = .ok (.getfield 7, 3) := by decide +kernel
theorem dX5_note_63 : decode cX5_note 63 = .ok (.bipush 10, 2) := by decide +kernel
theorem dX5_note_65 : decode cX5_note 65 = .ok (.dup2, 1) := by decide +kernel
theorem dX5_note_66 : decode cX5_note 66 = .ok (.iaload, 1) := by decide +kernel
theorem dX5_note_67 : decode cX5_note 67 = .ok (.aload_n 0, 1) := by decide +kernel
theorem dX5_note_68 : decode cX5_note 68 = .ok (.getfield 7, 3) := by decide +kernel
theorem dX5_note_71 : decode cX5_note 71 = .ok (.bipush 10, 2) := by decide +kernel
theorem dX5_note_73 : decode cX5_note 73 = .ok (.iaload, 1) := by decide +kernel
theorem dX5_note_74 : decode cX5_note 74 = .ok (.bipush 20, 2) := by decide +kernel
theorem dX5_note_76 : decode cX5_note 76 = .ok (.if_icmp .ge 7, 3) := by decide +kernel
theorem dX5_note_79 : decode cX5_note 79 = .ok (.iconst 1, 1) := by decide +kernel
theorem dX5_note_80 : decode cX5_note 80 = .ok (.goto 4, 3) := by decide +kernel
theorem dX5_note_83 : decode cX5_note 83 = .ok (.iconst 0, 1) := by decide +kernel
theorem dX5_note_84 : decode cX5_note 84 = .ok (.iadd, 1) := by decide +kernel
theorem dX5_note_85 : decode cX5_note 85 = .ok (.iastore, 1) := by decide +kernel
theorem dX5_note_86 : decode cX5_note 86 = .ok (.return_, 1) := by decide +kernel
theorem dX5_held_0 : decode cX5_held 0 = .ok (.iload_n 0, 1) := by decide +kernel
theorem dX5_held_1 : decode cX5_held 1 = .ok (.ldc 51, 2) := by decide +kernel
theorem dX5_held_3 : decode cX5_held 3 = .ok (.if_icmp .ge 7, 3) := by decide +kernel
theorem dX5_held_6 : decode cX5_held 6 = .ok (.iload_n 0, 1) := by decide +kernel
theorem dX5_held_7 : decode cX5_held 7 = .ok (.goto 5, 3) := by decide +kernel
theorem dX5_held_10 : decode cX5_held 10 = .ok (.ldc 51, 2) := by decide +kernel
theorem dX5_held_12 : decode cX5_held 12 = .ok (.ireturn, 1) := by decide +kernel
set_option maxRecDepth 20000 in
theorem ggX5_change_X5_taken : GoodIn wsX5_change wsX5_taken := goodIn_r _ [6, 1, 7, 8, 9, 5, 10, 23, 24, 25, 26, 27, 28, 29, 30, 31, 32, 33, 34, 35, 36] (by decide +kernel) (by decide +kernel)
set_option maxRecDepth 20000 in
theorem gX5_change_X5_taken : GoodIn wsX5_change (wsV RX5 52 RX5 yX5_taken wsX5_taken) := goodIn_app (goodIn_of _ (by decide +kernel)) ggX5_change_X5_taken
set_option maxRecDepth 20000 in
theorem ggX5_change_X5_lay : GoodIn wsX5_change wsX5_lay := goodIn_r _ [14, 1, 23, 24, 25, 26, 27, 28, 29, 30, 31, 32, 33, 34, 35, 36] (by decide +kernel) (by decide +kernel)
set_option maxRecDepth 20000 in
theorem gX5_change_X5_lay : GoodIn wsX5_change (wsV RX5 56 RX5 yX5_lay wsX5_lay) := goodIn_app (goodIn_of _ (by decide +kernel)) ggX5_change_X5_lay
set_option maxRecDepth 20000 in
theorem ggX5_change_X5_its : GoodIn wsX5_change wsX5_its := goodIn_r _ [10, 1, 23, 24, 25, 26, 27, 28, 29, 30, 31, 32, 33, 34, 35, 36] (by decide +kernel) (by decide +kernel)
set_option maxRecDepth 20000 in
theorem gX5_change_X5_its : GoodIn wsX5_change (wsV RX5 47 RX5 yX5_its wsX5_its) := goodIn_app (goodIn_of _ (by decide +kernel)) ggX5_change_X5_its
set_option maxRecDepth 20000 in
theorem ggX5_change_X5_held : GoodIn wsX5_change wsX5_held := goodIn_r _ [17, 18] (by decide +kernel) (by decide +kernel)
set_option maxRecDepth 20000 in
theorem gX5_change_X5_held : GoodIn wsX5_change (va_wsS RX5 60 yX5_held wsX5_held) := goodIn_app (goodIn_of _ (by decide +kernel)) ggX5_change_X5_held
set_option maxRecDepth 20000 in
theorem ggX5_change_X5_note : GoodIn wsX5_change wsX5_note := goodIn_r _ [22, 1, 23, 24, 25, 26, 27, 28, 29, 30, 31, 32, 33, 34, 35, 36] (by decide +kernel) (by decide +kernel)
set_option maxRecDepth 20000 in
theorem gX5_change_X5_note : GoodIn wsX5_change (wsV RX5 63 RX5 yX5_note wsX5_note) := goodIn_app (goodIn_of _ (by decide +kernel)) ggX5_change_X5_note
theorem dX5_change_0 : decode cX5_change 0 = .ok (.aload_n 0, 1) := by decide +kernel
theorem dX5_change_1 : decode cX5_change 1 = .ok (.invokevirtual 52, 3) := by decide +kernel
theorem dX5_change_4 : decode cX5_change 4 = .ok (.istore 5, 2) := by decide +kernel
theorem dX5_change_6 : decode cX5_change 6 = .ok (.aload_n 0, 1) := by decide +kernel
theorem dX5_change_7 : decode cX5_change 7 = .ok (.iload_n 1, 1) := by decide +kernel
theorem dX5_change_8 : decode cX5_change 8 = .ok (.iload_n 2, 1) := by decide +kernel
theorem dX5_change_9 : decode cX5_change 9 = .ok (.iload_n 3, 1) := by decide +kernel
theorem dX5_change_10 : decode cX5_change 10 = .ok (.invokevirtual 56, 3) := by decide +kernel
theorem dX5_change_13 : decode cX5_change 13 = .ok (.aload_n 0, 1) := by decide +kernel
theorem dX5_change_14 : decode cX5_change 14 = .ok (.iload_n 1, 1) := by decide +kernel
theorem dX5_change_15 : decode cX5_change 15 = .ok (.iconst 2, 1) := by decide +kernel
theorem dX5_change_16 : decode cX5_change 16 = .ok (.aload_n 0, 1) := by decide +kernel
theorem dX5_change_17 : decode cX5_change 17 = .ok (.iload_n 1, 1) := by decide +kernel
theorem dX5_change_18 : decode cX5_change 18 = .ok (.iconst 2, 1) := by decide +kernel
theorem dX5_change_19 : decode cX5_change 19 = .ok (.invokevirtual 47, 3) := by decide +kernel
theorem dX5_change_22 : decode cX5_change 22 = .ok (.aload_n 0, 1) := by decide +kernel
theorem dX5_change_23 : decode cX5_change 23 = .ok (.getfield 7, 3) := by decide +kernel
theorem dX5_change_26 : decode cX5_change 26 = .ok (.iload 4, 2) := by decide +kernel
theorem dX5_change_28 : decode cX5_change 28 = .ok (.iaload, 1) := by decide +kernel
theorem dX5_change_29 : decode cX5_change 29 = .ok (.iadd, 1) := by decide +kernel
theorem dX5_change_30 : decode cX5_change 30 = .ok (.invokestatic 60, 3) := by decide +kernel
theorem dX5_change_33 : decode cX5_change 33 = .ok (.invokevirtual 56, 3) := by decide +kernel
theorem dX5_change_36 : decode cX5_change 36 = .ok (.aload_n 0, 1) := by decide +kernel
theorem dX5_change_37 : decode cX5_change 37 = .ok (.iload_n 1, 1) := by decide +kernel
theorem dX5_change_38 : decode cX5_change 38 = .ok (.bipush 6, 2) := by decide +kernel
theorem dX5_change_40 : decode cX5_change 40 = .ok (.aload_n 0, 1) := by decide +kernel
theorem dX5_change_41 : decode cX5_change 41 = .ok (.iload_n 1, 1) := by decide +kernel
theorem dX5_change_42 : decode cX5_change 42 = .ok (.bipush 6, 2) := by decide +kernel
theorem dX5_change_44 : decode cX5_change 44 = .ok (.invokevirtual 47, 3) := by decide +kernel
theorem dX5_change_47 : decode cX5_change 47 = .ok (.iconst 1, 1) := by decide +kernel
theorem dX5_change_48 : decode cX5_change 48 = .ok (.iadd, 1) := by decide +kernel
theorem dX5_change_49 : decode cX5_change 49 = .ok (.invokevirtual 56, 3) := by decide +kernel
theorem dX5_change_52 : decode cX5_change 52 = .ok (.aload_n 0, 1) := by decide +kernel
theorem dX5_change_53 : decode cX5_change 53 = .ok (.iload 4, 2) := by decide +kernel
theorem dX5_change_55 : decode cX5_change 55 = .ok (.iload_n 1, 1) := by decide +kernel
theorem dX5_change_56 : decode cX5_change 56 = .ok (.invokevirtual 63, 3) := by decide +kernel
theorem dX5_change_59 : decode cX5_change 59 = .ok (.aload_n 0, 1) := by decide +kernel
theorem dX5_change_60 : decode cX5_change 60 = .ok (.iload_n 1, 1) := by decide +kernel
theorem dX5_change_61 : decode cX5_change 61 = .ok (.iconst 2, 1) := by decide +kernel
theorem dX5_change_62 : decode cX5_change 62 = .ok (.invokevirtual 47, 3) := by decide +kernel
theorem dX5_change_65 : decode cX5_change 65 = .ok (.aload_n 0, 1) := by decide +kernel
theorem dX5_change_66 : decode cX5_change 66 = .ok (.getfield 7, 3) := by decide +kernel
theorem dX5_change_69 : decode cX5_change 69 = .ok (.iconst 4, 1) := by decide +kernel
theorem dX5_change_70 : decode cX5_change 70 = .ok (.iaload, 1) := by decide +kernel
theorem dX5_change_71 : decode cX5_change 71 = .ok (.if_icmp .le 48, 3) := by decide +kernel
theorem dX5_change_74 : decode cX5_change 74 = .ok (.aload_n 0, 1) := by decide +kernel
theorem dX5_change_75 : decode cX5_change 75 = .ok (.iload_n 1, 1) := by decide +kernel
theorem dX5_change_76 : decode cX5_change 76 = .ok (.iconst 3, 1) := by decide +kernel
theorem dX5_change_77 : decode cX5_change 77 = .ok (.invokevirtual 47, 3) := by decide +kernel
theorem dX5_change_80 : decode cX5_change 80 = .ok (.ifCond .ne 39, 3) := by decide +kernel
theorem dX5_change_83 : decode cX5_change 83 = .ok (.aload_n 0, 1) := by decide +kernel
theorem dX5_change_84 : decode cX5_change 84 = .ok (.iload_n 1, 1) := by decide +kernel
theorem dX5_change_85 : decode cX5_change 85 = .ok (.iconst 3, 1) := by decide +kernel
theorem dX5_change_86 : decode cX5_change 86 = .ok (.iconst 1, 1) := by decide +kernel
theorem dX5_change_87 : decode cX5_change 87 = .ok (.invokevirtual 56, 3) := by decide +kernel
theorem dX5_change_90 : decode cX5_change 90 = .ok (.aload_n 0, 1) := by decide +kernel
theorem dX5_change_91 : decode cX5_change 91 = .ok (.iload_n 1, 1) := by decide +kernel
theorem dX5_change_92 : decode cX5_change 92 = .ok (.iconst 4, 1) := by decide +kernel
theorem dX5_change_93 : decode cX5_change 93 = .ok (.iconst 0, 1) := by decide +kernel
theorem dX5_change_94 : decode cX5_change 94 = .ok (.invokevirtual 56, 3) := by decide +kernel
theorem dX5_change_97 : decode cX5_change 97 = .ok (.aload_n 0, 1) := by decide +kernel
theorem dX5_change_98 : decode cX5_change 98 = .ok (.iload_n 1, 1) := by decide +kernel
theorem dX5_change_99 : decode cX5_change 99 = .ok (.bipush 7, 2) := by decide +kernel
theorem dX5_change_101 : decode cX5_change 101 = .ok (.aload_n 0, 1) := by decide +kernel
theorem dX5_change_102 : decode cX5_change 102 = .ok (.iload_n 1, 1) := by decide +kernel
theorem dX5_change_103 : decode cX5_change 103 = .ok (.bipush 7, 2) := by decide +kernel
theorem dX5_change_105 : decode cX5_change 105 = .ok (.invokevirtual 47, 3) := by decide +kernel
theorem dX5_change_108 : decode cX5_change 108 = .ok (.iconst 1, 1) := by decide +kernel
theorem dX5_change_109 : decode cX5_change 109 = .ok (.iadd, 1) := by decide +kernel
theorem dX5_change_110 : decode cX5_change 110 = .ok (.invokevirtual 56, 3) := by decide +kernel
theorem dX5_change_113 : decode cX5_change 113 = .ok (.aload_n 0, 1) := by decide +kernel
theorem dX5_change_114 : decode cX5_change 114 = .ok (.iconst 3, 1) := by decide +kernel
theorem dX5_change_115 : decode cX5_change 115 = .ok (.iload_n 1, 1) := by decide +kernel
theorem dX5_change_116 : decode cX5_change 116 = .ok (.invokevirtual 63, 3) := by decide +kernel
theorem dX5_change_119 : decode cX5_change 119 = .ok (.aload_n 0, 1) := by decide +kernel
theorem dX5_change_120 : decode cX5_change 120 = .ok (.getfield 7, 3) := by decide +kernel
theorem dX5_change_123 : decode cX5_change 123 = .ok (.bipush 9, 2) := by decide +kernel
theorem dX5_change_125 : decode cX5_change 125 = .ok (.dup2, 1) := by decide +kernel
theorem dX5_change_126 : decode cX5_change 126 = .ok (.iaload, 1) := by decide +kernel
theorem dX5_change_127 : decode cX5_change 127 = .ok (.aload_n 0, 1) := by decide +kernel
theorem dX5_change_128 : decode cX5_change 128 = .ok (.invokevirtual 52, 3) := by decide +kernel
theorem dX5_change_131 : decode cX5_change 131 = .ok (.iload 5, 2) := by decide +kernel
theorem dX5_change_133 : decode cX5_change 133 = .ok (.if_icmp .eq 7, 3) := by decide +kernel
theorem dX5_change_136 : decode cX5_change 136 = .ok (.iconst 1, 1) := by decide +kernel
theorem dX5_change_137 : decode cX5_change 137 = .ok (.goto 4, 3) := by decide +kernel
theorem dX5_change_140 : decode cX5_change 140 = .ok (.iconst 0, 1) := by decide +kernel
theorem dX5_change_141 : decode cX5_change 141 = .ok (.iadd, 1) := by decide +kernel
theorem dX5_change_142 : decode cX5_change 142 = .ok (.iastore, 1) := by decide +kernel
theorem dX5_change_143 : decode cX5_change 143 = .ok (.aload_n 0, 1) := by decide +kernel
theorem dX5_change_144 : decode cX5_change 144 = .ok (.iload_n 1, 1) := by decide +kernel
theorem dX5_change_145 : decode cX5_change 145 = .ok (.iconst 2, 1) := by decide +kernel
theorem dX5_change_146 : decode cX5_change 146 = .ok (.invokevirtual 47, 3) := by decide +kernel
theorem dX5_change_149 : decode cX5_change 149 = .ok (.ireturn, 1) := by decide +kernel
theorem dX5_passes_0 : decode cX5_passes 0 = .ok (.aload_n 0, 1) := by decide +kernel
theorem dX5_passes_1 : decode cX5_passes 1 = .ok (.dup, 1) := by decide +kernel
theorem dX5_passes_2 : decode cX5_passes 2 = .ok (.getfield 67, 3) := by decide +kernel
theorem dX5_passes_5 : decode cX5_passes 5 = .ok (.iconst 1, 1) := by decide +kernel
theorem dX5_passes_6 : decode cX5_passes 6 = .ok (.iadd, 1) := by decide +kernel
theorem dX5_passes_7 : decode cX5_passes 7 = .ok (.putfield 67, 3) := by decide +kernel
theorem dX5_passes_10 : decode cX5_passes 10 = .ok (.aload_n 0, 1) := by decide +kernel
theorem dX5_passes_11 : decode cX5_passes 11 = .ok (.getfield 67, 3) := by decide +kernel
theorem dX5_passes_14 : decode cX5_passes 14 = .ok (.aload_n 0, 1) := by decide +kernel
theorem dX5_passes_15 : decode cX5_passes 15 = .ok (.getfield 7, 3) := by decide +kernel
theorem dX5_passes_18 : decode cX5_passes 18 = .ok (.iconst 3, 1) := by decide +kernel
theorem dX5_passes_19 : decode cX5_passes 19 = .ok (.iaload, 1) := by decide +kernel
theorem dX5_passes_20 : decode cX5_passes 20 = .ok (.if_icmp .lt 18, 3) := by decide +kernel
theorem dX5_passes_23 : decode cX5_passes 23 = .ok (.aload_n 0, 1) := by decide +kernel
theorem dX5_passes_24 : decode cX5_passes 24 = .ok (.dup, 1) := by decide +kernel
theorem dX5_passes_25 : decode cX5_passes 25 = .ok (.getfield 70, 3) := by decide +kernel
theorem dX5_passes_28 : decode cX5_passes 28 = .ok (.iconst 2, 1) := by decide +kernel
theorem dX5_passes_29 : decode cX5_passes 29 = .ok (.idiv, 1) := by decide +kernel
theorem dX5_passes_30 : decode cX5_passes 30 = .ok (.putfield 70, 3) := by decide +kernel
theorem dX5_passes_33 : decode cX5_passes 33 = .ok (.aload_n 0, 1) := by decide +kernel
theorem dX5_passes_34 : decode cX5_passes 34 = .ok (.iconst 0, 1) := by decide +kernel
theorem dX5_passes_35 : decode cX5_passes 35 = .ok (.putfield 67, 3) := by decide +kernel
theorem dX5_passes_38 : decode cX5_passes 38 = .ok (.aload_n 0, 1) := by decide +kernel
theorem dX5_passes_39 : decode cX5_passes 39 = .ok (.getfield 73, 3) := by decide +kernel
theorem dX5_passes_42 : decode cX5_passes 42 = .ok (.ifCond .ne 5, 3) := by decide +kernel
theorem dX5_passes_45 : decode cX5_passes 45 = .ok (.iconst 0, 1) := by decide +kernel
theorem dX5_passes_46 : decode cX5_passes 46 = .ok (.ireturn, 1) := by decide +kernel
theorem dX5_passes_47 : decode cX5_passes 47 = .ok (.aload_n 0, 1) := by decide +kernel
theorem dX5_passes_48 : decode cX5_passes 48 = .ok (.dup, 1) := by decide +kernel
theorem dX5_passes_49 : decode cX5_passes 49 = .ok (.getfield 77, 3) := by decide +kernel
theorem dX5_passes_52 : decode cX5_passes 52 = .ok (.iconst 1, 1) := by decide +kernel
theorem dX5_passes_53 : decode cX5_passes 53 = .ok (.iadd, 1) := by decide +kernel
theorem dX5_passes_54 : decode cX5_passes 54 = .ok (.putfield 77, 3) := by decide +kernel
theorem dX5_passes_57 : decode cX5_passes 57 = .ok (.aload_n 0, 1) := by decide +kernel
theorem dX5_passes_58 : decode cX5_passes 58 = .ok (.getfield 77, 3) := by decide +kernel
theorem dX5_passes_61 : decode cX5_passes 61 = .ok (.aload_n 0, 1) := by decide +kernel
theorem dX5_passes_62 : decode cX5_passes 62 = .ok (.getfield 7, 3) := by decide +kernel
theorem dX5_passes_65 : decode cX5_passes 65 = .ok (.bipush 6, 2) := by decide +kernel
theorem dX5_passes_67 : decode cX5_passes 67 = .ok (.iaload, 1) := by decide +kernel
theorem dX5_passes_68 : decode cX5_passes 68 = .ok (.if_icmp .lt 7, 3) := by decide +kernel
theorem dX5_passes_71 : decode cX5_passes 71 = .ok (.iconst 1, 1) := by decide +kernel
theorem dX5_passes_72 : decode cX5_passes 72 = .ok (.goto 4, 3) := by decide +kernel
theorem dX5_passes_75 : decode cX5_passes 75 = .ok (.iconst 0, 1) := by decide +kernel
theorem dX5_passes_76 : decode cX5_passes 76 = .ok (.istore_n 1, 1) := by decide +kernel
theorem dX5_passes_77 : decode cX5_passes 77 = .ok (.aload_n 0, 1) := by decide +kernel
theorem dX5_passes_78 : decode cX5_passes 78 = .ok (.getfield 70, 3) := by decide +kernel
theorem dX5_passes_81 : decode cX5_passes 81 = .ok (.aload_n 0, 1) := by decide +kernel
theorem dX5_passes_82 : decode cX5_passes 82 = .ok (.getfield 7, 3) := by decide +kernel
theorem dX5_passes_85 : decode cX5_passes 85 = .ok (.iconst 5, 1) := by decide +kernel
theorem dX5_passes_86 : decode cX5_passes 86 = .ok (.iaload, 1) := by decide +kernel
theorem dX5_passes_87 : decode cX5_passes 87 = .ok (.if_icmp .lt 9, 3) := by decide +kernel
theorem dX5_passes_90 : decode cX5_passes 90 = .ok (.iload_n 1, 1) := by decide +kernel
theorem dX5_passes_91 : decode cX5_passes 91 = .ok (.ifCond .ne 5, 3) := by decide +kernel
theorem dX5_passes_94 : decode cX5_passes 94 = .ok (.iconst 0, 1) := by decide +kernel
theorem dX5_passes_95 : decode cX5_passes 95 = .ok (.ireturn, 1) := by decide +kernel
theorem dX5_passes_96 : decode cX5_passes 96 = .ok (.aload_n 0, 1) := by decide +kernel
theorem dX5_passes_97 : decode cX5_passes 97 = .ok (.aload_n 0, 1) := by decide +kernel
theorem dX5_passes_98 : decode cX5_passes 98 = .ok (.getfield 70, 3) := by decide +kernel
theorem dX5_passes_101 : decode cX5_passes 101 = .ok (.aload_n 0, 1) := by decide +kernel
theorem dX5_passes_102 : decode cX5_passes 102 = .ok (.getfield 7, 3) := by decide +kernel
theorem dX5_passes_105 : decode cX5_passes 105 = .ok (.iconst 5, 1) := by decide +kernel
theorem dX5_passes_106 : decode cX5_passes 106 = .ok (.iaload, 1) := by decide +kernel
theorem dX5_passes_107 : decode cX5_passes 107 = .ok (.if_icmp .lt 14, 3) := by decide +kernel
theorem dX5_passes_110 : decode cX5_passes 110 = .ok (.aload_n 0, 1) := by decide +kernel
theorem dX5_passes_111 : decode cX5_passes 111 = .ok (.getfield 7, 3) := by decide +kernel
theorem dX5_passes_114 : decode cX5_passes 114 = .ok (.iconst 5, 1) := by decide +kernel
theorem dX5_passes_115 : decode cX5_passes 115 = .ok (.iaload, 1) := by decide +kernel
theorem dX5_passes_116 : decode cX5_passes 116 = .ok (.iconst 1, 1) := by decide +kernel
theorem dX5_passes_117 : decode cX5_passes 117 = .ok (.isub, 1) := by decide +kernel
theorem dX5_passes_118 : decode cX5_passes 118 = .ok (.goto 7, 3) := by decide +kernel
theorem dX5_passes_121 : decode cX5_passes 121 = .ok (.aload_n 0, 1) := by decide +kernel
theorem dX5_passes_122 : decode cX5_passes 122 = .ok (.getfield 70, 3) := by decide +kernel
theorem dX5_passes_125 : decode cX5_passes 125 = .ok (.putfield 70, 3) := by decide +kernel
theorem dX5_passes_128 : decode cX5_passes 128 = .ok (.aload_n 0, 1) := by decide +kernel
theorem dX5_passes_129 : decode cX5_passes 129 = .ok (.iconst 0, 1) := by decide +kernel
theorem dX5_passes_130 : decode cX5_passes 130 = .ok (.putfield 73, 3) := by decide +kernel
theorem dX5_passes_133 : decode cX5_passes 133 = .ok (.aload_n 0, 1) := by decide +kernel
theorem dX5_passes_134 : decode cX5_passes 134 = .ok (.iconst 0, 1) := by decide +kernel
theorem dX5_passes_135 : decode cX5_passes 135 = .ok (.putfield 77, 3) := by decide +kernel
theorem dX5_passes_138 : decode cX5_passes 138 = .ok (.iconst 1, 1) := by decide +kernel
theorem dX5_passes_139 : decode cX5_passes 139 = .ok (.ireturn, 1) := by decide +kernel
set_option maxRecDepth 20000 in
theorem ggX5_tries_X5_its : GoodIn wsX5_tries wsX5_its := goodIn_r _ [9, 10, 11, 12, 13, 14, 15, 16, 17, 18, 19, 20, 21, 22, 23, 24] (by decide +kernel) (by decide +kernel)
set_option maxRecDepth 20000 in
theorem gX5_tries_X5_its : GoodIn wsX5_tries (wsV RX5 47 RX5 yX5_its wsX5_its) := goodIn_app (goodIn_of _ (by decide +kernel)) ggX5_tries_X5_its
theorem dX5_tries_0 : decode cX5_tries 0 = .ok (.aload_n 0, 1) := by decide +kernel
theorem dX5_tries_1 : decode cX5_tries 1 = .ok (.aload_n 0, 1) := by decide +kernel
theorem dX5_tries_2 : decode cX5_tries 2 = .ok (.iload_n 1, 1) := by decide +kernel
theorem dX5_tries_3 : decode cX5_tries 3 = .ok (.iconst 2, 1) := by decide +kernel
theorem dX5_tries_4 : decode cX5_tries 4 = .ok (.invokevirtual 47, 3) := by decide +kernel
theorem dX5_tries_7 : decode cX5_tries 7 = .ok (.putfield 70, 3) := by decide +kernel
theorem dX5_tries_10 : decode cX5_tries 10 = .ok (.aload_n 0, 1) := by decide +kernel
theorem dX5_tries_11 : decode cX5_tries 11 = .ok (.aload_n 0, 1) := by decide +kernel
theorem dX5_tries_12 : decode cX5_tries 12 = .ok (.iload_n 1, 1) := by decide +kernel
theorem dX5_tries_13 : decode cX5_tries 13 = .ok (.iconst 5, 1) := by decide +kernel
theorem dX5_tries_14 : decode cX5_tries 14 = .ok (.invokevirtual 47, 3) := by decide +kernel
theorem dX5_tries_17 : decode cX5_tries 17 = .ok (.putfield 67, 3) := by decide +kernel
theorem dX5_tries_20 : decode cX5_tries 20 = .ok (.aload_n 0, 1) := by decide +kernel
theorem dX5_tries_21 : decode cX5_tries 21 = .ok (.aload_n 0, 1) := by decide +kernel
theorem dX5_tries_22 : decode cX5_tries 22 = .ok (.iload_n 1, 1) := by decide +kernel
theorem dX5_tries_23 : decode cX5_tries 23 = .ok (.iconst 3, 1) := by decide +kernel
theorem dX5_tries_24 : decode cX5_tries 24 = .ok (.invokevirtual 47, 3) := by decide +kernel
theorem dX5_tries_27 : decode cX5_tries 27 = .ok (.iconst 1, 1) := by decide +kernel
theorem dX5_tries_28 : decode cX5_tries 28 = .ok (.if_icmp .ne 7, 3) := by decide +kernel
theorem dX5_tries_31 : decode cX5_tries 31 = .ok (.iconst 1, 1) := by decide +kernel
theorem dX5_tries_32 : decode cX5_tries 32 = .ok (.goto 4, 3) := by decide +kernel
theorem dX5_tries_35 : decode cX5_tries 35 = .ok (.iconst 0, 1) := by decide +kernel
theorem dX5_tries_36 : decode cX5_tries 36 = .ok (.putfield 73, 3) := by decide +kernel
theorem dX5_tries_39 : decode cX5_tries 39 = .ok (.aload_n 0, 1) := by decide +kernel
theorem dX5_tries_40 : decode cX5_tries 40 = .ok (.aload_n 0, 1) := by decide +kernel
end
section
theorem dX5_tries_41 : decode cX5_tries 41 = .ok (.iload_n 1, 1) := by decide +kernel
theorem dX5_tries_42 : decode cX5_tries 42 = .ok (.iconst 4, 1) := by decide +kernel
theorem dX5_tries_43 : decode cX5_tries 43 = .ok (.invokevirtual 47, 3) := by decide +kernel
theorem dX5_tries_46 : decode cX5_tries 46 = .ok (.putfield 77, 3) := by decide +kernel
theorem dX5_tries_49 : decode cX5_tries 49 = .ok (.return_, 1) := by decide +kernel
set_option maxRecDepth 20000 in
theorem ggX5_minute_X5_taken : GoodIn wsX5_minute wsX5_taken := goodIn_r _ [10, 1, 11, 12, 13, 9, 14, 31, 32, 33, 34, 35, 36, 37, 38, 39, 40, 41, 42, 43, 44] (by decide +kernel) (by decide +kernel)
set_option maxRecDepth 20000 in
theorem gX5_minute_X5_taken : GoodIn wsX5_minute (wsV RX5 52 RX5 yX5_taken wsX5_taken) := goodIn_app (goodIn_of _ (by decide +kernel)) ggX5_minute_X5_taken
set_option maxRecDepth 20000 in
theorem ggX5_minute_X5_tries : GoodIn wsX5_minute wsX5_tries := goodIn_r _ [18, 2, 3, 4, 5, 11, 12, 13, 9, 14, 1, 31, 32, 33, 34, 35, 36, 37, 38, 39, 40, 41, 42, 43, 44] (by decide +kernel) (by decide +kernel)
set_option maxRecDepth 20000 in
theorem gX5_minute_X5_tries : GoodIn wsX5_minute (wsV RX5 80 RX5 yX5_tries wsX5_tries) := goodIn_app (goodIn_of _ (by decide +kernel)) ggX5_minute_X5_tries
set_option maxRecDepth 20000 in
theorem ggX5_minute_X5_passes : GoodIn wsX5_minute wsX5_passes := goodIn_r _ [22, 3, 1, 2, 4, 5, 31, 32, 33, 34, 35, 36, 37, 38, 39, 40, 41, 42, 43, 44] (by decide +kernel) (by decide +kernel)
set_option maxRecDepth 20000 in
theorem gX5_minute_X5_passes : GoodIn wsX5_minute (wsV RX5 84 RX5 yX5_passes wsX5_passes) := goodIn_app (goodIn_of _ (by decide +kernel)) ggX5_minute_X5_passes
set_option maxRecDepth 20000 in
theorem ggX5_minute_X5_lay : GoodIn wsX5_minute wsX5_lay := goodIn_r _ [26, 1, 31, 32, 33, 34, 35, 36, 37, 38, 39, 40, 41, 42, 43, 44] (by decide +kernel) (by decide +kernel)
set_option maxRecDepth 20000 in
theorem gX5_minute_X5_lay : GoodIn wsX5_minute (wsV RX5 56 RX5 yX5_lay wsX5_lay) := goodIn_app (goodIn_of _ (by decide +kernel)) ggX5_minute_X5_lay
set_option maxRecDepth 20000 in
theorem ggX5_minute_X5_note : GoodIn wsX5_minute wsX5_note := goodIn_r _ [30, 1, 31, 32, 33, 34, 35, 36, 37, 38, 39, 40, 41, 42, 43, 44] (by decide +kernel) (by decide +kernel)
set_option maxRecDepth 20000 in
theorem gX5_minute_X5_note : GoodIn wsX5_minute (wsV RX5 63 RX5 yX5_note wsX5_note) := goodIn_app (goodIn_of _ (by decide +kernel)) ggX5_minute_X5_note
theorem dX5_minute_0 : decode cX5_minute 0 = .ok (.aload_n 0, 1) := by decide +kernel
theorem dX5_minute_1 : decode cX5_minute 1 = .ok (.invokevirtual 52, 3) := by decide +kernel
theorem dX5_minute_4 : decode cX5_minute 4 = .ok (.istore_n 1, 1) := by decide +kernel
theorem dX5_minute_5 : decode cX5_minute 5 = .ok (.iconst 0, 1) := by decide +kernel
theorem dX5_minute_6 : decode cX5_minute 6 = .ok (.istore_n 2, 1) := by decide +kernel
theorem dX5_minute_7 : decode cX5_minute 7 = .ok (.aload_n 0, 1) := by decide +kernel
theorem dX5_minute_8 : decode cX5_minute 8 = .ok (.getfield 7, 3) := by decide +kernel
theorem dX5_minute_11 : decode cX5_minute 11 = .ok (.bipush 7, 2) := by decide +kernel
theorem dX5_minute_13 : decode cX5_minute 13 = .ok (.dup2, 1) := by decide +kernel
theorem dX5_minute_14 : decode cX5_minute 14 = .ok (.iaload, 1) := by decide +kernel
theorem dX5_minute_15 : decode cX5_minute 15 = .ok (.iconst 1, 1) := by decide +kernel
theorem dX5_minute_16 : decode cX5_minute 16 = .ok (.iadd, 1) := by decide +kernel
theorem dX5_minute_17 : decode cX5_minute 17 = .ok (.iastore, 1) := by decide +kernel
theorem dX5_minute_18 : decode cX5_minute 18 = .ok (.iconst 0, 1) := by decide +kernel
theorem dX5_minute_19 : decode cX5_minute 19 = .ok (.istore_n 3, 1) := by decide +kernel
theorem dX5_minute_20 : decode cX5_minute 20 = .ok (.iload_n 3, 1) := by decide +kernel
theorem dX5_minute_21 : decode cX5_minute 21 = .ok (.aload_n 0, 1) := by decide +kernel
theorem dX5_minute_22 : decode cX5_minute 22 = .ok (.getfield 7, 3) := by decide +kernel
theorem dX5_minute_25 : decode cX5_minute 25 = .ok (.bipush 8, 2) := by decide +kernel
theorem dX5_minute_27 : decode cX5_minute 27 = .ok (.iaload, 1) := by decide +kernel
theorem dX5_minute_28 : decode cX5_minute 28 = .ok (.if_icmp .ge 82, 3) := by decide +kernel
theorem dX5_minute_31 : decode cX5_minute 31 = .ok (.aload_n 0, 1) := by decide +kernel
theorem dX5_minute_32 : decode cX5_minute 32 = .ok (.iload_n 3, 1) := by decide +kernel
theorem dX5_minute_33 : decode cX5_minute 33 = .ok (.invokevirtual 80, 3) := by decide +kernel
theorem dX5_minute_36 : decode cX5_minute 36 = .ok (.aload_n 0, 1) := by decide +kernel
theorem dX5_minute_37 : decode cX5_minute 37 = .ok (.invokevirtual 84, 3) := by decide +kernel
theorem dX5_minute_40 : decode cX5_minute 40 = .ok (.istore 4, 2) := by decide +kernel
theorem dX5_minute_42 : decode cX5_minute 42 = .ok (.aload_n 0, 1) := by decide +kernel
theorem dX5_minute_43 : decode cX5_minute 43 = .ok (.iload_n 3, 1) := by decide +kernel
theorem dX5_minute_44 : decode cX5_minute 44 = .ok (.iconst 2, 1) := by decide +kernel
theorem dX5_minute_45 : decode cX5_minute 45 = .ok (.aload_n 0, 1) := by decide +kernel
theorem dX5_minute_46 : decode cX5_minute 46 = .ok (.getfield 70, 3) := by decide +kernel
theorem dX5_minute_49 : decode cX5_minute 49 = .ok (.invokevirtual 56, 3) := by decide +kernel
theorem dX5_minute_52 : decode cX5_minute 52 = .ok (.aload_n 0, 1) := by decide +kernel
theorem dX5_minute_53 : decode cX5_minute 53 = .ok (.iload_n 3, 1) := by decide +kernel
theorem dX5_minute_54 : decode cX5_minute 54 = .ok (.iconst 5, 1) := by decide +kernel
theorem dX5_minute_55 : decode cX5_minute 55 = .ok (.aload_n 0, 1) := by decide +kernel
theorem dX5_minute_56 : decode cX5_minute 56 = .ok (.getfield 67, 3) := by decide +kernel
theorem dX5_minute_59 : decode cX5_minute 59 = .ok (.invokevirtual 56, 3) := by decide +kernel
theorem dX5_minute_62 : decode cX5_minute 62 = .ok (.aload_n 0, 1) := by decide +kernel
theorem dX5_minute_63 : decode cX5_minute 63 = .ok (.iload_n 3, 1) := by decide +kernel
theorem dX5_minute_64 : decode cX5_minute 64 = .ok (.iconst 3, 1) := by decide +kernel
theorem dX5_minute_65 : decode cX5_minute 65 = .ok (.aload_n 0, 1) := by decide +kernel
theorem dX5_minute_66 : decode cX5_minute 66 = .ok (.getfield 73, 3) := by decide +kernel
theorem dX5_minute_69 : decode cX5_minute 69 = .ok (.ifCond .eq 7, 3) := by decide +kernel
theorem dX5_minute_72 : decode cX5_minute 72 = .ok (.iconst 1, 1) := by decide +kernel
theorem dX5_minute_73 : decode cX5_minute 73 = .ok (.goto 4, 3) := by decide +kernel
theorem dX5_minute_76 : decode cX5_minute 76 = .ok (.iconst 0, 1) := by decide +kernel
theorem dX5_minute_77 : decode cX5_minute 77 = .ok (.invokevirtual 56, 3) := by decide +kernel
theorem dX5_minute_80 : decode cX5_minute 80 = .ok (.aload_n 0, 1) := by decide +kernel
theorem dX5_minute_81 : decode cX5_minute 81 = .ok (.iload_n 3, 1) := by decide +kernel
theorem dX5_minute_82 : decode cX5_minute 82 = .ok (.iconst 4, 1) := by decide +kernel
theorem dX5_minute_83 : decode cX5_minute 83 = .ok (.aload_n 0, 1) := by decide +kernel
theorem dX5_minute_84 : decode cX5_minute 84 = .ok (.getfield 77, 3) := by decide +kernel
theorem dX5_minute_87 : decode cX5_minute 87 = .ok (.invokevirtual 56, 3) := by decide +kernel
theorem dX5_minute_90 : decode cX5_minute 90 = .ok (.iload 4, 2) := by decide +kernel
theorem dX5_minute_92 : decode cX5_minute 92 = .ok (.ifCond .eq 12, 3) := by decide +kernel
theorem dX5_minute_95 : decode cX5_minute 95 = .ok (.aload_n 0, 1) := by decide +kernel
theorem dX5_minute_96 : decode cX5_minute 96 = .ok (.iconst 4, 1) := by decide +kernel
theorem dX5_minute_97 : decode cX5_minute 97 = .ok (.iload_n 3, 1) := by decide +kernel
theorem dX5_minute_98 : decode cX5_minute 98 = .ok (.invokevirtual 63, 3) := by decide +kernel
theorem dX5_minute_101 : decode cX5_minute 101 = .ok (.iinc 2 1, 3) := by decide +kernel
theorem dX5_minute_104 : decode cX5_minute 104 = .ok (.iinc 3 1, 3) := by decide +kernel
theorem dX5_minute_107 : decode cX5_minute 107 = .ok (.goto (-87), 3) := by decide +kernel
theorem dX5_minute_110 : decode cX5_minute 110 = .ok (.aload_n 0, 1) := by decide +kernel
theorem dX5_minute_111 : decode cX5_minute 111 = .ok (.getfield 7, 3) := by decide +kernel
theorem dX5_minute_114 : decode cX5_minute 114 = .ok (.bipush 9, 2) := by decide +kernel
theorem dX5_minute_116 : decode cX5_minute 116 = .ok (.dup2, 1) := by decide +kernel
theorem dX5_minute_117 : decode cX5_minute 117 = .ok (.iaload, 1) := by decide +kernel
theorem dX5_minute_118 : decode cX5_minute 118 = .ok (.aload_n 0, 1) := by decide +kernel
theorem dX5_minute_119 : decode cX5_minute 119 = .ok (.invokevirtual 52, 3) := by decide +kernel
theorem dX5_minute_122 : decode cX5_minute 122 = .ok (.iload_n 1, 1) := by decide +kernel
theorem dX5_minute_123 : decode cX5_minute 123 = .ok (.if_icmp .eq 7, 3) := by decide +kernel
theorem dX5_minute_126 : decode cX5_minute 126 = .ok (.iconst 1, 1) := by decide +kernel
theorem dX5_minute_127 : decode cX5_minute 127 = .ok (.goto 4, 3) := by decide +kernel
theorem dX5_minute_130 : decode cX5_minute 130 = .ok (.iconst 0, 1) := by decide +kernel
theorem dX5_minute_131 : decode cX5_minute 131 = .ok (.iadd, 1) := by decide +kernel
theorem dX5_minute_132 : decode cX5_minute 132 = .ok (.iastore, 1) := by decide +kernel
theorem dX5_minute_133 : decode cX5_minute 133 = .ok (.iload_n 2, 1) := by decide +kernel
theorem dX5_minute_134 : decode cX5_minute 134 = .ok (.ireturn, 1) := by decide +kernel
set_option maxRecDepth 20000 in
theorem ggX5_comes_X5_in : GoodIn wsX5_comes wsX5_in := goodIn_r _ [5] (by decide +kernel) (by decide +kernel)
set_option maxRecDepth 20000 in
theorem gX5_comes_X5_in : GoodIn wsX5_comes (va_wsS RX5 32 yX5_in wsX5_in) := goodIn_app (goodIn_of _ (by decide +kernel)) ggX5_comes_X5_in
set_option maxRecDepth 20000 in
theorem ggX5_comes_X5_taken : GoodIn wsX5_comes wsX5_taken := goodIn_r _ [9, 1, 10, 11, 12, 4, 13, 18, 19, 20, 21, 22, 23, 24, 25, 26, 27, 28, 29, 30, 31] (by decide +kernel) (by decide +kernel)
set_option maxRecDepth 20000 in
theorem gX5_comes_X5_taken : GoodIn wsX5_comes (wsV RX5 52 RX5 yX5_taken wsX5_taken) := goodIn_app (goodIn_of _ (by decide +kernel)) ggX5_comes_X5_taken
set_option maxRecDepth 20000 in
theorem ggX5_comes_X5_lay : GoodIn wsX5_comes wsX5_lay := goodIn_r _ [17, 1, 18, 19, 20, 21, 22, 23, 24, 25, 26, 27, 28, 29, 30, 31] (by decide +kernel) (by decide +kernel)
set_option maxRecDepth 20000 in
theorem gX5_comes_X5_lay : GoodIn wsX5_comes (wsV RX5 56 RX5 yX5_lay wsX5_lay) := goodIn_app (goodIn_of _ (by decide +kernel)) ggX5_comes_X5_lay
theorem dX5_comes_0 : decode cX5_comes 0 = .ok (.iload_n 1, 1) := by decide +kernel
theorem dX5_comes_1 : decode cX5_comes 1 = .ok (.i2l, 1) := by decide +kernel
theorem dX5_comes_2 : decode cX5_comes 2 = .ok (.iconst 0, 1) := by decide +kernel
theorem dX5_comes_3 : decode cX5_comes 3 = .ok (.sipush 999, 3) := by decide +kernel
theorem dX5_comes_6 : decode cX5_comes 6 = .ok (.invokestatic 32, 3) := by decide +kernel
theorem dX5_comes_9 : decode cX5_comes 9 = .ok (.ifCond .ne 6, 3) := by decide +kernel
theorem dX5_comes_12 : decode cX5_comes 12 = .ok (.bipush (-2), 2) := by decide +kernel
theorem dX5_comes_14 : decode cX5_comes 14 = .ok (.ireturn, 1) := by decide +kernel
theorem dX5_comes_15 : decode cX5_comes 15 = .ok (.aload_n 0, 1) := by decide +kernel
theorem dX5_comes_16 : decode cX5_comes 16 = .ok (.getfield 7, 3) := by decide +kernel
theorem dX5_comes_19 : decode cX5_comes 19 = .ok (.bipush 8, 2) := by decide +kernel
theorem dX5_comes_21 : decode cX5_comes 21 = .ok (.iaload, 1) := by decide +kernel
theorem dX5_comes_22 : decode cX5_comes 22 = .ok (.istore_n 2, 1) := by decide +kernel
theorem dX5_comes_23 : decode cX5_comes 23 = .ok (.iload_n 2, 1) := by decide +kernel
theorem dX5_comes_24 : decode cX5_comes 24 = .ok (.bipush 8, 2) := by decide +kernel
theorem dX5_comes_26 : decode cX5_comes 26 = .ok (.if_icmp .ne 6, 3) := by decide +kernel
theorem dX5_comes_29 : decode cX5_comes 29 = .ok (.bipush (-4), 2) := by decide +kernel
theorem dX5_comes_31 : decode cX5_comes 31 = .ok (.ireturn, 1) := by decide +kernel
theorem dX5_comes_32 : decode cX5_comes 32 = .ok (.aload_n 0, 1) := by decide +kernel
theorem dX5_comes_33 : decode cX5_comes 33 = .ok (.invokevirtual 52, 3) := by decide +kernel
theorem dX5_comes_36 : decode cX5_comes 36 = .ok (.istore_n 3, 1) := by decide +kernel
theorem dX5_comes_37 : decode cX5_comes 37 = .ok (.iconst 0, 1) := by decide +kernel
theorem dX5_comes_38 : decode cX5_comes 38 = .ok (.istore 4, 2) := by decide +kernel
theorem dX5_comes_40 : decode cX5_comes 40 = .ok (.iload 4, 2) := by decide +kernel
theorem dX5_comes_42 : decode cX5_comes 42 = .ok (.bipush 8, 2) := by decide +kernel
theorem dX5_comes_44 : decode cX5_comes 44 = .ok (.if_icmp .ge 36, 3) := by decide +kernel
theorem dX5_comes_47 : decode cX5_comes 47 = .ok (.aload_n 0, 1) := by decide +kernel
theorem dX5_comes_48 : decode cX5_comes 48 = .ok (.iload_n 2, 1) := by decide +kernel
theorem dX5_comes_49 : decode cX5_comes 49 = .ok (.iload 4, 2) := by decide +kernel
theorem dX5_comes_51 : decode cX5_comes 51 = .ok (.iload 4, 2) := by decide +kernel
theorem dX5_comes_53 : decode cX5_comes 53 = .ok (.ifCond .ne 7, 3) := by decide +kernel
theorem dX5_comes_56 : decode cX5_comes 56 = .ok (.iconst 1, 1) := by decide +kernel
theorem dX5_comes_57 : decode cX5_comes 57 = .ok (.goto 14, 3) := by decide +kernel
theorem dX5_comes_60 : decode cX5_comes 60 = .ok (.iload 4, 2) := by decide +kernel
theorem dX5_comes_62 : decode cX5_comes 62 = .ok (.iconst 1, 1) := by decide +kernel
theorem dX5_comes_63 : decode cX5_comes 63 = .ok (.if_icmp .ne 7, 3) := by decide +kernel
theorem dX5_comes_66 : decode cX5_comes 66 = .ok (.iload_n 1, 1) := by decide +kernel
theorem dX5_comes_67 : decode cX5_comes 67 = .ok (.goto 4, 3) := by decide +kernel
theorem dX5_comes_70 : decode cX5_comes 70 = .ok (.iconst 0, 1) := by decide +kernel
theorem dX5_comes_71 : decode cX5_comes 71 = .ok (.invokevirtual 56, 3) := by decide +kernel
theorem dX5_comes_74 : decode cX5_comes 74 = .ok (.iinc 4 1, 3) := by decide +kernel
theorem dX5_comes_77 : decode cX5_comes 77 = .ok (.goto (-37), 3) := by decide +kernel
theorem dX5_comes_80 : decode cX5_comes 80 = .ok (.aload_n 0, 1) := by decide +kernel
theorem dX5_comes_81 : decode cX5_comes 81 = .ok (.getfield 7, 3) := by decide +kernel
theorem dX5_comes_84 : decode cX5_comes 84 = .ok (.bipush 8, 2) := by decide +kernel
theorem dX5_comes_86 : decode cX5_comes 86 = .ok (.dup2, 1) := by decide +kernel
theorem dX5_comes_87 : decode cX5_comes 87 = .ok (.iaload, 1) := by decide +kernel
theorem dX5_comes_88 : decode cX5_comes 88 = .ok (.iconst 1, 1) := by decide +kernel
theorem dX5_comes_89 : decode cX5_comes 89 = .ok (.iadd, 1) := by decide +kernel
theorem dX5_comes_90 : decode cX5_comes 90 = .ok (.iastore, 1) := by decide +kernel
theorem dX5_comes_91 : decode cX5_comes 91 = .ok (.aload_n 0, 1) := by decide +kernel
theorem dX5_comes_92 : decode cX5_comes 92 = .ok (.getfield 7, 3) := by decide +kernel
theorem dX5_comes_95 : decode cX5_comes 95 = .ok (.bipush 9, 2) := by decide +kernel
theorem dX5_comes_97 : decode cX5_comes 97 = .ok (.dup2, 1) := by decide +kernel
theorem dX5_comes_98 : decode cX5_comes 98 = .ok (.iaload, 1) := by decide +kernel
theorem dX5_comes_99 : decode cX5_comes 99 = .ok (.aload_n 0, 1) := by decide +kernel
theorem dX5_comes_100 : decode cX5_comes 100 = .ok (.invokevirtual 52, 3) := by decide +kernel
theorem dX5_comes_103 : decode cX5_comes 103 = .ok (.iload_n 3, 1) := by decide +kernel
theorem dX5_comes_104 : decode cX5_comes 104 = .ok (.if_icmp .eq 7, 3) := by decide +kernel
theorem dX5_comes_107 : decode cX5_comes 107 = .ok (.iconst 1, 1) := by decide +kernel
theorem dX5_comes_108 : decode cX5_comes 108 = .ok (.goto 4, 3) := by decide +kernel
theorem dX5_comes_111 : decode cX5_comes 111 = .ok (.iconst 0, 1) := by decide +kernel
theorem dX5_comes_112 : decode cX5_comes 112 = .ok (.iadd, 1) := by decide +kernel
theorem dX5_comes_113 : decode cX5_comes 113 = .ok (.iastore, 1) := by decide +kernel
theorem dX5_comes_114 : decode cX5_comes 114 = .ok (.iload_n 2, 1) := by decide +kernel
theorem dX5_comes_115 : decode cX5_comes 115 = .ok (.ireturn, 1) := by decide +kernel
set_option maxRecDepth 20000 in
theorem ggX5_turns_X5_isLanding : GoodIn wsX5_turns wsX5_isLanding := goodIn_r _ [5, 6, 7, 8, 4, 9, 34, 35, 36, 37, 38, 39, 40, 41, 42, 43, 44, 45, 46, 47] (by decide +kernel) (by decide +kernel)
set_option maxRecDepth 20000 in
theorem gX5_turns_X5_isLanding : GoodIn wsX5_turns (wsV RX5 88 RX5 yX5_isLanding wsX5_isLanding) := goodIn_app (goodIn_of _ (by decide +kernel)) ggX5_turns_X5_isLanding
set_option maxRecDepth 20000 in
theorem ggX5_turns_X5_its : GoodIn wsX5_turns wsX5_its := goodIn_r _ [13, 6, 34, 35, 36, 37, 38, 39, 40, 41, 42, 43, 44, 45, 46, 47] (by decide +kernel) (by decide +kernel)
set_option maxRecDepth 20000 in
theorem gX5_turns_X5_its : GoodIn wsX5_turns (wsV RX5 47 RX5 yX5_its wsX5_its) := goodIn_app (goodIn_of _ (by decide +kernel)) ggX5_turns_X5_its
set_option maxRecDepth 20000 in
theorem ggX5_turns_X5_change : GoodIn wsX5_turns wsX5_change := goodIn_r _ [17, 6, 18, 19, 20, 4, 21, 10, 11, 12, 13, 22, 23, 24, 25, 26, 27, 28, 29, 30, 31, 32, 33, 34, 35, 36, 37, 38, 39, 40, 41, 42, 43, 44, 45, 46, 47] (by decide +kernel) (by decide +kernel)
set_option maxRecDepth 20000 in
theorem gX5_turns_X5_change : GoodIn wsX5_turns (wsV RX5 92 RX5 yX5_change wsX5_change) := goodIn_app (goodIn_of _ (by decide +kernel)) ggX5_turns_X5_change
theorem dX5_turns_0 : decode cX5_turns 0 = .ok (.aload_n 0, 1) := by decide +kernel
theorem dX5_turns_1 : decode cX5_turns 1 = .ok (.iload_n 1, 1) := by decide +kernel
theorem dX5_turns_2 : decode cX5_turns 2 = .ok (.invokevirtual 88, 3) := by decide +kernel
theorem dX5_turns_5 : decode cX5_turns 5 = .ok (.ifCond .ne 5, 3) := by decide +kernel
theorem dX5_turns_8 : decode cX5_turns 8 = .ok (.iconst (-1), 1) := by decide +kernel
theorem dX5_turns_9 : decode cX5_turns 9 = .ok (.ireturn, 1) := by decide +kernel
theorem dX5_turns_10 : decode cX5_turns 10 = .ok (.aload_n 0, 1) := by decide +kernel
theorem dX5_turns_11 : decode cX5_turns 11 = .ok (.iload_n 1, 1) := by decide +kernel
theorem dX5_turns_12 : decode cX5_turns 12 = .ok (.iconst 0, 1) := by decide +kernel
theorem dX5_turns_13 : decode cX5_turns 13 = .ok (.invokevirtual 47, 3) := by decide +kernel
theorem dX5_turns_16 : decode cX5_turns 16 = .ok (.iload_n 2, 1) := by decide +kernel
theorem dX5_turns_17 : decode cX5_turns 17 = .ok (.if_icmp .ne 8, 3) := by decide +kernel
theorem dX5_turns_20 : decode cX5_turns 20 = .ok (.bipush (-5), 2) := by decide +kernel
theorem dX5_turns_22 : decode cX5_turns 22 = .ok (.goto 20, 3) := by decide +kernel
theorem dX5_turns_25 : decode cX5_turns 25 = .ok (.aload_n 0, 1) := by decide +kernel
theorem dX5_turns_26 : decode cX5_turns 26 = .ok (.iload_n 1, 1) := by decide +kernel
theorem dX5_turns_27 : decode cX5_turns 27 = .ok (.iconst 0, 1) := by decide +kernel
theorem dX5_turns_28 : decode cX5_turns 28 = .ok (.iload_n 2, 1) := by decide +kernel
theorem dX5_turns_29 : decode cX5_turns 29 = .ok (.iload_n 2, 1) := by decide +kernel
theorem dX5_turns_30 : decode cX5_turns 30 = .ok (.iconst 1, 1) := by decide +kernel
theorem dX5_turns_31 : decode cX5_turns 31 = .ok (.if_icmp .ne 7, 3) := by decide +kernel
theorem dX5_turns_34 : decode cX5_turns 34 = .ok (.iconst 1, 1) := by decide +kernel
theorem dX5_turns_35 : decode cX5_turns 35 = .ok (.goto 4, 3) := by decide +kernel
theorem dX5_turns_38 : decode cX5_turns 38 = .ok (.iconst 0, 1) := by decide +kernel
theorem dX5_turns_39 : decode cX5_turns 39 = .ok (.invokevirtual 92, 3) := by decide +kernel
theorem dX5_turns_42 : decode cX5_turns 42 = .ok (.ireturn, 1) := by decide +kernel
set_option maxRecDepth 20000 in
theorem ggX5_costs_X5_isLanding : GoodIn wsX5_costs wsX5_isLanding := goodIn_r _ [5, 6, 7, 8, 4, 9, 34, 35, 36, 37, 38, 39, 40, 41, 42, 43, 44, 45, 46, 47] (by decide +kernel) (by decide +kernel)
set_option maxRecDepth 20000 in
theorem gX5_costs_X5_isLanding : GoodIn wsX5_costs (wsV RX5 88 RX5 yX5_isLanding wsX5_isLanding) := goodIn_app (goodIn_of _ (by decide +kernel)) ggX5_costs_X5_isLanding
set_option maxRecDepth 20000 in
theorem ggX5_costs_X5_in : GoodIn wsX5_costs wsX5_in := goodIn_r _ [9] (by decide +kernel) (by decide +kernel)
set_option maxRecDepth 20000 in
theorem gX5_costs_X5_in : GoodIn wsX5_costs (va_wsS RX5 32 yX5_in wsX5_in) := goodIn_app (goodIn_of _ (by decide +kernel)) ggX5_costs_X5_in
set_option maxRecDepth 20000 in
theorem ggX5_costs_X5_its : GoodIn wsX5_costs wsX5_its := goodIn_r _ [13, 6, 34, 35, 36, 37, 38, 39, 40, 41, 42, 43, 44, 45, 46, 47] (by decide +kernel) (by decide +kernel)
set_option maxRecDepth 20000 in
theorem gX5_costs_X5_its : GoodIn wsX5_costs (wsV RX5 47 RX5 yX5_its wsX5_its) := goodIn_app (goodIn_of _ (by decide +kernel)) ggX5_costs_X5_its
set_option maxRecDepth 20000 in
theorem ggX5_costs_X5_change : GoodIn wsX5_costs wsX5_change := goodIn_r _ [17, 6, 18, 19, 20, 4, 21, 10, 11, 12, 13, 22, 23, 24, 25, 26, 27, 28, 29, 30, 31, 32, 33, 34, 35, 36, 37, 38, 39, 40, 41, 42, 43, 44, 45, 46, 47] (by decide +kernel) (by decide +kernel)
set_option maxRecDepth 20000 in
theorem gX5_costs_X5_change : GoodIn wsX5_costs (wsV RX5 92 RX5 yX5_change wsX5_change) := goodIn_app (goodIn_of _ (by decide +kernel)) ggX5_costs_X5_change
theorem dX5_costs_0 : decode cX5_costs 0 = .ok (.aload_n 0, 1) := by decide +kernel
theorem dX5_costs_1 : decode cX5_costs 1 = .ok (.iload_n 1, 1) := by decide +kernel
theorem dX5_costs_2 : decode cX5_costs 2 = .ok (.invokevirtual 88, 3) := by decide +kernel
theorem dX5_costs_5 : decode cX5_costs 5 = .ok (.ifCond .ne 5, 3) := by decide +kernel
theorem dX5_costs_8 : decode cX5_costs 8 = .ok (.iconst (-1), 1) := by decide +kernel
theorem dX5_costs_9 : decode cX5_costs 9 = .ok (.ireturn, 1) := by decide +kernel
theorem dX5_costs_10 : decode cX5_costs 10 = .ok (.iload_n 2, 1) := by decide +kernel
theorem dX5_costs_11 : decode cX5_costs 11 = .ok (.i2l, 1) := by decide +kernel
theorem dX5_costs_12 : decode cX5_costs 12 = .ok (.iconst 0, 1) := by decide +kernel
theorem dX5_costs_13 : decode cX5_costs 13 = .ok (.sipush 999, 3) := by decide +kernel
theorem dX5_costs_16 : decode cX5_costs 16 = .ok (.invokestatic 32, 3) := by decide +kernel
theorem dX5_costs_19 : decode cX5_costs 19 = .ok (.ifCond .ne 6, 3) := by decide +kernel
theorem dX5_costs_22 : decode cX5_costs 22 = .ok (.bipush (-2), 2) := by decide +kernel
theorem dX5_costs_24 : decode cX5_costs 24 = .ok (.ireturn, 1) := by decide +kernel
theorem dX5_costs_25 : decode cX5_costs 25 = .ok (.aload_n 0, 1) := by decide +kernel
theorem dX5_costs_26 : decode cX5_costs 26 = .ok (.iload_n 1, 1) := by decide +kernel
theorem dX5_costs_27 : decode cX5_costs 27 = .ok (.iconst 1, 1) := by decide +kernel
theorem dX5_costs_28 : decode cX5_costs 28 = .ok (.invokevirtual 47, 3) := by decide +kernel
theorem dX5_costs_31 : decode cX5_costs 31 = .ok (.iload_n 2, 1) := by decide +kernel
theorem dX5_costs_32 : decode cX5_costs 32 = .ok (.if_icmp .ne 8, 3) := by decide +kernel
theorem dX5_costs_35 : decode cX5_costs 35 = .ok (.bipush (-5), 2) := by decide +kernel
theorem dX5_costs_37 : decode cX5_costs 37 = .ok (.goto 11, 3) := by decide +kernel
theorem dX5_costs_40 : decode cX5_costs 40 = .ok (.aload_n 0, 1) := by decide +kernel
theorem dX5_costs_41 : decode cX5_costs 41 = .ok (.iload_n 1, 1) := by decide +kernel
theorem dX5_costs_42 : decode cX5_costs 42 = .ok (.iconst 1, 1) := by decide +kernel
theorem dX5_costs_43 : decode cX5_costs 43 = .ok (.iload_n 2, 1) := by decide +kernel
theorem dX5_costs_44 : decode cX5_costs 44 = .ok (.iconst 2, 1) := by decide +kernel
theorem dX5_costs_45 : decode cX5_costs 45 = .ok (.invokevirtual 92, 3) := by decide +kernel
theorem dX5_costs_48 : decode cX5_costs 48 = .ok (.ireturn, 1) := by decide +kernel
set_option maxRecDepth 20000 in
theorem ggX5_waits_X5_in : GoodIn wsX5_waits wsX5_in := goodIn_r _ [6] (by decide +kernel) (by decide +kernel)
set_option maxRecDepth 20000 in
theorem gX5_waits_X5_in : GoodIn wsX5_waits (va_wsS RX5 32 yX5_in wsX5_in) := goodIn_app (goodIn_of _ (by decide +kernel)) ggX5_waits_X5_in
set_option maxRecDepth 20000 in
theorem ggX5_waits_X5_minute : GoodIn wsX5_waits wsX5_minute := goodIn_r _ [10, 1, 11, 12, 13, 14, 15, 16, 17, 5, 18, 19, 20, 21, 22, 23, 24, 25, 26, 27, 28, 29, 30, 31, 32, 33, 34, 35, 36, 37, 38, 39, 40, 41, 42, 43, 44, 45, 46, 47, 48, 49, 50, 51, 52] (by decide +kernel) (by decide +kernel)
set_option maxRecDepth 20000 in
theorem gX5_waits_X5_minute : GoodIn wsX5_waits (wsV RX5 96 RX5 yX5_minute wsX5_minute) := goodIn_app (goodIn_of _ (by decide +kernel)) ggX5_waits_X5_minute
theorem dX5_waits_0 : decode cX5_waits 0 = .ok (.iload_n 1, 1) := by decide +kernel
theorem dX5_waits_1 : decode cX5_waits 1 = .ok (.i2l, 1) := by decide +kernel
theorem dX5_waits_2 : decode cX5_waits 2 = .ok (.iconst 1, 1) := by decide +kernel
theorem dX5_waits_3 : decode cX5_waits 3 = .ok (.sipush 999, 3) := by decide +kernel
theorem dX5_waits_6 : decode cX5_waits 6 = .ok (.invokestatic 32, 3) := by decide +kernel
theorem dX5_waits_9 : decode cX5_waits 9 = .ok (.ifCond .ne 6, 3) := by decide +kernel
theorem dX5_waits_12 : decode cX5_waits 12 = .ok (.bipush (-2), 2) := by decide +kernel
theorem dX5_waits_14 : decode cX5_waits 14 = .ok (.ireturn, 1) := by decide +kernel
theorem dX5_waits_15 : decode cX5_waits 15 = .ok (.aload_n 0, 1) := by decide +kernel
theorem dX5_waits_16 : decode cX5_waits 16 = .ok (.getfield 7, 3) := by decide +kernel
theorem dX5_waits_19 : decode cX5_waits 19 = .ok (.bipush 7, 2) := by decide +kernel
theorem dX5_waits_21 : decode cX5_waits 21 = .ok (.iaload, 1) := by decide +kernel
theorem dX5_waits_22 : decode cX5_waits 22 = .ok (.iload_n 1, 1) := by decide +kernel
theorem dX5_waits_23 : decode cX5_waits 23 = .ok (.iadd, 1) := by decide +kernel
theorem dX5_waits_24 : decode cX5_waits 24 = .ok (.ldc 51, 2) := by decide +kernel
theorem dX5_waits_26 : decode cX5_waits 26 = .ok (.if_icmp .le 6, 3) := by decide +kernel
theorem dX5_waits_29 : decode cX5_waits 29 = .ok (.bipush (-5), 2) := by decide +kernel
theorem dX5_waits_31 : decode cX5_waits 31 = .ok (.ireturn, 1) := by decide +kernel
theorem dX5_waits_32 : decode cX5_waits 32 = .ok (.iconst 0, 1) := by decide +kernel
theorem dX5_waits_33 : decode cX5_waits 33 = .ok (.istore_n 2, 1) := by decide +kernel
theorem dX5_waits_34 : decode cX5_waits 34 = .ok (.iconst 0, 1) := by decide +kernel
theorem dX5_waits_35 : decode cX5_waits 35 = .ok (.istore_n 3, 1) := by decide +kernel
theorem dX5_waits_36 : decode cX5_waits 36 = .ok (.iload_n 3, 1) := by decide +kernel
theorem dX5_waits_37 : decode cX5_waits 37 = .ok (.iload_n 1, 1) := by decide +kernel
theorem dX5_waits_38 : decode cX5_waits 38 = .ok (.if_icmp .ge 16, 3) := by decide +kernel
theorem dX5_waits_41 : decode cX5_waits 41 = .ok (.iload_n 2, 1) := by decide +kernel
theorem dX5_waits_42 : decode cX5_waits 42 = .ok (.aload_n 0, 1) := by decide +kernel
theorem dX5_waits_43 : decode cX5_waits 43 = .ok (.invokevirtual 96, 3) := by decide +kernel
theorem dX5_waits_46 : decode cX5_waits 46 = .ok (.iadd, 1) := by decide +kernel
theorem dX5_waits_47 : decode cX5_waits 47 = .ok (.istore_n 2, 1) := by decide +kernel
theorem dX5_waits_48 : decode cX5_waits 48 = .ok (.iinc 3 1, 3) := by decide +kernel
theorem dX5_waits_51 : decode cX5_waits 51 = .ok (.goto (-15), 3) := by decide +kernel
theorem dX5_waits_54 : decode cX5_waits 54 = .ok (.iload_n 2, 1) := by decide +kernel
theorem dX5_waits_55 : decode cX5_waits 55 = .ok (.ireturn, 1) := by decide +kernel
set_option maxRecDepth 20000 in
theorem ggX5_set_X5_in : GoodIn wsX5_set wsX5_in := goodIn_r _ [6] (by decide +kernel) (by decide +kernel)
set_option maxRecDepth 20000 in
theorem gX5_set_X5_in : GoodIn wsX5_set (va_wsS RX5 32 yX5_in wsX5_in) := goodIn_app (goodIn_of _ (by decide +kernel)) ggX5_set_X5_in
set_option maxRecDepth 20000 in
theorem ggX5_set_X5_remember : GoodIn wsX5_set wsX5_remember := goodIn_r _ [10, 11, 2, 18, 19, 20, 21, 22, 23, 24, 25, 26, 27, 28, 29, 30, 31] (by decide +kernel) (by decide +kernel)
set_option maxRecDepth 20000 in
theorem gX5_set_X5_remember : GoodIn wsX5_set (wsV RX5 40 RX5 yX5_remember wsX5_remember) := goodIn_app (goodIn_of _ (by decide +kernel)) ggX5_set_X5_remember
set_option maxRecDepth 20000 in
theorem ggX5_set_X5_record : GoodIn wsX5_set wsX5_record := goodIn_r _ [15, 16, 17, 11, 18, 19, 20, 21, 22, 23, 24, 25, 26, 27, 28, 29, 30, 31] (by decide +kernel) (by decide +kernel)
set_option maxRecDepth 20000 in
theorem gX5_set_X5_record : GoodIn wsX5_set (wsV RX5 43 RX5 yX5_record wsX5_record) := goodIn_app (goodIn_of _ (by decide +kernel)) ggX5_set_X5_record
theorem dX5_set_0 : decode cX5_set 0 = .ok (.iload_n 1, 1) := by decide +kernel
theorem dX5_set_1 : decode cX5_set 1 = .ok (.i2l, 1) := by decide +kernel
theorem dX5_set_2 : decode cX5_set 2 = .ok (.iconst 0, 1) := by decide +kernel
theorem dX5_set_3 : decode cX5_set 3 = .ok (.bipush 6, 2) := by decide +kernel
theorem dX5_set_5 : decode cX5_set 5 = .ok (.invokestatic 32, 3) := by decide +kernel
theorem dX5_set_8 : decode cX5_set 8 = .ok (.ifCond .ne 6, 3) := by decide +kernel
theorem dX5_set_11 : decode cX5_set 11 = .ok (.bipush (-2), 2) := by decide +kernel
theorem dX5_set_13 : decode cX5_set 13 = .ok (.ireturn, 1) := by decide +kernel
theorem dX5_set_14 : decode cX5_set 14 = .ok (.iload_n 1, 1) := by decide +kernel
theorem dX5_set_15 : decode cX5_set 15 = .ok (.iconst 3, 1) := by decide +kernel
theorem dX5_set_16 : decode cX5_set 16 = .ok (.if_icmp .ge 7, 3) := by decide +kernel
theorem dX5_set_19 : decode cX5_set 19 = .ok (.iconst 0, 1) := by decide +kernel
theorem dX5_set_20 : decode cX5_set 20 = .ok (.goto 4, 3) := by decide +kernel
theorem dX5_set_23 : decode cX5_set 23 = .ok (.iconst 1, 1) := by decide +kernel
theorem dX5_set_24 : decode cX5_set 24 = .ok (.istore_n 3, 1) := by decide +kernel
theorem dX5_set_25 : decode cX5_set 25 = .ok (.iload_n 1, 1) := by decide +kernel
theorem dX5_set_26 : decode cX5_set 26 = .ok (.iconst 3, 1) := by decide +kernel
theorem dX5_set_27 : decode cX5_set 27 = .ok (.if_icmp .ge 9, 3) := by decide +kernel
theorem dX5_set_30 : decode cX5_set 30 = .ok (.sipush 9999, 3) := by decide +kernel
theorem dX5_set_33 : decode cX5_set 33 = .ok (.goto 27, 3) := by decide +kernel
theorem dX5_set_36 : decode cX5_set 36 = .ok (.iload_n 1, 1) := by decide +kernel
theorem dX5_set_37 : decode cX5_set 37 = .ok (.iconst 3, 1) := by decide +kernel
theorem dX5_set_38 : decode cX5_set 38 = .ok (.if_icmp .ne 8, 3) := by decide +kernel
theorem dX5_set_41 : decode cX5_set 41 = .ok (.bipush 99, 2) := by decide +kernel
theorem dX5_set_43 : decode cX5_set 43 = .ok (.goto 17, 3) := by decide +kernel
theorem dX5_set_46 : decode cX5_set 46 = .ok (.iload_n 1, 1) := by decide +kernel
theorem dX5_set_47 : decode cX5_set 47 = .ok (.bipush 6, 2) := by decide +kernel
theorem dX5_set_49 : decode cX5_set 49 = .ok (.if_icmp .ne 9, 3) := by decide +kernel
theorem dX5_set_52 : decode cX5_set 52 = .ok (.sipush 999, 3) := by decide +kernel
theorem dX5_set_55 : decode cX5_set 55 = .ok (.goto 5, 3) := by decide +kernel
theorem dX5_set_58 : decode cX5_set 58 = .ok (.ldc 51, 2) := by decide +kernel
theorem dX5_set_60 : decode cX5_set 60 = .ok (.istore 4, 2) := by decide +kernel
theorem dX5_set_62 : decode cX5_set 62 = .ok (.iload_n 2, 1) := by decide +kernel
theorem dX5_set_63 : decode cX5_set 63 = .ok (.i2l, 1) := by decide +kernel
theorem dX5_set_64 : decode cX5_set 64 = .ok (.iload_n 3, 1) := by decide +kernel
theorem dX5_set_65 : decode cX5_set 65 = .ok (.iload 4, 2) := by decide +kernel
theorem dX5_set_67 : decode cX5_set 67 = .ok (.invokestatic 32, 3) := by decide +kernel
theorem dX5_set_70 : decode cX5_set 70 = .ok (.ifCond .ne 6, 3) := by decide +kernel
theorem dX5_set_73 : decode cX5_set 73 = .ok (.bipush (-2), 2) := by decide +kernel
theorem dX5_set_75 : decode cX5_set 75 = .ok (.ireturn, 1) := by decide +kernel
theorem dX5_set_76 : decode cX5_set 76 = .ok (.aload_n 0, 1) := by decide +kernel
theorem dX5_set_77 : decode cX5_set 77 = .ok (.invokevirtual 40, 3) := by decide +kernel
theorem dX5_set_80 : decode cX5_set 80 = .ok (.aload_n 0, 1) := by decide +kernel
theorem dX5_set_81 : decode cX5_set 81 = .ok (.getfield 7, 3) := by decide +kernel
theorem dX5_set_84 : decode cX5_set 84 = .ok (.iload_n 1, 1) := by decide +kernel
theorem dX5_set_85 : decode cX5_set 85 = .ok (.iaload, 1) := by decide +kernel
theorem dX5_set_86 : decode cX5_set 86 = .ok (.istore 5, 2) := by decide +kernel
theorem dX5_set_88 : decode cX5_set 88 = .ok (.aload_n 0, 1) := by decide +kernel
theorem dX5_set_89 : decode cX5_set 89 = .ok (.getfield 7, 3) := by decide +kernel
theorem dX5_set_92 : decode cX5_set 92 = .ok (.iload_n 1, 1) := by decide +kernel
theorem dX5_set_93 : decode cX5_set 93 = .ok (.iload_n 2, 1) := by decide +kernel
theorem dX5_set_94 : decode cX5_set 94 = .ok (.iastore, 1) := by decide +kernel
theorem dX5_set_95 : decode cX5_set 95 = .ok (.aload_n 0, 1) := by decide +kernel
theorem dX5_set_96 : decode cX5_set 96 = .ok (.iload 5, 2) := by decide +kernel
theorem dX5_set_98 : decode cX5_set 98 = .ok (.invokevirtual 43, 3) := by decide +kernel
theorem dX5_set_101 : decode cX5_set 101 = .ok (.ireturn, 1) := by decide +kernel
set_option maxRecDepth 20000 in
theorem ggX5_landing_X5_remember : GoodIn wsX5_landing wsX5_remember := goodIn_r _ [5, 6, 7, 33, 34, 35, 36, 37, 38, 39, 40, 41, 42, 43, 44, 45, 46] (by decide +kernel) (by decide +kernel)
set_option maxRecDepth 20000 in
theorem gX5_landing_X5_remember : GoodIn wsX5_landing (wsV RX5 40 RX5 yX5_remember wsX5_remember) := goodIn_app (goodIn_of _ (by decide +kernel)) ggX5_landing_X5_remember
set_option maxRecDepth 20000 in
theorem ggX5_landing_X5_comes : GoodIn wsX5_landing wsX5_comes := goodIn_r _ [11, 7, 12, 13, 4, 14, 15, 16, 17, 18, 19, 20, 21, 22, 23, 24, 25, 26, 33, 34, 35, 36, 37, 38, 39, 40, 41, 42, 43, 44, 45, 46] (by decide +kernel) (by decide +kernel)
set_option maxRecDepth 20000 in
theorem gX5_landing_X5_comes : GoodIn wsX5_landing (wsV RX5 99 RX5 yX5_comes wsX5_comes) := goodIn_app (goodIn_of _ (by decide +kernel)) ggX5_landing_X5_comes
set_option maxRecDepth 20000 in
theorem ggX5_landing_X5_record : GoodIn wsX5_landing wsX5_record := goodIn_r _ [30, 31, 32, 6, 33, 34, 35, 36, 37, 38, 39, 40, 41, 42, 43, 44, 45, 46] (by decide +kernel) (by decide +kernel)
set_option maxRecDepth 20000 in
theorem gX5_landing_X5_record : GoodIn wsX5_landing (wsV RX5 43 RX5 yX5_record wsX5_record) := goodIn_app (goodIn_of _ (by decide +kernel)) ggX5_landing_X5_record
theorem dX5_landing_0 : decode cX5_landing 0 = .ok (.aload_n 0, 1) := by decide +kernel
theorem dX5_landing_1 : decode cX5_landing 1 = .ok (.invokevirtual 40, 3) := by decide +kernel
theorem dX5_landing_4 : decode cX5_landing 4 = .ok (.aload_n 0, 1) := by decide +kernel
theorem dX5_landing_5 : decode cX5_landing 5 = .ok (.aload_n 0, 1) := by decide +kernel
theorem dX5_landing_6 : decode cX5_landing 6 = .ok (.iload_n 1, 1) := by decide +kernel
theorem dX5_landing_7 : decode cX5_landing 7 = .ok (.invokevirtual 99, 3) := by decide +kernel
theorem dX5_landing_10 : decode cX5_landing 10 = .ok (.invokevirtual 43, 3) := by decide +kernel
theorem dX5_landing_13 : decode cX5_landing 13 = .ok (.ireturn, 1) := by decide +kernel
set_option maxRecDepth 20000 in
theorem ggX5_open_X5_remember : GoodIn wsX5_open wsX5_remember := goodIn_r _ [5, 6, 7, 49, 50, 51, 52, 53, 54, 55, 56, 57, 58, 59, 60, 61, 62] (by decide +kernel) (by decide +kernel)
set_option maxRecDepth 20000 in
theorem gX5_open_X5_remember : GoodIn wsX5_open (wsV RX5 40 RX5 yX5_remember wsX5_remember) := goodIn_app (goodIn_of _ (by decide +kernel)) ggX5_open_X5_remember
set_option maxRecDepth 20000 in
theorem ggX5_open_X5_turns : GoodIn wsX5_open wsX5_turns := goodIn_r _ [11, 12, 13, 14, 4, 15, 7, 16, 17, 18, 19, 20, 21, 22, 23, 24, 25, 26, 27, 28, 29, 30, 31, 32, 33, 34, 35, 36, 37, 38, 39, 40, 41, 42, 49, 50, 51, 52, 53, 54, 55, 56, 57, 58, 59, 60, 61, 62] (by decide +kernel) (by decide +kernel)
set_option maxRecDepth 20000 in
theorem gX5_open_X5_turns : GoodIn wsX5_open (wsV RX5 102 RX5 yX5_turns wsX5_turns) := goodIn_app (goodIn_of _ (by decide +kernel)) ggX5_open_X5_turns
set_option maxRecDepth 20000 in
theorem ggX5_open_X5_record : GoodIn wsX5_open wsX5_record := goodIn_r _ [46, 47, 48, 6, 49, 50, 51, 52, 53, 54, 55, 56, 57, 58, 59, 60, 61, 62] (by decide +kernel) (by decide +kernel)
set_option maxRecDepth 20000 in
theorem gX5_open_X5_record : GoodIn wsX5_open (wsV RX5 43 RX5 yX5_record wsX5_record) := goodIn_app (goodIn_of _ (by decide +kernel)) ggX5_open_X5_record
theorem dX5_open_0 : decode cX5_open 0 = .ok (.aload_n 0, 1) := by decide +kernel
theorem dX5_open_1 : decode cX5_open 1 = .ok (.invokevirtual 40, 3) := by decide +kernel
theorem dX5_open_4 : decode cX5_open 4 = .ok (.aload_n 0, 1) := by decide +kernel
theorem dX5_open_5 : decode cX5_open 5 = .ok (.aload_n 0, 1) := by decide +kernel
theorem dX5_open_6 : decode cX5_open 6 = .ok (.iload_n 1, 1) := by decide +kernel
theorem dX5_open_7 : decode cX5_open 7 = .ok (.iconst 1, 1) := by decide +kernel
theorem dX5_open_8 : decode cX5_open 8 = .ok (.invokevirtual 102, 3) := by decide +kernel
theorem dX5_open_11 : decode cX5_open 11 = .ok (.invokevirtual 43, 3) := by decide +kernel
theorem dX5_open_14 : decode cX5_open 14 = .ok (.ireturn, 1) := by decide +kernel
set_option maxRecDepth 20000 in
theorem ggX5_close_X5_remember : GoodIn wsX5_close wsX5_remember := goodIn_r _ [5, 6, 7, 49, 50, 51, 52, 53, 54, 55, 56, 57, 58, 59, 60, 61, 62] (by decide +kernel) (by decide +kernel)
set_option maxRecDepth 20000 in
theorem gX5_close_X5_remember : GoodIn wsX5_close (wsV RX5 40 RX5 yX5_remember wsX5_remember) := goodIn_app (goodIn_of _ (by decide +kernel)) ggX5_close_X5_remember
set_option maxRecDepth 20000 in
theorem ggX5_close_X5_turns : GoodIn wsX5_close wsX5_turns := goodIn_r _ [11, 12, 13, 14, 4, 15, 7, 16, 17, 18, 19, 20, 21, 22, 23, 24, 25, 26, 27, 28, 29, 30, 31, 32, 33, 34, 35, 36, 37, 38, 39, 40, 41, 42, 49, 50, 51, 52, 53, 54, 55, 56, 57, 58, 59, 60, 61, 62] (by decide +kernel) (by decide +kernel)
set_option maxRecDepth 20000 in
theorem gX5_close_X5_turns : GoodIn wsX5_close (wsV RX5 102 RX5 yX5_turns wsX5_turns) := goodIn_app (goodIn_of _ (by decide +kernel)) ggX5_close_X5_turns
set_option maxRecDepth 20000 in
theorem ggX5_close_X5_record : GoodIn wsX5_close wsX5_record := goodIn_r _ [46, 47, 48, 6, 49, 50, 51, 52, 53, 54, 55, 56, 57, 58, 59, 60, 61, 62] (by decide +kernel) (by decide +kernel)
set_option maxRecDepth 20000 in
theorem gX5_close_X5_record : GoodIn wsX5_close (wsV RX5 43 RX5 yX5_record wsX5_record) := goodIn_app (goodIn_of _ (by decide +kernel)) ggX5_close_X5_record
theorem dX5_close_0 : decode cX5_close 0 = .ok (.aload_n 0, 1) := by decide +kernel
theorem dX5_close_1 : decode cX5_close 1 = .ok (.invokevirtual 40, 3) := by decide +kernel
theorem dX5_close_4 : decode cX5_close 4 = .ok (.aload_n 0, 1) := by decide +kernel
theorem dX5_close_5 : decode cX5_close 5 = .ok (.aload_n 0, 1) := by decide +kernel
theorem dX5_close_6 : decode cX5_close 6 = .ok (.iload_n 1, 1) := by decide +kernel
theorem dX5_close_7 : decode cX5_close 7 = .ok (.iconst 0, 1) := by decide +kernel
theorem dX5_close_8 : decode cX5_close 8 = .ok (.invokevirtual 102, 3) := by decide +kernel
theorem dX5_close_11 : decode cX5_close 11 = .ok (.invokevirtual 43, 3) := by decide +kernel
theorem dX5_close_14 : decode cX5_close 14 = .ok (.ireturn, 1) := by decide +kernel
set_option maxRecDepth 20000 in
theorem ggX5_price_X5_remember : GoodIn wsX5_price wsX5_remember := goodIn_r _ [5, 6, 7, 49, 50, 51, 52, 53, 54, 55, 56, 57, 58, 59, 60, 61, 62] (by decide +kernel) (by decide +kernel)
set_option maxRecDepth 20000 in
theorem gX5_price_X5_remember : GoodIn wsX5_price (wsV RX5 40 RX5 yX5_remember wsX5_remember) := goodIn_app (goodIn_of _ (by decide +kernel)) ggX5_price_X5_remember
set_option maxRecDepth 20000 in
theorem ggX5_price_X5_costs : GoodIn wsX5_price wsX5_costs := goodIn_r _ [11, 12, 13, 14, 4, 15, 7, 16, 17, 18, 19, 20, 21, 22, 23, 24, 25, 26, 27, 28, 29, 30, 31, 32, 33, 34, 35, 36, 37, 38, 39, 40, 41, 42, 49, 50, 51, 52, 53, 54, 55, 56, 57, 58, 59, 60, 61, 62] (by decide +kernel) (by decide +kernel)
set_option maxRecDepth 20000 in
theorem gX5_price_X5_costs : GoodIn wsX5_price (wsV RX5 105 RX5 yX5_costs wsX5_costs) := goodIn_app (goodIn_of _ (by decide +kernel)) ggX5_price_X5_costs
set_option maxRecDepth 20000 in
theorem ggX5_price_X5_record : GoodIn wsX5_price wsX5_record := goodIn_r _ [46, 47, 48, 6, 49, 50, 51, 52, 53, 54, 55, 56, 57, 58, 59, 60, 61, 62] (by decide +kernel) (by decide +kernel)
set_option maxRecDepth 20000 in
theorem gX5_price_X5_record : GoodIn wsX5_price (wsV RX5 43 RX5 yX5_record wsX5_record) := goodIn_app (goodIn_of _ (by decide +kernel)) ggX5_price_X5_record
theorem dX5_price_0 : decode cX5_price 0 = .ok (.aload_n 0, 1) := by decide +kernel
theorem dX5_price_1 : decode cX5_price 1 = .ok (.invokevirtual 40, 3) := by decide +kernel
theorem dX5_price_4 : decode cX5_price 4 = .ok (.aload_n 0, 1) := by decide +kernel
theorem dX5_price_5 : decode cX5_price 5 = .ok (.aload_n 0, 1) := by decide +kernel
theorem dX5_price_6 : decode cX5_price 6 = .ok (.iload_n 1, 1) := by decide +kernel
theorem dX5_price_7 : decode cX5_price 7 = .ok (.iload_n 2, 1) := by decide +kernel
theorem dX5_price_8 : decode cX5_price 8 = .ok (.invokevirtual 105, 3) := by decide +kernel
theorem dX5_price_11 : decode cX5_price 11 = .ok (.invokevirtual 43, 3) := by decide +kernel
theorem dX5_price_14 : decode cX5_price 14 = .ok (.ireturn, 1) := by decide +kernel
set_option maxRecDepth 20000 in
theorem ggX5_pass_X5_remember : GoodIn wsX5_pass wsX5_remember := goodIn_r _ [5, 6, 7, 54, 55, 56, 57, 58, 59, 60, 61, 62, 63, 64, 65, 66, 67] (by decide +kernel) (by decide +kernel)
set_option maxRecDepth 20000 in
theorem gX5_pass_X5_remember : GoodIn wsX5_pass (wsV RX5 40 RX5 yX5_remember wsX5_remember) := goodIn_app (goodIn_of _ (by decide +kernel)) ggX5_pass_X5_remember
set_option maxRecDepth 20000 in
theorem ggX5_pass_X5_waits : GoodIn wsX5_pass wsX5_waits := goodIn_r _ [11, 7, 12, 13, 14, 4, 15, 16, 17, 18, 19, 20, 21, 22, 23, 24, 25, 26, 27, 28, 29, 30, 31, 32, 33, 34, 35, 36, 37, 38, 39, 40, 41, 42, 43, 44, 45, 46, 47, 54, 55, 56, 57, 58, 59, 60, 61, 62, 63, 64, 65, 66, 67] (by decide +kernel) (by decide +kernel)
set_option maxRecDepth 20000 in
theorem gX5_pass_X5_waits : GoodIn wsX5_pass (wsV RX5 108 RX5 yX5_waits wsX5_waits) := goodIn_app (goodIn_of _ (by decide +kernel)) ggX5_pass_X5_waits
set_option maxRecDepth 20000 in
theorem ggX5_pass_X5_record : GoodIn wsX5_pass wsX5_record := goodIn_r _ [51, 52, 53, 6, 54, 55, 56, 57, 58, 59, 60, 61, 62, 63, 64, 65, 66, 67] (by decide +kernel) (by decide +kernel)
set_option maxRecDepth 20000 in
theorem gX5_pass_X5_record : GoodIn wsX5_pass (wsV RX5 43 RX5 yX5_record wsX5_record) := goodIn_app (goodIn_of _ (by decide +kernel)) ggX5_pass_X5_record
theorem dX5_pass_0 : decode cX5_pass 0 = .ok (.aload_n 0, 1) := by decide +kernel
theorem dX5_pass_1 : decode cX5_pass 1 = .ok (.invokevirtual 40, 3) := by decide +kernel
theorem dX5_pass_4 : decode cX5_pass 4 = .ok (.aload_n 0, 1) := by decide +kernel
theorem dX5_pass_5 : decode cX5_pass 5 = .ok (.aload_n 0, 1) := by decide +kernel
theorem dX5_pass_6 : decode cX5_pass 6 = .ok (.iload_n 1, 1) := by decide +kernel
theorem dX5_pass_7 : decode cX5_pass 7 = .ok (.invokevirtual 108, 3) := by decide +kernel
theorem dX5_pass_10 : decode cX5_pass 10 = .ok (.invokevirtual 43, 3) := by decide +kernel
theorem dX5_pass_13 : decode cX5_pass 13 = .ok (.ireturn, 1) := by decide +kernel
set_option maxRecDepth 20000 in
theorem ggX5_of_X5_isLanding : GoodIn wsX5_of wsX5_isLanding := goodIn_r _ [5, 6, 7, 8, 4, 9, 14, 15, 16, 17, 18, 19, 20, 21, 22, 23, 24, 25, 26, 27] (by decide +kernel) (by decide +kernel)
set_option maxRecDepth 20000 in
theorem gX5_of_X5_isLanding : GoodIn wsX5_of (wsV RX5 88 RX5 yX5_isLanding wsX5_isLanding) := goodIn_app (goodIn_of _ (by decide +kernel)) ggX5_of_X5_isLanding
set_option maxRecDepth 20000 in
theorem ggX5_of_X5_in : GoodIn wsX5_of wsX5_in := goodIn_r _ [9] (by decide +kernel) (by decide +kernel)
set_option maxRecDepth 20000 in
theorem gX5_of_X5_in : GoodIn wsX5_of (va_wsS RX5 32 yX5_in wsX5_in) := goodIn_app (goodIn_of _ (by decide +kernel)) ggX5_of_X5_in
set_option maxRecDepth 20000 in
theorem ggX5_of_X5_its : GoodIn wsX5_of wsX5_its := goodIn_r _ [13, 6, 14, 15, 16, 17, 18, 19, 20, 21, 22, 23, 24, 25, 26, 27] (by decide +kernel) (by decide +kernel)
set_option maxRecDepth 20000 in
theorem gX5_of_X5_its : GoodIn wsX5_of (wsV RX5 47 RX5 yX5_its wsX5_its) := goodIn_app (goodIn_of _ (by decide +kernel)) ggX5_of_X5_its
theorem dX5_of_0 : decode cX5_of 0 = .ok (.aload_n 0, 1) := by decide +kernel
theorem dX5_of_1 : decode cX5_of 1 = .ok (.iload_n 1, 1) := by decide +kernel
theorem dX5_of_2 : decode cX5_of 2 = .ok (.invokevirtual 88, 3) := by decide +kernel
theorem dX5_of_5 : decode cX5_of 5 = .ok (.ifCond .ne 7, 3) := by decide +kernel
theorem dX5_of_8 : decode cX5_of 8 = .ok (.iconst (-1), 1) := by decide +kernel
theorem dX5_of_9 : decode cX5_of 9 = .ok (.goto 25, 3) := by decide +kernel
theorem dX5_of_12 : decode cX5_of 12 = .ok (.iload_n 2, 1) := by decide +kernel
theorem dX5_of_13 : decode cX5_of 13 = .ok (.i2l, 1) := by decide +kernel
theorem dX5_of_14 : decode cX5_of 14 = .ok (.iconst 0, 1) := by decide +kernel
theorem dX5_of_15 : decode cX5_of 15 = .ok (.bipush 7, 2) := by decide +kernel
theorem dX5_of_17 : decode cX5_of 17 = .ok (.invokestatic 32, 3) := by decide +kernel
theorem dX5_of_20 : decode cX5_of 20 = .ok (.ifCond .eq 12, 3) := by decide +kernel
theorem dX5_of_23 : decode cX5_of 23 = .ok (.aload_n 0, 1) := by decide +kernel
theorem dX5_of_24 : decode cX5_of 24 = .ok (.iload_n 1, 1) := by decide +kernel
theorem dX5_of_25 : decode cX5_of 25 = .ok (.iload_n 2, 1) := by decide +kernel
theorem dX5_of_26 : decode cX5_of 26 = .ok (.invokevirtual 47, 3) := by decide +kernel
theorem dX5_of_29 : decode cX5_of 29 = .ok (.goto 5, 3) := by decide +kernel
theorem dX5_of_32 : decode cX5_of 32 = .ok (.bipush (-2), 2) := by decide +kernel
theorem dX5_of_34 : decode cX5_of 34 = .ok (.ireturn, 1) := by decide +kernel
set_option maxRecDepth 20000 in
theorem ggX5_mask_X5_its : GoodIn wsX5_mask wsX5_its := goodIn_r _ [6, 1, 7, 8, 9, 10, 11, 12, 13, 14, 15, 16, 17, 18, 19, 20] (by decide +kernel) (by decide +kernel)
set_option maxRecDepth 20000 in
theorem gX5_mask_X5_its : GoodIn wsX5_mask (wsV RX5 47 RX5 yX5_its wsX5_its) := goodIn_app (goodIn_of _ (by decide +kernel)) ggX5_mask_X5_its
theorem dX5_mask_0 : decode cX5_mask 0 = .ok (.iconst 0, 1) := by decide +kernel
theorem dX5_mask_1 : decode cX5_mask 1 = .ok (.istore_n 2, 1) := by decide +kernel
theorem dX5_mask_2 : decode cX5_mask 2 = .ok (.iconst 0, 1) := by decide +kernel
theorem dX5_mask_3 : decode cX5_mask 3 = .ok (.istore_n 3, 1) := by decide +kernel
theorem dX5_mask_4 : decode cX5_mask 4 = .ok (.iload_n 3, 1) := by decide +kernel
theorem dX5_mask_5 : decode cX5_mask 5 = .ok (.aload_n 0, 1) := by decide +kernel
theorem dX5_mask_6 : decode cX5_mask 6 = .ok (.getfield 7, 3) := by decide +kernel
theorem dX5_mask_9 : decode cX5_mask 9 = .ok (.bipush 8, 2) := by decide +kernel
theorem dX5_mask_11 : decode cX5_mask 11 = .ok (.iaload, 1) := by decide +kernel
theorem dX5_mask_12 : decode cX5_mask 12 = .ok (.if_icmp .ge 20, 3) := by decide +kernel
theorem dX5_mask_15 : decode cX5_mask 15 = .ok (.iload_n 2, 1) := by decide +kernel
theorem dX5_mask_16 : decode cX5_mask 16 = .ok (.aload_n 0, 1) := by decide +kernel
theorem dX5_mask_17 : decode cX5_mask 17 = .ok (.iload_n 3, 1) := by decide +kernel
theorem dX5_mask_18 : decode cX5_mask 18 = .ok (.iload_n 1, 1) := by decide +kernel
theorem dX5_mask_19 : decode cX5_mask 19 = .ok (.invokevirtual 47, 3) := by decide +kernel
theorem dX5_mask_22 : decode cX5_mask 22 = .ok (.iload_n 3, 1) := by decide +kernel
theorem dX5_mask_23 : decode cX5_mask 23 = .ok (.ishl, 1) := by decide +kernel
theorem dX5_mask_24 : decode cX5_mask 24 = .ok (.ior, 1) := by decide +kernel
theorem dX5_mask_25 : decode cX5_mask 25 = .ok (.istore_n 2, 1) := by decide +kernel
theorem dX5_mask_26 : decode cX5_mask 26 = .ok (.iinc 3 1, 3) := by decide +kernel
theorem dX5_mask_29 : decode cX5_mask 29 = .ok (.goto (-25), 3) := by decide +kernel
theorem dX5_mask_32 : decode cX5_mask 32 = .ok (.iload_n 2, 1) := by decide +kernel
theorem dX5_mask_33 : decode cX5_mask 33 = .ok (.ireturn, 1) := by decide +kernel
set_option maxRecDepth 20000 in
theorem ggX5_count_X5_in : GoodIn wsX5_count wsX5_in := goodIn_r _ [7] (by decide +kernel) (by decide +kernel)
set_option maxRecDepth 20000 in
theorem gX5_count_X5_in : GoodIn wsX5_count (va_wsS RX5 32 yX5_in wsX5_in) := goodIn_app (goodIn_of _ (by decide +kernel)) ggX5_count_X5_in
set_option maxRecDepth 20000 in
theorem ggX5_count_X5_mask : GoodIn wsX5_count wsX5_mask := goodIn_r _ [11, 1, 12, 13, 14, 6, 15, 20, 21, 22, 23, 24, 25, 26, 27, 28, 29, 30, 31, 32, 33] (by decide +kernel) (by decide +kernel)
set_option maxRecDepth 20000 in
theorem gX5_count_X5_mask : GoodIn wsX5_count (wsV RX5 111 RX5 yX5_mask wsX5_mask) := goodIn_app (goodIn_of _ (by decide +kernel)) ggX5_count_X5_mask
set_option maxRecDepth 20000 in
theorem ggX5_count_X5_taken : GoodIn wsX5_count wsX5_taken := goodIn_r _ [19, 1, 12, 13, 14, 6, 15, 20, 21, 22, 23, 24, 25, 26, 27, 28, 29, 30, 31, 32, 33] (by decide +kernel) (by decide +kernel)
set_option maxRecDepth 20000 in
theorem gX5_count_X5_taken : GoodIn wsX5_count (wsV RX5 52 RX5 yX5_taken wsX5_taken) := goodIn_app (goodIn_of _ (by decide +kernel)) ggX5_count_X5_taken
theorem dX5_count_0 : decode cX5_count 0 = .ok (.iload_n 1, 1) := by decide +kernel
theorem dX5_count_1 : decode cX5_count 1 = .ok (.i2l, 1) := by decide +kernel
theorem dX5_count_2 : decode cX5_count 2 = .ok (.bipush 7, 2) := by decide +kernel
theorem dX5_count_4 : decode cX5_count 4 = .ok (.bipush 13, 2) := by decide +kernel
theorem dX5_count_6 : decode cX5_count 6 = .ok (.invokestatic 32, 3) := by decide +kernel
theorem dX5_count_9 : decode cX5_count 9 = .ok (.ifCond .eq 13, 3) := by decide +kernel
theorem dX5_count_12 : decode cX5_count 12 = .ok (.aload_n 0, 1) := by decide +kernel
theorem dX5_count_13 : decode cX5_count 13 = .ok (.getfield 7, 3) := by decide +kernel
theorem dX5_count_16 : decode cX5_count 16 = .ok (.iload_n 1, 1) := by decide +kernel
theorem dX5_count_17 : decode cX5_count 17 = .ok (.bipush 7, 2) := by decide +kernel
theorem dX5_count_19 : decode cX5_count 19 = .ok (.isub, 1) := by decide +kernel
theorem dX5_count_20 : decode cX5_count 20 = .ok (.iaload, 1) := by decide +kernel
theorem dX5_count_21 : decode cX5_count 21 = .ok (.ireturn, 1) := by decide +kernel
theorem dX5_count_22 : decode cX5_count 22 = .ok (.iload_n 1, 1) := by decide +kernel
theorem dX5_count_23 : decode cX5_count 23 = .ok (.tableswitch 136 0 15 #[77, 85, 93, 99, 105, 110, 118, 136, 136, 136, 136, 136, 136, 136, 126, 131], 77) := by decide +kernel
theorem dX5_count_100 : decode cX5_count 100 = .ok (.aload_n 0, 1) := by decide +kernel
theorem dX5_count_101 : decode cX5_count 101 = .ok (.getfield 7, 3) := by decide +kernel
theorem dX5_count_104 : decode cX5_count 104 = .ok (.bipush 7, 2) := by decide +kernel
theorem dX5_count_106 : decode cX5_count 106 = .ok (.iaload, 1) := by decide +kernel
theorem dX5_count_107 : decode cX5_count 107 = .ok (.ireturn, 1) := by decide +kernel
theorem dX5_count_108 : decode cX5_count 108 = .ok (.aload_n 0, 1) := by decide +kernel
theorem dX5_count_109 : decode cX5_count 109 = .ok (.getfield 7, 3) := by decide +kernel
theorem dX5_count_112 : decode cX5_count 112 = .ok (.bipush 8, 2) := by decide +kernel
theorem dX5_count_114 : decode cX5_count 114 = .ok (.iaload, 1) := by decide +kernel
theorem dX5_count_115 : decode cX5_count 115 = .ok (.ireturn, 1) := by decide +kernel
theorem dX5_count_116 : decode cX5_count 116 = .ok (.aload_n 0, 1) := by decide +kernel
theorem dX5_count_117 : decode cX5_count 117 = .ok (.iconst 0, 1) := by decide +kernel
theorem dX5_count_118 : decode cX5_count 118 = .ok (.invokevirtual 111, 3) := by decide +kernel
theorem dX5_count_121 : decode cX5_count 121 = .ok (.ireturn, 1) := by decide +kernel
theorem dX5_count_122 : decode cX5_count 122 = .ok (.aload_n 0, 1) := by decide +kernel
theorem dX5_count_123 : decode cX5_count 123 = .ok (.iconst 3, 1) := by decide +kernel
theorem dX5_count_124 : decode cX5_count 124 = .ok (.invokevirtual 111, 3) := by decide +kernel
theorem dX5_count_127 : decode cX5_count 127 = .ok (.ireturn, 1) := by decide +kernel
theorem dX5_count_128 : decode cX5_count 128 = .ok (.aload_n 0, 1) := by decide +kernel
theorem dX5_count_129 : decode cX5_count 129 = .ok (.invokevirtual 52, 3) := by decide +kernel
theorem dX5_count_132 : decode cX5_count 132 = .ok (.ireturn, 1) := by decide +kernel
theorem dX5_count_133 : decode cX5_count 133 = .ok (.aload_n 0, 1) := by decide +kernel
theorem dX5_count_134 : decode cX5_count 134 = .ok (.getfield 7, 3) := by decide +kernel
theorem dX5_count_137 : decode cX5_count 137 = .ok (.bipush 9, 2) := by decide +kernel
theorem dX5_count_139 : decode cX5_count 139 = .ok (.iaload, 1) := by decide +kernel
theorem dX5_count_140 : decode cX5_count 140 = .ok (.ireturn, 1) := by decide +kernel
theorem dX5_count_141 : decode cX5_count 141 = .ok (.aload_n 0, 1) := by decide +kernel
theorem dX5_count_142 : decode cX5_count 142 = .ok (.getfield 7, 3) := by decide +kernel
theorem dX5_count_145 : decode cX5_count 145 = .ok (.bipush 10, 2) := by decide +kernel
theorem dX5_count_147 : decode cX5_count 147 = .ok (.iaload, 1) := by decide +kernel
theorem dX5_count_148 : decode cX5_count 148 = .ok (.ireturn, 1) := by decide +kernel
theorem dX5_count_149 : decode cX5_count 149 = .ok (.aload_n 0, 1) := by decide +kernel
theorem dX5_count_150 : decode cX5_count 150 = .ok (.getfield 114, 3) := by decide +kernel
theorem dX5_count_153 : decode cX5_count 153 = .ok (.ireturn, 1) := by decide +kernel
theorem dX5_count_154 : decode cX5_count 154 = .ok (.aload_n 0, 1) := by decide +kernel
theorem dX5_count_155 : decode cX5_count 155 = .ok (.getfield 36, 3) := by decide +kernel
theorem dX5_count_158 : decode cX5_count 158 = .ok (.ireturn, 1) := by decide +kernel
theorem dX5_count_159 : decode cX5_count 159 = .ok (.bipush (-2), 2) := by decide +kernel
theorem dX5_count_161 : decode cX5_count 161 = .ok (.ireturn, 1) := by decide +kernel
set_option maxRecDepth 20000 in
theorem ggX5_rank_X5_its : GoodIn wsX5_rank wsX5_its := goodIn_r _ [6, 1, 7, 8, 9, 10, 11, 12, 13, 14, 15, 16, 17, 18, 19, 20] (by decide +kernel) (by decide +kernel)
set_option maxRecDepth 20000 in
theorem gX5_rank_X5_its : GoodIn wsX5_rank (wsV RX5 47 RX5 yX5_its wsX5_its) := goodIn_app (goodIn_of _ (by decide +kernel)) ggX5_rank_X5_its
theorem dX5_rank_0 : decode cX5_rank 0 = .ok (.iconst 0, 1) := by decide +kernel
theorem dX5_rank_1 : decode cX5_rank 1 = .ok (.istore_n 2, 1) := by decide +kernel
theorem dX5_rank_2 : decode cX5_rank 2 = .ok (.iconst 0, 1) := by decide +kernel
theorem dX5_rank_3 : decode cX5_rank 3 = .ok (.istore_n 3, 1) := by decide +kernel
theorem dX5_rank_4 : decode cX5_rank 4 = .ok (.iload_n 3, 1) := by decide +kernel
theorem dX5_rank_5 : decode cX5_rank 5 = .ok (.aload_n 0, 1) := by decide +kernel
theorem dX5_rank_6 : decode cX5_rank 6 = .ok (.getfield 7, 3) := by decide +kernel
theorem dX5_rank_9 : decode cX5_rank 9 = .ok (.bipush 8, 2) := by decide +kernel
theorem dX5_rank_11 : decode cX5_rank 11 = .ok (.iaload, 1) := by decide +kernel
theorem dX5_rank_12 : decode cX5_rank 12 = .ok (.if_icmp .ge 83, 3) := by decide +kernel
theorem dX5_rank_15 : decode cX5_rank 15 = .ok (.aload_n 0, 1) := by decide +kernel
theorem dX5_rank_16 : decode cX5_rank 16 = .ok (.iload_n 3, 1) := by decide +kernel
theorem dX5_rank_17 : decode cX5_rank 17 = .ok (.iconst 0, 1) := by decide +kernel
theorem dX5_rank_18 : decode cX5_rank 18 = .ok (.invokevirtual 47, 3) := by decide +kernel
theorem dX5_rank_21 : decode cX5_rank 21 = .ok (.iconst 1, 1) := by decide +kernel
theorem dX5_rank_22 : decode cX5_rank 22 = .ok (.if_icmp .ne 16, 3) := by decide +kernel
theorem dX5_rank_25 : decode cX5_rank 25 = .ok (.aload_n 0, 1) := by decide +kernel
theorem dX5_rank_26 : decode cX5_rank 26 = .ok (.iload_n 3, 1) := by decide +kernel
theorem dX5_rank_27 : decode cX5_rank 27 = .ok (.iconst 3, 1) := by decide +kernel
theorem dX5_rank_28 : decode cX5_rank 28 = .ok (.invokevirtual 47, 3) := by decide +kernel
theorem dX5_rank_31 : decode cX5_rank 31 = .ok (.ifCond .ne 7, 3) := by decide +kernel
theorem dX5_rank_34 : decode cX5_rank 34 = .ok (.iconst 1, 1) := by decide +kernel
theorem dX5_rank_35 : decode cX5_rank 35 = .ok (.goto 4, 3) := by decide +kernel
theorem dX5_rank_38 : decode cX5_rank 38 = .ok (.iconst 0, 1) := by decide +kernel
theorem dX5_rank_39 : decode cX5_rank 39 = .ok (.istore 4, 2) := by decide +kernel
theorem dX5_rank_41 : decode cX5_rank 41 = .ok (.iload_n 2, 1) := by decide +kernel
theorem dX5_rank_42 : decode cX5_rank 42 = .ok (.iload 4, 2) := by decide +kernel
theorem dX5_rank_44 : decode cX5_rank 44 = .ok (.ifCond .eq 42, 3) := by decide +kernel
theorem dX5_rank_47 : decode cX5_rank 47 = .ok (.aload_n 0, 1) := by decide +kernel
theorem dX5_rank_48 : decode cX5_rank 48 = .ok (.iload_n 3, 1) := by decide +kernel
theorem dX5_rank_49 : decode cX5_rank 49 = .ok (.iconst 1, 1) := by decide +kernel
theorem dX5_rank_50 : decode cX5_rank 50 = .ok (.invokevirtual 47, 3) := by decide +kernel
theorem dX5_rank_53 : decode cX5_rank 53 = .ok (.aload_n 0, 1) := by decide +kernel
theorem dX5_rank_54 : decode cX5_rank 54 = .ok (.iload_n 1, 1) := by decide +kernel
theorem dX5_rank_55 : decode cX5_rank 55 = .ok (.iconst 1, 1) := by decide +kernel
theorem dX5_rank_56 : decode cX5_rank 56 = .ok (.invokevirtual 47, 3) := by decide +kernel
theorem dX5_rank_59 : decode cX5_rank 59 = .ok (.if_icmp .lt 23, 3) := by decide +kernel
theorem dX5_rank_62 : decode cX5_rank 62 = .ok (.aload_n 0, 1) := by decide +kernel
theorem dX5_rank_63 : decode cX5_rank 63 = .ok (.iload_n 3, 1) := by decide +kernel
theorem dX5_rank_64 : decode cX5_rank 64 = .ok (.iconst 1, 1) := by decide +kernel
theorem dX5_rank_65 : decode cX5_rank 65 = .ok (.invokevirtual 47, 3) := by decide +kernel
theorem dX5_rank_68 : decode cX5_rank 68 = .ok (.aload_n 0, 1) := by decide +kernel
theorem dX5_rank_69 : decode cX5_rank 69 = .ok (.iload_n 1, 1) := by decide +kernel
theorem dX5_rank_70 : decode cX5_rank 70 = .ok (.iconst 1, 1) := by decide +kernel
theorem dX5_rank_71 : decode cX5_rank 71 = .ok (.invokevirtual 47, 3) := by decide +kernel
theorem dX5_rank_74 : decode cX5_rank 74 = .ok (.if_icmp .ne 12, 3) := by decide +kernel
theorem dX5_rank_77 : decode cX5_rank 77 = .ok (.iload_n 3, 1) := by decide +kernel
theorem dX5_rank_78 : decode cX5_rank 78 = .ok (.iload_n 1, 1) := by decide +kernel
theorem dX5_rank_79 : decode cX5_rank 79 = .ok (.if_icmp .ge 7, 3) := by decide +kernel
theorem dX5_rank_82 : decode cX5_rank 82 = .ok (.iconst 1, 1) := by decide +kernel
theorem dX5_rank_83 : decode cX5_rank 83 = .ok (.goto 4, 3) := by decide +kernel
theorem dX5_rank_86 : decode cX5_rank 86 = .ok (.iconst 0, 1) := by decide +kernel
theorem dX5_rank_87 : decode cX5_rank 87 = .ok (.iadd, 1) := by decide +kernel
theorem dX5_rank_88 : decode cX5_rank 88 = .ok (.istore_n 2, 1) := by decide +kernel
theorem dX5_rank_89 : decode cX5_rank 89 = .ok (.iinc 3 1, 3) := by decide +kernel
theorem dX5_rank_92 : decode cX5_rank 92 = .ok (.goto (-88), 3) := by decide +kernel
theorem dX5_rank_95 : decode cX5_rank 95 = .ok (.iload_n 2, 1) := by decide +kernel
theorem dX5_rank_96 : decode cX5_rank 96 = .ok (.ireturn, 1) := by decide +kernel
set_option maxRecDepth 20000 in
theorem ggX5_choice_X5_its : GoodIn wsX5_choice wsX5_its := goodIn_r _ [6, 1, 11, 12, 13, 14, 15, 16, 17, 18, 19, 20, 21, 22, 23, 24] (by decide +kernel) (by decide +kernel)
set_option maxRecDepth 20000 in
theorem gX5_choice_X5_its : GoodIn wsX5_choice (wsV RX5 47 RX5 yX5_its wsX5_its) := goodIn_app (goodIn_of _ (by decide +kernel)) ggX5_choice_X5_its
set_option maxRecDepth 20000 in
theorem ggX5_choice_X5_rank : GoodIn wsX5_choice wsX5_rank := goodIn_r _ [10, 1, 2, 3, 4, 5, 6, 11, 12, 13, 14, 15, 16, 17, 18, 19, 20, 21, 22, 23, 24] (by decide +kernel) (by decide +kernel)
set_option maxRecDepth 20000 in
theorem gX5_choice_X5_rank : GoodIn wsX5_choice (wsV RX5 117 RX5 yX5_rank wsX5_rank) := goodIn_app (goodIn_of _ (by decide +kernel)) ggX5_choice_X5_rank
theorem dX5_choice_0 : decode cX5_choice 0 = .ok (.iconst 0, 1) := by decide +kernel
theorem dX5_choice_1 : decode cX5_choice 1 = .ok (.istore_n 2, 1) := by decide +kernel
theorem dX5_choice_2 : decode cX5_choice 2 = .ok (.iload_n 2, 1) := by decide +kernel
theorem dX5_choice_3 : decode cX5_choice 3 = .ok (.aload_n 0, 1) := by decide +kernel
theorem dX5_choice_4 : decode cX5_choice 4 = .ok (.getfield 7, 3) := by decide +kernel
theorem dX5_choice_7 : decode cX5_choice 7 = .ok (.bipush 8, 2) := by decide +kernel
theorem dX5_choice_9 : decode cX5_choice 9 = .ok (.iaload, 1) := by decide +kernel
theorem dX5_choice_10 : decode cX5_choice 10 = .ok (.if_icmp .ge 39, 3) := by decide +kernel
theorem dX5_choice_13 : decode cX5_choice 13 = .ok (.aload_n 0, 1) := by decide +kernel
theorem dX5_choice_14 : decode cX5_choice 14 = .ok (.iload_n 2, 1) := by decide +kernel
theorem dX5_choice_15 : decode cX5_choice 15 = .ok (.iconst 0, 1) := by decide +kernel
theorem dX5_choice_16 : decode cX5_choice 16 = .ok (.invokevirtual 47, 3) := by decide +kernel
theorem dX5_choice_19 : decode cX5_choice 19 = .ok (.iconst 1, 1) := by decide +kernel
theorem dX5_choice_20 : decode cX5_choice 20 = .ok (.if_icmp .ne 23, 3) := by decide +kernel
theorem dX5_choice_23 : decode cX5_choice 23 = .ok (.aload_n 0, 1) := by decide +kernel
theorem dX5_choice_24 : decode cX5_choice 24 = .ok (.iload_n 2, 1) := by decide +kernel
theorem dX5_choice_25 : decode cX5_choice 25 = .ok (.iconst 3, 1) := by decide +kernel
theorem dX5_choice_26 : decode cX5_choice 26 = .ok (.invokevirtual 47, 3) := by decide +kernel
theorem dX5_choice_29 : decode cX5_choice 29 = .ok (.ifCond .ne 14, 3) := by decide +kernel
theorem dX5_choice_32 : decode cX5_choice 32 = .ok (.aload_n 0, 1) := by decide +kernel
theorem dX5_choice_33 : decode cX5_choice 33 = .ok (.iload_n 2, 1) := by decide +kernel
theorem dX5_choice_34 : decode cX5_choice 34 = .ok (.invokevirtual 117, 3) := by decide +kernel
theorem dX5_choice_37 : decode cX5_choice 37 = .ok (.iload_n 1, 1) := by decide +kernel
theorem dX5_choice_38 : decode cX5_choice 38 = .ok (.if_icmp .ne 5, 3) := by decide +kernel
theorem dX5_choice_41 : decode cX5_choice 41 = .ok (.iload_n 2, 1) := by decide +kernel
theorem dX5_choice_42 : decode cX5_choice 42 = .ok (.ireturn, 1) := by decide +kernel
theorem dX5_choice_43 : decode cX5_choice 43 = .ok (.iinc 2 1, 3) := by decide +kernel
theorem dX5_choice_46 : decode cX5_choice 46 = .ok (.goto (-44), 3) := by decide +kernel
theorem dX5_choice_49 : decode cX5_choice 49 = .ok (.iconst (-1), 1) := by decide +kernel
theorem dX5_choice_50 : decode cX5_choice 50 = .ok (.ireturn, 1) := by decide +kernel
set_option maxRecDepth 20000 in
theorem ggX5_log_X5_in : GoodIn wsX5_log wsX5_in := goodIn_r _ [5] (by decide +kernel) (by decide +kernel)
set_option maxRecDepth 20000 in
theorem gX5_log_X5_in : GoodIn wsX5_log (va_wsS RX5 32 yX5_in wsX5_in) := goodIn_app (goodIn_of _ (by decide +kernel)) ggX5_log_X5_in
theorem dX5_log_0 : decode cX5_log 0 = .ok (.iload_n 1, 1) := by decide +kernel
theorem dX5_log_1 : decode cX5_log 1 = .ok (.i2l, 1) := by decide +kernel
theorem dX5_log_2 : decode cX5_log 2 = .ok (.iconst 0, 1) := by decide +kernel
theorem dX5_log_3 : decode cX5_log 3 = .ok (.aload_n 0, 1) := by decide +kernel
theorem dX5_log_4 : decode cX5_log 4 = .ok (.getfield 7, 3) := by decide +kernel
theorem dX5_log_7 : decode cX5_log 7 = .ok (.bipush 10, 2) := by decide +kernel
theorem dX5_log_9 : decode cX5_log 9 = .ok (.iaload, 1) := by decide +kernel
theorem dX5_log_10 : decode cX5_log 10 = .ok (.iconst 1, 1) := by decide +kernel
theorem dX5_log_11 : decode cX5_log 11 = .ok (.isub, 1) := by decide +kernel
theorem dX5_log_12 : decode cX5_log 12 = .ok (.invokestatic 32, 3) := by decide +kernel
theorem dX5_log_15 : decode cX5_log 15 = .ok (.ifCond .ne 7, 3) := by decide +kernel
theorem dX5_log_18 : decode cX5_log 18 = .ok (.iconst (-1), 1) := by decide +kernel
theorem dX5_log_19 : decode cX5_log 19 = .ok (.goto 31, 3) := by decide +kernel
end
section
theorem dX5_log_22 : decode cX5_log 22 = .ok (.iload_n 2, 1) := by decide +kernel
theorem dX5_log_23 : decode cX5_log 23 = .ok (.i2l, 1) := by decide +kernel
theorem dX5_log_24 : decode cX5_log 24 = .ok (.iconst 0, 1) := by decide +kernel
theorem dX5_log_25 : decode cX5_log 25 = .ok (.iconst 2, 1) := by decide +kernel
theorem dX5_log_26 : decode cX5_log 26 = .ok (.invokestatic 32, 3) := by decide +kernel
theorem dX5_log_29 : decode cX5_log 29 = .ok (.ifCond .eq 19, 3) := by decide +kernel
theorem dX5_log_32 : decode cX5_log 32 = .ok (.aload_n 0, 1) := by decide +kernel
theorem dX5_log_33 : decode cX5_log 33 = .ok (.getfield 7, 3) := by decide +kernel
theorem dX5_log_36 : decode cX5_log 36 = .ok (.bipush 11, 2) := by decide +kernel
theorem dX5_log_38 : decode cX5_log 38 = .ok (.iconst 3, 1) := by decide +kernel
theorem dX5_log_39 : decode cX5_log 39 = .ok (.iload_n 1, 1) := by decide +kernel
theorem dX5_log_40 : decode cX5_log 40 = .ok (.imul, 1) := by decide +kernel
theorem dX5_log_41 : decode cX5_log 41 = .ok (.iadd, 1) := by decide +kernel
theorem dX5_log_42 : decode cX5_log 42 = .ok (.iload_n 2, 1) := by decide +kernel
theorem dX5_log_43 : decode cX5_log 43 = .ok (.iadd, 1) := by decide +kernel
theorem dX5_log_44 : decode cX5_log 44 = .ok (.iaload, 1) := by decide +kernel
theorem dX5_log_45 : decode cX5_log 45 = .ok (.goto 5, 3) := by decide +kernel
theorem dX5_log_48 : decode cX5_log 48 = .ok (.bipush (-2), 2) := by decide +kernel
theorem dX5_log_50 : decode cX5_log 50 = .ok (.ireturn, 1) := by decide +kernel
set_option maxRecDepth 20000 in
theorem ggX5_why_X5_isLanding : GoodIn wsX5_why wsX5_isLanding := goodIn_r _ [5, 6, 7, 8, 4, 9, 18, 19, 20, 21, 22, 23, 24, 25, 26, 27, 28, 29, 30, 31] (by decide +kernel) (by decide +kernel)
set_option maxRecDepth 20000 in
theorem gX5_why_X5_isLanding : GoodIn wsX5_why (wsV RX5 88 RX5 yX5_isLanding wsX5_isLanding) := goodIn_app (goodIn_of _ (by decide +kernel)) ggX5_why_X5_isLanding
set_option maxRecDepth 20000 in
theorem ggX5_why_X5_its : GoodIn wsX5_why wsX5_its := goodIn_r _ [13, 6, 18, 19, 20, 21, 22, 23, 24, 25, 26, 27, 28, 29, 30, 31] (by decide +kernel) (by decide +kernel)
set_option maxRecDepth 20000 in
theorem gX5_why_X5_its : GoodIn wsX5_why (wsV RX5 47 RX5 yX5_its wsX5_its) := goodIn_app (goodIn_of _ (by decide +kernel)) ggX5_why_X5_its
set_option maxRecDepth 20000 in
theorem ggX5_why_X5_taken : GoodIn wsX5_why wsX5_taken := goodIn_r _ [17, 6, 10, 11, 12, 4, 13, 18, 19, 20, 21, 22, 23, 24, 25, 26, 27, 28, 29, 30, 31] (by decide +kernel) (by decide +kernel)
set_option maxRecDepth 20000 in
theorem gX5_why_X5_taken : GoodIn wsX5_why (wsV RX5 52 RX5 yX5_taken wsX5_taken) := goodIn_app (goodIn_of _ (by decide +kernel)) ggX5_why_X5_taken
theorem dX5_why_0 : decode cX5_why 0 = .ok (.aload_n 0, 1) := by decide +kernel
theorem dX5_why_1 : decode cX5_why 1 = .ok (.iload_n 1, 1) := by decide +kernel
theorem dX5_why_2 : decode cX5_why 2 = .ok (.invokevirtual 88, 3) := by decide +kernel
theorem dX5_why_5 : decode cX5_why 5 = .ok (.ifCond .ne 5, 3) := by decide +kernel
theorem dX5_why_8 : decode cX5_why 8 = .ok (.iconst (-1), 1) := by decide +kernel
theorem dX5_why_9 : decode cX5_why 9 = .ok (.ireturn, 1) := by decide +kernel
theorem dX5_why_10 : decode cX5_why 10 = .ok (.aload_n 0, 1) := by decide +kernel
theorem dX5_why_11 : decode cX5_why 11 = .ok (.iload_n 1, 1) := by decide +kernel
theorem dX5_why_12 : decode cX5_why 12 = .ok (.iconst 0, 1) := by decide +kernel
theorem dX5_why_13 : decode cX5_why 13 = .ok (.invokevirtual 47, 3) := by decide +kernel
theorem dX5_why_16 : decode cX5_why 16 = .ok (.ifCond .ne 7, 3) := by decide +kernel
theorem dX5_why_19 : decode cX5_why 19 = .ok (.iconst 1, 1) := by decide +kernel
theorem dX5_why_20 : decode cX5_why 20 = .ok (.goto 30, 3) := by decide +kernel
theorem dX5_why_23 : decode cX5_why 23 = .ok (.aload_n 0, 1) := by decide +kernel
theorem dX5_why_24 : decode cX5_why 24 = .ok (.iload_n 1, 1) := by decide +kernel
theorem dX5_why_25 : decode cX5_why 25 = .ok (.iconst 3, 1) := by decide +kernel
theorem dX5_why_26 : decode cX5_why 26 = .ok (.invokevirtual 47, 3) := by decide +kernel
theorem dX5_why_29 : decode cX5_why 29 = .ok (.iconst 1, 1) := by decide +kernel
theorem dX5_why_30 : decode cX5_why 30 = .ok (.if_icmp .ne 7, 3) := by decide +kernel
theorem dX5_why_33 : decode cX5_why 33 = .ok (.iconst 2, 1) := by decide +kernel
theorem dX5_why_34 : decode cX5_why 34 = .ok (.goto 16, 3) := by decide +kernel
theorem dX5_why_37 : decode cX5_why 37 = .ok (.aload_n 0, 1) := by decide +kernel
theorem dX5_why_38 : decode cX5_why 38 = .ok (.invokevirtual 52, 3) := by decide +kernel
theorem dX5_why_41 : decode cX5_why 41 = .ok (.iload_n 1, 1) := by decide +kernel
theorem dX5_why_42 : decode cX5_why 42 = .ok (.if_icmp .ne 7, 3) := by decide +kernel
theorem dX5_why_45 : decode cX5_why 45 = .ok (.iconst 0, 1) := by decide +kernel
theorem dX5_why_46 : decode cX5_why 46 = .ok (.goto 4, 3) := by decide +kernel
theorem dX5_why_49 : decode cX5_why 49 = .ok (.iconst 3, 1) := by decide +kernel
theorem dX5_why_50 : decode cX5_why 50 = .ok (.ireturn, 1) := by decide +kernel
set_option maxRecDepth 20000 in
theorem ggX5_welcomeIn_X5_isLanding : GoodIn wsX5_welcomeIn wsX5_isLanding := goodIn_r _ [6, 7, 8, 9, 5, 10, 26, 27, 28, 29, 30, 31, 32, 33, 34, 35, 36, 37, 38, 39] (by decide +kernel) (by decide +kernel)
set_option maxRecDepth 20000 in
theorem gX5_welcomeIn_X5_isLanding : GoodIn wsX5_welcomeIn (wsV RX5 88 RX5 yX5_isLanding wsX5_isLanding) := goodIn_app (goodIn_of _ (by decide +kernel)) ggX5_welcomeIn_X5_isLanding
set_option maxRecDepth 20000 in
theorem ggX5_welcomeIn_X5_tries : GoodIn wsX5_welcomeIn wsX5_tries := goodIn_r _ [14, 15, 16, 1, 17, 18, 19, 20, 5, 21, 7, 26, 27, 28, 29, 30, 31, 32, 33, 34, 35, 36, 37, 38, 39] (by decide +kernel) (by decide +kernel)
set_option maxRecDepth 20000 in
theorem gX5_welcomeIn_X5_tries : GoodIn wsX5_welcomeIn (wsV RX5 80 RX5 yX5_tries wsX5_tries) := goodIn_app (goodIn_of _ (by decide +kernel)) ggX5_welcomeIn_X5_tries
set_option maxRecDepth 20000 in
theorem ggX5_welcomeIn_X5_passes : GoodIn wsX5_welcomeIn wsX5_passes := goodIn_r _ [25, 16, 7, 15, 1, 17, 26, 27, 28, 29, 30, 31, 32, 33, 34, 35, 36, 37, 38, 39] (by decide +kernel) (by decide +kernel)
set_option maxRecDepth 20000 in
theorem gX5_welcomeIn_X5_passes : GoodIn wsX5_welcomeIn (wsV RX5 84 RX5 yX5_passes wsX5_passes) := goodIn_app (goodIn_of _ (by decide +kernel)) ggX5_welcomeIn_X5_passes
theorem dX5_welcomeIn_0 : decode cX5_welcomeIn 0 = .ok (.aload_n 0, 1) := by decide +kernel
theorem dX5_welcomeIn_1 : decode cX5_welcomeIn 1 = .ok (.iload_n 1, 1) := by decide +kernel
theorem dX5_welcomeIn_2 : decode cX5_welcomeIn 2 = .ok (.invokevirtual 88, 3) := by decide +kernel
theorem dX5_welcomeIn_5 : decode cX5_welcomeIn 5 = .ok (.ifCond .ne 5, 3) := by decide +kernel
theorem dX5_welcomeIn_8 : decode cX5_welcomeIn 8 = .ok (.iconst (-1), 1) := by decide +kernel
theorem dX5_welcomeIn_9 : decode cX5_welcomeIn 9 = .ok (.ireturn, 1) := by decide +kernel
theorem dX5_welcomeIn_10 : decode cX5_welcomeIn 10 = .ok (.aload_n 0, 1) := by decide +kernel
theorem dX5_welcomeIn_11 : decode cX5_welcomeIn 11 = .ok (.iload_n 1, 1) := by decide +kernel
theorem dX5_welcomeIn_12 : decode cX5_welcomeIn 12 = .ok (.invokevirtual 80, 3) := by decide +kernel
theorem dX5_welcomeIn_15 : decode cX5_welcomeIn 15 = .ok (.iconst 0, 1) := by decide +kernel
theorem dX5_welcomeIn_16 : decode cX5_welcomeIn 16 = .ok (.istore_n 2, 1) := by decide +kernel
theorem dX5_welcomeIn_17 : decode cX5_welcomeIn 17 = .ok (.aload_n 0, 1) := by decide +kernel
theorem dX5_welcomeIn_18 : decode cX5_welcomeIn 18 = .ok (.getfield 73, 3) := by decide +kernel
theorem dX5_welcomeIn_21 : decode cX5_welcomeIn 21 = .ok (.ifCond .eq 21, 3) := by decide +kernel
theorem dX5_welcomeIn_24 : decode cX5_welcomeIn 24 = .ok (.iload_n 2, 1) := by decide +kernel
theorem dX5_welcomeIn_25 : decode cX5_welcomeIn 25 = .ok (.sipush 1000, 3) := by decide +kernel
theorem dX5_welcomeIn_28 : decode cX5_welcomeIn 28 = .ok (.if_icmp .ge 14, 3) := by decide +kernel
theorem dX5_welcomeIn_31 : decode cX5_welcomeIn 31 = .ok (.aload_n 0, 1) := by decide +kernel
theorem dX5_welcomeIn_32 : decode cX5_welcomeIn 32 = .ok (.invokevirtual 84, 3) := by decide +kernel
theorem dX5_welcomeIn_35 : decode cX5_welcomeIn 35 = .ok (.istore_n 3, 1) := by decide +kernel
theorem dX5_welcomeIn_36 : decode cX5_welcomeIn 36 = .ok (.iinc 2 1, 3) := by decide +kernel
theorem dX5_welcomeIn_39 : decode cX5_welcomeIn 39 = .ok (.goto (-22), 3) := by decide +kernel
theorem dX5_welcomeIn_42 : decode cX5_welcomeIn 42 = .ok (.iload_n 2, 1) := by decide +kernel
theorem dX5_welcomeIn_43 : decode cX5_welcomeIn 43 = .ok (.ireturn, 1) := by decide +kernel
set_option maxRecDepth 20000 in
theorem ggX5_mayChange_X5_isLanding : GoodIn wsX5_mayChange wsX5_isLanding := goodIn_r _ [6, 1, 7, 8, 5, 9, 18, 19, 20, 21, 22, 23, 24, 25, 26, 27, 28, 29, 30, 31] (by decide +kernel) (by decide +kernel)
set_option maxRecDepth 20000 in
theorem gX5_mayChange_X5_isLanding : GoodIn wsX5_mayChange (wsV RX5 88 RX5 yX5_isLanding wsX5_isLanding) := goodIn_app (goodIn_of _ (by decide +kernel)) ggX5_mayChange_X5_isLanding
set_option maxRecDepth 20000 in
theorem ggX5_mayChange_X5_its : GoodIn wsX5_mayChange wsX5_its := goodIn_r _ [13, 1, 18, 19, 20, 21, 22, 23, 24, 25, 26, 27, 28, 29, 30, 31] (by decide +kernel) (by decide +kernel)
set_option maxRecDepth 20000 in
theorem gX5_mayChange_X5_its : GoodIn wsX5_mayChange (wsV RX5 47 RX5 yX5_its wsX5_its) := goodIn_app (goodIn_of _ (by decide +kernel)) ggX5_mayChange_X5_its
set_option maxRecDepth 20000 in
theorem ggX5_mayChange_X5_held : GoodIn wsX5_mayChange wsX5_held := goodIn_r _ [16, 17] (by decide +kernel) (by decide +kernel)
set_option maxRecDepth 20000 in
theorem gX5_mayChange_X5_held : GoodIn wsX5_mayChange (va_wsS RX5 60 yX5_held wsX5_held) := goodIn_app (goodIn_of _ (by decide +kernel)) ggX5_mayChange_X5_held
theorem dX5_mayChange_0 : decode cX5_mayChange 0 = .ok (.aload_n 0, 1) := by decide +kernel
theorem dX5_mayChange_1 : decode cX5_mayChange 1 = .ok (.iload_n 1, 1) := by decide +kernel
theorem dX5_mayChange_2 : decode cX5_mayChange 2 = .ok (.invokevirtual 88, 3) := by decide +kernel
theorem dX5_mayChange_5 : decode cX5_mayChange 5 = .ok (.ifCond .ne 5, 3) := by decide +kernel
theorem dX5_mayChange_8 : decode cX5_mayChange 8 = .ok (.iconst (-1), 1) := by decide +kernel
theorem dX5_mayChange_9 : decode cX5_mayChange 9 = .ok (.ireturn, 1) := by decide +kernel
theorem dX5_mayChange_10 : decode cX5_mayChange 10 = .ok (.aload_n 0, 1) := by decide +kernel
theorem dX5_mayChange_11 : decode cX5_mayChange 11 = .ok (.iload_n 1, 1) := by decide +kernel
theorem dX5_mayChange_12 : decode cX5_mayChange 12 = .ok (.iconst 3, 1) := by decide +kernel
theorem dX5_mayChange_13 : decode cX5_mayChange 13 = .ok (.invokevirtual 47, 3) := by decide +kernel
theorem dX5_mayChange_16 : decode cX5_mayChange 16 = .ok (.iconst 1, 1) := by decide +kernel
theorem dX5_mayChange_17 : decode cX5_mayChange 17 = .ok (.if_icmp .ne 5, 3) := by decide +kernel
theorem dX5_mayChange_20 : decode cX5_mayChange 20 = .ok (.iconst 0, 1) := by decide +kernel
theorem dX5_mayChange_21 : decode cX5_mayChange 21 = .ok (.ireturn, 1) := by decide +kernel
theorem dX5_mayChange_22 : decode cX5_mayChange 22 = .ok (.aload_n 0, 1) := by decide +kernel
theorem dX5_mayChange_23 : decode cX5_mayChange 23 = .ok (.iload_n 1, 1) := by decide +kernel
theorem dX5_mayChange_24 : decode cX5_mayChange 24 = .ok (.iconst 2, 1) := by decide +kernel
theorem dX5_mayChange_25 : decode cX5_mayChange 25 = .ok (.invokevirtual 47, 3) := by decide +kernel
theorem dX5_mayChange_28 : decode cX5_mayChange 28 = .ok (.istore_n 2, 1) := by decide +kernel
theorem dX5_mayChange_29 : decode cX5_mayChange 29 = .ok (.iconst 1, 1) := by decide +kernel
theorem dX5_mayChange_30 : decode cX5_mayChange 30 = .ok (.istore_n 3, 1) := by decide +kernel
theorem dX5_mayChange_31 : decode cX5_mayChange 31 = .ok (.iload_n 3, 1) := by decide +kernel
theorem dX5_mayChange_32 : decode cX5_mayChange 32 = .ok (.bipush 100, 2) := by decide +kernel
theorem dX5_mayChange_34 : decode cX5_mayChange 34 = .ok (.if_icmp .gt 79, 3) := by decide +kernel
theorem dX5_mayChange_37 : decode cX5_mayChange 37 = .ok (.aload_n 0, 1) := by decide +kernel
theorem dX5_mayChange_38 : decode cX5_mayChange 38 = .ok (.iload_n 1, 1) := by decide +kernel
theorem dX5_mayChange_39 : decode cX5_mayChange 39 = .ok (.iconst 0, 1) := by decide +kernel
theorem dX5_mayChange_40 : decode cX5_mayChange 40 = .ok (.invokevirtual 47, 3) := by decide +kernel
theorem dX5_mayChange_43 : decode cX5_mayChange 43 = .ok (.iconst 1, 1) := by decide +kernel
theorem dX5_mayChange_44 : decode cX5_mayChange 44 = .ok (.if_icmp .ne 7, 3) := by decide +kernel
theorem dX5_mayChange_47 : decode cX5_mayChange 47 = .ok (.iconst 1, 1) := by decide +kernel
theorem dX5_mayChange_48 : decode cX5_mayChange 48 = .ok (.goto 4, 3) := by decide +kernel
theorem dX5_mayChange_51 : decode cX5_mayChange 51 = .ok (.iconst 0, 1) := by decide +kernel
theorem dX5_mayChange_52 : decode cX5_mayChange 52 = .ok (.iload_n 3, 1) := by decide +kernel
theorem dX5_mayChange_53 : decode cX5_mayChange 53 = .ok (.iconst 2, 1) := by decide +kernel
theorem dX5_mayChange_54 : decode cX5_mayChange 54 = .ok (.irem, 1) := by decide +kernel
theorem dX5_mayChange_55 : decode cX5_mayChange 55 = .ok (.iconst 1, 1) := by decide +kernel
theorem dX5_mayChange_56 : decode cX5_mayChange 56 = .ok (.if_icmp .ne 7, 3) := by decide +kernel
theorem dX5_mayChange_59 : decode cX5_mayChange 59 = .ok (.iconst 1, 1) := by decide +kernel
theorem dX5_mayChange_60 : decode cX5_mayChange 60 = .ok (.goto 4, 3) := by decide +kernel
theorem dX5_mayChange_63 : decode cX5_mayChange 63 = .ok (.iconst 0, 1) := by decide +kernel
theorem dX5_mayChange_64 : decode cX5_mayChange 64 = .ok (.if_icmp .ne 7, 3) := by decide +kernel
theorem dX5_mayChange_67 : decode cX5_mayChange 67 = .ok (.iconst 1, 1) := by decide +kernel
theorem dX5_mayChange_68 : decode cX5_mayChange 68 = .ok (.goto 4, 3) := by decide +kernel
theorem dX5_mayChange_71 : decode cX5_mayChange 71 = .ok (.iconst 0, 1) := by decide +kernel
theorem dX5_mayChange_72 : decode cX5_mayChange 72 = .ok (.istore 4, 2) := by decide +kernel
theorem dX5_mayChange_74 : decode cX5_mayChange 74 = .ok (.iload_n 2, 1) := by decide +kernel
theorem dX5_mayChange_75 : decode cX5_mayChange 75 = .ok (.aload_n 0, 1) := by decide +kernel
theorem dX5_mayChange_76 : decode cX5_mayChange 76 = .ok (.getfield 7, 3) := by decide +kernel
theorem dX5_mayChange_79 : decode cX5_mayChange 79 = .ok (.iload 4, 2) := by decide +kernel
theorem dX5_mayChange_81 : decode cX5_mayChange 81 = .ok (.ifCond .eq 7, 3) := by decide +kernel
theorem dX5_mayChange_84 : decode cX5_mayChange 84 = .ok (.iconst 0, 1) := by decide +kernel
theorem dX5_mayChange_85 : decode cX5_mayChange 85 = .ok (.goto 4, 3) := by decide +kernel
theorem dX5_mayChange_88 : decode cX5_mayChange 88 = .ok (.iconst 1, 1) := by decide +kernel
theorem dX5_mayChange_89 : decode cX5_mayChange 89 = .ok (.iaload, 1) := by decide +kernel
theorem dX5_mayChange_90 : decode cX5_mayChange 90 = .ok (.iadd, 1) := by decide +kernel
theorem dX5_mayChange_91 : decode cX5_mayChange 91 = .ok (.invokestatic 60, 3) := by decide +kernel
theorem dX5_mayChange_94 : decode cX5_mayChange 94 = .ok (.istore_n 2, 1) := by decide +kernel
theorem dX5_mayChange_95 : decode cX5_mayChange 95 = .ok (.iload_n 2, 1) := by decide +kernel
theorem dX5_mayChange_96 : decode cX5_mayChange 96 = .ok (.aload_n 0, 1) := by decide +kernel
theorem dX5_mayChange_97 : decode cX5_mayChange 97 = .ok (.getfield 7, 3) := by decide +kernel
theorem dX5_mayChange_100 : decode cX5_mayChange 100 = .ok (.iconst 4, 1) := by decide +kernel
theorem dX5_mayChange_101 : decode cX5_mayChange 101 = .ok (.iaload, 1) := by decide +kernel
theorem dX5_mayChange_102 : decode cX5_mayChange 102 = .ok (.if_icmp .le 5, 3) := by decide +kernel
theorem dX5_mayChange_105 : decode cX5_mayChange 105 = .ok (.iload_n 3, 1) := by decide +kernel
theorem dX5_mayChange_106 : decode cX5_mayChange 106 = .ok (.ireturn, 1) := by decide +kernel
theorem dX5_mayChange_107 : decode cX5_mayChange 107 = .ok (.iinc 3 1, 3) := by decide +kernel
theorem dX5_mayChange_110 : decode cX5_mayChange 110 = .ok (.goto (-79), 3) := by decide +kernel
theorem dX5_mayChange_113 : decode cX5_mayChange 113 = .ok (.bipush (-6), 2) := by decide +kernel
theorem dX5_mayChange_115 : decode cX5_mayChange 115 = .ok (.ireturn, 1) := by decide +kernel
set_option maxRecDepth 20000 in
theorem ggX5_fineIn_X5_isLanding : GoodIn wsX5_fineIn wsX5_isLanding := goodIn_r _ [6, 7, 8, 9, 5, 10, 26, 27, 28, 29, 30, 31, 32, 33, 34, 35, 36, 37, 38, 39] (by decide +kernel) (by decide +kernel)
set_option maxRecDepth 20000 in
theorem gX5_fineIn_X5_isLanding : GoodIn wsX5_fineIn (wsV RX5 88 RX5 yX5_isLanding wsX5_isLanding) := goodIn_app (goodIn_of _ (by decide +kernel)) ggX5_fineIn_X5_isLanding
set_option maxRecDepth 20000 in
theorem ggX5_fineIn_X5_in : GoodIn wsX5_fineIn wsX5_in := goodIn_r _ [10] (by decide +kernel) (by decide +kernel)
set_option maxRecDepth 20000 in
theorem gX5_fineIn_X5_in : GoodIn wsX5_fineIn (va_wsS RX5 32 yX5_in wsX5_in) := goodIn_app (goodIn_of _ (by decide +kernel)) ggX5_fineIn_X5_in
set_option maxRecDepth 20000 in
theorem ggX5_fineIn_X5_tries : GoodIn wsX5_fineIn wsX5_tries := goodIn_r _ [14, 1, 15, 16, 17, 18, 19, 20, 5, 21, 7, 26, 27, 28, 29, 30, 31, 32, 33, 34, 35, 36, 37, 38, 39] (by decide +kernel) (by decide +kernel)
set_option maxRecDepth 20000 in
theorem gX5_fineIn_X5_tries : GoodIn wsX5_fineIn (wsV RX5 80 RX5 yX5_tries wsX5_tries) := goodIn_app (goodIn_of _ (by decide +kernel)) ggX5_fineIn_X5_tries
set_option maxRecDepth 20000 in
theorem ggX5_fineIn_X5_passes : GoodIn wsX5_fineIn wsX5_passes := goodIn_r _ [25, 15, 7, 1, 16, 17, 26, 27, 28, 29, 30, 31, 32, 33, 34, 35, 36, 37, 38, 39] (by decide +kernel) (by decide +kernel)
set_option maxRecDepth 20000 in
theorem gX5_fineIn_X5_passes : GoodIn wsX5_fineIn (wsV RX5 84 RX5 yX5_passes wsX5_passes) := goodIn_app (goodIn_of _ (by decide +kernel)) ggX5_fineIn_X5_passes
theorem dX5_fineIn_0 : decode cX5_fineIn 0 = .ok (.aload_n 0, 1) := by decide +kernel
theorem dX5_fineIn_1 : decode cX5_fineIn 1 = .ok (.iload_n 1, 1) := by decide +kernel
theorem dX5_fineIn_2 : decode cX5_fineIn 2 = .ok (.invokevirtual 88, 3) := by decide +kernel
theorem dX5_fineIn_5 : decode cX5_fineIn 5 = .ok (.ifCond .ne 5, 3) := by decide +kernel
theorem dX5_fineIn_8 : decode cX5_fineIn 8 = .ok (.iconst (-1), 1) := by decide +kernel
theorem dX5_fineIn_9 : decode cX5_fineIn 9 = .ok (.ireturn, 1) := by decide +kernel
theorem dX5_fineIn_10 : decode cX5_fineIn 10 = .ok (.iload_n 2, 1) := by decide +kernel
theorem dX5_fineIn_11 : decode cX5_fineIn 11 = .ok (.i2l, 1) := by decide +kernel
theorem dX5_fineIn_12 : decode cX5_fineIn 12 = .ok (.iconst 0, 1) := by decide +kernel
theorem dX5_fineIn_13 : decode cX5_fineIn 13 = .ok (.sipush 999, 3) := by decide +kernel
theorem dX5_fineIn_16 : decode cX5_fineIn 16 = .ok (.invokestatic 32, 3) := by decide +kernel
theorem dX5_fineIn_19 : decode cX5_fineIn 19 = .ok (.ifCond .ne 6, 3) := by decide +kernel
theorem dX5_fineIn_22 : decode cX5_fineIn 22 = .ok (.bipush (-2), 2) := by decide +kernel
theorem dX5_fineIn_24 : decode cX5_fineIn 24 = .ok (.ireturn, 1) := by decide +kernel
theorem dX5_fineIn_25 : decode cX5_fineIn 25 = .ok (.aload_n 0, 1) := by decide +kernel
theorem dX5_fineIn_26 : decode cX5_fineIn 26 = .ok (.iload_n 1, 1) := by decide +kernel
theorem dX5_fineIn_27 : decode cX5_fineIn 27 = .ok (.invokevirtual 80, 3) := by decide +kernel
theorem dX5_fineIn_30 : decode cX5_fineIn 30 = .ok (.iconst 0, 1) := by decide +kernel
theorem dX5_fineIn_31 : decode cX5_fineIn 31 = .ok (.istore_n 3, 1) := by decide +kernel
theorem dX5_fineIn_32 : decode cX5_fineIn 32 = .ok (.iload_n 3, 1) := by decide +kernel
theorem dX5_fineIn_33 : decode cX5_fineIn 33 = .ok (.iload_n 2, 1) := by decide +kernel
theorem dX5_fineIn_34 : decode cX5_fineIn 34 = .ok (.if_icmp .ge 15, 3) := by decide +kernel
theorem dX5_fineIn_37 : decode cX5_fineIn 37 = .ok (.aload_n 0, 1) := by decide +kernel
theorem dX5_fineIn_38 : decode cX5_fineIn 38 = .ok (.invokevirtual 84, 3) := by decide +kernel
theorem dX5_fineIn_41 : decode cX5_fineIn 41 = .ok (.istore 4, 2) := by decide +kernel
theorem dX5_fineIn_43 : decode cX5_fineIn 43 = .ok (.iinc 3 1, 3) := by decide +kernel
theorem dX5_fineIn_46 : decode cX5_fineIn 46 = .ok (.goto (-14), 3) := by decide +kernel
theorem dX5_fineIn_49 : decode cX5_fineIn 49 = .ok (.aload_n 0, 1) := by decide +kernel
theorem dX5_fineIn_50 : decode cX5_fineIn 50 = .ok (.getfield 70, 3) := by decide +kernel
theorem dX5_fineIn_53 : decode cX5_fineIn 53 = .ok (.ireturn, 1) := by decide +kernel
set_option maxRecDepth 20000 in
theorem ggX5_isSteady_X5_held : GoodIn wsX5_isSteady wsX5_held := goodIn_r _ [8, 9] (by decide +kernel) (by decide +kernel)
set_option maxRecDepth 20000 in
theorem gX5_isSteady_X5_held : GoodIn wsX5_isSteady (va_wsS RX5 60 yX5_held wsX5_held) := goodIn_app (goodIn_of _ (by decide +kernel)) ggX5_isSteady_X5_held
set_option maxRecDepth 20000 in
theorem ggX5_isSteady_X5_passes : GoodIn wsX5_isSteady wsX5_passes := goodIn_r _ [13, 2, 4, 1, 3, 14, 15, 16, 17, 18, 19, 20, 21, 22, 23, 24, 25, 26, 27, 28] (by decide +kernel) (by decide +kernel)
set_option maxRecDepth 20000 in
theorem gX5_isSteady_X5_passes : GoodIn wsX5_isSteady (wsV RX5 84 RX5 yX5_passes wsX5_passes) := goodIn_app (goodIn_of _ (by decide +kernel)) ggX5_isSteady_X5_passes
theorem dX5_isSteady_0 : decode cX5_isSteady 0 = .ok (.aload_n 0, 1) := by decide +kernel
theorem dX5_isSteady_1 : decode cX5_isSteady 1 = .ok (.iconst 0, 1) := by decide +kernel
theorem dX5_isSteady_2 : decode cX5_isSteady 2 = .ok (.putfield 70, 3) := by decide +kernel
theorem dX5_isSteady_5 : decode cX5_isSteady 5 = .ok (.aload_n 0, 1) := by decide +kernel
theorem dX5_isSteady_6 : decode cX5_isSteady 6 = .ok (.iconst 0, 1) := by decide +kernel
theorem dX5_isSteady_7 : decode cX5_isSteady 7 = .ok (.putfield 67, 3) := by decide +kernel
theorem dX5_isSteady_10 : decode cX5_isSteady 10 = .ok (.aload_n 0, 1) := by decide +kernel
theorem dX5_isSteady_11 : decode cX5_isSteady 11 = .ok (.iconst 0, 1) := by decide +kernel
theorem dX5_isSteady_12 : decode cX5_isSteady 12 = .ok (.putfield 73, 3) := by decide +kernel
theorem dX5_isSteady_15 : decode cX5_isSteady 15 = .ok (.iconst 0, 1) := by decide +kernel
theorem dX5_isSteady_16 : decode cX5_isSteady 16 = .ok (.istore_n 2, 1) := by decide +kernel
theorem dX5_isSteady_17 : decode cX5_isSteady 17 = .ok (.iload_n 2, 1) := by decide +kernel
theorem dX5_isSteady_18 : decode cX5_isSteady 18 = .ok (.bipush 80, 2) := by decide +kernel
theorem dX5_isSteady_20 : decode cX5_isSteady 20 = .ok (.if_icmp .ge 71, 3) := by decide +kernel
theorem dX5_isSteady_23 : decode cX5_isSteady 23 = .ok (.aload_n 0, 1) := by decide +kernel
theorem dX5_isSteady_24 : decode cX5_isSteady 24 = .ok (.aload_n 0, 1) := by decide +kernel
theorem dX5_isSteady_25 : decode cX5_isSteady 25 = .ok (.getfield 70, 3) := by decide +kernel
theorem dX5_isSteady_28 : decode cX5_isSteady 28 = .ok (.aload_n 0, 1) := by decide +kernel
theorem dX5_isSteady_29 : decode cX5_isSteady 29 = .ok (.getfield 7, 3) := by decide +kernel
theorem dX5_isSteady_32 : decode cX5_isSteady 32 = .ok (.iload_n 2, 1) := by decide +kernel
theorem dX5_isSteady_33 : decode cX5_isSteady 33 = .ok (.iconst 2, 1) := by decide +kernel
theorem dX5_isSteady_34 : decode cX5_isSteady 34 = .ok (.irem, 1) := by decide +kernel
theorem dX5_isSteady_35 : decode cX5_isSteady 35 = .ok (.ifCond .ne 7, 3) := by decide +kernel
theorem dX5_isSteady_38 : decode cX5_isSteady 38 = .ok (.iconst 0, 1) := by decide +kernel
theorem dX5_isSteady_39 : decode cX5_isSteady 39 = .ok (.goto 4, 3) := by decide +kernel
theorem dX5_isSteady_42 : decode cX5_isSteady 42 = .ok (.iconst 1, 1) := by decide +kernel
theorem dX5_isSteady_43 : decode cX5_isSteady 43 = .ok (.iaload, 1) := by decide +kernel
theorem dX5_isSteady_44 : decode cX5_isSteady 44 = .ok (.iadd, 1) := by decide +kernel
theorem dX5_isSteady_45 : decode cX5_isSteady 45 = .ok (.invokestatic 60, 3) := by decide +kernel
theorem dX5_isSteady_48 : decode cX5_isSteady 48 = .ok (.putfield 70, 3) := by decide +kernel
theorem dX5_isSteady_51 : decode cX5_isSteady 51 = .ok (.aload_n 0, 1) := by decide +kernel
theorem dX5_isSteady_52 : decode cX5_isSteady 52 = .ok (.getfield 70, 3) := by decide +kernel
theorem dX5_isSteady_55 : decode cX5_isSteady 55 = .ok (.aload_n 0, 1) := by decide +kernel
theorem dX5_isSteady_56 : decode cX5_isSteady 56 = .ok (.getfield 7, 3) := by decide +kernel
theorem dX5_isSteady_59 : decode cX5_isSteady 59 = .ok (.iconst 4, 1) := by decide +kernel
theorem dX5_isSteady_60 : decode cX5_isSteady 60 = .ok (.iaload, 1) := by decide +kernel
theorem dX5_isSteady_61 : decode cX5_isSteady 61 = .ok (.if_icmp .le 5, 3) := by decide +kernel
theorem dX5_isSteady_64 : decode cX5_isSteady 64 = .ok (.iconst 0, 1) := by decide +kernel
theorem dX5_isSteady_65 : decode cX5_isSteady 65 = .ok (.ireturn, 1) := by decide +kernel
theorem dX5_isSteady_66 : decode cX5_isSteady 66 = .ok (.iconst 0, 1) := by decide +kernel
theorem dX5_isSteady_67 : decode cX5_isSteady 67 = .ok (.istore_n 3, 1) := by decide +kernel
theorem dX5_isSteady_68 : decode cX5_isSteady 68 = .ok (.iload_n 3, 1) := by decide +kernel
theorem dX5_isSteady_69 : decode cX5_isSteady 69 = .ok (.iload_n 1, 1) := by decide +kernel
theorem dX5_isSteady_70 : decode cX5_isSteady 70 = .ok (.if_icmp .ge 15, 3) := by decide +kernel
theorem dX5_isSteady_73 : decode cX5_isSteady 73 = .ok (.aload_n 0, 1) := by decide +kernel
theorem dX5_isSteady_74 : decode cX5_isSteady 74 = .ok (.invokevirtual 84, 3) := by decide +kernel
theorem dX5_isSteady_77 : decode cX5_isSteady 77 = .ok (.istore 4, 2) := by decide +kernel
theorem dX5_isSteady_79 : decode cX5_isSteady 79 = .ok (.iinc 3 1, 3) := by decide +kernel
theorem dX5_isSteady_82 : decode cX5_isSteady 82 = .ok (.goto (-14), 3) := by decide +kernel
theorem dX5_isSteady_85 : decode cX5_isSteady 85 = .ok (.iinc 2 1, 3) := by decide +kernel
theorem dX5_isSteady_88 : decode cX5_isSteady 88 = .ok (.goto (-71), 3) := by decide +kernel
theorem dX5_isSteady_91 : decode cX5_isSteady 91 = .ok (.iconst 1, 1) := by decide +kernel
theorem dX5_isSteady_92 : decode cX5_isSteady 92 = .ok (.ireturn, 1) := by decide +kernel
set_option maxRecDepth 20000 in
theorem ggX5_steady_X5_isSteady : GoodIn wsX5_steady wsX5_isSteady := goodIn_r _ [5, 6, 7, 8, 9, 10, 11, 4, 12, 13, 14, 15, 16, 17, 18, 19, 20, 21, 22, 23, 24, 25, 26, 27, 28, 29, 30, 31, 32] (by decide +kernel) (by decide +kernel)
set_option maxRecDepth 20000 in
theorem gX5_steady_X5_isSteady : GoodIn wsX5_steady (wsV RX5 120 RX5 yX5_isSteady wsX5_isSteady) := goodIn_app (goodIn_of _ (by decide +kernel)) ggX5_steady_X5_isSteady
theorem dX5_steady_0 : decode cX5_steady 0 = .ok (.iconst 0, 1) := by decide +kernel
theorem dX5_steady_1 : decode cX5_steady 1 = .ok (.istore_n 1, 1) := by decide +kernel
theorem dX5_steady_2 : decode cX5_steady 2 = .ok (.iload_n 1, 1) := by decide +kernel
theorem dX5_steady_3 : decode cX5_steady 3 = .ok (.sipush 200, 3) := by decide +kernel
theorem dX5_steady_6 : decode cX5_steady 6 = .ok (.if_icmp .gt 19, 3) := by decide +kernel
theorem dX5_steady_9 : decode cX5_steady 9 = .ok (.aload_n 0, 1) := by decide +kernel
theorem dX5_steady_10 : decode cX5_steady 10 = .ok (.iload_n 1, 1) := by decide +kernel
theorem dX5_steady_11 : decode cX5_steady 11 = .ok (.invokevirtual 120, 3) := by decide +kernel
theorem dX5_steady_14 : decode cX5_steady 14 = .ok (.ifCond .eq 5, 3) := by decide +kernel
theorem dX5_steady_17 : decode cX5_steady 17 = .ok (.iload_n 1, 1) := by decide +kernel
theorem dX5_steady_18 : decode cX5_steady 18 = .ok (.ireturn, 1) := by decide +kernel
theorem dX5_steady_19 : decode cX5_steady 19 = .ok (.iinc 1 1, 3) := by decide +kernel
theorem dX5_steady_22 : decode cX5_steady 22 = .ok (.goto (-20), 3) := by decide +kernel
theorem dX5_steady_25 : decode cX5_steady 25 = .ok (.bipush (-6), 2) := by decide +kernel
theorem dX5_steady_27 : decode cX5_steady 27 = .ok (.ireturn, 1) := by decide +kernel
set_option maxRecDepth 20000 in
theorem ggX5_put_X5_in : GoodIn wsX5_put wsX5_in := goodIn_r _ [8] (by decide +kernel) (by decide +kernel)
set_option maxRecDepth 20000 in
theorem gX5_put_X5_in : GoodIn wsX5_put (va_wsS RX5 32 yX5_in wsX5_in) := goodIn_app (goodIn_of _ (by decide +kernel)) ggX5_put_X5_in
theorem dX5_put_0 : decode cX5_put 0 = .ok (.lload_n 1, 1) := by decide +kernel
theorem dX5_put_1 : decode cX5_put 1 = .ok (.lstore_n 3, 1) := by decide +kernel
theorem dX5_put_2 : decode cX5_put 2 = .ok (.iconst 0, 1) := by decide +kernel
theorem dX5_put_3 : decode cX5_put 3 = .ok (.istore 5, 2) := by decide +kernel
theorem dX5_put_5 : decode cX5_put 5 = .ok (.lload_n 3, 1) := by decide +kernel
theorem dX5_put_6 : decode cX5_put 6 = .ok (.lconst 0, 1) := by decide +kernel
theorem dX5_put_7 : decode cX5_put 7 = .ok (.lcmp, 1) := by decide +kernel
theorem dX5_put_8 : decode cX5_put 8 = .ok (.ifCond .eq 55, 3) := by decide +kernel
theorem dX5_put_11 : decode cX5_put 11 = .ok (.iload 5, 2) := by decide +kernel
theorem dX5_put_13 : decode cX5_put 13 = .ok (.bipush 8, 2) := by decide +kernel
theorem dX5_put_15 : decode cX5_put 15 = .ok (.if_icmp .ge 48, 3) := by decide +kernel
theorem dX5_put_18 : decode cX5_put 18 = .ok (.aload_n 0, 1) := by decide +kernel
theorem dX5_put_19 : decode cX5_put 19 = .ok (.getfield 29, 3) := by decide +kernel
theorem dX5_put_22 : decode cX5_put 22 = .ok (.iload 5, 2) := by decide +kernel
theorem dX5_put_24 : decode cX5_put 24 = .ok (.lload_n 3, 1) := by decide +kernel
theorem dX5_put_25 : decode cX5_put 25 = .ok (.ldc2_w 123, 3) := by decide +kernel
theorem dX5_put_28 : decode cX5_put 28 = .ok (.land, 1) := by decide +kernel
theorem dX5_put_29 : decode cX5_put 29 = .ok (.l2i, 1) := by decide +kernel
theorem dX5_put_30 : decode cX5_put 30 = .ok (.iastore, 1) := by decide +kernel
theorem dX5_put_31 : decode cX5_put 31 = .ok (.aload_n 0, 1) := by decide +kernel
theorem dX5_put_32 : decode cX5_put 32 = .ok (.getfield 29, 3) := by decide +kernel
theorem dX5_put_35 : decode cX5_put 35 = .ok (.iload 5, 2) := by decide +kernel
theorem dX5_put_37 : decode cX5_put 37 = .ok (.iaload, 1) := by decide +kernel
theorem dX5_put_38 : decode cX5_put 38 = .ok (.i2l, 1) := by decide +kernel
theorem dX5_put_39 : decode cX5_put 39 = .ok (.bipush 33, 2) := by decide +kernel
theorem dX5_put_41 : decode cX5_put 41 = .ok (.bipush 126, 2) := by decide +kernel
theorem dX5_put_43 : decode cX5_put 43 = .ok (.invokestatic 32, 3) := by decide +kernel
theorem dX5_put_46 : decode cX5_put 46 = .ok (.ifCond .ne 6, 3) := by decide +kernel
theorem dX5_put_49 : decode cX5_put 49 = .ok (.bipush (-2), 2) := by decide +kernel
theorem dX5_put_51 : decode cX5_put 51 = .ok (.ireturn, 1) := by decide +kernel
theorem dX5_put_52 : decode cX5_put 52 = .ok (.lload_n 3, 1) := by decide +kernel
theorem dX5_put_53 : decode cX5_put 53 = .ok (.bipush 8, 2) := by decide +kernel
theorem dX5_put_55 : decode cX5_put 55 = .ok (.lushr, 1) := by decide +kernel
theorem dX5_put_56 : decode cX5_put 56 = .ok (.lstore_n 3, 1) := by decide +kernel
theorem dX5_put_57 : decode cX5_put 57 = .ok (.iinc 5 1, 3) := by decide +kernel
theorem dX5_put_60 : decode cX5_put 60 = .ok (.goto (-55), 3) := by decide +kernel
theorem dX5_put_63 : decode cX5_put 63 = .ok (.iload 5, 2) := by decide +kernel
theorem dX5_put_65 : decode cX5_put 65 = .ok (.ifCond .ne 6, 3) := by decide +kernel
theorem dX5_put_68 : decode cX5_put 68 = .ok (.bipush (-2), 2) := by decide +kernel
theorem dX5_put_70 : decode cX5_put 70 = .ok (.ireturn, 1) := by decide +kernel
theorem dX5_put_71 : decode cX5_put 71 = .ok (.aload_n 0, 1) := by decide +kernel
theorem dX5_put_72 : decode cX5_put 72 = .ok (.getfield 114, 3) := by decide +kernel
theorem dX5_put_75 : decode cX5_put 75 = .ok (.iload 5, 2) := by decide +kernel
theorem dX5_put_77 : decode cX5_put 77 = .ok (.iadd, 1) := by decide +kernel
theorem dX5_put_78 : decode cX5_put 78 = .ok (.bipush 80, 2) := by decide +kernel
theorem dX5_put_80 : decode cX5_put 80 = .ok (.if_icmp .le 6, 3) := by decide +kernel
theorem dX5_put_83 : decode cX5_put 83 = .ok (.bipush (-4), 2) := by decide +kernel
theorem dX5_put_85 : decode cX5_put 85 = .ok (.ireturn, 1) := by decide +kernel
theorem dX5_put_86 : decode cX5_put 86 = .ok (.iload 5, 2) := by decide +kernel
theorem dX5_put_88 : decode cX5_put 88 = .ok (.iconst 1, 1) := by decide +kernel
theorem dX5_put_89 : decode cX5_put 89 = .ok (.isub, 1) := by decide +kernel
theorem dX5_put_90 : decode cX5_put 90 = .ok (.istore 6, 2) := by decide +kernel
theorem dX5_put_92 : decode cX5_put 92 = .ok (.iload 6, 2) := by decide +kernel
theorem dX5_put_94 : decode cX5_put 94 = .ok (.ifCond .lt 35, 3) := by decide +kernel
theorem dX5_put_97 : decode cX5_put 97 = .ok (.aload_n 0, 1) := by decide +kernel
theorem dX5_put_98 : decode cX5_put 98 = .ok (.getfield 26, 3) := by decide +kernel
theorem dX5_put_101 : decode cX5_put 101 = .ok (.aload_n 0, 1) := by decide +kernel
theorem dX5_put_102 : decode cX5_put 102 = .ok (.getfield 114, 3) := by decide +kernel
theorem dX5_put_105 : decode cX5_put 105 = .ok (.aload_n 0, 1) := by decide +kernel
theorem dX5_put_106 : decode cX5_put 106 = .ok (.getfield 29, 3) := by decide +kernel
theorem dX5_put_109 : decode cX5_put 109 = .ok (.iload 6, 2) := by decide +kernel
theorem dX5_put_111 : decode cX5_put 111 = .ok (.iaload, 1) := by decide +kernel
theorem dX5_put_112 : decode cX5_put 112 = .ok (.iastore, 1) := by decide +kernel
theorem dX5_put_113 : decode cX5_put 113 = .ok (.aload_n 0, 1) := by decide +kernel
theorem dX5_put_114 : decode cX5_put 114 = .ok (.dup, 1) := by decide +kernel
theorem dX5_put_115 : decode cX5_put 115 = .ok (.getfield 114, 3) := by decide +kernel
theorem dX5_put_118 : decode cX5_put 118 = .ok (.iconst 1, 1) := by decide +kernel
theorem dX5_put_119 : decode cX5_put 119 = .ok (.iadd, 1) := by decide +kernel
theorem dX5_put_120 : decode cX5_put 120 = .ok (.putfield 114, 3) := by decide +kernel
theorem dX5_put_123 : decode cX5_put 123 = .ok (.iinc 6 (-1), 3) := by decide +kernel
theorem dX5_put_126 : decode cX5_put 126 = .ok (.goto (-34), 3) := by decide +kernel
theorem dX5_put_129 : decode cX5_put 129 = .ok (.aload_n 0, 1) := by decide +kernel
theorem dX5_put_130 : decode cX5_put 130 = .ok (.getfield 114, 3) := by decide +kernel
theorem dX5_put_133 : decode cX5_put 133 = .ok (.ireturn, 1) := by decide +kernel
theorem dX5_wipe_0 : decode cX5_wipe 0 = .ok (.aload_n 0, 1) := by decide +kernel
theorem dX5_wipe_1 : decode cX5_wipe 1 = .ok (.getfield 114, 3) := by decide +kernel
theorem dX5_wipe_4 : decode cX5_wipe 4 = .ok (.istore_n 1, 1) := by decide +kernel
theorem dX5_wipe_5 : decode cX5_wipe 5 = .ok (.aload_n 0, 1) := by decide +kernel
theorem dX5_wipe_6 : decode cX5_wipe 6 = .ok (.iconst 0, 1) := by decide +kernel
theorem dX5_wipe_7 : decode cX5_wipe 7 = .ok (.putfield 114, 3) := by decide +kernel
theorem dX5_wipe_10 : decode cX5_wipe 10 = .ok (.iload_n 1, 1) := by decide +kernel
theorem dX5_wipe_11 : decode cX5_wipe 11 = .ok (.ireturn, 1) := by decide +kernel
set_option maxRecDepth 20000 in
theorem ggX5_sees_X5_in : GoodIn wsX5_sees wsX5_in := goodIn_r _ [7] (by decide +kernel) (by decide +kernel)
set_option maxRecDepth 20000 in
theorem gX5_sees_X5_in : GoodIn wsX5_sees (va_wsS RX5 32 yX5_in wsX5_in) := goodIn_app (goodIn_of _ (by decide +kernel)) ggX5_sees_X5_in
theorem dX5_sees_0 : decode cX5_sees 0 = .ok (.aload_n 0, 1) := by decide +kernel
theorem dX5_sees_1 : decode cX5_sees 1 = .ok (.getfield 125, 3) := by decide +kernel
theorem dX5_sees_4 : decode cX5_sees 4 = .ok (.aload_n 0, 1) := by decide +kernel
theorem dX5_sees_5 : decode cX5_sees 5 = .ok (.getfield 114, 3) := by decide +kernel
theorem dX5_sees_8 : decode cX5_sees 8 = .ok (.if_icmp .ge 25, 3) := by decide +kernel
theorem dX5_sees_11 : decode cX5_sees 11 = .ok (.aload_n 0, 1) := by decide +kernel
theorem dX5_sees_12 : decode cX5_sees 12 = .ok (.getfield 26, 3) := by decide +kernel
theorem dX5_sees_15 : decode cX5_sees 15 = .ok (.aload_n 0, 1) := by decide +kernel
theorem dX5_sees_16 : decode cX5_sees 16 = .ok (.getfield 125, 3) := by decide +kernel
theorem dX5_sees_19 : decode cX5_sees 19 = .ok (.iaload, 1) := by decide +kernel
theorem dX5_sees_20 : decode cX5_sees 20 = .ok (.i2l, 1) := by decide +kernel
theorem dX5_sees_21 : decode cX5_sees 21 = .ok (.iload_n 1, 1) := by decide +kernel
theorem dX5_sees_22 : decode cX5_sees 22 = .ok (.iload_n 2, 1) := by decide +kernel
theorem dX5_sees_23 : decode cX5_sees 23 = .ok (.invokestatic 32, 3) := by decide +kernel
theorem dX5_sees_26 : decode cX5_sees 26 = .ok (.ifCond .eq 7, 3) := by decide +kernel
theorem dX5_sees_29 : decode cX5_sees 29 = .ok (.iconst 1, 1) := by decide +kernel
theorem dX5_sees_30 : decode cX5_sees 30 = .ok (.goto 4, 3) := by decide +kernel
theorem dX5_sees_33 : decode cX5_sees 33 = .ok (.iconst 0, 1) := by decide +kernel
theorem dX5_sees_34 : decode cX5_sees 34 = .ok (.ireturn, 1) := by decide +kernel
set_option maxRecDepth 20000 in
theorem ggX5_number_X5_sees : GoodIn wsX5_number wsX5_sees := goodIn_r _ [7, 2, 8, 1, 9, 10, 6, 11, 12, 13, 14, 15, 16, 17, 18, 19, 20, 21, 22, 23, 24, 25] (by decide +kernel) (by decide +kernel)
set_option maxRecDepth 20000 in
theorem gX5_number_X5_sees : GoodIn wsX5_number (wsV RX5 128 RX5 yX5_sees wsX5_sees) := goodIn_app (goodIn_of _ (by decide +kernel)) ggX5_number_X5_sees
theorem dX5_number_0 : decode cX5_number 0 = .ok (.aload_n 0, 1) := by decide +kernel
theorem dX5_number_1 : decode cX5_number 1 = .ok (.getfield 26, 3) := by decide +kernel
theorem dX5_number_4 : decode cX5_number 4 = .ok (.aload_n 0, 1) := by decide +kernel
theorem dX5_number_5 : decode cX5_number 5 = .ok (.getfield 125, 3) := by decide +kernel
theorem dX5_number_8 : decode cX5_number 8 = .ok (.iaload, 1) := by decide +kernel
theorem dX5_number_9 : decode cX5_number 9 = .ok (.bipush 48, 2) := by decide +kernel
theorem dX5_number_11 : decode cX5_number 11 = .ok (.isub, 1) := by decide +kernel
theorem dX5_number_12 : decode cX5_number 12 = .ok (.istore_n 1, 1) := by decide +kernel
theorem dX5_number_13 : decode cX5_number 13 = .ok (.aload_n 0, 1) := by decide +kernel
theorem dX5_number_14 : decode cX5_number 14 = .ok (.dup, 1) := by decide +kernel
theorem dX5_number_15 : decode cX5_number 15 = .ok (.getfield 125, 3) := by decide +kernel
theorem dX5_number_18 : decode cX5_number 18 = .ok (.iconst 1, 1) := by decide +kernel
theorem dX5_number_19 : decode cX5_number 19 = .ok (.iadd, 1) := by decide +kernel
theorem dX5_number_20 : decode cX5_number 20 = .ok (.putfield 125, 3) := by decide +kernel
theorem dX5_number_23 : decode cX5_number 23 = .ok (.iload_n 1, 1) := by decide +kernel
theorem dX5_number_24 : decode cX5_number 24 = .ok (.ifCond .le 68, 3) := by decide +kernel
theorem dX5_number_27 : decode cX5_number 27 = .ok (.aload_n 0, 1) := by decide +kernel
theorem dX5_number_28 : decode cX5_number 28 = .ok (.bipush 48, 2) := by decide +kernel
theorem dX5_number_30 : decode cX5_number 30 = .ok (.bipush 57, 2) := by decide +kernel
theorem dX5_number_32 : decode cX5_number 32 = .ok (.invokevirtual 128, 3) := by decide +kernel
theorem dX5_number_35 : decode cX5_number 35 = .ok (.ifCond .eq 57, 3) := by decide +kernel
theorem dX5_number_38 : decode cX5_number 38 = .ok (.bipush 10, 2) := by decide +kernel
theorem dX5_number_40 : decode cX5_number 40 = .ok (.iload_n 1, 1) := by decide +kernel
theorem dX5_number_41 : decode cX5_number 41 = .ok (.imul, 1) := by decide +kernel
theorem dX5_number_42 : decode cX5_number 42 = .ok (.aload_n 0, 1) := by decide +kernel
theorem dX5_number_43 : decode cX5_number 43 = .ok (.getfield 26, 3) := by decide +kernel
theorem dX5_number_46 : decode cX5_number 46 = .ok (.aload_n 0, 1) := by decide +kernel
theorem dX5_number_47 : decode cX5_number 47 = .ok (.getfield 125, 3) := by decide +kernel
theorem dX5_number_50 : decode cX5_number 50 = .ok (.iaload, 1) := by decide +kernel
theorem dX5_number_51 : decode cX5_number 51 = .ok (.iadd, 1) := by decide +kernel
theorem dX5_number_52 : decode cX5_number 52 = .ok (.bipush 48, 2) := by decide +kernel
theorem dX5_number_54 : decode cX5_number 54 = .ok (.isub, 1) := by decide +kernel
theorem dX5_number_55 : decode cX5_number 55 = .ok (.sipush 999, 3) := by decide +kernel
theorem dX5_number_58 : decode cX5_number 58 = .ok (.if_icmp .gt 34, 3) := by decide +kernel
theorem dX5_number_61 : decode cX5_number 61 = .ok (.bipush 10, 2) := by decide +kernel
theorem dX5_number_63 : decode cX5_number 63 = .ok (.iload_n 1, 1) := by decide +kernel
theorem dX5_number_64 : decode cX5_number 64 = .ok (.imul, 1) := by decide +kernel
theorem dX5_number_65 : decode cX5_number 65 = .ok (.aload_n 0, 1) := by decide +kernel
theorem dX5_number_66 : decode cX5_number 66 = .ok (.getfield 26, 3) := by decide +kernel
theorem dX5_number_69 : decode cX5_number 69 = .ok (.aload_n 0, 1) := by decide +kernel
theorem dX5_number_70 : decode cX5_number 70 = .ok (.getfield 125, 3) := by decide +kernel
theorem dX5_number_73 : decode cX5_number 73 = .ok (.iaload, 1) := by decide +kernel
theorem dX5_number_74 : decode cX5_number 74 = .ok (.iadd, 1) := by decide +kernel
theorem dX5_number_75 : decode cX5_number 75 = .ok (.bipush 48, 2) := by decide +kernel
theorem dX5_number_77 : decode cX5_number 77 = .ok (.isub, 1) := by decide +kernel
theorem dX5_number_78 : decode cX5_number 78 = .ok (.istore_n 1, 1) := by decide +kernel
theorem dX5_number_79 : decode cX5_number 79 = .ok (.aload_n 0, 1) := by decide +kernel
theorem dX5_number_80 : decode cX5_number 80 = .ok (.dup, 1) := by decide +kernel
theorem dX5_number_81 : decode cX5_number 81 = .ok (.getfield 125, 3) := by decide +kernel
theorem dX5_number_84 : decode cX5_number 84 = .ok (.iconst 1, 1) := by decide +kernel
theorem dX5_number_85 : decode cX5_number 85 = .ok (.iadd, 1) := by decide +kernel
theorem dX5_number_86 : decode cX5_number 86 = .ok (.putfield 125, 3) := by decide +kernel
theorem dX5_number_89 : decode cX5_number 89 = .ok (.goto (-66), 3) := by decide +kernel
theorem dX5_number_92 : decode cX5_number 92 = .ok (.iload_n 1, 1) := by decide +kernel
theorem dX5_number_93 : decode cX5_number 93 = .ok (.ireturn, 1) := by decide +kernel
theorem dX5_digit_0 : decode cX5_digit 0 = .ok (.aload_n 0, 1) := by decide +kernel
theorem dX5_digit_1 : decode cX5_digit 1 = .ok (.dup, 1) := by decide +kernel
theorem dX5_digit_2 : decode cX5_digit 2 = .ok (.getfield 125, 3) := by decide +kernel
theorem dX5_digit_5 : decode cX5_digit 5 = .ok (.iconst 1, 1) := by decide +kernel
theorem dX5_digit_6 : decode cX5_digit 6 = .ok (.iadd, 1) := by decide +kernel
theorem dX5_digit_7 : decode cX5_digit 7 = .ok (.putfield 125, 3) := by decide +kernel
theorem dX5_digit_10 : decode cX5_digit 10 = .ok (.aload_n 0, 1) := by decide +kernel
theorem dX5_digit_11 : decode cX5_digit 11 = .ok (.getfield 26, 3) := by decide +kernel
theorem dX5_digit_14 : decode cX5_digit 14 = .ok (.aload_n 0, 1) := by decide +kernel
theorem dX5_digit_15 : decode cX5_digit 15 = .ok (.getfield 125, 3) := by decide +kernel
theorem dX5_digit_18 : decode cX5_digit 18 = .ok (.iconst 1, 1) := by decide +kernel
theorem dX5_digit_19 : decode cX5_digit 19 = .ok (.isub, 1) := by decide +kernel
theorem dX5_digit_20 : decode cX5_digit 20 = .ok (.iaload, 1) := by decide +kernel
theorem dX5_digit_21 : decode cX5_digit 21 = .ok (.bipush 48, 2) := by decide +kernel
theorem dX5_digit_23 : decode cX5_digit 23 = .ok (.isub, 1) := by decide +kernel
theorem dX5_digit_24 : decode cX5_digit 24 = .ok (.ireturn, 1) := by decide +kernel
set_option maxRecDepth 20000 in
theorem ggX5_order_X5_sees : GoodIn wsX5_order wsX5_sees := goodIn_r _ [8, 1, 2, 3, 9, 10, 7, 11, 81, 82, 83, 84, 85, 86, 87, 88, 89, 90, 91, 92, 93, 94] (by decide +kernel) (by decide +kernel)
set_option maxRecDepth 20000 in
theorem gX5_order_X5_sees : GoodIn wsX5_order (wsV RX5 128 RX5 yX5_sees wsX5_sees) := goodIn_app (goodIn_of _ (by decide +kernel)) ggX5_order_X5_sees
set_option maxRecDepth 20000 in
theorem ggX5_order_X5_number : GoodIn wsX5_order wsX5_number := goodIn_r _ [15, 3, 1, 4, 5, 6, 7, 8, 2, 9, 10, 11, 81, 82, 83, 84, 85, 86, 87, 88, 89, 90, 91, 92, 93, 94] (by decide +kernel) (by decide +kernel)
set_option maxRecDepth 20000 in
theorem gX5_order_X5_number : GoodIn wsX5_order (wsV RX5 132 RX5 yX5_number wsX5_number) := goodIn_app (goodIn_of _ (by decide +kernel)) ggX5_order_X5_number
set_option maxRecDepth 20000 in
theorem ggX5_order_X5_digit : GoodIn wsX5_order wsX5_digit := goodIn_r _ [19, 1, 3, 81, 82, 83, 84, 85, 86, 87, 88, 89, 90, 91, 92, 93, 94] (by decide +kernel) (by decide +kernel)
set_option maxRecDepth 20000 in
theorem gX5_order_X5_digit : GoodIn wsX5_order (wsV RX5 135 RX5 yX5_digit wsX5_digit) := goodIn_app (goodIn_of _ (by decide +kernel)) ggX5_order_X5_digit
set_option maxRecDepth 20000 in
theorem ggX5_order_X5_comes : GoodIn wsX5_order wsX5_comes := goodIn_r _ [23, 24, 9, 10, 7, 11, 25, 26, 27, 28, 29, 30, 31, 32, 33, 34, 35, 36, 81, 82, 83, 84, 85, 86, 87, 88, 89, 90, 91, 92, 93, 94] (by decide +kernel) (by decide +kernel)
set_option maxRecDepth 20000 in
theorem gX5_order_X5_comes : GoodIn wsX5_order (wsV RX5 99 RX5 yX5_comes wsX5_comes) := goodIn_app (goodIn_of _ (by decide +kernel)) ggX5_order_X5_comes
set_option maxRecDepth 20000 in
theorem ggX5_order_X5_turns : GoodIn wsX5_order wsX5_turns := goodIn_r _ [40, 41, 42, 43, 7, 44, 24, 9, 10, 11, 29, 30, 31, 32, 45, 46, 47, 48, 25, 26, 27, 28, 33, 34, 35, 36, 49, 50, 51, 52, 53, 54, 55, 56, 81, 82, 83, 84, 85, 86, 87, 88, 89, 90, 91, 92, 93, 94] (by decide +kernel) (by decide +kernel)
set_option maxRecDepth 20000 in
theorem gX5_order_X5_turns : GoodIn wsX5_order (wsV RX5 102 RX5 yX5_turns wsX5_turns) := goodIn_app (goodIn_of _ (by decide +kernel)) ggX5_order_X5_turns
set_option maxRecDepth 20000 in
theorem ggX5_order_X5_costs : GoodIn wsX5_order wsX5_costs := goodIn_r _ [60, 41, 42, 43, 7, 44, 24, 9, 10, 11, 29, 30, 31, 32, 45, 46, 47, 48, 25, 26, 27, 28, 33, 34, 35, 36, 49, 50, 51, 52, 53, 54, 55, 56, 81, 82, 83, 84, 85, 86, 87, 88, 89, 90, 91, 92, 93, 94] (by decide +kernel) (by decide +kernel)
set_option maxRecDepth 20000 in
theorem gX5_order_X5_costs : GoodIn wsX5_order (wsV RX5 105 RX5 yX5_costs wsX5_costs) := goodIn_app (goodIn_of _ (by decide +kernel)) ggX5_order_X5_costs
set_option maxRecDepth 20000 in
theorem ggX5_order_X5_waits : GoodIn wsX5_order wsX5_waits := goodIn_r _ [64, 24, 52, 9, 10, 7, 11, 65, 66, 67, 68, 69, 70, 71, 72, 25, 26, 27, 28, 29, 30, 31, 32, 73, 74, 75, 76, 77, 78, 79, 80, 33, 34, 35, 36, 53, 54, 55, 56, 81, 82, 83, 84, 85, 86, 87, 88, 89, 90, 91, 92, 93, 94] (by decide +kernel) (by decide +kernel)
set_option maxRecDepth 20000 in
theorem gX5_order_X5_waits : GoodIn wsX5_order (wsV RX5 108 RX5 yX5_waits wsX5_waits) := goodIn_app (goodIn_of _ (by decide +kernel)) ggX5_order_X5_waits
theorem dX5_order_0 : decode cX5_order 0 = .ok (.aload_n 0, 1) := by decide +kernel
theorem dX5_order_1 : decode cX5_order 1 = .ok (.getfield 125, 3) := by decide +kernel
theorem dX5_order_4 : decode cX5_order 4 = .ok (.aload_n 0, 1) := by decide +kernel
theorem dX5_order_5 : decode cX5_order 5 = .ok (.getfield 114, 3) := by decide +kernel
theorem dX5_order_8 : decode cX5_order 8 = .ok (.if_icmp .ge 15, 3) := by decide +kernel
theorem dX5_order_11 : decode cX5_order 11 = .ok (.aload_n 0, 1) := by decide +kernel
theorem dX5_order_12 : decode cX5_order 12 = .ok (.getfield 26, 3) := by decide +kernel
theorem dX5_order_15 : decode cX5_order 15 = .ok (.aload_n 0, 1) := by decide +kernel
theorem dX5_order_16 : decode cX5_order 16 = .ok (.getfield 125, 3) := by decide +kernel
theorem dX5_order_19 : decode cX5_order 19 = .ok (.iaload, 1) := by decide +kernel
theorem dX5_order_20 : decode cX5_order 20 = .ok (.goto 4, 3) := by decide +kernel
theorem dX5_order_23 : decode cX5_order 23 = .ok (.iconst 0, 1) := by decide +kernel
theorem dX5_order_24 : decode cX5_order 24 = .ok (.istore_n 2, 1) := by decide +kernel
theorem dX5_order_25 : decode cX5_order 25 = .ok (.iload_n 2, 1) := by decide +kernel
theorem dX5_order_26 : decode cX5_order 26 = .ok (.bipush 43, 2) := by decide +kernel
theorem dX5_order_28 : decode cX5_order 28 = .ok (.if_icmp .eq 30, 3) := by decide +kernel
theorem dX5_order_31 : decode cX5_order 31 = .ok (.iload_n 2, 1) := by decide +kernel
theorem dX5_order_32 : decode cX5_order 32 = .ok (.bipush 111, 2) := by decide +kernel
theorem dX5_order_34 : decode cX5_order 34 = .ok (.if_icmp .eq 24, 3) := by decide +kernel
theorem dX5_order_37 : decode cX5_order 37 = .ok (.iload_n 2, 1) := by decide +kernel
theorem dX5_order_38 : decode cX5_order 38 = .ok (.bipush 99, 2) := by decide +kernel
theorem dX5_order_40 : decode cX5_order 40 = .ok (.if_icmp .eq 18, 3) := by decide +kernel
theorem dX5_order_43 : decode cX5_order 43 = .ok (.iload_n 2, 1) := by decide +kernel
theorem dX5_order_44 : decode cX5_order 44 = .ok (.bipush 112, 2) := by decide +kernel
theorem dX5_order_46 : decode cX5_order 46 = .ok (.if_icmp .eq 12, 3) := by decide +kernel
theorem dX5_order_49 : decode cX5_order 49 = .ok (.iload_n 2, 1) := by decide +kernel
theorem dX5_order_50 : decode cX5_order 50 = .ok (.bipush 116, 2) := by decide +kernel
theorem dX5_order_52 : decode cX5_order 52 = .ok (.if_icmp .eq 6, 3) := by decide +kernel
theorem dX5_order_55 : decode cX5_order 55 = .ok (.bipush (-3), 2) := by decide +kernel
theorem dX5_order_57 : decode cX5_order 57 = .ok (.ireturn, 1) := by decide +kernel
theorem dX5_order_58 : decode cX5_order 58 = .ok (.aload_n 0, 1) := by decide +kernel
theorem dX5_order_59 : decode cX5_order 59 = .ok (.dup, 1) := by decide +kernel
theorem dX5_order_60 : decode cX5_order 60 = .ok (.getfield 125, 3) := by decide +kernel
theorem dX5_order_63 : decode cX5_order 63 = .ok (.iconst 1, 1) := by decide +kernel
theorem dX5_order_64 : decode cX5_order 64 = .ok (.iadd, 1) := by decide +kernel
theorem dX5_order_65 : decode cX5_order 65 = .ok (.putfield 125, 3) := by decide +kernel
theorem dX5_order_68 : decode cX5_order 68 = .ok (.aload_n 0, 1) := by decide +kernel
theorem dX5_order_69 : decode cX5_order 69 = .ok (.bipush 48, 2) := by decide +kernel
theorem dX5_order_71 : decode cX5_order 71 = .ok (.bipush 57, 2) := by decide +kernel
theorem dX5_order_73 : decode cX5_order 73 = .ok (.invokevirtual 128, 3) := by decide +kernel
theorem dX5_order_76 : decode cX5_order 76 = .ok (.ifCond .ne 6, 3) := by decide +kernel
theorem dX5_order_79 : decode cX5_order 79 = .ok (.bipush (-3), 2) := by decide +kernel
theorem dX5_order_81 : decode cX5_order 81 = .ok (.ireturn, 1) := by decide +kernel
theorem dX5_order_82 : decode cX5_order 82 = .ok (.iload_n 2, 1) := by decide +kernel
theorem dX5_order_83 : decode cX5_order 83 = .ok (.bipush 43, 2) := by decide +kernel
theorem dX5_order_85 : decode cX5_order 85 = .ok (.if_icmp .eq 9, 3) := by decide +kernel
theorem dX5_order_88 : decode cX5_order 88 = .ok (.iload_n 2, 1) := by decide +kernel
theorem dX5_order_89 : decode cX5_order 89 = .ok (.bipush 116, 2) := by decide +kernel
theorem dX5_order_91 : decode cX5_order 91 = .ok (.if_icmp .ne 10, 3) := by decide +kernel
theorem dX5_order_94 : decode cX5_order 94 = .ok (.aload_n 0, 1) := by decide +kernel
theorem dX5_order_95 : decode cX5_order 95 = .ok (.invokevirtual 132, 3) := by decide +kernel
theorem dX5_order_98 : decode cX5_order 98 = .ok (.goto 7, 3) := by decide +kernel
theorem dX5_order_101 : decode cX5_order 101 = .ok (.aload_n 0, 1) := by decide +kernel
theorem dX5_order_102 : decode cX5_order 102 = .ok (.invokevirtual 135, 3) := by decide +kernel
theorem dX5_order_105 : decode cX5_order 105 = .ok (.istore_n 3, 1) := by decide +kernel
theorem dX5_order_106 : decode cX5_order 106 = .ok (.iconst 0, 1) := by decide +kernel
theorem dX5_order_107 : decode cX5_order 107 = .ok (.istore 4, 2) := by decide +kernel
theorem dX5_order_109 : decode cX5_order 109 = .ok (.iload_n 2, 1) := by decide +kernel
theorem dX5_order_110 : decode cX5_order 110 = .ok (.bipush 112, 2) := by decide +kernel
theorem dX5_order_112 : decode cX5_order 112 = .ok (.if_icmp .ne 47, 3) := by decide +kernel
theorem dX5_order_115 : decode cX5_order 115 = .ok (.aload_n 0, 1) := by decide +kernel
theorem dX5_order_116 : decode cX5_order 116 = .ok (.bipush 61, 2) := by decide +kernel
theorem dX5_order_118 : decode cX5_order 118 = .ok (.bipush 61, 2) := by decide +kernel
theorem dX5_order_120 : decode cX5_order 120 = .ok (.invokevirtual 128, 3) := by decide +kernel
theorem dX5_order_123 : decode cX5_order 123 = .ok (.ifCond .ne 6, 3) := by decide +kernel
theorem dX5_order_126 : decode cX5_order 126 = .ok (.bipush (-3), 2) := by decide +kernel
theorem dX5_order_128 : decode cX5_order 128 = .ok (.ireturn, 1) := by decide +kernel
theorem dX5_order_129 : decode cX5_order 129 = .ok (.aload_n 0, 1) := by decide +kernel
theorem dX5_order_130 : decode cX5_order 130 = .ok (.dup, 1) := by decide +kernel
theorem dX5_order_131 : decode cX5_order 131 = .ok (.getfield 125, 3) := by decide +kernel
theorem dX5_order_134 : decode cX5_order 134 = .ok (.iconst 1, 1) := by decide +kernel
theorem dX5_order_135 : decode cX5_order 135 = .ok (.iadd, 1) := by decide +kernel
theorem dX5_order_136 : decode cX5_order 136 = .ok (.putfield 125, 3) := by decide +kernel
theorem dX5_order_139 : decode cX5_order 139 = .ok (.aload_n 0, 1) := by decide +kernel
theorem dX5_order_140 : decode cX5_order 140 = .ok (.bipush 48, 2) := by decide +kernel
theorem dX5_order_142 : decode cX5_order 142 = .ok (.bipush 57, 2) := by decide +kernel
theorem dX5_order_144 : decode cX5_order 144 = .ok (.invokevirtual 128, 3) := by decide +kernel
theorem dX5_order_147 : decode cX5_order 147 = .ok (.ifCond .ne 6, 3) := by decide +kernel
theorem dX5_order_150 : decode cX5_order 150 = .ok (.bipush (-3), 2) := by decide +kernel
theorem dX5_order_152 : decode cX5_order 152 = .ok (.ireturn, 1) := by decide +kernel
theorem dX5_order_153 : decode cX5_order 153 = .ok (.aload_n 0, 1) := by decide +kernel
theorem dX5_order_154 : decode cX5_order 154 = .ok (.invokevirtual 132, 3) := by decide +kernel
theorem dX5_order_157 : decode cX5_order 157 = .ok (.istore 4, 2) := by decide +kernel
theorem dX5_order_159 : decode cX5_order 159 = .ok (.iload_n 1, 1) := by decide +kernel
theorem dX5_order_160 : decode cX5_order 160 = .ok (.ifCond .ne 5, 3) := by decide +kernel
theorem dX5_order_163 : decode cX5_order 163 = .ok (.iconst 0, 1) := by decide +kernel
theorem dX5_order_164 : decode cX5_order 164 = .ok (.ireturn, 1) := by decide +kernel
theorem dX5_order_165 : decode cX5_order 165 = .ok (.iload_n 2, 1) := by decide +kernel
theorem dX5_order_166 : decode cX5_order 166 = .ok (.bipush 43, 2) := by decide +kernel
theorem dX5_order_168 : decode cX5_order 168 = .ok (.if_icmp .ne 11, 3) := by decide +kernel
theorem dX5_order_171 : decode cX5_order 171 = .ok (.aload_n 0, 1) := by decide +kernel
theorem dX5_order_172 : decode cX5_order 172 = .ok (.iload_n 3, 1) := by decide +kernel
theorem dX5_order_173 : decode cX5_order 173 = .ok (.invokevirtual 99, 3) := by decide +kernel
theorem dX5_order_176 : decode cX5_order 176 = .ok (.goto 54, 3) := by decide +kernel
theorem dX5_order_179 : decode cX5_order 179 = .ok (.iload_n 2, 1) := by decide +kernel
theorem dX5_order_180 : decode cX5_order 180 = .ok (.bipush 111, 2) := by decide +kernel
theorem dX5_order_182 : decode cX5_order 182 = .ok (.if_icmp .ne 12, 3) := by decide +kernel
theorem dX5_order_185 : decode cX5_order 185 = .ok (.aload_n 0, 1) := by decide +kernel
theorem dX5_order_186 : decode cX5_order 186 = .ok (.iload_n 3, 1) := by decide +kernel
theorem dX5_order_187 : decode cX5_order 187 = .ok (.iconst 1, 1) := by decide +kernel
theorem dX5_order_188 : decode cX5_order 188 = .ok (.invokevirtual 102, 3) := by decide +kernel
theorem dX5_order_191 : decode cX5_order 191 = .ok (.goto 39, 3) := by decide +kernel
theorem dX5_order_194 : decode cX5_order 194 = .ok (.iload_n 2, 1) := by decide +kernel
theorem dX5_order_195 : decode cX5_order 195 = .ok (.bipush 99, 2) := by decide +kernel
theorem dX5_order_197 : decode cX5_order 197 = .ok (.if_icmp .ne 12, 3) := by decide +kernel
theorem dX5_order_200 : decode cX5_order 200 = .ok (.aload_n 0, 1) := by decide +kernel
theorem dX5_order_201 : decode cX5_order 201 = .ok (.iload_n 3, 1) := by decide +kernel
theorem dX5_order_202 : decode cX5_order 202 = .ok (.iconst 0, 1) := by decide +kernel
theorem dX5_order_203 : decode cX5_order 203 = .ok (.invokevirtual 102, 3) := by decide +kernel
theorem dX5_order_206 : decode cX5_order 206 = .ok (.goto 24, 3) := by decide +kernel
theorem dX5_order_209 : decode cX5_order 209 = .ok (.iload_n 2, 1) := by decide +kernel
theorem dX5_order_210 : decode cX5_order 210 = .ok (.bipush 112, 2) := by decide +kernel
theorem dX5_order_212 : decode cX5_order 212 = .ok (.if_icmp .ne 13, 3) := by decide +kernel
theorem dX5_order_215 : decode cX5_order 215 = .ok (.aload_n 0, 1) := by decide +kernel
theorem dX5_order_216 : decode cX5_order 216 = .ok (.iload_n 3, 1) := by decide +kernel
theorem dX5_order_217 : decode cX5_order 217 = .ok (.iload 4, 2) := by decide +kernel
theorem dX5_order_219 : decode cX5_order 219 = .ok (.invokevirtual 105, 3) := by decide +kernel
theorem dX5_order_222 : decode cX5_order 222 = .ok (.goto 8, 3) := by decide +kernel
theorem dX5_order_225 : decode cX5_order 225 = .ok (.aload_n 0, 1) := by decide +kernel
theorem dX5_order_226 : decode cX5_order 226 = .ok (.iload_n 3, 1) := by decide +kernel
theorem dX5_order_227 : decode cX5_order 227 = .ok (.invokevirtual 108, 3) := by decide +kernel
theorem dX5_order_230 : decode cX5_order 230 = .ok (.ireturn, 1) := by decide +kernel
set_option maxRecDepth 20000 in
theorem ggX5_isWell_X5_order : GoodIn wsX5_isWell wsX5_order := goodIn_r _ [7, 1, 2, 8, 9, 10, 11, 6, 12, 13, 14, 15, 16, 17, 18, 19, 20, 21, 22, 23, 24, 25, 26, 27, 28, 29, 30, 31, 32, 33, 34, 35, 36, 37, 38, 39, 40, 41, 42, 43, 44, 45, 46, 47, 48, 49, 50, 51, 52, 53, 54, 55, 56, 57, 58, 59, 60, 61, 62, 63, 64, 65, 66, 67, 68, 69, 70, 71, 72, 73, 74, 75, 76, 77, 78, 79, 80, 81, 82, 83, 84, 85, 86, 87, 88, 89, 90, 91, 92, 93, 94, 95, 96, 97, 98] (by decide +kernel) (by decide +kernel)
set_option maxRecDepth 20000 in
theorem gX5_isWell_X5_order : GoodIn wsX5_isWell (wsV RX5 138 RX5 yX5_order wsX5_order) := goodIn_app (goodIn_of _ (by decide +kernel)) ggX5_isWell_X5_order
set_option maxRecDepth 20000 in
theorem ggX5_isWell_X5_sees : GoodIn wsX5_isWell wsX5_sees := goodIn_r _ [12, 1, 2, 8, 13, 14, 6, 15, 85, 86, 87, 88, 89, 90, 91, 92, 93, 94, 95, 96, 97, 98] (by decide +kernel) (by decide +kernel)
set_option maxRecDepth 20000 in
theorem gX5_isWell_X5_sees : GoodIn wsX5_isWell (wsV RX5 128 RX5 yX5_sees wsX5_sees) := goodIn_app (goodIn_of _ (by decide +kernel)) ggX5_isWell_X5_sees
theorem dX5_isWell_0 : decode cX5_isWell 0 = .ok (.aload_n 0, 1) := by decide +kernel
theorem dX5_isWell_1 : decode cX5_isWell 1 = .ok (.iconst 0, 1) := by decide +kernel
theorem dX5_isWell_2 : decode cX5_isWell 2 = .ok (.putfield 125, 3) := by decide +kernel
theorem dX5_isWell_5 : decode cX5_isWell 5 = .ok (.aload_n 0, 1) := by decide +kernel
theorem dX5_isWell_6 : decode cX5_isWell 6 = .ok (.iconst 0, 1) := by decide +kernel
theorem dX5_isWell_7 : decode cX5_isWell 7 = .ok (.invokevirtual 138, 3) := by decide +kernel
theorem dX5_isWell_10 : decode cX5_isWell 10 = .ok (.ifCond .ne 7, 3) := by decide +kernel
theorem dX5_isWell_13 : decode cX5_isWell 13 = .ok (.iconst 1, 1) := by decide +kernel
theorem dX5_isWell_14 : decode cX5_isWell 14 = .ok (.goto 4, 3) := by decide +kernel
theorem dX5_isWell_17 : decode cX5_isWell 17 = .ok (.iconst 0, 1) := by decide +kernel
theorem dX5_isWell_18 : decode cX5_isWell 18 = .ok (.istore_n 1, 1) := by decide +kernel
theorem dX5_isWell_19 : decode cX5_isWell 19 = .ok (.iload_n 1, 1) := by decide +kernel
theorem dX5_isWell_20 : decode cX5_isWell 20 = .ok (.ifCond .eq 62, 3) := by decide +kernel
theorem dX5_isWell_23 : decode cX5_isWell 23 = .ok (.aload_n 0, 1) := by decide +kernel
theorem dX5_isWell_24 : decode cX5_isWell 24 = .ok (.getfield 125, 3) := by decide +kernel
theorem dX5_isWell_27 : decode cX5_isWell 27 = .ok (.aload_n 0, 1) := by decide +kernel
theorem dX5_isWell_28 : decode cX5_isWell 28 = .ok (.getfield 114, 3) := by decide +kernel
theorem dX5_isWell_31 : decode cX5_isWell 31 = .ok (.if_icmp .ge 51, 3) := by decide +kernel
theorem dX5_isWell_34 : decode cX5_isWell 34 = .ok (.aload_n 0, 1) := by decide +kernel
theorem dX5_isWell_35 : decode cX5_isWell 35 = .ok (.bipush 59, 2) := by decide +kernel
theorem dX5_isWell_37 : decode cX5_isWell 37 = .ok (.bipush 59, 2) := by decide +kernel
theorem dX5_isWell_39 : decode cX5_isWell 39 = .ok (.invokevirtual 128, 3) := by decide +kernel
theorem dX5_isWell_42 : decode cX5_isWell 42 = .ok (.istore_n 1, 1) := by decide +kernel
theorem dX5_isWell_43 : decode cX5_isWell 43 = .ok (.aload_n 0, 1) := by decide +kernel
theorem dX5_isWell_44 : decode cX5_isWell 44 = .ok (.dup, 1) := by decide +kernel
theorem dX5_isWell_45 : decode cX5_isWell 45 = .ok (.getfield 125, 3) := by decide +kernel
theorem dX5_isWell_48 : decode cX5_isWell 48 = .ok (.iload_n 1, 1) := by decide +kernel
theorem dX5_isWell_49 : decode cX5_isWell 49 = .ok (.ifCond .eq 7, 3) := by decide +kernel
theorem dX5_isWell_52 : decode cX5_isWell 52 = .ok (.iconst 1, 1) := by decide +kernel
theorem dX5_isWell_53 : decode cX5_isWell 53 = .ok (.goto 4, 3) := by decide +kernel
theorem dX5_isWell_56 : decode cX5_isWell 56 = .ok (.iconst 0, 1) := by decide +kernel
theorem dX5_isWell_57 : decode cX5_isWell 57 = .ok (.iadd, 1) := by decide +kernel
theorem dX5_isWell_58 : decode cX5_isWell 58 = .ok (.putfield 125, 3) := by decide +kernel
theorem dX5_isWell_61 : decode cX5_isWell 61 = .ok (.iload_n 1, 1) := by decide +kernel
theorem dX5_isWell_62 : decode cX5_isWell 62 = .ok (.ifCond .eq 15, 3) := by decide +kernel
theorem dX5_isWell_65 : decode cX5_isWell 65 = .ok (.aload_n 0, 1) := by decide +kernel
theorem dX5_isWell_66 : decode cX5_isWell 66 = .ok (.iconst 0, 1) := by decide +kernel
theorem dX5_isWell_67 : decode cX5_isWell 67 = .ok (.invokevirtual 138, 3) := by decide +kernel
theorem dX5_isWell_70 : decode cX5_isWell 70 = .ok (.ifCond .ne 7, 3) := by decide +kernel
theorem dX5_isWell_73 : decode cX5_isWell 73 = .ok (.iconst 1, 1) := by decide +kernel
theorem dX5_isWell_74 : decode cX5_isWell 74 = .ok (.goto 4, 3) := by decide +kernel
theorem dX5_isWell_77 : decode cX5_isWell 77 = .ok (.iconst 0, 1) := by decide +kernel
theorem dX5_isWell_78 : decode cX5_isWell 78 = .ok (.istore_n 1, 1) := by decide +kernel
theorem dX5_isWell_79 : decode cX5_isWell 79 = .ok (.goto (-60), 3) := by decide +kernel
theorem dX5_isWell_82 : decode cX5_isWell 82 = .ok (.iload_n 1, 1) := by decide +kernel
theorem dX5_isWell_83 : decode cX5_isWell 83 = .ok (.ireturn, 1) := by decide +kernel
set_option maxRecDepth 20000 in
theorem ggX5_fault_X5_isWell : GoodIn wsX5_fault wsX5_isWell := goodIn_r _ [6, 1, 7, 8, 9, 10, 5, 11, 12, 13, 14, 15, 16, 17, 18, 19, 20, 21, 22, 23, 24, 25, 26, 27, 28, 29, 30, 31, 32, 33, 34, 35, 36, 37, 38, 39, 40, 41, 42, 43, 44, 45, 46, 47, 48, 49, 50, 51, 52, 53, 54, 55, 56, 57, 58, 59, 60, 61, 62, 63, 64, 65, 66, 67, 68, 69, 70, 71, 72, 73, 74, 75, 76, 77, 78, 79, 80, 81, 82, 83, 84, 85, 86, 87, 88, 89, 90, 91, 92, 93, 94, 95, 96, 97, 98, 99, 100, 101, 102] (by decide +kernel) (by decide +kernel)
set_option maxRecDepth 20000 in
theorem gX5_fault_X5_isWell : GoodIn wsX5_fault (wsV RX5 142 RX5 yX5_isWell wsX5_isWell) := goodIn_app (goodIn_of _ (by decide +kernel)) ggX5_fault_X5_isWell
theorem dX5_fault_0 : decode cX5_fault 0 = .ok (.aload_n 0, 1) := by decide +kernel
theorem dX5_fault_1 : decode cX5_fault 1 = .ok (.invokevirtual 142, 3) := by decide +kernel
theorem dX5_fault_4 : decode cX5_fault 4 = .ok (.ifCond .eq 8, 3) := by decide +kernel
theorem dX5_fault_7 : decode cX5_fault 7 = .ok (.bipush (-6), 2) := by decide +kernel
theorem dX5_fault_9 : decode cX5_fault 9 = .ok (.goto 7, 3) := by decide +kernel
theorem dX5_fault_12 : decode cX5_fault 12 = .ok (.aload_n 0, 1) := by decide +kernel
theorem dX5_fault_13 : decode cX5_fault 13 = .ok (.getfield 125, 3) := by decide +kernel
theorem dX5_fault_16 : decode cX5_fault 16 = .ok (.ireturn, 1) := by decide +kernel
set_option maxRecDepth 20000 in
theorem ggX5_carryOut_X5_isWell : GoodIn wsX5_carryOut wsX5_isWell := goodIn_r _ [7, 1, 2, 8, 9, 10, 6, 11, 12, 13, 14, 15, 16, 17, 18, 19, 20, 21, 22, 23, 24, 25, 26, 27, 28, 29, 30, 31, 32, 33, 34, 35, 36, 37, 38, 39, 40, 41, 42, 43, 44, 45, 46, 47, 48, 49, 50, 51, 52, 53, 54, 55, 56, 57, 58, 59, 60, 61, 62, 63, 64, 65, 66, 67, 68, 69, 70, 71, 72, 73, 74, 75, 76, 77, 78, 79, 80, 81, 82, 83, 84, 85, 86, 87, 88, 100, 101, 102, 103, 104, 105, 106, 107, 108, 109, 110, 111, 112, 113] (by decide +kernel) (by decide +kernel)
set_option maxRecDepth 20000 in
theorem gX5_carryOut_X5_isWell : GoodIn wsX5_carryOut (wsV RX5 142 RX5 yX5_isWell wsX5_isWell) := goodIn_app (goodIn_of _ (by decide +kernel)) ggX5_carryOut_X5_isWell
set_option maxRecDepth 20000 in
theorem ggX5_carryOut_X5_remember : GoodIn wsX5_carryOut wsX5_remember := goodIn_r _ [92, 93, 32, 100, 101, 102, 103, 104, 105, 106, 107, 108, 109, 110, 111, 112, 113] (by decide +kernel) (by decide +kernel)
set_option maxRecDepth 20000 in
theorem gX5_carryOut_X5_remember : GoodIn wsX5_carryOut (wsV RX5 40 RX5 yX5_remember wsX5_remember) := goodIn_app (goodIn_of _ (by decide +kernel)) ggX5_carryOut_X5_remember
set_option maxRecDepth 20000 in
theorem ggX5_carryOut_X5_order : GoodIn wsX5_carryOut wsX5_order := goodIn_r _ [11, 1, 2, 12, 13, 14, 15, 6, 16, 17, 18, 19, 20, 21, 22, 23, 24, 25, 26, 27, 28, 29, 30, 31, 32, 33, 34, 35, 36, 37, 38, 39, 40, 41, 42, 43, 44, 45, 46, 47, 48, 49, 50, 51, 52, 53, 54, 55, 56, 57, 58, 59, 60, 61, 62, 63, 64, 65, 66, 67, 68, 69, 70, 71, 72, 73, 74, 75, 76, 77, 78, 79, 80, 81, 82, 83, 84, 85, 86, 87, 88, 100, 101, 102, 103, 104, 105, 106, 107, 108, 109, 110, 111, 112, 113] (by decide +kernel) (by decide +kernel)
set_option maxRecDepth 20000 in
theorem gX5_carryOut_X5_order : GoodIn wsX5_carryOut (wsV RX5 138 RX5 yX5_order wsX5_order) := goodIn_app (goodIn_of _ (by decide +kernel)) ggX5_carryOut_X5_order
set_option maxRecDepth 20000 in
theorem ggX5_carryOut_X5_record : GoodIn wsX5_carryOut wsX5_record := goodIn_r _ [97, 98, 99, 93, 100, 101, 102, 103, 104, 105, 106, 107, 108, 109, 110, 111, 112, 113] (by decide +kernel) (by decide +kernel)
set_option maxRecDepth 20000 in
theorem gX5_carryOut_X5_record : GoodIn wsX5_carryOut (wsV RX5 43 RX5 yX5_record wsX5_record) := goodIn_app (goodIn_of _ (by decide +kernel)) ggX5_carryOut_X5_record
end
section
theorem dX5_carryOut_0 : decode cX5_carryOut 0 = .ok (.aload_n 0, 1) := by decide +kernel
theorem dX5_carryOut_1 : decode cX5_carryOut 1 = .ok (.invokevirtual 142, 3) := by decide +kernel
theorem dX5_carryOut_4 : decode cX5_carryOut 4 = .ok (.ifCond .ne 6, 3) := by decide +kernel
theorem dX5_carryOut_7 : decode cX5_carryOut 7 = .ok (.bipush (-3), 2) := by decide +kernel
theorem dX5_carryOut_9 : decode cX5_carryOut 9 = .ok (.ireturn, 1) := by decide +kernel
theorem dX5_carryOut_10 : decode cX5_carryOut 10 = .ok (.aload_n 0, 1) := by decide +kernel
theorem dX5_carryOut_11 : decode cX5_carryOut 11 = .ok (.invokevirtual 40, 3) := by decide +kernel
theorem dX5_carryOut_14 : decode cX5_carryOut 14 = .ok (.aload_n 0, 1) := by decide +kernel
theorem dX5_carryOut_15 : decode cX5_carryOut 15 = .ok (.iconst 0, 1) := by decide +kernel
theorem dX5_carryOut_16 : decode cX5_carryOut 16 = .ok (.putfield 125, 3) := by decide +kernel
theorem dX5_carryOut_19 : decode cX5_carryOut 19 = .ok (.iconst 0, 1) := by decide +kernel
theorem dX5_carryOut_20 : decode cX5_carryOut 20 = .ok (.istore_n 1, 1) := by decide +kernel
theorem dX5_carryOut_21 : decode cX5_carryOut 21 = .ok (.iconst 1, 1) := by decide +kernel
theorem dX5_carryOut_22 : decode cX5_carryOut 22 = .ok (.istore_n 2, 1) := by decide +kernel
theorem dX5_carryOut_23 : decode cX5_carryOut 23 = .ok (.iload_n 2, 1) := by decide +kernel
theorem dX5_carryOut_24 : decode cX5_carryOut 24 = .ok (.ifCond .eq 53, 3) := by decide +kernel
theorem dX5_carryOut_27 : decode cX5_carryOut 27 = .ok (.aload_n 0, 1) := by decide +kernel
theorem dX5_carryOut_28 : decode cX5_carryOut 28 = .ok (.getfield 125, 3) := by decide +kernel
theorem dX5_carryOut_31 : decode cX5_carryOut 31 = .ok (.aload_n 0, 1) := by decide +kernel
theorem dX5_carryOut_32 : decode cX5_carryOut 32 = .ok (.getfield 114, 3) := by decide +kernel
theorem dX5_carryOut_35 : decode cX5_carryOut 35 = .ok (.if_icmp .ge 42, 3) := by decide +kernel
theorem dX5_carryOut_38 : decode cX5_carryOut 38 = .ok (.aload_n 0, 1) := by decide +kernel
theorem dX5_carryOut_39 : decode cX5_carryOut 39 = .ok (.iconst 1, 1) := by decide +kernel
theorem dX5_carryOut_40 : decode cX5_carryOut 40 = .ok (.invokevirtual 138, 3) := by decide +kernel
theorem dX5_carryOut_43 : decode cX5_carryOut 43 = .ok (.ifCond .lt 7, 3) := by decide +kernel
theorem dX5_carryOut_46 : decode cX5_carryOut 46 = .ok (.iconst 1, 1) := by decide +kernel
theorem dX5_carryOut_47 : decode cX5_carryOut 47 = .ok (.goto 4, 3) := by decide +kernel
theorem dX5_carryOut_50 : decode cX5_carryOut 50 = .ok (.iconst 0, 1) := by decide +kernel
theorem dX5_carryOut_51 : decode cX5_carryOut 51 = .ok (.istore_n 2, 1) := by decide +kernel
theorem dX5_carryOut_52 : decode cX5_carryOut 52 = .ok (.iload_n 1, 1) := by decide +kernel
theorem dX5_carryOut_53 : decode cX5_carryOut 53 = .ok (.iload_n 2, 1) := by decide +kernel
theorem dX5_carryOut_54 : decode cX5_carryOut 54 = .ok (.ifCond .eq 7, 3) := by decide +kernel
theorem dX5_carryOut_57 : decode cX5_carryOut 57 = .ok (.iconst 1, 1) := by decide +kernel
theorem dX5_carryOut_58 : decode cX5_carryOut 58 = .ok (.goto 4, 3) := by decide +kernel
theorem dX5_carryOut_61 : decode cX5_carryOut 61 = .ok (.iconst 0, 1) := by decide +kernel
theorem dX5_carryOut_62 : decode cX5_carryOut 62 = .ok (.iadd, 1) := by decide +kernel
theorem dX5_carryOut_63 : decode cX5_carryOut 63 = .ok (.istore_n 1, 1) := by decide +kernel
theorem dX5_carryOut_64 : decode cX5_carryOut 64 = .ok (.aload_n 0, 1) := by decide +kernel
theorem dX5_carryOut_65 : decode cX5_carryOut 65 = .ok (.dup, 1) := by decide +kernel
theorem dX5_carryOut_66 : decode cX5_carryOut 66 = .ok (.getfield 125, 3) := by decide +kernel
theorem dX5_carryOut_69 : decode cX5_carryOut 69 = .ok (.iconst 1, 1) := by decide +kernel
theorem dX5_carryOut_70 : decode cX5_carryOut 70 = .ok (.iadd, 1) := by decide +kernel
theorem dX5_carryOut_71 : decode cX5_carryOut 71 = .ok (.putfield 125, 3) := by decide +kernel
theorem dX5_carryOut_74 : decode cX5_carryOut 74 = .ok (.goto (-51), 3) := by decide +kernel
theorem dX5_carryOut_77 : decode cX5_carryOut 77 = .ok (.aload_n 0, 1) := by decide +kernel
theorem dX5_carryOut_78 : decode cX5_carryOut 78 = .ok (.iconst 0, 1) := by decide +kernel
theorem dX5_carryOut_79 : decode cX5_carryOut 79 = .ok (.putfield 114, 3) := by decide +kernel
theorem dX5_carryOut_82 : decode cX5_carryOut 82 = .ok (.aload_n 0, 1) := by decide +kernel
theorem dX5_carryOut_83 : decode cX5_carryOut 83 = .ok (.iload_n 1, 1) := by decide +kernel
theorem dX5_carryOut_84 : decode cX5_carryOut 84 = .ok (.invokevirtual 43, 3) := by decide +kernel
theorem dX5_carryOut_87 : decode cX5_carryOut 87 = .ok (.ireturn, 1) := by decide +kernel
theorem dJ9_max_7cf53_0 : decode cJ9_max_7cf53 0 = .ok (.iload_n 0, 1) := by decide +kernel
theorem dJ9_max_7cf53_1 : decode cJ9_max_7cf53 1 = .ok (.iload_n 1, 1) := by decide +kernel
theorem dJ9_max_7cf53_2 : decode cJ9_max_7cf53 2 = .ok (.if_icmp .lt 7, 3) := by decide +kernel
theorem dJ9_max_7cf53_5 : decode cJ9_max_7cf53 5 = .ok (.iload_n 0, 1) := by decide +kernel
theorem dJ9_max_7cf53_6 : decode cJ9_max_7cf53 6 = .ok (.goto 4, 3) := by decide +kernel
theorem dJ9_max_7cf53_9 : decode cJ9_max_7cf53 9 = .ok (.iload_n 1, 1) := by decide +kernel
theorem dJ9_max_7cf53_10 : decode cJ9_max_7cf53 10 = .ok (.ireturn, 1) := by decide +kernel
theorem dJ9_min_7cf53_0 : decode cJ9_min_7cf53 0 = .ok (.iload_n 0, 1) := by decide +kernel
theorem dJ9_min_7cf53_1 : decode cJ9_min_7cf53 1 = .ok (.iload_n 1, 1) := by decide +kernel
theorem dJ9_min_7cf53_2 : decode cJ9_min_7cf53 2 = .ok (.if_icmp .gt 7, 3) := by decide +kernel
theorem dJ9_min_7cf53_5 : decode cJ9_min_7cf53 5 = .ok (.iload_n 0, 1) := by decide +kernel
theorem dJ9_min_7cf53_6 : decode cJ9_min_7cf53 6 = .ok (.goto 4, 3) := by decide +kernel
theorem dJ9_min_7cf53_9 : decode cJ9_min_7cf53 9 = .ok (.iload_n 1, 1) := by decide +kernel
theorem dJ9_min_7cf53_10 : decode cJ9_min_7cf53 10 = .ok (.ireturn, 1) := by decide +kernel
set_option maxRecDepth 20000 in
theorem ggL_law_X4_init : GoodIn wsL_law wsX4_init := goodIn_r _ [9, 10, 11, 12, 13, 14, 15, 16, 17, 18, 19, 20, 21, 22, 23, 24, 25, 26, 27, 28, 29, 30, 31, 32, 33, 34, 35, 36, 37, 38, 39, 40, 41, 42, 43, 44, 45, 46, 47, 48, 49, 50, 51, 52, 53, 54, 55, 56, 57, 58, 59, 60, 61, 62, 63, 64, 65, 66, 67, 68, 69, 70, 71, 72, 609, 610, 611, 612, 613, 614, 615, 588, 589, 590, 591, 592, 593, 594, 616, 617, 618, 619, 620, 621, 622, 623, 624, 625, 626, 627, 628, 629, 630, 631, 632, 633, 634] (by decide +kernel) (by decide +kernel)
set_option maxRecDepth 20000 in
theorem gL_law_X4_init : GoodIn wsL_law (wsX4_init) := ggL_law_X4_init
set_option maxRecDepth 20000 in
theorem ggL_law_X5_init : GoodIn wsL_law wsX5_init := goodIn_r _ [75, 76, 11, 12, 54, 77, 78, 79, 80, 20, 81, 82, 83, 595, 596, 597, 598, 599, 600, 601, 602, 603, 604, 605, 606, 607, 608] (by decide +kernel) (by decide +kernel)
set_option maxRecDepth 20000 in
theorem gL_law_X5_init : GoodIn wsL_law (wsX5_init) := ggL_law_X5_init
set_option maxRecDepth 20000 in
theorem ggL_law_X4_set : GoodIn wsL_law wsX4_set := goodIn_r _ [87, 16, 88, 89, 90, 2, 91, 17, 18, 92, 93, 94, 15, 95, 40, 96, 97, 98, 99, 42, 43, 44, 45, 46, 50, 100, 101, 102, 28, 103, 104, 105, 106, 107, 108, 109, 110, 111, 112, 113, 114, 49, 115, 55, 116, 56, 57, 58, 59, 117, 118, 119, 120, 121, 122, 123, 124, 125, 126, 127, 128, 588, 589, 590, 591, 592, 593, 594, 609, 610, 611, 612, 613, 614, 615, 622, 623, 624, 625, 626, 627, 628, 629, 630, 631, 632, 633, 634] (by decide +kernel) (by decide +kernel)
set_option maxRecDepth 20000 in
theorem gL_law_X4_set : GoodIn wsL_law (wsV RL 13 RX4 yX4_set wsX4_set) := goodIn_app (goodIn_of _ (by decide +kernel)) ggL_law_X4_set
set_option maxRecDepth 20000 in
theorem ggL_law_X5_set : GoodIn wsL_law wsX5_set := goodIn_r _ [132, 133, 77, 134, 135, 5, 136, 137, 138, 139, 140, 79, 141, 142, 143, 144, 145, 78, 595, 596, 597, 598, 599, 600, 601, 602, 603, 604, 605, 606, 607, 608] (by decide +kernel) (by decide +kernel)
set_option maxRecDepth 20000 in
theorem gL_law_X5_set : GoodIn wsL_law (wsV RL 17 RX5 yX5_set wsX5_set) := goodIn_app (goodIn_of _ (by decide +kernel)) ggL_law_X5_set
set_option maxRecDepth 20000 in
theorem ggL_law_X4_landing : GoodIn wsL_law wsX4_landing := goodIn_r _ [149, 16, 88, 89, 90, 2, 91, 17, 18, 92, 93, 94, 15, 95, 40, 96, 97, 98, 99, 42, 43, 44, 45, 46, 50, 100, 101, 102, 28, 103, 104, 105, 106, 107, 108, 109, 110, 111, 112, 113, 114, 49, 115, 55, 116, 56, 57, 58, 59, 150, 151, 152, 153, 154, 155, 156, 157, 158, 159, 160, 161, 162, 163, 164, 165, 166, 121, 122, 123, 124, 125, 126, 127, 128, 588, 589, 590, 591, 592, 593, 594, 609, 610, 611, 612, 613, 614, 615, 622, 623, 624, 625, 626, 627, 628, 629, 630, 631, 632, 633, 634] (by decide +kernel) (by decide +kernel)
set_option maxRecDepth 20000 in
theorem gL_law_X4_landing : GoodIn wsL_law (wsV RL 18 RX4 yX4_landing wsX4_landing) := goodIn_app (goodIn_of _ (by decide +kernel)) ggL_law_X4_landing
set_option maxRecDepth 20000 in
theorem ggL_law_X5_landing : GoodIn wsL_law wsX5_landing := goodIn_r _ [170, 137, 138, 139, 5, 140, 79, 77, 171, 172, 173, 174, 134, 135, 136, 175, 176, 177, 178, 179, 180, 181, 182, 183, 184, 185, 186, 141, 142, 143, 144, 145, 78, 595, 596, 597, 598, 599, 600, 601, 602, 603, 604, 605, 606, 607, 608] (by decide +kernel) (by decide +kernel)
set_option maxRecDepth 20000 in
theorem gL_law_X5_landing : GoodIn wsL_law (wsV RL 22 RX5 yX5_landing wsX5_landing) := goodIn_app (goodIn_of _ (by decide +kernel)) ggL_law_X5_landing
set_option maxRecDepth 20000 in
theorem ggL_law_X4_open : GoodIn wsL_law wsX4_open := goodIn_r _ [190, 16, 88, 89, 90, 2, 91, 17, 18, 92, 93, 94, 15, 95, 40, 96, 97, 98, 99, 42, 43, 44, 45, 46, 50, 100, 101, 102, 28, 103, 104, 105, 106, 107, 108, 109, 110, 111, 112, 113, 114, 49, 115, 55, 116, 56, 57, 58, 59, 191, 192, 193, 194, 195, 196, 197, 198, 199, 200, 201, 202, 203, 204, 205, 206, 207, 208, 209, 210, 211, 212, 213, 214, 215, 216, 217, 218, 219, 220, 221, 222, 158, 159, 160, 161, 162, 163, 164, 165, 166, 121, 122, 123, 124, 125, 126, 127, 128, 588, 589, 590, 591, 592, 593, 594, 609, 610, 611, 612, 613, 614, 615, 622, 623, 624, 625, 626, 627, 628, 629, 630, 631, 632, 633, 634] (by decide +kernel) (by decide +kernel)
set_option maxRecDepth 20000 in
theorem gL_law_X4_open : GoodIn wsL_law (wsV RL 23 RX4 yX4_open wsX4_open) := goodIn_app (goodIn_of _ (by decide +kernel)) ggL_law_X4_open
set_option maxRecDepth 20000 in
theorem ggL_law_X5_open : GoodIn wsL_law wsX5_open := goodIn_r _ [226, 137, 138, 139, 5, 140, 79, 77, 227, 228, 229, 230, 231, 232, 233, 234, 134, 135, 136, 179, 180, 181, 182, 235, 236, 237, 238, 175, 176, 177, 178, 183, 184, 185, 186, 239, 240, 241, 133, 242, 243, 244, 245, 141, 142, 143, 144, 145, 78, 595, 596, 597, 598, 599, 600, 601, 602, 603, 604, 605, 606, 607, 608] (by decide +kernel) (by decide +kernel)
set_option maxRecDepth 20000 in
theorem gL_law_X5_open : GoodIn wsL_law (wsV RL 26 RX5 yX5_open wsX5_open) := goodIn_app (goodIn_of _ (by decide +kernel)) ggL_law_X5_open
set_option maxRecDepth 20000 in
theorem ggL_law_X4_close : GoodIn wsL_law wsX4_close := goodIn_r _ [249, 16, 88, 89, 90, 2, 91, 17, 18, 92, 93, 94, 15, 95, 40, 96, 97, 98, 99, 42, 43, 44, 45, 46, 50, 100, 101, 102, 28, 103, 104, 105, 106, 107, 108, 109, 110, 111, 112, 113, 114, 49, 115, 55, 116, 56, 57, 58, 59, 250, 251, 252, 253, 195, 196, 197, 198, 199, 200, 201, 202, 203, 204, 205, 206, 207, 208, 209, 210, 211, 212, 213, 214, 215, 216, 217, 218, 219, 220, 221, 222, 158, 159, 160, 161, 162, 163, 164, 165, 166, 121, 122, 123, 124, 125, 126, 127, 128, 588, 589, 590, 591, 592, 593, 594, 609, 610, 611, 612, 613, 614, 615, 622, 623, 624, 625, 626, 627, 628, 629, 630, 631, 632, 633, 634] (by decide +kernel) (by decide +kernel)
set_option maxRecDepth 20000 in
theorem gL_law_X4_close : GoodIn wsL_law (wsV RL 27 RX4 yX4_close wsX4_close) := goodIn_app (goodIn_of _ (by decide +kernel)) ggL_law_X4_close
set_option maxRecDepth 20000 in
theorem ggL_law_X5_close : GoodIn wsL_law wsX5_close := goodIn_r _ [257, 137, 138, 139, 5, 140, 79, 77, 227, 228, 229, 230, 231, 232, 233, 234, 134, 135, 136, 179, 180, 181, 182, 235, 236, 237, 238, 175, 176, 177, 178, 183, 184, 185, 186, 239, 240, 241, 133, 242, 243, 244, 245, 141, 142, 143, 144, 145, 78, 595, 596, 597, 598, 599, 600, 601, 602, 603, 604, 605, 606, 607, 608] (by decide +kernel) (by decide +kernel)
set_option maxRecDepth 20000 in
theorem gL_law_X5_close : GoodIn wsL_law (wsV RL 30 RX5 yX5_close wsX5_close) := goodIn_app (goodIn_of _ (by decide +kernel)) ggL_law_X5_close
set_option maxRecDepth 20000 in
theorem ggL_law_X4_price : GoodIn wsL_law wsX4_price := goodIn_r _ [261, 16, 88, 89, 90, 2, 91, 17, 18, 92, 93, 94, 15, 95, 40, 96, 97, 98, 99, 42, 43, 44, 45, 46, 50, 100, 101, 102, 28, 103, 104, 105, 106, 107, 108, 109, 110, 111, 112, 113, 114, 49, 115, 55, 116, 56, 57, 58, 59, 262, 263, 264, 265, 162, 196, 197, 198, 199, 200, 201, 202, 203, 204, 205, 206, 207, 208, 209, 210, 211, 212, 213, 214, 215, 216, 217, 218, 219, 220, 221, 222, 158, 159, 160, 161, 163, 164, 165, 166, 121, 122, 123, 124, 125, 126, 127, 128, 588, 589, 590, 591, 592, 593, 594, 609, 610, 611, 612, 613, 614, 615, 622, 623, 624, 625, 626, 627, 628, 629, 630, 631, 632, 633, 634] (by decide +kernel) (by decide +kernel)
set_option maxRecDepth 20000 in
theorem gL_law_X4_price : GoodIn wsL_law (wsV RL 31 RX4 yX4_price wsX4_price) := goodIn_app (goodIn_of _ (by decide +kernel)) ggL_law_X4_price
set_option maxRecDepth 20000 in
theorem ggL_law_X5_price : GoodIn wsL_law wsX5_price := goodIn_r _ [269, 137, 138, 139, 5, 140, 79, 77, 270, 271, 272, 273, 231, 232, 233, 234, 134, 135, 136, 179, 180, 181, 182, 235, 236, 237, 238, 175, 176, 177, 178, 183, 184, 185, 186, 239, 240, 241, 133, 242, 243, 244, 245, 141, 142, 143, 144, 145, 78, 595, 596, 597, 598, 599, 600, 601, 602, 603, 604, 605, 606, 607, 608] (by decide +kernel) (by decide +kernel)
set_option maxRecDepth 20000 in
theorem gL_law_X5_price : GoodIn wsL_law (wsV RL 34 RX5 yX5_price wsX5_price) := goodIn_app (goodIn_of _ (by decide +kernel)) ggL_law_X5_price
set_option maxRecDepth 20000 in
theorem ggL_law_X4_pass : GoodIn wsL_law wsX4_pass := goodIn_r _ [277, 16, 88, 89, 90, 2, 91, 17, 18, 92, 93, 94, 15, 95, 40, 96, 97, 98, 99, 42, 43, 44, 45, 46, 50, 100, 101, 102, 28, 103, 104, 105, 106, 107, 108, 109, 110, 111, 112, 113, 114, 49, 115, 55, 116, 56, 57, 58, 59, 278, 279, 280, 281, 282, 283, 284, 285, 286, 287, 288, 289, 290, 291, 292, 293, 294, 222, 210, 211, 212, 205, 206, 207, 208, 209, 158, 159, 160, 161, 162, 163, 164, 165, 166, 121, 122, 123, 124, 125, 126, 127, 128, 588, 589, 590, 591, 592, 593, 594, 609, 610, 611, 612, 613, 614, 615, 622, 623, 624, 625, 626, 627, 628, 629, 630, 631, 632, 633, 634] (by decide +kernel) (by decide +kernel)
set_option maxRecDepth 20000 in
theorem gL_law_X4_pass : GoodIn wsL_law (wsV RL 35 RX4 yX4_pass wsX4_pass) := goodIn_app (goodIn_of _ (by decide +kernel)) ggL_law_X4_pass
set_option maxRecDepth 20000 in
theorem ggL_law_X5_pass : GoodIn wsL_law wsX5_pass := goodIn_r _ [298, 137, 138, 139, 5, 140, 79, 77, 299, 300, 301, 302, 133, 134, 135, 136, 303, 304, 305, 306, 307, 308, 309, 310, 175, 176, 177, 178, 179, 180, 181, 182, 311, 312, 313, 314, 315, 316, 317, 318, 183, 184, 185, 186, 242, 243, 244, 245, 141, 142, 143, 144, 145, 78, 595, 596, 597, 598, 599, 600, 601, 602, 603, 604, 605, 606, 607, 608] (by decide +kernel) (by decide +kernel)
set_option maxRecDepth 20000 in
theorem gL_law_X5_pass : GoodIn wsL_law (wsV RL 38 RX5 yX5_pass wsX5_pass) := goodIn_app (goodIn_of _ (by decide +kernel)) ggL_law_X5_pass
set_option maxRecDepth 20000 in
theorem ggL_law_X4_of : GoodIn wsL_law wsX4_of := goodIn_r _ [322, 16, 323, 197, 198, 15, 199, 43, 42, 324, 325, 326, 28, 327, 104, 105, 106, 107, 108, 109, 110, 111, 588, 589, 590, 591, 592, 593, 594, 609, 610, 611, 612, 613, 614, 615, 622, 623, 624, 625, 626, 627, 628, 629] (by decide +kernel) (by decide +kernel)
set_option maxRecDepth 20000 in
theorem gL_law_X4_of : GoodIn wsL_law (wsV RL 39 RX4 yX4_of wsX4_of) := goodIn_app (goodIn_of _ (by decide +kernel)) ggL_law_X4_of
set_option maxRecDepth 20000 in
theorem ggL_law_X5_of : GoodIn wsL_law wsX5_of := goodIn_r _ [331, 231, 232, 233, 5, 234, 77, 134, 135, 136, 179, 180, 181, 182, 595, 596, 597, 598, 599, 600, 601, 602, 603, 604, 605, 606, 607, 608] (by decide +kernel) (by decide +kernel)
set_option maxRecDepth 20000 in
theorem gL_law_X5_of : GoodIn wsL_law (wsV RL 42 RX5 yX5_of wsX5_of) := goodIn_app (goodIn_of _ (by decide +kernel)) ggL_law_X5_of
set_option maxRecDepth 20000 in
theorem ggL_law_X4_count : GoodIn wsL_law wsX4_count := goodIn_r _ [335, 25, 336, 18, 16, 337, 338, 339, 15, 340, 44, 43, 45, 46, 50, 341, 40, 342, 343, 344, 345, 42, 195, 346, 347, 348, 349, 350, 588, 589, 590, 591, 592, 593, 594, 616, 617, 618, 619, 620, 621, 609, 610, 611, 612, 613, 614, 615, 630, 631, 632, 633, 634, 622, 623, 624, 625, 626, 627, 628, 629] (by decide +kernel) (by decide +kernel)
set_option maxRecDepth 20000 in
theorem gL_law_X4_count : GoodIn wsL_law (wsV RL 43 RX4 yX4_count wsX4_count) := goodIn_app (goodIn_of _ (by decide +kernel)) ggL_law_X4_count
set_option maxRecDepth 20000 in
theorem ggL_law_X5_count : GoodIn wsL_law wsX5_count := goodIn_r _ [354, 77, 355, 145, 134, 135, 5, 136, 356, 357, 358, 359, 179, 180, 181, 182, 175, 176, 177, 178, 595, 596, 597, 598, 599, 600, 601, 602, 603, 604, 605, 606, 607, 608] (by decide +kernel) (by decide +kernel)
set_option maxRecDepth 20000 in
theorem gL_law_X5_count : GoodIn wsL_law (wsV RL 46 RX5 yX5_count wsX5_count) := goodIn_app (goodIn_of _ (by decide +kernel)) ggL_law_X5_count
set_option maxRecDepth 20000 in
theorem ggL_law_X4_choice : GoodIn wsL_law wsX4_choice := goodIn_r _ [363, 16, 364, 365, 366, 15, 367, 43, 42, 163, 164, 165, 28, 166, 104, 107, 368, 369, 370, 371, 162, 588, 589, 590, 591, 592, 593, 594, 609, 610, 611, 612, 613, 614, 615, 622, 623, 624, 625, 626, 627, 628, 629] (by decide +kernel) (by decide +kernel)
set_option maxRecDepth 20000 in
theorem gL_law_X4_choice : GoodIn wsL_law (wsV RL 47 RX4 yX4_choice wsX4_choice) := goodIn_app (goodIn_of _ (by decide +kernel)) ggL_law_X4_choice
set_option maxRecDepth 20000 in
theorem ggL_law_X5_choice : GoodIn wsL_law wsX5_choice := goodIn_r _ [375, 77, 179, 180, 181, 5, 182, 376, 377, 378, 379, 595, 596, 597, 598, 599, 600, 601, 602, 603, 604, 605, 606, 607, 608] (by decide +kernel) (by decide +kernel)
set_option maxRecDepth 20000 in
theorem gL_law_X5_choice : GoodIn wsL_law (wsV RL 50 RX5 yX5_choice wsX5_choice) := goodIn_app (goodIn_of _ (by decide +kernel)) ggL_law_X5_choice
set_option maxRecDepth 20000 in
theorem ggL_law_X4_log : GoodIn wsL_law wsX4_log := goodIn_r _ [383, 16, 384, 385, 386, 387, 49, 388, 58, 59, 55, 56, 57, 588, 589, 590, 591, 592, 593, 594, 609, 610, 611, 612, 613, 614, 615, 630, 631, 632, 633, 634] (by decide +kernel) (by decide +kernel)
set_option maxRecDepth 20000 in
theorem gL_law_X4_log : GoodIn wsL_law (wsV RL 51 RX4 yX4_log wsX4_log) := goodIn_app (goodIn_of _ (by decide +kernel)) ggL_law_X4_log
set_option maxRecDepth 20000 in
theorem ggL_law_X5_log : GoodIn wsL_law wsX5_log := goodIn_r _ [392, 77, 134, 135, 5, 136, 595, 596, 597, 598, 599, 600, 601, 602, 603, 604, 605, 606, 607, 608] (by decide +kernel) (by decide +kernel)
set_option maxRecDepth 20000 in
theorem gL_law_X5_log : GoodIn wsL_law (wsV RL 54 RX5 yX5_log wsX5_log) := goodIn_app (goodIn_of _ (by decide +kernel)) ggL_law_X5_log
set_option maxRecDepth 20000 in
theorem ggL_law_X4_why : GoodIn wsL_law wsX4_why := goodIn_r _ [396, 16, 397, 398, 399, 323, 197, 198, 15, 199, 43, 42, 588, 589, 590, 591, 592, 593, 594, 609, 610, 611, 612, 613, 614, 615, 622, 623, 624, 625, 626, 627, 628, 629] (by decide +kernel) (by decide +kernel)
set_option maxRecDepth 20000 in
theorem gL_law_X4_why : GoodIn wsL_law (wsV RL 55 RX4 yX4_why wsX4_why) := goodIn_app (goodIn_of _ (by decide +kernel)) ggL_law_X4_why
set_option maxRecDepth 20000 in
theorem ggL_law_X5_why : GoodIn wsL_law wsX5_why := goodIn_r _ [403, 231, 232, 233, 5, 234, 77, 134, 135, 136, 179, 180, 181, 182, 175, 176, 177, 178, 595, 596, 597, 598, 599, 600, 601, 602, 603, 604, 605, 606, 607, 608] (by decide +kernel) (by decide +kernel)
set_option maxRecDepth 20000 in
theorem gL_law_X5_why : GoodIn wsL_law (wsV RL 58 RX5 yX5_why wsX5_why) := goodIn_app (goodIn_of _ (by decide +kernel)) ggL_law_X5_why
set_option maxRecDepth 20000 in
theorem ggL_law_X4_welcomeIn : GoodIn wsL_law wsX4_welcomeIn := goodIn_r _ [407, 16, 29, 399, 323, 197, 198, 15, 199, 43, 42, 408, 101, 102, 28, 103, 104, 105, 106, 107, 108, 109, 110, 111, 409, 288, 289, 290, 40, 291, 292, 293, 294, 222, 210, 211, 212, 588, 589, 590, 591, 592, 593, 594, 622, 623, 624, 625, 626, 627, 628, 629, 609, 610, 611, 612, 613, 614, 615] (by decide +kernel) (by decide +kernel)
set_option maxRecDepth 20000 in
theorem gL_law_X4_welcomeIn : GoodIn wsL_law (wsV RL 59 RX4 yX4_welcomeIn wsX4_welcomeIn) := goodIn_app (goodIn_of _ (by decide +kernel)) ggL_law_X4_welcomeIn
set_option maxRecDepth 20000 in
theorem ggL_law_X5_welcomeIn : GoodIn wsL_law wsX5_welcomeIn := goodIn_r _ [413, 309, 231, 232, 233, 5, 234, 77, 134, 135, 136, 311, 312, 313, 314, 307, 308, 310, 179, 180, 181, 182, 315, 316, 317, 318, 595, 596, 597, 598, 599, 600, 601, 602, 603, 604, 605, 606, 607, 608] (by decide +kernel) (by decide +kernel)
set_option maxRecDepth 20000 in
theorem gL_law_X5_welcomeIn : GoodIn wsL_law (wsV RL 62 RX5 yX5_welcomeIn wsX5_welcomeIn) := goodIn_app (goodIn_of _ (by decide +kernel)) ggL_law_X5_welcomeIn
set_option maxRecDepth 20000 in
theorem ggL_law_X4_mayChange : GoodIn wsL_law wsX4_mayChange := goodIn_r _ [417, 16, 399, 29, 398, 323, 197, 198, 15, 199, 43, 42, 408, 101, 102, 28, 103, 104, 105, 106, 107, 108, 109, 110, 111, 418, 214, 215, 216, 40, 217, 218, 219, 220, 221, 222, 210, 211, 212, 588, 589, 590, 591, 592, 593, 594, 622, 623, 624, 625, 626, 627, 628, 629, 609, 610, 611, 612, 613, 614, 615] (by decide +kernel) (by decide +kernel)
set_option maxRecDepth 20000 in
theorem gL_law_X4_mayChange : GoodIn wsL_law (wsV RL 63 RX4 yX4_mayChange wsX4_mayChange) := goodIn_app (goodIn_of _ (by decide +kernel)) ggL_law_X4_mayChange
set_option maxRecDepth 20000 in
theorem ggL_law_X5_mayChange : GoodIn wsL_law wsX5_mayChange := goodIn_r _ [422, 77, 231, 232, 233, 5, 234, 134, 135, 136, 179, 180, 181, 182, 239, 240, 241, 133, 595, 596, 597, 598, 599, 600, 601, 602, 603, 604, 605, 606, 607, 608] (by decide +kernel) (by decide +kernel)
set_option maxRecDepth 20000 in
theorem gL_law_X5_mayChange : GoodIn wsL_law (wsV RL 66 RX5 yX5_mayChange wsX5_mayChange) := goodIn_app (goodIn_of _ (by decide +kernel)) ggL_law_X5_mayChange
set_option maxRecDepth 20000 in
theorem ggL_law_X4_fineIn : GoodIn wsL_law wsX4_fineIn := goodIn_r _ [426, 16, 29, 427, 323, 197, 198, 15, 199, 43, 42, 408, 101, 102, 28, 103, 104, 105, 106, 107, 108, 109, 110, 111, 409, 288, 289, 290, 40, 291, 292, 293, 294, 222, 210, 211, 212, 588, 589, 590, 591, 592, 593, 594, 622, 623, 624, 625, 626, 627, 628, 629, 609, 610, 611, 612, 613, 614, 615] (by decide +kernel) (by decide +kernel)
set_option maxRecDepth 20000 in
theorem gL_law_X4_fineIn : GoodIn wsL_law (wsV RL 67 RX4 yX4_fineIn wsX4_fineIn) := goodIn_app (goodIn_of _ (by decide +kernel)) ggL_law_X4_fineIn
set_option maxRecDepth 20000 in
theorem ggL_law_X5_fineIn : GoodIn wsL_law wsX5_fineIn := goodIn_r _ [431, 307, 231, 232, 233, 5, 234, 77, 134, 135, 136, 311, 312, 313, 314, 308, 309, 310, 179, 180, 181, 182, 315, 316, 317, 318, 595, 596, 597, 598, 599, 600, 601, 602, 603, 604, 605, 606, 607, 608] (by decide +kernel) (by decide +kernel)
set_option maxRecDepth 20000 in
theorem gL_law_X5_fineIn : GoodIn wsL_law (wsV RL 70 RX5 yX5_fineIn wsX5_fineIn) := goodIn_app (goodIn_of _ (by decide +kernel)) ggL_law_X5_fineIn
set_option maxRecDepth 20000 in
theorem ggL_law_X4_steady : GoodIn wsL_law wsX4_steady := goodIn_r _ [435, 436, 437, 438, 2, 439, 29, 16, 440, 155, 156, 28, 157, 104, 105, 106, 107, 108, 109, 110, 111, 418, 214, 215, 15, 216, 40, 217, 218, 219, 220, 221, 222, 210, 211, 212, 441, 442, 443, 444, 445, 446, 447, 448, 204, 449, 588, 589, 590, 591, 592, 593, 594, 622, 623, 624, 625, 626, 627, 628, 629, 609, 610, 611, 612, 613, 614, 615] (by decide +kernel) (by decide +kernel)
set_option maxRecDepth 20000 in
theorem gL_law_X4_steady : GoodIn wsL_law (wsV RL 71 RX4 yX4_steady wsX4_steady) := goodIn_app (goodIn_of _ (by decide +kernel)) ggL_law_X4_steady
set_option maxRecDepth 20000 in
theorem ggL_law_X5_steady : GoodIn wsL_law wsX5_steady := goodIn_r _ [453, 454, 455, 456, 5, 457, 307, 308, 309, 77, 239, 240, 241, 133, 315, 316, 317, 318, 310, 595, 596, 597, 598, 599, 600, 601, 602, 603, 604, 605, 606, 607, 608] (by decide +kernel) (by decide +kernel)
set_option maxRecDepth 20000 in
theorem gL_law_X5_steady : GoodIn wsL_law (wsV RL 75 RX5 yX5_steady wsX5_steady) := goodIn_app (goodIn_of _ (by decide +kernel)) ggL_law_X5_steady
set_option maxRecDepth 20000 in
theorem ggL_law_X4_put : GoodIn wsL_law wsX4_put := goodIn_r _ [461, 25, 336, 462, 463, 2, 464, 465, 466, 467, 468, 24, 469, 68, 67, 470, 588, 589, 590, 591, 592, 593, 594, 616, 617, 618, 619, 620, 621] (by decide +kernel) (by decide +kernel)
set_option maxRecDepth 20000 in
theorem gL_law_X4_put : GoodIn wsL_law (wsV RL 78 RX4 yX4_put wsX4_put) := goodIn_app (goodIn_of _ (by decide +kernel)) ggL_law_X4_put
set_option maxRecDepth 20000 in
theorem ggL_law_X5_put : GoodIn wsL_law wsX5_put := goodIn_r _ [474, 83, 475, 355, 82, 134, 135, 5, 136, 595, 596, 597, 598, 599, 600, 601, 602, 603, 604, 605, 606, 607, 608] (by decide +kernel) (by decide +kernel)
set_option maxRecDepth 20000 in
theorem gL_law_X5_put : GoodIn wsL_law (wsV RL 82 RX5 yX5_put wsX5_put) := goodIn_app (goodIn_of _ (by decide +kernel)) ggL_law_X5_put
set_option maxRecDepth 20000 in
theorem ggL_law_X4_wipe : GoodIn wsL_law wsX4_wipe := goodIn_r _ [479, 25, 480, 481, 482, 24, 483, 68, 588, 589, 590, 591, 592, 593, 594, 616, 617, 618, 619, 620, 621] (by decide +kernel) (by decide +kernel)
set_option maxRecDepth 20000 in
theorem gL_law_X4_wipe : GoodIn wsL_law (wsV RL 83 RX4 yX4_wipe wsX4_wipe) := goodIn_app (goodIn_of _ (by decide +kernel)) ggL_law_X4_wipe
set_option maxRecDepth 20000 in
theorem ggL_law_X5_wipe : GoodIn wsL_law wsX5_wipe := goodIn_r _ [487, 355, 595, 596, 597, 598, 599, 600, 601, 602, 603, 604, 605, 606, 607, 608] (by decide +kernel) (by decide +kernel)
set_option maxRecDepth 20000 in
theorem gL_law_X5_wipe : GoodIn wsL_law (wsV RL 86 RX5 yX5_wipe wsX5_wipe) := goodIn_app (goodIn_of _ (by decide +kernel)) ggL_law_X5_wipe
set_option maxRecDepth 20000 in
theorem ggL_law_X4_fault : GoodIn wsL_law wsX4_fault := goodIn_r _ [491, 25, 492, 493, 494, 24, 495, 69, 68, 496, 497, 498, 499, 500, 501, 502, 503, 67, 70, 504, 505, 506, 507, 72, 508, 509, 510, 511, 512, 513, 514, 515, 71, 516, 517, 518, 519, 588, 589, 590, 591, 592, 593, 594, 616, 617, 618, 619, 620, 621] (by decide +kernel) (by decide +kernel)
set_option maxRecDepth 20000 in
theorem gL_law_X4_fault : GoodIn wsL_law (wsV RL 87 RX4 yX4_fault wsX4_fault) := goodIn_app (goodIn_of _ (by decide +kernel)) ggL_law_X4_fault
set_option maxRecDepth 20000 in
theorem ggL_law_X5_fault : GoodIn wsL_law wsX5_fault := goodIn_r _ [523, 524, 525, 526, 527, 5, 528, 355, 529, 530, 531, 532, 82, 533, 534, 535, 536, 134, 135, 136, 537, 538, 539, 540, 541, 542, 543, 544, 171, 172, 173, 174, 77, 175, 176, 177, 178, 179, 180, 181, 182, 183, 184, 185, 186, 227, 228, 229, 230, 231, 232, 233, 234, 235, 236, 237, 238, 239, 240, 241, 133, 242, 243, 244, 245, 270, 271, 272, 273, 299, 300, 301, 302, 303, 304, 305, 306, 307, 308, 309, 310, 311, 312, 313, 314, 315, 316, 317, 318, 595, 596, 597, 598, 599, 600, 601, 602, 603, 604, 605, 606, 607, 608] (by decide +kernel) (by decide +kernel)
set_option maxRecDepth 20000 in
theorem gL_law_X5_fault : GoodIn wsL_law (wsV RL 90 RX5 yX5_fault wsX5_fault) := goodIn_app (goodIn_of _ (by decide +kernel)) ggL_law_X5_fault
set_option maxRecDepth 20000 in
theorem ggL_law_X4_carryOut : GoodIn wsL_law wsX4_carryOut := goodIn_r _ [548, 25, 492, 493, 494, 24, 495, 69, 68, 496, 497, 498, 499, 500, 501, 502, 503, 67, 70, 504, 505, 506, 507, 72, 508, 509, 510, 511, 512, 513, 514, 515, 71, 516, 517, 518, 519, 88, 89, 90, 2, 91, 17, 18, 16, 92, 93, 94, 15, 95, 40, 96, 97, 98, 99, 42, 43, 44, 45, 46, 50, 100, 101, 102, 28, 103, 104, 105, 106, 107, 108, 109, 110, 111, 112, 113, 114, 49, 115, 55, 116, 56, 57, 58, 59, 549, 550, 551, 552, 553, 554, 555, 556, 557, 150, 151, 152, 153, 154, 155, 156, 157, 158, 159, 160, 161, 162, 163, 164, 165, 166, 191, 192, 193, 194, 195, 196, 197, 198, 199, 200, 201, 202, 203, 204, 205, 206, 207, 208, 209, 210, 211, 212, 213, 214, 215, 216, 217, 218, 219, 220, 221, 222, 250, 251, 252, 253, 262, 263, 264, 265, 278, 279, 280, 281, 282, 283, 284, 285, 286, 287, 288, 289, 290, 291, 292, 293, 294, 558, 480, 481, 482, 483, 121, 122, 123, 124, 125, 126, 127, 128, 588, 589, 590, 591, 592, 593, 594, 616, 617, 618, 619, 620, 621, 609, 610, 611, 612, 613, 614, 615, 622, 623, 624, 625, 626, 627, 628, 629, 630, 631, 632, 633, 634] (by decide +kernel) (by decide +kernel)
set_option maxRecDepth 20000 in
theorem gL_law_X4_carryOut : GoodIn wsL_law (wsV RL 91 RX4 yX4_carryOut wsX4_carryOut) := goodIn_app (goodIn_of _ (by decide +kernel)) ggL_law_X4_carryOut
set_option maxRecDepth 20000 in
theorem ggL_law_X5_carryOut : GoodIn wsL_law wsX5_carryOut := goodIn_r _ [562, 524, 355, 525, 526, 527, 5, 528, 529, 530, 531, 532, 82, 533, 534, 535, 536, 134, 135, 136, 537, 538, 539, 540, 541, 542, 543, 544, 171, 172, 173, 174, 77, 175, 176, 177, 178, 179, 180, 181, 182, 183, 184, 185, 186, 227, 228, 229, 230, 231, 232, 233, 234, 235, 236, 237, 238, 239, 240, 241, 133, 242, 243, 244, 245, 270, 271, 272, 273, 299, 300, 301, 302, 303, 304, 305, 306, 307, 308, 309, 310, 311, 312, 313, 314, 315, 316, 317, 318, 137, 138, 139, 140, 79, 141, 142, 143, 144, 145, 78, 595, 596, 597, 598, 599, 600, 601, 602, 603, 604, 605, 606, 607, 608] (by decide +kernel) (by decide +kernel)
set_option maxRecDepth 20000 in
theorem gL_law_X5_carryOut : GoodIn wsL_law (wsV RL 94 RX5 yX5_carryOut wsX5_carryOut) := goodIn_app (goodIn_of _ (by decide +kernel)) ggL_law_X5_carryOut
set_option maxRecDepth 20000 in
theorem ggL_law_X4_undo : GoodIn wsL_law wsX4_undo := goodIn_r _ [566, 18, 16, 17, 92, 93, 94, 15, 95, 40, 96, 97, 98, 99, 42, 43, 44, 45, 46, 50, 100, 101, 102, 28, 103, 104, 105, 106, 107, 108, 109, 110, 111, 112, 113, 114, 49, 115, 55, 116, 56, 57, 58, 59, 588, 589, 590, 591, 592, 593, 594, 609, 610, 611, 612, 613, 614, 615, 622, 623, 624, 625, 626, 627, 628, 629, 630, 631, 632, 633, 634] (by decide +kernel) (by decide +kernel)
set_option maxRecDepth 20000 in
theorem gL_law_X4_undo : GoodIn wsL_law (wsV RL 95 RX4 yX4_undo wsX4_undo) := goodIn_app (goodIn_of _ (by decide +kernel)) ggL_law_X4_undo
set_option maxRecDepth 20000 in
theorem ggL_law_X5_undo : GoodIn wsL_law wsX5_undo := goodIn_r _ [570, 145, 77, 78, 595, 596, 597, 598, 599, 600, 601, 602, 603, 604, 605, 606, 607, 608] (by decide +kernel) (by decide +kernel)
set_option maxRecDepth 20000 in
theorem gL_law_X5_undo : GoodIn wsL_law (wsV RL 98 RX5 yX5_undo wsX5_undo) := goodIn_app (goodIn_of _ (by decide +kernel)) ggL_law_X5_undo
set_option maxRecDepth 20000 in
theorem ggL_law_X4_save : GoodIn wsL_law wsX4_save := goodIn_r _ [574, 19, 16, 21, 575, 92, 93, 94, 15, 95, 40, 96, 97, 98, 99, 42, 43, 44, 45, 46, 50, 100, 101, 102, 28, 103, 104, 105, 106, 107, 108, 109, 110, 111, 112, 113, 114, 49, 115, 55, 116, 56, 57, 58, 59, 588, 589, 590, 591, 592, 593, 594, 609, 610, 611, 612, 613, 614, 615, 622, 623, 624, 625, 626, 627, 628, 629, 630, 631, 632, 633, 634] (by decide +kernel) (by decide +kernel)
set_option maxRecDepth 20000 in
theorem gL_law_X4_save : GoodIn wsL_law (wsV RL 99 RX4 yX4_save wsX4_save) := goodIn_app (goodIn_of _ (by decide +kernel)) ggL_law_X4_save
set_option maxRecDepth 20000 in
theorem ggL_law_X5_save : GoodIn wsL_law wsX5_save := goodIn_r _ [579, 80, 77, 81, 134, 135, 5, 136, 595, 596, 597, 598, 599, 600, 601, 602, 603, 604, 605, 606, 607, 608] (by decide +kernel) (by decide +kernel)
set_option maxRecDepth 20000 in
theorem gL_law_X5_save : GoodIn wsL_law (wsV RL 102 RX5 yX5_save wsX5_save) := goodIn_app (goodIn_of _ (by decide +kernel)) ggL_law_X5_save
set_option maxRecDepth 20000 in
theorem ggL_law_X4_restore : GoodIn wsL_law wsX4_restore := goodIn_r _ [583, 21, 16, 19, 575, 88, 89, 90, 2, 91, 17, 18, 92, 93, 94, 15, 95, 40, 96, 97, 98, 99, 42, 43, 44, 45, 46, 50, 100, 101, 102, 28, 103, 104, 105, 106, 107, 108, 109, 110, 111, 112, 113, 114, 49, 115, 55, 116, 56, 57, 58, 59, 121, 122, 123, 124, 125, 126, 127, 128, 588, 589, 590, 591, 592, 593, 594, 609, 610, 611, 612, 613, 614, 615, 622, 623, 624, 625, 626, 627, 628, 629, 630, 631, 632, 633, 634] (by decide +kernel) (by decide +kernel)
set_option maxRecDepth 20000 in
theorem gL_law_X4_restore : GoodIn wsL_law (wsV RL 103 RX4 yX4_restore wsX4_restore) := goodIn_app (goodIn_of _ (by decide +kernel)) ggL_law_X4_restore
set_option maxRecDepth 20000 in
theorem ggL_law_X5_restore : GoodIn wsL_law wsX5_restore := goodIn_r _ [587, 81, 77, 80, 134, 135, 5, 136, 137, 138, 139, 140, 79, 141, 142, 143, 144, 145, 78, 595, 596, 597, 598, 599, 600, 601, 602, 603, 604, 605, 606, 607, 608] (by decide +kernel) (by decide +kernel)
set_option maxRecDepth 20000 in
theorem gL_law_X5_restore : GoodIn wsL_law (wsV RL 106 RX5 yX5_restore wsX5_restore) := goodIn_app (goodIn_of _ (by decide +kernel)) ggL_law_X5_restore
theorem dL_law_0 : decode cL_law 0 = .ok (.new 7, 3) := by decide +kernel
theorem dL_law_3 : decode cL_law 3 = .ok (.dup, 1) := by decide +kernel
theorem dL_law_4 : decode cL_law 4 = .ok (.invokespecial 9, 3) := by decide +kernel
theorem dL_law_7 : decode cL_law 7 = .ok (.astore_n 1, 1) := by decide +kernel
theorem dL_law_8 : decode cL_law 8 = .ok (.new 10, 3) := by decide +kernel
theorem dL_law_11 : decode cL_law 11 = .ok (.dup, 1) := by decide +kernel
theorem dL_law_12 : decode cL_law 12 = .ok (.invokespecial 12, 3) := by decide +kernel
theorem dL_law_15 : decode cL_law 15 = .ok (.astore_n 2, 1) := by decide +kernel
theorem dL_law_16 : decode cL_law 16 = .ok (.iconst 0, 1) := by decide +kernel
theorem dL_law_17 : decode cL_law 17 = .ok (.istore_n 3, 1) := by decide +kernel
theorem dL_law_18 : decode cL_law 18 = .ok (.iload_n 3, 1) := by decide +kernel
theorem dL_law_19 : decode cL_law 19 = .ok (.aload_n 0, 1) := by decide +kernel
theorem dL_law_20 : decode cL_law 20 = .ok (.arraylength, 1) := by decide +kernel
theorem dL_law_21 : decode cL_law 21 = .ok (.iconst 3, 1) := by decide +kernel
theorem dL_law_22 : decode cL_law 22 = .ok (.isub, 1) := by decide +kernel
theorem dL_law_23 : decode cL_law 23 = .ok (.if_icmp .gt 655, 3) := by decide +kernel
theorem dL_law_26 : decode cL_law 26 = .ok (.aload_n 0, 1) := by decide +kernel
theorem dL_law_27 : decode cL_law 27 = .ok (.iload_n 3, 1) := by decide +kernel
theorem dL_law_28 : decode cL_law 28 = .ok (.iaload, 1) := by decide +kernel
theorem dL_law_29 : decode cL_law 29 = .ok (.bipush 31, 2) := by decide +kernel
theorem dL_law_31 : decode cL_law 31 = .ok (.iand, 1) := by decide +kernel
theorem dL_law_32 : decode cL_law 32 = .ok (.tableswitch 640 0 21 #[104, 137, 160, 183, 206, 239, 262, 295, 318, 341, 374, 397, 420, 443, 476, 489, 542, 555, 568, 581, 594, 617], 104) := by decide +kernel
theorem dL_law_136 : decode cL_law 136 = .ok (.aload_n 1, 1) := by decide +kernel
theorem dL_law_137 : decode cL_law 137 = .ok (.aload_n 0, 1) := by decide +kernel
theorem dL_law_138 : decode cL_law 138 = .ok (.iload_n 3, 1) := by decide +kernel
theorem dL_law_139 : decode cL_law 139 = .ok (.iconst 1, 1) := by decide +kernel
theorem dL_law_140 : decode cL_law 140 = .ok (.iadd, 1) := by decide +kernel
theorem dL_law_141 : decode cL_law 141 = .ok (.iaload, 1) := by decide +kernel
theorem dL_law_142 : decode cL_law 142 = .ok (.aload_n 0, 1) := by decide +kernel
theorem dL_law_143 : decode cL_law 143 = .ok (.iload_n 3, 1) := by decide +kernel
theorem dL_law_144 : decode cL_law 144 = .ok (.iconst 2, 1) := by decide +kernel
theorem dL_law_145 : decode cL_law 145 = .ok (.iadd, 1) := by decide +kernel
theorem dL_law_146 : decode cL_law 146 = .ok (.iaload, 1) := by decide +kernel
theorem dL_law_147 : decode cL_law 147 = .ok (.invokevirtual 13, 3) := by decide +kernel
theorem dL_law_150 : decode cL_law 150 = .ok (.aload_n 2, 1) := by decide +kernel
theorem dL_law_151 : decode cL_law 151 = .ok (.aload_n 0, 1) := by decide +kernel
theorem dL_law_152 : decode cL_law 152 = .ok (.iload_n 3, 1) := by decide +kernel
theorem dL_law_153 : decode cL_law 153 = .ok (.iconst 1, 1) := by decide +kernel
theorem dL_law_154 : decode cL_law 154 = .ok (.iadd, 1) := by decide +kernel
theorem dL_law_155 : decode cL_law 155 = .ok (.iaload, 1) := by decide +kernel
theorem dL_law_156 : decode cL_law 156 = .ok (.aload_n 0, 1) := by decide +kernel
theorem dL_law_157 : decode cL_law 157 = .ok (.iload_n 3, 1) := by decide +kernel
theorem dL_law_158 : decode cL_law 158 = .ok (.iconst 2, 1) := by decide +kernel
theorem dL_law_159 : decode cL_law 159 = .ok (.iadd, 1) := by decide +kernel
theorem dL_law_160 : decode cL_law 160 = .ok (.iaload, 1) := by decide +kernel
theorem dL_law_161 : decode cL_law 161 = .ok (.invokevirtual 17, 3) := by decide +kernel
theorem dL_law_164 : decode cL_law 164 = .ok (.if_icmp .eq 508, 3) := by decide +kernel
theorem dL_law_167 : decode cL_law 167 = .ok (.iconst 0, 1) := by decide +kernel
theorem dL_law_168 : decode cL_law 168 = .ok (.ireturn, 1) := by decide +kernel
theorem dL_law_169 : decode cL_law 169 = .ok (.aload_n 1, 1) := by decide +kernel
theorem dL_law_170 : decode cL_law 170 = .ok (.aload_n 0, 1) := by decide +kernel
theorem dL_law_171 : decode cL_law 171 = .ok (.iload_n 3, 1) := by decide +kernel
theorem dL_law_172 : decode cL_law 172 = .ok (.iconst 1, 1) := by decide +kernel
theorem dL_law_173 : decode cL_law 173 = .ok (.iadd, 1) := by decide +kernel
theorem dL_law_174 : decode cL_law 174 = .ok (.iaload, 1) := by decide +kernel
theorem dL_law_175 : decode cL_law 175 = .ok (.invokevirtual 18, 3) := by decide +kernel
theorem dL_law_178 : decode cL_law 178 = .ok (.aload_n 2, 1) := by decide +kernel
theorem dL_law_179 : decode cL_law 179 = .ok (.aload_n 0, 1) := by decide +kernel
theorem dL_law_180 : decode cL_law 180 = .ok (.iload_n 3, 1) := by decide +kernel
theorem dL_law_181 : decode cL_law 181 = .ok (.iconst 1, 1) := by decide +kernel
theorem dL_law_182 : decode cL_law 182 = .ok (.iadd, 1) := by decide +kernel
theorem dL_law_183 : decode cL_law 183 = .ok (.iaload, 1) := by decide +kernel
theorem dL_law_184 : decode cL_law 184 = .ok (.invokevirtual 22, 3) := by decide +kernel
theorem dL_law_187 : decode cL_law 187 = .ok (.if_icmp .eq 485, 3) := by decide +kernel
theorem dL_law_190 : decode cL_law 190 = .ok (.iconst 0, 1) := by decide +kernel
theorem dL_law_191 : decode cL_law 191 = .ok (.ireturn, 1) := by decide +kernel
theorem dL_law_192 : decode cL_law 192 = .ok (.aload_n 1, 1) := by decide +kernel
theorem dL_law_193 : decode cL_law 193 = .ok (.aload_n 0, 1) := by decide +kernel
theorem dL_law_194 : decode cL_law 194 = .ok (.iload_n 3, 1) := by decide +kernel
theorem dL_law_195 : decode cL_law 195 = .ok (.iconst 1, 1) := by decide +kernel
theorem dL_law_196 : decode cL_law 196 = .ok (.iadd, 1) := by decide +kernel
theorem dL_law_197 : decode cL_law 197 = .ok (.iaload, 1) := by decide +kernel
theorem dL_law_198 : decode cL_law 198 = .ok (.invokevirtual 23, 3) := by decide +kernel
theorem dL_law_201 : decode cL_law 201 = .ok (.aload_n 2, 1) := by decide +kernel
theorem dL_law_202 : decode cL_law 202 = .ok (.aload_n 0, 1) := by decide +kernel
theorem dL_law_203 : decode cL_law 203 = .ok (.iload_n 3, 1) := by decide +kernel
theorem dL_law_204 : decode cL_law 204 = .ok (.iconst 1, 1) := by decide +kernel
theorem dL_law_205 : decode cL_law 205 = .ok (.iadd, 1) := by decide +kernel
theorem dL_law_206 : decode cL_law 206 = .ok (.iaload, 1) := by decide +kernel
theorem dL_law_207 : decode cL_law 207 = .ok (.invokevirtual 26, 3) := by decide +kernel
theorem dL_law_210 : decode cL_law 210 = .ok (.if_icmp .eq 462, 3) := by decide +kernel
theorem dL_law_213 : decode cL_law 213 = .ok (.iconst 0, 1) := by decide +kernel
theorem dL_law_214 : decode cL_law 214 = .ok (.ireturn, 1) := by decide +kernel
theorem dL_law_215 : decode cL_law 215 = .ok (.aload_n 1, 1) := by decide +kernel
theorem dL_law_216 : decode cL_law 216 = .ok (.aload_n 0, 1) := by decide +kernel
theorem dL_law_217 : decode cL_law 217 = .ok (.iload_n 3, 1) := by decide +kernel
theorem dL_law_218 : decode cL_law 218 = .ok (.iconst 1, 1) := by decide +kernel
theorem dL_law_219 : decode cL_law 219 = .ok (.iadd, 1) := by decide +kernel
theorem dL_law_220 : decode cL_law 220 = .ok (.iaload, 1) := by decide +kernel
theorem dL_law_221 : decode cL_law 221 = .ok (.invokevirtual 27, 3) := by decide +kernel
theorem dL_law_224 : decode cL_law 224 = .ok (.aload_n 2, 1) := by decide +kernel
theorem dL_law_225 : decode cL_law 225 = .ok (.aload_n 0, 1) := by decide +kernel
theorem dL_law_226 : decode cL_law 226 = .ok (.iload_n 3, 1) := by decide +kernel
theorem dL_law_227 : decode cL_law 227 = .ok (.iconst 1, 1) := by decide +kernel
theorem dL_law_228 : decode cL_law 228 = .ok (.iadd, 1) := by decide +kernel
theorem dL_law_229 : decode cL_law 229 = .ok (.iaload, 1) := by decide +kernel
theorem dL_law_230 : decode cL_law 230 = .ok (.invokevirtual 30, 3) := by decide +kernel
theorem dL_law_233 : decode cL_law 233 = .ok (.if_icmp .eq 439, 3) := by decide +kernel
theorem dL_law_236 : decode cL_law 236 = .ok (.iconst 0, 1) := by decide +kernel
theorem dL_law_237 : decode cL_law 237 = .ok (.ireturn, 1) := by decide +kernel
theorem dL_law_238 : decode cL_law 238 = .ok (.aload_n 1, 1) := by decide +kernel
theorem dL_law_239 : decode cL_law 239 = .ok (.aload_n 0, 1) := by decide +kernel
theorem dL_law_240 : decode cL_law 240 = .ok (.iload_n 3, 1) := by decide +kernel
theorem dL_law_241 : decode cL_law 241 = .ok (.iconst 1, 1) := by decide +kernel
theorem dL_law_242 : decode cL_law 242 = .ok (.iadd, 1) := by decide +kernel
theorem dL_law_243 : decode cL_law 243 = .ok (.iaload, 1) := by decide +kernel
theorem dL_law_244 : decode cL_law 244 = .ok (.aload_n 0, 1) := by decide +kernel
theorem dL_law_245 : decode cL_law 245 = .ok (.iload_n 3, 1) := by decide +kernel
theorem dL_law_246 : decode cL_law 246 = .ok (.iconst 2, 1) := by decide +kernel
theorem dL_law_247 : decode cL_law 247 = .ok (.iadd, 1) := by decide +kernel
theorem dL_law_248 : decode cL_law 248 = .ok (.iaload, 1) := by decide +kernel
theorem dL_law_249 : decode cL_law 249 = .ok (.invokevirtual 31, 3) := by decide +kernel
theorem dL_law_252 : decode cL_law 252 = .ok (.aload_n 2, 1) := by decide +kernel
theorem dL_law_253 : decode cL_law 253 = .ok (.aload_n 0, 1) := by decide +kernel
theorem dL_law_254 : decode cL_law 254 = .ok (.iload_n 3, 1) := by decide +kernel
theorem dL_law_255 : decode cL_law 255 = .ok (.iconst 1, 1) := by decide +kernel
theorem dL_law_256 : decode cL_law 256 = .ok (.iadd, 1) := by decide +kernel
theorem dL_law_257 : decode cL_law 257 = .ok (.iaload, 1) := by decide +kernel
theorem dL_law_258 : decode cL_law 258 = .ok (.aload_n 0, 1) := by decide +kernel
theorem dL_law_259 : decode cL_law 259 = .ok (.iload_n 3, 1) := by decide +kernel
theorem dL_law_260 : decode cL_law 260 = .ok (.iconst 2, 1) := by decide +kernel
theorem dL_law_261 : decode cL_law 261 = .ok (.iadd, 1) := by decide +kernel
theorem dL_law_262 : decode cL_law 262 = .ok (.iaload, 1) := by decide +kernel
theorem dL_law_263 : decode cL_law 263 = .ok (.invokevirtual 34, 3) := by decide +kernel
theorem dL_law_266 : decode cL_law 266 = .ok (.if_icmp .eq 406, 3) := by decide +kernel
theorem dL_law_269 : decode cL_law 269 = .ok (.iconst 0, 1) := by decide +kernel
theorem dL_law_270 : decode cL_law 270 = .ok (.ireturn, 1) := by decide +kernel
theorem dL_law_271 : decode cL_law 271 = .ok (.aload_n 1, 1) := by decide +kernel
theorem dL_law_272 : decode cL_law 272 = .ok (.aload_n 0, 1) := by decide +kernel
theorem dL_law_273 : decode cL_law 273 = .ok (.iload_n 3, 1) := by decide +kernel
theorem dL_law_274 : decode cL_law 274 = .ok (.iconst 1, 1) := by decide +kernel
theorem dL_law_275 : decode cL_law 275 = .ok (.iadd, 1) := by decide +kernel
theorem dL_law_276 : decode cL_law 276 = .ok (.iaload, 1) := by decide +kernel
theorem dL_law_277 : decode cL_law 277 = .ok (.invokevirtual 35, 3) := by decide +kernel
theorem dL_law_280 : decode cL_law 280 = .ok (.aload_n 2, 1) := by decide +kernel
theorem dL_law_281 : decode cL_law 281 = .ok (.aload_n 0, 1) := by decide +kernel
theorem dL_law_282 : decode cL_law 282 = .ok (.iload_n 3, 1) := by decide +kernel
theorem dL_law_283 : decode cL_law 283 = .ok (.iconst 1, 1) := by decide +kernel
theorem dL_law_284 : decode cL_law 284 = .ok (.iadd, 1) := by decide +kernel
theorem dL_law_285 : decode cL_law 285 = .ok (.iaload, 1) := by decide +kernel
theorem dL_law_286 : decode cL_law 286 = .ok (.invokevirtual 38, 3) := by decide +kernel
theorem dL_law_289 : decode cL_law 289 = .ok (.if_icmp .eq 383, 3) := by decide +kernel
theorem dL_law_292 : decode cL_law 292 = .ok (.iconst 0, 1) := by decide +kernel
theorem dL_law_293 : decode cL_law 293 = .ok (.ireturn, 1) := by decide +kernel
theorem dL_law_294 : decode cL_law 294 = .ok (.aload_n 1, 1) := by decide +kernel
theorem dL_law_295 : decode cL_law 295 = .ok (.aload_n 0, 1) := by decide +kernel
theorem dL_law_296 : decode cL_law 296 = .ok (.iload_n 3, 1) := by decide +kernel
theorem dL_law_297 : decode cL_law 297 = .ok (.iconst 1, 1) := by decide +kernel
theorem dL_law_298 : decode cL_law 298 = .ok (.iadd, 1) := by decide +kernel
theorem dL_law_299 : decode cL_law 299 = .ok (.iaload, 1) := by decide +kernel
theorem dL_law_300 : decode cL_law 300 = .ok (.aload_n 0, 1) := by decide +kernel
theorem dL_law_301 : decode cL_law 301 = .ok (.iload_n 3, 1) := by decide +kernel
theorem dL_law_302 : decode cL_law 302 = .ok (.iconst 2, 1) := by decide +kernel
theorem dL_law_303 : decode cL_law 303 = .ok (.iadd, 1) := by decide +kernel
theorem dL_law_304 : decode cL_law 304 = .ok (.iaload, 1) := by decide +kernel
theorem dL_law_305 : decode cL_law 305 = .ok (.invokevirtual 39, 3) := by decide +kernel
theorem dL_law_308 : decode cL_law 308 = .ok (.aload_n 2, 1) := by decide +kernel
theorem dL_law_309 : decode cL_law 309 = .ok (.aload_n 0, 1) := by decide +kernel
theorem dL_law_310 : decode cL_law 310 = .ok (.iload_n 3, 1) := by decide +kernel
theorem dL_law_311 : decode cL_law 311 = .ok (.iconst 1, 1) := by decide +kernel
theorem dL_law_312 : decode cL_law 312 = .ok (.iadd, 1) := by decide +kernel
theorem dL_law_313 : decode cL_law 313 = .ok (.iaload, 1) := by decide +kernel
theorem dL_law_314 : decode cL_law 314 = .ok (.aload_n 0, 1) := by decide +kernel
theorem dL_law_315 : decode cL_law 315 = .ok (.iload_n 3, 1) := by decide +kernel
theorem dL_law_316 : decode cL_law 316 = .ok (.iconst 2, 1) := by decide +kernel
theorem dL_law_317 : decode cL_law 317 = .ok (.iadd, 1) := by decide +kernel
theorem dL_law_318 : decode cL_law 318 = .ok (.iaload, 1) := by decide +kernel
theorem dL_law_319 : decode cL_law 319 = .ok (.invokevirtual 42, 3) := by decide +kernel
theorem dL_law_322 : decode cL_law 322 = .ok (.if_icmp .eq 350, 3) := by decide +kernel
theorem dL_law_325 : decode cL_law 325 = .ok (.iconst 0, 1) := by decide +kernel
theorem dL_law_326 : decode cL_law 326 = .ok (.ireturn, 1) := by decide +kernel
theorem dL_law_327 : decode cL_law 327 = .ok (.aload_n 1, 1) := by decide +kernel
theorem dL_law_328 : decode cL_law 328 = .ok (.aload_n 0, 1) := by decide +kernel
theorem dL_law_329 : decode cL_law 329 = .ok (.iload_n 3, 1) := by decide +kernel
theorem dL_law_330 : decode cL_law 330 = .ok (.iconst 1, 1) := by decide +kernel
theorem dL_law_331 : decode cL_law 331 = .ok (.iadd, 1) := by decide +kernel
theorem dL_law_332 : decode cL_law 332 = .ok (.iaload, 1) := by decide +kernel
theorem dL_law_333 : decode cL_law 333 = .ok (.invokevirtual 43, 3) := by decide +kernel
theorem dL_law_336 : decode cL_law 336 = .ok (.aload_n 2, 1) := by decide +kernel
theorem dL_law_337 : decode cL_law 337 = .ok (.aload_n 0, 1) := by decide +kernel
theorem dL_law_338 : decode cL_law 338 = .ok (.iload_n 3, 1) := by decide +kernel
theorem dL_law_339 : decode cL_law 339 = .ok (.iconst 1, 1) := by decide +kernel
theorem dL_law_340 : decode cL_law 340 = .ok (.iadd, 1) := by decide +kernel
theorem dL_law_341 : decode cL_law 341 = .ok (.iaload, 1) := by decide +kernel
theorem dL_law_342 : decode cL_law 342 = .ok (.invokevirtual 46, 3) := by decide +kernel
theorem dL_law_345 : decode cL_law 345 = .ok (.if_icmp .eq 327, 3) := by decide +kernel
theorem dL_law_348 : decode cL_law 348 = .ok (.iconst 0, 1) := by decide +kernel
theorem dL_law_349 : decode cL_law 349 = .ok (.ireturn, 1) := by decide +kernel
theorem dL_law_350 : decode cL_law 350 = .ok (.aload_n 1, 1) := by decide +kernel
theorem dL_law_351 : decode cL_law 351 = .ok (.aload_n 0, 1) := by decide +kernel
theorem dL_law_352 : decode cL_law 352 = .ok (.iload_n 3, 1) := by decide +kernel
theorem dL_law_353 : decode cL_law 353 = .ok (.iconst 1, 1) := by decide +kernel
theorem dL_law_354 : decode cL_law 354 = .ok (.iadd, 1) := by decide +kernel
theorem dL_law_355 : decode cL_law 355 = .ok (.iaload, 1) := by decide +kernel
theorem dL_law_356 : decode cL_law 356 = .ok (.invokevirtual 47, 3) := by decide +kernel
theorem dL_law_359 : decode cL_law 359 = .ok (.aload_n 2, 1) := by decide +kernel
theorem dL_law_360 : decode cL_law 360 = .ok (.aload_n 0, 1) := by decide +kernel
theorem dL_law_361 : decode cL_law 361 = .ok (.iload_n 3, 1) := by decide +kernel
theorem dL_law_362 : decode cL_law 362 = .ok (.iconst 1, 1) := by decide +kernel
theorem dL_law_363 : decode cL_law 363 = .ok (.iadd, 1) := by decide +kernel
theorem dL_law_364 : decode cL_law 364 = .ok (.iaload, 1) := by decide +kernel
theorem dL_law_365 : decode cL_law 365 = .ok (.invokevirtual 50, 3) := by decide +kernel
theorem dL_law_368 : decode cL_law 368 = .ok (.if_icmp .eq 304, 3) := by decide +kernel
theorem dL_law_371 : decode cL_law 371 = .ok (.iconst 0, 1) := by decide +kernel
theorem dL_law_372 : decode cL_law 372 = .ok (.ireturn, 1) := by decide +kernel
theorem dL_law_373 : decode cL_law 373 = .ok (.aload_n 1, 1) := by decide +kernel
theorem dL_law_374 : decode cL_law 374 = .ok (.aload_n 0, 1) := by decide +kernel
theorem dL_law_375 : decode cL_law 375 = .ok (.iload_n 3, 1) := by decide +kernel
theorem dL_law_376 : decode cL_law 376 = .ok (.iconst 1, 1) := by decide +kernel
theorem dL_law_377 : decode cL_law 377 = .ok (.iadd, 1) := by decide +kernel
theorem dL_law_378 : decode cL_law 378 = .ok (.iaload, 1) := by decide +kernel
theorem dL_law_379 : decode cL_law 379 = .ok (.aload_n 0, 1) := by decide +kernel
theorem dL_law_380 : decode cL_law 380 = .ok (.iload_n 3, 1) := by decide +kernel
theorem dL_law_381 : decode cL_law 381 = .ok (.iconst 2, 1) := by decide +kernel
theorem dL_law_382 : decode cL_law 382 = .ok (.iadd, 1) := by decide +kernel
theorem dL_law_383 : decode cL_law 383 = .ok (.iaload, 1) := by decide +kernel
theorem dL_law_384 : decode cL_law 384 = .ok (.invokevirtual 51, 3) := by decide +kernel
theorem dL_law_387 : decode cL_law 387 = .ok (.aload_n 2, 1) := by decide +kernel
theorem dL_law_388 : decode cL_law 388 = .ok (.aload_n 0, 1) := by decide +kernel
theorem dL_law_389 : decode cL_law 389 = .ok (.iload_n 3, 1) := by decide +kernel
theorem dL_law_390 : decode cL_law 390 = .ok (.iconst 1, 1) := by decide +kernel
theorem dL_law_391 : decode cL_law 391 = .ok (.iadd, 1) := by decide +kernel
theorem dL_law_392 : decode cL_law 392 = .ok (.iaload, 1) := by decide +kernel
theorem dL_law_393 : decode cL_law 393 = .ok (.aload_n 0, 1) := by decide +kernel
theorem dL_law_394 : decode cL_law 394 = .ok (.iload_n 3, 1) := by decide +kernel
theorem dL_law_395 : decode cL_law 395 = .ok (.iconst 2, 1) := by decide +kernel
theorem dL_law_396 : decode cL_law 396 = .ok (.iadd, 1) := by decide +kernel
theorem dL_law_397 : decode cL_law 397 = .ok (.iaload, 1) := by decide +kernel
theorem dL_law_398 : decode cL_law 398 = .ok (.invokevirtual 54, 3) := by decide +kernel
theorem dL_law_401 : decode cL_law 401 = .ok (.if_icmp .eq 271, 3) := by decide +kernel
theorem dL_law_404 : decode cL_law 404 = .ok (.iconst 0, 1) := by decide +kernel
theorem dL_law_405 : decode cL_law 405 = .ok (.ireturn, 1) := by decide +kernel
theorem dL_law_406 : decode cL_law 406 = .ok (.aload_n 1, 1) := by decide +kernel
theorem dL_law_407 : decode cL_law 407 = .ok (.aload_n 0, 1) := by decide +kernel
theorem dL_law_408 : decode cL_law 408 = .ok (.iload_n 3, 1) := by decide +kernel
theorem dL_law_409 : decode cL_law 409 = .ok (.iconst 1, 1) := by decide +kernel
theorem dL_law_410 : decode cL_law 410 = .ok (.iadd, 1) := by decide +kernel
theorem dL_law_411 : decode cL_law 411 = .ok (.iaload, 1) := by decide +kernel
theorem dL_law_412 : decode cL_law 412 = .ok (.invokevirtual 55, 3) := by decide +kernel
theorem dL_law_415 : decode cL_law 415 = .ok (.aload_n 2, 1) := by decide +kernel
theorem dL_law_416 : decode cL_law 416 = .ok (.aload_n 0, 1) := by decide +kernel
theorem dL_law_417 : decode cL_law 417 = .ok (.iload_n 3, 1) := by decide +kernel
theorem dL_law_418 : decode cL_law 418 = .ok (.iconst 1, 1) := by decide +kernel
theorem dL_law_419 : decode cL_law 419 = .ok (.iadd, 1) := by decide +kernel
theorem dL_law_420 : decode cL_law 420 = .ok (.iaload, 1) := by decide +kernel
theorem dL_law_421 : decode cL_law 421 = .ok (.invokevirtual 58, 3) := by decide +kernel
theorem dL_law_424 : decode cL_law 424 = .ok (.if_icmp .eq 248, 3) := by decide +kernel
theorem dL_law_427 : decode cL_law 427 = .ok (.iconst 0, 1) := by decide +kernel
theorem dL_law_428 : decode cL_law 428 = .ok (.ireturn, 1) := by decide +kernel
theorem dL_law_429 : decode cL_law 429 = .ok (.aload_n 1, 1) := by decide +kernel
theorem dL_law_430 : decode cL_law 430 = .ok (.aload_n 0, 1) := by decide +kernel
theorem dL_law_431 : decode cL_law 431 = .ok (.iload_n 3, 1) := by decide +kernel
theorem dL_law_432 : decode cL_law 432 = .ok (.iconst 1, 1) := by decide +kernel
theorem dL_law_433 : decode cL_law 433 = .ok (.iadd, 1) := by decide +kernel
theorem dL_law_434 : decode cL_law 434 = .ok (.iaload, 1) := by decide +kernel
theorem dL_law_435 : decode cL_law 435 = .ok (.invokevirtual 59, 3) := by decide +kernel
theorem dL_law_438 : decode cL_law 438 = .ok (.aload_n 2, 1) := by decide +kernel
theorem dL_law_439 : decode cL_law 439 = .ok (.aload_n 0, 1) := by decide +kernel
theorem dL_law_440 : decode cL_law 440 = .ok (.iload_n 3, 1) := by decide +kernel
theorem dL_law_441 : decode cL_law 441 = .ok (.iconst 1, 1) := by decide +kernel
theorem dL_law_442 : decode cL_law 442 = .ok (.iadd, 1) := by decide +kernel
theorem dL_law_443 : decode cL_law 443 = .ok (.iaload, 1) := by decide +kernel
theorem dL_law_444 : decode cL_law 444 = .ok (.invokevirtual 62, 3) := by decide +kernel
theorem dL_law_447 : decode cL_law 447 = .ok (.if_icmp .eq 225, 3) := by decide +kernel
theorem dL_law_450 : decode cL_law 450 = .ok (.iconst 0, 1) := by decide +kernel
theorem dL_law_451 : decode cL_law 451 = .ok (.ireturn, 1) := by decide +kernel
theorem dL_law_452 : decode cL_law 452 = .ok (.aload_n 1, 1) := by decide +kernel
theorem dL_law_453 : decode cL_law 453 = .ok (.aload_n 0, 1) := by decide +kernel
theorem dL_law_454 : decode cL_law 454 = .ok (.iload_n 3, 1) := by decide +kernel
theorem dL_law_455 : decode cL_law 455 = .ok (.iconst 1, 1) := by decide +kernel
theorem dL_law_456 : decode cL_law 456 = .ok (.iadd, 1) := by decide +kernel
theorem dL_law_457 : decode cL_law 457 = .ok (.iaload, 1) := by decide +kernel
theorem dL_law_458 : decode cL_law 458 = .ok (.invokevirtual 63, 3) := by decide +kernel
theorem dL_law_461 : decode cL_law 461 = .ok (.aload_n 2, 1) := by decide +kernel
theorem dL_law_462 : decode cL_law 462 = .ok (.aload_n 0, 1) := by decide +kernel
theorem dL_law_463 : decode cL_law 463 = .ok (.iload_n 3, 1) := by decide +kernel
theorem dL_law_464 : decode cL_law 464 = .ok (.iconst 1, 1) := by decide +kernel
theorem dL_law_465 : decode cL_law 465 = .ok (.iadd, 1) := by decide +kernel
theorem dL_law_466 : decode cL_law 466 = .ok (.iaload, 1) := by decide +kernel
theorem dL_law_467 : decode cL_law 467 = .ok (.invokevirtual 66, 3) := by decide +kernel
theorem dL_law_470 : decode cL_law 470 = .ok (.if_icmp .eq 202, 3) := by decide +kernel
theorem dL_law_473 : decode cL_law 473 = .ok (.iconst 0, 1) := by decide +kernel
theorem dL_law_474 : decode cL_law 474 = .ok (.ireturn, 1) := by decide +kernel
theorem dL_law_475 : decode cL_law 475 = .ok (.aload_n 1, 1) := by decide +kernel
theorem dL_law_476 : decode cL_law 476 = .ok (.aload_n 0, 1) := by decide +kernel
theorem dL_law_477 : decode cL_law 477 = .ok (.iload_n 3, 1) := by decide +kernel
theorem dL_law_478 : decode cL_law 478 = .ok (.iconst 1, 1) := by decide +kernel
theorem dL_law_479 : decode cL_law 479 = .ok (.iadd, 1) := by decide +kernel
theorem dL_law_480 : decode cL_law 480 = .ok (.iaload, 1) := by decide +kernel
theorem dL_law_481 : decode cL_law 481 = .ok (.aload_n 0, 1) := by decide +kernel
theorem dL_law_482 : decode cL_law 482 = .ok (.iload_n 3, 1) := by decide +kernel
theorem dL_law_483 : decode cL_law 483 = .ok (.iconst 2, 1) := by decide +kernel
theorem dL_law_484 : decode cL_law 484 = .ok (.iadd, 1) := by decide +kernel
theorem dL_law_485 : decode cL_law 485 = .ok (.iaload, 1) := by decide +kernel
theorem dL_law_486 : decode cL_law 486 = .ok (.invokevirtual 67, 3) := by decide +kernel
theorem dL_law_489 : decode cL_law 489 = .ok (.aload_n 2, 1) := by decide +kernel
theorem dL_law_490 : decode cL_law 490 = .ok (.aload_n 0, 1) := by decide +kernel
theorem dL_law_491 : decode cL_law 491 = .ok (.iload_n 3, 1) := by decide +kernel
theorem dL_law_492 : decode cL_law 492 = .ok (.iconst 1, 1) := by decide +kernel
theorem dL_law_493 : decode cL_law 493 = .ok (.iadd, 1) := by decide +kernel
theorem dL_law_494 : decode cL_law 494 = .ok (.iaload, 1) := by decide +kernel
theorem dL_law_495 : decode cL_law 495 = .ok (.aload_n 0, 1) := by decide +kernel
theorem dL_law_496 : decode cL_law 496 = .ok (.iload_n 3, 1) := by decide +kernel
theorem dL_law_497 : decode cL_law 497 = .ok (.iconst 2, 1) := by decide +kernel
theorem dL_law_498 : decode cL_law 498 = .ok (.iadd, 1) := by decide +kernel
theorem dL_law_499 : decode cL_law 499 = .ok (.iaload, 1) := by decide +kernel
theorem dL_law_500 : decode cL_law 500 = .ok (.invokevirtual 70, 3) := by decide +kernel
theorem dL_law_503 : decode cL_law 503 = .ok (.if_icmp .eq 169, 3) := by decide +kernel
theorem dL_law_506 : decode cL_law 506 = .ok (.iconst 0, 1) := by decide +kernel
theorem dL_law_507 : decode cL_law 507 = .ok (.ireturn, 1) := by decide +kernel
theorem dL_law_508 : decode cL_law 508 = .ok (.aload_n 1, 1) := by decide +kernel
theorem dL_law_509 : decode cL_law 509 = .ok (.invokevirtual 71, 3) := by decide +kernel
theorem dL_law_512 : decode cL_law 512 = .ok (.aload_n 2, 1) := by decide +kernel
theorem dL_law_513 : decode cL_law 513 = .ok (.invokevirtual 75, 3) := by decide +kernel
theorem dL_law_516 : decode cL_law 516 = .ok (.if_icmp .eq 156, 3) := by decide +kernel
theorem dL_law_519 : decode cL_law 519 = .ok (.iconst 0, 1) := by decide +kernel
theorem dL_law_520 : decode cL_law 520 = .ok (.ireturn, 1) := by decide +kernel
theorem dL_law_521 : decode cL_law 521 = .ok (.aload_n 1, 1) := by decide +kernel
theorem dL_law_522 : decode cL_law 522 = .ok (.aload_n 0, 1) := by decide +kernel
theorem dL_law_523 : decode cL_law 523 = .ok (.iload_n 3, 1) := by decide +kernel
theorem dL_law_524 : decode cL_law 524 = .ok (.iconst 1, 1) := by decide +kernel
theorem dL_law_525 : decode cL_law 525 = .ok (.iadd, 1) := by decide +kernel
theorem dL_law_526 : decode cL_law 526 = .ok (.iaload, 1) := by decide +kernel
theorem dL_law_527 : decode cL_law 527 = .ok (.i2l, 1) := by decide +kernel
theorem dL_law_528 : decode cL_law 528 = .ok (.bipush 32, 2) := by decide +kernel
theorem dL_law_530 : decode cL_law 530 = .ok (.lshl, 1) := by decide +kernel
theorem dL_law_531 : decode cL_law 531 = .ok (.aload_n 0, 1) := by decide +kernel
theorem dL_law_532 : decode cL_law 532 = .ok (.iload_n 3, 1) := by decide +kernel
theorem dL_law_533 : decode cL_law 533 = .ok (.iconst 2, 1) := by decide +kernel
theorem dL_law_534 : decode cL_law 534 = .ok (.iadd, 1) := by decide +kernel
theorem dL_law_535 : decode cL_law 535 = .ok (.iaload, 1) := by decide +kernel
theorem dL_law_536 : decode cL_law 536 = .ok (.i2l, 1) := by decide +kernel
theorem dL_law_537 : decode cL_law 537 = .ok (.ldc2_w 76, 3) := by decide +kernel
theorem dL_law_540 : decode cL_law 540 = .ok (.land, 1) := by decide +kernel
theorem dL_law_541 : decode cL_law 541 = .ok (.lor, 1) := by decide +kernel
theorem dL_law_542 : decode cL_law 542 = .ok (.invokevirtual 78, 3) := by decide +kernel
theorem dL_law_545 : decode cL_law 545 = .ok (.aload_n 2, 1) := by decide +kernel
theorem dL_law_546 : decode cL_law 546 = .ok (.aload_n 0, 1) := by decide +kernel
theorem dL_law_547 : decode cL_law 547 = .ok (.iload_n 3, 1) := by decide +kernel
theorem dL_law_548 : decode cL_law 548 = .ok (.iconst 1, 1) := by decide +kernel
theorem dL_law_549 : decode cL_law 549 = .ok (.iadd, 1) := by decide +kernel
theorem dL_law_550 : decode cL_law 550 = .ok (.iaload, 1) := by decide +kernel
theorem dL_law_551 : decode cL_law 551 = .ok (.i2l, 1) := by decide +kernel
theorem dL_law_552 : decode cL_law 552 = .ok (.bipush 32, 2) := by decide +kernel
theorem dL_law_554 : decode cL_law 554 = .ok (.lshl, 1) := by decide +kernel
theorem dL_law_555 : decode cL_law 555 = .ok (.aload_n 0, 1) := by decide +kernel
theorem dL_law_556 : decode cL_law 556 = .ok (.iload_n 3, 1) := by decide +kernel
theorem dL_law_557 : decode cL_law 557 = .ok (.iconst 2, 1) := by decide +kernel
theorem dL_law_558 : decode cL_law 558 = .ok (.iadd, 1) := by decide +kernel
theorem dL_law_559 : decode cL_law 559 = .ok (.iaload, 1) := by decide +kernel
theorem dL_law_560 : decode cL_law 560 = .ok (.i2l, 1) := by decide +kernel
theorem dL_law_561 : decode cL_law 561 = .ok (.ldc2_w 76, 3) := by decide +kernel
theorem dL_law_564 : decode cL_law 564 = .ok (.land, 1) := by decide +kernel
theorem dL_law_565 : decode cL_law 565 = .ok (.lor, 1) := by decide +kernel
theorem dL_law_566 : decode cL_law 566 = .ok (.invokevirtual 82, 3) := by decide +kernel
theorem dL_law_569 : decode cL_law 569 = .ok (.if_icmp .eq 103, 3) := by decide +kernel
theorem dL_law_572 : decode cL_law 572 = .ok (.iconst 0, 1) := by decide +kernel
theorem dL_law_573 : decode cL_law 573 = .ok (.ireturn, 1) := by decide +kernel
theorem dL_law_574 : decode cL_law 574 = .ok (.aload_n 1, 1) := by decide +kernel
theorem dL_law_575 : decode cL_law 575 = .ok (.invokevirtual 83, 3) := by decide +kernel
theorem dL_law_578 : decode cL_law 578 = .ok (.aload_n 2, 1) := by decide +kernel
theorem dL_law_579 : decode cL_law 579 = .ok (.invokevirtual 86, 3) := by decide +kernel
theorem dL_law_582 : decode cL_law 582 = .ok (.if_icmp .eq 90, 3) := by decide +kernel
theorem dL_law_585 : decode cL_law 585 = .ok (.iconst 0, 1) := by decide +kernel
theorem dL_law_586 : decode cL_law 586 = .ok (.ireturn, 1) := by decide +kernel
theorem dL_law_587 : decode cL_law 587 = .ok (.aload_n 1, 1) := by decide +kernel
theorem dL_law_588 : decode cL_law 588 = .ok (.invokevirtual 87, 3) := by decide +kernel
theorem dL_law_591 : decode cL_law 591 = .ok (.aload_n 2, 1) := by decide +kernel
theorem dL_law_592 : decode cL_law 592 = .ok (.invokevirtual 90, 3) := by decide +kernel
theorem dL_law_595 : decode cL_law 595 = .ok (.if_icmp .eq 77, 3) := by decide +kernel
theorem dL_law_598 : decode cL_law 598 = .ok (.iconst 0, 1) := by decide +kernel
theorem dL_law_599 : decode cL_law 599 = .ok (.ireturn, 1) := by decide +kernel
theorem dL_law_600 : decode cL_law 600 = .ok (.aload_n 1, 1) := by decide +kernel
theorem dL_law_601 : decode cL_law 601 = .ok (.invokevirtual 91, 3) := by decide +kernel
theorem dL_law_604 : decode cL_law 604 = .ok (.aload_n 2, 1) := by decide +kernel
theorem dL_law_605 : decode cL_law 605 = .ok (.invokevirtual 94, 3) := by decide +kernel
theorem dL_law_608 : decode cL_law 608 = .ok (.if_icmp .eq 64, 3) := by decide +kernel
theorem dL_law_611 : decode cL_law 611 = .ok (.iconst 0, 1) := by decide +kernel
theorem dL_law_612 : decode cL_law 612 = .ok (.ireturn, 1) := by decide +kernel
theorem dL_law_613 : decode cL_law 613 = .ok (.aload_n 1, 1) := by decide +kernel
theorem dL_law_614 : decode cL_law 614 = .ok (.invokevirtual 95, 3) := by decide +kernel
theorem dL_law_617 : decode cL_law 617 = .ok (.aload_n 2, 1) := by decide +kernel
theorem dL_law_618 : decode cL_law 618 = .ok (.invokevirtual 98, 3) := by decide +kernel
theorem dL_law_621 : decode cL_law 621 = .ok (.if_icmp .eq 51, 3) := by decide +kernel
theorem dL_law_624 : decode cL_law 624 = .ok (.iconst 0, 1) := by decide +kernel
theorem dL_law_625 : decode cL_law 625 = .ok (.ireturn, 1) := by decide +kernel
theorem dL_law_626 : decode cL_law 626 = .ok (.aload_n 1, 1) := by decide +kernel
theorem dL_law_627 : decode cL_law 627 = .ok (.aload_n 0, 1) := by decide +kernel
theorem dL_law_628 : decode cL_law 628 = .ok (.iload_n 3, 1) := by decide +kernel
theorem dL_law_629 : decode cL_law 629 = .ok (.iconst 1, 1) := by decide +kernel
theorem dL_law_630 : decode cL_law 630 = .ok (.iadd, 1) := by decide +kernel
theorem dL_law_631 : decode cL_law 631 = .ok (.iaload, 1) := by decide +kernel
theorem dL_law_632 : decode cL_law 632 = .ok (.invokevirtual 99, 3) := by decide +kernel
theorem dL_law_635 : decode cL_law 635 = .ok (.aload_n 2, 1) := by decide +kernel
theorem dL_law_636 : decode cL_law 636 = .ok (.aload_n 0, 1) := by decide +kernel
theorem dL_law_637 : decode cL_law 637 = .ok (.iload_n 3, 1) := by decide +kernel
theorem dL_law_638 : decode cL_law 638 = .ok (.iconst 1, 1) := by decide +kernel
theorem dL_law_639 : decode cL_law 639 = .ok (.iadd, 1) := by decide +kernel
theorem dL_law_640 : decode cL_law 640 = .ok (.iaload, 1) := by decide +kernel
theorem dL_law_641 : decode cL_law 641 = .ok (.invokevirtual 102, 3) := by decide +kernel
theorem dL_law_644 : decode cL_law 644 = .ok (.if_icmp .eq 28, 3) := by decide +kernel
theorem dL_law_647 : decode cL_law 647 = .ok (.iconst 0, 1) := by decide +kernel
theorem dL_law_648 : decode cL_law 648 = .ok (.ireturn, 1) := by decide +kernel
theorem dL_law_649 : decode cL_law 649 = .ok (.aload_n 1, 1) := by decide +kernel
theorem dL_law_650 : decode cL_law 650 = .ok (.aload_n 0, 1) := by decide +kernel
theorem dL_law_651 : decode cL_law 651 = .ok (.iload_n 3, 1) := by decide +kernel
theorem dL_law_652 : decode cL_law 652 = .ok (.iconst 1, 1) := by decide +kernel
theorem dL_law_653 : decode cL_law 653 = .ok (.iadd, 1) := by decide +kernel
theorem dL_law_654 : decode cL_law 654 = .ok (.iaload, 1) := by decide +kernel
theorem dL_law_655 : decode cL_law 655 = .ok (.invokevirtual 103, 3) := by decide +kernel
theorem dL_law_658 : decode cL_law 658 = .ok (.aload_n 2, 1) := by decide +kernel
theorem dL_law_659 : decode cL_law 659 = .ok (.aload_n 0, 1) := by decide +kernel
theorem dL_law_660 : decode cL_law 660 = .ok (.iload_n 3, 1) := by decide +kernel
theorem dL_law_661 : decode cL_law 661 = .ok (.iconst 1, 1) := by decide +kernel
theorem dL_law_662 : decode cL_law 662 = .ok (.iadd, 1) := by decide +kernel
theorem dL_law_663 : decode cL_law 663 = .ok (.iaload, 1) := by decide +kernel
theorem dL_law_664 : decode cL_law 664 = .ok (.invokevirtual 106, 3) := by decide +kernel
theorem dL_law_667 : decode cL_law 667 = .ok (.if_icmp .eq 5, 3) := by decide +kernel
theorem dL_law_670 : decode cL_law 670 = .ok (.iconst 0, 1) := by decide +kernel
theorem dL_law_671 : decode cL_law 671 = .ok (.ireturn, 1) := by decide +kernel
theorem dL_law_672 : decode cL_law 672 = .ok (.iinc 3 3, 3) := by decide +kernel
theorem dL_law_675 : decode cL_law 675 = .ok (.goto (-657), 3) := by decide +kernel
theorem dL_law_678 : decode cL_law 678 = .ok (.iconst 1, 1) := by decide +kernel
theorem dL_law_679 : decode cL_law 679 = .ok (.ireturn, 1) := by decide +kernel
abbrev vwCl : List vw_C := [(RX0, TX0, 5), (RX1, TX1, 8), (RX2, TX2, 6), (RX3, TX3, 7), (RX4, TX4, 7), (RX5, TX5, 14)]
end
section
theorem zz_last : True := trivial
end
