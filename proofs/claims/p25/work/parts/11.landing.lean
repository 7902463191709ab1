def fn_X0_add (a1 : Int32) (a2 : Int32) (a3 : Int32) (x : mm_M) : Option mm_M :=
  if (x 4 4) < 0 ∨ 20 ≤ Int32.toNatClampNeg (x 4 4) then none else (some (mm_up x 5 (Int32.toNatClampNeg (x 4 4)) a1)).bind fun x1 => if (x1 4 4) < 0 ∨ 20 ≤ Int32.toNatClampNeg (x1 4 4) then none else (some (mm_up x1 6 (Int32.toNatClampNeg (x1 4 4)) a2)).bind fun x2 => if (x2 4 4) < 0 ∨ 20 ≤ Int32.toNatClampNeg (x2 4 4) then none else (some (mm_up x2 7 (Int32.toNatClampNeg (x2 4 4)) a3)).bind fun x3 => if (20 : Int32) ≤ ((x3 4 4) + 1) then (some (mm_up x3 4 4 0)).bind fun x4 => (some (mm_up x4 4 3 (if (20 : Int32) < ((x4 4 3) + 1) then (20 : Int32) else ((x4 4 3) + 1)))).bind fun x5 => some x5 else (some (mm_up x3 4 4 ((x3 4 4) + 1))).bind fun x6 => (some (mm_up x6 4 3 (if (20 : Int32) < ((x6 4 3) + 1) then (20 : Int32) else ((x6 4 3) + 1)))).bind fun x7 => some x7
abbrev rm_X0_add : Room := { frames := 1, cells := 0, slots := 0, locals := 21 }
theorem df_X0_add : yX0_add.cls = RX0 ∧ yX0_add.cls ≠ "java/lang/invoke/MethodHandle" ∧ yX0_add.cls ≠ "java/lang/invoke/VarHandle" ∧ (parseMethodDescriptor yX0_add.desc).map (fun d => d.parameters.length) = some 3 := by decide +kernel
set_option maxRecDepth 100000 in
set_option maxHeartbeats 4000000 in
theorem ct_X0_add (l : Launch) (G : va_G) (T : Nat → ClassId) (b : Nat) (z : Nat → Nat) (a1 : Int32) (a2 : Int32) (a3 : Int32) (x : mm_M) {x1 : mm_M} (h : fn_X0_add a1 a2 a3 x = some x1) : mm_Cv l yX0_add wsX0_add rm_X0_add G T b z [.ref (b + 4), .int a1, .int a2, .int a3] x x1 := by
  unfold fn_X0_add at h
  refine mm_start (cc := cX0_add) (maxL := 4) (ret := none) (by decide) rfl (Nat.le_of_ble_eq_true rfl) (fun p e s m below meth c ls C hr hlk hH hl => ?_)
  have hl : lv_has ls 4 [(0, .ref (b + 4)), (1, .int a1), (2, .int a2), (3, .int a3)] := hl
  have hx := C.1
  have hb := C.2.1
  have w1 := C.2.2.2.2.1 (.fieldLink RX0 9 "LandingFines$Journal" "sorts" "[I") (by decide +kernel)
  have w2 := C.2.2.2.2.1 (.fieldLink RX0 25 "LandingFines$Journal" "next" "I") (by decide +kernel)
  have w3 := C.2.2.2.2.1 (.fieldLink RX0 15 "LandingFines$Journal" "places" "[I") (by decide +kernel)
  have w4 := C.2.2.2.2.1 (.fieldLink RX0 18 "LandingFines$Journal" "minutes" "[I") (by decide +kernel)
  have w5 := C.2.2.2.2.1 (.fieldLink RX0 21 "LandingFines$Journal" "size" "I") (by decide +kernel)
  have w6 := C.2.2.2.2.1 (.methodLink RX0 28 Lib.Math.min.name) (by decide +kernel)
  have w7 := C.2.2.2.2.1 (.static Lib.Math.min.name) (by decide +kernel)
  have w8 := C.2.2.2.2.1 (.initialized "java/lang/Math") (by decide +kernel)
  have w9 := C.2.2.2.2.1 (.code Lib.Math.min.name Lib.Math.min.code 2 (some .int)) (by decide +kernel)
  have hin0 : ∀ w ∈ wsX00, w ∈ wsX0_add := by decide +kernel
  refine lv_aload_n hx hb dX0_add_0 rfl (lv_at hl 0 rfl) ?_
  refine mm_get (v := .ref (b + 5)) C hH hin0 rfl kl_4 (mm_e0 kd_4) (j := 0) (by decide) rfl w1 rfl dX0_add_1 ?_
  refine lv_aload_n hx hb dX0_add_4 rfl (lv_at hl 0 rfl) ?_
  refine mm_get (v := .int (x 4 4)) C hH hin0 rfl kl_4 (mm_e0 kd_4) (j := 4) (by decide) rfl w2 rfl dX0_add_5 ?_
  refine lv_iload_n hx hb dX0_add_8 rfl (lv_at hl 1 rfl) ?_
  obtain ⟨g1, h⟩ := mm_grn h
  obtain ⟨x1, e1, h⟩ := mm_bnd h
  refine mm_iast (n := 20) (jn := (Int32.toNatClampNeg (x 4 4))) C hH kd_5 ln_5 g1 rfl (Option.some.inj e1) dX0_add_9 (fun H locs hH => ?_)
  refine lv_aload_n hx hb dX0_add_10 rfl (lv_at hl 0 rfl) ?_
  refine mm_get (v := .ref (b + 6)) C hH hin0 rfl kl_4 (mm_e0 kd_4) (j := 1) (by decide) rfl w3 rfl dX0_add_11 ?_
  refine lv_aload_n hx hb dX0_add_14 rfl (lv_at hl 0 rfl) ?_
  refine mm_get (v := .int (x1 4 4)) C hH hin0 rfl kl_4 (mm_e0 kd_4) (j := 4) (by decide) rfl w2 rfl dX0_add_15 ?_
  refine lv_iload_n hx hb dX0_add_18 rfl (lv_at hl 2 rfl) ?_
  obtain ⟨g2, h⟩ := mm_grn h
  obtain ⟨x2, e2, h⟩ := mm_bnd h
  refine mm_iast (n := 20) (jn := (Int32.toNatClampNeg (x1 4 4))) C hH kd_6 ln_6 g2 rfl (Option.some.inj e2) dX0_add_19 (fun H locs hH => ?_)
  refine lv_aload_n hx hb dX0_add_20 rfl (lv_at hl 0 rfl) ?_
  refine mm_get (v := .ref (b + 7)) C hH hin0 rfl kl_4 (mm_e0 kd_4) (j := 2) (by decide) rfl w4 rfl dX0_add_21 ?_
  refine lv_aload_n hx hb dX0_add_24 rfl (lv_at hl 0 rfl) ?_
  refine mm_get (v := .int (x2 4 4)) C hH hin0 rfl kl_4 (mm_e0 kd_4) (j := 4) (by decide) rfl w2 rfl dX0_add_25 ?_
  refine lv_iload_n hx hb dX0_add_28 rfl (lv_at hl 3 rfl) ?_
  obtain ⟨g3, h⟩ := mm_grn h
  obtain ⟨x3, e3, h⟩ := mm_bnd h
  refine mm_iast (n := 20) (jn := (Int32.toNatClampNeg (x2 4 4))) C hH kd_7 ln_7 g3 rfl (Option.some.inj e3) dX0_add_29 (fun H locs hH => ?_)
  refine lv_aload_n hx hb dX0_add_30 rfl (lv_at hl 0 rfl) ?_
  refine lv_aload_n hx hb dX0_add_31 rfl (lv_at hl 0 rfl) ?_
  refine mm_get (v := .int (x3 4 4)) C hH hin0 rfl kl_4 (mm_e0 kd_4) (j := 4) (by decide) rfl w2 rfl dX0_add_32 ?_
  refine lv_iconst (v := 1) hx hb dX0_add_35 (by decide) ?_
  refine lv_iadd hx hb dX0_add_36 ?_
  refine lv_bipush (v := 20) hx hb dX0_add_37 (by decide) ?_
  refine lv_icmp_ge (tgt := 51) hx hb dX0_add_39 (by decide) (fun c1 => ?_) (fun c1 => ?_)
  · have h := mm_pos c1 h
    have hl := lv_sub (l' := [(0, .ref (b + 4))]) hl [0] rfl
    refine lv_iconst (v := 0) hx hb dX0_add_51 (by decide) ?_
    obtain ⟨x4, e4, h⟩ := mm_bnd h
    refine mm_put (ty := .int) C hH hin0 tyX0_ok nmX0 rfl kl_4 (mm_e0 kd_4) (j := 4) (by decide) rfl w2 pd_I rfl rfl (Nat.le_of_ble_eq_true rfl) (sp_0_4 kd_4) (Option.some.inj e4) dX0_add_52 (fun H locs hH => ?_)
    refine lv_aload_n hx hb dX0_add_55 rfl (lv_at hl 0 rfl) ?_
    refine lv_aload_n hx hb dX0_add_56 rfl (lv_at hl 0 rfl) ?_
    refine mm_get (v := .int (x4 4 3)) C hH hin0 rfl kl_4 (mm_e0 kd_4) (j := 3) (by decide) rfl w5 rfl dX0_add_57 ?_
    refine lv_iconst (v := 1) hx hb dX0_add_60 (by decide) ?_
    refine lv_iadd hx hb dX0_add_61 ?_
    refine lv_bipush (v := 20) hx hb dX0_add_62 (by decide) ?_
    refine mm_minv C hl.1.symm w6 w7 w8 w9 (Nat.le_of_ble_eq_true rfl) (Nat.le_of_ble_eq_true rfl) (Nat.zero_le _) (Nat.zero_le _) dX0_add_64 ?_
    obtain ⟨x5, e5, h⟩ := mm_bnd h
    refine mm_put (ty := .int) C hH hin0 tyX0_ok nmX0 rfl kl_4 (mm_e0 kd_4) (j := 3) (by decide) rfl w5 pd_I rfl rfl (Nat.le_of_ble_eq_true rfl) (sp_0_3 kd_4) (Option.some.inj e5) dX0_add_67 (fun H locs hH => ?_)
    exact mm_vret C hH hr hlk h dX0_add_70
  · have h := mm_neg c1 h
    have hl := lv_sub (l' := [(0, .ref (b + 4))]) hl [0] rfl
    refine lv_aload_n hx hb dX0_add_42 rfl (lv_at hl 0 rfl) ?_
    refine mm_get (v := .int (x3 4 4)) C hH hin0 rfl kl_4 (mm_e0 kd_4) (j := 4) (by decide) rfl w2 rfl dX0_add_43 ?_
    refine lv_iconst (v := 1) hx hb dX0_add_46 (by decide) ?_
    refine lv_iadd hx hb dX0_add_47 ?_
    refine lv_goto (tgt := 52) hx hb dX0_add_48 (by decide) ?_
    obtain ⟨x6, e6, h⟩ := mm_bnd h
    refine mm_put (ty := .int) C hH hin0 tyX0_ok nmX0 rfl kl_4 (mm_e0 kd_4) (j := 4) (by decide) rfl w2 pd_I rfl rfl (Nat.le_of_ble_eq_true rfl) (sp_0_4 kd_4) (Option.some.inj e6) dX0_add_52 (fun H locs hH => ?_)
    refine lv_aload_n hx hb dX0_add_55 rfl (lv_at hl 0 rfl) ?_
    refine lv_aload_n hx hb dX0_add_56 rfl (lv_at hl 0 rfl) ?_
    refine mm_get (v := .int (x6 4 3)) C hH hin0 rfl kl_4 (mm_e0 kd_4) (j := 3) (by decide) rfl w5 rfl dX0_add_57 ?_
    refine lv_iconst (v := 1) hx hb dX0_add_60 (by decide) ?_
    refine lv_iadd hx hb dX0_add_61 ?_
    refine lv_bipush (v := 20) hx hb dX0_add_62 (by decide) ?_
    refine mm_minv C hl.1.symm w6 w7 w8 w9 (Nat.le_of_ble_eq_true rfl) (Nat.le_of_ble_eq_true rfl) (Nat.zero_le _) (Nat.zero_le _) dX0_add_64 ?_
    obtain ⟨x7, e7, h⟩ := mm_bnd h
    refine mm_put (ty := .int) C hH hin0 tyX0_ok nmX0 rfl kl_4 (mm_e0 kd_4) (j := 3) (by decide) rfl w5 pd_I rfl rfl (Nat.le_of_ble_eq_true rfl) (sp_0_3 kd_4) (Option.some.inj e7) dX0_add_67 (fun H locs hH => ?_)
    exact mm_vret C hH hr hlk h dX0_add_70
def fn_X0_tell (a1 : Int32) (a2 : Int32) (x : mm_M) : Option Int32 :=
  if a1 < 0 then some ((-1) : Int32) else if a1 < (x 4 3) then (some ((((x 4 4) - 1) - a1) : Int32)).bind fun v1 => if (0 : Int32) ≤ v1 then if a2 = 0 then if v1 < 0 ∨ 20 ≤ Int32.toNatClampNeg v1 then none else some (x 5 (Int32.toNatClampNeg v1)) else if a2 = 1 then if v1 < 0 ∨ 20 ≤ Int32.toNatClampNeg v1 then none else some (x 6 (Int32.toNatClampNeg v1)) else if a2 = 2 then if v1 < 0 ∨ 20 ≤ Int32.toNatClampNeg v1 then none else some (x 7 (Int32.toNatClampNeg v1)) else some ((-2) : Int32) else (some (v1 + 20)).bind fun v2 => if a2 = 0 then if v2 < 0 ∨ 20 ≤ Int32.toNatClampNeg v2 then none else some (x 5 (Int32.toNatClampNeg v2)) else if a2 = 1 then if v2 < 0 ∨ 20 ≤ Int32.toNatClampNeg v2 then none else some (x 6 (Int32.toNatClampNeg v2)) else if a2 = 2 then if v2 < 0 ∨ 20 ≤ Int32.toNatClampNeg v2 then none else some (x 7 (Int32.toNatClampNeg v2)) else some ((-2) : Int32) else some ((-1) : Int32)
abbrev rm_X0_tell : Room := { frames := 0, cells := 0, slots := 0, locals := 0 }
theorem df_X0_tell : yX0_tell.cls = RX0 ∧ yX0_tell.cls ≠ "java/lang/invoke/MethodHandle" ∧ yX0_tell.cls ≠ "java/lang/invoke/VarHandle" ∧ (parseMethodDescriptor yX0_tell.desc).map (fun d => d.parameters.length) = some 2 := by decide +kernel
set_option maxRecDepth 100000 in
set_option maxHeartbeats 4000000 in
theorem ct_X0_tell (l : Launch) (G : va_G) (T : Nat → ClassId) (b : Nat) (z : Nat → Nat) (a1 : Int32) (a2 : Int32) (x : mm_M) {r : Int32} (h : fn_X0_tell a1 a2 x = some r) : mm_Ci l yX0_tell wsX0_tell rm_X0_tell G T b z [.ref (b + 4), .int a1, .int a2] x r x := by
  unfold fn_X0_tell at h
  refine mm_start (cc := cX0_tell) (maxL := 4) (ret := (some .int)) (by decide) rfl (Nat.le_of_ble_eq_true rfl) (fun p e s m below meth c ls C hr hlk hH hl => ?_)
  have hl : lv_has ls 4 [(0, .ref (b + 4)), (1, .int a1), (2, .int a2)] := hl
  have hx := C.1
  have hb := C.2.1
  have w1 := C.2.2.2.2.1 (.fieldLink RX0 21 "LandingFines$Journal" "size" "I") (by decide +kernel)
  have w2 := C.2.2.2.2.1 (.fieldLink RX0 25 "LandingFines$Journal" "next" "I") (by decide +kernel)
  have w3 := C.2.2.2.2.1 (.fieldLink RX0 9 "LandingFines$Journal" "sorts" "[I") (by decide +kernel)
  have w4 := C.2.2.2.2.1 (.fieldLink RX0 15 "LandingFines$Journal" "places" "[I") (by decide +kernel)
  have w5 := C.2.2.2.2.1 (.fieldLink RX0 18 "LandingFines$Journal" "minutes" "[I") (by decide +kernel)
  have hin0 : ∀ w ∈ wsX00, w ∈ wsX0_tell := by decide +kernel
  refine lv_iload_n hx hb dX0_tell_0 rfl (lv_at hl 1 rfl) ?_
  refine lv_if_lt (tgt := 12) hx hb dX0_tell_1 (by decide) (fun c1 => ?_) (fun c1 => ?_)
  · have h := mm_pos c1 h
    have hl := lv_sub (l' := []) hl [] rfl
    refine lv_iconst (v := (-1)) hx hb dX0_tell_12 (by decide) ?_
    exact mm_iretP C hH hr hlk rfl h dX0_tell_13
  · have h := mm_neg c1 h
    refine lv_iload_n hx hb dX0_tell_4 rfl (lv_at hl 1 rfl) ?_
    refine lv_aload_n hx hb dX0_tell_5 rfl (lv_at hl 0 rfl) ?_
    refine mm_get (v := .int (x 4 3)) C hH hin0 rfl kl_4 (mm_e0 kd_4) (j := 3) (by decide) rfl w1 rfl dX0_tell_6 ?_
    refine lv_icmp_lt (tgt := 14) hx hb dX0_tell_9 (by decide) (fun c2 => ?_) (fun c2 => ?_)
    · have h := mm_pos c2 h
      refine lv_aload_n hx hb dX0_tell_14 rfl (lv_at hl 0 rfl) ?_
      refine mm_get (v := .int (x 4 4)) C hH hin0 rfl kl_4 (mm_e0 kd_4) (j := 4) (by decide) rfl w2 rfl dX0_tell_15 ?_
      refine lv_iconst (v := 1) hx hb dX0_tell_18 (by decide) ?_
      refine lv_isub hx hb dX0_tell_19 ?_
      refine lv_iload_n hx hb dX0_tell_20 rfl (lv_at hl 1 rfl) ?_
      refine lv_isub hx hb dX0_tell_21 ?_
      obtain ⟨v1, e1, h⟩ := mm_bnd h
      refine mm_nmi e1 ?_
      refine lv_istore_n (lv' := [(3, .int v1), (0, .ref (b + 4)), (1, .int a1), (2, .int a2)]) hx hb dX0_tell_22 rfl hl (by decide) rfl (fun ls hl => ?_)
      have hl := lv_sub (l' := [(3, .int v1), (0, .ref (b + 4)), (2, .int a2)]) hl [0, 1, 3] rfl
      refine lv_iload_n hx hb dX0_tell_23 rfl (lv_at hl 0 rfl) ?_
      refine lv_if_ge (tgt := 30) hx hb dX0_tell_24 (by decide) (fun c3 => ?_) (fun c3 => ?_)
      · have h := mm_pos c3 h
        refine lv_iload_n hx hb dX0_tell_30 rfl (lv_at hl 2 rfl) ?_
        by_cases c4 : a2 = 0
        · have h := mm_pos c4 h
          refine lv_tableIn (off := 25) (tgt := 56) hx hb dX0_tell_31 (by rw [c4]; decide) (by rw [c4]; decide) (by rw [c4]; decide) (by decide) ?_
          have hl := lv_sub (l' := [(3, .int v1), (0, .ref (b + 4))]) hl [0, 1] rfl
          refine lv_aload_n hx hb dX0_tell_56 rfl (lv_at hl 1 rfl) ?_
          refine mm_get (v := .ref (b + 5)) C hH hin0 rfl kl_4 (mm_e0 kd_4) (j := 0) (by decide) rfl w3 rfl dX0_tell_57 ?_
          refine lv_iload_n hx hb dX0_tell_60 rfl (lv_at hl 0 rfl) ?_
          obtain ⟨g1, h⟩ := mm_grn h
          refine mm_iald (n := 20) (jn := (Int32.toNatClampNeg v1)) C hH kd_5 ln_5 g1 rfl dX0_tell_61 ?_
          exact mm_iretP C hH hr hlk rfl h dX0_tell_62
        have h := mm_neg c4 h
        by_cases c5 : a2 = 1
        · have h := mm_pos c5 h
          refine lv_tableIn (off := 32) (tgt := 63) hx hb dX0_tell_31 (by rw [c5]; decide) (by rw [c5]; decide) (by rw [c5]; decide) (by decide) ?_
          have hl := lv_sub (l' := [(3, .int v1), (0, .ref (b + 4))]) hl [0, 1] rfl
          refine lv_aload_n hx hb dX0_tell_63 rfl (lv_at hl 1 rfl) ?_
          refine mm_get (v := .ref (b + 6)) C hH hin0 rfl kl_4 (mm_e0 kd_4) (j := 1) (by decide) rfl w4 rfl dX0_tell_64 ?_
          refine lv_iload_n hx hb dX0_tell_67 rfl (lv_at hl 0 rfl) ?_
          obtain ⟨g2, h⟩ := mm_grn h
          refine mm_iald (n := 20) (jn := (Int32.toNatClampNeg v1)) C hH kd_6 ln_6 g2 rfl dX0_tell_68 ?_
          exact mm_iretP C hH hr hlk rfl h dX0_tell_69
        have h := mm_neg c5 h
        by_cases c6 : a2 = 2
        · have h := mm_pos c6 h
          refine lv_tableIn (off := 39) (tgt := 70) hx hb dX0_tell_31 (by rw [c6]; decide) (by rw [c6]; decide) (by rw [c6]; decide) (by decide) ?_
          have hl := lv_sub (l' := [(3, .int v1), (0, .ref (b + 4))]) hl [0, 1] rfl
          refine lv_aload_n hx hb dX0_tell_70 rfl (lv_at hl 1 rfl) ?_
          refine mm_get (v := .ref (b + 7)) C hH hin0 rfl kl_4 (mm_e0 kd_4) (j := 2) (by decide) rfl w5 rfl dX0_tell_71 ?_
          refine lv_iload_n hx hb dX0_tell_74 rfl (lv_at hl 0 rfl) ?_
          obtain ⟨g3, h⟩ := mm_grn h
          refine mm_iald (n := 20) (jn := (Int32.toNatClampNeg v1)) C hH kd_7 ln_7 g3 rfl dX0_tell_75 ?_
          exact mm_iretP C hH hr hlk rfl h dX0_tell_76
        have h := mm_neg c6 h
        have nc4 := mm_tn (a := 0) c4 (by decide)
        have nc5 := mm_tn (a := 1) c5 (by decide)
        have nc6 := mm_tn (a := 2) c6 (by decide)
        refine lv_tableOut (tgt := 77) hx hb dX0_tell_31 (by omega) (by decide) ?_
        have hl := lv_sub (l' := []) hl [] rfl
        refine lv_bipush (v := (-2)) hx hb dX0_tell_77 (by decide) ?_
        exact mm_iretP C hH hr hlk rfl h dX0_tell_79
      · have h := mm_neg c3 h
        obtain ⟨v2, e2, h⟩ := mm_bnd h
        refine lv_iinc (v := v2) (lv' := [(3, .int v2), (0, .ref (b + 4)), (2, .int a2)]) hx hb dX0_tell_27 hl (k := 0) rfl (Option.some.inj e2) (by decide) rfl (fun ls hl => ?_)
        refine lv_iload_n hx hb dX0_tell_30 rfl (lv_at hl 2 rfl) ?_
        by_cases c7 : a2 = 0
        · have h := mm_pos c7 h
          refine lv_tableIn (off := 25) (tgt := 56) hx hb dX0_tell_31 (by rw [c7]; decide) (by rw [c7]; decide) (by rw [c7]; decide) (by decide) ?_
          have hl := lv_sub (l' := [(3, .int v2), (0, .ref (b + 4))]) hl [0, 1] rfl
          refine lv_aload_n hx hb dX0_tell_56 rfl (lv_at hl 1 rfl) ?_
          refine mm_get (v := .ref (b + 5)) C hH hin0 rfl kl_4 (mm_e0 kd_4) (j := 0) (by decide) rfl w3 rfl dX0_tell_57 ?_
          refine lv_iload_n hx hb dX0_tell_60 rfl (lv_at hl 0 rfl) ?_
          obtain ⟨g4, h⟩ := mm_grn h
          refine mm_iald (n := 20) (jn := (Int32.toNatClampNeg v2)) C hH kd_5 ln_5 g4 rfl dX0_tell_61 ?_
          exact mm_iretP C hH hr hlk rfl h dX0_tell_62
        have h := mm_neg c7 h
        by_cases c8 : a2 = 1
        · have h := mm_pos c8 h
          refine lv_tableIn (off := 32) (tgt := 63) hx hb dX0_tell_31 (by rw [c8]; decide) (by rw [c8]; decide) (by rw [c8]; decide) (by decide) ?_
          have hl := lv_sub (l' := [(3, .int v2), (0, .ref (b + 4))]) hl [0, 1] rfl
          refine lv_aload_n hx hb dX0_tell_63 rfl (lv_at hl 1 rfl) ?_
          refine mm_get (v := .ref (b + 6)) C hH hin0 rfl kl_4 (mm_e0 kd_4) (j := 1) (by decide) rfl w4 rfl dX0_tell_64 ?_
          refine lv_iload_n hx hb dX0_tell_67 rfl (lv_at hl 0 rfl) ?_
          obtain ⟨g5, h⟩ := mm_grn h
          refine mm_iald (n := 20) (jn := (Int32.toNatClampNeg v2)) C hH kd_6 ln_6 g5 rfl dX0_tell_68 ?_
          exact mm_iretP C hH hr hlk rfl h dX0_tell_69
        have h := mm_neg c8 h
        by_cases c9 : a2 = 2
        · have h := mm_pos c9 h
          refine lv_tableIn (off := 39) (tgt := 70) hx hb dX0_tell_31 (by rw [c9]; decide) (by rw [c9]; decide) (by rw [c9]; decide) (by decide) ?_
          have hl := lv_sub (l' := [(3, .int v2), (0, .ref (b + 4))]) hl [0, 1] rfl
          refine lv_aload_n hx hb dX0_tell_70 rfl (lv_at hl 1 rfl) ?_
          refine mm_get (v := .ref (b + 7)) C hH hin0 rfl kl_4 (mm_e0 kd_4) (j := 2) (by decide) rfl w5 rfl dX0_tell_71 ?_
          refine lv_iload_n hx hb dX0_tell_74 rfl (lv_at hl 0 rfl) ?_
          obtain ⟨g6, h⟩ := mm_grn h
          refine mm_iald (n := 20) (jn := (Int32.toNatClampNeg v2)) C hH kd_7 ln_7 g6 rfl dX0_tell_75 ?_
          exact mm_iretP C hH hr hlk rfl h dX0_tell_76
        have h := mm_neg c9 h
        have nc7 := mm_tn (a := 0) c7 (by decide)
        have nc8 := mm_tn (a := 1) c8 (by decide)
        have nc9 := mm_tn (a := 2) c9 (by decide)
        refine lv_tableOut (tgt := 77) hx hb dX0_tell_31 (by omega) (by decide) ?_
        have hl := lv_sub (l' := []) hl [] rfl
        refine lv_bipush (v := (-2)) hx hb dX0_tell_77 (by decide) ?_
        exact mm_iretP C hH hr hlk rfl h dX0_tell_79
    · have h := mm_neg c2 h
      have hl := lv_sub (l' := []) hl [] rfl
      refine lv_iconst (v := (-1)) hx hb dX0_tell_12 (by decide) ?_
      exact mm_iretP C hH hr hlk rfl h dX0_tell_13
def fn_X0_copyFrom (k0 : Nat) (k1 : Nat) (x : mm_M) : Option mm_M :=
  if mm_kd k0 = 0 then if mm_kd k1 = 0 then (some (mm_cy x (k1 + 1) (k0 + 1) 0 0 20)).bind fun x1 => (some (mm_cy x1 (k1 + 2) (k0 + 2) 0 0 20)).bind fun x2 => (some (mm_cy x2 (k1 + 3) (k0 + 3) 0 0 20)).bind fun x3 => (some (mm_up x3 k0 3 (x3 k1 3))).bind fun x4 => (some (mm_up x4 k0 4 (x4 k1 4))).bind fun x5 => some x5 else none else none
abbrev rm_X0_copyFrom : Room := { frames := 1, cells := 0, slots := 0, locals := 26 }
theorem df_X0_copyFrom : yX0_copyFrom.cls = RX0 ∧ yX0_copyFrom.cls ≠ "java/lang/invoke/MethodHandle" ∧ yX0_copyFrom.cls ≠ "java/lang/invoke/VarHandle" ∧ (parseMethodDescriptor yX0_copyFrom.desc).map (fun d => d.parameters.length) = some 1 := by decide +kernel
set_option maxRecDepth 100000 in
set_option maxHeartbeats 4000000 in
theorem ct_X0_copyFrom (l : Launch) (G : va_G) (T : Nat → ClassId) (b : Nat) (z : Nat → Nat) (k0 : Nat) (k1 : Nat) (x : mm_M) {x1 : mm_M} (h : fn_X0_copyFrom k0 k1 x = some x1) : mm_Cv l yX0_copyFrom wsX0_copyFrom rm_X0_copyFrom G T b z [.ref (b + k0), .ref (b + k1)] x x1 := by
  unfold fn_X0_copyFrom at h
  refine mm_start (cc := cX0_copyFrom) (maxL := 2) (ret := none) (by decide) rfl (Nat.le_of_ble_eq_true rfl) (fun p e s m below meth c ls C hr hlk hH hl => ?_)
  have hl : lv_has ls 2 [(0, .ref (b + k0)), (1, .ref (b + k1))] := hl
  have hx := C.1
  have hb := C.2.1
  have w1 := C.2.2.2.2.1 (.fieldLink RX0 9 "LandingFines$Journal" "sorts" "[I") (by decide +kernel)
  have w2 := C.2.2.2.2.1 (.methodLink RX0 34 arraycopyName) (by decide +kernel)
  have w3 := C.2.2.2.2.1 (.native arraycopyName) (by decide +kernel)
  have w4 := C.2.2.2.2.1 (.static arraycopyName) (by decide +kernel)
  have w5 := C.2.2.2.2.1 (.initialized "java/lang/System") (by decide +kernel)
  have w6 := C.2.2.2.2.1 (.fieldLink RX0 15 "LandingFines$Journal" "places" "[I") (by decide +kernel)
  have w7 := C.2.2.2.2.1 (.fieldLink RX0 18 "LandingFines$Journal" "minutes" "[I") (by decide +kernel)
  have w8 := C.2.2.2.2.1 (.fieldLink RX0 21 "LandingFines$Journal" "size" "I") (by decide +kernel)
  have w9 := C.2.2.2.2.1 (.fieldLink RX0 25 "LandingFines$Journal" "next" "I") (by decide +kernel)
  have hin0 : ∀ w ∈ wsX00, w ∈ wsX0_copyFrom := by decide +kernel
  obtain ⟨hk0, h⟩ := mm_grd h
  have hk0l := mm_lt hk0 (by decide)
  obtain ⟨hk1, h⟩ := mm_grd h
  have hk1l := mm_lt hk1 (by decide)
  refine lv_aload_n hx hb dX0_copyFrom_0 rfl (lv_at hl 1 rfl) ?_
  refine mm_get (v := .ref (b + (k1 + 1))) C hH hin0 rfl hk1l (mm_e0 hk1) (j := 0) (by decide) rfl w1 rfl dX0_copyFrom_1 ?_
  refine lv_iconst (v := 0) hx hb dX0_copyFrom_4 (by decide) ?_
  refine lv_aload_n hx hb dX0_copyFrom_5 rfl (lv_at hl 0 rfl) ?_
  refine mm_get (v := .ref (b + (k0 + 1))) C hH hin0 rfl hk0l (mm_e0 hk0) (j := 0) (by decide) rfl w1 rfl dX0_copyFrom_6 ?_
  refine lv_iconst (v := 0) hx hb dX0_copyFrom_9 (by decide) ?_
  refine lv_bipush (v := 20) hx hb dX0_copyFrom_10 (by decide) ?_
  obtain ⟨x1, e1, h⟩ := mm_bnd h
  refine mm_copy (n0 := 20) (n1 := 20) C hl.1.symm hH (mm_jn1 hk1).1 (mm_jn1 hk0).1 (mm_jn1 hk1).2 (mm_jn1 hk0).2 w2 w3 w4 w5 (by decide) (by decide) (by decide) (by decide) (by decide) (Nat.le_of_ble_eq_true rfl) (Nat.le_of_ble_eq_true rfl) (Option.some.inj e1) dX0_copyFrom_12 (fun H locs hH => ?_)
  refine lv_aload_n hx hb dX0_copyFrom_15 rfl (lv_at hl 1 rfl) ?_
  refine mm_get (v := .ref (b + (k1 + 2))) C hH hin0 rfl hk1l (mm_e0 hk1) (j := 1) (by decide) rfl w6 rfl dX0_copyFrom_16 ?_
  refine lv_iconst (v := 0) hx hb dX0_copyFrom_19 (by decide) ?_
  refine lv_aload_n hx hb dX0_copyFrom_20 rfl (lv_at hl 0 rfl) ?_
  refine mm_get (v := .ref (b + (k0 + 2))) C hH hin0 rfl hk0l (mm_e0 hk0) (j := 1) (by decide) rfl w6 rfl dX0_copyFrom_21 ?_
  refine lv_iconst (v := 0) hx hb dX0_copyFrom_24 (by decide) ?_
  refine lv_bipush (v := 20) hx hb dX0_copyFrom_25 (by decide) ?_
  obtain ⟨x2, e2, h⟩ := mm_bnd h
  refine mm_copy (n0 := 20) (n1 := 20) C hl.1.symm hH (mm_jn2 hk1).1 (mm_jn2 hk0).1 (mm_jn2 hk1).2 (mm_jn2 hk0).2 w2 w3 w4 w5 (by decide) (by decide) (by decide) (by decide) (by decide) (Nat.le_of_ble_eq_true rfl) (Nat.le_of_ble_eq_true rfl) (Option.some.inj e2) dX0_copyFrom_27 (fun H locs hH => ?_)
  refine lv_aload_n hx hb dX0_copyFrom_30 rfl (lv_at hl 1 rfl) ?_
  refine mm_get (v := .ref (b + (k1 + 3))) C hH hin0 rfl hk1l (mm_e0 hk1) (j := 2) (by decide) rfl w7 rfl dX0_copyFrom_31 ?_
  refine lv_iconst (v := 0) hx hb dX0_copyFrom_34 (by decide) ?_
  refine lv_aload_n hx hb dX0_copyFrom_35 rfl (lv_at hl 0 rfl) ?_
  refine mm_get (v := .ref (b + (k0 + 3))) C hH hin0 rfl hk0l (mm_e0 hk0) (j := 2) (by decide) rfl w7 rfl dX0_copyFrom_36 ?_
  refine lv_iconst (v := 0) hx hb dX0_copyFrom_39 (by decide) ?_
  refine lv_bipush (v := 20) hx hb dX0_copyFrom_40 (by decide) ?_
  obtain ⟨x3, e3, h⟩ := mm_bnd h
  refine mm_copy (n0 := 20) (n1 := 20) C hl.1.symm hH (mm_jn3 hk1).1 (mm_jn3 hk0).1 (mm_jn3 hk1).2 (mm_jn3 hk0).2 w2 w3 w4 w5 (by decide) (by decide) (by decide) (by decide) (by decide) (Nat.le_of_ble_eq_true rfl) (Nat.le_of_ble_eq_true rfl) (Option.some.inj e3) dX0_copyFrom_42 (fun H locs hH => ?_)
  refine lv_aload_n hx hb dX0_copyFrom_45 rfl (lv_at hl 0 rfl) ?_
  refine lv_aload_n hx hb dX0_copyFrom_46 rfl (lv_at hl 1 rfl) ?_
  refine mm_get (v := .int (x3 k1 3)) C hH hin0 rfl hk1l (mm_e0 hk1) (j := 3) (by decide) rfl w8 rfl dX0_copyFrom_47 ?_
  obtain ⟨x4, e4, h⟩ := mm_bnd h
  refine mm_put (ty := .int) C hH hin0 tyX0_ok nmX0 rfl hk0l (mm_e0 hk0) (j := 3) (by decide) rfl w8 pd_I rfl rfl (Nat.le_of_ble_eq_true rfl) (sp_0_3 hk0) (Option.some.inj e4) dX0_copyFrom_50 (fun H locs hH => ?_)
  refine lv_aload_n hx hb dX0_copyFrom_53 rfl (lv_at hl 0 rfl) ?_
  refine lv_aload_n hx hb dX0_copyFrom_54 rfl (lv_at hl 1 rfl) ?_
  refine mm_get (v := .int (x4 k1 4)) C hH hin0 rfl hk1l (mm_e0 hk1) (j := 4) (by decide) rfl w9 rfl dX0_copyFrom_55 ?_
  obtain ⟨x5, e5, h⟩ := mm_bnd h
  refine mm_put (ty := .int) C hH hin0 tyX0_ok nmX0 rfl hk0l (mm_e0 hk0) (j := 4) (by decide) rfl w9 pd_I rfl rfl (Nat.le_of_ble_eq_true rfl) (sp_0_4 hk0) (Option.some.inj e5) dX0_copyFrom_58 (fun H locs hH => ?_)
  exact mm_vret C hH hr hlk h dX0_copyFrom_61
def fn_X1_arrive (k0 : Nat) (a1 : Int32) (x : mm_M) : Option mm_M :=
  if mm_kd k0 = 1 then (some (mm_up x k0 0 1)).bind fun x1 => (some (mm_up x1 k0 1 a1)).bind fun x2 => (some (mm_up x2 k0 2 0)).bind fun x3 => (some (mm_up x3 k0 3 0)).bind fun x4 => (some (mm_up x4 k0 4 0)).bind fun x5 => (some (mm_up x5 k0 5 0)).bind fun x6 => (some (mm_up x6 k0 6 0)).bind fun x7 => (some (mm_up x7 k0 7 0)).bind fun x8 => some x8 else none
abbrev rm_X1_arrive : Room := { frames := 0, cells := 0, slots := 0, locals := 0 }
theorem df_X1_arrive : yX1_arrive.cls = RX1 ∧ yX1_arrive.cls ≠ "java/lang/invoke/MethodHandle" ∧ yX1_arrive.cls ≠ "java/lang/invoke/VarHandle" ∧ (parseMethodDescriptor yX1_arrive.desc).map (fun d => d.parameters.length) = some 1 := by decide +kernel
set_option maxRecDepth 100000 in
set_option maxHeartbeats 4000000 in
theorem ct_X1_arrive (l : Launch) (G : va_G) (T : Nat → ClassId) (b : Nat) (z : Nat → Nat) (k0 : Nat) (a1 : Int32) (x : mm_M) {x1 : mm_M} (h : fn_X1_arrive k0 a1 x = some x1) : mm_Cv l yX1_arrive wsX1_arrive rm_X1_arrive G T b z [.ref (b + k0), .int a1] x x1 := by
  unfold fn_X1_arrive at h
  refine mm_start (cc := cX1_arrive) (maxL := 2) (ret := none) (by decide) rfl (Nat.le_of_ble_eq_true rfl) (fun p e s m below meth c ls C hr hlk hH hl => ?_)
  have hl : lv_has ls 2 [(0, .ref (b + k0)), (1, .int a1)] := hl
  have hx := C.1
  have hb := C.2.1
  have w1 := C.2.2.2.2.1 (.fieldLink RX1 9 "LandingFines$Landing" "isOpen" "Z") (by decide +kernel)
  have w2 := C.2.2.2.2.1 (.fieldLink RX1 15 "LandingFines$Landing" "fare" "I") (by decide +kernel)
  have w3 := C.2.2.2.2.1 (.fieldLink RX1 19 "LandingFines$Landing" "fine" "I") (by decide +kernel)
  have w4 := C.2.2.2.2.1 (.fieldLink RX1 22 "LandingFines$Landing" "isShunned" "Z") (by decide +kernel)
  have w5 := C.2.2.2.2.1 (.fieldLink RX1 25 "LandingFines$Landing" "minutesShunned" "I") (by decide +kernel)
  have w6 := C.2.2.2.2.1 (.fieldLink RX1 28 "LandingFines$Landing" "minutesSinceHalving" "I") (by decide +kernel)
  have w7 := C.2.2.2.2.1 (.fieldLink RX1 31 "LandingFines$Landing" "changes" "I") (by decide +kernel)
  have w8 := C.2.2.2.2.1 (.fieldLink RX1 34 "LandingFines$Landing" "timesShunned" "I") (by decide +kernel)
  have hin1 : ∀ w ∈ wsX10, w ∈ wsX1_arrive := by decide +kernel
  obtain ⟨hk0, h⟩ := mm_grd h
  have hk0l := mm_lt hk0 (by decide)
  refine lv_aload_n hx hb dX1_arrive_0 rfl (lv_at hl 0 rfl) ?_
  refine lv_iconst (v := 1) hx hb dX1_arrive_1 (by decide) ?_
  obtain ⟨x1, e1, h⟩ := mm_bnd h
  refine mm_put (ty := .boolean) C hH hin1 tyX1_ok nmX1 rfl hk0l (mm_e1 hk0) (j := 0) (by decide) rfl w1 pd_Z rfl rfl (Nat.le_of_ble_eq_true rfl) (sp_1_0 hk0) (Option.some.inj e1) dX1_arrive_2 (fun H locs hH => ?_)
  refine lv_aload_n hx hb dX1_arrive_5 rfl (lv_at hl 0 rfl) ?_
  refine lv_iload_n hx hb dX1_arrive_6 rfl (lv_at hl 1 rfl) ?_
  obtain ⟨x2, e2, h⟩ := mm_bnd h
  refine mm_put (ty := .int) C hH hin1 tyX1_ok nmX1 rfl hk0l (mm_e1 hk0) (j := 1) (by decide) rfl w2 pd_I rfl rfl (Nat.le_of_ble_eq_true rfl) (sp_1_1 hk0) (Option.some.inj e2) dX1_arrive_7 (fun H locs hH => ?_)
  refine lv_aload_n hx hb dX1_arrive_10 rfl (lv_at hl 0 rfl) ?_
  refine lv_iconst (v := 0) hx hb dX1_arrive_11 (by decide) ?_
  obtain ⟨x3, e3, h⟩ := mm_bnd h
  refine mm_put (ty := .int) C hH hin1 tyX1_ok nmX1 rfl hk0l (mm_e1 hk0) (j := 2) (by decide) rfl w3 pd_I rfl rfl (Nat.le_of_ble_eq_true rfl) (sp_1_2 hk0) (Option.some.inj e3) dX1_arrive_12 (fun H locs hH => ?_)
  refine lv_aload_n hx hb dX1_arrive_15 rfl (lv_at hl 0 rfl) ?_
  refine lv_iconst (v := 0) hx hb dX1_arrive_16 (by decide) ?_
  obtain ⟨x4, e4, h⟩ := mm_bnd h
  refine mm_put (ty := .boolean) C hH hin1 tyX1_ok nmX1 rfl hk0l (mm_e1 hk0) (j := 3) (by decide) rfl w4 pd_Z rfl rfl (Nat.le_of_ble_eq_true rfl) (sp_1_3 hk0) (Option.some.inj e4) dX1_arrive_17 (fun H locs hH => ?_)
  refine lv_aload_n hx hb dX1_arrive_20 rfl (lv_at hl 0 rfl) ?_
  refine lv_iconst (v := 0) hx hb dX1_arrive_21 (by decide) ?_
  obtain ⟨x5, e5, h⟩ := mm_bnd h
  refine mm_put (ty := .int) C hH hin1 tyX1_ok nmX1 rfl hk0l (mm_e1 hk0) (j := 4) (by decide) rfl w5 pd_I rfl rfl (Nat.le_of_ble_eq_true rfl) (sp_1_4 hk0) (Option.some.inj e5) dX1_arrive_22 (fun H locs hH => ?_)
  refine lv_aload_n hx hb dX1_arrive_25 rfl (lv_at hl 0 rfl) ?_
  refine lv_iconst (v := 0) hx hb dX1_arrive_26 (by decide) ?_
  obtain ⟨x6, e6, h⟩ := mm_bnd h
  refine mm_put (ty := .int) C hH hin1 tyX1_ok nmX1 rfl hk0l (mm_e1 hk0) (j := 5) (by decide) rfl w6 pd_I rfl rfl (Nat.le_of_ble_eq_true rfl) (sp_1_5 hk0) (Option.some.inj e6) dX1_arrive_27 (fun H locs hH => ?_)
  refine lv_aload_n hx hb dX1_arrive_30 rfl (lv_at hl 0 rfl) ?_
  refine lv_iconst (v := 0) hx hb dX1_arrive_31 (by decide) ?_
  obtain ⟨x7, e7, h⟩ := mm_bnd h
  refine mm_put (ty := .int) C hH hin1 tyX1_ok nmX1 rfl hk0l (mm_e1 hk0) (j := 6) (by decide) rfl w7 pd_I rfl rfl (Nat.le_of_ble_eq_true rfl) (sp_1_6 hk0) (Option.some.inj e7) dX1_arrive_32 (fun H locs hH => ?_)
  refine lv_aload_n hx hb dX1_arrive_35 rfl (lv_at hl 0 rfl) ?_
  refine lv_iconst (v := 0) hx hb dX1_arrive_36 (by decide) ?_
  obtain ⟨x8, e8, h⟩ := mm_bnd h
  refine mm_put (ty := .int) C hH hin1 tyX1_ok nmX1 rfl hk0l (mm_e1 hk0) (j := 7) (by decide) rfl w8 pd_I rfl rfl (Nat.le_of_ble_eq_true rfl) (sp_1_7 hk0) (Option.some.inj e8) dX1_arrive_37 (fun H locs hH => ?_)
  exact mm_vret C hH hr hlk h dX1_arrive_40
def fn_X1_copyFrom (k0 : Nat) (k1 : Nat) (x : mm_M) : Option mm_M :=
  if mm_kd k0 = 1 then if mm_kd k1 = 1 then if vp_nar .boolean (x k1 0) = (x k1 0) then (some (mm_up x k0 0 (x k1 0))).bind fun x1 => (some (mm_up x1 k0 1 (x1 k1 1))).bind fun x2 => (some (mm_up x2 k0 2 (x2 k1 2))).bind fun x3 => if vp_nar .boolean (x3 k1 3) = (x3 k1 3) then (some (mm_up x3 k0 3 (x3 k1 3))).bind fun x4 => (some (mm_up x4 k0 4 (x4 k1 4))).bind fun x5 => (some (mm_up x5 k0 5 (x5 k1 5))).bind fun x6 => (some (mm_up x6 k0 6 (x6 k1 6))).bind fun x7 => (some (mm_up x7 k0 7 (x7 k1 7))).bind fun x8 => some x8 else none else none else none else none
abbrev rm_X1_copyFrom : Room := { frames := 0, cells := 0, slots := 0, locals := 0 }
theorem df_X1_copyFrom : yX1_copyFrom.cls = RX1 ∧ yX1_copyFrom.cls ≠ "java/lang/invoke/MethodHandle" ∧ yX1_copyFrom.cls ≠ "java/lang/invoke/VarHandle" ∧ (parseMethodDescriptor yX1_copyFrom.desc).map (fun d => d.parameters.length) = some 1 := by decide +kernel
set_option maxRecDepth 100000 in
set_option maxHeartbeats 4000000 in
theorem ct_X1_copyFrom (l : Launch) (G : va_G) (T : Nat → ClassId) (b : Nat) (z : Nat → Nat) (k0 : Nat) (k1 : Nat) (x : mm_M) {x1 : mm_M} (h : fn_X1_copyFrom k0 k1 x = some x1) : mm_Cv l yX1_copyFrom wsX1_copyFrom rm_X1_copyFrom G T b z [.ref (b + k0), .ref (b + k1)] x x1 := by
  unfold fn_X1_copyFrom at h
  refine mm_start (cc := cX1_copyFrom) (maxL := 2) (ret := none) (by decide) rfl (Nat.le_of_ble_eq_true rfl) (fun p e s m below meth c ls C hr hlk hH hl => ?_)
  have hl : lv_has ls 2 [(0, .ref (b + k0)), (1, .ref (b + k1))] := hl
  have hx := C.1
  have hb := C.2.1
  have w1 := C.2.2.2.2.1 (.fieldLink RX1 9 "LandingFines$Landing" "isOpen" "Z") (by decide +kernel)
  have w2 := C.2.2.2.2.1 (.fieldLink RX1 15 "LandingFines$Landing" "fare" "I") (by decide +kernel)
  have w3 := C.2.2.2.2.1 (.fieldLink RX1 19 "LandingFines$Landing" "fine" "I") (by decide +kernel)
  have w4 := C.2.2.2.2.1 (.fieldLink RX1 22 "LandingFines$Landing" "isShunned" "Z") (by decide +kernel)
  have w5 := C.2.2.2.2.1 (.fieldLink RX1 25 "LandingFines$Landing" "minutesShunned" "I") (by decide +kernel)
  have w6 := C.2.2.2.2.1 (.fieldLink RX1 28 "LandingFines$Landing" "minutesSinceHalving" "I") (by decide +kernel)
  have w7 := C.2.2.2.2.1 (.fieldLink RX1 31 "LandingFines$Landing" "changes" "I") (by decide +kernel)
  have w8 := C.2.2.2.2.1 (.fieldLink RX1 34 "LandingFines$Landing" "timesShunned" "I") (by decide +kernel)
  have hin1 : ∀ w ∈ wsX10, w ∈ wsX1_copyFrom := by decide +kernel
  obtain ⟨hk0, h⟩ := mm_grd h
  have hk0l := mm_lt hk0 (by decide)
  obtain ⟨hk1, h⟩ := mm_grd h
  have hk1l := mm_lt hk1 (by decide)
  refine lv_aload_n hx hb dX1_copyFrom_0 rfl (lv_at hl 0 rfl) ?_
  refine lv_aload_n hx hb dX1_copyFrom_1 rfl (lv_at hl 1 rfl) ?_
  refine mm_get (v := .int (x k1 0)) C hH hin1 rfl hk1l (mm_e1 hk1) (j := 0) (by decide) rfl w1 rfl dX1_copyFrom_2 ?_
  obtain ⟨g1, h⟩ := mm_grd h
  obtain ⟨x1, e1, h⟩ := mm_bnd h
  refine mm_put (ty := .boolean) C hH hin1 tyX1_ok nmX1 rfl hk0l (mm_e1 hk0) (j := 0) (by decide) rfl w1 pd_Z (mm_narZ g1) (mm_fitZ g1) (Nat.le_of_ble_eq_true rfl) (sp_1_0 hk0) (Option.some.inj e1) dX1_copyFrom_5 (fun H locs hH => ?_)
  refine lv_aload_n hx hb dX1_copyFrom_8 rfl (lv_at hl 0 rfl) ?_
  refine lv_aload_n hx hb dX1_copyFrom_9 rfl (lv_at hl 1 rfl) ?_
  refine mm_get (v := .int (x1 k1 1)) C hH hin1 rfl hk1l (mm_e1 hk1) (j := 1) (by decide) rfl w2 rfl dX1_copyFrom_10 ?_
  obtain ⟨x2, e2, h⟩ := mm_bnd h
  refine mm_put (ty := .int) C hH hin1 tyX1_ok nmX1 rfl hk0l (mm_e1 hk0) (j := 1) (by decide) rfl w2 pd_I rfl rfl (Nat.le_of_ble_eq_true rfl) (sp_1_1 hk0) (Option.some.inj e2) dX1_copyFrom_13 (fun H locs hH => ?_)
  refine lv_aload_n hx hb dX1_copyFrom_16 rfl (lv_at hl 0 rfl) ?_
  refine lv_aload_n hx hb dX1_copyFrom_17 rfl (lv_at hl 1 rfl) ?_
  refine mm_get (v := .int (x2 k1 2)) C hH hin1 rfl hk1l (mm_e1 hk1) (j := 2) (by decide) rfl w3 rfl dX1_copyFrom_18 ?_
  obtain ⟨x3, e3, h⟩ := mm_bnd h
  refine mm_put (ty := .int) C hH hin1 tyX1_ok nmX1 rfl hk0l (mm_e1 hk0) (j := 2) (by decide) rfl w3 pd_I rfl rfl (Nat.le_of_ble_eq_true rfl) (sp_1_2 hk0) (Option.some.inj e3) dX1_copyFrom_21 (fun H locs hH => ?_)
  refine lv_aload_n hx hb dX1_copyFrom_24 rfl (lv_at hl 0 rfl) ?_
  refine lv_aload_n hx hb dX1_copyFrom_25 rfl (lv_at hl 1 rfl) ?_
  refine mm_get (v := .int (x3 k1 3)) C hH hin1 rfl hk1l (mm_e1 hk1) (j := 3) (by decide) rfl w4 rfl dX1_copyFrom_26 ?_
  obtain ⟨g2, h⟩ := mm_grd h
  obtain ⟨x4, e4, h⟩ := mm_bnd h
  refine mm_put (ty := .boolean) C hH hin1 tyX1_ok nmX1 rfl hk0l (mm_e1 hk0) (j := 3) (by decide) rfl w4 pd_Z (mm_narZ g2) (mm_fitZ g2) (Nat.le_of_ble_eq_true rfl) (sp_1_3 hk0) (Option.some.inj e4) dX1_copyFrom_29 (fun H locs hH => ?_)
  refine lv_aload_n hx hb dX1_copyFrom_32 rfl (lv_at hl 0 rfl) ?_
  refine lv_aload_n hx hb dX1_copyFrom_33 rfl (lv_at hl 1 rfl) ?_
  refine mm_get (v := .int (x4 k1 4)) C hH hin1 rfl hk1l (mm_e1 hk1) (j := 4) (by decide) rfl w5 rfl dX1_copyFrom_34 ?_
  obtain ⟨x5, e5, h⟩ := mm_bnd h
  refine mm_put (ty := .int) C hH hin1 tyX1_ok nmX1 rfl hk0l (mm_e1 hk0) (j := 4) (by decide) rfl w5 pd_I rfl rfl (Nat.le_of_ble_eq_true rfl) (sp_1_4 hk0) (Option.some.inj e5) dX1_copyFrom_37 (fun H locs hH => ?_)
  refine lv_aload_n hx hb dX1_copyFrom_40 rfl (lv_at hl 0 rfl) ?_
  refine lv_aload_n hx hb dX1_copyFrom_41 rfl (lv_at hl 1 rfl) ?_
  refine mm_get (v := .int (x5 k1 5)) C hH hin1 rfl hk1l (mm_e1 hk1) (j := 5) (by decide) rfl w6 rfl dX1_copyFrom_42 ?_
  obtain ⟨x6, e6, h⟩ := mm_bnd h
  refine mm_put (ty := .int) C hH hin1 tyX1_ok nmX1 rfl hk0l (mm_e1 hk0) (j := 5) (by decide) rfl w6 pd_I rfl rfl (Nat.le_of_ble_eq_true rfl) (sp_1_5 hk0) (Option.some.inj e6) dX1_copyFrom_45 (fun H locs hH => ?_)
  refine lv_aload_n hx hb dX1_copyFrom_48 rfl (lv_at hl 0 rfl) ?_
  refine lv_aload_n hx hb dX1_copyFrom_49 rfl (lv_at hl 1 rfl) ?_
  refine mm_get (v := .int (x6 k1 6)) C hH hin1 rfl hk1l (mm_e1 hk1) (j := 6) (by decide) rfl w7 rfl dX1_copyFrom_50 ?_
  obtain ⟨x7, e7, h⟩ := mm_bnd h
  refine mm_put (ty := .int) C hH hin1 tyX1_ok nmX1 rfl hk0l (mm_e1 hk0) (j := 6) (by decide) rfl w7 pd_I rfl rfl (Nat.le_of_ble_eq_true rfl) (sp_1_6 hk0) (Option.some.inj e7) dX1_copyFrom_53 (fun H locs hH => ?_)
  refine lv_aload_n hx hb dX1_copyFrom_56 rfl (lv_at hl 0 rfl) ?_
  refine lv_aload_n hx hb dX1_copyFrom_57 rfl (lv_at hl 1 rfl) ?_
  refine mm_get (v := .int (x7 k1 7)) C hH hin1 rfl hk1l (mm_e1 hk1) (j := 7) (by decide) rfl w8 rfl dX1_copyFrom_58 ?_
  obtain ⟨x8, e8, h⟩ := mm_bnd h
  refine mm_put (ty := .int) C hH hin1 tyX1_ok nmX1 rfl hk0l (mm_e1 hk0) (j := 7) (by decide) rfl w8 pd_I rfl rfl (Nat.le_of_ble_eq_true rfl) (sp_1_7 hk0) (Option.some.inj e8) dX1_copyFrom_61 (fun H locs hH => ?_)
  exact mm_vret C hH hr hlk h dX1_copyFrom_64
def fn_X1_canBeTaken (k0 : Nat) (x : mm_M) : Option Int32 :=
  if mm_kd k0 = 1 then if (x k0 0) = 0 then some (0 : Int32) else if (x k0 3) = 0 then some (1 : Int32) else some (0 : Int32) else none
abbrev rm_X1_canBeTaken : Room := { frames := 0, cells := 0, slots := 0, locals := 0 }
theorem df_X1_canBeTaken : yX1_canBeTaken.cls = RX1 ∧ yX1_canBeTaken.cls ≠ "java/lang/invoke/MethodHandle" ∧ yX1_canBeTaken.cls ≠ "java/lang/invoke/VarHandle" ∧ (parseMethodDescriptor yX1_canBeTaken.desc).map (fun d => d.parameters.length) = some 0 := by decide +kernel
set_option maxRecDepth 100000 in
set_option maxHeartbeats 4000000 in
theorem ct_X1_canBeTaken (l : Launch) (G : va_G) (T : Nat → ClassId) (b : Nat) (z : Nat → Nat) (k0 : Nat) (x : mm_M) {r : Int32} (h : fn_X1_canBeTaken k0 x = some r) : mm_Ci l yX1_canBeTaken wsX1_canBeTaken rm_X1_canBeTaken G T b z [.ref (b + k0)] x r x := by
  unfold fn_X1_canBeTaken at h
  refine mm_start (cc := cX1_canBeTaken) (maxL := 1) (ret := (some .boolean)) (by decide) rfl (Nat.le_of_ble_eq_true rfl) (fun p e s m below meth c ls C hr hlk hH hl => ?_)
  have hl : lv_has ls 1 [(0, .ref (b + k0))] := hl
  have hx := C.1
  have hb := C.2.1
  have w1 := C.2.2.2.2.1 (.fieldLink RX1 9 "LandingFines$Landing" "isOpen" "Z") (by decide +kernel)
  have w2 := C.2.2.2.2.1 (.fieldLink RX1 22 "LandingFines$Landing" "isShunned" "Z") (by decide +kernel)
  have hin1 : ∀ w ∈ wsX10, w ∈ wsX1_canBeTaken := by decide +kernel
  obtain ⟨hk0, h⟩ := mm_grd h
  have hk0l := mm_lt hk0 (by decide)
  refine lv_aload_n hx hb dX1_canBeTaken_0 rfl (lv_at hl 0 rfl) ?_
  refine mm_get (v := .int (x k0 0)) C hH hin1 rfl hk0l (mm_e1 hk0) (j := 0) (by decide) rfl w1 rfl dX1_canBeTaken_1 ?_
  refine lv_if_eq (tgt := 18) hx hb dX1_canBeTaken_4 (by decide) (fun c1 => ?_) (fun c1 => ?_)
  · have h := mm_pos c1 h
    have hl := lv_sub (l' := []) hl [] rfl
    refine lv_iconst (v := 0) hx hb dX1_canBeTaken_18 (by decide) ?_
    exact mm_iretP C hH hr hlk rfl h dX1_canBeTaken_19
  · have h := mm_neg c1 h
    refine lv_aload_n hx hb dX1_canBeTaken_7 rfl (lv_at hl 0 rfl) ?_
    refine mm_get (v := .int (x k0 3)) C hH hin1 rfl hk0l (mm_e1 hk0) (j := 3) (by decide) rfl w2 rfl dX1_canBeTaken_8 ?_
    refine lv_if_ne (tgt := 18) hx hb dX1_canBeTaken_11 (by decide) (fun c2 => ?_) (fun c2 => ?_)
    · have h := mm_neg c2 h
      have hl := lv_sub (l' := []) hl [] rfl
      refine lv_iconst (v := 0) hx hb dX1_canBeTaken_18 (by decide) ?_
      exact mm_iretP C hH hr hlk rfl h dX1_canBeTaken_19
    · have h := mm_pos c2 h
      have hl := lv_sub (l' := []) hl [] rfl
      refine lv_iconst (v := 1) hx hb dX1_canBeTaken_14 (by decide) ?_
      refine lv_goto (tgt := 19) hx hb dX1_canBeTaken_15 (by decide) ?_
      exact mm_iretP C hH hr hlk rfl h dX1_canBeTaken_19
def fn_X1_addFine (k0 : Nat) (a1 : Int32) (a2 : Int32) (x : mm_M) : Option (mm_M × Int32) :=
  if mm_kd k0 = 1 then (some (mm_up x k0 6 ((x k0 6) + 1))).bind fun x1 => (some (mm_up x1 k0 2 (if (99999 : Int32) < ((x1 k0 2) + a1) then (99999 : Int32) else ((x1 k0 2) + a1)))).bind fun x2 => if (x2 k0 3) = 0 then if a2 < (x2 k0 2) then (some (mm_up x2 k0 3 1)).bind fun x3 => (some (mm_up x3 k0 4 0)).bind fun x4 => (some (mm_up x4 k0 7 ((x4 k0 7) + 1))).bind fun x5 => some (x5, 1) else some (x2, 0) else some (x2, 0) else none
abbrev rm_X1_addFine : Room := { frames := 1, cells := 0, slots := 0, locals := 21 }
theorem df_X1_addFine : yX1_addFine.cls = RX1 ∧ yX1_addFine.cls ≠ "java/lang/invoke/MethodHandle" ∧ yX1_addFine.cls ≠ "java/lang/invoke/VarHandle" ∧ (parseMethodDescriptor yX1_addFine.desc).map (fun d => d.parameters.length) = some 2 := by decide +kernel
set_option maxRecDepth 100000 in
set_option maxHeartbeats 4000000 in
theorem ct_X1_addFine (l : Launch) (G : va_G) (T : Nat → ClassId) (b : Nat) (z : Nat → Nat) (k0 : Nat) (a1 : Int32) (a2 : Int32) (x : mm_M) {x1 : mm_M} {r : Int32} (h : fn_X1_addFine k0 a1 a2 x = some (x1, r)) : mm_Ci l yX1_addFine wsX1_addFine rm_X1_addFine G T b z [.ref (b + k0), .int a1, .int a2] x r x1 := by
  unfold fn_X1_addFine at h
  refine mm_start (cc := cX1_addFine) (maxL := 3) (ret := (some .boolean)) (by decide) rfl (Nat.le_of_ble_eq_true rfl) (fun p e s m below meth c ls C hr hlk hH hl => ?_)
  have hl : lv_has ls 3 [(0, .ref (b + k0)), (1, .int a1), (2, .int a2)] := hl
  have hx := C.1
  have hb := C.2.1
  have w1 := C.2.2.2.2.1 (.fieldLink RX1 31 "LandingFines$Landing" "changes" "I") (by decide +kernel)
  have w2 := C.2.2.2.2.1 (.fieldLink RX1 19 "LandingFines$Landing" "fine" "I") (by decide +kernel)
  have w3 := C.2.2.2.2.1 (.constant RX1 37 (99999)) (by decide +kernel)
  have w4 := C.2.2.2.2.1 (.methodLink RX1 38 Lib.Math.min.name) (by decide +kernel)
  have w5 := C.2.2.2.2.1 (.static Lib.Math.min.name) (by decide +kernel)
  have w6 := C.2.2.2.2.1 (.initialized "java/lang/Math") (by decide +kernel)
  have w7 := C.2.2.2.2.1 (.code Lib.Math.min.name Lib.Math.min.code 2 (some .int)) (by decide +kernel)
  have w8 := C.2.2.2.2.1 (.fieldLink RX1 22 "LandingFines$Landing" "isShunned" "Z") (by decide +kernel)
  have w9 := C.2.2.2.2.1 (.fieldLink RX1 25 "LandingFines$Landing" "minutesShunned" "I") (by decide +kernel)
  have w10 := C.2.2.2.2.1 (.fieldLink RX1 34 "LandingFines$Landing" "timesShunned" "I") (by decide +kernel)
  have hin1 : ∀ w ∈ wsX10, w ∈ wsX1_addFine := by decide +kernel
  obtain ⟨hk0, h⟩ := mm_grd h
  have hk0l := mm_lt hk0 (by decide)
  refine lv_aload_n hx hb dX1_addFine_0 rfl (lv_at hl 0 rfl) ?_
  refine lv_dup hx hb dX1_addFine_1 rfl ?_
  refine mm_get (v := .int (x k0 6)) C hH hin1 rfl hk0l (mm_e1 hk0) (j := 6) (by decide) rfl w1 rfl dX1_addFine_2 ?_
  refine lv_iconst (v := 1) hx hb dX1_addFine_5 (by decide) ?_
  refine lv_iadd hx hb dX1_addFine_6 ?_
  obtain ⟨x1, e1, h⟩ := mm_bnd h
  refine mm_put (ty := .int) C hH hin1 tyX1_ok nmX1 rfl hk0l (mm_e1 hk0) (j := 6) (by decide) rfl w1 pd_I rfl rfl (Nat.le_of_ble_eq_true rfl) (sp_1_6 hk0) (Option.some.inj e1) dX1_addFine_7 (fun H locs hH => ?_)
  refine lv_aload_n hx hb dX1_addFine_10 rfl (lv_at hl 0 rfl) ?_
  refine lv_aload_n hx hb dX1_addFine_11 rfl (lv_at hl 0 rfl) ?_
  refine mm_get (v := .int (x1 k0 2)) C hH hin1 rfl hk0l (mm_e1 hk0) (j := 2) (by decide) rfl w2 rfl dX1_addFine_12 ?_
  refine lv_iload_n hx hb dX1_addFine_15 rfl (lv_at hl 1 rfl) ?_
  refine lv_iadd hx hb dX1_addFine_16 ?_
  refine lv_ldc (own := RX1) (v := 99999) hx hb C.2.2.2.1 w3 dX1_addFine_17 ?_
  refine mm_minv C hl.1.symm w4 w5 w6 w7 (Nat.le_of_ble_eq_true rfl) (Nat.le_of_ble_eq_true rfl) (Nat.zero_le _) (Nat.zero_le _) dX1_addFine_19 ?_
  obtain ⟨x2, e2, h⟩ := mm_bnd h
  refine mm_put (ty := .int) C hH hin1 tyX1_ok nmX1 rfl hk0l (mm_e1 hk0) (j := 2) (by decide) rfl w2 pd_I rfl rfl (Nat.le_of_ble_eq_true rfl) (sp_1_2 hk0) (Option.some.inj e2) dX1_addFine_22 (fun H locs hH => ?_)
  refine lv_aload_n hx hb dX1_addFine_25 rfl (lv_at hl 0 rfl) ?_
  refine mm_get (v := .int (x2 k0 3)) C hH hin1 rfl hk0l (mm_e1 hk0) (j := 3) (by decide) rfl w8 rfl dX1_addFine_26 ?_
  refine lv_if_ne (tgt := 40) hx hb dX1_addFine_29 (by decide) (fun c1 => ?_) (fun c1 => ?_)
  · have h := mm_neg c1 h
    have hl := lv_sub (l' := []) hl [] rfl
    refine lv_iconst (v := 0) hx hb dX1_addFine_40 (by decide) ?_
    exact mm_iret C hH hr hlk rfl h dX1_addFine_41
  · have h := mm_pos c1 h
    have hl := lv_sub (l' := [(0, .ref (b + k0)), (2, .int a2)]) hl [0, 2] rfl
    refine lv_aload_n hx hb dX1_addFine_32 rfl (lv_at hl 0 rfl) ?_
    refine mm_get (v := .int (x2 k0 2)) C hH hin1 rfl hk0l (mm_e1 hk0) (j := 2) (by decide) rfl w2 rfl dX1_addFine_33 ?_
    refine lv_iload_n hx hb dX1_addFine_36 rfl (lv_at hl 1 rfl) ?_
    refine lv_icmp_gt (tgt := 42) hx hb dX1_addFine_37 (by decide) (fun c2 => ?_) (fun c2 => ?_)
    · have h := mm_pos c2 h
      have hl := lv_sub (l' := [(0, .ref (b + k0))]) hl [0] rfl
      refine lv_aload_n hx hb dX1_addFine_42 rfl (lv_at hl 0 rfl) ?_
      refine lv_iconst (v := 1) hx hb dX1_addFine_43 (by decide) ?_
      obtain ⟨x3, e3, h⟩ := mm_bnd h
      refine mm_put (ty := .boolean) C hH hin1 tyX1_ok nmX1 rfl hk0l (mm_e1 hk0) (j := 3) (by decide) rfl w8 pd_Z rfl rfl (Nat.le_of_ble_eq_true rfl) (sp_1_3 hk0) (Option.some.inj e3) dX1_addFine_44 (fun H locs hH => ?_)
      refine lv_aload_n hx hb dX1_addFine_47 rfl (lv_at hl 0 rfl) ?_
      refine lv_iconst (v := 0) hx hb dX1_addFine_48 (by decide) ?_
      obtain ⟨x4, e4, h⟩ := mm_bnd h
      refine mm_put (ty := .int) C hH hin1 tyX1_ok nmX1 rfl hk0l (mm_e1 hk0) (j := 4) (by decide) rfl w9 pd_I rfl rfl (Nat.le_of_ble_eq_true rfl) (sp_1_4 hk0) (Option.some.inj e4) dX1_addFine_49 (fun H locs hH => ?_)
      refine lv_aload_n hx hb dX1_addFine_52 rfl (lv_at hl 0 rfl) ?_
      refine lv_dup hx hb dX1_addFine_53 rfl ?_
      refine mm_get (v := .int (x4 k0 7)) C hH hin1 rfl hk0l (mm_e1 hk0) (j := 7) (by decide) rfl w10 rfl dX1_addFine_54 ?_
      refine lv_iconst (v := 1) hx hb dX1_addFine_57 (by decide) ?_
      refine lv_iadd hx hb dX1_addFine_58 ?_
      obtain ⟨x5, e5, h⟩ := mm_bnd h
      refine mm_put (ty := .int) C hH hin1 tyX1_ok nmX1 rfl hk0l (mm_e1 hk0) (j := 7) (by decide) rfl w10 pd_I rfl rfl (Nat.le_of_ble_eq_true rfl) (sp_1_7 hk0) (Option.some.inj e5) dX1_addFine_59 (fun H locs hH => ?_)
      refine lv_iconst (v := 1) hx hb dX1_addFine_62 (by decide) ?_
      exact mm_iret C hH hr hlk rfl h dX1_addFine_63
    · have h := mm_neg c2 h
      have hl := lv_sub (l' := []) hl [] rfl
      refine lv_iconst (v := 0) hx hb dX1_addFine_40 (by decide) ?_
      exact mm_iret C hH hr hlk rfl h dX1_addFine_41
def fn_X1_passMinute (k0 : Nat) (a1 : Int32) (a2 : Int32) (a3 : Int32) (x : mm_M) : Option (mm_M × Int32) :=
  if mm_kd k0 = 1 then (some (mm_up x k0 5 ((x k0 5) + 1))).bind fun x1 => if (x1 k0 5) < a1 then if (x1 k0 3) = 0 then some (x1, 0) else (some (mm_up x1 k0 4 ((x1 k0 4) + 1))).bind fun x2 => if (x2 k0 2) < a2 then (some (mm_up x2 k0 3 0)).bind fun x3 => (some (mm_up x3 k0 4 0)).bind fun x4 => (some (mm_up x4 k0 2 (if (a2 - 1) < (x4 k0 2) then (a2 - 1) else (x4 k0 2)))).bind fun x5 => some (x5, 1) else if a3 ≤ (x2 k0 4) then (some (mm_up x2 k0 3 0)).bind fun x6 => (some (mm_up x6 k0 4 0)).bind fun x7 => (some (mm_up x7 k0 2 (if (a2 - 1) < (x7 k0 2) then (a2 - 1) else (x7 k0 2)))).bind fun x8 => some (x8, 1) else some (x2, 0) else (some (mm_up x1 k0 2 ((x1 k0 2) / 2))).bind fun x9 => (some (mm_up x9 k0 5 0)).bind fun x10 => if (x10 k0 3) = 0 then some (x10, 0) else (some (mm_up x10 k0 4 ((x10 k0 4) + 1))).bind fun x11 => if (x11 k0 2) < a2 then (some (mm_up x11 k0 3 0)).bind fun x12 => (some (mm_up x12 k0 4 0)).bind fun x13 => (some (mm_up x13 k0 2 (if (a2 - 1) < (x13 k0 2) then (a2 - 1) else (x13 k0 2)))).bind fun x14 => some (x14, 1) else if a3 ≤ (x11 k0 4) then (some (mm_up x11 k0 3 0)).bind fun x15 => (some (mm_up x15 k0 4 0)).bind fun x16 => (some (mm_up x16 k0 2 (if (a2 - 1) < (x16 k0 2) then (a2 - 1) else (x16 k0 2)))).bind fun x17 => some (x17, 1) else some (x11, 0) else none
abbrev rm_X1_passMinute : Room := { frames := 1, cells := 0, slots := 0, locals := 21 }
theorem df_X1_passMinute : yX1_passMinute.cls = RX1 ∧ yX1_passMinute.cls ≠ "java/lang/invoke/MethodHandle" ∧ yX1_passMinute.cls ≠ "java/lang/invoke/VarHandle" ∧ (parseMethodDescriptor yX1_passMinute.desc).map (fun d => d.parameters.length) = some 3 := by decide +kernel
set_option maxRecDepth 100000 in
set_option maxHeartbeats 4000000 in
theorem ct_X1_passMinute (l : Launch) (G : va_G) (T : Nat → ClassId) (b : Nat) (z : Nat → Nat) (k0 : Nat) (a1 : Int32) (a2 : Int32) (a3 : Int32) (x : mm_M) {x1 : mm_M} {r : Int32} (h : fn_X1_passMinute k0 a1 a2 a3 x = some (x1, r)) : mm_Ci l yX1_passMinute wsX1_passMinute rm_X1_passMinute G T b z [.ref (b + k0), .int a1, .int a2, .int a3] x r x1 := by
  unfold fn_X1_passMinute at h
  refine mm_start (cc := cX1_passMinute) (maxL := 4) (ret := (some .boolean)) (by decide) rfl (Nat.le_of_ble_eq_true rfl) (fun p e s m below meth c ls C hr hlk hH hl => ?_)
  have hl : lv_has ls 4 [(0, .ref (b + k0)), (1, .int a1), (2, .int a2), (3, .int a3)] := hl
  have hx := C.1
  have hb := C.2.1
  have w1 := C.2.2.2.2.1 (.fieldLink RX1 28 "LandingFines$Landing" "minutesSinceHalving" "I") (by decide +kernel)
  have w2 := C.2.2.2.2.1 (.fieldLink RX1 22 "LandingFines$Landing" "isShunned" "Z") (by decide +kernel)
  have w3 := C.2.2.2.2.1 (.fieldLink RX1 25 "LandingFines$Landing" "minutesShunned" "I") (by decide +kernel)
  have w4 := C.2.2.2.2.1 (.fieldLink RX1 19 "LandingFines$Landing" "fine" "I") (by decide +kernel)
  have w5 := C.2.2.2.2.1 (.methodLink RX1 38 Lib.Math.min.name) (by decide +kernel)
  have w6 := C.2.2.2.2.1 (.static Lib.Math.min.name) (by decide +kernel)
  have w7 := C.2.2.2.2.1 (.initialized "java/lang/Math") (by decide +kernel)
  have w8 := C.2.2.2.2.1 (.code Lib.Math.min.name Lib.Math.min.code 2 (some .int)) (by decide +kernel)
  have hin1 : ∀ w ∈ wsX10, w ∈ wsX1_passMinute := by decide +kernel
  obtain ⟨hk0, h⟩ := mm_grd h
  have hk0l := mm_lt hk0 (by decide)
  refine lv_aload_n hx hb dX1_passMinute_0 rfl (lv_at hl 0 rfl) ?_
  refine lv_dup hx hb dX1_passMinute_1 rfl ?_
  refine mm_get (v := .int (x k0 5)) C hH hin1 rfl hk0l (mm_e1 hk0) (j := 5) (by decide) rfl w1 rfl dX1_passMinute_2 ?_
  refine lv_iconst (v := 1) hx hb dX1_passMinute_5 (by decide) ?_
  refine lv_iadd hx hb dX1_passMinute_6 ?_
  obtain ⟨x1, e1, h⟩ := mm_bnd h
  refine mm_put (ty := .int) C hH hin1 tyX1_ok nmX1 rfl hk0l (mm_e1 hk0) (j := 5) (by decide) rfl w1 pd_I rfl rfl (Nat.le_of_ble_eq_true rfl) (sp_1_5 hk0) (Option.some.inj e1) dX1_passMinute_7 (fun H locs hH => ?_)
  refine lv_aload_n hx hb dX1_passMinute_10 rfl (lv_at hl 0 rfl) ?_
  refine mm_get (v := .int (x1 k0 5)) C hH hin1 rfl hk0l (mm_e1 hk0) (j := 5) (by decide) rfl w1 rfl dX1_passMinute_11 ?_
  refine lv_iload_n hx hb dX1_passMinute_14 rfl (lv_at hl 1 rfl) ?_
  refine lv_icmp_lt (tgt := 33) hx hb dX1_passMinute_15 (by decide) (fun c1 => ?_) (fun c1 => ?_)
  · have h := mm_pos c1 h
    have hl := lv_sub (l' := [(0, .ref (b + k0)), (2, .int a2), (3, .int a3)]) hl [0, 2, 3] rfl
    refine lv_aload_n hx hb dX1_passMinute_33 rfl (lv_at hl 0 rfl) ?_
    refine mm_get (v := .int (x1 k0 3)) C hH hin1 rfl hk0l (mm_e1 hk0) (j := 3) (by decide) rfl w2 rfl dX1_passMinute_34 ?_
    refine lv_if_ne (tgt := 42) hx hb dX1_passMinute_37 (by decide) (fun c2 => ?_) (fun c2 => ?_)
    · have h := mm_neg c2 h
      refine lv_aload_n hx hb dX1_passMinute_42 rfl (lv_at hl 0 rfl) ?_
      refine lv_dup hx hb dX1_passMinute_43 rfl ?_
      refine mm_get (v := .int (x1 k0 4)) C hH hin1 rfl hk0l (mm_e1 hk0) (j := 4) (by decide) rfl w3 rfl dX1_passMinute_44 ?_
      refine lv_iconst (v := 1) hx hb dX1_passMinute_47 (by decide) ?_
      refine lv_iadd hx hb dX1_passMinute_48 ?_
      obtain ⟨x2, e2, h⟩ := mm_bnd h
      refine mm_put (ty := .int) C hH hin1 tyX1_ok nmX1 rfl hk0l (mm_e1 hk0) (j := 4) (by decide) rfl w3 pd_I rfl rfl (Nat.le_of_ble_eq_true rfl) (sp_1_4 hk0) (Option.some.inj e2) dX1_passMinute_49 (fun H locs hH => ?_)
      refine lv_aload_n hx hb dX1_passMinute_52 rfl (lv_at hl 0 rfl) ?_
      refine mm_get (v := .int (x2 k0 2)) C hH hin1 rfl hk0l (mm_e1 hk0) (j := 2) (by decide) rfl w4 rfl dX1_passMinute_53 ?_
      refine lv_iload_n hx hb dX1_passMinute_56 rfl (lv_at hl 1 rfl) ?_
      refine lv_icmp_lt (tgt := 70) hx hb dX1_passMinute_57 (by decide) (fun c3 => ?_) (fun c3 => ?_)
      · have h := mm_pos c3 h
        have hl := lv_sub (l' := [(0, .ref (b + k0)), (2, .int a2)]) hl [0, 1] rfl
        refine lv_aload_n hx hb dX1_passMinute_70 rfl (lv_at hl 0 rfl) ?_
        refine lv_iconst (v := 0) hx hb dX1_passMinute_71 (by decide) ?_
        obtain ⟨x3, e3, h⟩ := mm_bnd h
        refine mm_put (ty := .boolean) C hH hin1 tyX1_ok nmX1 rfl hk0l (mm_e1 hk0) (j := 3) (by decide) rfl w2 pd_Z rfl rfl (Nat.le_of_ble_eq_true rfl) (sp_1_3 hk0) (Option.some.inj e3) dX1_passMinute_72 (fun H locs hH => ?_)
        refine lv_aload_n hx hb dX1_passMinute_75 rfl (lv_at hl 0 rfl) ?_
        refine lv_iconst (v := 0) hx hb dX1_passMinute_76 (by decide) ?_
        obtain ⟨x4, e4, h⟩ := mm_bnd h
        refine mm_put (ty := .int) C hH hin1 tyX1_ok nmX1 rfl hk0l (mm_e1 hk0) (j := 4) (by decide) rfl w3 pd_I rfl rfl (Nat.le_of_ble_eq_true rfl) (sp_1_4 hk0) (Option.some.inj e4) dX1_passMinute_77 (fun H locs hH => ?_)
        refine lv_aload_n hx hb dX1_passMinute_80 rfl (lv_at hl 0 rfl) ?_
        refine lv_aload_n hx hb dX1_passMinute_81 rfl (lv_at hl 0 rfl) ?_
        refine mm_get (v := .int (x4 k0 2)) C hH hin1 rfl hk0l (mm_e1 hk0) (j := 2) (by decide) rfl w4 rfl dX1_passMinute_82 ?_
        refine lv_iload_n hx hb dX1_passMinute_85 rfl (lv_at hl 1 rfl) ?_
        refine lv_iconst (v := 1) hx hb dX1_passMinute_86 (by decide) ?_
        refine lv_isub hx hb dX1_passMinute_87 ?_
        refine mm_minv C hl.1.symm w5 w6 w7 w8 (Nat.le_of_ble_eq_true rfl) (Nat.le_of_ble_eq_true rfl) (Nat.zero_le _) (Nat.zero_le _) dX1_passMinute_88 ?_
        obtain ⟨x5, e5, h⟩ := mm_bnd h
        refine mm_put (ty := .int) C hH hin1 tyX1_ok nmX1 rfl hk0l (mm_e1 hk0) (j := 2) (by decide) rfl w4 pd_I rfl rfl (Nat.le_of_ble_eq_true rfl) (sp_1_2 hk0) (Option.some.inj e5) dX1_passMinute_91 (fun H locs hH => ?_)
        refine lv_iconst (v := 1) hx hb dX1_passMinute_94 (by decide) ?_
        exact mm_iret C hH hr hlk rfl h dX1_passMinute_95
      · have h := mm_neg c3 h
        refine lv_aload_n hx hb dX1_passMinute_60 rfl (lv_at hl 0 rfl) ?_
        refine mm_get (v := .int (x2 k0 4)) C hH hin1 rfl hk0l (mm_e1 hk0) (j := 4) (by decide) rfl w3 rfl dX1_passMinute_61 ?_
        refine lv_iload_n hx hb dX1_passMinute_64 rfl (lv_at hl 2 rfl) ?_
        refine lv_icmp_ge (tgt := 70) hx hb dX1_passMinute_65 (by decide) (fun c4 => ?_) (fun c4 => ?_)
        · have h := mm_pos c4 h
          have hl := lv_sub (l' := [(0, .ref (b + k0)), (2, .int a2)]) hl [0, 1] rfl
          refine lv_aload_n hx hb dX1_passMinute_70 rfl (lv_at hl 0 rfl) ?_
          refine lv_iconst (v := 0) hx hb dX1_passMinute_71 (by decide) ?_
          obtain ⟨x6, e6, h⟩ := mm_bnd h
          refine mm_put (ty := .boolean) C hH hin1 tyX1_ok nmX1 rfl hk0l (mm_e1 hk0) (j := 3) (by decide) rfl w2 pd_Z rfl rfl (Nat.le_of_ble_eq_true rfl) (sp_1_3 hk0) (Option.some.inj e6) dX1_passMinute_72 (fun H locs hH => ?_)
          refine lv_aload_n hx hb dX1_passMinute_75 rfl (lv_at hl 0 rfl) ?_
          refine lv_iconst (v := 0) hx hb dX1_passMinute_76 (by decide) ?_
          obtain ⟨x7, e7, h⟩ := mm_bnd h
          refine mm_put (ty := .int) C hH hin1 tyX1_ok nmX1 rfl hk0l (mm_e1 hk0) (j := 4) (by decide) rfl w3 pd_I rfl rfl (Nat.le_of_ble_eq_true rfl) (sp_1_4 hk0) (Option.some.inj e7) dX1_passMinute_77 (fun H locs hH => ?_)
          refine lv_aload_n hx hb dX1_passMinute_80 rfl (lv_at hl 0 rfl) ?_
          refine lv_aload_n hx hb dX1_passMinute_81 rfl (lv_at hl 0 rfl) ?_
          refine mm_get (v := .int (x7 k0 2)) C hH hin1 rfl hk0l (mm_e1 hk0) (j := 2) (by decide) rfl w4 rfl dX1_passMinute_82 ?_
          refine lv_iload_n hx hb dX1_passMinute_85 rfl (lv_at hl 1 rfl) ?_
          refine lv_iconst (v := 1) hx hb dX1_passMinute_86 (by decide) ?_
          refine lv_isub hx hb dX1_passMinute_87 ?_
          refine mm_minv C hl.1.symm w5 w6 w7 w8 (Nat.le_of_ble_eq_true rfl) (Nat.le_of_ble_eq_true rfl) (Nat.zero_le _) (Nat.zero_le _) dX1_passMinute_88 ?_
          obtain ⟨x8, e8, h⟩ := mm_bnd h
          refine mm_put (ty := .int) C hH hin1 tyX1_ok nmX1 rfl hk0l (mm_e1 hk0) (j := 2) (by decide) rfl w4 pd_I rfl rfl (Nat.le_of_ble_eq_true rfl) (sp_1_2 hk0) (Option.some.inj e8) dX1_passMinute_91 (fun H locs hH => ?_)
          refine lv_iconst (v := 1) hx hb dX1_passMinute_94 (by decide) ?_
          exact mm_iret C hH hr hlk rfl h dX1_passMinute_95
        · have h := mm_neg c4 h
          have hl := lv_sub (l' := []) hl [] rfl
          refine lv_iconst (v := 0) hx hb dX1_passMinute_68 (by decide) ?_
          exact mm_iret C hH hr hlk rfl h dX1_passMinute_69
    · have h := mm_pos c2 h
      have hl := lv_sub (l' := []) hl [] rfl
      refine lv_iconst (v := 0) hx hb dX1_passMinute_40 (by decide) ?_
      exact mm_iret C hH hr hlk rfl h dX1_passMinute_41
  · have h := mm_neg c1 h
    have hl := lv_sub (l' := [(0, .ref (b + k0)), (2, .int a2), (3, .int a3)]) hl [0, 2, 3] rfl
    refine lv_aload_n hx hb dX1_passMinute_18 rfl (lv_at hl 0 rfl) ?_
    refine lv_dup hx hb dX1_passMinute_19 rfl ?_
    refine mm_get (v := .int (x1 k0 2)) C hH hin1 rfl hk0l (mm_e1 hk0) (j := 2) (by decide) rfl w4 rfl dX1_passMinute_20 ?_
    refine lv_iconst (v := 2) hx hb dX1_passMinute_23 (by decide) ?_
    refine lv_idiv hx hb dX1_passMinute_24 (by decide) ?_
    obtain ⟨x9, e9, h⟩ := mm_bnd h
    refine mm_put (ty := .int) C hH hin1 tyX1_ok nmX1 rfl hk0l (mm_e1 hk0) (j := 2) (by decide) rfl w4 pd_I rfl rfl (Nat.le_of_ble_eq_true rfl) (sp_1_2 hk0) (Option.some.inj e9) dX1_passMinute_25 (fun H locs hH => ?_)
    refine lv_aload_n hx hb dX1_passMinute_28 rfl (lv_at hl 0 rfl) ?_
    refine lv_iconst (v := 0) hx hb dX1_passMinute_29 (by decide) ?_
    obtain ⟨x10, e10, h⟩ := mm_bnd h
    refine mm_put (ty := .int) C hH hin1 tyX1_ok nmX1 rfl hk0l (mm_e1 hk0) (j := 5) (by decide) rfl w1 pd_I rfl rfl (Nat.le_of_ble_eq_true rfl) (sp_1_5 hk0) (Option.some.inj e10) dX1_passMinute_30 (fun H locs hH => ?_)
    refine lv_aload_n hx hb dX1_passMinute_33 rfl (lv_at hl 0 rfl) ?_
    refine mm_get (v := .int (x10 k0 3)) C hH hin1 rfl hk0l (mm_e1 hk0) (j := 3) (by decide) rfl w2 rfl dX1_passMinute_34 ?_
    refine lv_if_ne (tgt := 42) hx hb dX1_passMinute_37 (by decide) (fun c5 => ?_) (fun c5 => ?_)
    · have h := mm_neg c5 h
      refine lv_aload_n hx hb dX1_passMinute_42 rfl (lv_at hl 0 rfl) ?_
      refine lv_dup hx hb dX1_passMinute_43 rfl ?_
      refine mm_get (v := .int (x10 k0 4)) C hH hin1 rfl hk0l (mm_e1 hk0) (j := 4) (by decide) rfl w3 rfl dX1_passMinute_44 ?_
      refine lv_iconst (v := 1) hx hb dX1_passMinute_47 (by decide) ?_
      refine lv_iadd hx hb dX1_passMinute_48 ?_
      obtain ⟨x11, e11, h⟩ := mm_bnd h
      refine mm_put (ty := .int) C hH hin1 tyX1_ok nmX1 rfl hk0l (mm_e1 hk0) (j := 4) (by decide) rfl w3 pd_I rfl rfl (Nat.le_of_ble_eq_true rfl) (sp_1_4 hk0) (Option.some.inj e11) dX1_passMinute_49 (fun H locs hH => ?_)
      refine lv_aload_n hx hb dX1_passMinute_52 rfl (lv_at hl 0 rfl) ?_
      refine mm_get (v := .int (x11 k0 2)) C hH hin1 rfl hk0l (mm_e1 hk0) (j := 2) (by decide) rfl w4 rfl dX1_passMinute_53 ?_
      refine lv_iload_n hx hb dX1_passMinute_56 rfl (lv_at hl 1 rfl) ?_
      refine lv_icmp_lt (tgt := 70) hx hb dX1_passMinute_57 (by decide) (fun c6 => ?_) (fun c6 => ?_)
      · have h := mm_pos c6 h
        have hl := lv_sub (l' := [(0, .ref (b + k0)), (2, .int a2)]) hl [0, 1] rfl
        refine lv_aload_n hx hb dX1_passMinute_70 rfl (lv_at hl 0 rfl) ?_
        refine lv_iconst (v := 0) hx hb dX1_passMinute_71 (by decide) ?_
        obtain ⟨x12, e12, h⟩ := mm_bnd h
        refine mm_put (ty := .boolean) C hH hin1 tyX1_ok nmX1 rfl hk0l (mm_e1 hk0) (j := 3) (by decide) rfl w2 pd_Z rfl rfl (Nat.le_of_ble_eq_true rfl) (sp_1_3 hk0) (Option.some.inj e12) dX1_passMinute_72 (fun H locs hH => ?_)
        refine lv_aload_n hx hb dX1_passMinute_75 rfl (lv_at hl 0 rfl) ?_
        refine lv_iconst (v := 0) hx hb dX1_passMinute_76 (by decide) ?_
        obtain ⟨x13, e13, h⟩ := mm_bnd h
        refine mm_put (ty := .int) C hH hin1 tyX1_ok nmX1 rfl hk0l (mm_e1 hk0) (j := 4) (by decide) rfl w3 pd_I rfl rfl (Nat.le_of_ble_eq_true rfl) (sp_1_4 hk0) (Option.some.inj e13) dX1_passMinute_77 (fun H locs hH => ?_)
        refine lv_aload_n hx hb dX1_passMinute_80 rfl (lv_at hl 0 rfl) ?_
        refine lv_aload_n hx hb dX1_passMinute_81 rfl (lv_at hl 0 rfl) ?_
        refine mm_get (v := .int (x13 k0 2)) C hH hin1 rfl hk0l (mm_e1 hk0) (j := 2) (by decide) rfl w4 rfl dX1_passMinute_82 ?_
        refine lv_iload_n hx hb dX1_passMinute_85 rfl (lv_at hl 1 rfl) ?_
        refine lv_iconst (v := 1) hx hb dX1_passMinute_86 (by decide) ?_
        refine lv_isub hx hb dX1_passMinute_87 ?_
        refine mm_minv C hl.1.symm w5 w6 w7 w8 (Nat.le_of_ble_eq_true rfl) (Nat.le_of_ble_eq_true rfl) (Nat.zero_le _) (Nat.zero_le _) dX1_passMinute_88 ?_
        obtain ⟨x14, e14, h⟩ := mm_bnd h
        refine mm_put (ty := .int) C hH hin1 tyX1_ok nmX1 rfl hk0l (mm_e1 hk0) (j := 2) (by decide) rfl w4 pd_I rfl rfl (Nat.le_of_ble_eq_true rfl) (sp_1_2 hk0) (Option.some.inj e14) dX1_passMinute_91 (fun H locs hH => ?_)
        refine lv_iconst (v := 1) hx hb dX1_passMinute_94 (by decide) ?_
        exact mm_iret C hH hr hlk rfl h dX1_passMinute_95
      · have h := mm_neg c6 h
        refine lv_aload_n hx hb dX1_passMinute_60 rfl (lv_at hl 0 rfl) ?_
        refine mm_get (v := .int (x11 k0 4)) C hH hin1 rfl hk0l (mm_e1 hk0) (j := 4) (by decide) rfl w3 rfl dX1_passMinute_61 ?_
        refine lv_iload_n hx hb dX1_passMinute_64 rfl (lv_at hl 2 rfl) ?_
        refine lv_icmp_ge (tgt := 70) hx hb dX1_passMinute_65 (by decide) (fun c7 => ?_) (fun c7 => ?_)
        · have h := mm_pos c7 h
          have hl := lv_sub (l' := [(0, .ref (b + k0)), (2, .int a2)]) hl [0, 1] rfl
          refine lv_aload_n hx hb dX1_passMinute_70 rfl (lv_at hl 0 rfl) ?_
          refine lv_iconst (v := 0) hx hb dX1_passMinute_71 (by decide) ?_
          obtain ⟨x15, e15, h⟩ := mm_bnd h
          refine mm_put (ty := .boolean) C hH hin1 tyX1_ok nmX1 rfl hk0l (mm_e1 hk0) (j := 3) (by decide) rfl w2 pd_Z rfl rfl (Nat.le_of_ble_eq_true rfl) (sp_1_3 hk0) (Option.some.inj e15) dX1_passMinute_72 (fun H locs hH => ?_)
          refine lv_aload_n hx hb dX1_passMinute_75 rfl (lv_at hl 0 rfl) ?_
          refine lv_iconst (v := 0) hx hb dX1_passMinute_76 (by decide) ?_
          obtain ⟨x16, e16, h⟩ := mm_bnd h
          refine mm_put (ty := .int) C hH hin1 tyX1_ok nmX1 rfl hk0l (mm_e1 hk0) (j := 4) (by decide) rfl w3 pd_I rfl rfl (Nat.le_of_ble_eq_true rfl) (sp_1_4 hk0) (Option.some.inj e16) dX1_passMinute_77 (fun H locs hH => ?_)
          refine lv_aload_n hx hb dX1_passMinute_80 rfl (lv_at hl 0 rfl) ?_
          refine lv_aload_n hx hb dX1_passMinute_81 rfl (lv_at hl 0 rfl) ?_
          refine mm_get (v := .int (x16 k0 2)) C hH hin1 rfl hk0l (mm_e1 hk0) (j := 2) (by decide) rfl w4 rfl dX1_passMinute_82 ?_
          refine lv_iload_n hx hb dX1_passMinute_85 rfl (lv_at hl 1 rfl) ?_
          refine lv_iconst (v := 1) hx hb dX1_passMinute_86 (by decide) ?_
          refine lv_isub hx hb dX1_passMinute_87 ?_
          refine mm_minv C hl.1.symm w5 w6 w7 w8 (Nat.le_of_ble_eq_true rfl) (Nat.le_of_ble_eq_true rfl) (Nat.zero_le _) (Nat.zero_le _) dX1_passMinute_88 ?_
          obtain ⟨x17, e17, h⟩ := mm_bnd h
          refine mm_put (ty := .int) C hH hin1 tyX1_ok nmX1 rfl hk0l (mm_e1 hk0) (j := 2) (by decide) rfl w4 pd_I rfl rfl (Nat.le_of_ble_eq_true rfl) (sp_1_2 hk0) (Option.some.inj e17) dX1_passMinute_91 (fun H locs hH => ?_)
          refine lv_iconst (v := 1) hx hb dX1_passMinute_94 (by decide) ?_
          exact mm_iret C hH hr hlk rfl h dX1_passMinute_95
        · have h := mm_neg c7 h
          have hl := lv_sub (l' := []) hl [] rfl
          refine lv_iconst (v := 0) hx hb dX1_passMinute_68 (by decide) ?_
          exact mm_iret C hH hr hlk rfl h dX1_passMinute_69
    · have h := mm_pos c5 h
      have hl := lv_sub (l' := []) hl [] rfl
      refine lv_iconst (v := 0) hx hb dX1_passMinute_40 (by decide) ?_
      exact mm_iret C hH hr hlk rfl h dX1_passMinute_41
def fn_X1_tell (k0 : Nat) (a1 : Int32) (x : mm_M) : Option Int32 :=
  if mm_kd k0 = 1 then if a1 = 0 then if (x k0 0) = 0 then some (0 : Int32) else some (1 : Int32) else if a1 = 1 then some (x k0 1) else if a1 = 2 then some (x k0 2) else if a1 = 3 then if (x k0 3) = 0 then some (0 : Int32) else some (1 : Int32) else if a1 = 4 then some (x k0 4) else if a1 = 5 then some (x k0 5) else if a1 = 6 then some (x k0 6) else if a1 = 7 then some (x k0 7) else some ((-2) : Int32) else none
abbrev rm_X1_tell : Room := { frames := 0, cells := 0, slots := 0, locals := 0 }
theorem df_X1_tell : yX1_tell.cls = RX1 ∧ yX1_tell.cls ≠ "java/lang/invoke/MethodHandle" ∧ yX1_tell.cls ≠ "java/lang/invoke/VarHandle" ∧ (parseMethodDescriptor yX1_tell.desc).map (fun d => d.parameters.length) = some 1 := by decide +kernel
set_option maxRecDepth 100000 in
set_option maxHeartbeats 4000000 in
theorem ct_X1_tell (l : Launch) (G : va_G) (T : Nat → ClassId) (b : Nat) (z : Nat → Nat) (k0 : Nat) (a1 : Int32) (x : mm_M) {r : Int32} (h : fn_X1_tell k0 a1 x = some r) : mm_Ci l yX1_tell wsX1_tell rm_X1_tell G T b z [.ref (b + k0), .int a1] x r x := by
  unfold fn_X1_tell at h
  refine mm_start (cc := cX1_tell) (maxL := 2) (ret := (some .int)) (by decide) rfl (Nat.le_of_ble_eq_true rfl) (fun p e s m below meth c ls C hr hlk hH hl => ?_)
  have hl : lv_has ls 2 [(0, .ref (b + k0)), (1, .int a1)] := hl
  have hx := C.1
  have hb := C.2.1
  have w1 := C.2.2.2.2.1 (.fieldLink RX1 9 "LandingFines$Landing" "isOpen" "Z") (by decide +kernel)
  have w2 := C.2.2.2.2.1 (.fieldLink RX1 15 "LandingFines$Landing" "fare" "I") (by decide +kernel)
  have w3 := C.2.2.2.2.1 (.fieldLink RX1 19 "LandingFines$Landing" "fine" "I") (by decide +kernel)
  have w4 := C.2.2.2.2.1 (.fieldLink RX1 22 "LandingFines$Landing" "isShunned" "Z") (by decide +kernel)
  have w5 := C.2.2.2.2.1 (.fieldLink RX1 25 "LandingFines$Landing" "minutesShunned" "I") (by decide +kernel)
  have w6 := C.2.2.2.2.1 (.fieldLink RX1 28 "LandingFines$Landing" "minutesSinceHalving" "I") (by decide +kernel)
  have w7 := C.2.2.2.2.1 (.fieldLink RX1 31 "LandingFines$Landing" "changes" "I") (by decide +kernel)
  have w8 := C.2.2.2.2.1 (.fieldLink RX1 34 "LandingFines$Landing" "timesShunned" "I") (by decide +kernel)
  have hin1 : ∀ w ∈ wsX10, w ∈ wsX1_tell := by decide +kernel
  obtain ⟨hk0, h⟩ := mm_grd h
  have hk0l := mm_lt hk0 (by decide)
  refine lv_iload_n hx hb dX1_tell_0 rfl (lv_at hl 1 rfl) ?_
  by_cases c1 : a1 = 0
  · have h := mm_pos c1 h
    refine lv_tableIn (off := 47) (tgt := 48) hx hb dX1_tell_1 (by rw [c1]; decide) (by rw [c1]; decide) (by rw [c1]; decide) (by decide) ?_
    have hl := lv_sub (l' := [(0, .ref (b + k0))]) hl [0] rfl
    refine lv_aload_n hx hb dX1_tell_48 rfl (lv_at hl 0 rfl) ?_
    refine mm_get (v := .int (x k0 0)) C hH hin1 rfl hk0l (mm_e1 hk0) (j := 0) (by decide) rfl w1 rfl dX1_tell_49 ?_
    refine lv_if_eq (tgt := 59) hx hb dX1_tell_52 (by decide) (fun c2 => ?_) (fun c2 => ?_)
    · have h := mm_pos c2 h
      have hl := lv_sub (l' := []) hl [] rfl
      refine lv_iconst (v := 0) hx hb dX1_tell_59 (by decide) ?_
      exact mm_iretP C hH hr hlk rfl h dX1_tell_60
    · have h := mm_neg c2 h
      have hl := lv_sub (l' := []) hl [] rfl
      refine lv_iconst (v := 1) hx hb dX1_tell_55 (by decide) ?_
      refine lv_goto (tgt := 60) hx hb dX1_tell_56 (by decide) ?_
      exact mm_iretP C hH hr hlk rfl h dX1_tell_60
  have h := mm_neg c1 h
  by_cases c3 : a1 = 1
  · have h := mm_pos c3 h
    refine lv_tableIn (off := 60) (tgt := 61) hx hb dX1_tell_1 (by rw [c3]; decide) (by rw [c3]; decide) (by rw [c3]; decide) (by decide) ?_
    have hl := lv_sub (l' := [(0, .ref (b + k0))]) hl [0] rfl
    refine lv_aload_n hx hb dX1_tell_61 rfl (lv_at hl 0 rfl) ?_
    refine mm_get (v := .int (x k0 1)) C hH hin1 rfl hk0l (mm_e1 hk0) (j := 1) (by decide) rfl w2 rfl dX1_tell_62 ?_
    exact mm_iretP C hH hr hlk rfl h dX1_tell_65
  have h := mm_neg c3 h
  by_cases c4 : a1 = 2
  · have h := mm_pos c4 h
    refine lv_tableIn (off := 65) (tgt := 66) hx hb dX1_tell_1 (by rw [c4]; decide) (by rw [c4]; decide) (by rw [c4]; decide) (by decide) ?_
    have hl := lv_sub (l' := [(0, .ref (b + k0))]) hl [0] rfl
    refine lv_aload_n hx hb dX1_tell_66 rfl (lv_at hl 0 rfl) ?_
    refine mm_get (v := .int (x k0 2)) C hH hin1 rfl hk0l (mm_e1 hk0) (j := 2) (by decide) rfl w3 rfl dX1_tell_67 ?_
    exact mm_iretP C hH hr hlk rfl h dX1_tell_70
  have h := mm_neg c4 h
  by_cases c5 : a1 = 3
  · have h := mm_pos c5 h
    refine lv_tableIn (off := 70) (tgt := 71) hx hb dX1_tell_1 (by rw [c5]; decide) (by rw [c5]; decide) (by rw [c5]; decide) (by decide) ?_
    have hl := lv_sub (l' := [(0, .ref (b + k0))]) hl [0] rfl
    refine lv_aload_n hx hb dX1_tell_71 rfl (lv_at hl 0 rfl) ?_
    refine mm_get (v := .int (x k0 3)) C hH hin1 rfl hk0l (mm_e1 hk0) (j := 3) (by decide) rfl w4 rfl dX1_tell_72 ?_
    refine lv_if_eq (tgt := 82) hx hb dX1_tell_75 (by decide) (fun c6 => ?_) (fun c6 => ?_)
    · have h := mm_pos c6 h
      have hl := lv_sub (l' := []) hl [] rfl
      refine lv_iconst (v := 0) hx hb dX1_tell_82 (by decide) ?_
      exact mm_iretP C hH hr hlk rfl h dX1_tell_83
    · have h := mm_neg c6 h
      have hl := lv_sub (l' := []) hl [] rfl
      refine lv_iconst (v := 1) hx hb dX1_tell_78 (by decide) ?_
      refine lv_goto (tgt := 83) hx hb dX1_tell_79 (by decide) ?_
      exact mm_iretP C hH hr hlk rfl h dX1_tell_83
  have h := mm_neg c5 h
  by_cases c7 : a1 = 4
  · have h := mm_pos c7 h
    refine lv_tableIn (off := 83) (tgt := 84) hx hb dX1_tell_1 (by rw [c7]; decide) (by rw [c7]; decide) (by rw [c7]; decide) (by decide) ?_
    have hl := lv_sub (l' := [(0, .ref (b + k0))]) hl [0] rfl
    refine lv_aload_n hx hb dX1_tell_84 rfl (lv_at hl 0 rfl) ?_
    refine mm_get (v := .int (x k0 4)) C hH hin1 rfl hk0l (mm_e1 hk0) (j := 4) (by decide) rfl w5 rfl dX1_tell_85 ?_
    exact mm_iretP C hH hr hlk rfl h dX1_tell_88
  have h := mm_neg c7 h
  by_cases c8 : a1 = 5
  · have h := mm_pos c8 h
    refine lv_tableIn (off := 88) (tgt := 89) hx hb dX1_tell_1 (by rw [c8]; decide) (by rw [c8]; decide) (by rw [c8]; decide) (by decide) ?_
    have hl := lv_sub (l' := [(0, .ref (b + k0))]) hl [0] rfl
    refine lv_aload_n hx hb dX1_tell_89 rfl (lv_at hl 0 rfl) ?_
    refine mm_get (v := .int (x k0 5)) C hH hin1 rfl hk0l (mm_e1 hk0) (j := 5) (by decide) rfl w6 rfl dX1_tell_90 ?_
    exact mm_iretP C hH hr hlk rfl h dX1_tell_93
  have h := mm_neg c8 h
  by_cases c9 : a1 = 6
  · have h := mm_pos c9 h
    refine lv_tableIn (off := 93) (tgt := 94) hx hb dX1_tell_1 (by rw [c9]; decide) (by rw [c9]; decide) (by rw [c9]; decide) (by decide) ?_
    have hl := lv_sub (l' := [(0, .ref (b + k0))]) hl [0] rfl
    refine lv_aload_n hx hb dX1_tell_94 rfl (lv_at hl 0 rfl) ?_
    refine mm_get (v := .int (x k0 6)) C hH hin1 rfl hk0l (mm_e1 hk0) (j := 6) (by decide) rfl w7 rfl dX1_tell_95 ?_
    exact mm_iretP C hH hr hlk rfl h dX1_tell_98
  have h := mm_neg c9 h
  by_cases c10 : a1 = 7
  · have h := mm_pos c10 h
    refine lv_tableIn (off := 98) (tgt := 99) hx hb dX1_tell_1 (by rw [c10]; decide) (by rw [c10]; decide) (by rw [c10]; decide) (by decide) ?_
    have hl := lv_sub (l' := [(0, .ref (b + k0))]) hl [0] rfl
    refine lv_aload_n hx hb dX1_tell_99 rfl (lv_at hl 0 rfl) ?_
    refine mm_get (v := .int (x k0 7)) C hH hin1 rfl hk0l (mm_e1 hk0) (j := 7) (by decide) rfl w8 rfl dX1_tell_100 ?_
    exact mm_iretP C hH hr hlk rfl h dX1_tell_103
  have h := mm_neg c10 h
  have nc1 := mm_tn (a := 0) c1 (by decide)
  have nc3 := mm_tn (a := 1) c3 (by decide)
  have nc4 := mm_tn (a := 2) c4 (by decide)
  have nc5 := mm_tn (a := 3) c5 (by decide)
  have nc7 := mm_tn (a := 4) c7 (by decide)
  have nc8 := mm_tn (a := 5) c8 (by decide)
  have nc9 := mm_tn (a := 6) c9 (by decide)
  have nc10 := mm_tn (a := 7) c10 (by decide)
  refine lv_tableOut (tgt := 104) hx hb dX1_tell_1 (by omega) (by decide) ?_
  have hl := lv_sub (l' := []) hl [] rfl
  refine lv_bipush (v := (-2)) hx hb dX1_tell_104 (by decide) ?_
  exact mm_iretP C hH hr hlk rfl h dX1_tell_106
