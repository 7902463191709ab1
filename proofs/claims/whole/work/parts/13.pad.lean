def fn_X2_append_5 : Nat → Int64 → Int32 → mm_M → Option mm_M
  | 0, _, _, _ => none
  | n + 1, a1, i4, x => if i4 < 0 then some (x) else if (80 : Int32) ≤ (x 19 1) then some (x) else if (x 19 1) < 0 ∨ 80 ≤ Int32.toNatClampNeg (x 19 1) then none else (some (mm_up x 20 (Int32.toNatClampNeg (x 19 1)) (vp_nar .char ((Int32.toUInt32 (Int64.toInt32 (((Int64.toUInt64 a1 >>> (Int64.toUInt64 (Int32.toInt64 ((8 : Int32) * i4)) &&& Int64.toUInt64 63)).toInt64) &&& 255)) % 65536).toInt32)))).bind fun x1 => (some (mm_up x1 19 1 ((x1 19 1) + 1))).bind fun x2 => (some (i4 + (-1))).bind fun v1 => fn_X2_append_5 n a1 v1 x2
def fn_X2_append (a1 : Int64) (a3 : Int32) (x : mm_M) : Option mm_M :=
  (some ((a3 - 1) : Int32)).bind fun v1 => (fn_X2_append_5 9 a1 v1 x).bind fun x1 => some x1
abbrev rm_X2_append : Room := { frames := 0, cells := 0, slots := 0, locals := 0 }
theorem df_X2_append : yX2_append.cls = RX2 ∧ yX2_append.cls ≠ "java/lang/invoke/MethodHandle" ∧ yX2_append.cls ≠ "java/lang/invoke/VarHandle" ∧ (parseMethodDescriptor yX2_append.desc).map (fun d => d.parameters.length) = some 2 := by decide +kernel
set_option maxRecDepth 100000 in
set_option maxHeartbeats 4000000 in
theorem lp_X2_append_5 {p : Program} {l : Launch} {e : Env} {s : State} {m : MethodId} {args : Array Value} {below : List Frame} {meth : Method} {c : Code} {Q : State → Prop} {G : va_G} {T : Nat → ClassId} {b : Nat} {z : Nat → Nat} (C : mm_C p m c cX2_append 5 s args wsX2_append RX2 G T b z) (a1 : Int64) : ∀ (n : Nat) (i4 : Int32) (x : mm_M) (H : Heap) (locs : List Loc) (ls : Array Slot) (x1 : mm_M), fn_X2_append_5 n a1 i4 x = some (x1) → mm_H G T b x s H locs → lv_has ls 5 [(0, .ref (b + 19)), (1, .long a1), (4, .int i4)] → (∀ (H1 : Heap) (locs1 : List Loc) (ls1 : Array Slot), mm_H G T b x1 s H1 locs1 → lv_has ls1 5 [] → W p l e rm_X2_append s m args below meth c H1 locs1 0 0 Q (F0 m 57 ls1 [])) → W p l e rm_X2_append s m args below meth c H locs 0 0 Q (F0 m 5 ls []) := by
  have hx := C.1
  have hb := C.2.1
  have w1 := C.2.2.2.2.1 (.fieldLink RX2 15 "LandingFines$Pad" "length" "I") (by decide +kernel)
  have w2 := C.2.2.2.2.1 (.fieldLink RX2 9 "LandingFines$Pad" "signs" "[C") (by decide +kernel)
  have w3 := C.2.2.2.2.1 (.constantLong RX2 32 (255)) (by decide +kernel)
  have hin2 : ∀ w ∈ wsX20, w ∈ wsX2_append := by decide +kernel
  intro n
  induction n with
  | zero => intro _ _ _ _ _ _ h; cases (show (none : Option mm_M) = some _ from h)
  | succ n ih =>
    intro i4 x H locs ls x1 h hH hl kk
    rw [fn_X2_append_5] at h
    refine lv_iload hx hb dX2_append_5 (lv_at hl 2 rfl) ?_
    refine lv_if_lt (tgt := 57) hx hb dX2_append_7 (by decide) (fun c1 => ?_) (fun c1 => ?_)
    · have h := mm_pos c1 h
      have hl := lv_sub (l' := []) hl [] rfl
      cases h
      exact kk _ _ _ hH (lv_sub hl [] rfl)
    · have h := mm_neg c1 h
      refine lv_aload_n hx hb dX2_append_10 rfl (lv_at hl 0 rfl) ?_
      refine mm_get (v := .int (x 19 1)) C hH hin2 rfl kl_19 (mm_e2 kd_19) (j := 1) (by decide) rfl w1 rfl dX2_append_11 ?_
      refine lv_bipush (v := 80) hx hb dX2_append_14 (by decide) ?_
      refine lv_icmp_ge (tgt := 57) hx hb dX2_append_16 (by decide) (fun c2 => ?_) (fun c2 => ?_)
      · have h := mm_pos c2 h
        have hl := lv_sub (l' := []) hl [] rfl
        cases h
        exact kk _ _ _ hH (lv_sub hl [] rfl)
      · have h := mm_neg c2 h
        refine lv_aload_n hx hb dX2_append_19 rfl (lv_at hl 0 rfl) ?_
        refine mm_get (v := .ref (b + 20)) C hH hin2 rfl kl_19 (mm_e2 kd_19) (j := 0) (by decide) rfl w2 rfl dX2_append_20 ?_
        refine lv_aload_n hx hb dX2_append_23 rfl (lv_at hl 0 rfl) ?_
        refine mm_get (v := .int (x 19 1)) C hH hin2 rfl kl_19 (mm_e2 kd_19) (j := 1) (by decide) rfl w1 rfl dX2_append_24 ?_
        refine lv_lload_n hx hb dX2_append_27 rfl (lv_at hl 1 rfl) ?_
        refine lv_bipush (v := 8) hx hb dX2_append_28 (by decide) ?_
        refine lv_iload hx hb dX2_append_30 (lv_at hl 2 rfl) ?_
        refine lv_imul hx hb dX2_append_32 ?_
        refine lv_lushr (v := ((Int64.toUInt64 a1 >>> (Int64.toUInt64 (Int32.toInt64 ((8 : Int32) * i4)) &&& Int64.toUInt64 63)).toInt64)) hx hb dX2_append_33 rfl ?_
        refine lv_ldc2 (own := RX2) (v := 255) hx hb C.2.2.2.1 w3 dX2_append_34 ?_
        refine lv_land hx hb dX2_append_37 ?_
        refine lv_l2i (v := (Int64.toInt32 (((Int64.toUInt64 a1 >>> (Int64.toUInt64 (Int32.toInt64 ((8 : Int32) * i4)) &&& Int64.toUInt64 63)).toInt64) &&& 255))) hx hb dX2_append_38 rfl ?_
        refine lv_i2c (v := ((Int32.toUInt32 (Int64.toInt32 (((Int64.toUInt64 a1 >>> (Int64.toUInt64 (Int32.toInt64 ((8 : Int32) * i4)) &&& Int64.toUInt64 63)).toInt64) &&& 255)) % 65536).toInt32)) hx hb dX2_append_39 rfl ?_
        obtain ⟨g1, h⟩ := mm_grn h
        obtain ⟨x1, e1, h⟩ := mm_bnd h
        refine mm_cast (n := 80) (jn := (Int32.toNatClampNeg (x 19 1))) C hH kd_20 ln_20 g1 rfl (Option.some.inj e1) dX2_append_40 (fun H locs hH => ?_)
        refine lv_aload_n hx hb dX2_append_41 rfl (lv_at hl 0 rfl) ?_
        refine lv_dup hx hb dX2_append_42 rfl ?_
        refine mm_get (v := .int (x1 19 1)) C hH hin2 rfl kl_19 (mm_e2 kd_19) (j := 1) (by decide) rfl w1 rfl dX2_append_43 ?_
        refine lv_iconst (v := 1) hx hb dX2_append_46 (by decide) ?_
        refine lv_iadd hx hb dX2_append_47 ?_
        obtain ⟨x2, e2, h⟩ := mm_bnd h
        refine mm_put (ty := .int) C hH hin2 tyX2_ok nmX2 rfl kl_19 (mm_e2 kd_19) (j := 1) (by decide) rfl w1 pd_I rfl rfl (Nat.le_of_ble_eq_true rfl) (sp_2_1 kd_19) (Option.some.inj e2) dX2_append_48 (fun H locs hH => ?_)
        obtain ⟨v1, e3, h⟩ := mm_bnd h
        refine lv_iinc (v := v1) (lv' := [(4, .int v1), (0, .ref (b + 19)), (1, .long a1)]) hx hb dX2_append_51 hl (k := 2) rfl (Option.some.inj e3) (by decide) rfl (fun ls hl => ?_)
        refine lv_goto (tgt := 5) hx hb dX2_append_54 (by decide) ?_
        exact ih v1 x2 _ _ _ _ h hH (lv_sub hl [1, 2, 0] rfl) kk
set_option maxRecDepth 100000 in
set_option maxHeartbeats 4000000 in
theorem ct_X2_append (l : Launch) (G : va_G) (T : Nat → ClassId) (b : Nat) (z : Nat → Nat) (a1 : Int64) (a3 : Int32) (x : mm_M) {x1 : mm_M} (h : fn_X2_append a1 a3 x = some x1) : mm_Cv l yX2_append wsX2_append rm_X2_append G T b z [.ref (b + 19), .long a1, .int a3] x x1 := by
  unfold fn_X2_append at h
  refine mm_start (cc := cX2_append) (maxL := 5) (ret := none) (by decide) rfl (Nat.le_of_ble_eq_true rfl) (fun p e s m below meth c ls C hr hlk hH hl => ?_)
  have hl : lv_has ls 5 [(0, .ref (b + 19)), (1, .long a1), (3, .int a3)] := hl
  have hx := C.1
  have hb := C.2.1
  refine lv_iload_n hx hb dX2_append_0 rfl (lv_at hl 2 rfl) ?_
  refine lv_iconst (v := 1) hx hb dX2_append_1 (by decide) ?_
  refine lv_isub hx hb dX2_append_2 ?_
  obtain ⟨v1, e1, h⟩ := mm_bnd h
  refine mm_nmi e1 ?_
  refine lv_istore (lv' := [(4, .int v1), (0, .ref (b + 19)), (1, .long a1), (3, .int a3)]) hx hb dX2_append_3 hl (by decide) rfl (fun ls hl => ?_)
  have hl := lv_sub (l' := [(4, .int v1), (0, .ref (b + 19)), (1, .long a1)]) hl [0, 1, 2] rfl
  obtain ⟨x1, e2, h⟩ := mm_bnd h
  refine lp_X2_append_5 C a1 9 v1 x _ _ _ _ e2 hH (lv_sub hl [1, 2, 0] rfl) (fun H locs ls hH hl => ?_)
  exact mm_vret C hH hr hlk h dX2_append_57
def fn_X2_clear  (x : mm_M) : Option (mm_M × Int32) :=
  (some ((x 19 1) : Int32)).bind fun v1 => (some (mm_up x 19 1 0)).bind fun x1 => some (x1, v1)
abbrev rm_X2_clear : Room := { frames := 0, cells := 0, slots := 0, locals := 0 }
theorem df_X2_clear : yX2_clear.cls = RX2 ∧ yX2_clear.cls ≠ "java/lang/invoke/MethodHandle" ∧ yX2_clear.cls ≠ "java/lang/invoke/VarHandle" ∧ (parseMethodDescriptor yX2_clear.desc).map (fun d => d.parameters.length) = some 0 := by decide +kernel
set_option maxRecDepth 100000 in
set_option maxHeartbeats 4000000 in
theorem ct_X2_clear (l : Launch) (G : va_G) (T : Nat → ClassId) (b : Nat) (z : Nat → Nat)  (x : mm_M) {x1 : mm_M} {r : Int32} (h : fn_X2_clear  x = some (x1, r)) : mm_Ci l yX2_clear wsX2_clear rm_X2_clear G T b z [.ref (b + 19)] x r x1 := by
  unfold fn_X2_clear at h
  refine mm_start (cc := cX2_clear) (maxL := 2) (ret := (some .int)) (by decide) rfl (Nat.le_of_ble_eq_true rfl) (fun p e s m below meth c ls C hr hlk hH hl => ?_)
  have hl : lv_has ls 2 [(0, .ref (b + 19))] := hl
  have hx := C.1
  have hb := C.2.1
  have w1 := C.2.2.2.2.1 (.fieldLink RX2 15 "LandingFines$Pad" "length" "I") (by decide +kernel)
  have hin2 : ∀ w ∈ wsX20, w ∈ wsX2_clear := by decide +kernel
  refine lv_aload_n hx hb dX2_clear_0 rfl (lv_at hl 0 rfl) ?_
  refine mm_get (v := .int (x 19 1)) C hH hin2 rfl kl_19 (mm_e2 kd_19) (j := 1) (by decide) rfl w1 rfl dX2_clear_1 ?_
  obtain ⟨v1, e1, h⟩ := mm_bnd h
  refine mm_nmi e1 ?_
  refine lv_istore_n (lv' := [(1, .int v1), (0, .ref (b + 19))]) hx hb dX2_clear_4 rfl hl (by decide) rfl (fun ls hl => ?_)
  refine lv_aload_n hx hb dX2_clear_5 rfl (lv_at hl 1 rfl) ?_
  refine lv_iconst (v := 0) hx hb dX2_clear_6 (by decide) ?_
  obtain ⟨x1, e2, h⟩ := mm_bnd h
  refine mm_put (ty := .int) C hH hin2 tyX2_ok nmX2 rfl kl_19 (mm_e2 kd_19) (j := 1) (by decide) rfl w1 pd_I rfl rfl (Nat.le_of_ble_eq_true rfl) (sp_2_1 kd_19) (Option.some.inj e2) dX2_clear_7 (fun H locs hH => ?_)
  refine lv_iload_n hx hb dX2_clear_10 rfl (lv_at hl 0 rfl) ?_
  exact mm_iret C hH hr hlk rfl h dX2_clear_11
def fn_X2_startReading  (x : mm_M) : Option mm_M :=
  (some (mm_up x 19 2 0)).bind fun x1 => some x1
abbrev rm_X2_startReading : Room := { frames := 0, cells := 0, slots := 0, locals := 0 }
theorem df_X2_startReading : yX2_startReading.cls = RX2 ∧ yX2_startReading.cls ≠ "java/lang/invoke/MethodHandle" ∧ yX2_startReading.cls ≠ "java/lang/invoke/VarHandle" ∧ (parseMethodDescriptor yX2_startReading.desc).map (fun d => d.parameters.length) = some 0 := by decide +kernel
set_option maxRecDepth 100000 in
set_option maxHeartbeats 4000000 in
theorem ct_X2_startReading (l : Launch) (G : va_G) (T : Nat → ClassId) (b : Nat) (z : Nat → Nat)  (x : mm_M) {x1 : mm_M} (h : fn_X2_startReading  x = some x1) : mm_Cv l yX2_startReading wsX2_startReading rm_X2_startReading G T b z [.ref (b + 19)] x x1 := by
  unfold fn_X2_startReading at h
  refine mm_start (cc := cX2_startReading) (maxL := 1) (ret := none) (by decide) rfl (Nat.le_of_ble_eq_true rfl) (fun p e s m below meth c ls C hr hlk hH hl => ?_)
  have hl : lv_has ls 1 [(0, .ref (b + 19))] := hl
  have hx := C.1
  have hb := C.2.1
  have w1 := C.2.2.2.2.1 (.fieldLink RX2 19 "LandingFines$Pad" "place" "I") (by decide +kernel)
  have hin2 : ∀ w ∈ wsX20, w ∈ wsX2_startReading := by decide +kernel
  refine lv_aload_n hx hb dX2_startReading_0 rfl (lv_at hl 0 rfl) ?_
  refine lv_iconst (v := 0) hx hb dX2_startReading_1 (by decide) ?_
  obtain ⟨x1, e1, h⟩ := mm_bnd h
  refine mm_put (ty := .int) C hH hin2 tyX2_ok nmX2 rfl kl_19 (mm_e2 kd_19) (j := 2) (by decide) rfl w1 pd_I rfl rfl (Nat.le_of_ble_eq_true rfl) (sp_2_2 kd_19) (Option.some.inj e1) dX2_startReading_2 (fun H locs hH => ?_)
  exact mm_vret C hH hr hlk h dX2_startReading_5
def fn_X2_isAtDigit  (x : mm_M) : Option Int32 :=
  if (x 19 1) ≤ (x 19 2) then some (0 : Int32) else if (x 19 2) < 0 ∨ 80 ≤ Int32.toNatClampNeg (x 19 2) then none else if (x 20 (Int32.toNatClampNeg (x 19 2))) < 48 then some (0 : Int32) else if (x 19 2) < 0 ∨ 80 ≤ Int32.toNatClampNeg (x 19 2) then none else if (57 : Int32) < (x 20 (Int32.toNatClampNeg (x 19 2))) then some (0 : Int32) else some (1 : Int32)
abbrev rm_X2_isAtDigit : Room := { frames := 0, cells := 0, slots := 0, locals := 0 }
theorem df_X2_isAtDigit : yX2_isAtDigit.cls = RX2 ∧ yX2_isAtDigit.cls ≠ "java/lang/invoke/MethodHandle" ∧ yX2_isAtDigit.cls ≠ "java/lang/invoke/VarHandle" ∧ (parseMethodDescriptor yX2_isAtDigit.desc).map (fun d => d.parameters.length) = some 0 := by decide +kernel
set_option maxRecDepth 100000 in
set_option maxHeartbeats 4000000 in
theorem ct_X2_isAtDigit (l : Launch) (G : va_G) (T : Nat → ClassId) (b : Nat) (z : Nat → Nat)  (x : mm_M) {r : Int32} (h : fn_X2_isAtDigit  x = some r) : mm_Ci l yX2_isAtDigit wsX2_isAtDigit rm_X2_isAtDigit G T b z [.ref (b + 19)] x r x := by
  unfold fn_X2_isAtDigit at h
  refine mm_start (cc := cX2_isAtDigit) (maxL := 1) (ret := (some .boolean)) (by decide) rfl (Nat.le_of_ble_eq_true rfl) (fun p e s m below meth c ls C hr hlk hH hl => ?_)
  have hl : lv_has ls 1 [(0, .ref (b + 19))] := hl
  have hx := C.1
  have hb := C.2.1
  have w1 := C.2.2.2.2.1 (.fieldLink RX2 19 "LandingFines$Pad" "place" "I") (by decide +kernel)
  have w2 := C.2.2.2.2.1 (.fieldLink RX2 15 "LandingFines$Pad" "length" "I") (by decide +kernel)
  have w3 := C.2.2.2.2.1 (.fieldLink RX2 9 "LandingFines$Pad" "signs" "[C") (by decide +kernel)
  have hin2 : ∀ w ∈ wsX20, w ∈ wsX2_isAtDigit := by decide +kernel
  refine lv_aload_n hx hb dX2_isAtDigit_0 rfl (lv_at hl 0 rfl) ?_
  refine mm_get (v := .int (x 19 2)) C hH hin2 rfl kl_19 (mm_e2 kd_19) (j := 2) (by decide) rfl w1 rfl dX2_isAtDigit_1 ?_
  refine lv_aload_n hx hb dX2_isAtDigit_4 rfl (lv_at hl 0 rfl) ?_
  refine mm_get (v := .int (x 19 1)) C hH hin2 rfl kl_19 (mm_e2 kd_19) (j := 1) (by decide) rfl w2 rfl dX2_isAtDigit_5 ?_
  refine lv_icmp_ge (tgt := 43) hx hb dX2_isAtDigit_8 (by decide) (fun c1 => ?_) (fun c1 => ?_)
  · have h := mm_pos c1 h
    have hl := lv_sub (l' := []) hl [] rfl
    refine lv_iconst (v := 0) hx hb dX2_isAtDigit_43 (by decide) ?_
    exact mm_iretP C hH hr hlk rfl h dX2_isAtDigit_44
  · have h := mm_neg c1 h
    refine lv_aload_n hx hb dX2_isAtDigit_11 rfl (lv_at hl 0 rfl) ?_
    refine mm_get (v := .ref (b + 20)) C hH hin2 rfl kl_19 (mm_e2 kd_19) (j := 0) (by decide) rfl w3 rfl dX2_isAtDigit_12 ?_
    refine lv_aload_n hx hb dX2_isAtDigit_15 rfl (lv_at hl 0 rfl) ?_
    refine mm_get (v := .int (x 19 2)) C hH hin2 rfl kl_19 (mm_e2 kd_19) (j := 2) (by decide) rfl w1 rfl dX2_isAtDigit_16 ?_
    obtain ⟨g1, h⟩ := mm_grn h
    refine mm_cald (n := 80) (jn := (Int32.toNatClampNeg (x 19 2))) C hH kd_20 ln_20 g1 rfl dX2_isAtDigit_19 ?_
    refine lv_bipush (v := 48) hx hb dX2_isAtDigit_20 (by decide) ?_
    refine lv_icmp_lt (tgt := 43) hx hb dX2_isAtDigit_22 (by decide) (fun c2 => ?_) (fun c2 => ?_)
    · have h := mm_pos c2 h
      have hl := lv_sub (l' := []) hl [] rfl
      refine lv_iconst (v := 0) hx hb dX2_isAtDigit_43 (by decide) ?_
      exact mm_iretP C hH hr hlk rfl h dX2_isAtDigit_44
    · have h := mm_neg c2 h
      refine lv_aload_n hx hb dX2_isAtDigit_25 rfl (lv_at hl 0 rfl) ?_
      refine mm_get (v := .ref (b + 20)) C hH hin2 rfl kl_19 (mm_e2 kd_19) (j := 0) (by decide) rfl w3 rfl dX2_isAtDigit_26 ?_
      refine lv_aload_n hx hb dX2_isAtDigit_29 rfl (lv_at hl 0 rfl) ?_
      refine mm_get (v := .int (x 19 2)) C hH hin2 rfl kl_19 (mm_e2 kd_19) (j := 2) (by decide) rfl w1 rfl dX2_isAtDigit_30 ?_
      obtain ⟨g2, h⟩ := mm_grn h
      refine mm_cald (n := 80) (jn := (Int32.toNatClampNeg (x 19 2))) C hH kd_20 ln_20 g2 rfl dX2_isAtDigit_33 ?_
      refine lv_bipush (v := 57) hx hb dX2_isAtDigit_34 (by decide) ?_
      refine lv_icmp_gt (tgt := 43) hx hb dX2_isAtDigit_36 (by decide) (fun c3 => ?_) (fun c3 => ?_)
      · have h := mm_pos c3 h
        have hl := lv_sub (l' := []) hl [] rfl
        refine lv_iconst (v := 0) hx hb dX2_isAtDigit_43 (by decide) ?_
        exact mm_iretP C hH hr hlk rfl h dX2_isAtDigit_44
      · have h := mm_neg c3 h
        have hl := lv_sub (l' := []) hl [] rfl
        refine lv_iconst (v := 1) hx hb dX2_isAtDigit_39 (by decide) ?_
        refine lv_goto (tgt := 44) hx hb dX2_isAtDigit_40 (by decide) ?_
        exact mm_iretP C hH hr hlk rfl h dX2_isAtDigit_44
def fn_X2_readSign (a1 : Int32) (x : mm_M) : Option (mm_M × Int32) :=
  if (x 19 1) ≤ (x 19 2) then some (x, 0) else if (x 19 2) < 0 ∨ 80 ≤ Int32.toNatClampNeg (x 19 2) then none else if (x 20 (Int32.toNatClampNeg (x 19 2))) = a1 then (some (mm_up x 19 2 ((x 19 2) + 1))).bind fun x1 => some (x1, 1) else some (x, 0)
abbrev rm_X2_readSign : Room := { frames := 0, cells := 0, slots := 0, locals := 0 }
theorem df_X2_readSign : yX2_readSign.cls = RX2 ∧ yX2_readSign.cls ≠ "java/lang/invoke/MethodHandle" ∧ yX2_readSign.cls ≠ "java/lang/invoke/VarHandle" ∧ (parseMethodDescriptor yX2_readSign.desc).map (fun d => d.parameters.length) = some 1 := by decide +kernel
set_option maxRecDepth 100000 in
set_option maxHeartbeats 4000000 in
theorem ct_X2_readSign (l : Launch) (G : va_G) (T : Nat → ClassId) (b : Nat) (z : Nat → Nat) (a1 : Int32) (x : mm_M) {x1 : mm_M} {r : Int32} (h : fn_X2_readSign a1 x = some (x1, r)) : mm_Ci l yX2_readSign wsX2_readSign rm_X2_readSign G T b z [.ref (b + 19), .int a1] x r x1 := by
  unfold fn_X2_readSign at h
  refine mm_start (cc := cX2_readSign) (maxL := 2) (ret := (some .boolean)) (by decide) rfl (Nat.le_of_ble_eq_true rfl) (fun p e s m below meth c ls C hr hlk hH hl => ?_)
  have hl : lv_has ls 2 [(0, .ref (b + 19)), (1, .int a1)] := hl
  have hx := C.1
  have hb := C.2.1
  have w1 := C.2.2.2.2.1 (.fieldLink RX2 19 "LandingFines$Pad" "place" "I") (by decide +kernel)
  have w2 := C.2.2.2.2.1 (.fieldLink RX2 15 "LandingFines$Pad" "length" "I") (by decide +kernel)
  have w3 := C.2.2.2.2.1 (.fieldLink RX2 9 "LandingFines$Pad" "signs" "[C") (by decide +kernel)
  have hin2 : ∀ w ∈ wsX20, w ∈ wsX2_readSign := by decide +kernel
  refine lv_aload_n hx hb dX2_readSign_0 rfl (lv_at hl 0 rfl) ?_
  refine mm_get (v := .int (x 19 2)) C hH hin2 rfl kl_19 (mm_e2 kd_19) (j := 2) (by decide) rfl w1 rfl dX2_readSign_1 ?_
  refine lv_aload_n hx hb dX2_readSign_4 rfl (lv_at hl 0 rfl) ?_
  refine mm_get (v := .int (x 19 1)) C hH hin2 rfl kl_19 (mm_e2 kd_19) (j := 1) (by decide) rfl w2 rfl dX2_readSign_5 ?_
  refine lv_icmp_ge (tgt := 24) hx hb dX2_readSign_8 (by decide) (fun c1 => ?_) (fun c1 => ?_)
  · have h := mm_pos c1 h
    have hl := lv_sub (l' := []) hl [] rfl
    refine lv_iconst (v := 0) hx hb dX2_readSign_24 (by decide) ?_
    exact mm_iret C hH hr hlk rfl h dX2_readSign_25
  · have h := mm_neg c1 h
    refine lv_aload_n hx hb dX2_readSign_11 rfl (lv_at hl 0 rfl) ?_
    refine mm_get (v := .ref (b + 20)) C hH hin2 rfl kl_19 (mm_e2 kd_19) (j := 0) (by decide) rfl w3 rfl dX2_readSign_12 ?_
    refine lv_aload_n hx hb dX2_readSign_15 rfl (lv_at hl 0 rfl) ?_
    refine mm_get (v := .int (x 19 2)) C hH hin2 rfl kl_19 (mm_e2 kd_19) (j := 2) (by decide) rfl w1 rfl dX2_readSign_16 ?_
    obtain ⟨g1, h⟩ := mm_grn h
    refine mm_cald (n := 80) (jn := (Int32.toNatClampNeg (x 19 2))) C hH kd_20 ln_20 g1 rfl dX2_readSign_19 ?_
    refine lv_iload_n hx hb dX2_readSign_20 rfl (lv_at hl 1 rfl) ?_
    refine lv_icmp_eq (tgt := 26) hx hb dX2_readSign_21 (by decide) (fun c2 => ?_) (fun c2 => ?_)
    · have h := mm_pos c2 h
      have hl := lv_sub (l' := [(0, .ref (b + 19))]) hl [0] rfl
      refine lv_aload_n hx hb dX2_readSign_26 rfl (lv_at hl 0 rfl) ?_
      refine lv_dup hx hb dX2_readSign_27 rfl ?_
      refine mm_get (v := .int (x 19 2)) C hH hin2 rfl kl_19 (mm_e2 kd_19) (j := 2) (by decide) rfl w1 rfl dX2_readSign_28 ?_
      refine lv_iconst (v := 1) hx hb dX2_readSign_31 (by decide) ?_
      refine lv_iadd hx hb dX2_readSign_32 ?_
      obtain ⟨x1, e1, h⟩ := mm_bnd h
      refine mm_put (ty := .int) C hH hin2 tyX2_ok nmX2 rfl kl_19 (mm_e2 kd_19) (j := 2) (by decide) rfl w1 pd_I rfl rfl (Nat.le_of_ble_eq_true rfl) (sp_2_2 kd_19) (Option.some.inj e1) dX2_readSign_33 (fun H locs hH => ?_)
      refine lv_iconst (v := 1) hx hb dX2_readSign_36 (by decide) ?_
      exact mm_iret C hH hr hlk rfl h dX2_readSign_37
    · have h := mm_neg c2 h
      have hl := lv_sub (l' := []) hl [] rfl
      refine lv_iconst (v := 0) hx hb dX2_readSign_24 (by decide) ?_
      exact mm_iret C hH hr hlk rfl h dX2_readSign_25
def fn_X2_readLanding  (x : mm_M) : Option (mm_M × Int32) :=
  (fn_X2_isAtDigit x).bind fun v1 => if v1 = 0 then some (x, 0) else if (x 19 2) < 0 ∨ 80 ≤ Int32.toNatClampNeg (x 19 2) then none else (some (mm_up x 19 4 ((x 20 (Int32.toNatClampNeg (x 19 2))) - 48))).bind fun x1 => (some (mm_up x1 19 2 ((x1 19 2) + 1))).bind fun x2 => some (x2, 1)
abbrev rm_X2_readLanding : Room := { frames := 1, cells := 0, slots := 0, locals := 20 }
theorem df_X2_readLanding : yX2_readLanding.cls = RX2 ∧ yX2_readLanding.cls ≠ "java/lang/invoke/MethodHandle" ∧ yX2_readLanding.cls ≠ "java/lang/invoke/VarHandle" ∧ (parseMethodDescriptor yX2_readLanding.desc).map (fun d => d.parameters.length) = some 0 := by decide +kernel
set_option maxRecDepth 100000 in
set_option maxHeartbeats 4000000 in
theorem ct_X2_readLanding (l : Launch) (G : va_G) (T : Nat → ClassId) (b : Nat) (z : Nat → Nat)  (x : mm_M) {x1 : mm_M} {r : Int32} (h : fn_X2_readLanding  x = some (x1, r)) : mm_Ci l yX2_readLanding wsX2_readLanding rm_X2_readLanding G T b z [.ref (b + 19)] x r x1 := by
  unfold fn_X2_readLanding at h
  refine mm_start (cc := cX2_readLanding) (maxL := 1) (ret := (some .boolean)) (by decide) rfl (Nat.le_of_ble_eq_true rfl) (fun p e s m below meth c ls C hr hlk hH hl => ?_)
  have hl : lv_has ls 1 [(0, .ref (b + 19))] := hl
  have hx := C.1
  have hb := C.2.1
  have w1 := C.2.2.2.2.1 (.fieldLink RX2 9 "LandingFines$Pad" "signs" "[C") (by decide +kernel)
  have w2 := C.2.2.2.2.1 (.fieldLink RX2 19 "LandingFines$Pad" "place" "I") (by decide +kernel)
  have w3 := C.2.2.2.2.1 (.fieldLink RX2 26 "LandingFines$Pad" "orderLanding" "I") (by decide +kernel)
  have hin2 : ∀ w ∈ wsX20, w ∈ wsX2_readLanding := by decide +kernel
  refine lv_aload_n hx hb dX2_readLanding_0 rfl (lv_at hl 0 rfl) ?_
  obtain ⟨v1, e1, h⟩ := mm_bnd h
  refine mm_goi hH (va_runV (As := []) (rest := []) ⟨hx, hb, C.2.2.1, C.2.2.2.1, C.2.2.2.2.1⟩ (ct_X2_isAtDigit l G T b z x e1) (cwV 0 C.2.2.2.2.1 gX2_readLanding_X2_isAtDigit rfl rfl rfl df_X2_isAtDigit ⟨Nat.le_of_ble_eq_true rfl, Nat.le_of_ble_eq_true rfl⟩) ⟨mm_B.blind, mm_recv (q := (RX2, TX2, 6)) C hH kl_19 (mm_e2 kd_19) rfl, mm_pre C hH⟩ rfl rfl hl.1 rfl (lv_room (Nat.le_of_ble_eq_true rfl)) dX2_readLanding_1 ⟨Nat.zero_le _, Nat.zero_le _⟩) (fun H locs hH => ?_)
  refine lv_if_ne (tgt := 9) hx hb dX2_readLanding_4 (by decide) (fun c1 => ?_) (fun c1 => ?_)
  · have h := mm_neg c1 h
    refine lv_aload_n hx hb dX2_readLanding_9 rfl (lv_at hl 0 rfl) ?_
    refine lv_aload_n hx hb dX2_readLanding_10 rfl (lv_at hl 0 rfl) ?_
    refine mm_get (v := .ref (b + 20)) C hH hin2 rfl kl_19 (mm_e2 kd_19) (j := 0) (by decide) rfl w1 rfl dX2_readLanding_11 ?_
    refine lv_aload_n hx hb dX2_readLanding_14 rfl (lv_at hl 0 rfl) ?_
    refine mm_get (v := .int (x 19 2)) C hH hin2 rfl kl_19 (mm_e2 kd_19) (j := 2) (by decide) rfl w2 rfl dX2_readLanding_15 ?_
    obtain ⟨g1, h⟩ := mm_grn h
    refine mm_cald (n := 80) (jn := (Int32.toNatClampNeg (x 19 2))) C hH kd_20 ln_20 g1 rfl dX2_readLanding_18 ?_
    refine lv_bipush (v := 48) hx hb dX2_readLanding_19 (by decide) ?_
    refine lv_isub hx hb dX2_readLanding_21 ?_
    obtain ⟨x1, e2, h⟩ := mm_bnd h
    refine mm_put (ty := .int) C hH hin2 tyX2_ok nmX2 rfl kl_19 (mm_e2 kd_19) (j := 4) (by decide) rfl w3 pd_I rfl rfl (Nat.le_of_ble_eq_true rfl) (sp_2_4 kd_19) (Option.some.inj e2) dX2_readLanding_22 (fun H locs hH => ?_)
    refine lv_aload_n hx hb dX2_readLanding_25 rfl (lv_at hl 0 rfl) ?_
    refine lv_dup hx hb dX2_readLanding_26 rfl ?_
    refine mm_get (v := .int (x1 19 2)) C hH hin2 rfl kl_19 (mm_e2 kd_19) (j := 2) (by decide) rfl w2 rfl dX2_readLanding_27 ?_
    refine lv_iconst (v := 1) hx hb dX2_readLanding_30 (by decide) ?_
    refine lv_iadd hx hb dX2_readLanding_31 ?_
    obtain ⟨x2, e3, h⟩ := mm_bnd h
    refine mm_put (ty := .int) C hH hin2 tyX2_ok nmX2 rfl kl_19 (mm_e2 kd_19) (j := 2) (by decide) rfl w2 pd_I rfl rfl (Nat.le_of_ble_eq_true rfl) (sp_2_2 kd_19) (Option.some.inj e3) dX2_readLanding_32 (fun H locs hH => ?_)
    refine lv_iconst (v := 1) hx hb dX2_readLanding_35 (by decide) ?_
    exact mm_iret C hH hr hlk rfl h dX2_readLanding_36
  · have h := mm_pos c1 h
    have hl := lv_sub (l' := []) hl [] rfl
    refine lv_iconst (v := 0) hx hb dX2_readLanding_7 (by decide) ?_
    exact mm_iret C hH hr hlk rfl h dX2_readLanding_8
def fn_X2_readNumber_16 : Nat → Int32 → mm_M → Option mm_M
  | 0, _, _ => none
  | n + 1, i1, x => if (3 : Int32) ≤ i1 then some (x) else (fn_X2_isAtDigit x).bind fun v1 => if v1 = 0 then some (x) else if i1 = 0 then if (x 19 2) < 0 ∨ 80 ≤ Int32.toNatClampNeg (x 19 2) then none else (some (mm_up x 19 5 ((((x 19 5) * 10) + (x 20 (Int32.toNatClampNeg (x 19 2)))) - 48))).bind fun x1 => (some (mm_up x1 19 2 ((x1 19 2) + 1))).bind fun x2 => (some (i1 + 1)).bind fun v2 => fn_X2_readNumber_16 n  v2 x2 else if (x 19 5) ≤ 0 then some (x) else if (x 19 2) < 0 ∨ 80 ≤ Int32.toNatClampNeg (x 19 2) then none else (some (mm_up x 19 5 ((((x 19 5) * 10) + (x 20 (Int32.toNatClampNeg (x 19 2)))) - 48))).bind fun x3 => (some (mm_up x3 19 2 ((x3 19 2) + 1))).bind fun x4 => (some (i1 + 1)).bind fun v3 => fn_X2_readNumber_16 n  v3 x4
def fn_X2_readNumber  (x : mm_M) : Option (mm_M × Int32) :=
  (fn_X2_isAtDigit x).bind fun v1 => if v1 = 0 then some (x, 0) else (some (mm_up x 19 5 0)).bind fun x1 => (fn_X2_readNumber_16 4 0 x1).bind fun x2 => some (x2, 1)
abbrev rm_X2_readNumber : Room := { frames := 1, cells := 0, slots := 0, locals := 20 }
theorem df_X2_readNumber : yX2_readNumber.cls = RX2 ∧ yX2_readNumber.cls ≠ "java/lang/invoke/MethodHandle" ∧ yX2_readNumber.cls ≠ "java/lang/invoke/VarHandle" ∧ (parseMethodDescriptor yX2_readNumber.desc).map (fun d => d.parameters.length) = some 0 := by decide +kernel
set_option maxRecDepth 100000 in
set_option maxHeartbeats 4000000 in
theorem lp_X2_readNumber_16 {p : Program} {l : Launch} {e : Env} {s : State} {m : MethodId} {args : Array Value} {below : List Frame} {meth : Method} {c : Code} {Q : State → Prop} {G : va_G} {T : Nat → ClassId} {b : Nat} {z : Nat → Nat} (C : mm_C p m c cX2_readNumber 2 s args wsX2_readNumber RX2 G T b z)  : ∀ (n : Nat) (i1 : Int32) (x : mm_M) (H : Heap) (locs : List Loc) (ls : Array Slot) (x1 : mm_M), fn_X2_readNumber_16 n i1 x = some (x1) → mm_H G T b x s H locs → lv_has ls 2 [(0, .ref (b + 19)), (1, .int i1)] → (∀ (H1 : Heap) (locs1 : List Loc) (ls1 : Array Slot), mm_H G T b x1 s H1 locs1 → lv_has ls1 2 [] → W p l e rm_X2_readNumber s m args below meth c H1 locs1 0 0 Q (F0 m 79 ls1 [])) → W p l e rm_X2_readNumber s m args below meth c H locs 0 0 Q (F0 m 16 ls []) := by
  have hx := C.1
  have hb := C.2.1
  have w1 := C.2.2.2.2.1 (.fieldLink RX2 29 "LandingFines$Pad" "orderNumber" "I") (by decide +kernel)
  have w2 := C.2.2.2.2.1 (.fieldLink RX2 9 "LandingFines$Pad" "signs" "[C") (by decide +kernel)
  have w3 := C.2.2.2.2.1 (.fieldLink RX2 19 "LandingFines$Pad" "place" "I") (by decide +kernel)
  have hin2 : ∀ w ∈ wsX20, w ∈ wsX2_readNumber := by decide +kernel
  intro n
  induction n with
  | zero => intro _ _ _ _ _ _ h; cases (show (none : Option mm_M) = some _ from h)
  | succ n ih =>
    intro i1 x H locs ls x1 h hH hl kk
    rw [fn_X2_readNumber_16] at h
    refine lv_iload_n hx hb dX2_readNumber_16 rfl (lv_at hl 1 rfl) ?_
    refine lv_iconst (v := 3) hx hb dX2_readNumber_17 (by decide) ?_
    refine lv_icmp_ge (tgt := 79) hx hb dX2_readNumber_18 (by decide) (fun c1 => ?_) (fun c1 => ?_)
    · have h := mm_pos c1 h
      have hl := lv_sub (l' := []) hl [] rfl
      cases h
      exact kk _ _ _ hH (lv_sub hl [] rfl)
    · have h := mm_neg c1 h
      refine lv_aload_n hx hb dX2_readNumber_21 rfl (lv_at hl 0 rfl) ?_
      obtain ⟨v1, e1, h⟩ := mm_bnd h
      refine mm_goi hH (va_runV (As := []) (rest := []) ⟨hx, hb, C.2.2.1, C.2.2.2.1, C.2.2.2.2.1⟩ (ct_X2_isAtDigit l G T b z x e1) (cwV 0 C.2.2.2.2.1 gX2_readNumber_X2_isAtDigit rfl rfl rfl df_X2_isAtDigit ⟨Nat.le_of_ble_eq_true rfl, Nat.le_of_ble_eq_true rfl⟩) ⟨mm_B.blind, mm_recv (q := (RX2, TX2, 6)) C hH kl_19 (mm_e2 kd_19) rfl, mm_pre C hH⟩ rfl rfl hl.1 rfl (lv_room (Nat.le_of_ble_eq_true rfl)) dX2_readNumber_22 ⟨Nat.zero_le _, Nat.zero_le _⟩) (fun H locs hH => ?_)
      refine lv_if_eq (tgt := 79) hx hb dX2_readNumber_25 (by decide) (fun c2 => ?_) (fun c2 => ?_)
      · have h := mm_pos c2 h
        have hl := lv_sub (l' := []) hl [] rfl
        cases h
        exact kk _ _ _ hH (lv_sub hl [] rfl)
      · have h := mm_neg c2 h
        refine lv_iload_n hx hb dX2_readNumber_28 rfl (lv_at hl 1 rfl) ?_
        refine lv_if_eq (tgt := 39) hx hb dX2_readNumber_29 (by decide) (fun c3 => ?_) (fun c3 => ?_)
        · have h := mm_pos c3 h
          refine lv_aload_n hx hb dX2_readNumber_39 rfl (lv_at hl 0 rfl) ?_
          refine lv_aload_n hx hb dX2_readNumber_40 rfl (lv_at hl 0 rfl) ?_
          refine mm_get (v := .int (x 19 5)) C hH hin2 rfl kl_19 (mm_e2 kd_19) (j := 5) (by decide) rfl w1 rfl dX2_readNumber_41 ?_
          refine lv_bipush (v := 10) hx hb dX2_readNumber_44 (by decide) ?_
          refine lv_imul hx hb dX2_readNumber_46 ?_
          refine lv_aload_n hx hb dX2_readNumber_47 rfl (lv_at hl 0 rfl) ?_
          refine mm_get (v := .ref (b + 20)) C hH hin2 rfl kl_19 (mm_e2 kd_19) (j := 0) (by decide) rfl w2 rfl dX2_readNumber_48 ?_
          refine lv_aload_n hx hb dX2_readNumber_51 rfl (lv_at hl 0 rfl) ?_
          refine mm_get (v := .int (x 19 2)) C hH hin2 rfl kl_19 (mm_e2 kd_19) (j := 2) (by decide) rfl w3 rfl dX2_readNumber_52 ?_
          obtain ⟨g1, h⟩ := mm_grn h
          refine mm_cald (n := 80) (jn := (Int32.toNatClampNeg (x 19 2))) C hH kd_20 ln_20 g1 rfl dX2_readNumber_55 ?_
          refine lv_iadd hx hb dX2_readNumber_56 ?_
          refine lv_bipush (v := 48) hx hb dX2_readNumber_57 (by decide) ?_
          refine lv_isub hx hb dX2_readNumber_59 ?_
          obtain ⟨x1, e2, h⟩ := mm_bnd h
          refine mm_put (ty := .int) C hH hin2 tyX2_ok nmX2 rfl kl_19 (mm_e2 kd_19) (j := 5) (by decide) rfl w1 pd_I rfl rfl (Nat.le_of_ble_eq_true rfl) (sp_2_5 kd_19) (Option.some.inj e2) dX2_readNumber_60 (fun H locs hH => ?_)
          refine lv_aload_n hx hb dX2_readNumber_63 rfl (lv_at hl 0 rfl) ?_
          refine lv_dup hx hb dX2_readNumber_64 rfl ?_
          refine mm_get (v := .int (x1 19 2)) C hH hin2 rfl kl_19 (mm_e2 kd_19) (j := 2) (by decide) rfl w3 rfl dX2_readNumber_65 ?_
          refine lv_iconst (v := 1) hx hb dX2_readNumber_68 (by decide) ?_
          refine lv_iadd hx hb dX2_readNumber_69 ?_
          obtain ⟨x2, e3, h⟩ := mm_bnd h
          refine mm_put (ty := .int) C hH hin2 tyX2_ok nmX2 rfl kl_19 (mm_e2 kd_19) (j := 2) (by decide) rfl w3 pd_I rfl rfl (Nat.le_of_ble_eq_true rfl) (sp_2_2 kd_19) (Option.some.inj e3) dX2_readNumber_70 (fun H locs hH => ?_)
          obtain ⟨v2, e4, h⟩ := mm_bnd h
          refine lv_iinc (v := v2) (lv' := [(1, .int v2), (0, .ref (b + 19))]) hx hb dX2_readNumber_73 hl (k := 1) rfl (Option.some.inj e4) (by decide) rfl (fun ls hl => ?_)
          refine lv_goto (tgt := 16) hx hb dX2_readNumber_76 (by decide) ?_
          exact ih v2 x2 _ _ _ _ h hH (lv_sub hl [1, 0] rfl) kk
        · have h := mm_neg c3 h
          refine lv_aload_n hx hb dX2_readNumber_32 rfl (lv_at hl 0 rfl) ?_
          refine mm_get (v := .int (x 19 5)) C hH hin2 rfl kl_19 (mm_e2 kd_19) (j := 5) (by decide) rfl w1 rfl dX2_readNumber_33 ?_
          refine lv_if_le (tgt := 79) hx hb dX2_readNumber_36 (by decide) (fun c4 => ?_) (fun c4 => ?_)
          · have h := mm_pos c4 h
            have hl := lv_sub (l' := []) hl [] rfl
            cases h
            exact kk _ _ _ hH (lv_sub hl [] rfl)
          · have h := mm_neg c4 h
            refine lv_aload_n hx hb dX2_readNumber_39 rfl (lv_at hl 0 rfl) ?_
            refine lv_aload_n hx hb dX2_readNumber_40 rfl (lv_at hl 0 rfl) ?_
            refine mm_get (v := .int (x 19 5)) C hH hin2 rfl kl_19 (mm_e2 kd_19) (j := 5) (by decide) rfl w1 rfl dX2_readNumber_41 ?_
            refine lv_bipush (v := 10) hx hb dX2_readNumber_44 (by decide) ?_
            refine lv_imul hx hb dX2_readNumber_46 ?_
            refine lv_aload_n hx hb dX2_readNumber_47 rfl (lv_at hl 0 rfl) ?_
            refine mm_get (v := .ref (b + 20)) C hH hin2 rfl kl_19 (mm_e2 kd_19) (j := 0) (by decide) rfl w2 rfl dX2_readNumber_48 ?_
            refine lv_aload_n hx hb dX2_readNumber_51 rfl (lv_at hl 0 rfl) ?_
            refine mm_get (v := .int (x 19 2)) C hH hin2 rfl kl_19 (mm_e2 kd_19) (j := 2) (by decide) rfl w3 rfl dX2_readNumber_52 ?_
            obtain ⟨g2, h⟩ := mm_grn h
            refine mm_cald (n := 80) (jn := (Int32.toNatClampNeg (x 19 2))) C hH kd_20 ln_20 g2 rfl dX2_readNumber_55 ?_
            refine lv_iadd hx hb dX2_readNumber_56 ?_
            refine lv_bipush (v := 48) hx hb dX2_readNumber_57 (by decide) ?_
            refine lv_isub hx hb dX2_readNumber_59 ?_
            obtain ⟨x3, e5, h⟩ := mm_bnd h
            refine mm_put (ty := .int) C hH hin2 tyX2_ok nmX2 rfl kl_19 (mm_e2 kd_19) (j := 5) (by decide) rfl w1 pd_I rfl rfl (Nat.le_of_ble_eq_true rfl) (sp_2_5 kd_19) (Option.some.inj e5) dX2_readNumber_60 (fun H locs hH => ?_)
            refine lv_aload_n hx hb dX2_readNumber_63 rfl (lv_at hl 0 rfl) ?_
            refine lv_dup hx hb dX2_readNumber_64 rfl ?_
            refine mm_get (v := .int (x3 19 2)) C hH hin2 rfl kl_19 (mm_e2 kd_19) (j := 2) (by decide) rfl w3 rfl dX2_readNumber_65 ?_
            refine lv_iconst (v := 1) hx hb dX2_readNumber_68 (by decide) ?_
            refine lv_iadd hx hb dX2_readNumber_69 ?_
            obtain ⟨x4, e6, h⟩ := mm_bnd h
            refine mm_put (ty := .int) C hH hin2 tyX2_ok nmX2 rfl kl_19 (mm_e2 kd_19) (j := 2) (by decide) rfl w3 pd_I rfl rfl (Nat.le_of_ble_eq_true rfl) (sp_2_2 kd_19) (Option.some.inj e6) dX2_readNumber_70 (fun H locs hH => ?_)
            obtain ⟨v3, e7, h⟩ := mm_bnd h
            refine lv_iinc (v := v3) (lv' := [(1, .int v3), (0, .ref (b + 19))]) hx hb dX2_readNumber_73 hl (k := 1) rfl (Option.some.inj e7) (by decide) rfl (fun ls hl => ?_)
            refine lv_goto (tgt := 16) hx hb dX2_readNumber_76 (by decide) ?_
            exact ih v3 x4 _ _ _ _ h hH (lv_sub hl [1, 0] rfl) kk
set_option maxRecDepth 100000 in
set_option maxHeartbeats 4000000 in
theorem ct_X2_readNumber (l : Launch) (G : va_G) (T : Nat → ClassId) (b : Nat) (z : Nat → Nat)  (x : mm_M) {x1 : mm_M} {r : Int32} (h : fn_X2_readNumber  x = some (x1, r)) : mm_Ci l yX2_readNumber wsX2_readNumber rm_X2_readNumber G T b z [.ref (b + 19)] x r x1 := by
  unfold fn_X2_readNumber at h
  refine mm_start (cc := cX2_readNumber) (maxL := 2) (ret := (some .boolean)) (by decide) rfl (Nat.le_of_ble_eq_true rfl) (fun p e s m below meth c ls C hr hlk hH hl => ?_)
  have hl : lv_has ls 2 [(0, .ref (b + 19))] := hl
  have hx := C.1
  have hb := C.2.1
  have w1 := C.2.2.2.2.1 (.fieldLink RX2 29 "LandingFines$Pad" "orderNumber" "I") (by decide +kernel)
  have hin2 : ∀ w ∈ wsX20, w ∈ wsX2_readNumber := by decide +kernel
  refine lv_aload_n hx hb dX2_readNumber_0 rfl (lv_at hl 0 rfl) ?_
  obtain ⟨v1, e1, h⟩ := mm_bnd h
  refine mm_goi hH (va_runV (As := []) (rest := []) ⟨hx, hb, C.2.2.1, C.2.2.2.1, C.2.2.2.2.1⟩ (ct_X2_isAtDigit l G T b z x e1) (cwV 0 C.2.2.2.2.1 gX2_readNumber_X2_isAtDigit rfl rfl rfl df_X2_isAtDigit ⟨Nat.le_of_ble_eq_true rfl, Nat.le_of_ble_eq_true rfl⟩) ⟨mm_B.blind, mm_recv (q := (RX2, TX2, 6)) C hH kl_19 (mm_e2 kd_19) rfl, mm_pre C hH⟩ rfl rfl hl.1 rfl (lv_room (Nat.le_of_ble_eq_true rfl)) dX2_readNumber_1 ⟨Nat.zero_le _, Nat.zero_le _⟩) (fun H locs hH => ?_)
  refine lv_if_ne (tgt := 9) hx hb dX2_readNumber_4 (by decide) (fun c1 => ?_) (fun c1 => ?_)
  · have h := mm_neg c1 h
    refine lv_aload_n hx hb dX2_readNumber_9 rfl (lv_at hl 0 rfl) ?_
    refine lv_iconst (v := 0) hx hb dX2_readNumber_10 (by decide) ?_
    obtain ⟨x1, e2, h⟩ := mm_bnd h
    refine mm_put (ty := .int) C hH hin2 tyX2_ok nmX2 rfl kl_19 (mm_e2 kd_19) (j := 5) (by decide) rfl w1 pd_I rfl rfl (Nat.le_of_ble_eq_true rfl) (sp_2_5 kd_19) (Option.some.inj e2) dX2_readNumber_11 (fun H locs hH => ?_)
    refine lv_iconst (v := 0) hx hb dX2_readNumber_14 (by decide) ?_
    refine lv_istore_n (lv' := [(1, .int 0), (0, .ref (b + 19))]) hx hb dX2_readNumber_15 rfl hl (by decide) rfl (fun ls hl => ?_)
    obtain ⟨x2, e3, h⟩ := mm_bnd h
    refine lp_X2_readNumber_16 C 4 0 x1 _ _ _ _ e3 hH (lv_sub hl [1, 0] rfl) (fun H locs ls hH hl => ?_)
    refine lv_iconst (v := 1) hx hb dX2_readNumber_79 (by decide) ?_
    exact mm_iret C hH hr hlk rfl h dX2_readNumber_80
  · have h := mm_pos c1 h
    have hl := lv_sub (l' := []) hl [] rfl
    refine lv_iconst (v := 0) hx hb dX2_readNumber_7 (by decide) ?_
    exact mm_iret C hH hr hlk rfl h dX2_readNumber_8
def fn_X2_readOrder  (x : mm_M) : Option (mm_M × Int32) :=
  if (x 19 2) < (x 19 1) then if (x 19 2) < 0 ∨ 80 ≤ Int32.toNatClampNeg (x 19 2) then none else if vp_nar .char (x 20 (Int32.toNatClampNeg (x 19 2))) = (x 20 (Int32.toNatClampNeg (x 19 2))) then (some (mm_up x 19 3 (x 20 (Int32.toNatClampNeg (x 19 2))))).bind fun x1 => (some ((x1 19 3) : Int32)).bind fun v1 => if v1 = 43 then (some (mm_up x1 19 2 ((x1 19 2) + 1))).bind fun x2 => mm_b2 (fn_X2_readNumber x2) fun x3 v2 => if vp_nar .boolean v2 = v2 then some (x3, v2) else none else if v1 = 99 then (some (mm_up x1 19 2 ((x1 19 2) + 1))).bind fun x4 => mm_b2 (fn_X2_readLanding x4) fun x5 v3 => if vp_nar .boolean v3 = v3 then some (x5, v3) else none else if v1 = 111 then (some (mm_up x1 19 2 ((x1 19 2) + 1))).bind fun x6 => mm_b2 (fn_X2_readLanding x6) fun x7 v4 => if vp_nar .boolean v4 = v4 then some (x7, v4) else none else if v1 = 112 then (some (mm_up x1 19 2 ((x1 19 2) + 1))).bind fun x8 => mm_b2 (fn_X2_readLanding x8) fun x9 v5 => if v5 = 0 then some (x9, 0) else mm_b2 (fn_X2_readSign 61 x9) fun x10 v6 => if v6 = 0 then some (x10, 0) else mm_b2 (fn_X2_readNumber x10) fun x11 v7 => if v7 = 0 then some (x11, 0) else some (x11, 1) else if v1 = 116 then (some (mm_up x1 19 2 ((x1 19 2) + 1))).bind fun x12 => mm_b2 (fn_X2_readNumber x12) fun x13 v8 => if vp_nar .boolean v8 = v8 then some (x13, v8) else none else some (x1, 0) else none else some (x, 0)
abbrev rm_X2_readOrder : Room := { frames := 2, cells := 0, slots := 0, locals := 41 }
theorem df_X2_readOrder : yX2_readOrder.cls = RX2 ∧ yX2_readOrder.cls ≠ "java/lang/invoke/MethodHandle" ∧ yX2_readOrder.cls ≠ "java/lang/invoke/VarHandle" ∧ (parseMethodDescriptor yX2_readOrder.desc).map (fun d => d.parameters.length) = some 0 := by decide +kernel
set_option maxRecDepth 100000 in
set_option maxHeartbeats 4000000 in
theorem ct_X2_readOrder (l : Launch) (G : va_G) (T : Nat → ClassId) (b : Nat) (z : Nat → Nat)  (x : mm_M) {x1 : mm_M} {r : Int32} (h : fn_X2_readOrder  x = some (x1, r)) : mm_Ci l yX2_readOrder wsX2_readOrder rm_X2_readOrder G T b z [.ref (b + 19)] x r x1 := by
  unfold fn_X2_readOrder at h
  refine mm_start (cc := cX2_readOrder) (maxL := 1) (ret := (some .boolean)) (by decide) rfl (Nat.le_of_ble_eq_true rfl) (fun p e s m below meth c ls C hr hlk hH hl => ?_)
  have hl : lv_has ls 1 [(0, .ref (b + 19))] := hl
  have hx := C.1
  have hb := C.2.1
  have w1 := C.2.2.2.2.1 (.fieldLink RX2 19 "LandingFines$Pad" "place" "I") (by decide +kernel)
  have w2 := C.2.2.2.2.1 (.fieldLink RX2 15 "LandingFines$Pad" "length" "I") (by decide +kernel)
  have w3 := C.2.2.2.2.1 (.fieldLink RX2 9 "LandingFines$Pad" "signs" "[C") (by decide +kernel)
  have w4 := C.2.2.2.2.1 (.fieldLink RX2 22 "LandingFines$Pad" "orderSign" "C") (by decide +kernel)
  have hin2 : ∀ w ∈ wsX20, w ∈ wsX2_readOrder := by decide +kernel
  refine lv_aload_n hx hb dX2_readOrder_0 rfl (lv_at hl 0 rfl) ?_
  refine mm_get (v := .int (x 19 2)) C hH hin2 rfl kl_19 (mm_e2 kd_19) (j := 2) (by decide) rfl w1 rfl dX2_readOrder_1 ?_
  refine lv_aload_n hx hb dX2_readOrder_4 rfl (lv_at hl 0 rfl) ?_
  refine mm_get (v := .int (x 19 1)) C hH hin2 rfl kl_19 (mm_e2 kd_19) (j := 1) (by decide) rfl w2 rfl dX2_readOrder_5 ?_
  refine lv_icmp_lt (tgt := 13) hx hb dX2_readOrder_8 (by decide) (fun c1 => ?_) (fun c1 => ?_)
  · have h := mm_pos c1 h
    refine lv_aload_n hx hb dX2_readOrder_13 rfl (lv_at hl 0 rfl) ?_
    refine lv_aload_n hx hb dX2_readOrder_14 rfl (lv_at hl 0 rfl) ?_
    refine mm_get (v := .ref (b + 20)) C hH hin2 rfl kl_19 (mm_e2 kd_19) (j := 0) (by decide) rfl w3 rfl dX2_readOrder_15 ?_
    refine lv_aload_n hx hb dX2_readOrder_18 rfl (lv_at hl 0 rfl) ?_
    refine mm_get (v := .int (x 19 2)) C hH hin2 rfl kl_19 (mm_e2 kd_19) (j := 2) (by decide) rfl w1 rfl dX2_readOrder_19 ?_
    obtain ⟨g1, h⟩ := mm_grn h
    refine mm_cald (n := 80) (jn := (Int32.toNatClampNeg (x 19 2))) C hH kd_20 ln_20 g1 rfl dX2_readOrder_22 ?_
    obtain ⟨g2, h⟩ := mm_grd h
    obtain ⟨x1, e1, h⟩ := mm_bnd h
    refine mm_put (ty := .char) C hH hin2 tyX2_ok nmX2 rfl kl_19 (mm_e2 kd_19) (j := 3) (by decide) rfl w4 pd_C (mm_narC g2) (mm_fitC g2) (Nat.le_of_ble_eq_true rfl) (sp_2_3 kd_19) (Option.some.inj e1) dX2_readOrder_23 (fun H locs hH => ?_)
    refine lv_aload_n hx hb dX2_readOrder_26 rfl (lv_at hl 0 rfl) ?_
    refine mm_get (v := .int (x1 19 3)) C hH hin2 rfl kl_19 (mm_e2 kd_19) (j := 3) (by decide) rfl w4 rfl dX2_readOrder_27 ?_
    obtain ⟨v1, e2, h⟩ := mm_bnd h
    refine mm_nmi e2 ?_
    by_cases c2 : v1 = 43
    · have h := mm_pos c2 h
      refine lv_lookup (off := 50) (tgt := 80) hx hb dX2_readOrder_30 (by decide) (by rw [c2]; decide) (by decide) ?_
      refine lv_aload_n hx hb dX2_readOrder_80 rfl (lv_at hl 0 rfl) ?_
      refine lv_dup hx hb dX2_readOrder_81 rfl ?_
      refine mm_get (v := .int (x1 19 2)) C hH hin2 rfl kl_19 (mm_e2 kd_19) (j := 2) (by decide) rfl w1 rfl dX2_readOrder_82 ?_
      refine lv_iconst (v := 1) hx hb dX2_readOrder_85 (by decide) ?_
      refine lv_iadd hx hb dX2_readOrder_86 ?_
      obtain ⟨x2, e3, h⟩ := mm_bnd h
      refine mm_put (ty := .int) C hH hin2 tyX2_ok nmX2 rfl kl_19 (mm_e2 kd_19) (j := 2) (by decide) rfl w1 pd_I rfl rfl (Nat.le_of_ble_eq_true rfl) (sp_2_2 kd_19) (Option.some.inj e3) dX2_readOrder_87 (fun H locs hH => ?_)
      refine lv_aload_n hx hb dX2_readOrder_90 rfl (lv_at hl 0 rfl) ?_
      obtain ⟨x3, v2, e4, h⟩ := mm_bnd2 h
      refine mm_goi hH (va_runV (As := []) (rest := []) ⟨hx, hb, C.2.2.1, C.2.2.2.1, C.2.2.2.2.1⟩ (ct_X2_readNumber l G T b z x2 e4) (cwV 0 C.2.2.2.2.1 gX2_readOrder_X2_readNumber rfl rfl rfl df_X2_readNumber ⟨Nat.le_of_ble_eq_true rfl, Nat.le_of_ble_eq_true rfl⟩) ⟨mm_B.blind, mm_recv (q := (RX2, TX2, 6)) C hH kl_19 (mm_e2 kd_19) rfl, mm_pre C hH⟩ rfl rfl hl.1 rfl (lv_room (Nat.le_of_ble_eq_true rfl)) dX2_readOrder_91 ⟨Nat.zero_le _, Nat.zero_le _⟩) (fun H locs hH => ?_)
      obtain ⟨g3, h⟩ := mm_grd h
      exact mm_iret C hH hr hlk (mm_narZ g3) h dX2_readOrder_94
    have h := mm_neg c2 h
    by_cases c3 : v1 = 99
    · have h := mm_pos c3 h
      refine lv_lookup (off := 65) (tgt := 95) hx hb dX2_readOrder_30 (by decide) (by rw [c3]; decide) (by decide) ?_
      refine lv_aload_n hx hb dX2_readOrder_95 rfl (lv_at hl 0 rfl) ?_
      refine lv_dup hx hb dX2_readOrder_96 rfl ?_
      refine mm_get (v := .int (x1 19 2)) C hH hin2 rfl kl_19 (mm_e2 kd_19) (j := 2) (by decide) rfl w1 rfl dX2_readOrder_97 ?_
      refine lv_iconst (v := 1) hx hb dX2_readOrder_100 (by decide) ?_
      refine lv_iadd hx hb dX2_readOrder_101 ?_
      obtain ⟨x4, e5, h⟩ := mm_bnd h
      refine mm_put (ty := .int) C hH hin2 tyX2_ok nmX2 rfl kl_19 (mm_e2 kd_19) (j := 2) (by decide) rfl w1 pd_I rfl rfl (Nat.le_of_ble_eq_true rfl) (sp_2_2 kd_19) (Option.some.inj e5) dX2_readOrder_102 (fun H locs hH => ?_)
      refine lv_aload_n hx hb dX2_readOrder_105 rfl (lv_at hl 0 rfl) ?_
      obtain ⟨x5, v3, e6, h⟩ := mm_bnd2 h
      refine mm_goi hH (va_runV (As := []) (rest := []) ⟨hx, hb, C.2.2.1, C.2.2.2.1, C.2.2.2.2.1⟩ (ct_X2_readLanding l G T b z x4 e6) (cwV 0 C.2.2.2.2.1 gX2_readOrder_X2_readLanding rfl rfl rfl df_X2_readLanding ⟨Nat.le_of_ble_eq_true rfl, Nat.le_of_ble_eq_true rfl⟩) ⟨mm_B.blind, mm_recv (q := (RX2, TX2, 6)) C hH kl_19 (mm_e2 kd_19) rfl, mm_pre C hH⟩ rfl rfl hl.1 rfl (lv_room (Nat.le_of_ble_eq_true rfl)) dX2_readOrder_106 ⟨Nat.zero_le _, Nat.zero_le _⟩) (fun H locs hH => ?_)
      obtain ⟨g4, h⟩ := mm_grd h
      exact mm_iret C hH hr hlk (mm_narZ g4) h dX2_readOrder_109
    have h := mm_neg c3 h
    by_cases c4 : v1 = 111
    · have h := mm_pos c4 h
      refine lv_lookup (off := 65) (tgt := 95) hx hb dX2_readOrder_30 (by decide) (by rw [c4]; decide) (by decide) ?_
      refine lv_aload_n hx hb dX2_readOrder_95 rfl (lv_at hl 0 rfl) ?_
      refine lv_dup hx hb dX2_readOrder_96 rfl ?_
      refine mm_get (v := .int (x1 19 2)) C hH hin2 rfl kl_19 (mm_e2 kd_19) (j := 2) (by decide) rfl w1 rfl dX2_readOrder_97 ?_
      refine lv_iconst (v := 1) hx hb dX2_readOrder_100 (by decide) ?_
      refine lv_iadd hx hb dX2_readOrder_101 ?_
      obtain ⟨x6, e7, h⟩ := mm_bnd h
      refine mm_put (ty := .int) C hH hin2 tyX2_ok nmX2 rfl kl_19 (mm_e2 kd_19) (j := 2) (by decide) rfl w1 pd_I rfl rfl (Nat.le_of_ble_eq_true rfl) (sp_2_2 kd_19) (Option.some.inj e7) dX2_readOrder_102 (fun H locs hH => ?_)
      refine lv_aload_n hx hb dX2_readOrder_105 rfl (lv_at hl 0 rfl) ?_
      obtain ⟨x7, v4, e8, h⟩ := mm_bnd2 h
      refine mm_goi hH (va_runV (As := []) (rest := []) ⟨hx, hb, C.2.2.1, C.2.2.2.1, C.2.2.2.2.1⟩ (ct_X2_readLanding l G T b z x6 e8) (cwV 0 C.2.2.2.2.1 gX2_readOrder_X2_readLanding rfl rfl rfl df_X2_readLanding ⟨Nat.le_of_ble_eq_true rfl, Nat.le_of_ble_eq_true rfl⟩) ⟨mm_B.blind, mm_recv (q := (RX2, TX2, 6)) C hH kl_19 (mm_e2 kd_19) rfl, mm_pre C hH⟩ rfl rfl hl.1 rfl (lv_room (Nat.le_of_ble_eq_true rfl)) dX2_readOrder_106 ⟨Nat.zero_le _, Nat.zero_le _⟩) (fun H locs hH => ?_)
      obtain ⟨g5, h⟩ := mm_grd h
      exact mm_iret C hH hr hlk (mm_narZ g5) h dX2_readOrder_109
    have h := mm_neg c4 h
    by_cases c5 : v1 = 112
    · have h := mm_pos c5 h
      refine lv_lookup (off := 80) (tgt := 110) hx hb dX2_readOrder_30 (by decide) (by rw [c5]; decide) (by decide) ?_
      refine lv_aload_n hx hb dX2_readOrder_110 rfl (lv_at hl 0 rfl) ?_
      refine lv_dup hx hb dX2_readOrder_111 rfl ?_
      refine mm_get (v := .int (x1 19 2)) C hH hin2 rfl kl_19 (mm_e2 kd_19) (j := 2) (by decide) rfl w1 rfl dX2_readOrder_112 ?_
      refine lv_iconst (v := 1) hx hb dX2_readOrder_115 (by decide) ?_
      refine lv_iadd hx hb dX2_readOrder_116 ?_
      obtain ⟨x8, e9, h⟩ := mm_bnd h
      refine mm_put (ty := .int) C hH hin2 tyX2_ok nmX2 rfl kl_19 (mm_e2 kd_19) (j := 2) (by decide) rfl w1 pd_I rfl rfl (Nat.le_of_ble_eq_true rfl) (sp_2_2 kd_19) (Option.some.inj e9) dX2_readOrder_117 (fun H locs hH => ?_)
      refine lv_aload_n hx hb dX2_readOrder_120 rfl (lv_at hl 0 rfl) ?_
      obtain ⟨x9, v5, e10, h⟩ := mm_bnd2 h
      refine mm_goi hH (va_runV (As := []) (rest := []) ⟨hx, hb, C.2.2.1, C.2.2.2.1, C.2.2.2.2.1⟩ (ct_X2_readLanding l G T b z x8 e10) (cwV 0 C.2.2.2.2.1 gX2_readOrder_X2_readLanding rfl rfl rfl df_X2_readLanding ⟨Nat.le_of_ble_eq_true rfl, Nat.le_of_ble_eq_true rfl⟩) ⟨mm_B.blind, mm_recv (q := (RX2, TX2, 6)) C hH kl_19 (mm_e2 kd_19) rfl, mm_pre C hH⟩ rfl rfl hl.1 rfl (lv_room (Nat.le_of_ble_eq_true rfl)) dX2_readOrder_121 ⟨Nat.zero_le _, Nat.zero_le _⟩) (fun H locs hH => ?_)
      refine lv_if_eq (tgt := 147) hx hb dX2_readOrder_124 (by decide) (fun c6 => ?_) (fun c6 => ?_)
      · have h := mm_pos c6 h
        have hl := lv_sub (l' := []) hl [] rfl
        refine lv_iconst (v := 0) hx hb dX2_readOrder_147 (by decide) ?_
        exact mm_iret C hH hr hlk rfl h dX2_readOrder_148
      · have h := mm_neg c6 h
        refine lv_aload_n hx hb dX2_readOrder_127 rfl (lv_at hl 0 rfl) ?_
        refine lv_bipush (v := 61) hx hb dX2_readOrder_128 (by decide) ?_
        obtain ⟨x10, v6, e11, h⟩ := mm_bnd2 h
        refine mm_goi hH (va_runV (As := [.int 61]) (rest := []) ⟨hx, hb, C.2.2.1, C.2.2.2.1, C.2.2.2.2.1⟩ (ct_X2_readSign l G T b z 61 x9 e11) (cwV 1 C.2.2.2.2.1 gX2_readOrder_X2_readSign rfl rfl rfl df_X2_readSign ⟨Nat.le_of_ble_eq_true rfl, Nat.le_of_ble_eq_true rfl⟩) ⟨mm_B.blind, mm_recv (q := (RX2, TX2, 6)) C hH kl_19 (mm_e2 kd_19) rfl, mm_pre C hH⟩ rfl rfl hl.1 rfl (lv_room (Nat.le_of_ble_eq_true rfl)) dX2_readOrder_130 ⟨Nat.zero_le _, Nat.zero_le _⟩) (fun H locs hH => ?_)
        refine lv_if_eq (tgt := 147) hx hb dX2_readOrder_133 (by decide) (fun c7 => ?_) (fun c7 => ?_)
        · have h := mm_pos c7 h
          have hl := lv_sub (l' := []) hl [] rfl
          refine lv_iconst (v := 0) hx hb dX2_readOrder_147 (by decide) ?_
          exact mm_iret C hH hr hlk rfl h dX2_readOrder_148
        · have h := mm_neg c7 h
          refine lv_aload_n hx hb dX2_readOrder_136 rfl (lv_at hl 0 rfl) ?_
          obtain ⟨x11, v7, e12, h⟩ := mm_bnd2 h
          refine mm_goi hH (va_runV (As := []) (rest := []) ⟨hx, hb, C.2.2.1, C.2.2.2.1, C.2.2.2.2.1⟩ (ct_X2_readNumber l G T b z x10 e12) (cwV 0 C.2.2.2.2.1 gX2_readOrder_X2_readNumber rfl rfl rfl df_X2_readNumber ⟨Nat.le_of_ble_eq_true rfl, Nat.le_of_ble_eq_true rfl⟩) ⟨mm_B.blind, mm_recv (q := (RX2, TX2, 6)) C hH kl_19 (mm_e2 kd_19) rfl, mm_pre C hH⟩ rfl rfl hl.1 rfl (lv_room (Nat.le_of_ble_eq_true rfl)) dX2_readOrder_137 ⟨Nat.zero_le _, Nat.zero_le _⟩) (fun H locs hH => ?_)
          refine lv_if_eq (tgt := 147) hx hb dX2_readOrder_140 (by decide) (fun c8 => ?_) (fun c8 => ?_)
          · have h := mm_pos c8 h
            have hl := lv_sub (l' := []) hl [] rfl
            refine lv_iconst (v := 0) hx hb dX2_readOrder_147 (by decide) ?_
            exact mm_iret C hH hr hlk rfl h dX2_readOrder_148
          · have h := mm_neg c8 h
            have hl := lv_sub (l' := []) hl [] rfl
            refine lv_iconst (v := 1) hx hb dX2_readOrder_143 (by decide) ?_
            refine lv_goto (tgt := 148) hx hb dX2_readOrder_144 (by decide) ?_
            exact mm_iret C hH hr hlk rfl h dX2_readOrder_148
    have h := mm_neg c5 h
    by_cases c9 : v1 = 116
    · have h := mm_pos c9 h
      refine lv_lookup (off := 50) (tgt := 80) hx hb dX2_readOrder_30 (by decide) (by rw [c9]; decide) (by decide) ?_
      refine lv_aload_n hx hb dX2_readOrder_80 rfl (lv_at hl 0 rfl) ?_
      refine lv_dup hx hb dX2_readOrder_81 rfl ?_
      refine mm_get (v := .int (x1 19 2)) C hH hin2 rfl kl_19 (mm_e2 kd_19) (j := 2) (by decide) rfl w1 rfl dX2_readOrder_82 ?_
      refine lv_iconst (v := 1) hx hb dX2_readOrder_85 (by decide) ?_
      refine lv_iadd hx hb dX2_readOrder_86 ?_
      obtain ⟨x12, e13, h⟩ := mm_bnd h
      refine mm_put (ty := .int) C hH hin2 tyX2_ok nmX2 rfl kl_19 (mm_e2 kd_19) (j := 2) (by decide) rfl w1 pd_I rfl rfl (Nat.le_of_ble_eq_true rfl) (sp_2_2 kd_19) (Option.some.inj e13) dX2_readOrder_87 (fun H locs hH => ?_)
      refine lv_aload_n hx hb dX2_readOrder_90 rfl (lv_at hl 0 rfl) ?_
      obtain ⟨x13, v8, e14, h⟩ := mm_bnd2 h
      refine mm_goi hH (va_runV (As := []) (rest := []) ⟨hx, hb, C.2.2.1, C.2.2.2.1, C.2.2.2.2.1⟩ (ct_X2_readNumber l G T b z x12 e14) (cwV 0 C.2.2.2.2.1 gX2_readOrder_X2_readNumber rfl rfl rfl df_X2_readNumber ⟨Nat.le_of_ble_eq_true rfl, Nat.le_of_ble_eq_true rfl⟩) ⟨mm_B.blind, mm_recv (q := (RX2, TX2, 6)) C hH kl_19 (mm_e2 kd_19) rfl, mm_pre C hH⟩ rfl rfl hl.1 rfl (lv_room (Nat.le_of_ble_eq_true rfl)) dX2_readOrder_91 ⟨Nat.zero_le _, Nat.zero_le _⟩) (fun H locs hH => ?_)
      obtain ⟨g6, h⟩ := mm_grd h
      exact mm_iret C hH hr hlk (mm_narZ g6) h dX2_readOrder_94
    have h := mm_neg c9 h
    refine lv_lookup (off := 119) (tgt := 149) hx hb dX2_readOrder_30 (by decide) ((lv_osw c2 (by decide)).trans ((lv_osw c3 (by decide)).trans ((lv_osw c4 (by decide)).trans ((lv_osw c5 (by decide)).trans ((lv_osw c9 (by decide)).trans (rfl)))))) (by decide) ?_
    have hl := lv_sub (l' := []) hl [] rfl
    refine lv_iconst (v := 0) hx hb dX2_readOrder_149 (by decide) ?_
    exact mm_iret C hH hr hlk rfl h dX2_readOrder_150
  · have h := mm_neg c1 h
    have hl := lv_sub (l' := []) hl [] rfl
    refine lv_iconst (v := 0) hx hb dX2_readOrder_11 (by decide) ?_
    exact mm_iret C hH hr hlk rfl h dX2_readOrder_12
def fn_X2_findFault_6 : Nat → Int32 → mm_M → Option (mm_M × Int32)
  | 0, _, _ => none
  | n + 1, i1, x => if (80 : Int32) ≤ i1 then some (x, (x 19 2)) else mm_b2 (fn_X2_readOrder x) fun x1 v1 => if v1 = 0 then some (x1, (x1 19 2)) else mm_b2 (fn_X2_readSign 59 x1) fun x2 v2 => if v2 = 0 then if (x2 19 2) = (x2 19 1) then some (x2, (-6)) else some (x2, (x2 19 2)) else (some (i1 + 1)).bind fun v3 => fn_X2_findFault_6 n  v3 x2
def fn_X2_findFault  (x : mm_M) : Option (mm_M × Int32) :=
  (fn_X2_startReading x).bind fun x1 => fn_X2_findFault_6 81 0 x1
abbrev rm_X2_findFault : Room := { frames := 3, cells := 0, slots := 0, locals := 61 }
theorem df_X2_findFault : yX2_findFault.cls = RX2 ∧ yX2_findFault.cls ≠ "java/lang/invoke/MethodHandle" ∧ yX2_findFault.cls ≠ "java/lang/invoke/VarHandle" ∧ (parseMethodDescriptor yX2_findFault.desc).map (fun d => d.parameters.length) = some 0 := by decide +kernel
set_option maxRecDepth 100000 in
set_option maxHeartbeats 4000000 in
theorem lp_X2_findFault_6 {p : Program} {l : Launch} {e : Env} {s : State} {m : MethodId} {args : Array Value} {below : List Frame} {meth : Method} {c : Code} {G : va_G} {T : Nat → ClassId} {b : Nat} {z : Nat → Nat} (C : mm_C p m c cX2_findFault 2 s args wsX2_findFault RX2 G T b z)  (hr : meth.sig.returnType = (some .int)) (hlk : meth.locks = false) : ∀ (n : Nat) (i1 : Int32) (x : mm_M) (H : Heap) (locs : List Loc) (ls : Array Slot) (x1 : mm_M) (r : Int32), fn_X2_findFault_6 n i1 x = some (x1, r) → mm_H G T b x s H locs → lv_has ls 2 [(0, .ref (b + 19)), (1, .int i1)] → W p l e rm_X2_findFault s m args below meth c H locs 0 0 (MQ below (mm_Qi G T b r x1) args s 0 0 (fun q => b ≤ q)) (F0 m 6 ls []) := by
  have hx := C.1
  have hb := C.2.1
  have w1 := C.2.2.2.2.1 (.fieldLink RX2 19 "LandingFines$Pad" "place" "I") (by decide +kernel)
  have w2 := C.2.2.2.2.1 (.fieldLink RX2 15 "LandingFines$Pad" "length" "I") (by decide +kernel)
  have hin2 : ∀ w ∈ wsX20, w ∈ wsX2_findFault := by decide +kernel
  intro n
  induction n with
  | zero => intro _ _ _ _ _ _ _ h; cases (show (none : Option (mm_M × Int32)) = some _ from h)
  | succ n ih =>
    intro i1 x H locs ls x1 r h hH hl
    rw [fn_X2_findFault_6] at h
    refine lv_iload_n hx hb dX2_findFault_6 rfl (lv_at hl 1 rfl) ?_
    refine lv_bipush (v := 80) hx hb dX2_findFault_7 (by decide) ?_
    refine lv_icmp_ge (tgt := 55) hx hb dX2_findFault_9 (by decide) (fun c1 => ?_) (fun c1 => ?_)
    · have h := mm_pos c1 h
      have hl := lv_sub (l' := [(0, .ref (b + 19))]) hl [0] rfl
      refine lv_aload_n hx hb dX2_findFault_55 rfl (lv_at hl 0 rfl) ?_
      refine mm_get (v := .int (x 19 2)) C hH hin2 rfl kl_19 (mm_e2 kd_19) (j := 2) (by decide) rfl w1 rfl dX2_findFault_56 ?_
      exact mm_iret C hH hr hlk rfl h dX2_findFault_59
    · have h := mm_neg c1 h
      refine lv_aload_n hx hb dX2_findFault_12 rfl (lv_at hl 0 rfl) ?_
      obtain ⟨x1, v1, e1, h⟩ := mm_bnd2 h
      refine mm_goi hH (va_runV (As := []) (rest := []) ⟨hx, hb, C.2.2.1, C.2.2.2.1, C.2.2.2.2.1⟩ (ct_X2_readOrder l G T b z x e1) (cwV 0 C.2.2.2.2.1 gX2_findFault_X2_readOrder rfl rfl rfl df_X2_readOrder ⟨Nat.le_of_ble_eq_true rfl, Nat.le_of_ble_eq_true rfl⟩) ⟨mm_B.blind, mm_recv (q := (RX2, TX2, 6)) C hH kl_19 (mm_e2 kd_19) rfl, mm_pre C hH⟩ rfl rfl hl.1 rfl (lv_room (Nat.le_of_ble_eq_true rfl)) dX2_findFault_13 ⟨Nat.zero_le _, Nat.zero_le _⟩) (fun H locs hH => ?_)
      refine lv_if_eq (tgt := 55) hx hb dX2_findFault_16 (by decide) (fun c2 => ?_) (fun c2 => ?_)
      · have h := mm_pos c2 h
        have hl := lv_sub (l' := [(0, .ref (b + 19))]) hl [0] rfl
        refine lv_aload_n hx hb dX2_findFault_55 rfl (lv_at hl 0 rfl) ?_
        refine mm_get (v := .int (x1 19 2)) C hH hin2 rfl kl_19 (mm_e2 kd_19) (j := 2) (by decide) rfl w1 rfl dX2_findFault_56 ?_
        exact mm_iret C hH hr hlk rfl h dX2_findFault_59
      · have h := mm_neg c2 h
        refine lv_aload_n hx hb dX2_findFault_19 rfl (lv_at hl 0 rfl) ?_
        refine lv_bipush (v := 59) hx hb dX2_findFault_20 (by decide) ?_
        obtain ⟨x2, v2, e2, h⟩ := mm_bnd2 h
        refine mm_goi hH (va_runV (As := [.int 59]) (rest := []) ⟨hx, hb, C.2.2.1, C.2.2.2.1, C.2.2.2.2.1⟩ (ct_X2_readSign l G T b z 59 x1 e2) (cwV 1 C.2.2.2.2.1 gX2_findFault_X2_readSign rfl rfl rfl df_X2_readSign ⟨Nat.le_of_ble_eq_true rfl, Nat.le_of_ble_eq_true rfl⟩) ⟨mm_B.blind, mm_recv (q := (RX2, TX2, 6)) C hH kl_19 (mm_e2 kd_19) rfl, mm_pre C hH⟩ rfl rfl hl.1 rfl (lv_room (Nat.le_of_ble_eq_true rfl)) dX2_findFault_22 ⟨Nat.zero_le _, Nat.zero_le _⟩) (fun H locs hH => ?_)
        refine lv_if_ne (tgt := 49) hx hb dX2_findFault_25 (by decide) (fun c3 => ?_) (fun c3 => ?_)
        · have h := mm_neg c3 h
          obtain ⟨v3, e3, h⟩ := mm_bnd h
          refine lv_iinc (v := v3) (lv' := [(1, .int v3), (0, .ref (b + 19))]) hx hb dX2_findFault_49 hl (k := 1) rfl (Option.some.inj e3) (by decide) rfl (fun ls hl => ?_)
          refine lv_goto (tgt := 6) hx hb dX2_findFault_52 (by decide) ?_
          exact ih v3 x2 _ _ _ _ _ h hH (lv_sub hl [1, 0] rfl)
        · have h := mm_pos c3 h
          have hl := lv_sub (l' := [(0, .ref (b + 19))]) hl [0] rfl
          refine lv_aload_n hx hb dX2_findFault_28 rfl (lv_at hl 0 rfl) ?_
          refine mm_get (v := .int (x2 19 2)) C hH hin2 rfl kl_19 (mm_e2 kd_19) (j := 2) (by decide) rfl w1 rfl dX2_findFault_29 ?_
          refine lv_aload_n hx hb dX2_findFault_32 rfl (lv_at hl 0 rfl) ?_
          refine mm_get (v := .int (x2 19 1)) C hH hin2 rfl kl_19 (mm_e2 kd_19) (j := 1) (by decide) rfl w2 rfl dX2_findFault_33 ?_
          refine lv_icmp_ne (tgt := 44) hx hb dX2_findFault_36 (by decide) (fun c4 => ?_) (fun c4 => ?_)
          · have h := mm_neg c4 h
            refine lv_aload_n hx hb dX2_findFault_44 rfl (lv_at hl 0 rfl) ?_
            refine mm_get (v := .int (x2 19 2)) C hH hin2 rfl kl_19 (mm_e2 kd_19) (j := 2) (by decide) rfl w1 rfl dX2_findFault_45 ?_
            exact mm_iret C hH hr hlk rfl h dX2_findFault_48
          · have h := mm_pos c4 h
            have hl := lv_sub (l' := []) hl [] rfl
            refine lv_bipush (v := (-6)) hx hb dX2_findFault_39 (by decide) ?_
            refine lv_goto (tgt := 48) hx hb dX2_findFault_41 (by decide) ?_
            exact mm_iret C hH hr hlk rfl h dX2_findFault_48
set_option maxRecDepth 100000 in
set_option maxHeartbeats 4000000 in
theorem ct_X2_findFault (l : Launch) (G : va_G) (T : Nat → ClassId) (b : Nat) (z : Nat → Nat)  (x : mm_M) {x1 : mm_M} {r : Int32} (h : fn_X2_findFault  x = some (x1, r)) : mm_Ci l yX2_findFault wsX2_findFault rm_X2_findFault G T b z [.ref (b + 19)] x r x1 := by
  unfold fn_X2_findFault at h
  refine mm_start (cc := cX2_findFault) (maxL := 2) (ret := (some .int)) (by decide) rfl (Nat.le_of_ble_eq_true rfl) (fun p e s m below meth c ls C hr hlk hH hl => ?_)
  have hl : lv_has ls 2 [(0, .ref (b + 19))] := hl
  have hx := C.1
  have hb := C.2.1
  refine lv_aload_n hx hb dX2_findFault_0 rfl (lv_at hl 0 rfl) ?_
  obtain ⟨x1, e1, h⟩ := mm_bnd h
  refine mm_gov hH (va_runV (As := []) (rest := []) ⟨hx, hb, C.2.2.1, C.2.2.2.1, C.2.2.2.2.1⟩ (ct_X2_startReading l G T b z x e1) (cwV 0 C.2.2.2.2.1 gX2_findFault_X2_startReading rfl rfl rfl df_X2_startReading ⟨Nat.le_of_ble_eq_true rfl, Nat.le_of_ble_eq_true rfl⟩) ⟨mm_B.blind, mm_recv (q := (RX2, TX2, 6)) C hH kl_19 (mm_e2 kd_19) rfl, mm_pre C hH⟩ rfl rfl hl.1 rfl (lv_room (Nat.le_of_ble_eq_true rfl)) dX2_findFault_1 ⟨Nat.zero_le _, Nat.zero_le _⟩) (fun H locs hH => ?_)
  refine lv_iconst (v := 0) hx hb dX2_findFault_4 (by decide) ?_
  refine lv_istore_n (lv' := [(1, .int 0), (0, .ref (b + 19))]) hx hb dX2_findFault_5 rfl hl (by decide) rfl (fun ls hl => ?_)
  exact lp_X2_findFault_6 C   hr hlk 81 0 x1 _ _ _ _ _ h hH (lv_sub hl [1, 0] rfl)
