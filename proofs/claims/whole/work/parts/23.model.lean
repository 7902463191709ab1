def fn_X5_put_92 : Nat → Int32 → mm_M → Option mm_M
  | 0, _, _ => none
  | n + 1, i6, x => if i6 < 0 then some (x) else if i6 < 0 ∨ 8 ≤ Int32.toNatClampNeg i6 then none else if (x 157 7) < 0 ∨ 80 ≤ Int32.toNatClampNeg (x 157 7) then none else (some (mm_up x 163 (Int32.toNatClampNeg (x 157 7)) (x 164 (Int32.toNatClampNeg i6)))).bind fun x1 => (some (mm_up x1 157 7 ((x1 157 7) + 1))).bind fun x2 => (some (i6 + (-1))).bind fun v1 => fn_X5_put_92 n  v1 x2
def fn_X5_put_5 : Nat → Int64 → Int32 → mm_M → Option (mm_M × Int32)
  | 0, _, _, _ => none
  | n + 1, i3, i5, x => if (lg_cmp i3 0) = 0 then if i5 = 0 then some (x, (-2)) else if ((x 157 7) + i5) ≤ 80 then (some ((i5 - 1) : Int32)).bind fun v1 => (fn_X5_put_92 9 v1 x).bind fun x1 => some (x1, (x1 157 7)) else some (x, (-4)) else if (8 : Int32) ≤ i5 then if i5 = 0 then some (x, (-2)) else if ((x 157 7) + i5) ≤ 80 then (some ((i5 - 1) : Int32)).bind fun v2 => (fn_X5_put_92 9 v2 x).bind fun x2 => some (x2, (x2 157 7)) else some (x, (-4)) else if i5 < 0 ∨ 8 ≤ Int32.toNatClampNeg i5 then none else (some (mm_up x 164 (Int32.toNatClampNeg i5) (Int64.toInt32 (i3 &&& 255)))).bind fun x3 => if i5 < 0 ∨ 8 ≤ Int32.toNatClampNeg i5 then none else (fn_X5_in (Int32.toInt64 (x3 164 (Int32.toNatClampNeg i5))) 33 126 x3).bind fun v3 => if v3 = 0 then some (x3, (-2)) else (some (((Int64.toUInt64 i3 >>> (Int64.toUInt64 (Int32.toInt64 (8 : Int32)) &&& Int64.toUInt64 63)).toInt64) : Int64)).bind fun u1 => (some (i5 + 1)).bind fun v4 => fn_X5_put_5 n  u1 v4 x3
def fn_X5_put (a1 : Int64) (x : mm_M) : Option (mm_M × Int32) :=
  fn_X5_put_5 9 a1 0 x
abbrev rm_X5_put : Room := { frames := 1, cells := 0, slots := 0, locals := 23 }
theorem df_X5_put : yX5_put.cls = RX5 ∧ yX5_put.cls ≠ "java/lang/invoke/MethodHandle" ∧ yX5_put.cls ≠ "java/lang/invoke/VarHandle" ∧ (parseMethodDescriptor yX5_put.desc).map (fun d => d.parameters.length) = some 1 := by decide +kernel
set_option maxRecDepth 100000 in
set_option maxHeartbeats 4000000 in
theorem lp_X5_put_92 {p : Program} {l : Launch} {e : Env} {s : State} {m : MethodId} {args : Array Value} {below : List Frame} {meth : Method} {c : Code} {Q : State → Prop} {G : va_G} {T : Nat → ClassId} {b : Nat} {z : Nat → Nat} (C : mm_C p m c cX5_put 7 s args wsX5_put RX5 G T b z)  : ∀ (n : Nat) (i6 : Int32) (x : mm_M) (H : Heap) (locs : List Loc) (ls : Array Slot) (x1 : mm_M), fn_X5_put_92 n i6 x = some (x1) → mm_H G T b x s H locs → lv_has ls 7 [(0, .ref (b + 157)), (6, .int i6)] → (∀ (H1 : Heap) (locs1 : List Loc) (ls1 : Array Slot), mm_H G T b x1 s H1 locs1 → lv_has ls1 7 [(0, .ref (b + 157))] → W p l e rm_X5_put s m args below meth c H1 locs1 0 0 Q (F0 m 129 ls1 [])) → W p l e rm_X5_put s m args below meth c H locs 0 0 Q (F0 m 92 ls []) := by
  have hx := C.1
  have hb := C.2.1
  have w1 := C.2.2.2.2.1 (.fieldLink RX5 26 "LandingFinesModel" "pad" "[I") (by decide +kernel)
  have w2 := C.2.2.2.2.1 (.fieldLink RX5 114 "LandingFinesModel" "length" "I") (by decide +kernel)
  have w3 := C.2.2.2.2.1 (.fieldLink RX5 29 "LandingFinesModel" "codes" "[I") (by decide +kernel)
  have hin5 : ∀ w ∈ wsX50, w ∈ wsX5_put := by decide +kernel
  intro n
  induction n with
  | zero => intro _ _ _ _ _ _ h; cases (show (none : Option mm_M) = some _ from h)
  | succ n ih =>
    intro i6 x H locs ls x1 h hH hl kk
    rw [fn_X5_put_92] at h
    refine lv_iload hx hb dX5_put_92 (lv_at hl 1 rfl) ?_
    refine lv_if_lt (tgt := 129) hx hb dX5_put_94 (by decide) (fun c1 => ?_) (fun c1 => ?_)
    · have h := mm_pos c1 h
      have hl := lv_sub (l' := [(0, .ref (b + 157))]) hl [0] rfl
      cases h
      exact kk _ _ _ hH (lv_sub hl [0] rfl)
    · have h := mm_neg c1 h
      refine lv_aload_n hx hb dX5_put_97 rfl (lv_at hl 0 rfl) ?_
      refine mm_get (v := .ref (b + 163)) C hH hin5 rfl kl_157 (mm_e5 kd_157) (j := 6) (by decide) rfl w1 rfl dX5_put_98 ?_
      refine lv_aload_n hx hb dX5_put_101 rfl (lv_at hl 0 rfl) ?_
      refine mm_get (v := .int (x 157 7)) C hH hin5 rfl kl_157 (mm_e5 kd_157) (j := 7) (by decide) rfl w2 rfl dX5_put_102 ?_
      refine lv_aload_n hx hb dX5_put_105 rfl (lv_at hl 0 rfl) ?_
      refine mm_get (v := .ref (b + 164)) C hH hin5 rfl kl_157 (mm_e5 kd_157) (j := 9) (by decide) rfl w3 rfl dX5_put_106 ?_
      refine lv_iload hx hb dX5_put_109 (lv_at hl 1 rfl) ?_
      obtain ⟨g1, h⟩ := mm_grn h
      refine mm_iald (n := 8) (jn := (Int32.toNatClampNeg i6)) C hH kd_164 ln_164 g1 rfl dX5_put_111 ?_
      obtain ⟨g2, h⟩ := mm_grn h
      obtain ⟨x1, e1, h⟩ := mm_bnd h
      refine mm_iast (n := 80) (jn := (Int32.toNatClampNeg (x 157 7))) C hH kd_163 ln_163 g2 rfl (Option.some.inj e1) dX5_put_112 (fun H locs hH => ?_)
      refine lv_aload_n hx hb dX5_put_113 rfl (lv_at hl 0 rfl) ?_
      refine lv_dup hx hb dX5_put_114 rfl ?_
      refine mm_get (v := .int (x1 157 7)) C hH hin5 rfl kl_157 (mm_e5 kd_157) (j := 7) (by decide) rfl w2 rfl dX5_put_115 ?_
      refine lv_iconst (v := 1) hx hb dX5_put_118 (by decide) ?_
      refine lv_iadd hx hb dX5_put_119 ?_
      obtain ⟨x2, e2, h⟩ := mm_bnd h
      refine mm_put (ty := .int) C hH hin5 tyX5_ok nmX5 rfl kl_157 (mm_e5 kd_157) (j := 7) (by decide) rfl w2 pd_I rfl rfl (Nat.le_of_ble_eq_true rfl) (sp_5_7 kd_157) (Option.some.inj e2) dX5_put_120 (fun H locs hH => ?_)
      obtain ⟨v1, e3, h⟩ := mm_bnd h
      refine lv_iinc (v := v1) (lv' := [(6, .int v1), (0, .ref (b + 157))]) hx hb dX5_put_123 hl (k := 1) rfl (Option.some.inj e3) (by decide) rfl (fun ls hl => ?_)
      refine lv_goto (tgt := 92) hx hb dX5_put_126 (by decide) ?_
      exact ih v1 x2 _ _ _ _ h hH (lv_sub hl [1, 0] rfl) kk
set_option maxRecDepth 100000 in
set_option maxHeartbeats 4000000 in
theorem lp_X5_put_5 {p : Program} {l : Launch} {e : Env} {s : State} {m : MethodId} {args : Array Value} {below : List Frame} {meth : Method} {c : Code} {G : va_G} {T : Nat → ClassId} {b : Nat} {z : Nat → Nat} (C : mm_C p m c cX5_put 7 s args wsX5_put RX5 G T b z)  (hr : meth.sig.returnType = (some .int)) (hlk : meth.locks = false) : ∀ (n : Nat) (i3 : Int64) (i5 : Int32) (x : mm_M) (H : Heap) (locs : List Loc) (ls : Array Slot) (x1 : mm_M) (r : Int32), fn_X5_put_5 n i3 i5 x = some (x1, r) → mm_H G T b x s H locs → lv_has ls 7 [(0, .ref (b + 157)), (3, .long i3), (5, .int i5)] → W p l e rm_X5_put s m args below meth c H locs 0 0 (MQ below (mm_Qi G T b r x1) args s 0 0 (fun q => b ≤ q)) (F0 m 5 ls []) := by
  have hx := C.1
  have hb := C.2.1
  have w1 := C.2.2.2.2.1 (.fieldLink RX5 114 "LandingFinesModel" "length" "I") (by decide +kernel)
  have w2 := C.2.2.2.2.1 (.fieldLink RX5 29 "LandingFinesModel" "codes" "[I") (by decide +kernel)
  have w3 := C.2.2.2.2.1 (.constantLong RX5 123 (255)) (by decide +kernel)
  have hin5 : ∀ w ∈ wsX50, w ∈ wsX5_put := by decide +kernel
  intro n
  induction n with
  | zero => intro _ _ _ _ _ _ _ _ h; cases (show (none : Option (mm_M × Int32)) = some _ from h)
  | succ n ih =>
    intro i3 i5 x H locs ls x1 r h hH hl
    rw [fn_X5_put_5] at h
    refine lv_lload_n hx hb dX5_put_5 rfl (lv_at hl 1 rfl) ?_
    refine lv_lconst (v := 0) hx hb dX5_put_6 (by decide) ?_
    refine W.lcmp hx hb dX5_put_7 ?_
    refine lv_if_eq (tgt := 63) hx hb dX5_put_8 (by decide) (fun c1 => ?_) (fun c1 => ?_)
    · have h := mm_pos c1 h
      have hl := lv_sub (l' := [(0, .ref (b + 157)), (5, .int i5)]) hl [0, 2] rfl
      refine lv_iload hx hb dX5_put_63 (lv_at hl 1 rfl) ?_
      refine lv_if_ne (tgt := 71) hx hb dX5_put_65 (by decide) (fun c2 => ?_) (fun c2 => ?_)
      · have h := mm_neg c2 h
        refine lv_aload_n hx hb dX5_put_71 rfl (lv_at hl 0 rfl) ?_
        refine mm_get (v := .int (x 157 7)) C hH hin5 rfl kl_157 (mm_e5 kd_157) (j := 7) (by decide) rfl w1 rfl dX5_put_72 ?_
        refine lv_iload hx hb dX5_put_75 (lv_at hl 1 rfl) ?_
        refine lv_iadd hx hb dX5_put_77 ?_
        refine lv_bipush (v := 80) hx hb dX5_put_78 (by decide) ?_
        refine lv_icmp_le (tgt := 86) hx hb dX5_put_80 (by decide) (fun c3 => ?_) (fun c3 => ?_)
        · have h := mm_pos c3 h
          refine lv_iload hx hb dX5_put_86 (lv_at hl 1 rfl) ?_
          refine lv_iconst (v := 1) hx hb dX5_put_88 (by decide) ?_
          refine lv_isub hx hb dX5_put_89 ?_
          obtain ⟨v1, e1, h⟩ := mm_bnd h
          refine mm_nmi e1 ?_
          refine lv_istore (lv' := [(6, .int v1), (0, .ref (b + 157)), (5, .int i5)]) hx hb dX5_put_90 hl (by decide) rfl (fun ls hl => ?_)
          have hl := lv_sub (l' := [(6, .int v1), (0, .ref (b + 157))]) hl [0, 1] rfl
          obtain ⟨x1, e2, h⟩ := mm_bnd h
          refine lp_X5_put_92 C 9 v1 x _ _ _ _ e2 hH (lv_sub hl [1, 0] rfl) (fun H locs ls hH hl => ?_)
          refine lv_aload_n hx hb dX5_put_129 rfl (lv_at hl 0 rfl) ?_
          refine mm_get (v := .int (x1 157 7)) C hH hin5 rfl kl_157 (mm_e5 kd_157) (j := 7) (by decide) rfl w1 rfl dX5_put_130 ?_
          exact mm_iret C hH hr hlk rfl h dX5_put_133
        · have h := mm_neg c3 h
          have hl := lv_sub (l' := []) hl [] rfl
          refine lv_bipush (v := (-4)) hx hb dX5_put_83 (by decide) ?_
          exact mm_iret C hH hr hlk rfl h dX5_put_85
      · have h := mm_pos c2 h
        have hl := lv_sub (l' := []) hl [] rfl
        refine lv_bipush (v := (-2)) hx hb dX5_put_68 (by decide) ?_
        exact mm_iret C hH hr hlk rfl h dX5_put_70
    · have h := mm_neg c1 h
      refine lv_iload hx hb dX5_put_11 (lv_at hl 2 rfl) ?_
      refine lv_bipush (v := 8) hx hb dX5_put_13 (by decide) ?_
      refine lv_icmp_ge (tgt := 63) hx hb dX5_put_15 (by decide) (fun c4 => ?_) (fun c4 => ?_)
      · have h := mm_pos c4 h
        have hl := lv_sub (l' := [(0, .ref (b + 157)), (5, .int i5)]) hl [0, 2] rfl
        refine lv_iload hx hb dX5_put_63 (lv_at hl 1 rfl) ?_
        refine lv_if_ne (tgt := 71) hx hb dX5_put_65 (by decide) (fun c5 => ?_) (fun c5 => ?_)
        · have h := mm_neg c5 h
          refine lv_aload_n hx hb dX5_put_71 rfl (lv_at hl 0 rfl) ?_
          refine mm_get (v := .int (x 157 7)) C hH hin5 rfl kl_157 (mm_e5 kd_157) (j := 7) (by decide) rfl w1 rfl dX5_put_72 ?_
          refine lv_iload hx hb dX5_put_75 (lv_at hl 1 rfl) ?_
          refine lv_iadd hx hb dX5_put_77 ?_
          refine lv_bipush (v := 80) hx hb dX5_put_78 (by decide) ?_
          refine lv_icmp_le (tgt := 86) hx hb dX5_put_80 (by decide) (fun c6 => ?_) (fun c6 => ?_)
          · have h := mm_pos c6 h
            refine lv_iload hx hb dX5_put_86 (lv_at hl 1 rfl) ?_
            refine lv_iconst (v := 1) hx hb dX5_put_88 (by decide) ?_
            refine lv_isub hx hb dX5_put_89 ?_
            obtain ⟨v2, e3, h⟩ := mm_bnd h
            refine mm_nmi e3 ?_
            refine lv_istore (lv' := [(6, .int v2), (0, .ref (b + 157)), (5, .int i5)]) hx hb dX5_put_90 hl (by decide) rfl (fun ls hl => ?_)
            have hl := lv_sub (l' := [(6, .int v2), (0, .ref (b + 157))]) hl [0, 1] rfl
            obtain ⟨x2, e4, h⟩ := mm_bnd h
            refine lp_X5_put_92 C 9 v2 x _ _ _ _ e4 hH (lv_sub hl [1, 0] rfl) (fun H locs ls hH hl => ?_)
            refine lv_aload_n hx hb dX5_put_129 rfl (lv_at hl 0 rfl) ?_
            refine mm_get (v := .int (x2 157 7)) C hH hin5 rfl kl_157 (mm_e5 kd_157) (j := 7) (by decide) rfl w1 rfl dX5_put_130 ?_
            exact mm_iret C hH hr hlk rfl h dX5_put_133
          · have h := mm_neg c6 h
            have hl := lv_sub (l' := []) hl [] rfl
            refine lv_bipush (v := (-4)) hx hb dX5_put_83 (by decide) ?_
            exact mm_iret C hH hr hlk rfl h dX5_put_85
        · have h := mm_pos c5 h
          have hl := lv_sub (l' := []) hl [] rfl
          refine lv_bipush (v := (-2)) hx hb dX5_put_68 (by decide) ?_
          exact mm_iret C hH hr hlk rfl h dX5_put_70
      · have h := mm_neg c4 h
        refine lv_aload_n hx hb dX5_put_18 rfl (lv_at hl 0 rfl) ?_
        refine mm_get (v := .ref (b + 164)) C hH hin5 rfl kl_157 (mm_e5 kd_157) (j := 9) (by decide) rfl w2 rfl dX5_put_19 ?_
        refine lv_iload hx hb dX5_put_22 (lv_at hl 2 rfl) ?_
        refine lv_lload_n hx hb dX5_put_24 rfl (lv_at hl 1 rfl) ?_
        refine lv_ldc2 (own := RX5) (v := 255) hx hb C.2.2.2.1 w3 dX5_put_25 ?_
        refine lv_land hx hb dX5_put_28 ?_
        refine lv_l2i (v := (Int64.toInt32 (i3 &&& 255))) hx hb dX5_put_29 rfl ?_
        obtain ⟨g1, h⟩ := mm_grn h
        obtain ⟨x3, e5, h⟩ := mm_bnd h
        refine mm_iast (n := 8) (jn := (Int32.toNatClampNeg i5)) C hH kd_164 ln_164 g1 rfl (Option.some.inj e5) dX5_put_30 (fun H locs hH => ?_)
        refine lv_aload_n hx hb dX5_put_31 rfl (lv_at hl 0 rfl) ?_
        refine mm_get (v := .ref (b + 164)) C hH hin5 rfl kl_157 (mm_e5 kd_157) (j := 9) (by decide) rfl w2 rfl dX5_put_32 ?_
        refine lv_iload hx hb dX5_put_35 (lv_at hl 2 rfl) ?_
        obtain ⟨g2, h⟩ := mm_grn h
        refine mm_iald (n := 8) (jn := (Int32.toNatClampNeg i5)) C hH kd_164 ln_164 g2 rfl dX5_put_37 ?_
        refine lv_i2l (v := (Int32.toInt64 (x3 164 (Int32.toNatClampNeg i5)))) hx hb dX5_put_38 rfl ?_
        refine lv_bipush (v := 33) hx hb dX5_put_39 (by decide) ?_
        refine lv_bipush (v := 126) hx hb dX5_put_41 (by decide) ?_
        obtain ⟨v3, e6, h⟩ := mm_bnd h
        refine mm_goi hH (va_runS (As := [.long (Int32.toInt64 (x3 164 (Int32.toNatClampNeg i5))), .int 33, .int 126]) (rest := []) ⟨hx, hb, C.2.2.1, C.2.2.2.1, C.2.2.2.2.1⟩ (ct_X5_in l G T b z (Int32.toInt64 (x3 164 (Int32.toNatClampNeg i5))) 33 126 x3 e6) (va_cwS 3 C.2.2.2.2.1 gX5_put_X5_in rfl rfl rfl df_X5_in.2 ⟨Nat.le_of_ble_eq_true rfl, Nat.le_of_ble_eq_true rfl⟩) ⟨mm_B.blind, mm_pre C hH⟩ rfl rfl hl.1 rfl (lv_room (Nat.le_of_ble_eq_true rfl)) dX5_put_43 ⟨Nat.zero_le _, Nat.zero_le _⟩) (fun H locs hH => ?_)
        refine lv_if_ne (tgt := 52) hx hb dX5_put_46 (by decide) (fun c7 => ?_) (fun c7 => ?_)
        · have h := mm_neg c7 h
          refine lv_lload_n hx hb dX5_put_52 rfl (lv_at hl 1 rfl) ?_
          refine lv_bipush (v := 8) hx hb dX5_put_53 (by decide) ?_
          refine lv_lushr (v := ((Int64.toUInt64 i3 >>> (Int64.toUInt64 (Int32.toInt64 (8 : Int32)) &&& Int64.toUInt64 63)).toInt64)) hx hb dX5_put_55 rfl ?_
          obtain ⟨u1, e7, h⟩ := mm_bnd h
          refine mm_nml e7 ?_
          refine lv_lstore_n (lv' := [(3, .long u1), (0, .ref (b + 157)), (5, .int i5)]) hx hb dX5_put_56 rfl hl (by decide) rfl (fun ls hl => ?_)
          obtain ⟨v4, e8, h⟩ := mm_bnd h
          refine lv_iinc (v := v4) (lv' := [(5, .int v4), (3, .long u1), (0, .ref (b + 157))]) hx hb dX5_put_57 hl (k := 2) rfl (Option.some.inj e8) (by decide) rfl (fun ls hl => ?_)
          refine lv_goto (tgt := 5) hx hb dX5_put_60 (by decide) ?_
          exact ih u1 v4 x3 _ _ _ _ _ h hH (lv_sub hl [2, 1, 0] rfl)
        · have h := mm_pos c7 h
          have hl := lv_sub (l' := []) hl [] rfl
          refine lv_bipush (v := (-2)) hx hb dX5_put_49 (by decide) ?_
          exact mm_iret C hH hr hlk rfl h dX5_put_51
set_option maxRecDepth 100000 in
set_option maxHeartbeats 4000000 in
theorem ct_X5_put (l : Launch) (G : va_G) (T : Nat → ClassId) (b : Nat) (z : Nat → Nat) (a1 : Int64) (x : mm_M) {x1 : mm_M} {r : Int32} (h : fn_X5_put a1 x = some (x1, r)) : mm_Ci l yX5_put wsX5_put rm_X5_put G T b z [.ref (b + 157), .long a1] x r x1 := by
  unfold fn_X5_put at h
  refine mm_start (cc := cX5_put) (maxL := 7) (ret := (some .int)) (by decide) rfl (Nat.le_of_ble_eq_true rfl) (fun p e s m below meth c ls C hr hlk hH hl => ?_)
  have hl : lv_has ls 7 [(0, .ref (b + 157)), (1, .long a1)] := hl
  have hx := C.1
  have hb := C.2.1
  refine lv_lload_n hx hb dX5_put_0 rfl (lv_at hl 1 rfl) ?_
  refine lv_lstore_n (lv' := [(3, .long a1), (0, .ref (b + 157)), (1, .long a1)]) hx hb dX5_put_1 rfl hl (by decide) rfl (fun ls hl => ?_)
  have hl := lv_sub (l' := [(3, .long a1), (0, .ref (b + 157))]) hl [0, 1] rfl
  refine lv_iconst (v := 0) hx hb dX5_put_2 (by decide) ?_
  refine lv_istore (lv' := [(5, .int 0), (3, .long a1), (0, .ref (b + 157))]) hx hb dX5_put_3 hl (by decide) rfl (fun ls hl => ?_)
  exact lp_X5_put_5 C   hr hlk 9 a1 0 x _ _ _ _ _ h hH (lv_sub hl [2, 1, 0] rfl)
def fn_X5_wipe  (x : mm_M) : Option (mm_M × Int32) :=
  (some ((x 157 7) : Int32)).bind fun v1 => (some (mm_up x 157 7 0)).bind fun x1 => some (x1, v1)
abbrev rm_X5_wipe : Room := { frames := 0, cells := 0, slots := 0, locals := 0 }
theorem df_X5_wipe : yX5_wipe.cls = RX5 ∧ yX5_wipe.cls ≠ "java/lang/invoke/MethodHandle" ∧ yX5_wipe.cls ≠ "java/lang/invoke/VarHandle" ∧ (parseMethodDescriptor yX5_wipe.desc).map (fun d => d.parameters.length) = some 0 := by decide +kernel
set_option maxRecDepth 100000 in
set_option maxHeartbeats 4000000 in
theorem ct_X5_wipe (l : Launch) (G : va_G) (T : Nat → ClassId) (b : Nat) (z : Nat → Nat)  (x : mm_M) {x1 : mm_M} {r : Int32} (h : fn_X5_wipe  x = some (x1, r)) : mm_Ci l yX5_wipe wsX5_wipe rm_X5_wipe G T b z [.ref (b + 157)] x r x1 := by
  unfold fn_X5_wipe at h
  refine mm_start (cc := cX5_wipe) (maxL := 2) (ret := (some .int)) (by decide) rfl (Nat.le_of_ble_eq_true rfl) (fun p e s m below meth c ls C hr hlk hH hl => ?_)
  have hl : lv_has ls 2 [(0, .ref (b + 157))] := hl
  have hx := C.1
  have hb := C.2.1
  have w1 := C.2.2.2.2.1 (.fieldLink RX5 114 "LandingFinesModel" "length" "I") (by decide +kernel)
  have hin5 : ∀ w ∈ wsX50, w ∈ wsX5_wipe := by decide +kernel
  refine lv_aload_n hx hb dX5_wipe_0 rfl (lv_at hl 0 rfl) ?_
  refine mm_get (v := .int (x 157 7)) C hH hin5 rfl kl_157 (mm_e5 kd_157) (j := 7) (by decide) rfl w1 rfl dX5_wipe_1 ?_
  obtain ⟨v1, e1, h⟩ := mm_bnd h
  refine mm_nmi e1 ?_
  refine lv_istore_n (lv' := [(1, .int v1), (0, .ref (b + 157))]) hx hb dX5_wipe_4 rfl hl (by decide) rfl (fun ls hl => ?_)
  refine lv_aload_n hx hb dX5_wipe_5 rfl (lv_at hl 1 rfl) ?_
  refine lv_iconst (v := 0) hx hb dX5_wipe_6 (by decide) ?_
  obtain ⟨x1, e2, h⟩ := mm_bnd h
  refine mm_put (ty := .int) C hH hin5 tyX5_ok nmX5 rfl kl_157 (mm_e5 kd_157) (j := 7) (by decide) rfl w1 pd_I rfl rfl (Nat.le_of_ble_eq_true rfl) (sp_5_7 kd_157) (Option.some.inj e2) dX5_wipe_7 (fun H locs hH => ?_)
  refine lv_iload_n hx hb dX5_wipe_10 rfl (lv_at hl 0 rfl) ?_
  exact mm_iret C hH hr hlk rfl h dX5_wipe_11
def fn_X5_sees (a1 : Int32) (a2 : Int32) (x : mm_M) : Option Int32 :=
  if (x 157 7) ≤ (x 157 8) then some (0 : Int32) else if (x 157 8) < 0 ∨ 80 ≤ Int32.toNatClampNeg (x 157 8) then none else (fn_X5_in (Int32.toInt64 (x 163 (Int32.toNatClampNeg (x 157 8)))) a1 a2 x).bind fun v1 => if v1 = 0 then some (0 : Int32) else some (1 : Int32)
abbrev rm_X5_sees : Room := { frames := 1, cells := 0, slots := 0, locals := 23 }
theorem df_X5_sees : yX5_sees.cls = RX5 ∧ yX5_sees.cls ≠ "java/lang/invoke/MethodHandle" ∧ yX5_sees.cls ≠ "java/lang/invoke/VarHandle" ∧ (parseMethodDescriptor yX5_sees.desc).map (fun d => d.parameters.length) = some 2 := by decide +kernel
set_option maxRecDepth 100000 in
set_option maxHeartbeats 4000000 in
theorem ct_X5_sees (l : Launch) (G : va_G) (T : Nat → ClassId) (b : Nat) (z : Nat → Nat) (a1 : Int32) (a2 : Int32) (x : mm_M) {r : Int32} (h : fn_X5_sees a1 a2 x = some r) : mm_Ci l yX5_sees wsX5_sees rm_X5_sees G T b z [.ref (b + 157), .int a1, .int a2] x r x := by
  unfold fn_X5_sees at h
  refine mm_start (cc := cX5_sees) (maxL := 3) (ret := (some .boolean)) (by decide) rfl (Nat.le_of_ble_eq_true rfl) (fun p e s m below meth c ls C hr hlk hH hl => ?_)
  have hl : lv_has ls 3 [(0, .ref (b + 157)), (1, .int a1), (2, .int a2)] := hl
  have hx := C.1
  have hb := C.2.1
  have w1 := C.2.2.2.2.1 (.fieldLink RX5 125 "LandingFinesModel" "at" "I") (by decide +kernel)
  have w2 := C.2.2.2.2.1 (.fieldLink RX5 114 "LandingFinesModel" "length" "I") (by decide +kernel)
  have w3 := C.2.2.2.2.1 (.fieldLink RX5 26 "LandingFinesModel" "pad" "[I") (by decide +kernel)
  have hin5 : ∀ w ∈ wsX50, w ∈ wsX5_sees := by decide +kernel
  refine lv_aload_n hx hb dX5_sees_0 rfl (lv_at hl 0 rfl) ?_
  refine mm_get (v := .int (x 157 8)) C hH hin5 rfl kl_157 (mm_e5 kd_157) (j := 8) (by decide) rfl w1 rfl dX5_sees_1 ?_
  refine lv_aload_n hx hb dX5_sees_4 rfl (lv_at hl 0 rfl) ?_
  refine mm_get (v := .int (x 157 7)) C hH hin5 rfl kl_157 (mm_e5 kd_157) (j := 7) (by decide) rfl w2 rfl dX5_sees_5 ?_
  refine lv_icmp_ge (tgt := 33) hx hb dX5_sees_8 (by decide) (fun c1 => ?_) (fun c1 => ?_)
  · have h := mm_pos c1 h
    have hl := lv_sub (l' := []) hl [] rfl
    refine lv_iconst (v := 0) hx hb dX5_sees_33 (by decide) ?_
    exact mm_iretP C hH hr hlk rfl h dX5_sees_34
  · have h := mm_neg c1 h
    refine lv_aload_n hx hb dX5_sees_11 rfl (lv_at hl 0 rfl) ?_
    refine mm_get (v := .ref (b + 163)) C hH hin5 rfl kl_157 (mm_e5 kd_157) (j := 6) (by decide) rfl w3 rfl dX5_sees_12 ?_
    refine lv_aload_n hx hb dX5_sees_15 rfl (lv_at hl 0 rfl) ?_
    refine mm_get (v := .int (x 157 8)) C hH hin5 rfl kl_157 (mm_e5 kd_157) (j := 8) (by decide) rfl w1 rfl dX5_sees_16 ?_
    obtain ⟨g1, h⟩ := mm_grn h
    refine mm_iald (n := 80) (jn := (Int32.toNatClampNeg (x 157 8))) C hH kd_163 ln_163 g1 rfl dX5_sees_19 ?_
    refine lv_i2l (v := (Int32.toInt64 (x 163 (Int32.toNatClampNeg (x 157 8))))) hx hb dX5_sees_20 rfl ?_
    refine lv_iload_n hx hb dX5_sees_21 rfl (lv_at hl 1 rfl) ?_
    refine lv_iload_n hx hb dX5_sees_22 rfl (lv_at hl 2 rfl) ?_
    obtain ⟨v1, e1, h⟩ := mm_bnd h
    refine mm_goi hH (va_runS (As := [.long (Int32.toInt64 (x 163 (Int32.toNatClampNeg (x 157 8)))), .int a1, .int a2]) (rest := []) ⟨hx, hb, C.2.2.1, C.2.2.2.1, C.2.2.2.2.1⟩ (ct_X5_in l G T b z (Int32.toInt64 (x 163 (Int32.toNatClampNeg (x 157 8)))) a1 a2 x e1) (va_cwS 3 C.2.2.2.2.1 gX5_sees_X5_in rfl rfl rfl df_X5_in.2 ⟨Nat.le_of_ble_eq_true rfl, Nat.le_of_ble_eq_true rfl⟩) ⟨mm_B.blind, mm_pre C hH⟩ rfl rfl hl.1 rfl (lv_room (Nat.le_of_ble_eq_true rfl)) dX5_sees_23 ⟨Nat.zero_le _, Nat.zero_le _⟩) (fun H locs hH => ?_)
    refine lv_if_eq (tgt := 33) hx hb dX5_sees_26 (by decide) (fun c2 => ?_) (fun c2 => ?_)
    · have h := mm_pos c2 h
      have hl := lv_sub (l' := []) hl [] rfl
      refine lv_iconst (v := 0) hx hb dX5_sees_33 (by decide) ?_
      exact mm_iretP C hH hr hlk rfl h dX5_sees_34
    · have h := mm_neg c2 h
      have hl := lv_sub (l' := []) hl [] rfl
      refine lv_iconst (v := 1) hx hb dX5_sees_29 (by decide) ?_
      refine lv_goto (tgt := 34) hx hb dX5_sees_30 (by decide) ?_
      exact mm_iretP C hH hr hlk rfl h dX5_sees_34
def fn_X5_number_23 : Nat → Int32 → mm_M → Option (mm_M × Int32)
  | 0, _, _ => none
  | n + 1, i1, x => if i1 ≤ 0 then some (x, i1) else (fn_X5_sees 48 57 x).bind fun v1 => if v1 = 0 then some (x, i1) else if (x 157 8) < 0 ∨ 80 ≤ Int32.toNatClampNeg (x 157 8) then none else if (999 : Int32) < ((((10 : Int32) * i1) + (x 163 (Int32.toNatClampNeg (x 157 8)))) - 48) then some (x, i1) else if (x 157 8) < 0 ∨ 80 ≤ Int32.toNatClampNeg (x 157 8) then none else (some (((((10 : Int32) * i1) + (x 163 (Int32.toNatClampNeg (x 157 8)))) - 48) : Int32)).bind fun v2 => (some (mm_up x 157 8 ((x 157 8) + 1))).bind fun x1 => fn_X5_number_23 n  v2 x1
def fn_X5_number  (x : mm_M) : Option (mm_M × Int32) :=
  if (x 157 8) < 0 ∨ 80 ≤ Int32.toNatClampNeg (x 157 8) then none else (some (((x 163 (Int32.toNatClampNeg (x 157 8))) - 48) : Int32)).bind fun v1 => (some (mm_up x 157 8 ((x 157 8) + 1))).bind fun x1 => mm_b2 (fn_X5_number_23 5 v1 x1) fun x2 v2 => some (x2, v2)
abbrev rm_X5_number : Room := { frames := 2, cells := 0, slots := 0, locals := 45 }
theorem df_X5_number : yX5_number.cls = RX5 ∧ yX5_number.cls ≠ "java/lang/invoke/MethodHandle" ∧ yX5_number.cls ≠ "java/lang/invoke/VarHandle" ∧ (parseMethodDescriptor yX5_number.desc).map (fun d => d.parameters.length) = some 0 := by decide +kernel
set_option maxRecDepth 100000 in
set_option maxHeartbeats 4000000 in
theorem lp_X5_number_23 {p : Program} {l : Launch} {e : Env} {s : State} {m : MethodId} {args : Array Value} {below : List Frame} {meth : Method} {c : Code} {Q : State → Prop} {G : va_G} {T : Nat → ClassId} {b : Nat} {z : Nat → Nat} (C : mm_C p m c cX5_number 2 s args wsX5_number RX5 G T b z)  : ∀ (n : Nat) (i1 : Int32) (x : mm_M) (H : Heap) (locs : List Loc) (ls : Array Slot) (x1 : mm_M) (r1 : Int32), fn_X5_number_23 n i1 x = some (x1, r1) → mm_H G T b x s H locs → lv_has ls 2 [(0, .ref (b + 157)), (1, .int i1)] → (∀ (H1 : Heap) (locs1 : List Loc) (ls1 : Array Slot), mm_H G T b x1 s H1 locs1 → lv_has ls1 2 [(1, .int r1)] → W p l e rm_X5_number s m args below meth c H1 locs1 0 0 Q (F0 m 92 ls1 [])) → W p l e rm_X5_number s m args below meth c H locs 0 0 Q (F0 m 23 ls []) := by
  have hx := C.1
  have hb := C.2.1
  have w1 := C.2.2.2.2.1 (.fieldLink RX5 26 "LandingFinesModel" "pad" "[I") (by decide +kernel)
  have w2 := C.2.2.2.2.1 (.fieldLink RX5 125 "LandingFinesModel" "at" "I") (by decide +kernel)
  have hin5 : ∀ w ∈ wsX50, w ∈ wsX5_number := by decide +kernel
  intro n
  induction n with
  | zero => intro _ _ _ _ _ _ _ h; cases (show (none : Option (mm_M × Int32)) = some _ from h)
  | succ n ih =>
    intro i1 x H locs ls x1 r1 h hH hl kk
    rw [fn_X5_number_23] at h
    refine lv_iload_n hx hb dX5_number_23 rfl (lv_at hl 1 rfl) ?_
    refine lv_if_le (tgt := 92) hx hb dX5_number_24 (by decide) (fun c1 => ?_) (fun c1 => ?_)
    · have h := mm_pos c1 h
      have hl := lv_sub (l' := [(1, .int i1)]) hl [1] rfl
      cases h
      exact kk _ _ _ hH (lv_sub hl [0] rfl)
    · have h := mm_neg c1 h
      refine lv_aload_n hx hb dX5_number_27 rfl (lv_at hl 0 rfl) ?_
      refine lv_bipush (v := 48) hx hb dX5_number_28 (by decide) ?_
      refine lv_bipush (v := 57) hx hb dX5_number_30 (by decide) ?_
      obtain ⟨v1, e1, h⟩ := mm_bnd h
      refine mm_goi hH (va_runV (As := [.int 48, .int 57]) (rest := []) ⟨hx, hb, C.2.2.1, C.2.2.2.1, C.2.2.2.2.1⟩ (ct_X5_sees l G T b z 48 57 x e1) (cwV 2 C.2.2.2.2.1 gX5_number_X5_sees rfl rfl rfl df_X5_sees ⟨Nat.le_of_ble_eq_true rfl, Nat.le_of_ble_eq_true rfl⟩) ⟨mm_B.blind, mm_recv (q := (RX5, TX5, 14)) C hH kl_157 (mm_e5 kd_157) rfl, mm_pre C hH⟩ rfl rfl hl.1 rfl (lv_room (Nat.le_of_ble_eq_true rfl)) dX5_number_32 ⟨Nat.zero_le _, Nat.zero_le _⟩) (fun H locs hH => ?_)
      refine lv_if_eq (tgt := 92) hx hb dX5_number_35 (by decide) (fun c2 => ?_) (fun c2 => ?_)
      · have h := mm_pos c2 h
        have hl := lv_sub (l' := [(1, .int i1)]) hl [1] rfl
        cases h
        exact kk _ _ _ hH (lv_sub hl [0] rfl)
      · have h := mm_neg c2 h
        refine lv_bipush (v := 10) hx hb dX5_number_38 (by decide) ?_
        refine lv_iload_n hx hb dX5_number_40 rfl (lv_at hl 1 rfl) ?_
        refine lv_imul hx hb dX5_number_41 ?_
        refine lv_aload_n hx hb dX5_number_42 rfl (lv_at hl 0 rfl) ?_
        refine mm_get (v := .ref (b + 163)) C hH hin5 rfl kl_157 (mm_e5 kd_157) (j := 6) (by decide) rfl w1 rfl dX5_number_43 ?_
        refine lv_aload_n hx hb dX5_number_46 rfl (lv_at hl 0 rfl) ?_
        refine mm_get (v := .int (x 157 8)) C hH hin5 rfl kl_157 (mm_e5 kd_157) (j := 8) (by decide) rfl w2 rfl dX5_number_47 ?_
        obtain ⟨g1, h⟩ := mm_grn h
        refine mm_iald (n := 80) (jn := (Int32.toNatClampNeg (x 157 8))) C hH kd_163 ln_163 g1 rfl dX5_number_50 ?_
        refine lv_iadd hx hb dX5_number_51 ?_
        refine lv_bipush (v := 48) hx hb dX5_number_52 (by decide) ?_
        refine lv_isub hx hb dX5_number_54 ?_
        refine lv_sipush (v := 999) hx hb dX5_number_55 (by decide) ?_
        refine lv_icmp_gt (tgt := 92) hx hb dX5_number_58 (by decide) (fun c3 => ?_) (fun c3 => ?_)
        · have h := mm_pos c3 h
          have hl := lv_sub (l' := [(1, .int i1)]) hl [1] rfl
          cases h
          exact kk _ _ _ hH (lv_sub hl [0] rfl)
        · have h := mm_neg c3 h
          refine lv_bipush (v := 10) hx hb dX5_number_61 (by decide) ?_
          refine lv_iload_n hx hb dX5_number_63 rfl (lv_at hl 1 rfl) ?_
          refine lv_imul hx hb dX5_number_64 ?_
          refine lv_aload_n hx hb dX5_number_65 rfl (lv_at hl 0 rfl) ?_
          refine mm_get (v := .ref (b + 163)) C hH hin5 rfl kl_157 (mm_e5 kd_157) (j := 6) (by decide) rfl w1 rfl dX5_number_66 ?_
          refine lv_aload_n hx hb dX5_number_69 rfl (lv_at hl 0 rfl) ?_
          refine mm_get (v := .int (x 157 8)) C hH hin5 rfl kl_157 (mm_e5 kd_157) (j := 8) (by decide) rfl w2 rfl dX5_number_70 ?_
          obtain ⟨g2, h⟩ := mm_grn h
          refine mm_iald (n := 80) (jn := (Int32.toNatClampNeg (x 157 8))) C hH kd_163 ln_163 g2 rfl dX5_number_73 ?_
          refine lv_iadd hx hb dX5_number_74 ?_
          refine lv_bipush (v := 48) hx hb dX5_number_75 (by decide) ?_
          refine lv_isub hx hb dX5_number_77 ?_
          obtain ⟨v2, e2, h⟩ := mm_bnd h
          refine mm_nmi e2 ?_
          refine lv_istore_n (lv' := [(1, .int v2), (0, .ref (b + 157))]) hx hb dX5_number_78 rfl hl (by decide) rfl (fun ls hl => ?_)
          refine lv_aload_n hx hb dX5_number_79 rfl (lv_at hl 1 rfl) ?_
          refine lv_dup hx hb dX5_number_80 rfl ?_
          refine mm_get (v := .int (x 157 8)) C hH hin5 rfl kl_157 (mm_e5 kd_157) (j := 8) (by decide) rfl w2 rfl dX5_number_81 ?_
          refine lv_iconst (v := 1) hx hb dX5_number_84 (by decide) ?_
          refine lv_iadd hx hb dX5_number_85 ?_
          obtain ⟨x1, e3, h⟩ := mm_bnd h
          refine mm_put (ty := .int) C hH hin5 tyX5_ok nmX5 rfl kl_157 (mm_e5 kd_157) (j := 8) (by decide) rfl w2 pd_I rfl rfl (Nat.le_of_ble_eq_true rfl) (sp_5_8 kd_157) (Option.some.inj e3) dX5_number_86 (fun H locs hH => ?_)
          refine lv_goto (tgt := 23) hx hb dX5_number_89 (by decide) ?_
          exact ih v2 x1 _ _ _ _ _ h hH (lv_sub hl [1, 0] rfl) kk
set_option maxRecDepth 100000 in
set_option maxHeartbeats 4000000 in
theorem ct_X5_number (l : Launch) (G : va_G) (T : Nat → ClassId) (b : Nat) (z : Nat → Nat)  (x : mm_M) {x1 : mm_M} {r : Int32} (h : fn_X5_number  x = some (x1, r)) : mm_Ci l yX5_number wsX5_number rm_X5_number G T b z [.ref (b + 157)] x r x1 := by
  unfold fn_X5_number at h
  refine mm_start (cc := cX5_number) (maxL := 2) (ret := (some .int)) (by decide) rfl (Nat.le_of_ble_eq_true rfl) (fun p e s m below meth c ls C hr hlk hH hl => ?_)
  have hl : lv_has ls 2 [(0, .ref (b + 157))] := hl
  have hx := C.1
  have hb := C.2.1
  have w1 := C.2.2.2.2.1 (.fieldLink RX5 26 "LandingFinesModel" "pad" "[I") (by decide +kernel)
  have w2 := C.2.2.2.2.1 (.fieldLink RX5 125 "LandingFinesModel" "at" "I") (by decide +kernel)
  have hin5 : ∀ w ∈ wsX50, w ∈ wsX5_number := by decide +kernel
  refine lv_aload_n hx hb dX5_number_0 rfl (lv_at hl 0 rfl) ?_
  refine mm_get (v := .ref (b + 163)) C hH hin5 rfl kl_157 (mm_e5 kd_157) (j := 6) (by decide) rfl w1 rfl dX5_number_1 ?_
  refine lv_aload_n hx hb dX5_number_4 rfl (lv_at hl 0 rfl) ?_
  refine mm_get (v := .int (x 157 8)) C hH hin5 rfl kl_157 (mm_e5 kd_157) (j := 8) (by decide) rfl w2 rfl dX5_number_5 ?_
  obtain ⟨g1, h⟩ := mm_grn h
  refine mm_iald (n := 80) (jn := (Int32.toNatClampNeg (x 157 8))) C hH kd_163 ln_163 g1 rfl dX5_number_8 ?_
  refine lv_bipush (v := 48) hx hb dX5_number_9 (by decide) ?_
  refine lv_isub hx hb dX5_number_11 ?_
  obtain ⟨v1, e1, h⟩ := mm_bnd h
  refine mm_nmi e1 ?_
  refine lv_istore_n (lv' := [(1, .int v1), (0, .ref (b + 157))]) hx hb dX5_number_12 rfl hl (by decide) rfl (fun ls hl => ?_)
  refine lv_aload_n hx hb dX5_number_13 rfl (lv_at hl 1 rfl) ?_
  refine lv_dup hx hb dX5_number_14 rfl ?_
  refine mm_get (v := .int (x 157 8)) C hH hin5 rfl kl_157 (mm_e5 kd_157) (j := 8) (by decide) rfl w2 rfl dX5_number_15 ?_
  refine lv_iconst (v := 1) hx hb dX5_number_18 (by decide) ?_
  refine lv_iadd hx hb dX5_number_19 ?_
  obtain ⟨x1, e2, h⟩ := mm_bnd h
  refine mm_put (ty := .int) C hH hin5 tyX5_ok nmX5 rfl kl_157 (mm_e5 kd_157) (j := 8) (by decide) rfl w2 pd_I rfl rfl (Nat.le_of_ble_eq_true rfl) (sp_5_8 kd_157) (Option.some.inj e2) dX5_number_20 (fun H locs hH => ?_)
  obtain ⟨x2, v2, e3, h⟩ := mm_bnd2 h
  refine lp_X5_number_23 C 5 v1 x1 _ _ _ _ _ e3 hH (lv_sub hl [1, 0] rfl) (fun H locs ls hH hl => ?_)
  refine lv_iload_n hx hb dX5_number_92 rfl (lv_at hl 0 rfl) ?_
  exact mm_iret C hH hr hlk rfl h dX5_number_93
def fn_X5_digit  (x : mm_M) : Option (mm_M × Int32) :=
  (some (mm_up x 157 8 ((x 157 8) + 1))).bind fun x1 => if ((x1 157 8) - 1) < 0 ∨ 80 ≤ Int32.toNatClampNeg ((x1 157 8) - 1) then none else some (x1, ((x1 163 (Int32.toNatClampNeg ((x1 157 8) - 1))) - 48))
abbrev rm_X5_digit : Room := { frames := 0, cells := 0, slots := 0, locals := 0 }
theorem df_X5_digit : yX5_digit.cls = RX5 ∧ yX5_digit.cls ≠ "java/lang/invoke/MethodHandle" ∧ yX5_digit.cls ≠ "java/lang/invoke/VarHandle" ∧ (parseMethodDescriptor yX5_digit.desc).map (fun d => d.parameters.length) = some 0 := by decide +kernel
set_option maxRecDepth 100000 in
set_option maxHeartbeats 4000000 in
theorem ct_X5_digit (l : Launch) (G : va_G) (T : Nat → ClassId) (b : Nat) (z : Nat → Nat)  (x : mm_M) {x1 : mm_M} {r : Int32} (h : fn_X5_digit  x = some (x1, r)) : mm_Ci l yX5_digit wsX5_digit rm_X5_digit G T b z [.ref (b + 157)] x r x1 := by
  unfold fn_X5_digit at h
  refine mm_start (cc := cX5_digit) (maxL := 1) (ret := (some .int)) (by decide) rfl (Nat.le_of_ble_eq_true rfl) (fun p e s m below meth c ls C hr hlk hH hl => ?_)
  have hl : lv_has ls 1 [(0, .ref (b + 157))] := hl
  have hx := C.1
  have hb := C.2.1
  have w1 := C.2.2.2.2.1 (.fieldLink RX5 125 "LandingFinesModel" "at" "I") (by decide +kernel)
  have w2 := C.2.2.2.2.1 (.fieldLink RX5 26 "LandingFinesModel" "pad" "[I") (by decide +kernel)
  have hin5 : ∀ w ∈ wsX50, w ∈ wsX5_digit := by decide +kernel
  refine lv_aload_n hx hb dX5_digit_0 rfl (lv_at hl 0 rfl) ?_
  refine lv_dup hx hb dX5_digit_1 rfl ?_
  refine mm_get (v := .int (x 157 8)) C hH hin5 rfl kl_157 (mm_e5 kd_157) (j := 8) (by decide) rfl w1 rfl dX5_digit_2 ?_
  refine lv_iconst (v := 1) hx hb dX5_digit_5 (by decide) ?_
  refine lv_iadd hx hb dX5_digit_6 ?_
  obtain ⟨x1, e1, h⟩ := mm_bnd h
  refine mm_put (ty := .int) C hH hin5 tyX5_ok nmX5 rfl kl_157 (mm_e5 kd_157) (j := 8) (by decide) rfl w1 pd_I rfl rfl (Nat.le_of_ble_eq_true rfl) (sp_5_8 kd_157) (Option.some.inj e1) dX5_digit_7 (fun H locs hH => ?_)
  refine lv_aload_n hx hb dX5_digit_10 rfl (lv_at hl 0 rfl) ?_
  refine mm_get (v := .ref (b + 163)) C hH hin5 rfl kl_157 (mm_e5 kd_157) (j := 6) (by decide) rfl w2 rfl dX5_digit_11 ?_
  refine lv_aload_n hx hb dX5_digit_14 rfl (lv_at hl 0 rfl) ?_
  refine mm_get (v := .int (x1 157 8)) C hH hin5 rfl kl_157 (mm_e5 kd_157) (j := 8) (by decide) rfl w1 rfl dX5_digit_15 ?_
  refine lv_iconst (v := 1) hx hb dX5_digit_18 (by decide) ?_
  refine lv_isub hx hb dX5_digit_19 ?_
  obtain ⟨g1, h⟩ := mm_grn h
  refine mm_iald (n := 80) (jn := (Int32.toNatClampNeg ((x1 157 8) - 1))) C hH kd_163 ln_163 g1 rfl dX5_digit_20 ?_
  refine lv_bipush (v := 48) hx hb dX5_digit_21 (by decide) ?_
  refine lv_isub hx hb dX5_digit_23 ?_
  exact mm_iret C hH hr hlk rfl h dX5_digit_24
def fn_X5_order (a1 : Int32) (x : mm_M) : Option (mm_M × Int32) :=
  if (x 157 7) ≤ (x 157 8) then some (x, (-3)) else if (x 157 8) < 0 ∨ 80 ≤ Int32.toNatClampNeg (x 157 8) then none else (some ((x 163 (Int32.toNatClampNeg (x 157 8))) : Int32)).bind fun v1 => if v1 = 43 then (some (mm_up x 157 8 ((x 157 8) + 1))).bind fun x1 => (fn_X5_sees 48 57 x1).bind fun v2 => if v2 = 0 then some (x1, (-3)) else mm_b2 (fn_X5_number x1) fun x2 v3 => if a1 = 0 then some (x2, 0) else mm_b2 (fn_X5_comes v3 x2) fun x3 v4 => some (x3, v4) else if v1 = 111 then (some (mm_up x 157 8 ((x 157 8) + 1))).bind fun x4 => (fn_X5_sees 48 57 x4).bind fun v5 => if v5 = 0 then some (x4, (-3)) else mm_b2 (fn_X5_digit x4) fun x5 v6 => if a1 = 0 then some (x5, 0) else mm_b2 (fn_X5_turns v6 1 x5) fun x6 v7 => some (x6, v7) else if v1 = 99 then (some (mm_up x 157 8 ((x 157 8) + 1))).bind fun x7 => (fn_X5_sees 48 57 x7).bind fun v8 => if v8 = 0 then some (x7, (-3)) else mm_b2 (fn_X5_digit x7) fun x8 v9 => if a1 = 0 then some (x8, 0) else mm_b2 (fn_X5_turns v9 0 x8) fun x9 v10 => some (x9, v10) else if v1 = 112 then (some (mm_up x 157 8 ((x 157 8) + 1))).bind fun x10 => (fn_X5_sees 48 57 x10).bind fun v11 => if v11 = 0 then some (x10, (-3)) else mm_b2 (fn_X5_digit x10) fun x11 v12 => (fn_X5_sees 61 61 x11).bind fun v13 => if v13 = 0 then some (x11, (-3)) else (some (mm_up x11 157 8 ((x11 157 8) + 1))).bind fun x12 => (fn_X5_sees 48 57 x12).bind fun v14 => if v14 = 0 then some (x12, (-3)) else mm_b2 (fn_X5_number x12) fun x13 v15 => if a1 = 0 then some (x13, 0) else mm_b2 (fn_X5_costs v12 v15 x13) fun x14 v16 => some (x14, v16) else if v1 = 116 then (some (mm_up x 157 8 ((x 157 8) + 1))).bind fun x15 => (fn_X5_sees 48 57 x15).bind fun v17 => if v17 = 0 then some (x15, (-3)) else mm_b2 (fn_X5_number x15) fun x16 v18 => if a1 = 0 then some (x16, 0) else mm_b2 (fn_X5_waits v18 x16) fun x17 v19 => some (x17, v19) else some (x, (-3))
abbrev rm_X5_order : Room := { frames := 4, cells := 0, slots := 0, locals := 92 }
theorem df_X5_order : yX5_order.cls = RX5 ∧ yX5_order.cls ≠ "java/lang/invoke/MethodHandle" ∧ yX5_order.cls ≠ "java/lang/invoke/VarHandle" ∧ (parseMethodDescriptor yX5_order.desc).map (fun d => d.parameters.length) = some 1 := by decide +kernel
set_option maxRecDepth 100000 in
set_option maxHeartbeats 4000000 in
theorem ct_X5_order (l : Launch) (G : va_G) (T : Nat → ClassId) (b : Nat) (z : Nat → Nat) (a1 : Int32) (x : mm_M) {x1 : mm_M} {r : Int32} (h : fn_X5_order a1 x = some (x1, r)) : mm_Ci l yX5_order wsX5_order rm_X5_order G T b z [.ref (b + 157), .int a1] x r x1 := by
  unfold fn_X5_order at h
  refine mm_start (cc := cX5_order) (maxL := 5) (ret := (some .int)) (by decide) rfl (Nat.le_of_ble_eq_true rfl) (fun p e s m below meth c ls C hr hlk hH hl => ?_)
  have hl : lv_has ls 5 [(0, .ref (b + 157)), (1, .int a1)] := hl
  have hx := C.1
  have hb := C.2.1
  have w1 := C.2.2.2.2.1 (.fieldLink RX5 125 "LandingFinesModel" "at" "I") (by decide +kernel)
  have w2 := C.2.2.2.2.1 (.fieldLink RX5 114 "LandingFinesModel" "length" "I") (by decide +kernel)
  have w3 := C.2.2.2.2.1 (.fieldLink RX5 26 "LandingFinesModel" "pad" "[I") (by decide +kernel)
  have hin5 : ∀ w ∈ wsX50, w ∈ wsX5_order := by decide +kernel
  refine lv_aload_n hx hb dX5_order_0 rfl (lv_at hl 0 rfl) ?_
  refine mm_get (v := .int (x 157 8)) C hH hin5 rfl kl_157 (mm_e5 kd_157) (j := 8) (by decide) rfl w1 rfl dX5_order_1 ?_
  refine lv_aload_n hx hb dX5_order_4 rfl (lv_at hl 0 rfl) ?_
  refine mm_get (v := .int (x 157 7)) C hH hin5 rfl kl_157 (mm_e5 kd_157) (j := 7) (by decide) rfl w2 rfl dX5_order_5 ?_
  refine lv_icmp_ge (tgt := 23) hx hb dX5_order_8 (by decide) (fun c1 => ?_) (fun c1 => ?_)
  · have h := mm_pos c1 h
    refine lv_iconst (v := 0) hx hb dX5_order_23 (by decide) ?_
    refine lv_istore_n (lv' := [(2, .int 0), (0, .ref (b + 157)), (1, .int a1)]) hx hb dX5_order_24 rfl hl (by decide) rfl (fun ls hl => ?_)
    refine lv_iload_n hx hb dX5_order_25 rfl (lv_at hl 0 rfl) ?_
    refine lv_bipush (v := 43) hx hb dX5_order_26 (by decide) ?_
    refine lv_icmp_eq (tgt := 58) hx hb dX5_order_28 (by decide) (fun c => absurd c (by decide)) (fun _ => ?_)
    refine lv_iload_n hx hb dX5_order_31 rfl (lv_at hl 0 rfl) ?_
    refine lv_bipush (v := 111) hx hb dX5_order_32 (by decide) ?_
    refine lv_icmp_eq (tgt := 58) hx hb dX5_order_34 (by decide) (fun c => absurd c (by decide)) (fun _ => ?_)
    refine lv_iload_n hx hb dX5_order_37 rfl (lv_at hl 0 rfl) ?_
    refine lv_bipush (v := 99) hx hb dX5_order_38 (by decide) ?_
    refine lv_icmp_eq (tgt := 58) hx hb dX5_order_40 (by decide) (fun c => absurd c (by decide)) (fun _ => ?_)
    refine lv_iload_n hx hb dX5_order_43 rfl (lv_at hl 0 rfl) ?_
    refine lv_bipush (v := 112) hx hb dX5_order_44 (by decide) ?_
    refine lv_icmp_eq (tgt := 58) hx hb dX5_order_46 (by decide) (fun c => absurd c (by decide)) (fun _ => ?_)
    refine lv_iload_n hx hb dX5_order_49 rfl (lv_at hl 0 rfl) ?_
    refine lv_bipush (v := 116) hx hb dX5_order_50 (by decide) ?_
    refine lv_icmp_eq (tgt := 58) hx hb dX5_order_52 (by decide) (fun c => absurd c (by decide)) (fun _ => ?_)
    have hl := lv_sub (l' := []) hl [] rfl
    refine lv_bipush (v := (-3)) hx hb dX5_order_55 (by decide) ?_
    exact mm_iret C hH hr hlk rfl h dX5_order_57
  · have h := mm_neg c1 h
    refine lv_aload_n hx hb dX5_order_11 rfl (lv_at hl 0 rfl) ?_
    refine mm_get (v := .ref (b + 163)) C hH hin5 rfl kl_157 (mm_e5 kd_157) (j := 6) (by decide) rfl w3 rfl dX5_order_12 ?_
    refine lv_aload_n hx hb dX5_order_15 rfl (lv_at hl 0 rfl) ?_
    refine mm_get (v := .int (x 157 8)) C hH hin5 rfl kl_157 (mm_e5 kd_157) (j := 8) (by decide) rfl w1 rfl dX5_order_16 ?_
    obtain ⟨g1, h⟩ := mm_grn h
    refine mm_iald (n := 80) (jn := (Int32.toNatClampNeg (x 157 8))) C hH kd_163 ln_163 g1 rfl dX5_order_19 ?_
    refine lv_goto (tgt := 24) hx hb dX5_order_20 (by decide) ?_
    obtain ⟨v1, e1, h⟩ := mm_bnd h
    refine mm_nmi e1 ?_
    refine lv_istore_n (lv' := [(2, .int v1), (0, .ref (b + 157)), (1, .int a1)]) hx hb dX5_order_24 rfl hl (by decide) rfl (fun ls hl => ?_)
    refine lv_iload_n hx hb dX5_order_25 rfl (lv_at hl 0 rfl) ?_
    refine lv_bipush (v := 43) hx hb dX5_order_26 (by decide) ?_
    refine lv_icmp_eq (tgt := 58) hx hb dX5_order_28 (by decide) (fun c2 => ?_) (fun c2 => ?_)
    · have h := mm_pos c2 h
      refine lv_aload_n hx hb dX5_order_58 rfl (lv_at hl 1 rfl) ?_
      refine lv_dup hx hb dX5_order_59 rfl ?_
      refine mm_get (v := .int (x 157 8)) C hH hin5 rfl kl_157 (mm_e5 kd_157) (j := 8) (by decide) rfl w1 rfl dX5_order_60 ?_
      refine lv_iconst (v := 1) hx hb dX5_order_63 (by decide) ?_
      refine lv_iadd hx hb dX5_order_64 ?_
      obtain ⟨x1, e2, h⟩ := mm_bnd h
      refine mm_put (ty := .int) C hH hin5 tyX5_ok nmX5 rfl kl_157 (mm_e5 kd_157) (j := 8) (by decide) rfl w1 pd_I rfl rfl (Nat.le_of_ble_eq_true rfl) (sp_5_8 kd_157) (Option.some.inj e2) dX5_order_65 (fun H locs hH => ?_)
      refine lv_aload_n hx hb dX5_order_68 rfl (lv_at hl 1 rfl) ?_
      refine lv_bipush (v := 48) hx hb dX5_order_69 (by decide) ?_
      refine lv_bipush (v := 57) hx hb dX5_order_71 (by decide) ?_
      obtain ⟨v2, e3, h⟩ := mm_bnd h
      refine mm_goi hH (va_runV (As := [.int 48, .int 57]) (rest := []) ⟨hx, hb, C.2.2.1, C.2.2.2.1, C.2.2.2.2.1⟩ (ct_X5_sees l G T b z 48 57 x1 e3) (cwV 2 C.2.2.2.2.1 gX5_order_X5_sees rfl rfl rfl df_X5_sees ⟨Nat.le_of_ble_eq_true rfl, Nat.le_of_ble_eq_true rfl⟩) ⟨mm_B.blind, mm_recv (q := (RX5, TX5, 14)) C hH kl_157 (mm_e5 kd_157) rfl, mm_pre C hH⟩ rfl rfl hl.1 rfl (lv_room (Nat.le_of_ble_eq_true rfl)) dX5_order_73 ⟨Nat.zero_le _, Nat.zero_le _⟩) (fun H locs hH => ?_)
      refine lv_if_ne (tgt := 82) hx hb dX5_order_76 (by decide) (fun c3 => ?_) (fun c3 => ?_)
      · have h := mm_neg c3 h
        refine lv_iload_n hx hb dX5_order_82 rfl (lv_at hl 0 rfl) ?_
        refine lv_bipush (v := 43) hx hb dX5_order_83 (by decide) ?_
        refine lv_icmp_eq (tgt := 94) hx hb dX5_order_85 (by decide) (fun _ => ?_) (fun c => absurd c2 c)
        refine lv_aload_n hx hb dX5_order_94 rfl (lv_at hl 1 rfl) ?_
        obtain ⟨x2, v3, e4, h⟩ := mm_bnd2 h
        refine mm_goi hH (va_runV (As := []) (rest := []) ⟨hx, hb, C.2.2.1, C.2.2.2.1, C.2.2.2.2.1⟩ (ct_X5_number l G T b z x1 e4) (cwV 0 C.2.2.2.2.1 gX5_order_X5_number rfl rfl rfl df_X5_number ⟨Nat.le_of_ble_eq_true rfl, Nat.le_of_ble_eq_true rfl⟩) ⟨mm_B.blind, mm_recv (q := (RX5, TX5, 14)) C hH kl_157 (mm_e5 kd_157) rfl, mm_pre C hH⟩ rfl rfl hl.1 rfl (lv_room (Nat.le_of_ble_eq_true rfl)) dX5_order_95 ⟨Nat.zero_le _, Nat.zero_le _⟩) (fun H locs hH => ?_)
        refine lv_goto (tgt := 105) hx hb dX5_order_98 (by decide) ?_
        refine lv_istore_n (lv' := [(3, .int v3), (2, .int v1), (0, .ref (b + 157)), (1, .int a1)]) hx hb dX5_order_105 rfl hl (by decide) rfl (fun ls hl => ?_)
        refine lv_iconst (v := 0) hx hb dX5_order_106 (by decide) ?_
        refine lv_istore (lv' := [(4, .int 0), (3, .int v3), (2, .int v1), (0, .ref (b + 157)), (1, .int a1)]) hx hb dX5_order_107 hl (by decide) rfl (fun ls hl => ?_)
        refine lv_iload_n hx hb dX5_order_109 rfl (lv_at hl 2 rfl) ?_
        refine lv_bipush (v := 112) hx hb dX5_order_110 (by decide) ?_
        refine lv_icmp_ne (tgt := 159) hx hb dX5_order_112 (by decide) (fun _ => ?_) (fun c => absurd (c2.symm.trans c) (by decide))
        refine lv_iload_n hx hb dX5_order_159 rfl (lv_at hl 4 rfl) ?_
        refine lv_if_ne (tgt := 165) hx hb dX5_order_160 (by decide) (fun c4 => ?_) (fun c4 => ?_)
        · have h := mm_neg c4 h
          have hl := lv_sub (l' := [(4, .int 0), (3, .int v3), (2, .int v1), (0, .ref (b + 157))]) hl [0, 1, 2, 3] rfl
          refine lv_iload_n hx hb dX5_order_165 rfl (lv_at hl 2 rfl) ?_
          refine lv_bipush (v := 43) hx hb dX5_order_166 (by decide) ?_
          refine lv_icmp_ne (tgt := 179) hx hb dX5_order_168 (by decide) (fun c => absurd c2 c) (fun _ => ?_)
          have hl := lv_sub (l' := [(3, .int v3), (0, .ref (b + 157))]) hl [1, 3] rfl
          refine lv_aload_n hx hb dX5_order_171 rfl (lv_at hl 1 rfl) ?_
          refine lv_iload_n hx hb dX5_order_172 rfl (lv_at hl 0 rfl) ?_
          obtain ⟨x3, v4, e5, h⟩ := mm_bnd2 h
          refine mm_goi hH (va_runV (As := [.int v3]) (rest := []) ⟨hx, hb, C.2.2.1, C.2.2.2.1, C.2.2.2.2.1⟩ (ct_X5_comes l G T b z v3 x2 e5) (cwV 1 C.2.2.2.2.1 gX5_order_X5_comes rfl rfl rfl df_X5_comes ⟨Nat.le_of_ble_eq_true rfl, Nat.le_of_ble_eq_true rfl⟩) ⟨mm_B.blind, mm_recv (q := (RX5, TX5, 14)) C hH kl_157 (mm_e5 kd_157) rfl, mm_pre C hH⟩ rfl rfl hl.1 rfl (lv_room (Nat.le_of_ble_eq_true rfl)) dX5_order_173 ⟨Nat.zero_le _, Nat.zero_le _⟩) (fun H locs hH => ?_)
          refine lv_goto (tgt := 230) hx hb dX5_order_176 (by decide) ?_
          have hl := lv_sub (l' := []) hl [] rfl
          exact mm_iret C hH hr hlk rfl h dX5_order_230
        · have h := mm_pos c4 h
          have hl := lv_sub (l' := []) hl [] rfl
          refine lv_iconst (v := 0) hx hb dX5_order_163 (by decide) ?_
          exact mm_iret C hH hr hlk rfl h dX5_order_164
      · have h := mm_pos c3 h
        have hl := lv_sub (l' := []) hl [] rfl
        refine lv_bipush (v := (-3)) hx hb dX5_order_79 (by decide) ?_
        exact mm_iret C hH hr hlk rfl h dX5_order_81
    · have h := mm_neg c2 h
      refine lv_iload_n hx hb dX5_order_31 rfl (lv_at hl 0 rfl) ?_
      refine lv_bipush (v := 111) hx hb dX5_order_32 (by decide) ?_
      refine lv_icmp_eq (tgt := 58) hx hb dX5_order_34 (by decide) (fun c5 => ?_) (fun c5 => ?_)
      · have h := mm_pos c5 h
        refine lv_aload_n hx hb dX5_order_58 rfl (lv_at hl 1 rfl) ?_
        refine lv_dup hx hb dX5_order_59 rfl ?_
        refine mm_get (v := .int (x 157 8)) C hH hin5 rfl kl_157 (mm_e5 kd_157) (j := 8) (by decide) rfl w1 rfl dX5_order_60 ?_
        refine lv_iconst (v := 1) hx hb dX5_order_63 (by decide) ?_
        refine lv_iadd hx hb dX5_order_64 ?_
        obtain ⟨x4, e6, h⟩ := mm_bnd h
        refine mm_put (ty := .int) C hH hin5 tyX5_ok nmX5 rfl kl_157 (mm_e5 kd_157) (j := 8) (by decide) rfl w1 pd_I rfl rfl (Nat.le_of_ble_eq_true rfl) (sp_5_8 kd_157) (Option.some.inj e6) dX5_order_65 (fun H locs hH => ?_)
        refine lv_aload_n hx hb dX5_order_68 rfl (lv_at hl 1 rfl) ?_
        refine lv_bipush (v := 48) hx hb dX5_order_69 (by decide) ?_
        refine lv_bipush (v := 57) hx hb dX5_order_71 (by decide) ?_
        obtain ⟨v5, e7, h⟩ := mm_bnd h
        refine mm_goi hH (va_runV (As := [.int 48, .int 57]) (rest := []) ⟨hx, hb, C.2.2.1, C.2.2.2.1, C.2.2.2.2.1⟩ (ct_X5_sees l G T b z 48 57 x4 e7) (cwV 2 C.2.2.2.2.1 gX5_order_X5_sees rfl rfl rfl df_X5_sees ⟨Nat.le_of_ble_eq_true rfl, Nat.le_of_ble_eq_true rfl⟩) ⟨mm_B.blind, mm_recv (q := (RX5, TX5, 14)) C hH kl_157 (mm_e5 kd_157) rfl, mm_pre C hH⟩ rfl rfl hl.1 rfl (lv_room (Nat.le_of_ble_eq_true rfl)) dX5_order_73 ⟨Nat.zero_le _, Nat.zero_le _⟩) (fun H locs hH => ?_)
        refine lv_if_ne (tgt := 82) hx hb dX5_order_76 (by decide) (fun c6 => ?_) (fun c6 => ?_)
        · have h := mm_neg c6 h
          refine lv_iload_n hx hb dX5_order_82 rfl (lv_at hl 0 rfl) ?_
          refine lv_bipush (v := 43) hx hb dX5_order_83 (by decide) ?_
          refine lv_icmp_eq (tgt := 94) hx hb dX5_order_85 (by decide) (fun c => absurd (c5.symm.trans c) (by decide)) (fun _ => ?_)
          refine lv_iload_n hx hb dX5_order_88 rfl (lv_at hl 0 rfl) ?_
          refine lv_bipush (v := 116) hx hb dX5_order_89 (by decide) ?_
          refine lv_icmp_ne (tgt := 101) hx hb dX5_order_91 (by decide) (fun _ => ?_) (fun c => absurd (c5.symm.trans c) (by decide))
          refine lv_aload_n hx hb dX5_order_101 rfl (lv_at hl 1 rfl) ?_
          obtain ⟨x5, v6, e8, h⟩ := mm_bnd2 h
          refine mm_goi hH (va_runV (As := []) (rest := []) ⟨hx, hb, C.2.2.1, C.2.2.2.1, C.2.2.2.2.1⟩ (ct_X5_digit l G T b z x4 e8) (cwV 0 C.2.2.2.2.1 gX5_order_X5_digit rfl rfl rfl df_X5_digit ⟨Nat.le_of_ble_eq_true rfl, Nat.le_of_ble_eq_true rfl⟩) ⟨mm_B.blind, mm_recv (q := (RX5, TX5, 14)) C hH kl_157 (mm_e5 kd_157) rfl, mm_pre C hH⟩ rfl rfl hl.1 rfl (lv_room (Nat.le_of_ble_eq_true rfl)) dX5_order_102 ⟨Nat.zero_le _, Nat.zero_le _⟩) (fun H locs hH => ?_)
          refine lv_istore_n (lv' := [(3, .int v6), (2, .int v1), (0, .ref (b + 157)), (1, .int a1)]) hx hb dX5_order_105 rfl hl (by decide) rfl (fun ls hl => ?_)
          refine lv_iconst (v := 0) hx hb dX5_order_106 (by decide) ?_
          refine lv_istore (lv' := [(4, .int 0), (3, .int v6), (2, .int v1), (0, .ref (b + 157)), (1, .int a1)]) hx hb dX5_order_107 hl (by decide) rfl (fun ls hl => ?_)
          refine lv_iload_n hx hb dX5_order_109 rfl (lv_at hl 2 rfl) ?_
          refine lv_bipush (v := 112) hx hb dX5_order_110 (by decide) ?_
          refine lv_icmp_ne (tgt := 159) hx hb dX5_order_112 (by decide) (fun _ => ?_) (fun c => absurd (c5.symm.trans c) (by decide))
          refine lv_iload_n hx hb dX5_order_159 rfl (lv_at hl 4 rfl) ?_
          refine lv_if_ne (tgt := 165) hx hb dX5_order_160 (by decide) (fun c7 => ?_) (fun c7 => ?_)
          · have h := mm_neg c7 h
            have hl := lv_sub (l' := [(4, .int 0), (3, .int v6), (2, .int v1), (0, .ref (b + 157))]) hl [0, 1, 2, 3] rfl
            refine lv_iload_n hx hb dX5_order_165 rfl (lv_at hl 2 rfl) ?_
            refine lv_bipush (v := 43) hx hb dX5_order_166 (by decide) ?_
            refine lv_icmp_ne (tgt := 179) hx hb dX5_order_168 (by decide) (fun _ => ?_) (fun c => absurd (c5.symm.trans c) (by decide))
            refine lv_iload_n hx hb dX5_order_179 rfl (lv_at hl 2 rfl) ?_
            refine lv_bipush (v := 111) hx hb dX5_order_180 (by decide) ?_
            refine lv_icmp_ne (tgt := 194) hx hb dX5_order_182 (by decide) (fun c => absurd c5 c) (fun _ => ?_)
            have hl := lv_sub (l' := [(3, .int v6), (0, .ref (b + 157))]) hl [1, 3] rfl
            refine lv_aload_n hx hb dX5_order_185 rfl (lv_at hl 1 rfl) ?_
            refine lv_iload_n hx hb dX5_order_186 rfl (lv_at hl 0 rfl) ?_
            refine lv_iconst (v := 1) hx hb dX5_order_187 (by decide) ?_
            obtain ⟨x6, v7, e9, h⟩ := mm_bnd2 h
            refine mm_goi hH (va_runV (As := [.int v6, .int 1]) (rest := []) ⟨hx, hb, C.2.2.1, C.2.2.2.1, C.2.2.2.2.1⟩ (ct_X5_turns l G T b z v6 1 x5 e9) (cwV 2 C.2.2.2.2.1 gX5_order_X5_turns rfl rfl rfl df_X5_turns ⟨Nat.le_of_ble_eq_true rfl, Nat.le_of_ble_eq_true rfl⟩) ⟨mm_B.blind, mm_recv (q := (RX5, TX5, 14)) C hH kl_157 (mm_e5 kd_157) rfl, mm_pre C hH⟩ rfl rfl hl.1 rfl (lv_room (Nat.le_of_ble_eq_true rfl)) dX5_order_188 ⟨Nat.zero_le _, Nat.zero_le _⟩) (fun H locs hH => ?_)
            refine lv_goto (tgt := 230) hx hb dX5_order_191 (by decide) ?_
            have hl := lv_sub (l' := []) hl [] rfl
            exact mm_iret C hH hr hlk rfl h dX5_order_230
          · have h := mm_pos c7 h
            have hl := lv_sub (l' := []) hl [] rfl
            refine lv_iconst (v := 0) hx hb dX5_order_163 (by decide) ?_
            exact mm_iret C hH hr hlk rfl h dX5_order_164
        · have h := mm_pos c6 h
          have hl := lv_sub (l' := []) hl [] rfl
          refine lv_bipush (v := (-3)) hx hb dX5_order_79 (by decide) ?_
          exact mm_iret C hH hr hlk rfl h dX5_order_81
      · have h := mm_neg c5 h
        refine lv_iload_n hx hb dX5_order_37 rfl (lv_at hl 0 rfl) ?_
        refine lv_bipush (v := 99) hx hb dX5_order_38 (by decide) ?_
        refine lv_icmp_eq (tgt := 58) hx hb dX5_order_40 (by decide) (fun c8 => ?_) (fun c8 => ?_)
        · have h := mm_pos c8 h
          refine lv_aload_n hx hb dX5_order_58 rfl (lv_at hl 1 rfl) ?_
          refine lv_dup hx hb dX5_order_59 rfl ?_
          refine mm_get (v := .int (x 157 8)) C hH hin5 rfl kl_157 (mm_e5 kd_157) (j := 8) (by decide) rfl w1 rfl dX5_order_60 ?_
          refine lv_iconst (v := 1) hx hb dX5_order_63 (by decide) ?_
          refine lv_iadd hx hb dX5_order_64 ?_
          obtain ⟨x7, e10, h⟩ := mm_bnd h
          refine mm_put (ty := .int) C hH hin5 tyX5_ok nmX5 rfl kl_157 (mm_e5 kd_157) (j := 8) (by decide) rfl w1 pd_I rfl rfl (Nat.le_of_ble_eq_true rfl) (sp_5_8 kd_157) (Option.some.inj e10) dX5_order_65 (fun H locs hH => ?_)
          refine lv_aload_n hx hb dX5_order_68 rfl (lv_at hl 1 rfl) ?_
          refine lv_bipush (v := 48) hx hb dX5_order_69 (by decide) ?_
          refine lv_bipush (v := 57) hx hb dX5_order_71 (by decide) ?_
          obtain ⟨v8, e11, h⟩ := mm_bnd h
          refine mm_goi hH (va_runV (As := [.int 48, .int 57]) (rest := []) ⟨hx, hb, C.2.2.1, C.2.2.2.1, C.2.2.2.2.1⟩ (ct_X5_sees l G T b z 48 57 x7 e11) (cwV 2 C.2.2.2.2.1 gX5_order_X5_sees rfl rfl rfl df_X5_sees ⟨Nat.le_of_ble_eq_true rfl, Nat.le_of_ble_eq_true rfl⟩) ⟨mm_B.blind, mm_recv (q := (RX5, TX5, 14)) C hH kl_157 (mm_e5 kd_157) rfl, mm_pre C hH⟩ rfl rfl hl.1 rfl (lv_room (Nat.le_of_ble_eq_true rfl)) dX5_order_73 ⟨Nat.zero_le _, Nat.zero_le _⟩) (fun H locs hH => ?_)
          refine lv_if_ne (tgt := 82) hx hb dX5_order_76 (by decide) (fun c9 => ?_) (fun c9 => ?_)
          · have h := mm_neg c9 h
            refine lv_iload_n hx hb dX5_order_82 rfl (lv_at hl 0 rfl) ?_
            refine lv_bipush (v := 43) hx hb dX5_order_83 (by decide) ?_
            refine lv_icmp_eq (tgt := 94) hx hb dX5_order_85 (by decide) (fun c => absurd (c8.symm.trans c) (by decide)) (fun _ => ?_)
            refine lv_iload_n hx hb dX5_order_88 rfl (lv_at hl 0 rfl) ?_
            refine lv_bipush (v := 116) hx hb dX5_order_89 (by decide) ?_
            refine lv_icmp_ne (tgt := 101) hx hb dX5_order_91 (by decide) (fun _ => ?_) (fun c => absurd (c8.symm.trans c) (by decide))
            refine lv_aload_n hx hb dX5_order_101 rfl (lv_at hl 1 rfl) ?_
            obtain ⟨x8, v9, e12, h⟩ := mm_bnd2 h
            refine mm_goi hH (va_runV (As := []) (rest := []) ⟨hx, hb, C.2.2.1, C.2.2.2.1, C.2.2.2.2.1⟩ (ct_X5_digit l G T b z x7 e12) (cwV 0 C.2.2.2.2.1 gX5_order_X5_digit rfl rfl rfl df_X5_digit ⟨Nat.le_of_ble_eq_true rfl, Nat.le_of_ble_eq_true rfl⟩) ⟨mm_B.blind, mm_recv (q := (RX5, TX5, 14)) C hH kl_157 (mm_e5 kd_157) rfl, mm_pre C hH⟩ rfl rfl hl.1 rfl (lv_room (Nat.le_of_ble_eq_true rfl)) dX5_order_102 ⟨Nat.zero_le _, Nat.zero_le _⟩) (fun H locs hH => ?_)
            refine lv_istore_n (lv' := [(3, .int v9), (2, .int v1), (0, .ref (b + 157)), (1, .int a1)]) hx hb dX5_order_105 rfl hl (by decide) rfl (fun ls hl => ?_)
            refine lv_iconst (v := 0) hx hb dX5_order_106 (by decide) ?_
            refine lv_istore (lv' := [(4, .int 0), (3, .int v9), (2, .int v1), (0, .ref (b + 157)), (1, .int a1)]) hx hb dX5_order_107 hl (by decide) rfl (fun ls hl => ?_)
            refine lv_iload_n hx hb dX5_order_109 rfl (lv_at hl 2 rfl) ?_
            refine lv_bipush (v := 112) hx hb dX5_order_110 (by decide) ?_
            refine lv_icmp_ne (tgt := 159) hx hb dX5_order_112 (by decide) (fun _ => ?_) (fun c => absurd (c8.symm.trans c) (by decide))
            refine lv_iload_n hx hb dX5_order_159 rfl (lv_at hl 4 rfl) ?_
            refine lv_if_ne (tgt := 165) hx hb dX5_order_160 (by decide) (fun c10 => ?_) (fun c10 => ?_)
            · have h := mm_neg c10 h
              have hl := lv_sub (l' := [(4, .int 0), (3, .int v9), (2, .int v1), (0, .ref (b + 157))]) hl [0, 1, 2, 3] rfl
              refine lv_iload_n hx hb dX5_order_165 rfl (lv_at hl 2 rfl) ?_
              refine lv_bipush (v := 43) hx hb dX5_order_166 (by decide) ?_
              refine lv_icmp_ne (tgt := 179) hx hb dX5_order_168 (by decide) (fun _ => ?_) (fun c => absurd (c8.symm.trans c) (by decide))
              refine lv_iload_n hx hb dX5_order_179 rfl (lv_at hl 2 rfl) ?_
              refine lv_bipush (v := 111) hx hb dX5_order_180 (by decide) ?_
              refine lv_icmp_ne (tgt := 194) hx hb dX5_order_182 (by decide) (fun _ => ?_) (fun c => absurd (c8.symm.trans c) (by decide))
              refine lv_iload_n hx hb dX5_order_194 rfl (lv_at hl 2 rfl) ?_
              refine lv_bipush (v := 99) hx hb dX5_order_195 (by decide) ?_
              refine lv_icmp_ne (tgt := 209) hx hb dX5_order_197 (by decide) (fun c => absurd c8 c) (fun _ => ?_)
              have hl := lv_sub (l' := [(3, .int v9), (0, .ref (b + 157))]) hl [1, 3] rfl
              refine lv_aload_n hx hb dX5_order_200 rfl (lv_at hl 1 rfl) ?_
              refine lv_iload_n hx hb dX5_order_201 rfl (lv_at hl 0 rfl) ?_
              refine lv_iconst (v := 0) hx hb dX5_order_202 (by decide) ?_
              obtain ⟨x9, v10, e13, h⟩ := mm_bnd2 h
              refine mm_goi hH (va_runV (As := [.int v9, .int 0]) (rest := []) ⟨hx, hb, C.2.2.1, C.2.2.2.1, C.2.2.2.2.1⟩ (ct_X5_turns l G T b z v9 0 x8 e13) (cwV 2 C.2.2.2.2.1 gX5_order_X5_turns rfl rfl rfl df_X5_turns ⟨Nat.le_of_ble_eq_true rfl, Nat.le_of_ble_eq_true rfl⟩) ⟨mm_B.blind, mm_recv (q := (RX5, TX5, 14)) C hH kl_157 (mm_e5 kd_157) rfl, mm_pre C hH⟩ rfl rfl hl.1 rfl (lv_room (Nat.le_of_ble_eq_true rfl)) dX5_order_203 ⟨Nat.zero_le _, Nat.zero_le _⟩) (fun H locs hH => ?_)
              refine lv_goto (tgt := 230) hx hb dX5_order_206 (by decide) ?_
              have hl := lv_sub (l' := []) hl [] rfl
              exact mm_iret C hH hr hlk rfl h dX5_order_230
            · have h := mm_pos c10 h
              have hl := lv_sub (l' := []) hl [] rfl
              refine lv_iconst (v := 0) hx hb dX5_order_163 (by decide) ?_
              exact mm_iret C hH hr hlk rfl h dX5_order_164
          · have h := mm_pos c9 h
            have hl := lv_sub (l' := []) hl [] rfl
            refine lv_bipush (v := (-3)) hx hb dX5_order_79 (by decide) ?_
            exact mm_iret C hH hr hlk rfl h dX5_order_81
        · have h := mm_neg c8 h
          refine lv_iload_n hx hb dX5_order_43 rfl (lv_at hl 0 rfl) ?_
          refine lv_bipush (v := 112) hx hb dX5_order_44 (by decide) ?_
          refine lv_icmp_eq (tgt := 58) hx hb dX5_order_46 (by decide) (fun c11 => ?_) (fun c11 => ?_)
          · have h := mm_pos c11 h
            refine lv_aload_n hx hb dX5_order_58 rfl (lv_at hl 1 rfl) ?_
            refine lv_dup hx hb dX5_order_59 rfl ?_
            refine mm_get (v := .int (x 157 8)) C hH hin5 rfl kl_157 (mm_e5 kd_157) (j := 8) (by decide) rfl w1 rfl dX5_order_60 ?_
            refine lv_iconst (v := 1) hx hb dX5_order_63 (by decide) ?_
            refine lv_iadd hx hb dX5_order_64 ?_
            obtain ⟨x10, e14, h⟩ := mm_bnd h
            refine mm_put (ty := .int) C hH hin5 tyX5_ok nmX5 rfl kl_157 (mm_e5 kd_157) (j := 8) (by decide) rfl w1 pd_I rfl rfl (Nat.le_of_ble_eq_true rfl) (sp_5_8 kd_157) (Option.some.inj e14) dX5_order_65 (fun H locs hH => ?_)
            refine lv_aload_n hx hb dX5_order_68 rfl (lv_at hl 1 rfl) ?_
            refine lv_bipush (v := 48) hx hb dX5_order_69 (by decide) ?_
            refine lv_bipush (v := 57) hx hb dX5_order_71 (by decide) ?_
            obtain ⟨v11, e15, h⟩ := mm_bnd h
            refine mm_goi hH (va_runV (As := [.int 48, .int 57]) (rest := []) ⟨hx, hb, C.2.2.1, C.2.2.2.1, C.2.2.2.2.1⟩ (ct_X5_sees l G T b z 48 57 x10 e15) (cwV 2 C.2.2.2.2.1 gX5_order_X5_sees rfl rfl rfl df_X5_sees ⟨Nat.le_of_ble_eq_true rfl, Nat.le_of_ble_eq_true rfl⟩) ⟨mm_B.blind, mm_recv (q := (RX5, TX5, 14)) C hH kl_157 (mm_e5 kd_157) rfl, mm_pre C hH⟩ rfl rfl hl.1 rfl (lv_room (Nat.le_of_ble_eq_true rfl)) dX5_order_73 ⟨Nat.zero_le _, Nat.zero_le _⟩) (fun H locs hH => ?_)
            refine lv_if_ne (tgt := 82) hx hb dX5_order_76 (by decide) (fun c12 => ?_) (fun c12 => ?_)
            · have h := mm_neg c12 h
              refine lv_iload_n hx hb dX5_order_82 rfl (lv_at hl 0 rfl) ?_
              refine lv_bipush (v := 43) hx hb dX5_order_83 (by decide) ?_
              refine lv_icmp_eq (tgt := 94) hx hb dX5_order_85 (by decide) (fun c => absurd (c11.symm.trans c) (by decide)) (fun _ => ?_)
              refine lv_iload_n hx hb dX5_order_88 rfl (lv_at hl 0 rfl) ?_
              refine lv_bipush (v := 116) hx hb dX5_order_89 (by decide) ?_
              refine lv_icmp_ne (tgt := 101) hx hb dX5_order_91 (by decide) (fun _ => ?_) (fun c => absurd (c11.symm.trans c) (by decide))
              refine lv_aload_n hx hb dX5_order_101 rfl (lv_at hl 1 rfl) ?_
              obtain ⟨x11, v12, e16, h⟩ := mm_bnd2 h
              refine mm_goi hH (va_runV (As := []) (rest := []) ⟨hx, hb, C.2.2.1, C.2.2.2.1, C.2.2.2.2.1⟩ (ct_X5_digit l G T b z x10 e16) (cwV 0 C.2.2.2.2.1 gX5_order_X5_digit rfl rfl rfl df_X5_digit ⟨Nat.le_of_ble_eq_true rfl, Nat.le_of_ble_eq_true rfl⟩) ⟨mm_B.blind, mm_recv (q := (RX5, TX5, 14)) C hH kl_157 (mm_e5 kd_157) rfl, mm_pre C hH⟩ rfl rfl hl.1 rfl (lv_room (Nat.le_of_ble_eq_true rfl)) dX5_order_102 ⟨Nat.zero_le _, Nat.zero_le _⟩) (fun H locs hH => ?_)
              refine lv_istore_n (lv' := [(3, .int v12), (2, .int v1), (0, .ref (b + 157)), (1, .int a1)]) hx hb dX5_order_105 rfl hl (by decide) rfl (fun ls hl => ?_)
              refine lv_iconst (v := 0) hx hb dX5_order_106 (by decide) ?_
              refine lv_istore (lv' := [(4, .int 0), (3, .int v12), (2, .int v1), (0, .ref (b + 157)), (1, .int a1)]) hx hb dX5_order_107 hl (by decide) rfl (fun ls hl => ?_)
              refine lv_iload_n hx hb dX5_order_109 rfl (lv_at hl 2 rfl) ?_
              refine lv_bipush (v := 112) hx hb dX5_order_110 (by decide) ?_
              refine lv_icmp_ne (tgt := 159) hx hb dX5_order_112 (by decide) (fun c => absurd c11 c) (fun _ => ?_)
              have hl := lv_sub (l' := [(3, .int v12), (2, .int v1), (0, .ref (b + 157)), (1, .int a1)]) hl [1, 2, 3, 4] rfl
              refine lv_aload_n hx hb dX5_order_115 rfl (lv_at hl 2 rfl) ?_
              refine lv_bipush (v := 61) hx hb dX5_order_116 (by decide) ?_
              refine lv_bipush (v := 61) hx hb dX5_order_118 (by decide) ?_
              obtain ⟨v13, e17, h⟩ := mm_bnd h
              refine mm_goi hH (va_runV (As := [.int 61, .int 61]) (rest := []) ⟨hx, hb, C.2.2.1, C.2.2.2.1, C.2.2.2.2.1⟩ (ct_X5_sees l G T b z 61 61 x11 e17) (cwV 2 C.2.2.2.2.1 gX5_order_X5_sees rfl rfl rfl df_X5_sees ⟨Nat.le_of_ble_eq_true rfl, Nat.le_of_ble_eq_true rfl⟩) ⟨mm_B.blind, mm_recv (q := (RX5, TX5, 14)) C hH kl_157 (mm_e5 kd_157) rfl, mm_pre C hH⟩ rfl rfl hl.1 rfl (lv_room (Nat.le_of_ble_eq_true rfl)) dX5_order_120 ⟨Nat.zero_le _, Nat.zero_le _⟩) (fun H locs hH => ?_)
              refine lv_if_ne (tgt := 129) hx hb dX5_order_123 (by decide) (fun c13 => ?_) (fun c13 => ?_)
              · have h := mm_neg c13 h
                refine lv_aload_n hx hb dX5_order_129 rfl (lv_at hl 2 rfl) ?_
                refine lv_dup hx hb dX5_order_130 rfl ?_
                refine mm_get (v := .int (x11 157 8)) C hH hin5 rfl kl_157 (mm_e5 kd_157) (j := 8) (by decide) rfl w1 rfl dX5_order_131 ?_
                refine lv_iconst (v := 1) hx hb dX5_order_134 (by decide) ?_
                refine lv_iadd hx hb dX5_order_135 ?_
                obtain ⟨x12, e18, h⟩ := mm_bnd h
                refine mm_put (ty := .int) C hH hin5 tyX5_ok nmX5 rfl kl_157 (mm_e5 kd_157) (j := 8) (by decide) rfl w1 pd_I rfl rfl (Nat.le_of_ble_eq_true rfl) (sp_5_8 kd_157) (Option.some.inj e18) dX5_order_136 (fun H locs hH => ?_)
                refine lv_aload_n hx hb dX5_order_139 rfl (lv_at hl 2 rfl) ?_
                refine lv_bipush (v := 48) hx hb dX5_order_140 (by decide) ?_
                refine lv_bipush (v := 57) hx hb dX5_order_142 (by decide) ?_
                obtain ⟨v14, e19, h⟩ := mm_bnd h
                refine mm_goi hH (va_runV (As := [.int 48, .int 57]) (rest := []) ⟨hx, hb, C.2.2.1, C.2.2.2.1, C.2.2.2.2.1⟩ (ct_X5_sees l G T b z 48 57 x12 e19) (cwV 2 C.2.2.2.2.1 gX5_order_X5_sees rfl rfl rfl df_X5_sees ⟨Nat.le_of_ble_eq_true rfl, Nat.le_of_ble_eq_true rfl⟩) ⟨mm_B.blind, mm_recv (q := (RX5, TX5, 14)) C hH kl_157 (mm_e5 kd_157) rfl, mm_pre C hH⟩ rfl rfl hl.1 rfl (lv_room (Nat.le_of_ble_eq_true rfl)) dX5_order_144 ⟨Nat.zero_le _, Nat.zero_le _⟩) (fun H locs hH => ?_)
                refine lv_if_ne (tgt := 153) hx hb dX5_order_147 (by decide) (fun c14 => ?_) (fun c14 => ?_)
                · have h := mm_neg c14 h
                  refine lv_aload_n hx hb dX5_order_153 rfl (lv_at hl 2 rfl) ?_
                  obtain ⟨x13, v15, e20, h⟩ := mm_bnd2 h
                  refine mm_goi hH (va_runV (As := []) (rest := []) ⟨hx, hb, C.2.2.1, C.2.2.2.1, C.2.2.2.2.1⟩ (ct_X5_number l G T b z x12 e20) (cwV 0 C.2.2.2.2.1 gX5_order_X5_number rfl rfl rfl df_X5_number ⟨Nat.le_of_ble_eq_true rfl, Nat.le_of_ble_eq_true rfl⟩) ⟨mm_B.blind, mm_recv (q := (RX5, TX5, 14)) C hH kl_157 (mm_e5 kd_157) rfl, mm_pre C hH⟩ rfl rfl hl.1 rfl (lv_room (Nat.le_of_ble_eq_true rfl)) dX5_order_154 ⟨Nat.zero_le _, Nat.zero_le _⟩) (fun H locs hH => ?_)
                  refine lv_istore (lv' := [(4, .int v15), (3, .int v12), (2, .int v1), (0, .ref (b + 157)), (1, .int a1)]) hx hb dX5_order_157 hl (by decide) rfl (fun ls hl => ?_)
                  refine lv_iload_n hx hb dX5_order_159 rfl (lv_at hl 4 rfl) ?_
                  refine lv_if_ne (tgt := 165) hx hb dX5_order_160 (by decide) (fun c15 => ?_) (fun c15 => ?_)
                  · have h := mm_neg c15 h
                    have hl := lv_sub (l' := [(4, .int v15), (3, .int v12), (2, .int v1), (0, .ref (b + 157))]) hl [0, 1, 2, 3] rfl
                    refine lv_iload_n hx hb dX5_order_165 rfl (lv_at hl 2 rfl) ?_
                    refine lv_bipush (v := 43) hx hb dX5_order_166 (by decide) ?_
                    refine lv_icmp_ne (tgt := 179) hx hb dX5_order_168 (by decide) (fun _ => ?_) (fun c => absurd (c11.symm.trans c) (by decide))
                    refine lv_iload_n hx hb dX5_order_179 rfl (lv_at hl 2 rfl) ?_
                    refine lv_bipush (v := 111) hx hb dX5_order_180 (by decide) ?_
                    refine lv_icmp_ne (tgt := 194) hx hb dX5_order_182 (by decide) (fun _ => ?_) (fun c => absurd (c11.symm.trans c) (by decide))
                    refine lv_iload_n hx hb dX5_order_194 rfl (lv_at hl 2 rfl) ?_
                    refine lv_bipush (v := 99) hx hb dX5_order_195 (by decide) ?_
                    refine lv_icmp_ne (tgt := 209) hx hb dX5_order_197 (by decide) (fun _ => ?_) (fun c => absurd (c11.symm.trans c) (by decide))
                    refine lv_iload_n hx hb dX5_order_209 rfl (lv_at hl 2 rfl) ?_
                    refine lv_bipush (v := 112) hx hb dX5_order_210 (by decide) ?_
                    refine lv_icmp_ne (tgt := 225) hx hb dX5_order_212 (by decide) (fun c => absurd c11 c) (fun _ => ?_)
                    have hl := lv_sub (l' := [(4, .int v15), (3, .int v12), (0, .ref (b + 157))]) hl [0, 1, 3] rfl
                    refine lv_aload_n hx hb dX5_order_215 rfl (lv_at hl 2 rfl) ?_
                    refine lv_iload_n hx hb dX5_order_216 rfl (lv_at hl 1 rfl) ?_
                    refine lv_iload hx hb dX5_order_217 (lv_at hl 0 rfl) ?_
                    obtain ⟨x14, v16, e21, h⟩ := mm_bnd2 h
                    refine mm_goi hH (va_runV (As := [.int v12, .int v15]) (rest := []) ⟨hx, hb, C.2.2.1, C.2.2.2.1, C.2.2.2.2.1⟩ (ct_X5_costs l G T b z v12 v15 x13 e21) (cwV 2 C.2.2.2.2.1 gX5_order_X5_costs rfl rfl rfl df_X5_costs ⟨Nat.le_of_ble_eq_true rfl, Nat.le_of_ble_eq_true rfl⟩) ⟨mm_B.blind, mm_recv (q := (RX5, TX5, 14)) C hH kl_157 (mm_e5 kd_157) rfl, mm_pre C hH⟩ rfl rfl hl.1 rfl (lv_room (Nat.le_of_ble_eq_true rfl)) dX5_order_219 ⟨Nat.zero_le _, Nat.zero_le _⟩) (fun H locs hH => ?_)
                    refine lv_goto (tgt := 230) hx hb dX5_order_222 (by decide) ?_
                    have hl := lv_sub (l' := []) hl [] rfl
                    exact mm_iret C hH hr hlk rfl h dX5_order_230
                  · have h := mm_pos c15 h
                    have hl := lv_sub (l' := []) hl [] rfl
                    refine lv_iconst (v := 0) hx hb dX5_order_163 (by decide) ?_
                    exact mm_iret C hH hr hlk rfl h dX5_order_164
                · have h := mm_pos c14 h
                  have hl := lv_sub (l' := []) hl [] rfl
                  refine lv_bipush (v := (-3)) hx hb dX5_order_150 (by decide) ?_
                  exact mm_iret C hH hr hlk rfl h dX5_order_152
              · have h := mm_pos c13 h
                have hl := lv_sub (l' := []) hl [] rfl
                refine lv_bipush (v := (-3)) hx hb dX5_order_126 (by decide) ?_
                exact mm_iret C hH hr hlk rfl h dX5_order_128
            · have h := mm_pos c12 h
              have hl := lv_sub (l' := []) hl [] rfl
              refine lv_bipush (v := (-3)) hx hb dX5_order_79 (by decide) ?_
              exact mm_iret C hH hr hlk rfl h dX5_order_81
          · have h := mm_neg c11 h
            refine lv_iload_n hx hb dX5_order_49 rfl (lv_at hl 0 rfl) ?_
            refine lv_bipush (v := 116) hx hb dX5_order_50 (by decide) ?_
            refine lv_icmp_eq (tgt := 58) hx hb dX5_order_52 (by decide) (fun c16 => ?_) (fun c16 => ?_)
            · have h := mm_pos c16 h
              refine lv_aload_n hx hb dX5_order_58 rfl (lv_at hl 1 rfl) ?_
              refine lv_dup hx hb dX5_order_59 rfl ?_
              refine mm_get (v := .int (x 157 8)) C hH hin5 rfl kl_157 (mm_e5 kd_157) (j := 8) (by decide) rfl w1 rfl dX5_order_60 ?_
              refine lv_iconst (v := 1) hx hb dX5_order_63 (by decide) ?_
              refine lv_iadd hx hb dX5_order_64 ?_
              obtain ⟨x15, e22, h⟩ := mm_bnd h
              refine mm_put (ty := .int) C hH hin5 tyX5_ok nmX5 rfl kl_157 (mm_e5 kd_157) (j := 8) (by decide) rfl w1 pd_I rfl rfl (Nat.le_of_ble_eq_true rfl) (sp_5_8 kd_157) (Option.some.inj e22) dX5_order_65 (fun H locs hH => ?_)
              refine lv_aload_n hx hb dX5_order_68 rfl (lv_at hl 1 rfl) ?_
              refine lv_bipush (v := 48) hx hb dX5_order_69 (by decide) ?_
              refine lv_bipush (v := 57) hx hb dX5_order_71 (by decide) ?_
              obtain ⟨v17, e23, h⟩ := mm_bnd h
              refine mm_goi hH (va_runV (As := [.int 48, .int 57]) (rest := []) ⟨hx, hb, C.2.2.1, C.2.2.2.1, C.2.2.2.2.1⟩ (ct_X5_sees l G T b z 48 57 x15 e23) (cwV 2 C.2.2.2.2.1 gX5_order_X5_sees rfl rfl rfl df_X5_sees ⟨Nat.le_of_ble_eq_true rfl, Nat.le_of_ble_eq_true rfl⟩) ⟨mm_B.blind, mm_recv (q := (RX5, TX5, 14)) C hH kl_157 (mm_e5 kd_157) rfl, mm_pre C hH⟩ rfl rfl hl.1 rfl (lv_room (Nat.le_of_ble_eq_true rfl)) dX5_order_73 ⟨Nat.zero_le _, Nat.zero_le _⟩) (fun H locs hH => ?_)
              refine lv_if_ne (tgt := 82) hx hb dX5_order_76 (by decide) (fun c17 => ?_) (fun c17 => ?_)
              · have h := mm_neg c17 h
                refine lv_iload_n hx hb dX5_order_82 rfl (lv_at hl 0 rfl) ?_
                refine lv_bipush (v := 43) hx hb dX5_order_83 (by decide) ?_
                refine lv_icmp_eq (tgt := 94) hx hb dX5_order_85 (by decide) (fun c => absurd (c16.symm.trans c) (by decide)) (fun _ => ?_)
                refine lv_iload_n hx hb dX5_order_88 rfl (lv_at hl 0 rfl) ?_
                refine lv_bipush (v := 116) hx hb dX5_order_89 (by decide) ?_
                refine lv_icmp_ne (tgt := 101) hx hb dX5_order_91 (by decide) (fun c => absurd c16 c) (fun _ => ?_)
                refine lv_aload_n hx hb dX5_order_94 rfl (lv_at hl 1 rfl) ?_
                obtain ⟨x16, v18, e24, h⟩ := mm_bnd2 h
                refine mm_goi hH (va_runV (As := []) (rest := []) ⟨hx, hb, C.2.2.1, C.2.2.2.1, C.2.2.2.2.1⟩ (ct_X5_number l G T b z x15 e24) (cwV 0 C.2.2.2.2.1 gX5_order_X5_number rfl rfl rfl df_X5_number ⟨Nat.le_of_ble_eq_true rfl, Nat.le_of_ble_eq_true rfl⟩) ⟨mm_B.blind, mm_recv (q := (RX5, TX5, 14)) C hH kl_157 (mm_e5 kd_157) rfl, mm_pre C hH⟩ rfl rfl hl.1 rfl (lv_room (Nat.le_of_ble_eq_true rfl)) dX5_order_95 ⟨Nat.zero_le _, Nat.zero_le _⟩) (fun H locs hH => ?_)
                refine lv_goto (tgt := 105) hx hb dX5_order_98 (by decide) ?_
                refine lv_istore_n (lv' := [(3, .int v18), (2, .int v1), (0, .ref (b + 157)), (1, .int a1)]) hx hb dX5_order_105 rfl hl (by decide) rfl (fun ls hl => ?_)
                refine lv_iconst (v := 0) hx hb dX5_order_106 (by decide) ?_
                refine lv_istore (lv' := [(4, .int 0), (3, .int v18), (2, .int v1), (0, .ref (b + 157)), (1, .int a1)]) hx hb dX5_order_107 hl (by decide) rfl (fun ls hl => ?_)
                refine lv_iload_n hx hb dX5_order_109 rfl (lv_at hl 2 rfl) ?_
                refine lv_bipush (v := 112) hx hb dX5_order_110 (by decide) ?_
                refine lv_icmp_ne (tgt := 159) hx hb dX5_order_112 (by decide) (fun _ => ?_) (fun c => absurd (c16.symm.trans c) (by decide))
                refine lv_iload_n hx hb dX5_order_159 rfl (lv_at hl 4 rfl) ?_
                refine lv_if_ne (tgt := 165) hx hb dX5_order_160 (by decide) (fun c18 => ?_) (fun c18 => ?_)
                · have h := mm_neg c18 h
                  have hl := lv_sub (l' := [(4, .int 0), (3, .int v18), (2, .int v1), (0, .ref (b + 157))]) hl [0, 1, 2, 3] rfl
                  refine lv_iload_n hx hb dX5_order_165 rfl (lv_at hl 2 rfl) ?_
                  refine lv_bipush (v := 43) hx hb dX5_order_166 (by decide) ?_
                  refine lv_icmp_ne (tgt := 179) hx hb dX5_order_168 (by decide) (fun _ => ?_) (fun c => absurd (c16.symm.trans c) (by decide))
                  refine lv_iload_n hx hb dX5_order_179 rfl (lv_at hl 2 rfl) ?_
                  refine lv_bipush (v := 111) hx hb dX5_order_180 (by decide) ?_
                  refine lv_icmp_ne (tgt := 194) hx hb dX5_order_182 (by decide) (fun _ => ?_) (fun c => absurd (c16.symm.trans c) (by decide))
                  refine lv_iload_n hx hb dX5_order_194 rfl (lv_at hl 2 rfl) ?_
                  refine lv_bipush (v := 99) hx hb dX5_order_195 (by decide) ?_
                  refine lv_icmp_ne (tgt := 209) hx hb dX5_order_197 (by decide) (fun _ => ?_) (fun c => absurd (c16.symm.trans c) (by decide))
                  refine lv_iload_n hx hb dX5_order_209 rfl (lv_at hl 2 rfl) ?_
                  refine lv_bipush (v := 112) hx hb dX5_order_210 (by decide) ?_
                  refine lv_icmp_ne (tgt := 225) hx hb dX5_order_212 (by decide) (fun _ => ?_) (fun c => absurd (c16.symm.trans c) (by decide))
                  have hl := lv_sub (l' := [(3, .int v18), (0, .ref (b + 157))]) hl [1, 3] rfl
                  refine lv_aload_n hx hb dX5_order_225 rfl (lv_at hl 1 rfl) ?_
                  refine lv_iload_n hx hb dX5_order_226 rfl (lv_at hl 0 rfl) ?_
                  obtain ⟨x17, v19, e25, h⟩ := mm_bnd2 h
                  refine mm_goi hH (va_runV (As := [.int v18]) (rest := []) ⟨hx, hb, C.2.2.1, C.2.2.2.1, C.2.2.2.2.1⟩ (ct_X5_waits l G T b z v18 x16 e25) (cwV 1 C.2.2.2.2.1 gX5_order_X5_waits rfl rfl rfl df_X5_waits ⟨Nat.le_of_ble_eq_true rfl, Nat.le_of_ble_eq_true rfl⟩) ⟨mm_B.blind, mm_recv (q := (RX5, TX5, 14)) C hH kl_157 (mm_e5 kd_157) rfl, mm_pre C hH⟩ rfl rfl hl.1 rfl (lv_room (Nat.le_of_ble_eq_true rfl)) dX5_order_227 ⟨Nat.zero_le _, Nat.zero_le _⟩) (fun H locs hH => ?_)
                  exact mm_iret C hH hr hlk rfl h dX5_order_230
                · have h := mm_pos c18 h
                  have hl := lv_sub (l' := []) hl [] rfl
                  refine lv_iconst (v := 0) hx hb dX5_order_163 (by decide) ?_
                  exact mm_iret C hH hr hlk rfl h dX5_order_164
              · have h := mm_pos c17 h
                have hl := lv_sub (l' := []) hl [] rfl
                refine lv_bipush (v := (-3)) hx hb dX5_order_79 (by decide) ?_
                exact mm_iret C hH hr hlk rfl h dX5_order_81
            · have h := mm_neg c16 h
              have hl := lv_sub (l' := []) hl [] rfl
              refine lv_bipush (v := (-3)) hx hb dX5_order_55 (by decide) ?_
              exact mm_iret C hH hr hlk rfl h dX5_order_57
def fn_X5_isWell_19 : Nat → Int32 → mm_M → Option (mm_M × Int32)
  | 0, _, _ => none
  | n + 1, i1, x => if i1 = 0 then some (x, i1) else if (x 157 7) ≤ (x 157 8) then some (x, i1) else (fn_X5_sees 59 59 x).bind fun v1 => if v1 = 0 then (some (mm_up x 157 8 ((x 157 8) + 0))).bind fun x1 => fn_X5_isWell_19 n  0 x1 else (some (mm_up x 157 8 ((x 157 8) + 1))).bind fun x2 => if v1 = 0 then fn_X5_isWell_19 n  0 x2 else mm_b2 (fn_X5_order 0 x2) fun x3 v2 => if v2 = 0 then fn_X5_isWell_19 n  1 x3 else fn_X5_isWell_19 n  0 x3
def fn_X5_isWell  (x : mm_M) : Option (mm_M × Int32) :=
  (some (mm_up x 157 8 0)).bind fun x1 => mm_b2 (fn_X5_order 0 x1) fun x2 v1 => if v1 = 0 then mm_b2 (fn_X5_isWell_19 81 1 x2) fun x4 v3 => if vp_nar .boolean v3 = v3 then some (x4, v3) else none else mm_b2 (fn_X5_isWell_19 81 0 x2) fun x3 v2 => if vp_nar .boolean v2 = v2 then some (x3, v2) else none
abbrev rm_X5_isWell : Room := { frames := 5, cells := 0, slots := 0, locals := 116 }
theorem df_X5_isWell : yX5_isWell.cls = RX5 ∧ yX5_isWell.cls ≠ "java/lang/invoke/MethodHandle" ∧ yX5_isWell.cls ≠ "java/lang/invoke/VarHandle" ∧ (parseMethodDescriptor yX5_isWell.desc).map (fun d => d.parameters.length) = some 0 := by decide +kernel
set_option maxRecDepth 100000 in
set_option maxHeartbeats 4000000 in
theorem lp_X5_isWell_19 {p : Program} {l : Launch} {e : Env} {s : State} {m : MethodId} {args : Array Value} {below : List Frame} {meth : Method} {c : Code} {Q : State → Prop} {G : va_G} {T : Nat → ClassId} {b : Nat} {z : Nat → Nat} (C : mm_C p m c cX5_isWell 2 s args wsX5_isWell RX5 G T b z)  : ∀ (n : Nat) (i1 : Int32) (x : mm_M) (H : Heap) (locs : List Loc) (ls : Array Slot) (x1 : mm_M) (r1 : Int32), fn_X5_isWell_19 n i1 x = some (x1, r1) → mm_H G T b x s H locs → lv_has ls 2 [(0, .ref (b + 157)), (1, .int i1)] → (∀ (H1 : Heap) (locs1 : List Loc) (ls1 : Array Slot), mm_H G T b x1 s H1 locs1 → lv_has ls1 2 [(1, .int r1)] → W p l e rm_X5_isWell s m args below meth c H1 locs1 0 0 Q (F0 m 82 ls1 [])) → W p l e rm_X5_isWell s m args below meth c H locs 0 0 Q (F0 m 19 ls []) := by
  have hx := C.1
  have hb := C.2.1
  have w1 := C.2.2.2.2.1 (.fieldLink RX5 125 "LandingFinesModel" "at" "I") (by decide +kernel)
  have w2 := C.2.2.2.2.1 (.fieldLink RX5 114 "LandingFinesModel" "length" "I") (by decide +kernel)
  have hin5 : ∀ w ∈ wsX50, w ∈ wsX5_isWell := by decide +kernel
  intro n
  induction n with
  | zero => intro _ _ _ _ _ _ _ h; cases (show (none : Option (mm_M × Int32)) = some _ from h)
  | succ n ih =>
    intro i1 x H locs ls x1 r1 h hH hl kk
    rw [fn_X5_isWell_19] at h
    refine lv_iload_n hx hb dX5_isWell_19 rfl (lv_at hl 1 rfl) ?_
    refine lv_if_eq (tgt := 82) hx hb dX5_isWell_20 (by decide) (fun c1 => ?_) (fun c1 => ?_)
    · have h := mm_pos c1 h
      have hl := lv_sub (l' := [(1, .int i1)]) hl [1] rfl
      cases h
      exact kk _ _ _ hH (lv_sub hl [0] rfl)
    · have h := mm_neg c1 h
      refine lv_aload_n hx hb dX5_isWell_23 rfl (lv_at hl 0 rfl) ?_
      refine mm_get (v := .int (x 157 8)) C hH hin5 rfl kl_157 (mm_e5 kd_157) (j := 8) (by decide) rfl w1 rfl dX5_isWell_24 ?_
      refine lv_aload_n hx hb dX5_isWell_27 rfl (lv_at hl 0 rfl) ?_
      refine mm_get (v := .int (x 157 7)) C hH hin5 rfl kl_157 (mm_e5 kd_157) (j := 7) (by decide) rfl w2 rfl dX5_isWell_28 ?_
      refine lv_icmp_ge (tgt := 82) hx hb dX5_isWell_31 (by decide) (fun c2 => ?_) (fun c2 => ?_)
      · have h := mm_pos c2 h
        have hl := lv_sub (l' := [(1, .int i1)]) hl [1] rfl
        cases h
        exact kk _ _ _ hH (lv_sub hl [0] rfl)
      · have h := mm_neg c2 h
        have hl := lv_sub (l' := [(0, .ref (b + 157))]) hl [0] rfl
        refine lv_aload_n hx hb dX5_isWell_34 rfl (lv_at hl 0 rfl) ?_
        refine lv_bipush (v := 59) hx hb dX5_isWell_35 (by decide) ?_
        refine lv_bipush (v := 59) hx hb dX5_isWell_37 (by decide) ?_
        obtain ⟨v1, e1, h⟩ := mm_bnd h
        refine mm_goi hH (va_runV (As := [.int 59, .int 59]) (rest := []) ⟨hx, hb, C.2.2.1, C.2.2.2.1, C.2.2.2.2.1⟩ (ct_X5_sees l G T b z 59 59 x e1) (cwV 2 C.2.2.2.2.1 gX5_isWell_X5_sees rfl rfl rfl df_X5_sees ⟨Nat.le_of_ble_eq_true rfl, Nat.le_of_ble_eq_true rfl⟩) ⟨mm_B.blind, mm_recv (q := (RX5, TX5, 14)) C hH kl_157 (mm_e5 kd_157) rfl, mm_pre C hH⟩ rfl rfl hl.1 rfl (lv_room (Nat.le_of_ble_eq_true rfl)) dX5_isWell_39 ⟨Nat.zero_le _, Nat.zero_le _⟩) (fun H locs hH => ?_)
        refine lv_istore_n (lv' := [(1, .int v1), (0, .ref (b + 157))]) hx hb dX5_isWell_42 rfl hl (by decide) rfl (fun ls hl => ?_)
        refine lv_aload_n hx hb dX5_isWell_43 rfl (lv_at hl 1 rfl) ?_
        refine lv_dup hx hb dX5_isWell_44 rfl ?_
        refine mm_get (v := .int (x 157 8)) C hH hin5 rfl kl_157 (mm_e5 kd_157) (j := 8) (by decide) rfl w1 rfl dX5_isWell_45 ?_
        refine lv_iload_n hx hb dX5_isWell_48 rfl (lv_at hl 0 rfl) ?_
        refine lv_if_eq (tgt := 56) hx hb dX5_isWell_49 (by decide) (fun c3 => ?_) (fun c3 => ?_)
        · have h := mm_pos c3 h
          refine lv_iconst (v := 0) hx hb dX5_isWell_56 (by decide) ?_
          refine lv_iadd hx hb dX5_isWell_57 ?_
          obtain ⟨x1, e2, h⟩ := mm_bnd h
          refine mm_put (ty := .int) C hH hin5 tyX5_ok nmX5 rfl kl_157 (mm_e5 kd_157) (j := 8) (by decide) rfl w1 pd_I rfl rfl (Nat.le_of_ble_eq_true rfl) (sp_5_8 kd_157) (Option.some.inj e2) dX5_isWell_58 (fun H locs hH => ?_)
          refine lv_iload_n hx hb dX5_isWell_61 rfl (lv_at hl 0 rfl) ?_
          refine lv_if_eq (tgt := 77) hx hb dX5_isWell_62 (by decide) (fun _ => ?_) (fun c => absurd c3 c)
          have hl := lv_sub (l' := [(0, .ref (b + 157))]) hl [1] rfl
          refine lv_iconst (v := 0) hx hb dX5_isWell_77 (by decide) ?_
          refine lv_istore_n (lv' := [(1, .int 0), (0, .ref (b + 157))]) hx hb dX5_isWell_78 rfl hl (by decide) rfl (fun ls hl => ?_)
          refine lv_goto (tgt := 19) hx hb dX5_isWell_79 (by decide) ?_
          exact ih 0 x1 _ _ _ _ _ h hH (lv_sub hl [1, 0] rfl) kk
        · have h := mm_neg c3 h
          refine lv_iconst (v := 1) hx hb dX5_isWell_52 (by decide) ?_
          refine lv_goto (tgt := 57) hx hb dX5_isWell_53 (by decide) ?_
          refine lv_iadd hx hb dX5_isWell_57 ?_
          obtain ⟨x2, e3, h⟩ := mm_bnd h
          refine mm_put (ty := .int) C hH hin5 tyX5_ok nmX5 rfl kl_157 (mm_e5 kd_157) (j := 8) (by decide) rfl w1 pd_I rfl rfl (Nat.le_of_ble_eq_true rfl) (sp_5_8 kd_157) (Option.some.inj e3) dX5_isWell_58 (fun H locs hH => ?_)
          refine lv_iload_n hx hb dX5_isWell_61 rfl (lv_at hl 0 rfl) ?_
          refine lv_if_eq (tgt := 77) hx hb dX5_isWell_62 (by decide) (fun c4 => ?_) (fun c4 => ?_)
          · have h := mm_pos c4 h
            have hl := lv_sub (l' := [(0, .ref (b + 157))]) hl [1] rfl
            refine lv_iconst (v := 0) hx hb dX5_isWell_77 (by decide) ?_
            refine lv_istore_n (lv' := [(1, .int 0), (0, .ref (b + 157))]) hx hb dX5_isWell_78 rfl hl (by decide) rfl (fun ls hl => ?_)
            refine lv_goto (tgt := 19) hx hb dX5_isWell_79 (by decide) ?_
            exact ih 0 x2 _ _ _ _ _ h hH (lv_sub hl [1, 0] rfl) kk
          · have h := mm_neg c4 h
            have hl := lv_sub (l' := [(0, .ref (b + 157))]) hl [1] rfl
            refine lv_aload_n hx hb dX5_isWell_65 rfl (lv_at hl 0 rfl) ?_
            refine lv_iconst (v := 0) hx hb dX5_isWell_66 (by decide) ?_
            obtain ⟨x3, v2, e4, h⟩ := mm_bnd2 h
            refine mm_goi hH (va_runV (As := [.int 0]) (rest := []) ⟨hx, hb, C.2.2.1, C.2.2.2.1, C.2.2.2.2.1⟩ (ct_X5_order l G T b z 0 x2 e4) (cwV 1 C.2.2.2.2.1 gX5_isWell_X5_order rfl rfl rfl df_X5_order ⟨Nat.le_of_ble_eq_true rfl, Nat.le_of_ble_eq_true rfl⟩) ⟨mm_B.blind, mm_recv (q := (RX5, TX5, 14)) C hH kl_157 (mm_e5 kd_157) rfl, mm_pre C hH⟩ rfl rfl hl.1 rfl (lv_room (Nat.le_of_ble_eq_true rfl)) dX5_isWell_67 ⟨Nat.zero_le _, Nat.zero_le _⟩) (fun H locs hH => ?_)
            refine lv_if_ne (tgt := 77) hx hb dX5_isWell_70 (by decide) (fun c5 => ?_) (fun c5 => ?_)
            · have h := mm_neg c5 h
              refine lv_iconst (v := 0) hx hb dX5_isWell_77 (by decide) ?_
              refine lv_istore_n (lv' := [(1, .int 0), (0, .ref (b + 157))]) hx hb dX5_isWell_78 rfl hl (by decide) rfl (fun ls hl => ?_)
              refine lv_goto (tgt := 19) hx hb dX5_isWell_79 (by decide) ?_
              exact ih 0 x3 _ _ _ _ _ h hH (lv_sub hl [1, 0] rfl) kk
            · have h := mm_pos c5 h
              refine lv_iconst (v := 1) hx hb dX5_isWell_73 (by decide) ?_
              refine lv_goto (tgt := 78) hx hb dX5_isWell_74 (by decide) ?_
              refine lv_istore_n (lv' := [(1, .int 1), (0, .ref (b + 157))]) hx hb dX5_isWell_78 rfl hl (by decide) rfl (fun ls hl => ?_)
              refine lv_goto (tgt := 19) hx hb dX5_isWell_79 (by decide) ?_
              exact ih 1 x3 _ _ _ _ _ h hH (lv_sub hl [1, 0] rfl) kk
set_option maxRecDepth 100000 in
set_option maxHeartbeats 4000000 in
theorem ct_X5_isWell (l : Launch) (G : va_G) (T : Nat → ClassId) (b : Nat) (z : Nat → Nat)  (x : mm_M) {x1 : mm_M} {r : Int32} (h : fn_X5_isWell  x = some (x1, r)) : mm_Ci l yX5_isWell wsX5_isWell rm_X5_isWell G T b z [.ref (b + 157)] x r x1 := by
  unfold fn_X5_isWell at h
  refine mm_start (cc := cX5_isWell) (maxL := 2) (ret := (some .boolean)) (by decide) rfl (Nat.le_of_ble_eq_true rfl) (fun p e s m below meth c ls C hr hlk hH hl => ?_)
  have hl : lv_has ls 2 [(0, .ref (b + 157))] := hl
  have hx := C.1
  have hb := C.2.1
  have w1 := C.2.2.2.2.1 (.fieldLink RX5 125 "LandingFinesModel" "at" "I") (by decide +kernel)
  have hin5 : ∀ w ∈ wsX50, w ∈ wsX5_isWell := by decide +kernel
  refine lv_aload_n hx hb dX5_isWell_0 rfl (lv_at hl 0 rfl) ?_
  refine lv_iconst (v := 0) hx hb dX5_isWell_1 (by decide) ?_
  obtain ⟨x1, e1, h⟩ := mm_bnd h
  refine mm_put (ty := .int) C hH hin5 tyX5_ok nmX5 rfl kl_157 (mm_e5 kd_157) (j := 8) (by decide) rfl w1 pd_I rfl rfl (Nat.le_of_ble_eq_true rfl) (sp_5_8 kd_157) (Option.some.inj e1) dX5_isWell_2 (fun H locs hH => ?_)
  refine lv_aload_n hx hb dX5_isWell_5 rfl (lv_at hl 0 rfl) ?_
  refine lv_iconst (v := 0) hx hb dX5_isWell_6 (by decide) ?_
  obtain ⟨x2, v1, e2, h⟩ := mm_bnd2 h
  refine mm_goi hH (va_runV (As := [.int 0]) (rest := []) ⟨hx, hb, C.2.2.1, C.2.2.2.1, C.2.2.2.2.1⟩ (ct_X5_order l G T b z 0 x1 e2) (cwV 1 C.2.2.2.2.1 gX5_isWell_X5_order rfl rfl rfl df_X5_order ⟨Nat.le_of_ble_eq_true rfl, Nat.le_of_ble_eq_true rfl⟩) ⟨mm_B.blind, mm_recv (q := (RX5, TX5, 14)) C hH kl_157 (mm_e5 kd_157) rfl, mm_pre C hH⟩ rfl rfl hl.1 rfl (lv_room (Nat.le_of_ble_eq_true rfl)) dX5_isWell_7 ⟨Nat.zero_le _, Nat.zero_le _⟩) (fun H locs hH => ?_)
  refine lv_if_ne (tgt := 17) hx hb dX5_isWell_10 (by decide) (fun c1 => ?_) (fun c1 => ?_)
  · have h := mm_neg c1 h
    refine lv_iconst (v := 0) hx hb dX5_isWell_17 (by decide) ?_
    refine lv_istore_n (lv' := [(1, .int 0), (0, .ref (b + 157))]) hx hb dX5_isWell_18 rfl hl (by decide) rfl (fun ls hl => ?_)
    obtain ⟨x3, v2, e3, h⟩ := mm_bnd2 h
    refine lp_X5_isWell_19 C 81 0 x2 _ _ _ _ _ e3 hH (lv_sub hl [1, 0] rfl) (fun H locs ls hH hl => ?_)
    refine lv_iload_n hx hb dX5_isWell_82 rfl (lv_at hl 0 rfl) ?_
    obtain ⟨g1, h⟩ := mm_grd h
    exact mm_iret C hH hr hlk (mm_narZ g1) h dX5_isWell_83
  · have h := mm_pos c1 h
    refine lv_iconst (v := 1) hx hb dX5_isWell_13 (by decide) ?_
    refine lv_goto (tgt := 18) hx hb dX5_isWell_14 (by decide) ?_
    refine lv_istore_n (lv' := [(1, .int 1), (0, .ref (b + 157))]) hx hb dX5_isWell_18 rfl hl (by decide) rfl (fun ls hl => ?_)
    obtain ⟨x4, v3, e4, h⟩ := mm_bnd2 h
    refine lp_X5_isWell_19 C 81 1 x2 _ _ _ _ _ e4 hH (lv_sub hl [1, 0] rfl) (fun H locs ls hH hl => ?_)
    refine lv_iload_n hx hb dX5_isWell_82 rfl (lv_at hl 0 rfl) ?_
    obtain ⟨g2, h⟩ := mm_grd h
    exact mm_iret C hH hr hlk (mm_narZ g2) h dX5_isWell_83
def fn_X5_fault  (x : mm_M) : Option (mm_M × Int32) :=
  mm_b2 (fn_X5_isWell x) fun x1 v1 => if v1 = 0 then some (x1, (x1 157 8)) else some (x1, (-6))
abbrev rm_X5_fault : Room := { frames := 6, cells := 0, slots := 0, locals := 137 }
theorem df_X5_fault : yX5_fault.cls = RX5 ∧ yX5_fault.cls ≠ "java/lang/invoke/MethodHandle" ∧ yX5_fault.cls ≠ "java/lang/invoke/VarHandle" ∧ (parseMethodDescriptor yX5_fault.desc).map (fun d => d.parameters.length) = some 0 := by decide +kernel
set_option maxRecDepth 100000 in
set_option maxHeartbeats 4000000 in
theorem ct_X5_fault (l : Launch) (G : va_G) (T : Nat → ClassId) (b : Nat) (z : Nat → Nat)  (x : mm_M) {x1 : mm_M} {r : Int32} (h : fn_X5_fault  x = some (x1, r)) : mm_Ci l yX5_fault wsX5_fault rm_X5_fault G T b z [.ref (b + 157)] x r x1 := by
  unfold fn_X5_fault at h
  refine mm_start (cc := cX5_fault) (maxL := 1) (ret := (some .int)) (by decide) rfl (Nat.le_of_ble_eq_true rfl) (fun p e s m below meth c ls C hr hlk hH hl => ?_)
  have hl : lv_has ls 1 [(0, .ref (b + 157))] := hl
  have hx := C.1
  have hb := C.2.1
  have w1 := C.2.2.2.2.1 (.fieldLink RX5 125 "LandingFinesModel" "at" "I") (by decide +kernel)
  have hin5 : ∀ w ∈ wsX50, w ∈ wsX5_fault := by decide +kernel
  refine lv_aload_n hx hb dX5_fault_0 rfl (lv_at hl 0 rfl) ?_
  obtain ⟨x1, v1, e1, h⟩ := mm_bnd2 h
  refine mm_goi hH (va_runV (As := []) (rest := []) ⟨hx, hb, C.2.2.1, C.2.2.2.1, C.2.2.2.2.1⟩ (ct_X5_isWell l G T b z x e1) (cwV 0 C.2.2.2.2.1 gX5_fault_X5_isWell rfl rfl rfl df_X5_isWell ⟨Nat.le_of_ble_eq_true rfl, Nat.le_of_ble_eq_true rfl⟩) ⟨mm_B.blind, mm_recv (q := (RX5, TX5, 14)) C hH kl_157 (mm_e5 kd_157) rfl, mm_pre C hH⟩ rfl rfl hl.1 rfl (lv_room (Nat.le_of_ble_eq_true rfl)) dX5_fault_1 ⟨Nat.zero_le _, Nat.zero_le _⟩) (fun H locs hH => ?_)
  refine lv_if_eq (tgt := 12) hx hb dX5_fault_4 (by decide) (fun c1 => ?_) (fun c1 => ?_)
  · have h := mm_pos c1 h
    refine lv_aload_n hx hb dX5_fault_12 rfl (lv_at hl 0 rfl) ?_
    refine mm_get (v := .int (x1 157 8)) C hH hin5 rfl kl_157 (mm_e5 kd_157) (j := 8) (by decide) rfl w1 rfl dX5_fault_13 ?_
    exact mm_iret C hH hr hlk rfl h dX5_fault_16
  · have h := mm_neg c1 h
    have hl := lv_sub (l' := []) hl [] rfl
    refine lv_bipush (v := (-6)) hx hb dX5_fault_7 (by decide) ?_
    refine lv_goto (tgt := 16) hx hb dX5_fault_9 (by decide) ?_
    exact mm_iret C hH hr hlk rfl h dX5_fault_16
def fn_X5_carryOut_23 : Nat → Int32 → Int32 → mm_M → Option (mm_M × Int32)
  | 0, _, _, _ => none
  | n + 1, i1, i2, x => if i2 = 0 then some (x, i1) else if (x 157 7) ≤ (x 157 8) then some (x, i1) else mm_b2 (fn_X5_order 1 x) fun x1 v1 => if v1 < 0 then (some ((i1 + 0) : Int32)).bind fun v2 => (some (mm_up x1 157 8 ((x1 157 8) + 1))).bind fun x2 => fn_X5_carryOut_23 n  v2 0 x2 else (some ((i1 + 1) : Int32)).bind fun v3 => (some (mm_up x1 157 8 ((x1 157 8) + 1))).bind fun x3 => fn_X5_carryOut_23 n  v3 1 x3
def fn_X5_carryOut  (x : mm_M) : Option (mm_M × Int32) :=
  mm_b2 (fn_X5_isWell x) fun x1 v1 => if v1 = 0 then some (x1, (-3)) else (fn_X5_remember x1).bind fun x2 => (some (mm_up x2 157 8 0)).bind fun x3 => mm_b2 (fn_X5_carryOut_23 81 0 1 x3) fun x4 v2 => (some (mm_up x4 157 7 0)).bind fun x5 => mm_b2 (fn_X5_record v2 x5) fun x6 v3 => some (x6, v3)
abbrev rm_X5_carryOut : Room := { frames := 6, cells := 0, slots := 0, locals := 137 }
theorem df_X5_carryOut : yX5_carryOut.cls = RX5 ∧ yX5_carryOut.cls ≠ "java/lang/invoke/MethodHandle" ∧ yX5_carryOut.cls ≠ "java/lang/invoke/VarHandle" ∧ (parseMethodDescriptor yX5_carryOut.desc).map (fun d => d.parameters.length) = some 0 := by decide +kernel
set_option maxRecDepth 100000 in
set_option maxHeartbeats 4000000 in
theorem lp_X5_carryOut_23 {p : Program} {l : Launch} {e : Env} {s : State} {m : MethodId} {args : Array Value} {below : List Frame} {meth : Method} {c : Code} {Q : State → Prop} {G : va_G} {T : Nat → ClassId} {b : Nat} {z : Nat → Nat} (C : mm_C p m c cX5_carryOut 3 s args wsX5_carryOut RX5 G T b z)  : ∀ (n : Nat) (i1 : Int32) (i2 : Int32) (x : mm_M) (H : Heap) (locs : List Loc) (ls : Array Slot) (x1 : mm_M) (r1 : Int32), fn_X5_carryOut_23 n i1 i2 x = some (x1, r1) → mm_H G T b x s H locs → lv_has ls 3 [(0, .ref (b + 157)), (1, .int i1), (2, .int i2)] → (∀ (H1 : Heap) (locs1 : List Loc) (ls1 : Array Slot), mm_H G T b x1 s H1 locs1 → lv_has ls1 3 [(0, .ref (b + 157)), (1, .int r1)] → W p l e rm_X5_carryOut s m args below meth c H1 locs1 0 0 Q (F0 m 77 ls1 [])) → W p l e rm_X5_carryOut s m args below meth c H locs 0 0 Q (F0 m 23 ls []) := by
  have hx := C.1
  have hb := C.2.1
  have w1 := C.2.2.2.2.1 (.fieldLink RX5 125 "LandingFinesModel" "at" "I") (by decide +kernel)
  have w2 := C.2.2.2.2.1 (.fieldLink RX5 114 "LandingFinesModel" "length" "I") (by decide +kernel)
  have hin5 : ∀ w ∈ wsX50, w ∈ wsX5_carryOut := by decide +kernel
  intro n
  induction n with
  | zero => intro _ _ _ _ _ _ _ _ h; cases (show (none : Option (mm_M × Int32)) = some _ from h)
  | succ n ih =>
    intro i1 i2 x H locs ls x1 r1 h hH hl kk
    rw [fn_X5_carryOut_23] at h
    refine lv_iload_n hx hb dX5_carryOut_23 rfl (lv_at hl 2 rfl) ?_
    refine lv_if_eq (tgt := 77) hx hb dX5_carryOut_24 (by decide) (fun c1 => ?_) (fun c1 => ?_)
    · have h := mm_pos c1 h
      have hl := lv_sub (l' := [(0, .ref (b + 157)), (1, .int i1)]) hl [0, 1] rfl
      cases h
      exact kk _ _ _ hH (lv_sub hl [0, 1] rfl)
    · have h := mm_neg c1 h
      have hl := lv_sub (l' := [(0, .ref (b + 157)), (1, .int i1)]) hl [0, 1] rfl
      refine lv_aload_n hx hb dX5_carryOut_27 rfl (lv_at hl 0 rfl) ?_
      refine mm_get (v := .int (x 157 8)) C hH hin5 rfl kl_157 (mm_e5 kd_157) (j := 8) (by decide) rfl w1 rfl dX5_carryOut_28 ?_
      refine lv_aload_n hx hb dX5_carryOut_31 rfl (lv_at hl 0 rfl) ?_
      refine mm_get (v := .int (x 157 7)) C hH hin5 rfl kl_157 (mm_e5 kd_157) (j := 7) (by decide) rfl w2 rfl dX5_carryOut_32 ?_
      refine lv_icmp_ge (tgt := 77) hx hb dX5_carryOut_35 (by decide) (fun c2 => ?_) (fun c2 => ?_)
      · have h := mm_pos c2 h
        cases h
        exact kk _ _ _ hH (lv_sub hl [0, 1] rfl)
      · have h := mm_neg c2 h
        refine lv_aload_n hx hb dX5_carryOut_38 rfl (lv_at hl 0 rfl) ?_
        refine lv_iconst (v := 1) hx hb dX5_carryOut_39 (by decide) ?_
        obtain ⟨x1, v1, e1, h⟩ := mm_bnd2 h
        refine mm_goi hH (va_runV (As := [.int 1]) (rest := []) ⟨hx, hb, C.2.2.1, C.2.2.2.1, C.2.2.2.2.1⟩ (ct_X5_order l G T b z 1 x e1) (cwV 1 C.2.2.2.2.1 gX5_carryOut_X5_order rfl rfl rfl df_X5_order ⟨Nat.le_of_ble_eq_true rfl, Nat.le_of_ble_eq_true rfl⟩) ⟨mm_B.blind, mm_recv (q := (RX5, TX5, 14)) C hH kl_157 (mm_e5 kd_157) rfl, mm_pre C hH⟩ rfl rfl hl.1 rfl (lv_room (Nat.le_of_ble_eq_true rfl)) dX5_carryOut_40 ⟨Nat.zero_le _, Nat.zero_le _⟩) (fun H locs hH => ?_)
        refine lv_if_lt (tgt := 50) hx hb dX5_carryOut_43 (by decide) (fun c3 => ?_) (fun c3 => ?_)
        · have h := mm_pos c3 h
          refine lv_iconst (v := 0) hx hb dX5_carryOut_50 (by decide) ?_
          refine lv_istore_n (lv' := [(2, .int 0), (0, .ref (b + 157)), (1, .int i1)]) hx hb dX5_carryOut_51 rfl hl (by decide) rfl (fun ls hl => ?_)
          refine lv_iload_n hx hb dX5_carryOut_52 rfl (lv_at hl 2 rfl) ?_
          refine lv_iload_n hx hb dX5_carryOut_53 rfl (lv_at hl 0 rfl) ?_
          refine lv_if_eq (tgt := 61) hx hb dX5_carryOut_54 (by decide) (fun _ => ?_) (fun c => absurd (by decide) c)
          have hl := lv_sub (l' := [(2, .int 0), (0, .ref (b + 157))]) hl [0, 1] rfl
          refine lv_iconst (v := 0) hx hb dX5_carryOut_61 (by decide) ?_
          refine lv_iadd hx hb dX5_carryOut_62 ?_
          obtain ⟨v2, e2, h⟩ := mm_bnd h
          refine mm_nmi e2 ?_
          refine lv_istore_n (lv' := [(1, .int v2), (2, .int 0), (0, .ref (b + 157))]) hx hb dX5_carryOut_63 rfl hl (by decide) rfl (fun ls hl => ?_)
          refine lv_aload_n hx hb dX5_carryOut_64 rfl (lv_at hl 2 rfl) ?_
          refine lv_dup hx hb dX5_carryOut_65 rfl ?_
          refine mm_get (v := .int (x1 157 8)) C hH hin5 rfl kl_157 (mm_e5 kd_157) (j := 8) (by decide) rfl w1 rfl dX5_carryOut_66 ?_
          refine lv_iconst (v := 1) hx hb dX5_carryOut_69 (by decide) ?_
          refine lv_iadd hx hb dX5_carryOut_70 ?_
          obtain ⟨x2, e3, h⟩ := mm_bnd h
          refine mm_put (ty := .int) C hH hin5 tyX5_ok nmX5 rfl kl_157 (mm_e5 kd_157) (j := 8) (by decide) rfl w1 pd_I rfl rfl (Nat.le_of_ble_eq_true rfl) (sp_5_8 kd_157) (Option.some.inj e3) dX5_carryOut_71 (fun H locs hH => ?_)
          refine lv_goto (tgt := 23) hx hb dX5_carryOut_74 (by decide) ?_
          exact ih v2 0 x2 _ _ _ _ _ h hH (lv_sub hl [2, 0, 1] rfl) kk
        · have h := mm_neg c3 h
          refine lv_iconst (v := 1) hx hb dX5_carryOut_46 (by decide) ?_
          refine lv_goto (tgt := 51) hx hb dX5_carryOut_47 (by decide) ?_
          refine lv_istore_n (lv' := [(2, .int 1), (0, .ref (b + 157)), (1, .int i1)]) hx hb dX5_carryOut_51 rfl hl (by decide) rfl (fun ls hl => ?_)
          refine lv_iload_n hx hb dX5_carryOut_52 rfl (lv_at hl 2 rfl) ?_
          refine lv_iload_n hx hb dX5_carryOut_53 rfl (lv_at hl 0 rfl) ?_
          refine lv_if_eq (tgt := 61) hx hb dX5_carryOut_54 (by decide) (fun c => absurd c (by decide)) (fun _ => ?_)
          have hl := lv_sub (l' := [(2, .int 1), (0, .ref (b + 157))]) hl [0, 1] rfl
          refine lv_iconst (v := 1) hx hb dX5_carryOut_57 (by decide) ?_
          refine lv_goto (tgt := 62) hx hb dX5_carryOut_58 (by decide) ?_
          refine lv_iadd hx hb dX5_carryOut_62 ?_
          obtain ⟨v3, e4, h⟩ := mm_bnd h
          refine mm_nmi e4 ?_
          refine lv_istore_n (lv' := [(1, .int v3), (2, .int 1), (0, .ref (b + 157))]) hx hb dX5_carryOut_63 rfl hl (by decide) rfl (fun ls hl => ?_)
          refine lv_aload_n hx hb dX5_carryOut_64 rfl (lv_at hl 2 rfl) ?_
          refine lv_dup hx hb dX5_carryOut_65 rfl ?_
          refine mm_get (v := .int (x1 157 8)) C hH hin5 rfl kl_157 (mm_e5 kd_157) (j := 8) (by decide) rfl w1 rfl dX5_carryOut_66 ?_
          refine lv_iconst (v := 1) hx hb dX5_carryOut_69 (by decide) ?_
          refine lv_iadd hx hb dX5_carryOut_70 ?_
          obtain ⟨x3, e5, h⟩ := mm_bnd h
          refine mm_put (ty := .int) C hH hin5 tyX5_ok nmX5 rfl kl_157 (mm_e5 kd_157) (j := 8) (by decide) rfl w1 pd_I rfl rfl (Nat.le_of_ble_eq_true rfl) (sp_5_8 kd_157) (Option.some.inj e5) dX5_carryOut_71 (fun H locs hH => ?_)
          refine lv_goto (tgt := 23) hx hb dX5_carryOut_74 (by decide) ?_
          exact ih v3 1 x3 _ _ _ _ _ h hH (lv_sub hl [2, 0, 1] rfl) kk
set_option maxRecDepth 100000 in
set_option maxHeartbeats 4000000 in
theorem ct_X5_carryOut (l : Launch) (G : va_G) (T : Nat → ClassId) (b : Nat) (z : Nat → Nat)  (x : mm_M) {x1 : mm_M} {r : Int32} (h : fn_X5_carryOut  x = some (x1, r)) : mm_Ci l yX5_carryOut wsX5_carryOut rm_X5_carryOut G T b z [.ref (b + 157)] x r x1 := by
  unfold fn_X5_carryOut at h
  refine mm_start (cc := cX5_carryOut) (maxL := 3) (ret := (some .int)) (by decide) rfl (Nat.le_of_ble_eq_true rfl) (fun p e s m below meth c ls C hr hlk hH hl => ?_)
  have hl : lv_has ls 3 [(0, .ref (b + 157))] := hl
  have hx := C.1
  have hb := C.2.1
  have w1 := C.2.2.2.2.1 (.fieldLink RX5 125 "LandingFinesModel" "at" "I") (by decide +kernel)
  have w2 := C.2.2.2.2.1 (.fieldLink RX5 114 "LandingFinesModel" "length" "I") (by decide +kernel)
  have hin5 : ∀ w ∈ wsX50, w ∈ wsX5_carryOut := by decide +kernel
  refine lv_aload_n hx hb dX5_carryOut_0 rfl (lv_at hl 0 rfl) ?_
  obtain ⟨x1, v1, e1, h⟩ := mm_bnd2 h
  refine mm_goi hH (va_runV (As := []) (rest := []) ⟨hx, hb, C.2.2.1, C.2.2.2.1, C.2.2.2.2.1⟩ (ct_X5_isWell l G T b z x e1) (cwV 0 C.2.2.2.2.1 gX5_carryOut_X5_isWell rfl rfl rfl df_X5_isWell ⟨Nat.le_of_ble_eq_true rfl, Nat.le_of_ble_eq_true rfl⟩) ⟨mm_B.blind, mm_recv (q := (RX5, TX5, 14)) C hH kl_157 (mm_e5 kd_157) rfl, mm_pre C hH⟩ rfl rfl hl.1 rfl (lv_room (Nat.le_of_ble_eq_true rfl)) dX5_carryOut_1 ⟨Nat.zero_le _, Nat.zero_le _⟩) (fun H locs hH => ?_)
  refine lv_if_ne (tgt := 10) hx hb dX5_carryOut_4 (by decide) (fun c1 => ?_) (fun c1 => ?_)
  · have h := mm_neg c1 h
    refine lv_aload_n hx hb dX5_carryOut_10 rfl (lv_at hl 0 rfl) ?_
    obtain ⟨x2, e2, h⟩ := mm_bnd h
    refine mm_gov hH (va_runV (As := []) (rest := []) ⟨hx, hb, C.2.2.1, C.2.2.2.1, C.2.2.2.2.1⟩ (ct_X5_remember l G T b z x1 e2) (cwV 0 C.2.2.2.2.1 gX5_carryOut_X5_remember rfl rfl rfl df_X5_remember ⟨Nat.le_of_ble_eq_true rfl, Nat.le_of_ble_eq_true rfl⟩) ⟨mm_B.blind, mm_recv (q := (RX5, TX5, 14)) C hH kl_157 (mm_e5 kd_157) rfl, mm_pre C hH⟩ rfl rfl hl.1 rfl (lv_room (Nat.le_of_ble_eq_true rfl)) dX5_carryOut_11 ⟨Nat.zero_le _, Nat.zero_le _⟩) (fun H locs hH => ?_)
    refine lv_aload_n hx hb dX5_carryOut_14 rfl (lv_at hl 0 rfl) ?_
    refine lv_iconst (v := 0) hx hb dX5_carryOut_15 (by decide) ?_
    obtain ⟨x3, e3, h⟩ := mm_bnd h
    refine mm_put (ty := .int) C hH hin5 tyX5_ok nmX5 rfl kl_157 (mm_e5 kd_157) (j := 8) (by decide) rfl w1 pd_I rfl rfl (Nat.le_of_ble_eq_true rfl) (sp_5_8 kd_157) (Option.some.inj e3) dX5_carryOut_16 (fun H locs hH => ?_)
    refine lv_iconst (v := 0) hx hb dX5_carryOut_19 (by decide) ?_
    refine lv_istore_n (lv' := [(1, .int 0), (0, .ref (b + 157))]) hx hb dX5_carryOut_20 rfl hl (by decide) rfl (fun ls hl => ?_)
    refine lv_iconst (v := 1) hx hb dX5_carryOut_21 (by decide) ?_
    refine lv_istore_n (lv' := [(2, .int 1), (1, .int 0), (0, .ref (b + 157))]) hx hb dX5_carryOut_22 rfl hl (by decide) rfl (fun ls hl => ?_)
    obtain ⟨x4, v2, e4, h⟩ := mm_bnd2 h
    refine lp_X5_carryOut_23 C 81 0 1 x3 _ _ _ _ _ e4 hH (lv_sub hl [2, 1, 0] rfl) (fun H locs ls hH hl => ?_)
    refine lv_aload_n hx hb dX5_carryOut_77 rfl (lv_at hl 0 rfl) ?_
    refine lv_iconst (v := 0) hx hb dX5_carryOut_78 (by decide) ?_
    obtain ⟨x5, e5, h⟩ := mm_bnd h
    refine mm_put (ty := .int) C hH hin5 tyX5_ok nmX5 rfl kl_157 (mm_e5 kd_157) (j := 7) (by decide) rfl w2 pd_I rfl rfl (Nat.le_of_ble_eq_true rfl) (sp_5_7 kd_157) (Option.some.inj e5) dX5_carryOut_79 (fun H locs hH => ?_)
    refine lv_aload_n hx hb dX5_carryOut_82 rfl (lv_at hl 0 rfl) ?_
    refine lv_iload_n hx hb dX5_carryOut_83 rfl (lv_at hl 1 rfl) ?_
    obtain ⟨x6, v3, e6, h⟩ := mm_bnd2 h
    refine mm_goi hH (va_runV (As := [.int v2]) (rest := []) ⟨hx, hb, C.2.2.1, C.2.2.2.1, C.2.2.2.2.1⟩ (ct_X5_record l G T b z v2 x5 e6) (cwV 1 C.2.2.2.2.1 gX5_carryOut_X5_record rfl rfl rfl df_X5_record ⟨Nat.le_of_ble_eq_true rfl, Nat.le_of_ble_eq_true rfl⟩) ⟨mm_B.blind, mm_recv (q := (RX5, TX5, 14)) C hH kl_157 (mm_e5 kd_157) rfl, mm_pre C hH⟩ rfl rfl hl.1 rfl (lv_room (Nat.le_of_ble_eq_true rfl)) dX5_carryOut_84 ⟨Nat.zero_le _, Nat.zero_le _⟩) (fun H locs hH => ?_)
    exact mm_iret C hH hr hlk rfl h dX5_carryOut_87
  · have h := mm_pos c1 h
    have hl := lv_sub (l' := []) hl [] rfl
    refine lv_bipush (v := (-3)) hx hb dX5_carryOut_7 (by decide) ?_
    exact mm_iret C hH hr hlk rfl h dX5_carryOut_9
