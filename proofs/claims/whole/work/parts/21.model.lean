def fn_X5_in (a0 : Int64) (a2 : Int32) (a3 : Int32) (x : mm_M) : Option Int32 :=
  if (lg_cmp a0 (Int32.toInt64 a2)) < 0 then some (0 : Int32) else if (0 : Int32) < (lg_cmp a0 (Int32.toInt64 a3)) then some (0 : Int32) else some (1 : Int32)
abbrev rm_X5_in : Room := { frames := 0, cells := 0, slots := 0, locals := 0 }
theorem df_X5_in : yX5_in.cls = RX5 ∧ yX5_in.cls ≠ "java/lang/invoke/MethodHandle" ∧ yX5_in.cls ≠ "java/lang/invoke/VarHandle" ∧ (parseMethodDescriptor yX5_in.desc).map (fun d => d.parameters.length) = some 3 := by decide +kernel
set_option maxRecDepth 100000 in
set_option maxHeartbeats 4000000 in
theorem ct_X5_in (l : Launch) (G : va_G) (T : Nat → ClassId) (b : Nat) (z : Nat → Nat) (a0 : Int64) (a2 : Int32) (a3 : Int32) (x : mm_M) {r : Int32} (h : fn_X5_in a0 a2 a3 x = some r) : mm_Ci l yX5_in wsX5_in rm_X5_in G T b z [.long a0, .int a2, .int a3] x r x := by
  unfold fn_X5_in at h
  refine mm_start (cc := cX5_in) (maxL := 4) (ret := (some .boolean)) (by decide) rfl (Nat.le_of_ble_eq_true rfl) (fun p e s m below meth c ls C hr hlk hH hl => ?_)
  have hl : lv_has ls 4 [(0, .long a0), (2, .int a2), (3, .int a3)] := hl
  have hx := C.1
  have hb := C.2.1
  refine lv_lload_n hx hb dX5_in_0 rfl (lv_at hl 0 rfl) ?_
  refine lv_iload_n hx hb dX5_in_1 rfl (lv_at hl 1 rfl) ?_
  refine lv_i2l (v := (Int32.toInt64 a2)) hx hb dX5_in_2 rfl ?_
  refine W.lcmp hx hb dX5_in_3 ?_
  refine lv_if_lt (tgt := 18) hx hb dX5_in_4 (by decide) (fun c1 => ?_) (fun c1 => ?_)
  · have h := mm_pos c1 h
    have hl := lv_sub (l' := []) hl [] rfl
    refine lv_iconst (v := 0) hx hb dX5_in_18 (by decide) ?_
    exact mm_iretP C hH hr hlk rfl h dX5_in_19
  · have h := mm_neg c1 h
    have hl := lv_sub (l' := [(0, .long a0), (3, .int a3)]) hl [0, 2] rfl
    refine lv_lload_n hx hb dX5_in_7 rfl (lv_at hl 0 rfl) ?_
    refine lv_iload_n hx hb dX5_in_8 rfl (lv_at hl 1 rfl) ?_
    refine lv_i2l (v := (Int32.toInt64 a3)) hx hb dX5_in_9 rfl ?_
    refine W.lcmp hx hb dX5_in_10 ?_
    refine lv_if_gt (tgt := 18) hx hb dX5_in_11 (by decide) (fun c2 => ?_) (fun c2 => ?_)
    · have h := mm_pos c2 h
      have hl := lv_sub (l' := []) hl [] rfl
      refine lv_iconst (v := 0) hx hb dX5_in_18 (by decide) ?_
      exact mm_iretP C hH hr hlk rfl h dX5_in_19
    · have h := mm_neg c2 h
      have hl := lv_sub (l' := []) hl [] rfl
      refine lv_iconst (v := 1) hx hb dX5_in_14 (by decide) ?_
      refine lv_goto (tgt := 19) hx hb dX5_in_15 (by decide) ?_
      exact mm_iretP C hH hr hlk rfl h dX5_in_19
def fn_X5_its (a1 : Int32) (a2 : Int32) (x : mm_M) : Option Int32 :=
  if (((71 : Int32) + ((8 : Int32) * a1)) + a2) < 0 ∨ 135 ≤ Int32.toNatClampNeg (((71 : Int32) + ((8 : Int32) * a1)) + a2) then none else some (x 158 (Int32.toNatClampNeg (((71 : Int32) + ((8 : Int32) * a1)) + a2)))
abbrev rm_X5_its : Room := { frames := 0, cells := 0, slots := 0, locals := 0 }
theorem df_X5_its : yX5_its.cls = RX5 ∧ yX5_its.cls ≠ "java/lang/invoke/MethodHandle" ∧ yX5_its.cls ≠ "java/lang/invoke/VarHandle" ∧ (parseMethodDescriptor yX5_its.desc).map (fun d => d.parameters.length) = some 2 := by decide +kernel
set_option maxRecDepth 100000 in
set_option maxHeartbeats 4000000 in
theorem ct_X5_its (l : Launch) (G : va_G) (T : Nat → ClassId) (b : Nat) (z : Nat → Nat) (a1 : Int32) (a2 : Int32) (x : mm_M) {r : Int32} (h : fn_X5_its a1 a2 x = some r) : mm_Ci l yX5_its wsX5_its rm_X5_its G T b z [.ref (b + 157), .int a1, .int a2] x r x := by
  unfold fn_X5_its at h
  refine mm_start (cc := cX5_its) (maxL := 3) (ret := (some .int)) (by decide) rfl (Nat.le_of_ble_eq_true rfl) (fun p e s m below meth c ls C hr hlk hH hl => ?_)
  have hl : lv_has ls 3 [(0, .ref (b + 157)), (1, .int a1), (2, .int a2)] := hl
  have hx := C.1
  have hb := C.2.1
  have w1 := C.2.2.2.2.1 (.fieldLink RX5 7 "LandingFinesModel" "row" "[I") (by decide +kernel)
  have hin5 : ∀ w ∈ wsX50, w ∈ wsX5_its := by decide +kernel
  refine lv_aload_n hx hb dX5_its_0 rfl (lv_at hl 0 rfl) ?_
  refine mm_get (v := .ref (b + 158)) C hH hin5 rfl kl_157 (mm_e5 kd_157) (j := 0) (by decide) rfl w1 rfl dX5_its_1 ?_
  refine lv_bipush (v := 71) hx hb dX5_its_4 (by decide) ?_
  refine lv_bipush (v := 8) hx hb dX5_its_6 (by decide) ?_
  refine lv_iload_n hx hb dX5_its_8 rfl (lv_at hl 1 rfl) ?_
  refine lv_imul hx hb dX5_its_9 ?_
  refine lv_iadd hx hb dX5_its_10 ?_
  refine lv_iload_n hx hb dX5_its_11 rfl (lv_at hl 2 rfl) ?_
  refine lv_iadd hx hb dX5_its_12 ?_
  obtain ⟨g1, h⟩ := mm_grn h
  refine mm_iald (n := 135) (jn := (Int32.toNatClampNeg (((71 : Int32) + ((8 : Int32) * a1)) + a2))) C hH kd_158 ln_158 g1 rfl dX5_its_13 ?_
  exact mm_iretP C hH hr hlk rfl h dX5_its_14
def fn_X5_lay (a1 : Int32) (a2 : Int32) (a3 : Int32) (x : mm_M) : Option mm_M :=
  if (((71 : Int32) + ((8 : Int32) * a1)) + a2) < 0 ∨ 135 ≤ Int32.toNatClampNeg (((71 : Int32) + ((8 : Int32) * a1)) + a2) then none else (some (mm_up x 158 (Int32.toNatClampNeg (((71 : Int32) + ((8 : Int32) * a1)) + a2)) a3)).bind fun x1 => some x1
abbrev rm_X5_lay : Room := { frames := 0, cells := 0, slots := 0, locals := 0 }
theorem df_X5_lay : yX5_lay.cls = RX5 ∧ yX5_lay.cls ≠ "java/lang/invoke/MethodHandle" ∧ yX5_lay.cls ≠ "java/lang/invoke/VarHandle" ∧ (parseMethodDescriptor yX5_lay.desc).map (fun d => d.parameters.length) = some 3 := by decide +kernel
set_option maxRecDepth 100000 in
set_option maxHeartbeats 4000000 in
theorem ct_X5_lay (l : Launch) (G : va_G) (T : Nat → ClassId) (b : Nat) (z : Nat → Nat) (a1 : Int32) (a2 : Int32) (a3 : Int32) (x : mm_M) {x1 : mm_M} (h : fn_X5_lay a1 a2 a3 x = some x1) : mm_Cv l yX5_lay wsX5_lay rm_X5_lay G T b z [.ref (b + 157), .int a1, .int a2, .int a3] x x1 := by
  unfold fn_X5_lay at h
  refine mm_start (cc := cX5_lay) (maxL := 4) (ret := none) (by decide) rfl (Nat.le_of_ble_eq_true rfl) (fun p e s m below meth c ls C hr hlk hH hl => ?_)
  have hl : lv_has ls 4 [(0, .ref (b + 157)), (1, .int a1), (2, .int a2), (3, .int a3)] := hl
  have hx := C.1
  have hb := C.2.1
  have w1 := C.2.2.2.2.1 (.fieldLink RX5 7 "LandingFinesModel" "row" "[I") (by decide +kernel)
  have hin5 : ∀ w ∈ wsX50, w ∈ wsX5_lay := by decide +kernel
  refine lv_aload_n hx hb dX5_lay_0 rfl (lv_at hl 0 rfl) ?_
  refine mm_get (v := .ref (b + 158)) C hH hin5 rfl kl_157 (mm_e5 kd_157) (j := 0) (by decide) rfl w1 rfl dX5_lay_1 ?_
  refine lv_bipush (v := 71) hx hb dX5_lay_4 (by decide) ?_
  refine lv_bipush (v := 8) hx hb dX5_lay_6 (by decide) ?_
  refine lv_iload_n hx hb dX5_lay_8 rfl (lv_at hl 1 rfl) ?_
  refine lv_imul hx hb dX5_lay_9 ?_
  refine lv_iadd hx hb dX5_lay_10 ?_
  refine lv_iload_n hx hb dX5_lay_11 rfl (lv_at hl 2 rfl) ?_
  refine lv_iadd hx hb dX5_lay_12 ?_
  refine lv_iload_n hx hb dX5_lay_13 rfl (lv_at hl 3 rfl) ?_
  obtain ⟨g1, h⟩ := mm_grn h
  obtain ⟨x1, e1, h⟩ := mm_bnd h
  refine mm_iast (n := 135) (jn := (Int32.toNatClampNeg (((71 : Int32) + ((8 : Int32) * a1)) + a2))) C hH kd_158 ln_158 g1 rfl (Option.some.inj e1) dX5_lay_14 (fun H locs hH => ?_)
  exact mm_vret C hH hr hlk h dX5_lay_15
def fn_X5_isLanding (a1 : Int32) (x : mm_M) : Option Int32 :=
  (fn_X5_in (Int32.toInt64 a1) 0 ((x 158 8) - 1) x).bind fun v1 => if vp_nar .boolean v1 = v1 then some v1 else none
abbrev rm_X5_isLanding : Room := { frames := 1, cells := 0, slots := 0, locals := 23 }
theorem df_X5_isLanding : yX5_isLanding.cls = RX5 ∧ yX5_isLanding.cls ≠ "java/lang/invoke/MethodHandle" ∧ yX5_isLanding.cls ≠ "java/lang/invoke/VarHandle" ∧ (parseMethodDescriptor yX5_isLanding.desc).map (fun d => d.parameters.length) = some 1 := by decide +kernel
set_option maxRecDepth 100000 in
set_option maxHeartbeats 4000000 in
theorem ct_X5_isLanding (l : Launch) (G : va_G) (T : Nat → ClassId) (b : Nat) (z : Nat → Nat) (a1 : Int32) (x : mm_M) {r : Int32} (h : fn_X5_isLanding a1 x = some r) : mm_Ci l yX5_isLanding wsX5_isLanding rm_X5_isLanding G T b z [.ref (b + 157), .int a1] x r x := by
  unfold fn_X5_isLanding at h
  refine mm_start (cc := cX5_isLanding) (maxL := 2) (ret := (some .boolean)) (by decide) rfl (Nat.le_of_ble_eq_true rfl) (fun p e s m below meth c ls C hr hlk hH hl => ?_)
  have hl : lv_has ls 2 [(0, .ref (b + 157)), (1, .int a1)] := hl
  have hx := C.1
  have hb := C.2.1
  have w1 := C.2.2.2.2.1 (.fieldLink RX5 7 "LandingFinesModel" "row" "[I") (by decide +kernel)
  have hin5 : ∀ w ∈ wsX50, w ∈ wsX5_isLanding := by decide +kernel
  refine lv_iload_n hx hb dX5_isLanding_0 rfl (lv_at hl 1 rfl) ?_
  refine lv_i2l (v := (Int32.toInt64 a1)) hx hb dX5_isLanding_1 rfl ?_
  refine lv_iconst (v := 0) hx hb dX5_isLanding_2 (by decide) ?_
  refine lv_aload_n hx hb dX5_isLanding_3 rfl (lv_at hl 0 rfl) ?_
  refine mm_get (v := .ref (b + 158)) C hH hin5 rfl kl_157 (mm_e5 kd_157) (j := 0) (by decide) rfl w1 rfl dX5_isLanding_4 ?_
  refine lv_bipush (v := 8) hx hb dX5_isLanding_7 (by decide) ?_
  refine mm_iald (n := 135) (jn := 8) C hH kd_158 ln_158 (by decide) (by decide) dX5_isLanding_9 ?_
  refine lv_iconst (v := 1) hx hb dX5_isLanding_10 (by decide) ?_
  refine lv_isub hx hb dX5_isLanding_11 ?_
  obtain ⟨v1, e1, h⟩ := mm_bnd h
  refine mm_goi hH (va_runS (As := [.long (Int32.toInt64 a1), .int 0, .int ((x 158 8) - 1)]) (rest := []) ⟨hx, hb, C.2.2.1, C.2.2.2.1, C.2.2.2.2.1⟩ (ct_X5_in l G T b z (Int32.toInt64 a1) 0 ((x 158 8) - 1) x e1) (va_cwS 3 C.2.2.2.2.1 gX5_isLanding_X5_in rfl rfl rfl df_X5_in.2 ⟨Nat.le_of_ble_eq_true rfl, Nat.le_of_ble_eq_true rfl⟩) ⟨mm_B.blind, mm_pre C hH⟩ rfl rfl hl.1 rfl (lv_room (Nat.le_of_ble_eq_true rfl)) dX5_isLanding_12 ⟨Nat.zero_le _, Nat.zero_le _⟩) (fun H locs hH => ?_)
  obtain ⟨g1, h⟩ := mm_grd h
  exact mm_iretP C hH hr hlk (mm_narZ g1) h dX5_isLanding_15
def fn_X5_remember_2 : Nat → Int32 → mm_M → Option mm_M
  | 0, _, _ => none
  | n + 1, i1, x => if (135 : Int32) ≤ i1 then some (x) else if i1 < 0 ∨ 135 ≤ Int32.toNatClampNeg i1 then none else if i1 < 0 ∨ 135 ≤ Int32.toNatClampNeg i1 then none else (some (mm_up x 160 (Int32.toNatClampNeg i1) (x 158 (Int32.toNatClampNeg i1)))).bind fun x1 => (some (i1 + 1)).bind fun v1 => fn_X5_remember_2 n  v1 x1
def fn_X5_remember  (x : mm_M) : Option mm_M :=
  (fn_X5_remember_2 136 0 x).bind fun x1 => some x1
abbrev rm_X5_remember : Room := { frames := 0, cells := 0, slots := 0, locals := 0 }
theorem df_X5_remember : yX5_remember.cls = RX5 ∧ yX5_remember.cls ≠ "java/lang/invoke/MethodHandle" ∧ yX5_remember.cls ≠ "java/lang/invoke/VarHandle" ∧ (parseMethodDescriptor yX5_remember.desc).map (fun d => d.parameters.length) = some 0 := by decide +kernel
set_option maxRecDepth 100000 in
set_option maxHeartbeats 4000000 in
theorem lp_X5_remember_2 {p : Program} {l : Launch} {e : Env} {s : State} {m : MethodId} {args : Array Value} {below : List Frame} {meth : Method} {c : Code} {Q : State → Prop} {G : va_G} {T : Nat → ClassId} {b : Nat} {z : Nat → Nat} (C : mm_C p m c cX5_remember 2 s args wsX5_remember RX5 G T b z)  : ∀ (n : Nat) (i1 : Int32) (x : mm_M) (H : Heap) (locs : List Loc) (ls : Array Slot) (x1 : mm_M), fn_X5_remember_2 n i1 x = some (x1) → mm_H G T b x s H locs → lv_has ls 2 [(0, .ref (b + 157)), (1, .int i1)] → (∀ (H1 : Heap) (locs1 : List Loc) (ls1 : Array Slot), mm_H G T b x1 s H1 locs1 → lv_has ls1 2 [] → W p l e rm_X5_remember s m args below meth c H1 locs1 0 0 Q (F0 m 27 ls1 [])) → W p l e rm_X5_remember s m args below meth c H locs 0 0 Q (F0 m 2 ls []) := by
  have hx := C.1
  have hb := C.2.1
  have w1 := C.2.2.2.2.1 (.fieldLink RX5 16 "LandingFinesModel" "before" "[I") (by decide +kernel)
  have w2 := C.2.2.2.2.1 (.fieldLink RX5 7 "LandingFinesModel" "row" "[I") (by decide +kernel)
  have hin5 : ∀ w ∈ wsX50, w ∈ wsX5_remember := by decide +kernel
  intro n
  induction n with
  | zero => intro _ _ _ _ _ _ h; cases (show (none : Option mm_M) = some _ from h)
  | succ n ih =>
    intro i1 x H locs ls x1 h hH hl kk
    rw [fn_X5_remember_2] at h
    refine lv_iload_n hx hb dX5_remember_2 rfl (lv_at hl 1 rfl) ?_
    refine lv_sipush (v := 135) hx hb dX5_remember_3 (by decide) ?_
    refine lv_icmp_ge (tgt := 27) hx hb dX5_remember_6 (by decide) (fun c1 => ?_) (fun c1 => ?_)
    · have h := mm_pos c1 h
      have hl := lv_sub (l' := []) hl [] rfl
      cases h
      exact kk _ _ _ hH (lv_sub hl [] rfl)
    · have h := mm_neg c1 h
      refine lv_aload_n hx hb dX5_remember_9 rfl (lv_at hl 0 rfl) ?_
      refine mm_get (v := .ref (b + 160)) C hH hin5 rfl kl_157 (mm_e5 kd_157) (j := 2) (by decide) rfl w1 rfl dX5_remember_10 ?_
      refine lv_iload_n hx hb dX5_remember_13 rfl (lv_at hl 1 rfl) ?_
      refine lv_aload_n hx hb dX5_remember_14 rfl (lv_at hl 0 rfl) ?_
      refine mm_get (v := .ref (b + 158)) C hH hin5 rfl kl_157 (mm_e5 kd_157) (j := 0) (by decide) rfl w2 rfl dX5_remember_15 ?_
      refine lv_iload_n hx hb dX5_remember_18 rfl (lv_at hl 1 rfl) ?_
      obtain ⟨g1, h⟩ := mm_grn h
      refine mm_iald (n := 135) (jn := (Int32.toNatClampNeg i1)) C hH kd_158 ln_158 g1 rfl dX5_remember_19 ?_
      obtain ⟨g2, h⟩ := mm_grn h
      obtain ⟨x1, e1, h⟩ := mm_bnd h
      refine mm_iast (n := 135) (jn := (Int32.toNatClampNeg i1)) C hH kd_160 ln_160 g2 rfl (Option.some.inj e1) dX5_remember_20 (fun H locs hH => ?_)
      obtain ⟨v1, e2, h⟩ := mm_bnd h
      refine lv_iinc (v := v1) (lv' := [(1, .int v1), (0, .ref (b + 157))]) hx hb dX5_remember_21 hl (k := 1) rfl (Option.some.inj e2) (by decide) rfl (fun ls hl => ?_)
      refine lv_goto (tgt := 2) hx hb dX5_remember_24 (by decide) ?_
      exact ih v1 x1 _ _ _ _ h hH (lv_sub hl [1, 0] rfl) kk
set_option maxRecDepth 100000 in
set_option maxHeartbeats 4000000 in
theorem ct_X5_remember (l : Launch) (G : va_G) (T : Nat → ClassId) (b : Nat) (z : Nat → Nat)  (x : mm_M) {x1 : mm_M} (h : fn_X5_remember  x = some x1) : mm_Cv l yX5_remember wsX5_remember rm_X5_remember G T b z [.ref (b + 157)] x x1 := by
  unfold fn_X5_remember at h
  refine mm_start (cc := cX5_remember) (maxL := 2) (ret := none) (by decide) rfl (Nat.le_of_ble_eq_true rfl) (fun p e s m below meth c ls C hr hlk hH hl => ?_)
  have hl : lv_has ls 2 [(0, .ref (b + 157))] := hl
  have hx := C.1
  have hb := C.2.1
  refine lv_iconst (v := 0) hx hb dX5_remember_0 (by decide) ?_
  refine lv_istore_n (lv' := [(1, .int 0), (0, .ref (b + 157))]) hx hb dX5_remember_1 rfl hl (by decide) rfl (fun ls hl => ?_)
  obtain ⟨x1, e1, h⟩ := mm_bnd h
  refine lp_X5_remember_2 C 136 0 x _ _ _ _ e1 hH (lv_sub hl [1, 0] rfl) (fun H locs ls hH hl => ?_)
  exact mm_vret C hH hr hlk h dX5_remember_27
def fn_X5_record_58 : Nat → Int32 → Int32 → mm_M → Option mm_M
  | 0, _, _, _ => none
  | n + 1, a1, i2, x => if (135 : Int32) ≤ i2 then some (x) else if i2 < 0 ∨ 135 ≤ Int32.toNatClampNeg i2 then none else if (((135 : Int32) * (x 157 5)) + i2) < 0 ∨ 810 ≤ Int32.toNatClampNeg (((135 : Int32) * (x 157 5)) + i2) then none else (some (mm_up x 159 (Int32.toNatClampNeg (((135 : Int32) * (x 157 5)) + i2)) (x 160 (Int32.toNatClampNeg i2)))).bind fun x1 => (some (i2 + 1)).bind fun v1 => fn_X5_record_58 n a1 v1 x1
def fn_X5_record_17 : Nat → Int32 → Int32 → mm_M → Option mm_M
  | 0, _, _, _ => none
  | n + 1, a1, i2, x => if (675 : Int32) ≤ i2 then some (x) else if ((135 : Int32) + i2) < 0 ∨ 810 ≤ Int32.toNatClampNeg ((135 : Int32) + i2) then none else if i2 < 0 ∨ 810 ≤ Int32.toNatClampNeg i2 then none else (some (mm_up x 159 (Int32.toNatClampNeg i2) (x 159 (Int32.toNatClampNeg ((135 : Int32) + i2))))).bind fun x1 => (some (i2 + 1)).bind fun v1 => fn_X5_record_17 n a1 v1 x1
def fn_X5_record (a1 : Int32) (x : mm_M) : Option (mm_M × Int32) :=
  if (0 : Int32) ≤ a1 then if (x 157 5) = 6 then (fn_X5_record_17 676 a1 0 x).bind fun x3 => (some (mm_up x3 157 5 ((x3 157 5) - 1))).bind fun x4 => (fn_X5_record_58 136 a1 0 x4).bind fun x5 => (some (mm_up x5 157 5 ((x5 157 5) + 1))).bind fun x6 => some (x6, a1) else (fn_X5_record_58 136 a1 0 x).bind fun x1 => (some (mm_up x1 157 5 ((x1 157 5) + 1))).bind fun x2 => some (x2, a1) else some (x, a1)
abbrev rm_X5_record : Room := { frames := 0, cells := 0, slots := 0, locals := 0 }
theorem df_X5_record : yX5_record.cls = RX5 ∧ yX5_record.cls ≠ "java/lang/invoke/MethodHandle" ∧ yX5_record.cls ≠ "java/lang/invoke/VarHandle" ∧ (parseMethodDescriptor yX5_record.desc).map (fun d => d.parameters.length) = some 1 := by decide +kernel
set_option maxRecDepth 100000 in
set_option maxHeartbeats 4000000 in
theorem lp_X5_record_58 {p : Program} {l : Launch} {e : Env} {s : State} {m : MethodId} {args : Array Value} {below : List Frame} {meth : Method} {c : Code} {Q : State → Prop} {G : va_G} {T : Nat → ClassId} {b : Nat} {z : Nat → Nat} (C : mm_C p m c cX5_record 3 s args wsX5_record RX5 G T b z) (a1 : Int32) : ∀ (n : Nat) (i2 : Int32) (x : mm_M) (H : Heap) (locs : List Loc) (ls : Array Slot) (x1 : mm_M), fn_X5_record_58 n a1 i2 x = some (x1) → mm_H G T b x s H locs → lv_has ls 3 [(0, .ref (b + 157)), (1, .int a1), (2, .int i2)] → (∀ (H1 : Heap) (locs1 : List Loc) (ls1 : Array Slot), mm_H G T b x1 s H1 locs1 → lv_has ls1 3 [(0, .ref (b + 157)), (1, .int a1)] → W p l e rm_X5_record s m args below meth c H1 locs1 0 0 Q (F0 m 92 ls1 [])) → W p l e rm_X5_record s m args below meth c H locs 0 0 Q (F0 m 58 ls []) := by
  have hx := C.1
  have hb := C.2.1
  have w1 := C.2.2.2.2.1 (.fieldLink RX5 13 "LandingFinesModel" "past" "[I") (by decide +kernel)
  have w2 := C.2.2.2.2.1 (.fieldLink RX5 36 "LandingFinesModel" "states" "I") (by decide +kernel)
  have w3 := C.2.2.2.2.1 (.fieldLink RX5 16 "LandingFinesModel" "before" "[I") (by decide +kernel)
  have hin5 : ∀ w ∈ wsX50, w ∈ wsX5_record := by decide +kernel
  intro n
  induction n with
  | zero => intro _ _ _ _ _ _ h; cases (show (none : Option mm_M) = some _ from h)
  | succ n ih =>
    intro i2 x H locs ls x1 h hH hl kk
    rw [fn_X5_record_58] at h
    refine lv_iload_n hx hb dX5_record_58 rfl (lv_at hl 2 rfl) ?_
    refine lv_sipush (v := 135) hx hb dX5_record_59 (by decide) ?_
    refine lv_icmp_ge (tgt := 92) hx hb dX5_record_62 (by decide) (fun c1 => ?_) (fun c1 => ?_)
    · have h := mm_pos c1 h
      have hl := lv_sub (l' := [(0, .ref (b + 157)), (1, .int a1)]) hl [0, 1] rfl
      cases h
      exact kk _ _ _ hH (lv_sub hl [0, 1] rfl)
    · have h := mm_neg c1 h
      refine lv_aload_n hx hb dX5_record_65 rfl (lv_at hl 0 rfl) ?_
      refine mm_get (v := .ref (b + 159)) C hH hin5 rfl kl_157 (mm_e5 kd_157) (j := 1) (by decide) rfl w1 rfl dX5_record_66 ?_
      refine lv_sipush (v := 135) hx hb dX5_record_69 (by decide) ?_
      refine lv_aload_n hx hb dX5_record_72 rfl (lv_at hl 0 rfl) ?_
      refine mm_get (v := .int (x 157 5)) C hH hin5 rfl kl_157 (mm_e5 kd_157) (j := 5) (by decide) rfl w2 rfl dX5_record_73 ?_
      refine lv_imul hx hb dX5_record_76 ?_
      refine lv_iload_n hx hb dX5_record_77 rfl (lv_at hl 2 rfl) ?_
      refine lv_iadd hx hb dX5_record_78 ?_
      refine lv_aload_n hx hb dX5_record_79 rfl (lv_at hl 0 rfl) ?_
      refine mm_get (v := .ref (b + 160)) C hH hin5 rfl kl_157 (mm_e5 kd_157) (j := 2) (by decide) rfl w3 rfl dX5_record_80 ?_
      refine lv_iload_n hx hb dX5_record_83 rfl (lv_at hl 2 rfl) ?_
      obtain ⟨g1, h⟩ := mm_grn h
      refine mm_iald (n := 135) (jn := (Int32.toNatClampNeg i2)) C hH kd_160 ln_160 g1 rfl dX5_record_84 ?_
      obtain ⟨g2, h⟩ := mm_grn h
      obtain ⟨x1, e1, h⟩ := mm_bnd h
      refine mm_iast (n := 810) (jn := (Int32.toNatClampNeg (((135 : Int32) * (x 157 5)) + i2))) C hH kd_159 ln_159 g2 rfl (Option.some.inj e1) dX5_record_85 (fun H locs hH => ?_)
      obtain ⟨v1, e2, h⟩ := mm_bnd h
      refine lv_iinc (v := v1) (lv' := [(2, .int v1), (0, .ref (b + 157)), (1, .int a1)]) hx hb dX5_record_86 hl (k := 2) rfl (Option.some.inj e2) (by decide) rfl (fun ls hl => ?_)
      refine lv_goto (tgt := 58) hx hb dX5_record_89 (by decide) ?_
      exact ih v1 x1 _ _ _ _ h hH (lv_sub hl [1, 2, 0] rfl) kk
set_option maxRecDepth 100000 in
set_option maxHeartbeats 4000000 in
theorem lp_X5_record_17 {p : Program} {l : Launch} {e : Env} {s : State} {m : MethodId} {args : Array Value} {below : List Frame} {meth : Method} {c : Code} {Q : State → Prop} {G : va_G} {T : Nat → ClassId} {b : Nat} {z : Nat → Nat} (C : mm_C p m c cX5_record 3 s args wsX5_record RX5 G T b z) (a1 : Int32) : ∀ (n : Nat) (i2 : Int32) (x : mm_M) (H : Heap) (locs : List Loc) (ls : Array Slot) (x1 : mm_M), fn_X5_record_17 n a1 i2 x = some (x1) → mm_H G T b x s H locs → lv_has ls 3 [(0, .ref (b + 157)), (1, .int a1), (2, .int i2)] → (∀ (H1 : Heap) (locs1 : List Loc) (ls1 : Array Slot), mm_H G T b x1 s H1 locs1 → lv_has ls1 3 [(0, .ref (b + 157)), (1, .int a1)] → W p l e rm_X5_record s m args below meth c H1 locs1 0 0 Q (F0 m 46 ls1 [])) → W p l e rm_X5_record s m args below meth c H locs 0 0 Q (F0 m 17 ls []) := by
  have hx := C.1
  have hb := C.2.1
  have w1 := C.2.2.2.2.1 (.fieldLink RX5 13 "LandingFinesModel" "past" "[I") (by decide +kernel)
  have hin5 : ∀ w ∈ wsX50, w ∈ wsX5_record := by decide +kernel
  intro n
  induction n with
  | zero => intro _ _ _ _ _ _ h; cases (show (none : Option mm_M) = some _ from h)
  | succ n ih =>
    intro i2 x H locs ls x1 h hH hl kk
    rw [fn_X5_record_17] at h
    refine lv_iload_n hx hb dX5_record_17 rfl (lv_at hl 2 rfl) ?_
    refine lv_sipush (v := 675) hx hb dX5_record_18 (by decide) ?_
    refine lv_icmp_ge (tgt := 46) hx hb dX5_record_21 (by decide) (fun c1 => ?_) (fun c1 => ?_)
    · have h := mm_pos c1 h
      have hl := lv_sub (l' := [(0, .ref (b + 157)), (1, .int a1)]) hl [0, 1] rfl
      cases h
      exact kk _ _ _ hH (lv_sub hl [0, 1] rfl)
    · have h := mm_neg c1 h
      refine lv_aload_n hx hb dX5_record_24 rfl (lv_at hl 0 rfl) ?_
      refine mm_get (v := .ref (b + 159)) C hH hin5 rfl kl_157 (mm_e5 kd_157) (j := 1) (by decide) rfl w1 rfl dX5_record_25 ?_
      refine lv_iload_n hx hb dX5_record_28 rfl (lv_at hl 2 rfl) ?_
      refine lv_aload_n hx hb dX5_record_29 rfl (lv_at hl 0 rfl) ?_
      refine mm_get (v := .ref (b + 159)) C hH hin5 rfl kl_157 (mm_e5 kd_157) (j := 1) (by decide) rfl w1 rfl dX5_record_30 ?_
      refine lv_sipush (v := 135) hx hb dX5_record_33 (by decide) ?_
      refine lv_iload_n hx hb dX5_record_36 rfl (lv_at hl 2 rfl) ?_
      refine lv_iadd hx hb dX5_record_37 ?_
      obtain ⟨g1, h⟩ := mm_grn h
      refine mm_iald (n := 810) (jn := (Int32.toNatClampNeg ((135 : Int32) + i2))) C hH kd_159 ln_159 g1 rfl dX5_record_38 ?_
      obtain ⟨g2, h⟩ := mm_grn h
      obtain ⟨x1, e1, h⟩ := mm_bnd h
      refine mm_iast (n := 810) (jn := (Int32.toNatClampNeg i2)) C hH kd_159 ln_159 g2 rfl (Option.some.inj e1) dX5_record_39 (fun H locs hH => ?_)
      obtain ⟨v1, e2, h⟩ := mm_bnd h
      refine lv_iinc (v := v1) (lv' := [(2, .int v1), (0, .ref (b + 157)), (1, .int a1)]) hx hb dX5_record_40 hl (k := 2) rfl (Option.some.inj e2) (by decide) rfl (fun ls hl => ?_)
      refine lv_goto (tgt := 17) hx hb dX5_record_43 (by decide) ?_
      exact ih v1 x1 _ _ _ _ h hH (lv_sub hl [1, 2, 0] rfl) kk
set_option maxRecDepth 100000 in
set_option maxHeartbeats 4000000 in
theorem ct_X5_record (l : Launch) (G : va_G) (T : Nat → ClassId) (b : Nat) (z : Nat → Nat) (a1 : Int32) (x : mm_M) {x1 : mm_M} {r : Int32} (h : fn_X5_record a1 x = some (x1, r)) : mm_Ci l yX5_record wsX5_record rm_X5_record G T b z [.ref (b + 157), .int a1] x r x1 := by
  unfold fn_X5_record at h
  refine mm_start (cc := cX5_record) (maxL := 3) (ret := (some .int)) (by decide) rfl (Nat.le_of_ble_eq_true rfl) (fun p e s m below meth c ls C hr hlk hH hl => ?_)
  have hl : lv_has ls 3 [(0, .ref (b + 157)), (1, .int a1)] := hl
  have hx := C.1
  have hb := C.2.1
  have w1 := C.2.2.2.2.1 (.fieldLink RX5 36 "LandingFinesModel" "states" "I") (by decide +kernel)
  have hin5 : ∀ w ∈ wsX50, w ∈ wsX5_record := by decide +kernel
  refine lv_iload_n hx hb dX5_record_0 rfl (lv_at hl 1 rfl) ?_
  refine lv_if_ge (tgt := 6) hx hb dX5_record_1 (by decide) (fun c1 => ?_) (fun c1 => ?_)
  · have h := mm_pos c1 h
    refine lv_aload_n hx hb dX5_record_6 rfl (lv_at hl 0 rfl) ?_
    refine mm_get (v := .int (x 157 5)) C hH hin5 rfl kl_157 (mm_e5 kd_157) (j := 5) (by decide) rfl w1 rfl dX5_record_7 ?_
    refine lv_bipush (v := 6) hx hb dX5_record_10 (by decide) ?_
    refine lv_icmp_ne (tgt := 56) hx hb dX5_record_12 (by decide) (fun c2 => ?_) (fun c2 => ?_)
    · have h := mm_neg c2 h
      refine lv_iconst (v := 0) hx hb dX5_record_56 (by decide) ?_
      refine lv_istore_n (lv' := [(2, .int 0), (0, .ref (b + 157)), (1, .int a1)]) hx hb dX5_record_57 rfl hl (by decide) rfl (fun ls hl => ?_)
      obtain ⟨x1, e1, h⟩ := mm_bnd h
      refine lp_X5_record_58 C a1 136 0 x _ _ _ _ e1 hH (lv_sub hl [1, 2, 0] rfl) (fun H locs ls hH hl => ?_)
      refine lv_aload_n hx hb dX5_record_92 rfl (lv_at hl 0 rfl) ?_
      refine lv_dup hx hb dX5_record_93 rfl ?_
      refine mm_get (v := .int (x1 157 5)) C hH hin5 rfl kl_157 (mm_e5 kd_157) (j := 5) (by decide) rfl w1 rfl dX5_record_94 ?_
      refine lv_iconst (v := 1) hx hb dX5_record_97 (by decide) ?_
      refine lv_iadd hx hb dX5_record_98 ?_
      obtain ⟨x2, e2, h⟩ := mm_bnd h
      refine mm_put (ty := .int) C hH hin5 tyX5_ok nmX5 rfl kl_157 (mm_e5 kd_157) (j := 5) (by decide) rfl w1 pd_I rfl rfl (Nat.le_of_ble_eq_true rfl) (sp_5_5 kd_157) (Option.some.inj e2) dX5_record_99 (fun H locs hH => ?_)
      refine lv_iload_n hx hb dX5_record_102 rfl (lv_at hl 1 rfl) ?_
      exact mm_iret C hH hr hlk rfl h dX5_record_103
    · have h := mm_pos c2 h
      refine lv_iconst (v := 0) hx hb dX5_record_15 (by decide) ?_
      refine lv_istore_n (lv' := [(2, .int 0), (0, .ref (b + 157)), (1, .int a1)]) hx hb dX5_record_16 rfl hl (by decide) rfl (fun ls hl => ?_)
      obtain ⟨x3, e3, h⟩ := mm_bnd h
      refine lp_X5_record_17 C a1 676 0 x _ _ _ _ e3 hH (lv_sub hl [1, 2, 0] rfl) (fun H locs ls hH hl => ?_)
      refine lv_aload_n hx hb dX5_record_46 rfl (lv_at hl 0 rfl) ?_
      refine lv_dup hx hb dX5_record_47 rfl ?_
      refine mm_get (v := .int (x3 157 5)) C hH hin5 rfl kl_157 (mm_e5 kd_157) (j := 5) (by decide) rfl w1 rfl dX5_record_48 ?_
      refine lv_iconst (v := 1) hx hb dX5_record_51 (by decide) ?_
      refine lv_isub hx hb dX5_record_52 ?_
      obtain ⟨x4, e4, h⟩ := mm_bnd h
      refine mm_put (ty := .int) C hH hin5 tyX5_ok nmX5 rfl kl_157 (mm_e5 kd_157) (j := 5) (by decide) rfl w1 pd_I rfl rfl (Nat.le_of_ble_eq_true rfl) (sp_5_5 kd_157) (Option.some.inj e4) dX5_record_53 (fun H locs hH => ?_)
      refine lv_iconst (v := 0) hx hb dX5_record_56 (by decide) ?_
      refine lv_istore_n (lv' := [(2, .int 0), (0, .ref (b + 157)), (1, .int a1)]) hx hb dX5_record_57 rfl hl (by decide) rfl (fun ls hl => ?_)
      obtain ⟨x5, e5, h⟩ := mm_bnd h
      refine lp_X5_record_58 C a1 136 0 x4 _ _ _ _ e5 hH (lv_sub hl [1, 2, 0] rfl) (fun H locs ls hH hl => ?_)
      refine lv_aload_n hx hb dX5_record_92 rfl (lv_at hl 0 rfl) ?_
      refine lv_dup hx hb dX5_record_93 rfl ?_
      refine mm_get (v := .int (x5 157 5)) C hH hin5 rfl kl_157 (mm_e5 kd_157) (j := 5) (by decide) rfl w1 rfl dX5_record_94 ?_
      refine lv_iconst (v := 1) hx hb dX5_record_97 (by decide) ?_
      refine lv_iadd hx hb dX5_record_98 ?_
      obtain ⟨x6, e6, h⟩ := mm_bnd h
      refine mm_put (ty := .int) C hH hin5 tyX5_ok nmX5 rfl kl_157 (mm_e5 kd_157) (j := 5) (by decide) rfl w1 pd_I rfl rfl (Nat.le_of_ble_eq_true rfl) (sp_5_5 kd_157) (Option.some.inj e6) dX5_record_99 (fun H locs hH => ?_)
      refine lv_iload_n hx hb dX5_record_102 rfl (lv_at hl 1 rfl) ?_
      exact mm_iret C hH hr hlk rfl h dX5_record_103
  · have h := mm_neg c1 h
    have hl := lv_sub (l' := [(1, .int a1)]) hl [1] rfl
    refine lv_iload_n hx hb dX5_record_4 rfl (lv_at hl 0 rfl) ?_
    exact mm_iret C hH hr hlk rfl h dX5_record_5
def fn_X5_undo_22 : Nat → Int32 → mm_M → Option mm_M
  | 0, _, _ => none
  | n + 1, i1, x => if (135 : Int32) ≤ i1 then some (x) else if (((135 : Int32) * (x 157 5)) + i1) < 0 ∨ 810 ≤ Int32.toNatClampNeg (((135 : Int32) * (x 157 5)) + i1) then none else if i1 < 0 ∨ 135 ≤ Int32.toNatClampNeg i1 then none else (some (mm_up x 158 (Int32.toNatClampNeg i1) (x 159 (Int32.toNatClampNeg (((135 : Int32) * (x 157 5)) + i1))))).bind fun x1 => (some (i1 + 1)).bind fun v1 => fn_X5_undo_22 n  v1 x1
def fn_X5_undo  (x : mm_M) : Option (mm_M × Int32) :=
  if (x 157 5) = 0 then some (x, (-5)) else (some (mm_up x 157 5 ((x 157 5) - 1))).bind fun x1 => (fn_X5_undo_22 136 0 x1).bind fun x2 => some (x2, (x2 157 5))
abbrev rm_X5_undo : Room := { frames := 0, cells := 0, slots := 0, locals := 0 }
theorem df_X5_undo : yX5_undo.cls = RX5 ∧ yX5_undo.cls ≠ "java/lang/invoke/MethodHandle" ∧ yX5_undo.cls ≠ "java/lang/invoke/VarHandle" ∧ (parseMethodDescriptor yX5_undo.desc).map (fun d => d.parameters.length) = some 0 := by decide +kernel
set_option maxRecDepth 100000 in
set_option maxHeartbeats 4000000 in
theorem lp_X5_undo_22 {p : Program} {l : Launch} {e : Env} {s : State} {m : MethodId} {args : Array Value} {below : List Frame} {meth : Method} {c : Code} {Q : State → Prop} {G : va_G} {T : Nat → ClassId} {b : Nat} {z : Nat → Nat} (C : mm_C p m c cX5_undo 2 s args wsX5_undo RX5 G T b z)  : ∀ (n : Nat) (i1 : Int32) (x : mm_M) (H : Heap) (locs : List Loc) (ls : Array Slot) (x1 : mm_M), fn_X5_undo_22 n i1 x = some (x1) → mm_H G T b x s H locs → lv_has ls 2 [(0, .ref (b + 157)), (1, .int i1)] → (∀ (H1 : Heap) (locs1 : List Loc) (ls1 : Array Slot), mm_H G T b x1 s H1 locs1 → lv_has ls1 2 [(0, .ref (b + 157))] → W p l e rm_X5_undo s m args below meth c H1 locs1 0 0 Q (F0 m 56 ls1 [])) → W p l e rm_X5_undo s m args below meth c H locs 0 0 Q (F0 m 22 ls []) := by
  have hx := C.1
  have hb := C.2.1
  have w1 := C.2.2.2.2.1 (.fieldLink RX5 7 "LandingFinesModel" "row" "[I") (by decide +kernel)
  have w2 := C.2.2.2.2.1 (.fieldLink RX5 13 "LandingFinesModel" "past" "[I") (by decide +kernel)
  have w3 := C.2.2.2.2.1 (.fieldLink RX5 36 "LandingFinesModel" "states" "I") (by decide +kernel)
  have hin5 : ∀ w ∈ wsX50, w ∈ wsX5_undo := by decide +kernel
  intro n
  induction n with
  | zero => intro _ _ _ _ _ _ h; cases (show (none : Option mm_M) = some _ from h)
  | succ n ih =>
    intro i1 x H locs ls x1 h hH hl kk
    rw [fn_X5_undo_22] at h
    refine lv_iload_n hx hb dX5_undo_22 rfl (lv_at hl 1 rfl) ?_
    refine lv_sipush (v := 135) hx hb dX5_undo_23 (by decide) ?_
    refine lv_icmp_ge (tgt := 56) hx hb dX5_undo_26 (by decide) (fun c1 => ?_) (fun c1 => ?_)
    · have h := mm_pos c1 h
      have hl := lv_sub (l' := [(0, .ref (b + 157))]) hl [0] rfl
      cases h
      exact kk _ _ _ hH (lv_sub hl [0] rfl)
    · have h := mm_neg c1 h
      refine lv_aload_n hx hb dX5_undo_29 rfl (lv_at hl 0 rfl) ?_
      refine mm_get (v := .ref (b + 158)) C hH hin5 rfl kl_157 (mm_e5 kd_157) (j := 0) (by decide) rfl w1 rfl dX5_undo_30 ?_
      refine lv_iload_n hx hb dX5_undo_33 rfl (lv_at hl 1 rfl) ?_
      refine lv_aload_n hx hb dX5_undo_34 rfl (lv_at hl 0 rfl) ?_
      refine mm_get (v := .ref (b + 159)) C hH hin5 rfl kl_157 (mm_e5 kd_157) (j := 1) (by decide) rfl w2 rfl dX5_undo_35 ?_
      refine lv_sipush (v := 135) hx hb dX5_undo_38 (by decide) ?_
      refine lv_aload_n hx hb dX5_undo_41 rfl (lv_at hl 0 rfl) ?_
      refine mm_get (v := .int (x 157 5)) C hH hin5 rfl kl_157 (mm_e5 kd_157) (j := 5) (by decide) rfl w3 rfl dX5_undo_42 ?_
      refine lv_imul hx hb dX5_undo_45 ?_
      refine lv_iload_n hx hb dX5_undo_46 rfl (lv_at hl 1 rfl) ?_
      refine lv_iadd hx hb dX5_undo_47 ?_
      obtain ⟨g1, h⟩ := mm_grn h
      refine mm_iald (n := 810) (jn := (Int32.toNatClampNeg (((135 : Int32) * (x 157 5)) + i1))) C hH kd_159 ln_159 g1 rfl dX5_undo_48 ?_
      obtain ⟨g2, h⟩ := mm_grn h
      obtain ⟨x1, e1, h⟩ := mm_bnd h
      refine mm_iast (n := 135) (jn := (Int32.toNatClampNeg i1)) C hH kd_158 ln_158 g2 rfl (Option.some.inj e1) dX5_undo_49 (fun H locs hH => ?_)
      obtain ⟨v1, e2, h⟩ := mm_bnd h
      refine lv_iinc (v := v1) (lv' := [(1, .int v1), (0, .ref (b + 157))]) hx hb dX5_undo_50 hl (k := 1) rfl (Option.some.inj e2) (by decide) rfl (fun ls hl => ?_)
      refine lv_goto (tgt := 22) hx hb dX5_undo_53 (by decide) ?_
      exact ih v1 x1 _ _ _ _ h hH (lv_sub hl [1, 0] rfl) kk
set_option maxRecDepth 100000 in
set_option maxHeartbeats 4000000 in
theorem ct_X5_undo (l : Launch) (G : va_G) (T : Nat → ClassId) (b : Nat) (z : Nat → Nat)  (x : mm_M) {x1 : mm_M} {r : Int32} (h : fn_X5_undo  x = some (x1, r)) : mm_Ci l yX5_undo wsX5_undo rm_X5_undo G T b z [.ref (b + 157)] x r x1 := by
  unfold fn_X5_undo at h
  refine mm_start (cc := cX5_undo) (maxL := 2) (ret := (some .int)) (by decide) rfl (Nat.le_of_ble_eq_true rfl) (fun p e s m below meth c ls C hr hlk hH hl => ?_)
  have hl : lv_has ls 2 [(0, .ref (b + 157))] := hl
  have hx := C.1
  have hb := C.2.1
  have w1 := C.2.2.2.2.1 (.fieldLink RX5 36 "LandingFinesModel" "states" "I") (by decide +kernel)
  have hin5 : ∀ w ∈ wsX50, w ∈ wsX5_undo := by decide +kernel
  refine lv_aload_n hx hb dX5_undo_0 rfl (lv_at hl 0 rfl) ?_
  refine mm_get (v := .int (x 157 5)) C hH hin5 rfl kl_157 (mm_e5 kd_157) (j := 5) (by decide) rfl w1 rfl dX5_undo_1 ?_
  refine lv_if_ne (tgt := 10) hx hb dX5_undo_4 (by decide) (fun c1 => ?_) (fun c1 => ?_)
  · have h := mm_neg c1 h
    refine lv_aload_n hx hb dX5_undo_10 rfl (lv_at hl 0 rfl) ?_
    refine lv_dup hx hb dX5_undo_11 rfl ?_
    refine mm_get (v := .int (x 157 5)) C hH hin5 rfl kl_157 (mm_e5 kd_157) (j := 5) (by decide) rfl w1 rfl dX5_undo_12 ?_
    refine lv_iconst (v := 1) hx hb dX5_undo_15 (by decide) ?_
    refine lv_isub hx hb dX5_undo_16 ?_
    obtain ⟨x1, e1, h⟩ := mm_bnd h
    refine mm_put (ty := .int) C hH hin5 tyX5_ok nmX5 rfl kl_157 (mm_e5 kd_157) (j := 5) (by decide) rfl w1 pd_I rfl rfl (Nat.le_of_ble_eq_true rfl) (sp_5_5 kd_157) (Option.some.inj e1) dX5_undo_17 (fun H locs hH => ?_)
    refine lv_iconst (v := 0) hx hb dX5_undo_20 (by decide) ?_
    refine lv_istore_n (lv' := [(1, .int 0), (0, .ref (b + 157))]) hx hb dX5_undo_21 rfl hl (by decide) rfl (fun ls hl => ?_)
    obtain ⟨x2, e2, h⟩ := mm_bnd h
    refine lp_X5_undo_22 C 136 0 x1 _ _ _ _ e2 hH (lv_sub hl [1, 0] rfl) (fun H locs ls hH hl => ?_)
    refine lv_aload_n hx hb dX5_undo_56 rfl (lv_at hl 0 rfl) ?_
    refine mm_get (v := .int (x2 157 5)) C hH hin5 rfl kl_157 (mm_e5 kd_157) (j := 5) (by decide) rfl w1 rfl dX5_undo_57 ?_
    exact mm_iret C hH hr hlk rfl h dX5_undo_60
  · have h := mm_pos c1 h
    have hl := lv_sub (l' := []) hl [] rfl
    refine lv_bipush (v := (-5)) hx hb dX5_undo_7 (by decide) ?_
    exact mm_iret C hH hr hlk rfl h dX5_undo_9
def fn_X5_save_15 : Nat → Int32 → Int32 → mm_M → Option mm_M
  | 0, _, _, _ => none
  | n + 1, a1, i2, x => if (135 : Int32) ≤ i2 then some (x) else if i2 < 0 ∨ 135 ≤ Int32.toNatClampNeg i2 then none else if (((135 : Int32) * a1) + i2) < 0 ∨ 270 ≤ Int32.toNatClampNeg (((135 : Int32) * a1) + i2) then none else (some (mm_up x 161 (Int32.toNatClampNeg (((135 : Int32) * a1) + i2)) (x 158 (Int32.toNatClampNeg i2)))).bind fun x1 => (some (i2 + 1)).bind fun v1 => fn_X5_save_15 n a1 v1 x1
def fn_X5_save (a1 : Int32) (x : mm_M) : Option (mm_M × Int32) :=
  (fn_X5_in (Int32.toInt64 a1) 0 1 x).bind fun v1 => if v1 = 0 then some (x, (-2)) else (fn_X5_save_15 136 a1 0 x).bind fun x1 => if a1 < 0 ∨ 2 ≤ Int32.toNatClampNeg a1 then none else (some (mm_up x1 162 (Int32.toNatClampNeg a1) 1)).bind fun x2 => some (x2, (x2 158 8))
abbrev rm_X5_save : Room := { frames := 1, cells := 0, slots := 0, locals := 23 }
theorem df_X5_save : yX5_save.cls = RX5 ∧ yX5_save.cls ≠ "java/lang/invoke/MethodHandle" ∧ yX5_save.cls ≠ "java/lang/invoke/VarHandle" ∧ (parseMethodDescriptor yX5_save.desc).map (fun d => d.parameters.length) = some 1 := by decide +kernel
set_option maxRecDepth 100000 in
set_option maxHeartbeats 4000000 in
theorem lp_X5_save_15 {p : Program} {l : Launch} {e : Env} {s : State} {m : MethodId} {args : Array Value} {below : List Frame} {meth : Method} {c : Code} {Q : State → Prop} {G : va_G} {T : Nat → ClassId} {b : Nat} {z : Nat → Nat} (C : mm_C p m c cX5_save 3 s args wsX5_save RX5 G T b z) (a1 : Int32) : ∀ (n : Nat) (i2 : Int32) (x : mm_M) (H : Heap) (locs : List Loc) (ls : Array Slot) (x1 : mm_M), fn_X5_save_15 n a1 i2 x = some (x1) → mm_H G T b x s H locs → lv_has ls 3 [(0, .ref (b + 157)), (1, .int a1), (2, .int i2)] → (∀ (H1 : Heap) (locs1 : List Loc) (ls1 : Array Slot), mm_H G T b x1 s H1 locs1 → lv_has ls1 3 [(0, .ref (b + 157)), (1, .int a1)] → W p l e rm_X5_save s m args below meth c H1 locs1 0 0 Q (F0 m 46 ls1 [])) → W p l e rm_X5_save s m args below meth c H locs 0 0 Q (F0 m 15 ls []) := by
  have hx := C.1
  have hb := C.2.1
  have w1 := C.2.2.2.2.1 (.fieldLink RX5 19 "LandingFinesModel" "slots" "[I") (by decide +kernel)
  have w2 := C.2.2.2.2.1 (.fieldLink RX5 7 "LandingFinesModel" "row" "[I") (by decide +kernel)
  have hin5 : ∀ w ∈ wsX50, w ∈ wsX5_save := by decide +kernel
  intro n
  induction n with
  | zero => intro _ _ _ _ _ _ h; cases (show (none : Option mm_M) = some _ from h)
  | succ n ih =>
    intro i2 x H locs ls x1 h hH hl kk
    rw [fn_X5_save_15] at h
    refine lv_iload_n hx hb dX5_save_15 rfl (lv_at hl 2 rfl) ?_
    refine lv_sipush (v := 135) hx hb dX5_save_16 (by decide) ?_
    refine lv_icmp_ge (tgt := 46) hx hb dX5_save_19 (by decide) (fun c1 => ?_) (fun c1 => ?_)
    · have h := mm_pos c1 h
      have hl := lv_sub (l' := [(0, .ref (b + 157)), (1, .int a1)]) hl [0, 1] rfl
      cases h
      exact kk _ _ _ hH (lv_sub hl [0, 1] rfl)
    · have h := mm_neg c1 h
      refine lv_aload_n hx hb dX5_save_22 rfl (lv_at hl 0 rfl) ?_
      refine mm_get (v := .ref (b + 161)) C hH hin5 rfl kl_157 (mm_e5 kd_157) (j := 3) (by decide) rfl w1 rfl dX5_save_23 ?_
      refine lv_sipush (v := 135) hx hb dX5_save_26 (by decide) ?_
      refine lv_iload_n hx hb dX5_save_29 rfl (lv_at hl 1 rfl) ?_
      refine lv_imul hx hb dX5_save_30 ?_
      refine lv_iload_n hx hb dX5_save_31 rfl (lv_at hl 2 rfl) ?_
      refine lv_iadd hx hb dX5_save_32 ?_
      refine lv_aload_n hx hb dX5_save_33 rfl (lv_at hl 0 rfl) ?_
      refine mm_get (v := .ref (b + 158)) C hH hin5 rfl kl_157 (mm_e5 kd_157) (j := 0) (by decide) rfl w2 rfl dX5_save_34 ?_
      refine lv_iload_n hx hb dX5_save_37 rfl (lv_at hl 2 rfl) ?_
      obtain ⟨g1, h⟩ := mm_grn h
      refine mm_iald (n := 135) (jn := (Int32.toNatClampNeg i2)) C hH kd_158 ln_158 g1 rfl dX5_save_38 ?_
      obtain ⟨g2, h⟩ := mm_grn h
      obtain ⟨x1, e1, h⟩ := mm_bnd h
      refine mm_iast (n := 270) (jn := (Int32.toNatClampNeg (((135 : Int32) * a1) + i2))) C hH kd_161 ln_161 g2 rfl (Option.some.inj e1) dX5_save_39 (fun H locs hH => ?_)
      obtain ⟨v1, e2, h⟩ := mm_bnd h
      refine lv_iinc (v := v1) (lv' := [(2, .int v1), (0, .ref (b + 157)), (1, .int a1)]) hx hb dX5_save_40 hl (k := 2) rfl (Option.some.inj e2) (by decide) rfl (fun ls hl => ?_)
      refine lv_goto (tgt := 15) hx hb dX5_save_43 (by decide) ?_
      exact ih v1 x1 _ _ _ _ h hH (lv_sub hl [1, 2, 0] rfl) kk
set_option maxRecDepth 100000 in
set_option maxHeartbeats 4000000 in
theorem ct_X5_save (l : Launch) (G : va_G) (T : Nat → ClassId) (b : Nat) (z : Nat → Nat) (a1 : Int32) (x : mm_M) {x1 : mm_M} {r : Int32} (h : fn_X5_save a1 x = some (x1, r)) : mm_Ci l yX5_save wsX5_save rm_X5_save G T b z [.ref (b + 157), .int a1] x r x1 := by
  unfold fn_X5_save at h
  refine mm_start (cc := cX5_save) (maxL := 3) (ret := (some .int)) (by decide) rfl (Nat.le_of_ble_eq_true rfl) (fun p e s m below meth c ls C hr hlk hH hl => ?_)
  have hl : lv_has ls 3 [(0, .ref (b + 157)), (1, .int a1)] := hl
  have hx := C.1
  have hb := C.2.1
  have w1 := C.2.2.2.2.1 (.fieldLink RX5 22 "LandingFinesModel" "isSaved" "[Z") (by decide +kernel)
  have w2 := C.2.2.2.2.1 (.fieldLink RX5 7 "LandingFinesModel" "row" "[I") (by decide +kernel)
  have hin5 : ∀ w ∈ wsX50, w ∈ wsX5_save := by decide +kernel
  refine lv_iload_n hx hb dX5_save_0 rfl (lv_at hl 1 rfl) ?_
  refine lv_i2l (v := (Int32.toInt64 a1)) hx hb dX5_save_1 rfl ?_
  refine lv_iconst (v := 0) hx hb dX5_save_2 (by decide) ?_
  refine lv_iconst (v := 1) hx hb dX5_save_3 (by decide) ?_
  obtain ⟨v1, e1, h⟩ := mm_bnd h
  refine mm_goi hH (va_runS (As := [.long (Int32.toInt64 a1), .int 0, .int 1]) (rest := []) ⟨hx, hb, C.2.2.1, C.2.2.2.1, C.2.2.2.2.1⟩ (ct_X5_in l G T b z (Int32.toInt64 a1) 0 1 x e1) (va_cwS 3 C.2.2.2.2.1 gX5_save_X5_in rfl rfl rfl df_X5_in.2 ⟨Nat.le_of_ble_eq_true rfl, Nat.le_of_ble_eq_true rfl⟩) ⟨mm_B.blind, mm_pre C hH⟩ rfl rfl hl.1 rfl (lv_room (Nat.le_of_ble_eq_true rfl)) dX5_save_4 ⟨Nat.zero_le _, Nat.zero_le _⟩) (fun H locs hH => ?_)
  refine lv_if_ne (tgt := 13) hx hb dX5_save_7 (by decide) (fun c1 => ?_) (fun c1 => ?_)
  · have h := mm_neg c1 h
    refine lv_iconst (v := 0) hx hb dX5_save_13 (by decide) ?_
    refine lv_istore_n (lv' := [(2, .int 0), (0, .ref (b + 157)), (1, .int a1)]) hx hb dX5_save_14 rfl hl (by decide) rfl (fun ls hl => ?_)
    obtain ⟨x1, e2, h⟩ := mm_bnd h
    refine lp_X5_save_15 C a1 136 0 x _ _ _ _ e2 hH (lv_sub hl [1, 2, 0] rfl) (fun H locs ls hH hl => ?_)
    refine lv_aload_n hx hb dX5_save_46 rfl (lv_at hl 0 rfl) ?_
    refine mm_get (v := .ref (b + 162)) C hH hin5 rfl kl_157 (mm_e5 kd_157) (j := 4) (by decide) rfl w1 rfl dX5_save_47 ?_
    refine lv_iload_n hx hb dX5_save_50 rfl (lv_at hl 1 rfl) ?_
    refine lv_iconst (v := 1) hx hb dX5_save_51 (by decide) ?_
    obtain ⟨g1, h⟩ := mm_grn h
    obtain ⟨x2, e3, h⟩ := mm_bnd h
    refine mm_bast (n := 2) (jn := (Int32.toNatClampNeg a1)) C hH kd_162 ln_162 g1 (by decide) rfl (Option.some.inj e3) dX5_save_52 (fun H locs hH => ?_)
    refine lv_aload_n hx hb dX5_save_53 rfl (lv_at hl 0 rfl) ?_
    refine mm_get (v := .ref (b + 158)) C hH hin5 rfl kl_157 (mm_e5 kd_157) (j := 0) (by decide) rfl w2 rfl dX5_save_54 ?_
    refine lv_bipush (v := 8) hx hb dX5_save_57 (by decide) ?_
    refine mm_iald (n := 135) (jn := 8) C hH kd_158 ln_158 (by decide) (by decide) dX5_save_59 ?_
    exact mm_iret C hH hr hlk rfl h dX5_save_60
  · have h := mm_pos c1 h
    have hl := lv_sub (l' := []) hl [] rfl
    refine lv_bipush (v := (-2)) hx hb dX5_save_10 (by decide) ?_
    exact mm_iret C hH hr hlk rfl h dX5_save_12
def fn_X5_restore_31 : Nat → Int32 → Int32 → mm_M → Option mm_M
  | 0, _, _, _ => none
  | n + 1, a1, i2, x => if (135 : Int32) ≤ i2 then some (x) else if (((135 : Int32) * a1) + i2) < 0 ∨ 270 ≤ Int32.toNatClampNeg (((135 : Int32) * a1) + i2) then none else if i2 < 0 ∨ 135 ≤ Int32.toNatClampNeg i2 then none else (some (mm_up x 158 (Int32.toNatClampNeg i2) (x 161 (Int32.toNatClampNeg (((135 : Int32) * a1) + i2))))).bind fun x1 => (some (i2 + 1)).bind fun v1 => fn_X5_restore_31 n a1 v1 x1
def fn_X5_restore (a1 : Int32) (x : mm_M) : Option (mm_M × Int32) :=
  (fn_X5_in (Int32.toInt64 a1) 0 1 x).bind fun v1 => if v1 = 0 then some (x, (-2)) else if a1 < 0 ∨ 2 ≤ Int32.toNatClampNeg a1 then none else if (x 162 (Int32.toNatClampNeg a1)) = 0 then some (x, (-5)) else (fn_X5_remember x).bind fun x1 => (fn_X5_restore_31 136 a1 0 x1).bind fun x2 => mm_b2 (fn_X5_record (x2 158 8) x2) fun x3 v2 => some (x3, v2)
abbrev rm_X5_restore : Room := { frames := 1, cells := 0, slots := 0, locals := 23 }
theorem df_X5_restore : yX5_restore.cls = RX5 ∧ yX5_restore.cls ≠ "java/lang/invoke/MethodHandle" ∧ yX5_restore.cls ≠ "java/lang/invoke/VarHandle" ∧ (parseMethodDescriptor yX5_restore.desc).map (fun d => d.parameters.length) = some 1 := by decide +kernel
set_option maxRecDepth 100000 in
set_option maxHeartbeats 4000000 in
theorem lp_X5_restore_31 {p : Program} {l : Launch} {e : Env} {s : State} {m : MethodId} {args : Array Value} {below : List Frame} {meth : Method} {c : Code} {Q : State → Prop} {G : va_G} {T : Nat → ClassId} {b : Nat} {z : Nat → Nat} (C : mm_C p m c cX5_restore 3 s args wsX5_restore RX5 G T b z) (a1 : Int32) : ∀ (n : Nat) (i2 : Int32) (x : mm_M) (H : Heap) (locs : List Loc) (ls : Array Slot) (x1 : mm_M), fn_X5_restore_31 n a1 i2 x = some (x1) → mm_H G T b x s H locs → lv_has ls 3 [(0, .ref (b + 157)), (1, .int a1), (2, .int i2)] → (∀ (H1 : Heap) (locs1 : List Loc) (ls1 : Array Slot), mm_H G T b x1 s H1 locs1 → lv_has ls1 3 [(0, .ref (b + 157))] → W p l e rm_X5_restore s m args below meth c H1 locs1 0 0 Q (F0 m 62 ls1 [])) → W p l e rm_X5_restore s m args below meth c H locs 0 0 Q (F0 m 31 ls []) := by
  have hx := C.1
  have hb := C.2.1
  have w1 := C.2.2.2.2.1 (.fieldLink RX5 7 "LandingFinesModel" "row" "[I") (by decide +kernel)
  have w2 := C.2.2.2.2.1 (.fieldLink RX5 19 "LandingFinesModel" "slots" "[I") (by decide +kernel)
  have hin5 : ∀ w ∈ wsX50, w ∈ wsX5_restore := by decide +kernel
  intro n
  induction n with
  | zero => intro _ _ _ _ _ _ h; cases (show (none : Option mm_M) = some _ from h)
  | succ n ih =>
    intro i2 x H locs ls x1 h hH hl kk
    rw [fn_X5_restore_31] at h
    refine lv_iload_n hx hb dX5_restore_31 rfl (lv_at hl 2 rfl) ?_
    refine lv_sipush (v := 135) hx hb dX5_restore_32 (by decide) ?_
    refine lv_icmp_ge (tgt := 62) hx hb dX5_restore_35 (by decide) (fun c1 => ?_) (fun c1 => ?_)
    · have h := mm_pos c1 h
      have hl := lv_sub (l' := [(0, .ref (b + 157))]) hl [0] rfl
      cases h
      exact kk _ _ _ hH (lv_sub hl [0] rfl)
    · have h := mm_neg c1 h
      refine lv_aload_n hx hb dX5_restore_38 rfl (lv_at hl 0 rfl) ?_
      refine mm_get (v := .ref (b + 158)) C hH hin5 rfl kl_157 (mm_e5 kd_157) (j := 0) (by decide) rfl w1 rfl dX5_restore_39 ?_
      refine lv_iload_n hx hb dX5_restore_42 rfl (lv_at hl 2 rfl) ?_
      refine lv_aload_n hx hb dX5_restore_43 rfl (lv_at hl 0 rfl) ?_
      refine mm_get (v := .ref (b + 161)) C hH hin5 rfl kl_157 (mm_e5 kd_157) (j := 3) (by decide) rfl w2 rfl dX5_restore_44 ?_
      refine lv_sipush (v := 135) hx hb dX5_restore_47 (by decide) ?_
      refine lv_iload_n hx hb dX5_restore_50 rfl (lv_at hl 1 rfl) ?_
      refine lv_imul hx hb dX5_restore_51 ?_
      refine lv_iload_n hx hb dX5_restore_52 rfl (lv_at hl 2 rfl) ?_
      refine lv_iadd hx hb dX5_restore_53 ?_
      obtain ⟨g1, h⟩ := mm_grn h
      refine mm_iald (n := 270) (jn := (Int32.toNatClampNeg (((135 : Int32) * a1) + i2))) C hH kd_161 ln_161 g1 rfl dX5_restore_54 ?_
      obtain ⟨g2, h⟩ := mm_grn h
      obtain ⟨x1, e1, h⟩ := mm_bnd h
      refine mm_iast (n := 135) (jn := (Int32.toNatClampNeg i2)) C hH kd_158 ln_158 g2 rfl (Option.some.inj e1) dX5_restore_55 (fun H locs hH => ?_)
      obtain ⟨v1, e2, h⟩ := mm_bnd h
      refine lv_iinc (v := v1) (lv' := [(2, .int v1), (0, .ref (b + 157)), (1, .int a1)]) hx hb dX5_restore_56 hl (k := 2) rfl (Option.some.inj e2) (by decide) rfl (fun ls hl => ?_)
      refine lv_goto (tgt := 31) hx hb dX5_restore_59 (by decide) ?_
      exact ih v1 x1 _ _ _ _ h hH (lv_sub hl [1, 2, 0] rfl) kk
set_option maxRecDepth 100000 in
set_option maxHeartbeats 4000000 in
theorem ct_X5_restore (l : Launch) (G : va_G) (T : Nat → ClassId) (b : Nat) (z : Nat → Nat) (a1 : Int32) (x : mm_M) {x1 : mm_M} {r : Int32} (h : fn_X5_restore a1 x = some (x1, r)) : mm_Ci l yX5_restore wsX5_restore rm_X5_restore G T b z [.ref (b + 157), .int a1] x r x1 := by
  unfold fn_X5_restore at h
  refine mm_start (cc := cX5_restore) (maxL := 3) (ret := (some .int)) (by decide) rfl (Nat.le_of_ble_eq_true rfl) (fun p e s m below meth c ls C hr hlk hH hl => ?_)
  have hl : lv_has ls 3 [(0, .ref (b + 157)), (1, .int a1)] := hl
  have hx := C.1
  have hb := C.2.1
  have w1 := C.2.2.2.2.1 (.fieldLink RX5 22 "LandingFinesModel" "isSaved" "[Z") (by decide +kernel)
  have w2 := C.2.2.2.2.1 (.fieldLink RX5 7 "LandingFinesModel" "row" "[I") (by decide +kernel)
  have hin5 : ∀ w ∈ wsX50, w ∈ wsX5_restore := by decide +kernel
  refine lv_iload_n hx hb dX5_restore_0 rfl (lv_at hl 1 rfl) ?_
  refine lv_i2l (v := (Int32.toInt64 a1)) hx hb dX5_restore_1 rfl ?_
  refine lv_iconst (v := 0) hx hb dX5_restore_2 (by decide) ?_
  refine lv_iconst (v := 1) hx hb dX5_restore_3 (by decide) ?_
  obtain ⟨v1, e1, h⟩ := mm_bnd h
  refine mm_goi hH (va_runS (As := [.long (Int32.toInt64 a1), .int 0, .int 1]) (rest := []) ⟨hx, hb, C.2.2.1, C.2.2.2.1, C.2.2.2.2.1⟩ (ct_X5_in l G T b z (Int32.toInt64 a1) 0 1 x e1) (va_cwS 3 C.2.2.2.2.1 gX5_restore_X5_in rfl rfl rfl df_X5_in.2 ⟨Nat.le_of_ble_eq_true rfl, Nat.le_of_ble_eq_true rfl⟩) ⟨mm_B.blind, mm_pre C hH⟩ rfl rfl hl.1 rfl (lv_room (Nat.le_of_ble_eq_true rfl)) dX5_restore_4 ⟨Nat.zero_le _, Nat.zero_le _⟩) (fun H locs hH => ?_)
  refine lv_if_ne (tgt := 13) hx hb dX5_restore_7 (by decide) (fun c1 => ?_) (fun c1 => ?_)
  · have h := mm_neg c1 h
    refine lv_aload_n hx hb dX5_restore_13 rfl (lv_at hl 0 rfl) ?_
    refine mm_get (v := .ref (b + 162)) C hH hin5 rfl kl_157 (mm_e5 kd_157) (j := 4) (by decide) rfl w1 rfl dX5_restore_14 ?_
    refine lv_iload_n hx hb dX5_restore_17 rfl (lv_at hl 1 rfl) ?_
    obtain ⟨g1, h⟩ := mm_grn h
    refine mm_bald (n := 2) (jn := (Int32.toNatClampNeg a1)) C hH kd_162 ln_162 g1 rfl dX5_restore_18 ?_
    refine lv_if_ne (tgt := 25) hx hb dX5_restore_19 (by decide) (fun c2 => ?_) (fun c2 => ?_)
    · have h := mm_neg c2 h
      refine lv_aload_n hx hb dX5_restore_25 rfl (lv_at hl 0 rfl) ?_
      obtain ⟨x1, e2, h⟩ := mm_bnd h
      refine mm_gov hH (va_runV (As := []) (rest := []) ⟨hx, hb, C.2.2.1, C.2.2.2.1, C.2.2.2.2.1⟩ (ct_X5_remember l G T b z x e2) (cwV 0 C.2.2.2.2.1 gX5_restore_X5_remember rfl rfl rfl df_X5_remember ⟨Nat.le_of_ble_eq_true rfl, Nat.le_of_ble_eq_true rfl⟩) ⟨mm_B.blind, mm_recv (q := (RX5, TX5, 14)) C hH kl_157 (mm_e5 kd_157) rfl, mm_pre C hH⟩ rfl rfl hl.1 rfl (lv_room (Nat.le_of_ble_eq_true rfl)) dX5_restore_26 ⟨Nat.zero_le _, Nat.zero_le _⟩) (fun H locs hH => ?_)
      refine lv_iconst (v := 0) hx hb dX5_restore_29 (by decide) ?_
      refine lv_istore_n (lv' := [(2, .int 0), (0, .ref (b + 157)), (1, .int a1)]) hx hb dX5_restore_30 rfl hl (by decide) rfl (fun ls hl => ?_)
      obtain ⟨x2, e3, h⟩ := mm_bnd h
      refine lp_X5_restore_31 C a1 136 0 x1 _ _ _ _ e3 hH (lv_sub hl [1, 2, 0] rfl) (fun H locs ls hH hl => ?_)
      refine lv_aload_n hx hb dX5_restore_62 rfl (lv_at hl 0 rfl) ?_
      refine lv_aload_n hx hb dX5_restore_63 rfl (lv_at hl 0 rfl) ?_
      refine mm_get (v := .ref (b + 158)) C hH hin5 rfl kl_157 (mm_e5 kd_157) (j := 0) (by decide) rfl w2 rfl dX5_restore_64 ?_
      refine lv_bipush (v := 8) hx hb dX5_restore_67 (by decide) ?_
      refine mm_iald (n := 135) (jn := 8) C hH kd_158 ln_158 (by decide) (by decide) dX5_restore_69 ?_
      obtain ⟨x3, v2, e4, h⟩ := mm_bnd2 h
      refine mm_goi hH (va_runV (As := [.int (x2 158 8)]) (rest := []) ⟨hx, hb, C.2.2.1, C.2.2.2.1, C.2.2.2.2.1⟩ (ct_X5_record l G T b z (x2 158 8) x2 e4) (cwV 1 C.2.2.2.2.1 gX5_restore_X5_record rfl rfl rfl df_X5_record ⟨Nat.le_of_ble_eq_true rfl, Nat.le_of_ble_eq_true rfl⟩) ⟨mm_B.blind, mm_recv (q := (RX5, TX5, 14)) C hH kl_157 (mm_e5 kd_157) rfl, mm_pre C hH⟩ rfl rfl hl.1 rfl (lv_room (Nat.le_of_ble_eq_true rfl)) dX5_restore_70 ⟨Nat.zero_le _, Nat.zero_le _⟩) (fun H locs hH => ?_)
      exact mm_iret C hH hr hlk rfl h dX5_restore_73
    · have h := mm_pos c2 h
      have hl := lv_sub (l' := []) hl [] rfl
      refine lv_bipush (v := (-5)) hx hb dX5_restore_22 (by decide) ?_
      exact mm_iret C hH hr hlk rfl h dX5_restore_24
  · have h := mm_pos c1 h
    have hl := lv_sub (l' := []) hl [] rfl
    refine lv_bipush (v := (-2)) hx hb dX5_restore_10 (by decide) ?_
    exact mm_iret C hH hr hlk rfl h dX5_restore_12
def fn_X5_taken_5 : Nat → Int32 → Int32 → mm_M → Option Int32
  | 0, _, _, _ => none
  | n + 1, i1, i2, x => if (x 158 8) ≤ i2 then some (i1) else (fn_X5_its i2 0 x).bind fun v1 => if v1 = 1 then (fn_X5_its i2 3 x).bind fun v3 => if v3 = 0 then if i1 = (-6) then (some (i2 + 1)).bind fun v5 => fn_X5_taken_5 n  i2 v5 x else (fn_X5_its i2 1 x).bind fun v6 => (fn_X5_its i1 1 x).bind fun v7 => if v7 ≤ v6 then (some (i2 + 1)).bind fun v8 => fn_X5_taken_5 n  i1 v8 x else (some (i2 + 1)).bind fun v9 => fn_X5_taken_5 n  i2 v9 x else (some (i2 + 1)).bind fun v4 => fn_X5_taken_5 n  i1 v4 x else (some (i2 + 1)).bind fun v2 => fn_X5_taken_5 n  i1 v2 x
def fn_X5_taken  (x : mm_M) : Option Int32 :=
  (fn_X5_taken_5 9 (-6) 0 x).bind fun v1 => some v1
abbrev rm_X5_taken : Room := { frames := 1, cells := 0, slots := 0, locals := 22 }
theorem df_X5_taken : yX5_taken.cls = RX5 ∧ yX5_taken.cls ≠ "java/lang/invoke/MethodHandle" ∧ yX5_taken.cls ≠ "java/lang/invoke/VarHandle" ∧ (parseMethodDescriptor yX5_taken.desc).map (fun d => d.parameters.length) = some 0 := by decide +kernel
set_option maxRecDepth 100000 in
set_option maxHeartbeats 4000000 in
theorem lp_X5_taken_5 {p : Program} {l : Launch} {e : Env} {s : State} {m : MethodId} {args : Array Value} {below : List Frame} {meth : Method} {c : Code} {Q : State → Prop} {G : va_G} {T : Nat → ClassId} {b : Nat} {z : Nat → Nat} (C : mm_C p m c cX5_taken 4 s args wsX5_taken RX5 G T b z)  : ∀ (n : Nat) (i1 : Int32) (i2 : Int32) (x : mm_M) (H : Heap) (locs : List Loc) (ls : Array Slot) (r1 : Int32), fn_X5_taken_5 n i1 i2 x = some (r1) → mm_H G T b x s H locs → lv_has ls 4 [(0, .ref (b + 157)), (1, .int i1), (2, .int i2)] → (∀ (H1 : Heap) (locs1 : List Loc) (ls1 : Array Slot), mm_H G T b x s H1 locs1 → lv_has ls1 4 [(1, .int r1)] → W p l e rm_X5_taken s m args below meth c H1 locs1 0 0 Q (F0 m 78 ls1 [])) → W p l e rm_X5_taken s m args below meth c H locs 0 0 Q (F0 m 5 ls []) := by
  have hx := C.1
  have hb := C.2.1
  have w1 := C.2.2.2.2.1 (.fieldLink RX5 7 "LandingFinesModel" "row" "[I") (by decide +kernel)
  have hin5 : ∀ w ∈ wsX50, w ∈ wsX5_taken := by decide +kernel
  intro n
  induction n with
  | zero => intro _ _ _ _ _ _ _ h; cases (show (none : Option Int32) = some _ from h)
  | succ n ih =>
    intro i1 i2 x H locs ls r1 h hH hl kk
    rw [fn_X5_taken_5] at h
    refine lv_iload_n hx hb dX5_taken_5 rfl (lv_at hl 2 rfl) ?_
    refine lv_aload_n hx hb dX5_taken_6 rfl (lv_at hl 0 rfl) ?_
    refine mm_get (v := .ref (b + 158)) C hH hin5 rfl kl_157 (mm_e5 kd_157) (j := 0) (by decide) rfl w1 rfl dX5_taken_7 ?_
    refine lv_bipush (v := 8) hx hb dX5_taken_10 (by decide) ?_
    refine mm_iald (n := 135) (jn := 8) C hH kd_158 ln_158 (by decide) (by decide) dX5_taken_12 ?_
    refine lv_icmp_ge (tgt := 78) hx hb dX5_taken_13 (by decide) (fun c1 => ?_) (fun c1 => ?_)
    · have h := mm_pos c1 h
      have hl := lv_sub (l' := [(1, .int i1)]) hl [1] rfl
      cases h
      exact kk _ _ _ hH (lv_sub hl [0] rfl)
    · have h := mm_neg c1 h
      refine lv_aload_n hx hb dX5_taken_16 rfl (lv_at hl 0 rfl) ?_
      refine lv_iload_n hx hb dX5_taken_17 rfl (lv_at hl 2 rfl) ?_
      refine lv_iconst (v := 0) hx hb dX5_taken_18 (by decide) ?_
      obtain ⟨v1, e1, h⟩ := mm_bnd h
      refine mm_goi hH (va_runV (As := [.int i2, .int 0]) (rest := []) ⟨hx, hb, C.2.2.1, C.2.2.2.1, C.2.2.2.2.1⟩ (ct_X5_its l G T b z i2 0 x e1) (cwV 2 C.2.2.2.2.1 gX5_taken_X5_its rfl rfl rfl df_X5_its ⟨Nat.le_of_ble_eq_true rfl, Nat.le_of_ble_eq_true rfl⟩) ⟨mm_B.blind, mm_recv (q := (RX5, TX5, 14)) C hH kl_157 (mm_e5 kd_157) rfl, mm_pre C hH⟩ rfl rfl hl.1 rfl (lv_room (Nat.le_of_ble_eq_true rfl)) dX5_taken_19 ⟨Nat.zero_le _, Nat.zero_le _⟩) (fun H locs hH => ?_)
      refine lv_iconst (v := 1) hx hb dX5_taken_22 (by decide) ?_
      refine lv_icmp_ne (tgt := 39) hx hb dX5_taken_23 (by decide) (fun c2 => ?_) (fun c2 => ?_)
      · have h := mm_neg c2 h
        refine lv_iconst (v := 0) hx hb dX5_taken_39 (by decide) ?_
        refine lv_istore_n (lv' := [(3, .int 0), (0, .ref (b + 157)), (1, .int i1), (2, .int i2)]) hx hb dX5_taken_40 rfl hl (by decide) rfl (fun ls hl => ?_)
        refine lv_iload_n hx hb dX5_taken_41 rfl (lv_at hl 0 rfl) ?_
        refine lv_if_eq (tgt := 70) hx hb dX5_taken_42 (by decide) (fun _ => ?_) (fun c => absurd (by decide) c)
        have hl := lv_sub (l' := [(0, .ref (b + 157)), (1, .int i1), (2, .int i2)]) hl [1, 2, 3] rfl
        refine lv_iload_n hx hb dX5_taken_70 rfl (lv_at hl 1 rfl) ?_
        refine lv_istore_n (lv' := [(1, .int i1), (0, .ref (b + 157)), (2, .int i2)]) hx hb dX5_taken_71 rfl hl (by decide) rfl (fun ls hl => ?_)
        obtain ⟨v2, e2, h⟩ := mm_bnd h
        refine lv_iinc (v := v2) (lv' := [(2, .int v2), (1, .int i1), (0, .ref (b + 157))]) hx hb dX5_taken_72 hl (k := 2) rfl (Option.some.inj e2) (by decide) rfl (fun ls hl => ?_)
        refine lv_goto (tgt := 5) hx hb dX5_taken_75 (by decide) ?_
        exact ih i1 v2 x _ _ _ _ h hH (lv_sub hl [2, 1, 0] rfl) kk
      · have h := mm_pos c2 h
        refine lv_aload_n hx hb dX5_taken_26 rfl (lv_at hl 0 rfl) ?_
        refine lv_iload_n hx hb dX5_taken_27 rfl (lv_at hl 2 rfl) ?_
        refine lv_iconst (v := 3) hx hb dX5_taken_28 (by decide) ?_
        obtain ⟨v3, e3, h⟩ := mm_bnd h
        refine mm_goi hH (va_runV (As := [.int i2, .int 3]) (rest := []) ⟨hx, hb, C.2.2.1, C.2.2.2.1, C.2.2.2.2.1⟩ (ct_X5_its l G T b z i2 3 x e3) (cwV 2 C.2.2.2.2.1 gX5_taken_X5_its rfl rfl rfl df_X5_its ⟨Nat.le_of_ble_eq_true rfl, Nat.le_of_ble_eq_true rfl⟩) ⟨mm_B.blind, mm_recv (q := (RX5, TX5, 14)) C hH kl_157 (mm_e5 kd_157) rfl, mm_pre C hH⟩ rfl rfl hl.1 rfl (lv_room (Nat.le_of_ble_eq_true rfl)) dX5_taken_29 ⟨Nat.zero_le _, Nat.zero_le _⟩) (fun H locs hH => ?_)
        refine lv_if_ne (tgt := 39) hx hb dX5_taken_32 (by decide) (fun c3 => ?_) (fun c3 => ?_)
        · have h := mm_neg c3 h
          refine lv_iconst (v := 0) hx hb dX5_taken_39 (by decide) ?_
          refine lv_istore_n (lv' := [(3, .int 0), (0, .ref (b + 157)), (1, .int i1), (2, .int i2)]) hx hb dX5_taken_40 rfl hl (by decide) rfl (fun ls hl => ?_)
          refine lv_iload_n hx hb dX5_taken_41 rfl (lv_at hl 0 rfl) ?_
          refine lv_if_eq (tgt := 70) hx hb dX5_taken_42 (by decide) (fun _ => ?_) (fun c => absurd (by decide) c)
          have hl := lv_sub (l' := [(0, .ref (b + 157)), (1, .int i1), (2, .int i2)]) hl [1, 2, 3] rfl
          refine lv_iload_n hx hb dX5_taken_70 rfl (lv_at hl 1 rfl) ?_
          refine lv_istore_n (lv' := [(1, .int i1), (0, .ref (b + 157)), (2, .int i2)]) hx hb dX5_taken_71 rfl hl (by decide) rfl (fun ls hl => ?_)
          obtain ⟨v4, e4, h⟩ := mm_bnd h
          refine lv_iinc (v := v4) (lv' := [(2, .int v4), (1, .int i1), (0, .ref (b + 157))]) hx hb dX5_taken_72 hl (k := 2) rfl (Option.some.inj e4) (by decide) rfl (fun ls hl => ?_)
          refine lv_goto (tgt := 5) hx hb dX5_taken_75 (by decide) ?_
          exact ih i1 v4 x _ _ _ _ h hH (lv_sub hl [2, 1, 0] rfl) kk
        · have h := mm_pos c3 h
          refine lv_iconst (v := 1) hx hb dX5_taken_35 (by decide) ?_
          refine lv_goto (tgt := 40) hx hb dX5_taken_36 (by decide) ?_
          refine lv_istore_n (lv' := [(3, .int 1), (0, .ref (b + 157)), (1, .int i1), (2, .int i2)]) hx hb dX5_taken_40 rfl hl (by decide) rfl (fun ls hl => ?_)
          refine lv_iload_n hx hb dX5_taken_41 rfl (lv_at hl 0 rfl) ?_
          refine lv_if_eq (tgt := 70) hx hb dX5_taken_42 (by decide) (fun c => absurd c (by decide)) (fun _ => ?_)
          have hl := lv_sub (l' := [(0, .ref (b + 157)), (1, .int i1), (2, .int i2)]) hl [1, 2, 3] rfl
          refine lv_iload_n hx hb dX5_taken_45 rfl (lv_at hl 1 rfl) ?_
          refine lv_bipush (v := (-6)) hx hb dX5_taken_46 (by decide) ?_
          refine lv_icmp_eq (tgt := 66) hx hb dX5_taken_48 (by decide) (fun c4 => ?_) (fun c4 => ?_)
          · have h := mm_pos c4 h
            have hl := lv_sub (l' := [(0, .ref (b + 157)), (2, .int i2)]) hl [0, 2] rfl
            refine lv_iload_n hx hb dX5_taken_66 rfl (lv_at hl 1 rfl) ?_
            refine lv_goto (tgt := 71) hx hb dX5_taken_67 (by decide) ?_
            refine lv_istore_n (lv' := [(1, .int i2), (0, .ref (b + 157)), (2, .int i2)]) hx hb dX5_taken_71 rfl hl (by decide) rfl (fun ls hl => ?_)
            obtain ⟨v5, e5, h⟩ := mm_bnd h
            refine lv_iinc (v := v5) (lv' := [(2, .int v5), (1, .int i2), (0, .ref (b + 157))]) hx hb dX5_taken_72 hl (k := 2) rfl (Option.some.inj e5) (by decide) rfl (fun ls hl => ?_)
            refine lv_goto (tgt := 5) hx hb dX5_taken_75 (by decide) ?_
            exact ih i2 v5 x _ _ _ _ h hH (lv_sub hl [2, 1, 0] rfl) kk
          · have h := mm_neg c4 h
            refine lv_aload_n hx hb dX5_taken_51 rfl (lv_at hl 0 rfl) ?_
            refine lv_iload_n hx hb dX5_taken_52 rfl (lv_at hl 2 rfl) ?_
            refine lv_iconst (v := 1) hx hb dX5_taken_53 (by decide) ?_
            obtain ⟨v6, e6, h⟩ := mm_bnd h
            refine mm_goi hH (va_runV (As := [.int i2, .int 1]) (rest := []) ⟨hx, hb, C.2.2.1, C.2.2.2.1, C.2.2.2.2.1⟩ (ct_X5_its l G T b z i2 1 x e6) (cwV 2 C.2.2.2.2.1 gX5_taken_X5_its rfl rfl rfl df_X5_its ⟨Nat.le_of_ble_eq_true rfl, Nat.le_of_ble_eq_true rfl⟩) ⟨mm_B.blind, mm_recv (q := (RX5, TX5, 14)) C hH kl_157 (mm_e5 kd_157) rfl, mm_pre C hH⟩ rfl rfl hl.1 rfl (lv_room (Nat.le_of_ble_eq_true rfl)) dX5_taken_54 ⟨Nat.zero_le _, Nat.zero_le _⟩) (fun H locs hH => ?_)
            refine lv_aload_n hx hb dX5_taken_57 rfl (lv_at hl 0 rfl) ?_
            refine lv_iload_n hx hb dX5_taken_58 rfl (lv_at hl 1 rfl) ?_
            refine lv_iconst (v := 1) hx hb dX5_taken_59 (by decide) ?_
            obtain ⟨v7, e7, h⟩ := mm_bnd h
            refine mm_goi hH (va_runV (As := [.int i1, .int 1]) (rest := [.int v6]) ⟨hx, hb, C.2.2.1, C.2.2.2.1, C.2.2.2.2.1⟩ (ct_X5_its l G T b z i1 1 x e7) (cwV 2 C.2.2.2.2.1 gX5_taken_X5_its rfl rfl rfl df_X5_its ⟨Nat.le_of_ble_eq_true rfl, Nat.le_of_ble_eq_true rfl⟩) ⟨mm_B.blind, mm_recv (q := (RX5, TX5, 14)) C hH kl_157 (mm_e5 kd_157) rfl, mm_pre C hH⟩ rfl rfl hl.1 rfl (lv_room (Nat.le_of_ble_eq_true rfl)) dX5_taken_60 ⟨Nat.zero_le _, Nat.zero_le _⟩) (fun H locs hH => ?_)
            refine lv_icmp_ge (tgt := 70) hx hb dX5_taken_63 (by decide) (fun c5 => ?_) (fun c5 => ?_)
            · have h := mm_pos c5 h
              refine lv_iload_n hx hb dX5_taken_70 rfl (lv_at hl 1 rfl) ?_
              refine lv_istore_n (lv' := [(1, .int i1), (0, .ref (b + 157)), (2, .int i2)]) hx hb dX5_taken_71 rfl hl (by decide) rfl (fun ls hl => ?_)
              obtain ⟨v8, e8, h⟩ := mm_bnd h
              refine lv_iinc (v := v8) (lv' := [(2, .int v8), (1, .int i1), (0, .ref (b + 157))]) hx hb dX5_taken_72 hl (k := 2) rfl (Option.some.inj e8) (by decide) rfl (fun ls hl => ?_)
              refine lv_goto (tgt := 5) hx hb dX5_taken_75 (by decide) ?_
              exact ih i1 v8 x _ _ _ _ h hH (lv_sub hl [2, 1, 0] rfl) kk
            · have h := mm_neg c5 h
              have hl := lv_sub (l' := [(0, .ref (b + 157)), (2, .int i2)]) hl [0, 2] rfl
              refine lv_iload_n hx hb dX5_taken_66 rfl (lv_at hl 1 rfl) ?_
              refine lv_goto (tgt := 71) hx hb dX5_taken_67 (by decide) ?_
              refine lv_istore_n (lv' := [(1, .int i2), (0, .ref (b + 157)), (2, .int i2)]) hx hb dX5_taken_71 rfl hl (by decide) rfl (fun ls hl => ?_)
              obtain ⟨v9, e9, h⟩ := mm_bnd h
              refine lv_iinc (v := v9) (lv' := [(2, .int v9), (1, .int i2), (0, .ref (b + 157))]) hx hb dX5_taken_72 hl (k := 2) rfl (Option.some.inj e9) (by decide) rfl (fun ls hl => ?_)
              refine lv_goto (tgt := 5) hx hb dX5_taken_75 (by decide) ?_
              exact ih i2 v9 x _ _ _ _ h hH (lv_sub hl [2, 1, 0] rfl) kk
set_option maxRecDepth 100000 in
set_option maxHeartbeats 4000000 in
theorem ct_X5_taken (l : Launch) (G : va_G) (T : Nat → ClassId) (b : Nat) (z : Nat → Nat)  (x : mm_M) {r : Int32} (h : fn_X5_taken  x = some r) : mm_Ci l yX5_taken wsX5_taken rm_X5_taken G T b z [.ref (b + 157)] x r x := by
  unfold fn_X5_taken at h
  refine mm_start (cc := cX5_taken) (maxL := 4) (ret := (some .int)) (by decide) rfl (Nat.le_of_ble_eq_true rfl) (fun p e s m below meth c ls C hr hlk hH hl => ?_)
  have hl : lv_has ls 4 [(0, .ref (b + 157))] := hl
  have hx := C.1
  have hb := C.2.1
  refine lv_bipush (v := (-6)) hx hb dX5_taken_0 (by decide) ?_
  refine lv_istore_n (lv' := [(1, .int (-6)), (0, .ref (b + 157))]) hx hb dX5_taken_2 rfl hl (by decide) rfl (fun ls hl => ?_)
  refine lv_iconst (v := 0) hx hb dX5_taken_3 (by decide) ?_
  refine lv_istore_n (lv' := [(2, .int 0), (1, .int (-6)), (0, .ref (b + 157))]) hx hb dX5_taken_4 rfl hl (by decide) rfl (fun ls hl => ?_)
  obtain ⟨v1, e1, h⟩ := mm_bnd h
  refine lp_X5_taken_5 C 9 (-6) 0 x _ _ _ _ e1 hH (lv_sub hl [2, 1, 0] rfl) (fun H locs ls hH hl => ?_)
  refine lv_iload_n hx hb dX5_taken_78 rfl (lv_at hl 0 rfl) ?_
  exact mm_iretP C hH hr hlk rfl h dX5_taken_79
def fn_X5_note_3 : Nat → Int32 → Int32 → Int32 → mm_M → Option mm_M
  | 0, _, _, _, _ => none
  | n + 1, a1, a2, i3, x => if i3 < 14 then some (x) else if (i3 - 3) < 0 ∨ 135 ≤ Int32.toNatClampNeg (i3 - 3) then none else if i3 < 0 ∨ 135 ≤ Int32.toNatClampNeg i3 then none else (some (mm_up x 158 (Int32.toNatClampNeg i3) (x 158 (Int32.toNatClampNeg (i3 - 3))))).bind fun x1 => (some (i3 + (-1))).bind fun v1 => fn_X5_note_3 n a1 a2 v1 x1
def fn_X5_note (a1 : Int32) (a2 : Int32) (x : mm_M) : Option mm_M :=
  (fn_X5_note_3 58 a1 a2 70 x).bind fun x1 => (some (mm_up x1 158 11 a1)).bind fun x2 => (some (mm_up x2 158 12 a2)).bind fun x3 => (some (mm_up x3 158 13 (x3 158 7))).bind fun x4 => if (20 : Int32) ≤ (x4 158 10) then (some (mm_up x4 158 10 ((x4 158 10) + 0))).bind fun x5 => some x5 else (some (mm_up x4 158 10 ((x4 158 10) + 1))).bind fun x6 => some x6
abbrev rm_X5_note : Room := { frames := 0, cells := 0, slots := 0, locals := 0 }
theorem df_X5_note : yX5_note.cls = RX5 ∧ yX5_note.cls ≠ "java/lang/invoke/MethodHandle" ∧ yX5_note.cls ≠ "java/lang/invoke/VarHandle" ∧ (parseMethodDescriptor yX5_note.desc).map (fun d => d.parameters.length) = some 2 := by decide +kernel
set_option maxRecDepth 100000 in
set_option maxHeartbeats 4000000 in
theorem lp_X5_note_3 {p : Program} {l : Launch} {e : Env} {s : State} {m : MethodId} {args : Array Value} {below : List Frame} {meth : Method} {c : Code} {Q : State → Prop} {G : va_G} {T : Nat → ClassId} {b : Nat} {z : Nat → Nat} (C : mm_C p m c cX5_note 4 s args wsX5_note RX5 G T b z) (a1 : Int32) (a2 : Int32) : ∀ (n : Nat) (i3 : Int32) (x : mm_M) (H : Heap) (locs : List Loc) (ls : Array Slot) (x1 : mm_M), fn_X5_note_3 n a1 a2 i3 x = some (x1) → mm_H G T b x s H locs → lv_has ls 4 [(0, .ref (b + 157)), (1, .int a1), (2, .int a2), (3, .int i3)] → (∀ (H1 : Heap) (locs1 : List Loc) (ls1 : Array Slot), mm_H G T b x1 s H1 locs1 → lv_has ls1 4 [(0, .ref (b + 157)), (1, .int a1), (2, .int a2)] → W p l e rm_X5_note s m args below meth c H1 locs1 0 0 Q (F0 m 29 ls1 [])) → W p l e rm_X5_note s m args below meth c H locs 0 0 Q (F0 m 3 ls []) := by
  have hx := C.1
  have hb := C.2.1
  have w1 := C.2.2.2.2.1 (.fieldLink RX5 7 "LandingFinesModel" "row" "[I") (by decide +kernel)
  have hin5 : ∀ w ∈ wsX50, w ∈ wsX5_note := by decide +kernel
  intro n
  induction n with
  | zero => intro _ _ _ _ _ _ h; cases (show (none : Option mm_M) = some _ from h)
  | succ n ih =>
    intro i3 x H locs ls x1 h hH hl kk
    rw [fn_X5_note_3] at h
    refine lv_iload_n hx hb dX5_note_3 rfl (lv_at hl 3 rfl) ?_
    refine lv_bipush (v := 14) hx hb dX5_note_4 (by decide) ?_
    refine lv_icmp_lt (tgt := 29) hx hb dX5_note_6 (by decide) (fun c1 => ?_) (fun c1 => ?_)
    · have h := mm_pos c1 h
      have hl := lv_sub (l' := [(0, .ref (b + 157)), (1, .int a1), (2, .int a2)]) hl [0, 1, 2] rfl
      cases h
      exact kk _ _ _ hH (lv_sub hl [0, 1, 2] rfl)
    · have h := mm_neg c1 h
      refine lv_aload_n hx hb dX5_note_9 rfl (lv_at hl 0 rfl) ?_
      refine mm_get (v := .ref (b + 158)) C hH hin5 rfl kl_157 (mm_e5 kd_157) (j := 0) (by decide) rfl w1 rfl dX5_note_10 ?_
      refine lv_iload_n hx hb dX5_note_13 rfl (lv_at hl 3 rfl) ?_
      refine lv_aload_n hx hb dX5_note_14 rfl (lv_at hl 0 rfl) ?_
      refine mm_get (v := .ref (b + 158)) C hH hin5 rfl kl_157 (mm_e5 kd_157) (j := 0) (by decide) rfl w1 rfl dX5_note_15 ?_
      refine lv_iload_n hx hb dX5_note_18 rfl (lv_at hl 3 rfl) ?_
      refine lv_iconst (v := 3) hx hb dX5_note_19 (by decide) ?_
      refine lv_isub hx hb dX5_note_20 ?_
      obtain ⟨g1, h⟩ := mm_grn h
      refine mm_iald (n := 135) (jn := (Int32.toNatClampNeg (i3 - 3))) C hH kd_158 ln_158 g1 rfl dX5_note_21 ?_
      obtain ⟨g2, h⟩ := mm_grn h
      obtain ⟨x1, e1, h⟩ := mm_bnd h
      refine mm_iast (n := 135) (jn := (Int32.toNatClampNeg i3)) C hH kd_158 ln_158 g2 rfl (Option.some.inj e1) dX5_note_22 (fun H locs hH => ?_)
      obtain ⟨v1, e2, h⟩ := mm_bnd h
      refine lv_iinc (v := v1) (lv' := [(3, .int v1), (0, .ref (b + 157)), (1, .int a1), (2, .int a2)]) hx hb dX5_note_23 hl (k := 3) rfl (Option.some.inj e2) (by decide) rfl (fun ls hl => ?_)
      refine lv_goto (tgt := 3) hx hb dX5_note_26 (by decide) ?_
      exact ih v1 x1 _ _ _ _ h hH (lv_sub hl [1, 2, 3, 0] rfl) kk
set_option maxRecDepth 100000 in
set_option maxHeartbeats 4000000 in
theorem ct_X5_note (l : Launch) (G : va_G) (T : Nat → ClassId) (b : Nat) (z : Nat → Nat) (a1 : Int32) (a2 : Int32) (x : mm_M) {x1 : mm_M} (h : fn_X5_note a1 a2 x = some x1) : mm_Cv l yX5_note wsX5_note rm_X5_note G T b z [.ref (b + 157), .int a1, .int a2] x x1 := by
  unfold fn_X5_note at h
  refine mm_start (cc := cX5_note) (maxL := 4) (ret := none) (by decide) rfl (Nat.le_of_ble_eq_true rfl) (fun p e s m below meth c ls C hr hlk hH hl => ?_)
  have hl : lv_has ls 4 [(0, .ref (b + 157)), (1, .int a1), (2, .int a2)] := hl
  have hx := C.1
  have hb := C.2.1
  have w1 := C.2.2.2.2.1 (.fieldLink RX5 7 "LandingFinesModel" "row" "[I") (by decide +kernel)
  have hin5 : ∀ w ∈ wsX50, w ∈ wsX5_note := by decide +kernel
  refine lv_bipush (v := 70) hx hb dX5_note_0 (by decide) ?_
  refine lv_istore_n (lv' := [(3, .int 70), (0, .ref (b + 157)), (1, .int a1), (2, .int a2)]) hx hb dX5_note_2 rfl hl (by decide) rfl (fun ls hl => ?_)
  obtain ⟨x1, e1, h⟩ := mm_bnd h
  refine lp_X5_note_3 C a1 a2 58 70 x _ _ _ _ e1 hH (lv_sub hl [1, 2, 3, 0] rfl) (fun H locs ls hH hl => ?_)
  refine lv_aload_n hx hb dX5_note_29 rfl (lv_at hl 0 rfl) ?_
  refine mm_get (v := .ref (b + 158)) C hH hin5 rfl kl_157 (mm_e5 kd_157) (j := 0) (by decide) rfl w1 rfl dX5_note_30 ?_
  refine lv_bipush (v := 11) hx hb dX5_note_33 (by decide) ?_
  refine lv_iload_n hx hb dX5_note_35 rfl (lv_at hl 1 rfl) ?_
  obtain ⟨x2, e2, h⟩ := mm_bnd h
  refine mm_iast (n := 135) (jn := 11) C hH kd_158 ln_158 (by decide) (by decide) (Option.some.inj e2) dX5_note_36 (fun H locs hH => ?_)
  refine lv_aload_n hx hb dX5_note_37 rfl (lv_at hl 0 rfl) ?_
  refine mm_get (v := .ref (b + 158)) C hH hin5 rfl kl_157 (mm_e5 kd_157) (j := 0) (by decide) rfl w1 rfl dX5_note_38 ?_
  refine lv_bipush (v := 12) hx hb dX5_note_41 (by decide) ?_
  refine lv_iload_n hx hb dX5_note_43 rfl (lv_at hl 2 rfl) ?_
  obtain ⟨x3, e3, h⟩ := mm_bnd h
  refine mm_iast (n := 135) (jn := 12) C hH kd_158 ln_158 (by decide) (by decide) (Option.some.inj e3) dX5_note_44 (fun H locs hH => ?_)
  refine lv_aload_n hx hb dX5_note_45 rfl (lv_at hl 0 rfl) ?_
  refine mm_get (v := .ref (b + 158)) C hH hin5 rfl kl_157 (mm_e5 kd_157) (j := 0) (by decide) rfl w1 rfl dX5_note_46 ?_
  refine lv_bipush (v := 13) hx hb dX5_note_49 (by decide) ?_
  refine lv_aload_n hx hb dX5_note_51 rfl (lv_at hl 0 rfl) ?_
  refine mm_get (v := .ref (b + 158)) C hH hin5 rfl kl_157 (mm_e5 kd_157) (j := 0) (by decide) rfl w1 rfl dX5_note_52 ?_
  refine lv_bipush (v := 7) hx hb dX5_note_55 (by decide) ?_
  refine mm_iald (n := 135) (jn := 7) C hH kd_158 ln_158 (by decide) (by decide) dX5_note_57 ?_
  obtain ⟨x4, e4, h⟩ := mm_bnd h
  refine mm_iast (n := 135) (jn := 13) C hH kd_158 ln_158 (by decide) (by decide) (Option.some.inj e4) dX5_note_58 (fun H locs hH => ?_)
  refine lv_aload_n hx hb dX5_note_59 rfl (lv_at hl 0 rfl) ?_
  refine mm_get (v := .ref (b + 158)) C hH hin5 rfl kl_157 (mm_e5 kd_157) (j := 0) (by decide) rfl w1 rfl dX5_note_60 ?_
  refine lv_bipush (v := 10) hx hb dX5_note_63 (by decide) ?_
  refine lv_dup2_11 hx hb dX5_note_65 rfl rfl ?_
  refine mm_iald (n := 135) (jn := 10) C hH kd_158 ln_158 (by decide) (by decide) dX5_note_66 ?_
  refine lv_aload_n hx hb dX5_note_67 rfl (lv_at hl 0 rfl) ?_
  refine mm_get (v := .ref (b + 158)) C hH hin5 rfl kl_157 (mm_e5 kd_157) (j := 0) (by decide) rfl w1 rfl dX5_note_68 ?_
  refine lv_bipush (v := 10) hx hb dX5_note_71 (by decide) ?_
  refine mm_iald (n := 135) (jn := 10) C hH kd_158 ln_158 (by decide) (by decide) dX5_note_73 ?_
  refine lv_bipush (v := 20) hx hb dX5_note_74 (by decide) ?_
  refine lv_icmp_ge (tgt := 83) hx hb dX5_note_76 (by decide) (fun c1 => ?_) (fun c1 => ?_)
  · have h := mm_pos c1 h
    have hl := lv_sub (l' := []) hl [] rfl
    refine lv_iconst (v := 0) hx hb dX5_note_83 (by decide) ?_
    refine lv_iadd hx hb dX5_note_84 ?_
    obtain ⟨x5, e5, h⟩ := mm_bnd h
    refine mm_iast (n := 135) (jn := 10) C hH kd_158 ln_158 (by decide) (by decide) (Option.some.inj e5) dX5_note_85 (fun H locs hH => ?_)
    exact mm_vret C hH hr hlk h dX5_note_86
  · have h := mm_neg c1 h
    have hl := lv_sub (l' := []) hl [] rfl
    refine lv_iconst (v := 1) hx hb dX5_note_79 (by decide) ?_
    refine lv_goto (tgt := 84) hx hb dX5_note_80 (by decide) ?_
    refine lv_iadd hx hb dX5_note_84 ?_
    obtain ⟨x6, e6, h⟩ := mm_bnd h
    refine mm_iast (n := 135) (jn := 10) C hH kd_158 ln_158 (by decide) (by decide) (Option.some.inj e6) dX5_note_85 (fun H locs hH => ?_)
    exact mm_vret C hH hr hlk h dX5_note_86
def fn_X5_held (a0 : Int32) (x : mm_M) : Option Int32 :=
  if (99999 : Int32) ≤ a0 then some (99999 : Int32) else some a0
abbrev rm_X5_held : Room := { frames := 0, cells := 0, slots := 0, locals := 0 }
theorem df_X5_held : yX5_held.cls = RX5 ∧ yX5_held.cls ≠ "java/lang/invoke/MethodHandle" ∧ yX5_held.cls ≠ "java/lang/invoke/VarHandle" ∧ (parseMethodDescriptor yX5_held.desc).map (fun d => d.parameters.length) = some 1 := by decide +kernel
set_option maxRecDepth 100000 in
set_option maxHeartbeats 4000000 in
theorem ct_X5_held (l : Launch) (G : va_G) (T : Nat → ClassId) (b : Nat) (z : Nat → Nat) (a0 : Int32) (x : mm_M) {r : Int32} (h : fn_X5_held a0 x = some r) : mm_Ci l yX5_held wsX5_held rm_X5_held G T b z [.int a0] x r x := by
  unfold fn_X5_held at h
  refine mm_start (cc := cX5_held) (maxL := 1) (ret := (some .int)) (by decide) rfl (Nat.le_of_ble_eq_true rfl) (fun p e s m below meth c ls C hr hlk hH hl => ?_)
  have hl : lv_has ls 1 [(0, .int a0)] := hl
  have hx := C.1
  have hb := C.2.1
  have w1 := C.2.2.2.2.1 (.constant RX5 51 (99999)) (by decide +kernel)
  refine lv_iload_n hx hb dX5_held_0 rfl (lv_at hl 0 rfl) ?_
  refine lv_ldc (own := RX5) (v := 99999) hx hb C.2.2.2.1 w1 dX5_held_1 ?_
  refine lv_icmp_ge (tgt := 10) hx hb dX5_held_3 (by decide) (fun c1 => ?_) (fun c1 => ?_)
  · have h := mm_pos c1 h
    have hl := lv_sub (l' := []) hl [] rfl
    refine lv_ldc (own := RX5) (v := 99999) hx hb C.2.2.2.1 w1 dX5_held_10 ?_
    exact mm_iretP C hH hr hlk rfl h dX5_held_12
  · have h := mm_neg c1 h
    refine lv_iload_n hx hb dX5_held_6 rfl (lv_at hl 0 rfl) ?_
    refine lv_goto (tgt := 12) hx hb dX5_held_7 (by decide) ?_
    have hl := lv_sub (l' := []) hl [] rfl
    exact mm_iretP C hH hr hlk rfl h dX5_held_12
def fn_X5_change (a1 : Int32) (a2 : Int32) (a3 : Int32) (a4 : Int32) (x : mm_M) : Option (mm_M × Int32) :=
  (fn_X5_taken x).bind fun v1 => (fn_X5_lay a1 a2 a3 x).bind fun x1 => (fn_X5_its a1 2 x1).bind fun v2 => if a4 < 0 ∨ 135 ≤ Int32.toNatClampNeg a4 then none else (fn_X5_held (v2 + (x1 158 (Int32.toNatClampNeg a4))) x1).bind fun v3 => (fn_X5_lay a1 2 v3 x1).bind fun x2 => (fn_X5_its a1 6 x2).bind fun v4 => (fn_X5_lay a1 6 (v4 + 1) x2).bind fun x3 => (fn_X5_note a4 a1 x3).bind fun x4 => (fn_X5_its a1 2 x4).bind fun v5 => if v5 ≤ (x4 158 4) then (fn_X5_taken x4).bind fun v6 => if v6 = v1 then (some (mm_up x4 158 9 ((x4 158 9) + 0))).bind fun x5 => (fn_X5_its a1 2 x5).bind fun v7 => some (x5, v7) else (some (mm_up x4 158 9 ((x4 158 9) + 1))).bind fun x6 => (fn_X5_its a1 2 x6).bind fun v8 => some (x6, v8) else (fn_X5_its a1 3 x4).bind fun v9 => if v9 = 0 then (fn_X5_lay a1 3 1 x4).bind fun x9 => (fn_X5_lay a1 4 0 x9).bind fun x10 => (fn_X5_its a1 7 x10).bind fun v13 => (fn_X5_lay a1 7 (v13 + 1) x10).bind fun x11 => (fn_X5_note 3 a1 x11).bind fun x12 => (fn_X5_taken x12).bind fun v14 => if v14 = v1 then (some (mm_up x12 158 9 ((x12 158 9) + 0))).bind fun x13 => (fn_X5_its a1 2 x13).bind fun v15 => some (x13, v15) else (some (mm_up x12 158 9 ((x12 158 9) + 1))).bind fun x14 => (fn_X5_its a1 2 x14).bind fun v16 => some (x14, v16) else (fn_X5_taken x4).bind fun v10 => if v10 = v1 then (some (mm_up x4 158 9 ((x4 158 9) + 0))).bind fun x7 => (fn_X5_its a1 2 x7).bind fun v11 => some (x7, v11) else (some (mm_up x4 158 9 ((x4 158 9) + 1))).bind fun x8 => (fn_X5_its a1 2 x8).bind fun v12 => some (x8, v12)
abbrev rm_X5_change : Room := { frames := 2, cells := 0, slots := 0, locals := 45 }
theorem df_X5_change : yX5_change.cls = RX5 ∧ yX5_change.cls ≠ "java/lang/invoke/MethodHandle" ∧ yX5_change.cls ≠ "java/lang/invoke/VarHandle" ∧ (parseMethodDescriptor yX5_change.desc).map (fun d => d.parameters.length) = some 4 := by decide +kernel
set_option maxRecDepth 100000 in
set_option maxHeartbeats 4000000 in
theorem ct_X5_change (l : Launch) (G : va_G) (T : Nat → ClassId) (b : Nat) (z : Nat → Nat) (a1 : Int32) (a2 : Int32) (a3 : Int32) (a4 : Int32) (x : mm_M) {x1 : mm_M} {r : Int32} (h : fn_X5_change a1 a2 a3 a4 x = some (x1, r)) : mm_Ci l yX5_change wsX5_change rm_X5_change G T b z [.ref (b + 157), .int a1, .int a2, .int a3, .int a4] x r x1 := by
  unfold fn_X5_change at h
  refine mm_start (cc := cX5_change) (maxL := 6) (ret := (some .int)) (by decide) rfl (Nat.le_of_ble_eq_true rfl) (fun p e s m below meth c ls C hr hlk hH hl => ?_)
  have hl : lv_has ls 6 [(0, .ref (b + 157)), (1, .int a1), (2, .int a2), (3, .int a3), (4, .int a4)] := hl
  have hx := C.1
  have hb := C.2.1
  have w1 := C.2.2.2.2.1 (.fieldLink RX5 7 "LandingFinesModel" "row" "[I") (by decide +kernel)
  have hin5 : ∀ w ∈ wsX50, w ∈ wsX5_change := by decide +kernel
  refine lv_aload_n hx hb dX5_change_0 rfl (lv_at hl 0 rfl) ?_
  obtain ⟨v1, e1, h⟩ := mm_bnd h
  refine mm_goi hH (va_runV (As := []) (rest := []) ⟨hx, hb, C.2.2.1, C.2.2.2.1, C.2.2.2.2.1⟩ (ct_X5_taken l G T b z x e1) (cwV 0 C.2.2.2.2.1 gX5_change_X5_taken rfl rfl rfl df_X5_taken ⟨Nat.le_of_ble_eq_true rfl, Nat.le_of_ble_eq_true rfl⟩) ⟨mm_B.blind, mm_recv (q := (RX5, TX5, 14)) C hH kl_157 (mm_e5 kd_157) rfl, mm_pre C hH⟩ rfl rfl hl.1 rfl (lv_room (Nat.le_of_ble_eq_true rfl)) dX5_change_1 ⟨Nat.zero_le _, Nat.zero_le _⟩) (fun H locs hH => ?_)
  refine lv_istore (lv' := [(5, .int v1), (0, .ref (b + 157)), (1, .int a1), (2, .int a2), (3, .int a3), (4, .int a4)]) hx hb dX5_change_4 hl (by decide) rfl (fun ls hl => ?_)
  refine lv_aload_n hx hb dX5_change_6 rfl (lv_at hl 1 rfl) ?_
  refine lv_iload_n hx hb dX5_change_7 rfl (lv_at hl 2 rfl) ?_
  refine lv_iload_n hx hb dX5_change_8 rfl (lv_at hl 3 rfl) ?_
  refine lv_iload_n hx hb dX5_change_9 rfl (lv_at hl 4 rfl) ?_
  obtain ⟨x1, e2, h⟩ := mm_bnd h
  refine mm_gov hH (va_runV (As := [.int a1, .int a2, .int a3]) (rest := []) ⟨hx, hb, C.2.2.1, C.2.2.2.1, C.2.2.2.2.1⟩ (ct_X5_lay l G T b z a1 a2 a3 x e2) (cwV 3 C.2.2.2.2.1 gX5_change_X5_lay rfl rfl rfl df_X5_lay ⟨Nat.le_of_ble_eq_true rfl, Nat.le_of_ble_eq_true rfl⟩) ⟨mm_B.blind, mm_recv (q := (RX5, TX5, 14)) C hH kl_157 (mm_e5 kd_157) rfl, mm_pre C hH⟩ rfl rfl hl.1 rfl (lv_room (Nat.le_of_ble_eq_true rfl)) dX5_change_10 ⟨Nat.zero_le _, Nat.zero_le _⟩) (fun H locs hH => ?_)
  refine lv_aload_n hx hb dX5_change_13 rfl (lv_at hl 1 rfl) ?_
  refine lv_iload_n hx hb dX5_change_14 rfl (lv_at hl 2 rfl) ?_
  refine lv_iconst (v := 2) hx hb dX5_change_15 (by decide) ?_
  refine lv_aload_n hx hb dX5_change_16 rfl (lv_at hl 1 rfl) ?_
  refine lv_iload_n hx hb dX5_change_17 rfl (lv_at hl 2 rfl) ?_
  refine lv_iconst (v := 2) hx hb dX5_change_18 (by decide) ?_
  obtain ⟨v2, e3, h⟩ := mm_bnd h
  refine mm_goi hH (va_runV (As := [.int a1, .int 2]) (rest := [.int 2, .int a1, .ref (b + 157)]) ⟨hx, hb, C.2.2.1, C.2.2.2.1, C.2.2.2.2.1⟩ (ct_X5_its l G T b z a1 2 x1 e3) (cwV 2 C.2.2.2.2.1 gX5_change_X5_its rfl rfl rfl df_X5_its ⟨Nat.le_of_ble_eq_true rfl, Nat.le_of_ble_eq_true rfl⟩) ⟨mm_B.blind, mm_recv (q := (RX5, TX5, 14)) C hH kl_157 (mm_e5 kd_157) rfl, mm_pre C hH⟩ rfl rfl hl.1 rfl (lv_room (Nat.le_of_ble_eq_true rfl)) dX5_change_19 ⟨Nat.zero_le _, Nat.zero_le _⟩) (fun H locs hH => ?_)
  refine lv_aload_n hx hb dX5_change_22 rfl (lv_at hl 1 rfl) ?_
  refine mm_get (v := .ref (b + 158)) C hH hin5 rfl kl_157 (mm_e5 kd_157) (j := 0) (by decide) rfl w1 rfl dX5_change_23 ?_
  refine lv_iload hx hb dX5_change_26 (lv_at hl 5 rfl) ?_
  obtain ⟨g1, h⟩ := mm_grn h
  refine mm_iald (n := 135) (jn := (Int32.toNatClampNeg a4)) C hH kd_158 ln_158 g1 rfl dX5_change_28 ?_
  refine lv_iadd hx hb dX5_change_29 ?_
  obtain ⟨v3, e4, h⟩ := mm_bnd h
  refine mm_goi hH (va_runS (As := [.int (v2 + (x1 158 (Int32.toNatClampNeg a4)))]) (rest := [.int 2, .int a1, .ref (b + 157)]) ⟨hx, hb, C.2.2.1, C.2.2.2.1, C.2.2.2.2.1⟩ (ct_X5_held l G T b z (v2 + (x1 158 (Int32.toNatClampNeg a4))) x1 e4) (va_cwS 1 C.2.2.2.2.1 gX5_change_X5_held rfl rfl rfl df_X5_held.2 ⟨Nat.le_of_ble_eq_true rfl, Nat.le_of_ble_eq_true rfl⟩) ⟨mm_B.blind, mm_pre C hH⟩ rfl rfl hl.1 rfl (lv_room (Nat.le_of_ble_eq_true rfl)) dX5_change_30 ⟨Nat.zero_le _, Nat.zero_le _⟩) (fun H locs hH => ?_)
  obtain ⟨x2, e5, h⟩ := mm_bnd h
  refine mm_gov hH (va_runV (As := [.int a1, .int 2, .int v3]) (rest := []) ⟨hx, hb, C.2.2.1, C.2.2.2.1, C.2.2.2.2.1⟩ (ct_X5_lay l G T b z a1 2 v3 x1 e5) (cwV 3 C.2.2.2.2.1 gX5_change_X5_lay rfl rfl rfl df_X5_lay ⟨Nat.le_of_ble_eq_true rfl, Nat.le_of_ble_eq_true rfl⟩) ⟨mm_B.blind, mm_recv (q := (RX5, TX5, 14)) C hH kl_157 (mm_e5 kd_157) rfl, mm_pre C hH⟩ rfl rfl hl.1 rfl (lv_room (Nat.le_of_ble_eq_true rfl)) dX5_change_33 ⟨Nat.zero_le _, Nat.zero_le _⟩) (fun H locs hH => ?_)
  refine lv_aload_n hx hb dX5_change_36 rfl (lv_at hl 1 rfl) ?_
  refine lv_iload_n hx hb dX5_change_37 rfl (lv_at hl 2 rfl) ?_
  refine lv_bipush (v := 6) hx hb dX5_change_38 (by decide) ?_
  refine lv_aload_n hx hb dX5_change_40 rfl (lv_at hl 1 rfl) ?_
  refine lv_iload_n hx hb dX5_change_41 rfl (lv_at hl 2 rfl) ?_
  refine lv_bipush (v := 6) hx hb dX5_change_42 (by decide) ?_
  obtain ⟨v4, e6, h⟩ := mm_bnd h
  refine mm_goi hH (va_runV (As := [.int a1, .int 6]) (rest := [.int 6, .int a1, .ref (b + 157)]) ⟨hx, hb, C.2.2.1, C.2.2.2.1, C.2.2.2.2.1⟩ (ct_X5_its l G T b z a1 6 x2 e6) (cwV 2 C.2.2.2.2.1 gX5_change_X5_its rfl rfl rfl df_X5_its ⟨Nat.le_of_ble_eq_true rfl, Nat.le_of_ble_eq_true rfl⟩) ⟨mm_B.blind, mm_recv (q := (RX5, TX5, 14)) C hH kl_157 (mm_e5 kd_157) rfl, mm_pre C hH⟩ rfl rfl hl.1 rfl (lv_room (Nat.le_of_ble_eq_true rfl)) dX5_change_44 ⟨Nat.zero_le _, Nat.zero_le _⟩) (fun H locs hH => ?_)
  refine lv_iconst (v := 1) hx hb dX5_change_47 (by decide) ?_
  refine lv_iadd hx hb dX5_change_48 ?_
  obtain ⟨x3, e7, h⟩ := mm_bnd h
  refine mm_gov hH (va_runV (As := [.int a1, .int 6, .int (v4 + 1)]) (rest := []) ⟨hx, hb, C.2.2.1, C.2.2.2.1, C.2.2.2.2.1⟩ (ct_X5_lay l G T b z a1 6 (v4 + 1) x2 e7) (cwV 3 C.2.2.2.2.1 gX5_change_X5_lay rfl rfl rfl df_X5_lay ⟨Nat.le_of_ble_eq_true rfl, Nat.le_of_ble_eq_true rfl⟩) ⟨mm_B.blind, mm_recv (q := (RX5, TX5, 14)) C hH kl_157 (mm_e5 kd_157) rfl, mm_pre C hH⟩ rfl rfl hl.1 rfl (lv_room (Nat.le_of_ble_eq_true rfl)) dX5_change_49 ⟨Nat.zero_le _, Nat.zero_le _⟩) (fun H locs hH => ?_)
  refine lv_aload_n hx hb dX5_change_52 rfl (lv_at hl 1 rfl) ?_
  refine lv_iload hx hb dX5_change_53 (lv_at hl 5 rfl) ?_
  refine lv_iload_n hx hb dX5_change_55 rfl (lv_at hl 2 rfl) ?_
  obtain ⟨x4, e8, h⟩ := mm_bnd h
  refine mm_gov hH (va_runV (As := [.int a4, .int a1]) (rest := []) ⟨hx, hb, C.2.2.1, C.2.2.2.1, C.2.2.2.2.1⟩ (ct_X5_note l G T b z a4 a1 x3 e8) (cwV 2 C.2.2.2.2.1 gX5_change_X5_note rfl rfl rfl df_X5_note ⟨Nat.le_of_ble_eq_true rfl, Nat.le_of_ble_eq_true rfl⟩) ⟨mm_B.blind, mm_recv (q := (RX5, TX5, 14)) C hH kl_157 (mm_e5 kd_157) rfl, mm_pre C hH⟩ rfl rfl hl.1 rfl (lv_room (Nat.le_of_ble_eq_true rfl)) dX5_change_56 ⟨Nat.zero_le _, Nat.zero_le _⟩) (fun H locs hH => ?_)
  refine lv_aload_n hx hb dX5_change_59 rfl (lv_at hl 1 rfl) ?_
  refine lv_iload_n hx hb dX5_change_60 rfl (lv_at hl 2 rfl) ?_
  refine lv_iconst (v := 2) hx hb dX5_change_61 (by decide) ?_
  obtain ⟨v5, e9, h⟩ := mm_bnd h
  refine mm_goi hH (va_runV (As := [.int a1, .int 2]) (rest := []) ⟨hx, hb, C.2.2.1, C.2.2.2.1, C.2.2.2.2.1⟩ (ct_X5_its l G T b z a1 2 x4 e9) (cwV 2 C.2.2.2.2.1 gX5_change_X5_its rfl rfl rfl df_X5_its ⟨Nat.le_of_ble_eq_true rfl, Nat.le_of_ble_eq_true rfl⟩) ⟨mm_B.blind, mm_recv (q := (RX5, TX5, 14)) C hH kl_157 (mm_e5 kd_157) rfl, mm_pre C hH⟩ rfl rfl hl.1 rfl (lv_room (Nat.le_of_ble_eq_true rfl)) dX5_change_62 ⟨Nat.zero_le _, Nat.zero_le _⟩) (fun H locs hH => ?_)
  refine lv_aload_n hx hb dX5_change_65 rfl (lv_at hl 1 rfl) ?_
  refine mm_get (v := .ref (b + 158)) C hH hin5 rfl kl_157 (mm_e5 kd_157) (j := 0) (by decide) rfl w1 rfl dX5_change_66 ?_
  refine lv_iconst (v := 4) hx hb dX5_change_69 (by decide) ?_
  refine mm_iald (n := 135) (jn := 4) C hH kd_158 ln_158 (by decide) (by decide) dX5_change_70 ?_
  refine lv_icmp_le (tgt := 119) hx hb dX5_change_71 (by decide) (fun c1 => ?_) (fun c1 => ?_)
  · have h := mm_pos c1 h
    have hl := lv_sub (l' := [(5, .int v1), (0, .ref (b + 157)), (1, .int a1)]) hl [0, 1, 2] rfl
    refine lv_aload_n hx hb dX5_change_119 rfl (lv_at hl 1 rfl) ?_
    refine mm_get (v := .ref (b + 158)) C hH hin5 rfl kl_157 (mm_e5 kd_157) (j := 0) (by decide) rfl w1 rfl dX5_change_120 ?_
    refine lv_bipush (v := 9) hx hb dX5_change_123 (by decide) ?_
    refine lv_dup2_11 hx hb dX5_change_125 rfl rfl ?_
    refine mm_iald (n := 135) (jn := 9) C hH kd_158 ln_158 (by decide) (by decide) dX5_change_126 ?_
    refine lv_aload_n hx hb dX5_change_127 rfl (lv_at hl 1 rfl) ?_
    obtain ⟨v6, e10, h⟩ := mm_bnd h
    refine mm_goi hH (va_runV (As := []) (rest := [.int (x4 158 9), .int 9, .ref (b + 158)]) ⟨hx, hb, C.2.2.1, C.2.2.2.1, C.2.2.2.2.1⟩ (ct_X5_taken l G T b z x4 e10) (cwV 0 C.2.2.2.2.1 gX5_change_X5_taken rfl rfl rfl df_X5_taken ⟨Nat.le_of_ble_eq_true rfl, Nat.le_of_ble_eq_true rfl⟩) ⟨mm_B.blind, mm_recv (q := (RX5, TX5, 14)) C hH kl_157 (mm_e5 kd_157) rfl, mm_pre C hH⟩ rfl rfl hl.1 rfl (lv_room (Nat.le_of_ble_eq_true rfl)) dX5_change_128 ⟨Nat.zero_le _, Nat.zero_le _⟩) (fun H locs hH => ?_)
    refine lv_iload hx hb dX5_change_131 (lv_at hl 0 rfl) ?_
    refine lv_icmp_eq (tgt := 140) hx hb dX5_change_133 (by decide) (fun c2 => ?_) (fun c2 => ?_)
    · have h := mm_pos c2 h
      have hl := lv_sub (l' := [(0, .ref (b + 157)), (1, .int a1)]) hl [1, 2] rfl
      refine lv_iconst (v := 0) hx hb dX5_change_140 (by decide) ?_
      refine lv_iadd hx hb dX5_change_141 ?_
      obtain ⟨x5, e11, h⟩ := mm_bnd h
      refine mm_iast (n := 135) (jn := 9) C hH kd_158 ln_158 (by decide) (by decide) (Option.some.inj e11) dX5_change_142 (fun H locs hH => ?_)
      refine lv_aload_n hx hb dX5_change_143 rfl (lv_at hl 0 rfl) ?_
      refine lv_iload_n hx hb dX5_change_144 rfl (lv_at hl 1 rfl) ?_
      refine lv_iconst (v := 2) hx hb dX5_change_145 (by decide) ?_
      obtain ⟨v7, e12, h⟩ := mm_bnd h
      refine mm_goi hH (va_runV (As := [.int a1, .int 2]) (rest := []) ⟨hx, hb, C.2.2.1, C.2.2.2.1, C.2.2.2.2.1⟩ (ct_X5_its l G T b z a1 2 x5 e12) (cwV 2 C.2.2.2.2.1 gX5_change_X5_its rfl rfl rfl df_X5_its ⟨Nat.le_of_ble_eq_true rfl, Nat.le_of_ble_eq_true rfl⟩) ⟨mm_B.blind, mm_recv (q := (RX5, TX5, 14)) C hH kl_157 (mm_e5 kd_157) rfl, mm_pre C hH⟩ rfl rfl hl.1 rfl (lv_room (Nat.le_of_ble_eq_true rfl)) dX5_change_146 ⟨Nat.zero_le _, Nat.zero_le _⟩) (fun H locs hH => ?_)
      exact mm_iret C hH hr hlk rfl h dX5_change_149
    · have h := mm_neg c2 h
      have hl := lv_sub (l' := [(0, .ref (b + 157)), (1, .int a1)]) hl [1, 2] rfl
      refine lv_iconst (v := 1) hx hb dX5_change_136 (by decide) ?_
      refine lv_goto (tgt := 141) hx hb dX5_change_137 (by decide) ?_
      refine lv_iadd hx hb dX5_change_141 ?_
      obtain ⟨x6, e13, h⟩ := mm_bnd h
      refine mm_iast (n := 135) (jn := 9) C hH kd_158 ln_158 (by decide) (by decide) (Option.some.inj e13) dX5_change_142 (fun H locs hH => ?_)
      refine lv_aload_n hx hb dX5_change_143 rfl (lv_at hl 0 rfl) ?_
      refine lv_iload_n hx hb dX5_change_144 rfl (lv_at hl 1 rfl) ?_
      refine lv_iconst (v := 2) hx hb dX5_change_145 (by decide) ?_
      obtain ⟨v8, e14, h⟩ := mm_bnd h
      refine mm_goi hH (va_runV (As := [.int a1, .int 2]) (rest := []) ⟨hx, hb, C.2.2.1, C.2.2.2.1, C.2.2.2.2.1⟩ (ct_X5_its l G T b z a1 2 x6 e14) (cwV 2 C.2.2.2.2.1 gX5_change_X5_its rfl rfl rfl df_X5_its ⟨Nat.le_of_ble_eq_true rfl, Nat.le_of_ble_eq_true rfl⟩) ⟨mm_B.blind, mm_recv (q := (RX5, TX5, 14)) C hH kl_157 (mm_e5 kd_157) rfl, mm_pre C hH⟩ rfl rfl hl.1 rfl (lv_room (Nat.le_of_ble_eq_true rfl)) dX5_change_146 ⟨Nat.zero_le _, Nat.zero_le _⟩) (fun H locs hH => ?_)
      exact mm_iret C hH hr hlk rfl h dX5_change_149
  · have h := mm_neg c1 h
    have hl := lv_sub (l' := [(5, .int v1), (0, .ref (b + 157)), (1, .int a1)]) hl [0, 1, 2] rfl
    refine lv_aload_n hx hb dX5_change_74 rfl (lv_at hl 1 rfl) ?_
    refine lv_iload_n hx hb dX5_change_75 rfl (lv_at hl 2 rfl) ?_
    refine lv_iconst (v := 3) hx hb dX5_change_76 (by decide) ?_
    obtain ⟨v9, e15, h⟩ := mm_bnd h
    refine mm_goi hH (va_runV (As := [.int a1, .int 3]) (rest := []) ⟨hx, hb, C.2.2.1, C.2.2.2.1, C.2.2.2.2.1⟩ (ct_X5_its l G T b z a1 3 x4 e15) (cwV 2 C.2.2.2.2.1 gX5_change_X5_its rfl rfl rfl df_X5_its ⟨Nat.le_of_ble_eq_true rfl, Nat.le_of_ble_eq_true rfl⟩) ⟨mm_B.blind, mm_recv (q := (RX5, TX5, 14)) C hH kl_157 (mm_e5 kd_157) rfl, mm_pre C hH⟩ rfl rfl hl.1 rfl (lv_room (Nat.le_of_ble_eq_true rfl)) dX5_change_77 ⟨Nat.zero_le _, Nat.zero_le _⟩) (fun H locs hH => ?_)
    refine lv_if_ne (tgt := 119) hx hb dX5_change_80 (by decide) (fun c3 => ?_) (fun c3 => ?_)
    · have h := mm_neg c3 h
      refine lv_aload_n hx hb dX5_change_119 rfl (lv_at hl 1 rfl) ?_
      refine mm_get (v := .ref (b + 158)) C hH hin5 rfl kl_157 (mm_e5 kd_157) (j := 0) (by decide) rfl w1 rfl dX5_change_120 ?_
      refine lv_bipush (v := 9) hx hb dX5_change_123 (by decide) ?_
      refine lv_dup2_11 hx hb dX5_change_125 rfl rfl ?_
      refine mm_iald (n := 135) (jn := 9) C hH kd_158 ln_158 (by decide) (by decide) dX5_change_126 ?_
      refine lv_aload_n hx hb dX5_change_127 rfl (lv_at hl 1 rfl) ?_
      obtain ⟨v10, e16, h⟩ := mm_bnd h
      refine mm_goi hH (va_runV (As := []) (rest := [.int (x4 158 9), .int 9, .ref (b + 158)]) ⟨hx, hb, C.2.2.1, C.2.2.2.1, C.2.2.2.2.1⟩ (ct_X5_taken l G T b z x4 e16) (cwV 0 C.2.2.2.2.1 gX5_change_X5_taken rfl rfl rfl df_X5_taken ⟨Nat.le_of_ble_eq_true rfl, Nat.le_of_ble_eq_true rfl⟩) ⟨mm_B.blind, mm_recv (q := (RX5, TX5, 14)) C hH kl_157 (mm_e5 kd_157) rfl, mm_pre C hH⟩ rfl rfl hl.1 rfl (lv_room (Nat.le_of_ble_eq_true rfl)) dX5_change_128 ⟨Nat.zero_le _, Nat.zero_le _⟩) (fun H locs hH => ?_)
      refine lv_iload hx hb dX5_change_131 (lv_at hl 0 rfl) ?_
      refine lv_icmp_eq (tgt := 140) hx hb dX5_change_133 (by decide) (fun c4 => ?_) (fun c4 => ?_)
      · have h := mm_pos c4 h
        have hl := lv_sub (l' := [(0, .ref (b + 157)), (1, .int a1)]) hl [1, 2] rfl
        refine lv_iconst (v := 0) hx hb dX5_change_140 (by decide) ?_
        refine lv_iadd hx hb dX5_change_141 ?_
        obtain ⟨x7, e17, h⟩ := mm_bnd h
        refine mm_iast (n := 135) (jn := 9) C hH kd_158 ln_158 (by decide) (by decide) (Option.some.inj e17) dX5_change_142 (fun H locs hH => ?_)
        refine lv_aload_n hx hb dX5_change_143 rfl (lv_at hl 0 rfl) ?_
        refine lv_iload_n hx hb dX5_change_144 rfl (lv_at hl 1 rfl) ?_
        refine lv_iconst (v := 2) hx hb dX5_change_145 (by decide) ?_
        obtain ⟨v11, e18, h⟩ := mm_bnd h
        refine mm_goi hH (va_runV (As := [.int a1, .int 2]) (rest := []) ⟨hx, hb, C.2.2.1, C.2.2.2.1, C.2.2.2.2.1⟩ (ct_X5_its l G T b z a1 2 x7 e18) (cwV 2 C.2.2.2.2.1 gX5_change_X5_its rfl rfl rfl df_X5_its ⟨Nat.le_of_ble_eq_true rfl, Nat.le_of_ble_eq_true rfl⟩) ⟨mm_B.blind, mm_recv (q := (RX5, TX5, 14)) C hH kl_157 (mm_e5 kd_157) rfl, mm_pre C hH⟩ rfl rfl hl.1 rfl (lv_room (Nat.le_of_ble_eq_true rfl)) dX5_change_146 ⟨Nat.zero_le _, Nat.zero_le _⟩) (fun H locs hH => ?_)
        exact mm_iret C hH hr hlk rfl h dX5_change_149
      · have h := mm_neg c4 h
        have hl := lv_sub (l' := [(0, .ref (b + 157)), (1, .int a1)]) hl [1, 2] rfl
        refine lv_iconst (v := 1) hx hb dX5_change_136 (by decide) ?_
        refine lv_goto (tgt := 141) hx hb dX5_change_137 (by decide) ?_
        refine lv_iadd hx hb dX5_change_141 ?_
        obtain ⟨x8, e19, h⟩ := mm_bnd h
        refine mm_iast (n := 135) (jn := 9) C hH kd_158 ln_158 (by decide) (by decide) (Option.some.inj e19) dX5_change_142 (fun H locs hH => ?_)
        refine lv_aload_n hx hb dX5_change_143 rfl (lv_at hl 0 rfl) ?_
        refine lv_iload_n hx hb dX5_change_144 rfl (lv_at hl 1 rfl) ?_
        refine lv_iconst (v := 2) hx hb dX5_change_145 (by decide) ?_
        obtain ⟨v12, e20, h⟩ := mm_bnd h
        refine mm_goi hH (va_runV (As := [.int a1, .int 2]) (rest := []) ⟨hx, hb, C.2.2.1, C.2.2.2.1, C.2.2.2.2.1⟩ (ct_X5_its l G T b z a1 2 x8 e20) (cwV 2 C.2.2.2.2.1 gX5_change_X5_its rfl rfl rfl df_X5_its ⟨Nat.le_of_ble_eq_true rfl, Nat.le_of_ble_eq_true rfl⟩) ⟨mm_B.blind, mm_recv (q := (RX5, TX5, 14)) C hH kl_157 (mm_e5 kd_157) rfl, mm_pre C hH⟩ rfl rfl hl.1 rfl (lv_room (Nat.le_of_ble_eq_true rfl)) dX5_change_146 ⟨Nat.zero_le _, Nat.zero_le _⟩) (fun H locs hH => ?_)
        exact mm_iret C hH hr hlk rfl h dX5_change_149
    · have h := mm_pos c3 h
      refine lv_aload_n hx hb dX5_change_83 rfl (lv_at hl 1 rfl) ?_
      refine lv_iload_n hx hb dX5_change_84 rfl (lv_at hl 2 rfl) ?_
      refine lv_iconst (v := 3) hx hb dX5_change_85 (by decide) ?_
      refine lv_iconst (v := 1) hx hb dX5_change_86 (by decide) ?_
      obtain ⟨x9, e21, h⟩ := mm_bnd h
      refine mm_gov hH (va_runV (As := [.int a1, .int 3, .int 1]) (rest := []) ⟨hx, hb, C.2.2.1, C.2.2.2.1, C.2.2.2.2.1⟩ (ct_X5_lay l G T b z a1 3 1 x4 e21) (cwV 3 C.2.2.2.2.1 gX5_change_X5_lay rfl rfl rfl df_X5_lay ⟨Nat.le_of_ble_eq_true rfl, Nat.le_of_ble_eq_true rfl⟩) ⟨mm_B.blind, mm_recv (q := (RX5, TX5, 14)) C hH kl_157 (mm_e5 kd_157) rfl, mm_pre C hH⟩ rfl rfl hl.1 rfl (lv_room (Nat.le_of_ble_eq_true rfl)) dX5_change_87 ⟨Nat.zero_le _, Nat.zero_le _⟩) (fun H locs hH => ?_)
      refine lv_aload_n hx hb dX5_change_90 rfl (lv_at hl 1 rfl) ?_
      refine lv_iload_n hx hb dX5_change_91 rfl (lv_at hl 2 rfl) ?_
      refine lv_iconst (v := 4) hx hb dX5_change_92 (by decide) ?_
      refine lv_iconst (v := 0) hx hb dX5_change_93 (by decide) ?_
      obtain ⟨x10, e22, h⟩ := mm_bnd h
      refine mm_gov hH (va_runV (As := [.int a1, .int 4, .int 0]) (rest := []) ⟨hx, hb, C.2.2.1, C.2.2.2.1, C.2.2.2.2.1⟩ (ct_X5_lay l G T b z a1 4 0 x9 e22) (cwV 3 C.2.2.2.2.1 gX5_change_X5_lay rfl rfl rfl df_X5_lay ⟨Nat.le_of_ble_eq_true rfl, Nat.le_of_ble_eq_true rfl⟩) ⟨mm_B.blind, mm_recv (q := (RX5, TX5, 14)) C hH kl_157 (mm_e5 kd_157) rfl, mm_pre C hH⟩ rfl rfl hl.1 rfl (lv_room (Nat.le_of_ble_eq_true rfl)) dX5_change_94 ⟨Nat.zero_le _, Nat.zero_le _⟩) (fun H locs hH => ?_)
      refine lv_aload_n hx hb dX5_change_97 rfl (lv_at hl 1 rfl) ?_
      refine lv_iload_n hx hb dX5_change_98 rfl (lv_at hl 2 rfl) ?_
      refine lv_bipush (v := 7) hx hb dX5_change_99 (by decide) ?_
      refine lv_aload_n hx hb dX5_change_101 rfl (lv_at hl 1 rfl) ?_
      refine lv_iload_n hx hb dX5_change_102 rfl (lv_at hl 2 rfl) ?_
      refine lv_bipush (v := 7) hx hb dX5_change_103 (by decide) ?_
      obtain ⟨v13, e23, h⟩ := mm_bnd h
      refine mm_goi hH (va_runV (As := [.int a1, .int 7]) (rest := [.int 7, .int a1, .ref (b + 157)]) ⟨hx, hb, C.2.2.1, C.2.2.2.1, C.2.2.2.2.1⟩ (ct_X5_its l G T b z a1 7 x10 e23) (cwV 2 C.2.2.2.2.1 gX5_change_X5_its rfl rfl rfl df_X5_its ⟨Nat.le_of_ble_eq_true rfl, Nat.le_of_ble_eq_true rfl⟩) ⟨mm_B.blind, mm_recv (q := (RX5, TX5, 14)) C hH kl_157 (mm_e5 kd_157) rfl, mm_pre C hH⟩ rfl rfl hl.1 rfl (lv_room (Nat.le_of_ble_eq_true rfl)) dX5_change_105 ⟨Nat.zero_le _, Nat.zero_le _⟩) (fun H locs hH => ?_)
      refine lv_iconst (v := 1) hx hb dX5_change_108 (by decide) ?_
      refine lv_iadd hx hb dX5_change_109 ?_
      obtain ⟨x11, e24, h⟩ := mm_bnd h
      refine mm_gov hH (va_runV (As := [.int a1, .int 7, .int (v13 + 1)]) (rest := []) ⟨hx, hb, C.2.2.1, C.2.2.2.1, C.2.2.2.2.1⟩ (ct_X5_lay l G T b z a1 7 (v13 + 1) x10 e24) (cwV 3 C.2.2.2.2.1 gX5_change_X5_lay rfl rfl rfl df_X5_lay ⟨Nat.le_of_ble_eq_true rfl, Nat.le_of_ble_eq_true rfl⟩) ⟨mm_B.blind, mm_recv (q := (RX5, TX5, 14)) C hH kl_157 (mm_e5 kd_157) rfl, mm_pre C hH⟩ rfl rfl hl.1 rfl (lv_room (Nat.le_of_ble_eq_true rfl)) dX5_change_110 ⟨Nat.zero_le _, Nat.zero_le _⟩) (fun H locs hH => ?_)
      refine lv_aload_n hx hb dX5_change_113 rfl (lv_at hl 1 rfl) ?_
      refine lv_iconst (v := 3) hx hb dX5_change_114 (by decide) ?_
      refine lv_iload_n hx hb dX5_change_115 rfl (lv_at hl 2 rfl) ?_
      obtain ⟨x12, e25, h⟩ := mm_bnd h
      refine mm_gov hH (va_runV (As := [.int 3, .int a1]) (rest := []) ⟨hx, hb, C.2.2.1, C.2.2.2.1, C.2.2.2.2.1⟩ (ct_X5_note l G T b z 3 a1 x11 e25) (cwV 2 C.2.2.2.2.1 gX5_change_X5_note rfl rfl rfl df_X5_note ⟨Nat.le_of_ble_eq_true rfl, Nat.le_of_ble_eq_true rfl⟩) ⟨mm_B.blind, mm_recv (q := (RX5, TX5, 14)) C hH kl_157 (mm_e5 kd_157) rfl, mm_pre C hH⟩ rfl rfl hl.1 rfl (lv_room (Nat.le_of_ble_eq_true rfl)) dX5_change_116 ⟨Nat.zero_le _, Nat.zero_le _⟩) (fun H locs hH => ?_)
      refine lv_aload_n hx hb dX5_change_119 rfl (lv_at hl 1 rfl) ?_
      refine mm_get (v := .ref (b + 158)) C hH hin5 rfl kl_157 (mm_e5 kd_157) (j := 0) (by decide) rfl w1 rfl dX5_change_120 ?_
      refine lv_bipush (v := 9) hx hb dX5_change_123 (by decide) ?_
      refine lv_dup2_11 hx hb dX5_change_125 rfl rfl ?_
      refine mm_iald (n := 135) (jn := 9) C hH kd_158 ln_158 (by decide) (by decide) dX5_change_126 ?_
      refine lv_aload_n hx hb dX5_change_127 rfl (lv_at hl 1 rfl) ?_
      obtain ⟨v14, e26, h⟩ := mm_bnd h
      refine mm_goi hH (va_runV (As := []) (rest := [.int (x12 158 9), .int 9, .ref (b + 158)]) ⟨hx, hb, C.2.2.1, C.2.2.2.1, C.2.2.2.2.1⟩ (ct_X5_taken l G T b z x12 e26) (cwV 0 C.2.2.2.2.1 gX5_change_X5_taken rfl rfl rfl df_X5_taken ⟨Nat.le_of_ble_eq_true rfl, Nat.le_of_ble_eq_true rfl⟩) ⟨mm_B.blind, mm_recv (q := (RX5, TX5, 14)) C hH kl_157 (mm_e5 kd_157) rfl, mm_pre C hH⟩ rfl rfl hl.1 rfl (lv_room (Nat.le_of_ble_eq_true rfl)) dX5_change_128 ⟨Nat.zero_le _, Nat.zero_le _⟩) (fun H locs hH => ?_)
      refine lv_iload hx hb dX5_change_131 (lv_at hl 0 rfl) ?_
      refine lv_icmp_eq (tgt := 140) hx hb dX5_change_133 (by decide) (fun c5 => ?_) (fun c5 => ?_)
      · have h := mm_pos c5 h
        have hl := lv_sub (l' := [(0, .ref (b + 157)), (1, .int a1)]) hl [1, 2] rfl
        refine lv_iconst (v := 0) hx hb dX5_change_140 (by decide) ?_
        refine lv_iadd hx hb dX5_change_141 ?_
        obtain ⟨x13, e27, h⟩ := mm_bnd h
        refine mm_iast (n := 135) (jn := 9) C hH kd_158 ln_158 (by decide) (by decide) (Option.some.inj e27) dX5_change_142 (fun H locs hH => ?_)
        refine lv_aload_n hx hb dX5_change_143 rfl (lv_at hl 0 rfl) ?_
        refine lv_iload_n hx hb dX5_change_144 rfl (lv_at hl 1 rfl) ?_
        refine lv_iconst (v := 2) hx hb dX5_change_145 (by decide) ?_
        obtain ⟨v15, e28, h⟩ := mm_bnd h
        refine mm_goi hH (va_runV (As := [.int a1, .int 2]) (rest := []) ⟨hx, hb, C.2.2.1, C.2.2.2.1, C.2.2.2.2.1⟩ (ct_X5_its l G T b z a1 2 x13 e28) (cwV 2 C.2.2.2.2.1 gX5_change_X5_its rfl rfl rfl df_X5_its ⟨Nat.le_of_ble_eq_true rfl, Nat.le_of_ble_eq_true rfl⟩) ⟨mm_B.blind, mm_recv (q := (RX5, TX5, 14)) C hH kl_157 (mm_e5 kd_157) rfl, mm_pre C hH⟩ rfl rfl hl.1 rfl (lv_room (Nat.le_of_ble_eq_true rfl)) dX5_change_146 ⟨Nat.zero_le _, Nat.zero_le _⟩) (fun H locs hH => ?_)
        exact mm_iret C hH hr hlk rfl h dX5_change_149
      · have h := mm_neg c5 h
        have hl := lv_sub (l' := [(0, .ref (b + 157)), (1, .int a1)]) hl [1, 2] rfl
        refine lv_iconst (v := 1) hx hb dX5_change_136 (by decide) ?_
        refine lv_goto (tgt := 141) hx hb dX5_change_137 (by decide) ?_
        refine lv_iadd hx hb dX5_change_141 ?_
        obtain ⟨x14, e29, h⟩ := mm_bnd h
        refine mm_iast (n := 135) (jn := 9) C hH kd_158 ln_158 (by decide) (by decide) (Option.some.inj e29) dX5_change_142 (fun H locs hH => ?_)
        refine lv_aload_n hx hb dX5_change_143 rfl (lv_at hl 0 rfl) ?_
        refine lv_iload_n hx hb dX5_change_144 rfl (lv_at hl 1 rfl) ?_
        refine lv_iconst (v := 2) hx hb dX5_change_145 (by decide) ?_
        obtain ⟨v16, e30, h⟩ := mm_bnd h
        refine mm_goi hH (va_runV (As := [.int a1, .int 2]) (rest := []) ⟨hx, hb, C.2.2.1, C.2.2.2.1, C.2.2.2.2.1⟩ (ct_X5_its l G T b z a1 2 x14 e30) (cwV 2 C.2.2.2.2.1 gX5_change_X5_its rfl rfl rfl df_X5_its ⟨Nat.le_of_ble_eq_true rfl, Nat.le_of_ble_eq_true rfl⟩) ⟨mm_B.blind, mm_recv (q := (RX5, TX5, 14)) C hH kl_157 (mm_e5 kd_157) rfl, mm_pre C hH⟩ rfl rfl hl.1 rfl (lv_room (Nat.le_of_ble_eq_true rfl)) dX5_change_146 ⟨Nat.zero_le _, Nat.zero_le _⟩) (fun H locs hH => ?_)
        exact mm_iret C hH hr hlk rfl h dX5_change_149
def fn_X5_passes  (x : mm_M) : Option (mm_M × Int32) :=
  (some (mm_up x 157 11 ((x 157 11) + 1))).bind fun x1 => if (x1 157 11) < (x1 158 3) then if (x1 157 12) = 0 then some (x1, 0) else (some (mm_up x1 157 13 ((x1 157 13) + 1))).bind fun x2 => if (x2 157 13) < (x2 158 6) then if (x2 157 10) < (x2 158 5) then if (x2 157 10) < (x2 158 5) then (some (mm_up x2 157 10 (x2 157 10))).bind fun x3 => (some (mm_up x3 157 12 0)).bind fun x4 => (some (mm_up x4 157 13 0)).bind fun x5 => some (x5, 1) else (some (mm_up x2 157 10 ((x2 158 5) - 1))).bind fun x6 => (some (mm_up x6 157 12 0)).bind fun x7 => (some (mm_up x7 157 13 0)).bind fun x8 => some (x8, 1) else some (x2, 0) else if (x2 157 10) < (x2 158 5) then if (x2 157 10) < (x2 158 5) then (some (mm_up x2 157 10 (x2 157 10))).bind fun x9 => (some (mm_up x9 157 12 0)).bind fun x10 => (some (mm_up x10 157 13 0)).bind fun x11 => some (x11, 1) else (some (mm_up x2 157 10 ((x2 158 5) - 1))).bind fun x12 => (some (mm_up x12 157 12 0)).bind fun x13 => (some (mm_up x13 157 13 0)).bind fun x14 => some (x14, 1) else if (x2 157 10) < (x2 158 5) then (some (mm_up x2 157 10 (x2 157 10))).bind fun x15 => (some (mm_up x15 157 12 0)).bind fun x16 => (some (mm_up x16 157 13 0)).bind fun x17 => some (x17, 1) else (some (mm_up x2 157 10 ((x2 158 5) - 1))).bind fun x18 => (some (mm_up x18 157 12 0)).bind fun x19 => (some (mm_up x19 157 13 0)).bind fun x20 => some (x20, 1) else (some (mm_up x1 157 10 ((x1 157 10) / 2))).bind fun x21 => (some (mm_up x21 157 11 0)).bind fun x22 => if (x22 157 12) = 0 then some (x22, 0) else (some (mm_up x22 157 13 ((x22 157 13) + 1))).bind fun x23 => if (x23 157 13) < (x23 158 6) then if (x23 157 10) < (x23 158 5) then if (x23 157 10) < (x23 158 5) then (some (mm_up x23 157 10 (x23 157 10))).bind fun x24 => (some (mm_up x24 157 12 0)).bind fun x25 => (some (mm_up x25 157 13 0)).bind fun x26 => some (x26, 1) else (some (mm_up x23 157 10 ((x23 158 5) - 1))).bind fun x27 => (some (mm_up x27 157 12 0)).bind fun x28 => (some (mm_up x28 157 13 0)).bind fun x29 => some (x29, 1) else some (x23, 0) else if (x23 157 10) < (x23 158 5) then if (x23 157 10) < (x23 158 5) then (some (mm_up x23 157 10 (x23 157 10))).bind fun x30 => (some (mm_up x30 157 12 0)).bind fun x31 => (some (mm_up x31 157 13 0)).bind fun x32 => some (x32, 1) else (some (mm_up x23 157 10 ((x23 158 5) - 1))).bind fun x33 => (some (mm_up x33 157 12 0)).bind fun x34 => (some (mm_up x34 157 13 0)).bind fun x35 => some (x35, 1) else if (x23 157 10) < (x23 158 5) then (some (mm_up x23 157 10 (x23 157 10))).bind fun x36 => (some (mm_up x36 157 12 0)).bind fun x37 => (some (mm_up x37 157 13 0)).bind fun x38 => some (x38, 1) else (some (mm_up x23 157 10 ((x23 158 5) - 1))).bind fun x39 => (some (mm_up x39 157 12 0)).bind fun x40 => (some (mm_up x40 157 13 0)).bind fun x41 => some (x41, 1)
abbrev rm_X5_passes : Room := { frames := 0, cells := 0, slots := 0, locals := 0 }
theorem df_X5_passes : yX5_passes.cls = RX5 ∧ yX5_passes.cls ≠ "java/lang/invoke/MethodHandle" ∧ yX5_passes.cls ≠ "java/lang/invoke/VarHandle" ∧ (parseMethodDescriptor yX5_passes.desc).map (fun d => d.parameters.length) = some 0 := by decide +kernel
set_option maxRecDepth 100000 in
set_option maxHeartbeats 4000000 in
theorem ct_X5_passes (l : Launch) (G : va_G) (T : Nat → ClassId) (b : Nat) (z : Nat → Nat)  (x : mm_M) {x1 : mm_M} {r : Int32} (h : fn_X5_passes  x = some (x1, r)) : mm_Ci l yX5_passes wsX5_passes rm_X5_passes G T b z [.ref (b + 157)] x r x1 := by
  unfold fn_X5_passes at h
  refine mm_start (cc := cX5_passes) (maxL := 2) (ret := (some .boolean)) (by decide) rfl (Nat.le_of_ble_eq_true rfl) (fun p e s m below meth c ls C hr hlk hH hl => ?_)
  have hl : lv_has ls 2 [(0, .ref (b + 157))] := hl
  have hx := C.1
  have hb := C.2.1
  have w1 := C.2.2.2.2.1 (.fieldLink RX5 67 "LandingFinesModel" "since" "I") (by decide +kernel)
  have w2 := C.2.2.2.2.1 (.fieldLink RX5 7 "LandingFinesModel" "row" "[I") (by decide +kernel)
  have w3 := C.2.2.2.2.1 (.fieldLink RX5 73 "LandingFinesModel" "isShunned" "Z") (by decide +kernel)
  have w4 := C.2.2.2.2.1 (.fieldLink RX5 77 "LandingFinesModel" "shunnedFor" "I") (by decide +kernel)
  have w5 := C.2.2.2.2.1 (.fieldLink RX5 70 "LandingFinesModel" "fine" "I") (by decide +kernel)
  have hin5 : ∀ w ∈ wsX50, w ∈ wsX5_passes := by decide +kernel
  refine lv_aload_n hx hb dX5_passes_0 rfl (lv_at hl 0 rfl) ?_
  refine lv_dup hx hb dX5_passes_1 rfl ?_
  refine mm_get (v := .int (x 157 11)) C hH hin5 rfl kl_157 (mm_e5 kd_157) (j := 11) (by decide) rfl w1 rfl dX5_passes_2 ?_
  refine lv_iconst (v := 1) hx hb dX5_passes_5 (by decide) ?_
  refine lv_iadd hx hb dX5_passes_6 ?_
  obtain ⟨x1, e1, h⟩ := mm_bnd h
  refine mm_put (ty := .int) C hH hin5 tyX5_ok nmX5 rfl kl_157 (mm_e5 kd_157) (j := 11) (by decide) rfl w1 pd_I rfl rfl (Nat.le_of_ble_eq_true rfl) (sp_5_11 kd_157) (Option.some.inj e1) dX5_passes_7 (fun H locs hH => ?_)
  refine lv_aload_n hx hb dX5_passes_10 rfl (lv_at hl 0 rfl) ?_
  refine mm_get (v := .int (x1 157 11)) C hH hin5 rfl kl_157 (mm_e5 kd_157) (j := 11) (by decide) rfl w1 rfl dX5_passes_11 ?_
  refine lv_aload_n hx hb dX5_passes_14 rfl (lv_at hl 0 rfl) ?_
  refine mm_get (v := .ref (b + 158)) C hH hin5 rfl kl_157 (mm_e5 kd_157) (j := 0) (by decide) rfl w2 rfl dX5_passes_15 ?_
  refine lv_iconst (v := 3) hx hb dX5_passes_18 (by decide) ?_
  refine mm_iald (n := 135) (jn := 3) C hH kd_158 ln_158 (by decide) (by decide) dX5_passes_19 ?_
  refine lv_icmp_lt (tgt := 38) hx hb dX5_passes_20 (by decide) (fun c1 => ?_) (fun c1 => ?_)
  · have h := mm_pos c1 h
    refine lv_aload_n hx hb dX5_passes_38 rfl (lv_at hl 0 rfl) ?_
    refine mm_get (v := .int (x1 157 12)) C hH hin5 rfl kl_157 (mm_e5 kd_157) (j := 12) (by decide) rfl w3 rfl dX5_passes_39 ?_
    refine lv_if_ne (tgt := 47) hx hb dX5_passes_42 (by decide) (fun c2 => ?_) (fun c2 => ?_)
    · have h := mm_neg c2 h
      refine lv_aload_n hx hb dX5_passes_47 rfl (lv_at hl 0 rfl) ?_
      refine lv_dup hx hb dX5_passes_48 rfl ?_
      refine mm_get (v := .int (x1 157 13)) C hH hin5 rfl kl_157 (mm_e5 kd_157) (j := 13) (by decide) rfl w4 rfl dX5_passes_49 ?_
      refine lv_iconst (v := 1) hx hb dX5_passes_52 (by decide) ?_
      refine lv_iadd hx hb dX5_passes_53 ?_
      obtain ⟨x2, e2, h⟩ := mm_bnd h
      refine mm_put (ty := .int) C hH hin5 tyX5_ok nmX5 rfl kl_157 (mm_e5 kd_157) (j := 13) (by decide) rfl w4 pd_I rfl rfl (Nat.le_of_ble_eq_true rfl) (sp_5_13 kd_157) (Option.some.inj e2) dX5_passes_54 (fun H locs hH => ?_)
      refine lv_aload_n hx hb dX5_passes_57 rfl (lv_at hl 0 rfl) ?_
      refine mm_get (v := .int (x2 157 13)) C hH hin5 rfl kl_157 (mm_e5 kd_157) (j := 13) (by decide) rfl w4 rfl dX5_passes_58 ?_
      refine lv_aload_n hx hb dX5_passes_61 rfl (lv_at hl 0 rfl) ?_
      refine mm_get (v := .ref (b + 158)) C hH hin5 rfl kl_157 (mm_e5 kd_157) (j := 0) (by decide) rfl w2 rfl dX5_passes_62 ?_
      refine lv_bipush (v := 6) hx hb dX5_passes_65 (by decide) ?_
      refine mm_iald (n := 135) (jn := 6) C hH kd_158 ln_158 (by decide) (by decide) dX5_passes_67 ?_
      refine lv_icmp_lt (tgt := 75) hx hb dX5_passes_68 (by decide) (fun c3 => ?_) (fun c3 => ?_)
      · have h := mm_pos c3 h
        refine lv_iconst (v := 0) hx hb dX5_passes_75 (by decide) ?_
        refine lv_istore_n (lv' := [(1, .int 0), (0, .ref (b + 157))]) hx hb dX5_passes_76 rfl hl (by decide) rfl (fun ls hl => ?_)
        refine lv_aload_n hx hb dX5_passes_77 rfl (lv_at hl 1 rfl) ?_
        refine mm_get (v := .int (x2 157 10)) C hH hin5 rfl kl_157 (mm_e5 kd_157) (j := 10) (by decide) rfl w5 rfl dX5_passes_78 ?_
        refine lv_aload_n hx hb dX5_passes_81 rfl (lv_at hl 1 rfl) ?_
        refine mm_get (v := .ref (b + 158)) C hH hin5 rfl kl_157 (mm_e5 kd_157) (j := 0) (by decide) rfl w2 rfl dX5_passes_82 ?_
        refine lv_iconst (v := 5) hx hb dX5_passes_85 (by decide) ?_
        refine mm_iald (n := 135) (jn := 5) C hH kd_158 ln_158 (by decide) (by decide) dX5_passes_86 ?_
        refine lv_icmp_lt (tgt := 96) hx hb dX5_passes_87 (by decide) (fun c4 => ?_) (fun c4 => ?_)
        · have h := mm_pos c4 h
          have hl := lv_sub (l' := [(0, .ref (b + 157))]) hl [1] rfl
          refine lv_aload_n hx hb dX5_passes_96 rfl (lv_at hl 0 rfl) ?_
          refine lv_aload_n hx hb dX5_passes_97 rfl (lv_at hl 0 rfl) ?_
          refine mm_get (v := .int (x2 157 10)) C hH hin5 rfl kl_157 (mm_e5 kd_157) (j := 10) (by decide) rfl w5 rfl dX5_passes_98 ?_
          refine lv_aload_n hx hb dX5_passes_101 rfl (lv_at hl 0 rfl) ?_
          refine mm_get (v := .ref (b + 158)) C hH hin5 rfl kl_157 (mm_e5 kd_157) (j := 0) (by decide) rfl w2 rfl dX5_passes_102 ?_
          refine lv_iconst (v := 5) hx hb dX5_passes_105 (by decide) ?_
          refine mm_iald (n := 135) (jn := 5) C hH kd_158 ln_158 (by decide) (by decide) dX5_passes_106 ?_
          refine lv_icmp_lt (tgt := 121) hx hb dX5_passes_107 (by decide) (fun c5 => ?_) (fun c5 => ?_)
          · have h := mm_pos c5 h
            refine lv_aload_n hx hb dX5_passes_121 rfl (lv_at hl 0 rfl) ?_
            refine mm_get (v := .int (x2 157 10)) C hH hin5 rfl kl_157 (mm_e5 kd_157) (j := 10) (by decide) rfl w5 rfl dX5_passes_122 ?_
            obtain ⟨x3, e3, h⟩ := mm_bnd h
            refine mm_put (ty := .int) C hH hin5 tyX5_ok nmX5 rfl kl_157 (mm_e5 kd_157) (j := 10) (by decide) rfl w5 pd_I rfl rfl (Nat.le_of_ble_eq_true rfl) (sp_5_10 kd_157) (Option.some.inj e3) dX5_passes_125 (fun H locs hH => ?_)
            refine lv_aload_n hx hb dX5_passes_128 rfl (lv_at hl 0 rfl) ?_
            refine lv_iconst (v := 0) hx hb dX5_passes_129 (by decide) ?_
            obtain ⟨x4, e4, h⟩ := mm_bnd h
            refine mm_put (ty := .boolean) C hH hin5 tyX5_ok nmX5 rfl kl_157 (mm_e5 kd_157) (j := 12) (by decide) rfl w3 pd_Z rfl rfl (Nat.le_of_ble_eq_true rfl) (sp_5_12 kd_157) (Option.some.inj e4) dX5_passes_130 (fun H locs hH => ?_)
            refine lv_aload_n hx hb dX5_passes_133 rfl (lv_at hl 0 rfl) ?_
            refine lv_iconst (v := 0) hx hb dX5_passes_134 (by decide) ?_
            obtain ⟨x5, e5, h⟩ := mm_bnd h
            refine mm_put (ty := .int) C hH hin5 tyX5_ok nmX5 rfl kl_157 (mm_e5 kd_157) (j := 13) (by decide) rfl w4 pd_I rfl rfl (Nat.le_of_ble_eq_true rfl) (sp_5_13 kd_157) (Option.some.inj e5) dX5_passes_135 (fun H locs hH => ?_)
            refine lv_iconst (v := 1) hx hb dX5_passes_138 (by decide) ?_
            exact mm_iret C hH hr hlk rfl h dX5_passes_139
          · have h := mm_neg c5 h
            refine lv_aload_n hx hb dX5_passes_110 rfl (lv_at hl 0 rfl) ?_
            refine mm_get (v := .ref (b + 158)) C hH hin5 rfl kl_157 (mm_e5 kd_157) (j := 0) (by decide) rfl w2 rfl dX5_passes_111 ?_
            refine lv_iconst (v := 5) hx hb dX5_passes_114 (by decide) ?_
            refine mm_iald (n := 135) (jn := 5) C hH kd_158 ln_158 (by decide) (by decide) dX5_passes_115 ?_
            refine lv_iconst (v := 1) hx hb dX5_passes_116 (by decide) ?_
            refine lv_isub hx hb dX5_passes_117 ?_
            refine lv_goto (tgt := 125) hx hb dX5_passes_118 (by decide) ?_
            obtain ⟨x6, e6, h⟩ := mm_bnd h
            refine mm_put (ty := .int) C hH hin5 tyX5_ok nmX5 rfl kl_157 (mm_e5 kd_157) (j := 10) (by decide) rfl w5 pd_I rfl rfl (Nat.le_of_ble_eq_true rfl) (sp_5_10 kd_157) (Option.some.inj e6) dX5_passes_125 (fun H locs hH => ?_)
            refine lv_aload_n hx hb dX5_passes_128 rfl (lv_at hl 0 rfl) ?_
            refine lv_iconst (v := 0) hx hb dX5_passes_129 (by decide) ?_
            obtain ⟨x7, e7, h⟩ := mm_bnd h
            refine mm_put (ty := .boolean) C hH hin5 tyX5_ok nmX5 rfl kl_157 (mm_e5 kd_157) (j := 12) (by decide) rfl w3 pd_Z rfl rfl (Nat.le_of_ble_eq_true rfl) (sp_5_12 kd_157) (Option.some.inj e7) dX5_passes_130 (fun H locs hH => ?_)
            refine lv_aload_n hx hb dX5_passes_133 rfl (lv_at hl 0 rfl) ?_
            refine lv_iconst (v := 0) hx hb dX5_passes_134 (by decide) ?_
            obtain ⟨x8, e8, h⟩ := mm_bnd h
            refine mm_put (ty := .int) C hH hin5 tyX5_ok nmX5 rfl kl_157 (mm_e5 kd_157) (j := 13) (by decide) rfl w4 pd_I rfl rfl (Nat.le_of_ble_eq_true rfl) (sp_5_13 kd_157) (Option.some.inj e8) dX5_passes_135 (fun H locs hH => ?_)
            refine lv_iconst (v := 1) hx hb dX5_passes_138 (by decide) ?_
            exact mm_iret C hH hr hlk rfl h dX5_passes_139
        · have h := mm_neg c4 h
          refine lv_iload_n hx hb dX5_passes_90 rfl (lv_at hl 0 rfl) ?_
          refine lv_if_ne (tgt := 96) hx hb dX5_passes_91 (by decide) (fun c => absurd (by decide) c) (fun _ => ?_)
          have hl := lv_sub (l' := []) hl [] rfl
          refine lv_iconst (v := 0) hx hb dX5_passes_94 (by decide) ?_
          exact mm_iret C hH hr hlk rfl h dX5_passes_95
      · have h := mm_neg c3 h
        refine lv_iconst (v := 1) hx hb dX5_passes_71 (by decide) ?_
        refine lv_goto (tgt := 76) hx hb dX5_passes_72 (by decide) ?_
        refine lv_istore_n (lv' := [(1, .int 1), (0, .ref (b + 157))]) hx hb dX5_passes_76 rfl hl (by decide) rfl (fun ls hl => ?_)
        refine lv_aload_n hx hb dX5_passes_77 rfl (lv_at hl 1 rfl) ?_
        refine mm_get (v := .int (x2 157 10)) C hH hin5 rfl kl_157 (mm_e5 kd_157) (j := 10) (by decide) rfl w5 rfl dX5_passes_78 ?_
        refine lv_aload_n hx hb dX5_passes_81 rfl (lv_at hl 1 rfl) ?_
        refine mm_get (v := .ref (b + 158)) C hH hin5 rfl kl_157 (mm_e5 kd_157) (j := 0) (by decide) rfl w2 rfl dX5_passes_82 ?_
        refine lv_iconst (v := 5) hx hb dX5_passes_85 (by decide) ?_
        refine mm_iald (n := 135) (jn := 5) C hH kd_158 ln_158 (by decide) (by decide) dX5_passes_86 ?_
        refine lv_icmp_lt (tgt := 96) hx hb dX5_passes_87 (by decide) (fun c6 => ?_) (fun c6 => ?_)
        · have h := mm_pos c6 h
          have hl := lv_sub (l' := [(0, .ref (b + 157))]) hl [1] rfl
          refine lv_aload_n hx hb dX5_passes_96 rfl (lv_at hl 0 rfl) ?_
          refine lv_aload_n hx hb dX5_passes_97 rfl (lv_at hl 0 rfl) ?_
          refine mm_get (v := .int (x2 157 10)) C hH hin5 rfl kl_157 (mm_e5 kd_157) (j := 10) (by decide) rfl w5 rfl dX5_passes_98 ?_
          refine lv_aload_n hx hb dX5_passes_101 rfl (lv_at hl 0 rfl) ?_
          refine mm_get (v := .ref (b + 158)) C hH hin5 rfl kl_157 (mm_e5 kd_157) (j := 0) (by decide) rfl w2 rfl dX5_passes_102 ?_
          refine lv_iconst (v := 5) hx hb dX5_passes_105 (by decide) ?_
          refine mm_iald (n := 135) (jn := 5) C hH kd_158 ln_158 (by decide) (by decide) dX5_passes_106 ?_
          refine lv_icmp_lt (tgt := 121) hx hb dX5_passes_107 (by decide) (fun c7 => ?_) (fun c7 => ?_)
          · have h := mm_pos c7 h
            refine lv_aload_n hx hb dX5_passes_121 rfl (lv_at hl 0 rfl) ?_
            refine mm_get (v := .int (x2 157 10)) C hH hin5 rfl kl_157 (mm_e5 kd_157) (j := 10) (by decide) rfl w5 rfl dX5_passes_122 ?_
            obtain ⟨x9, e9, h⟩ := mm_bnd h
            refine mm_put (ty := .int) C hH hin5 tyX5_ok nmX5 rfl kl_157 (mm_e5 kd_157) (j := 10) (by decide) rfl w5 pd_I rfl rfl (Nat.le_of_ble_eq_true rfl) (sp_5_10 kd_157) (Option.some.inj e9) dX5_passes_125 (fun H locs hH => ?_)
            refine lv_aload_n hx hb dX5_passes_128 rfl (lv_at hl 0 rfl) ?_
            refine lv_iconst (v := 0) hx hb dX5_passes_129 (by decide) ?_
            obtain ⟨x10, e10, h⟩ := mm_bnd h
            refine mm_put (ty := .boolean) C hH hin5 tyX5_ok nmX5 rfl kl_157 (mm_e5 kd_157) (j := 12) (by decide) rfl w3 pd_Z rfl rfl (Nat.le_of_ble_eq_true rfl) (sp_5_12 kd_157) (Option.some.inj e10) dX5_passes_130 (fun H locs hH => ?_)
            refine lv_aload_n hx hb dX5_passes_133 rfl (lv_at hl 0 rfl) ?_
            refine lv_iconst (v := 0) hx hb dX5_passes_134 (by decide) ?_
            obtain ⟨x11, e11, h⟩ := mm_bnd h
            refine mm_put (ty := .int) C hH hin5 tyX5_ok nmX5 rfl kl_157 (mm_e5 kd_157) (j := 13) (by decide) rfl w4 pd_I rfl rfl (Nat.le_of_ble_eq_true rfl) (sp_5_13 kd_157) (Option.some.inj e11) dX5_passes_135 (fun H locs hH => ?_)
            refine lv_iconst (v := 1) hx hb dX5_passes_138 (by decide) ?_
            exact mm_iret C hH hr hlk rfl h dX5_passes_139
          · have h := mm_neg c7 h
            refine lv_aload_n hx hb dX5_passes_110 rfl (lv_at hl 0 rfl) ?_
            refine mm_get (v := .ref (b + 158)) C hH hin5 rfl kl_157 (mm_e5 kd_157) (j := 0) (by decide) rfl w2 rfl dX5_passes_111 ?_
            refine lv_iconst (v := 5) hx hb dX5_passes_114 (by decide) ?_
            refine mm_iald (n := 135) (jn := 5) C hH kd_158 ln_158 (by decide) (by decide) dX5_passes_115 ?_
            refine lv_iconst (v := 1) hx hb dX5_passes_116 (by decide) ?_
            refine lv_isub hx hb dX5_passes_117 ?_
            refine lv_goto (tgt := 125) hx hb dX5_passes_118 (by decide) ?_
            obtain ⟨x12, e12, h⟩ := mm_bnd h
            refine mm_put (ty := .int) C hH hin5 tyX5_ok nmX5 rfl kl_157 (mm_e5 kd_157) (j := 10) (by decide) rfl w5 pd_I rfl rfl (Nat.le_of_ble_eq_true rfl) (sp_5_10 kd_157) (Option.some.inj e12) dX5_passes_125 (fun H locs hH => ?_)
            refine lv_aload_n hx hb dX5_passes_128 rfl (lv_at hl 0 rfl) ?_
            refine lv_iconst (v := 0) hx hb dX5_passes_129 (by decide) ?_
            obtain ⟨x13, e13, h⟩ := mm_bnd h
            refine mm_put (ty := .boolean) C hH hin5 tyX5_ok nmX5 rfl kl_157 (mm_e5 kd_157) (j := 12) (by decide) rfl w3 pd_Z rfl rfl (Nat.le_of_ble_eq_true rfl) (sp_5_12 kd_157) (Option.some.inj e13) dX5_passes_130 (fun H locs hH => ?_)
            refine lv_aload_n hx hb dX5_passes_133 rfl (lv_at hl 0 rfl) ?_
            refine lv_iconst (v := 0) hx hb dX5_passes_134 (by decide) ?_
            obtain ⟨x14, e14, h⟩ := mm_bnd h
            refine mm_put (ty := .int) C hH hin5 tyX5_ok nmX5 rfl kl_157 (mm_e5 kd_157) (j := 13) (by decide) rfl w4 pd_I rfl rfl (Nat.le_of_ble_eq_true rfl) (sp_5_13 kd_157) (Option.some.inj e14) dX5_passes_135 (fun H locs hH => ?_)
            refine lv_iconst (v := 1) hx hb dX5_passes_138 (by decide) ?_
            exact mm_iret C hH hr hlk rfl h dX5_passes_139
        · have h := mm_neg c6 h
          refine lv_iload_n hx hb dX5_passes_90 rfl (lv_at hl 0 rfl) ?_
          refine lv_if_ne (tgt := 96) hx hb dX5_passes_91 (by decide) (fun _ => ?_) (fun c => absurd c (by decide))
          have hl := lv_sub (l' := [(0, .ref (b + 157))]) hl [1] rfl
          refine lv_aload_n hx hb dX5_passes_96 rfl (lv_at hl 0 rfl) ?_
          refine lv_aload_n hx hb dX5_passes_97 rfl (lv_at hl 0 rfl) ?_
          refine mm_get (v := .int (x2 157 10)) C hH hin5 rfl kl_157 (mm_e5 kd_157) (j := 10) (by decide) rfl w5 rfl dX5_passes_98 ?_
          refine lv_aload_n hx hb dX5_passes_101 rfl (lv_at hl 0 rfl) ?_
          refine mm_get (v := .ref (b + 158)) C hH hin5 rfl kl_157 (mm_e5 kd_157) (j := 0) (by decide) rfl w2 rfl dX5_passes_102 ?_
          refine lv_iconst (v := 5) hx hb dX5_passes_105 (by decide) ?_
          refine mm_iald (n := 135) (jn := 5) C hH kd_158 ln_158 (by decide) (by decide) dX5_passes_106 ?_
          refine lv_icmp_lt (tgt := 121) hx hb dX5_passes_107 (by decide) (fun c8 => ?_) (fun c8 => ?_)
          · have h := mm_pos c8 h
            refine lv_aload_n hx hb dX5_passes_121 rfl (lv_at hl 0 rfl) ?_
            refine mm_get (v := .int (x2 157 10)) C hH hin5 rfl kl_157 (mm_e5 kd_157) (j := 10) (by decide) rfl w5 rfl dX5_passes_122 ?_
            obtain ⟨x15, e15, h⟩ := mm_bnd h
            refine mm_put (ty := .int) C hH hin5 tyX5_ok nmX5 rfl kl_157 (mm_e5 kd_157) (j := 10) (by decide) rfl w5 pd_I rfl rfl (Nat.le_of_ble_eq_true rfl) (sp_5_10 kd_157) (Option.some.inj e15) dX5_passes_125 (fun H locs hH => ?_)
            refine lv_aload_n hx hb dX5_passes_128 rfl (lv_at hl 0 rfl) ?_
            refine lv_iconst (v := 0) hx hb dX5_passes_129 (by decide) ?_
            obtain ⟨x16, e16, h⟩ := mm_bnd h
            refine mm_put (ty := .boolean) C hH hin5 tyX5_ok nmX5 rfl kl_157 (mm_e5 kd_157) (j := 12) (by decide) rfl w3 pd_Z rfl rfl (Nat.le_of_ble_eq_true rfl) (sp_5_12 kd_157) (Option.some.inj e16) dX5_passes_130 (fun H locs hH => ?_)
            refine lv_aload_n hx hb dX5_passes_133 rfl (lv_at hl 0 rfl) ?_
            refine lv_iconst (v := 0) hx hb dX5_passes_134 (by decide) ?_
            obtain ⟨x17, e17, h⟩ := mm_bnd h
            refine mm_put (ty := .int) C hH hin5 tyX5_ok nmX5 rfl kl_157 (mm_e5 kd_157) (j := 13) (by decide) rfl w4 pd_I rfl rfl (Nat.le_of_ble_eq_true rfl) (sp_5_13 kd_157) (Option.some.inj e17) dX5_passes_135 (fun H locs hH => ?_)
            refine lv_iconst (v := 1) hx hb dX5_passes_138 (by decide) ?_
            exact mm_iret C hH hr hlk rfl h dX5_passes_139
          · have h := mm_neg c8 h
            refine lv_aload_n hx hb dX5_passes_110 rfl (lv_at hl 0 rfl) ?_
            refine mm_get (v := .ref (b + 158)) C hH hin5 rfl kl_157 (mm_e5 kd_157) (j := 0) (by decide) rfl w2 rfl dX5_passes_111 ?_
            refine lv_iconst (v := 5) hx hb dX5_passes_114 (by decide) ?_
            refine mm_iald (n := 135) (jn := 5) C hH kd_158 ln_158 (by decide) (by decide) dX5_passes_115 ?_
            refine lv_iconst (v := 1) hx hb dX5_passes_116 (by decide) ?_
            refine lv_isub hx hb dX5_passes_117 ?_
            refine lv_goto (tgt := 125) hx hb dX5_passes_118 (by decide) ?_
            obtain ⟨x18, e18, h⟩ := mm_bnd h
            refine mm_put (ty := .int) C hH hin5 tyX5_ok nmX5 rfl kl_157 (mm_e5 kd_157) (j := 10) (by decide) rfl w5 pd_I rfl rfl (Nat.le_of_ble_eq_true rfl) (sp_5_10 kd_157) (Option.some.inj e18) dX5_passes_125 (fun H locs hH => ?_)
            refine lv_aload_n hx hb dX5_passes_128 rfl (lv_at hl 0 rfl) ?_
            refine lv_iconst (v := 0) hx hb dX5_passes_129 (by decide) ?_
            obtain ⟨x19, e19, h⟩ := mm_bnd h
            refine mm_put (ty := .boolean) C hH hin5 tyX5_ok nmX5 rfl kl_157 (mm_e5 kd_157) (j := 12) (by decide) rfl w3 pd_Z rfl rfl (Nat.le_of_ble_eq_true rfl) (sp_5_12 kd_157) (Option.some.inj e19) dX5_passes_130 (fun H locs hH => ?_)
            refine lv_aload_n hx hb dX5_passes_133 rfl (lv_at hl 0 rfl) ?_
            refine lv_iconst (v := 0) hx hb dX5_passes_134 (by decide) ?_
            obtain ⟨x20, e20, h⟩ := mm_bnd h
            refine mm_put (ty := .int) C hH hin5 tyX5_ok nmX5 rfl kl_157 (mm_e5 kd_157) (j := 13) (by decide) rfl w4 pd_I rfl rfl (Nat.le_of_ble_eq_true rfl) (sp_5_13 kd_157) (Option.some.inj e20) dX5_passes_135 (fun H locs hH => ?_)
            refine lv_iconst (v := 1) hx hb dX5_passes_138 (by decide) ?_
            exact mm_iret C hH hr hlk rfl h dX5_passes_139
    · have h := mm_pos c2 h
      have hl := lv_sub (l' := []) hl [] rfl
      refine lv_iconst (v := 0) hx hb dX5_passes_45 (by decide) ?_
      exact mm_iret C hH hr hlk rfl h dX5_passes_46
  · have h := mm_neg c1 h
    refine lv_aload_n hx hb dX5_passes_23 rfl (lv_at hl 0 rfl) ?_
    refine lv_dup hx hb dX5_passes_24 rfl ?_
    refine mm_get (v := .int (x1 157 10)) C hH hin5 rfl kl_157 (mm_e5 kd_157) (j := 10) (by decide) rfl w5 rfl dX5_passes_25 ?_
    refine lv_iconst (v := 2) hx hb dX5_passes_28 (by decide) ?_
    refine lv_idiv hx hb dX5_passes_29 (by decide) ?_
    obtain ⟨x21, e21, h⟩ := mm_bnd h
    refine mm_put (ty := .int) C hH hin5 tyX5_ok nmX5 rfl kl_157 (mm_e5 kd_157) (j := 10) (by decide) rfl w5 pd_I rfl rfl (Nat.le_of_ble_eq_true rfl) (sp_5_10 kd_157) (Option.some.inj e21) dX5_passes_30 (fun H locs hH => ?_)
    refine lv_aload_n hx hb dX5_passes_33 rfl (lv_at hl 0 rfl) ?_
    refine lv_iconst (v := 0) hx hb dX5_passes_34 (by decide) ?_
    obtain ⟨x22, e22, h⟩ := mm_bnd h
    refine mm_put (ty := .int) C hH hin5 tyX5_ok nmX5 rfl kl_157 (mm_e5 kd_157) (j := 11) (by decide) rfl w1 pd_I rfl rfl (Nat.le_of_ble_eq_true rfl) (sp_5_11 kd_157) (Option.some.inj e22) dX5_passes_35 (fun H locs hH => ?_)
    refine lv_aload_n hx hb dX5_passes_38 rfl (lv_at hl 0 rfl) ?_
    refine mm_get (v := .int (x22 157 12)) C hH hin5 rfl kl_157 (mm_e5 kd_157) (j := 12) (by decide) rfl w3 rfl dX5_passes_39 ?_
    refine lv_if_ne (tgt := 47) hx hb dX5_passes_42 (by decide) (fun c9 => ?_) (fun c9 => ?_)
    · have h := mm_neg c9 h
      refine lv_aload_n hx hb dX5_passes_47 rfl (lv_at hl 0 rfl) ?_
      refine lv_dup hx hb dX5_passes_48 rfl ?_
      refine mm_get (v := .int (x22 157 13)) C hH hin5 rfl kl_157 (mm_e5 kd_157) (j := 13) (by decide) rfl w4 rfl dX5_passes_49 ?_
      refine lv_iconst (v := 1) hx hb dX5_passes_52 (by decide) ?_
      refine lv_iadd hx hb dX5_passes_53 ?_
      obtain ⟨x23, e23, h⟩ := mm_bnd h
      refine mm_put (ty := .int) C hH hin5 tyX5_ok nmX5 rfl kl_157 (mm_e5 kd_157) (j := 13) (by decide) rfl w4 pd_I rfl rfl (Nat.le_of_ble_eq_true rfl) (sp_5_13 kd_157) (Option.some.inj e23) dX5_passes_54 (fun H locs hH => ?_)
      refine lv_aload_n hx hb dX5_passes_57 rfl (lv_at hl 0 rfl) ?_
      refine mm_get (v := .int (x23 157 13)) C hH hin5 rfl kl_157 (mm_e5 kd_157) (j := 13) (by decide) rfl w4 rfl dX5_passes_58 ?_
      refine lv_aload_n hx hb dX5_passes_61 rfl (lv_at hl 0 rfl) ?_
      refine mm_get (v := .ref (b + 158)) C hH hin5 rfl kl_157 (mm_e5 kd_157) (j := 0) (by decide) rfl w2 rfl dX5_passes_62 ?_
      refine lv_bipush (v := 6) hx hb dX5_passes_65 (by decide) ?_
      refine mm_iald (n := 135) (jn := 6) C hH kd_158 ln_158 (by decide) (by decide) dX5_passes_67 ?_
      refine lv_icmp_lt (tgt := 75) hx hb dX5_passes_68 (by decide) (fun c10 => ?_) (fun c10 => ?_)
      · have h := mm_pos c10 h
        refine lv_iconst (v := 0) hx hb dX5_passes_75 (by decide) ?_
        refine lv_istore_n (lv' := [(1, .int 0), (0, .ref (b + 157))]) hx hb dX5_passes_76 rfl hl (by decide) rfl (fun ls hl => ?_)
        refine lv_aload_n hx hb dX5_passes_77 rfl (lv_at hl 1 rfl) ?_
        refine mm_get (v := .int (x23 157 10)) C hH hin5 rfl kl_157 (mm_e5 kd_157) (j := 10) (by decide) rfl w5 rfl dX5_passes_78 ?_
        refine lv_aload_n hx hb dX5_passes_81 rfl (lv_at hl 1 rfl) ?_
        refine mm_get (v := .ref (b + 158)) C hH hin5 rfl kl_157 (mm_e5 kd_157) (j := 0) (by decide) rfl w2 rfl dX5_passes_82 ?_
        refine lv_iconst (v := 5) hx hb dX5_passes_85 (by decide) ?_
        refine mm_iald (n := 135) (jn := 5) C hH kd_158 ln_158 (by decide) (by decide) dX5_passes_86 ?_
        refine lv_icmp_lt (tgt := 96) hx hb dX5_passes_87 (by decide) (fun c11 => ?_) (fun c11 => ?_)
        · have h := mm_pos c11 h
          have hl := lv_sub (l' := [(0, .ref (b + 157))]) hl [1] rfl
          refine lv_aload_n hx hb dX5_passes_96 rfl (lv_at hl 0 rfl) ?_
          refine lv_aload_n hx hb dX5_passes_97 rfl (lv_at hl 0 rfl) ?_
          refine mm_get (v := .int (x23 157 10)) C hH hin5 rfl kl_157 (mm_e5 kd_157) (j := 10) (by decide) rfl w5 rfl dX5_passes_98 ?_
          refine lv_aload_n hx hb dX5_passes_101 rfl (lv_at hl 0 rfl) ?_
          refine mm_get (v := .ref (b + 158)) C hH hin5 rfl kl_157 (mm_e5 kd_157) (j := 0) (by decide) rfl w2 rfl dX5_passes_102 ?_
          refine lv_iconst (v := 5) hx hb dX5_passes_105 (by decide) ?_
          refine mm_iald (n := 135) (jn := 5) C hH kd_158 ln_158 (by decide) (by decide) dX5_passes_106 ?_
          refine lv_icmp_lt (tgt := 121) hx hb dX5_passes_107 (by decide) (fun c12 => ?_) (fun c12 => ?_)
          · have h := mm_pos c12 h
            refine lv_aload_n hx hb dX5_passes_121 rfl (lv_at hl 0 rfl) ?_
            refine mm_get (v := .int (x23 157 10)) C hH hin5 rfl kl_157 (mm_e5 kd_157) (j := 10) (by decide) rfl w5 rfl dX5_passes_122 ?_
            obtain ⟨x24, e24, h⟩ := mm_bnd h
            refine mm_put (ty := .int) C hH hin5 tyX5_ok nmX5 rfl kl_157 (mm_e5 kd_157) (j := 10) (by decide) rfl w5 pd_I rfl rfl (Nat.le_of_ble_eq_true rfl) (sp_5_10 kd_157) (Option.some.inj e24) dX5_passes_125 (fun H locs hH => ?_)
            refine lv_aload_n hx hb dX5_passes_128 rfl (lv_at hl 0 rfl) ?_
            refine lv_iconst (v := 0) hx hb dX5_passes_129 (by decide) ?_
            obtain ⟨x25, e25, h⟩ := mm_bnd h
            refine mm_put (ty := .boolean) C hH hin5 tyX5_ok nmX5 rfl kl_157 (mm_e5 kd_157) (j := 12) (by decide) rfl w3 pd_Z rfl rfl (Nat.le_of_ble_eq_true rfl) (sp_5_12 kd_157) (Option.some.inj e25) dX5_passes_130 (fun H locs hH => ?_)
            refine lv_aload_n hx hb dX5_passes_133 rfl (lv_at hl 0 rfl) ?_
            refine lv_iconst (v := 0) hx hb dX5_passes_134 (by decide) ?_
            obtain ⟨x26, e26, h⟩ := mm_bnd h
            refine mm_put (ty := .int) C hH hin5 tyX5_ok nmX5 rfl kl_157 (mm_e5 kd_157) (j := 13) (by decide) rfl w4 pd_I rfl rfl (Nat.le_of_ble_eq_true rfl) (sp_5_13 kd_157) (Option.some.inj e26) dX5_passes_135 (fun H locs hH => ?_)
            refine lv_iconst (v := 1) hx hb dX5_passes_138 (by decide) ?_
            exact mm_iret C hH hr hlk rfl h dX5_passes_139
          · have h := mm_neg c12 h
            refine lv_aload_n hx hb dX5_passes_110 rfl (lv_at hl 0 rfl) ?_
            refine mm_get (v := .ref (b + 158)) C hH hin5 rfl kl_157 (mm_e5 kd_157) (j := 0) (by decide) rfl w2 rfl dX5_passes_111 ?_
            refine lv_iconst (v := 5) hx hb dX5_passes_114 (by decide) ?_
            refine mm_iald (n := 135) (jn := 5) C hH kd_158 ln_158 (by decide) (by decide) dX5_passes_115 ?_
            refine lv_iconst (v := 1) hx hb dX5_passes_116 (by decide) ?_
            refine lv_isub hx hb dX5_passes_117 ?_
            refine lv_goto (tgt := 125) hx hb dX5_passes_118 (by decide) ?_
            obtain ⟨x27, e27, h⟩ := mm_bnd h
            refine mm_put (ty := .int) C hH hin5 tyX5_ok nmX5 rfl kl_157 (mm_e5 kd_157) (j := 10) (by decide) rfl w5 pd_I rfl rfl (Nat.le_of_ble_eq_true rfl) (sp_5_10 kd_157) (Option.some.inj e27) dX5_passes_125 (fun H locs hH => ?_)
            refine lv_aload_n hx hb dX5_passes_128 rfl (lv_at hl 0 rfl) ?_
            refine lv_iconst (v := 0) hx hb dX5_passes_129 (by decide) ?_
            obtain ⟨x28, e28, h⟩ := mm_bnd h
            refine mm_put (ty := .boolean) C hH hin5 tyX5_ok nmX5 rfl kl_157 (mm_e5 kd_157) (j := 12) (by decide) rfl w3 pd_Z rfl rfl (Nat.le_of_ble_eq_true rfl) (sp_5_12 kd_157) (Option.some.inj e28) dX5_passes_130 (fun H locs hH => ?_)
            refine lv_aload_n hx hb dX5_passes_133 rfl (lv_at hl 0 rfl) ?_
            refine lv_iconst (v := 0) hx hb dX5_passes_134 (by decide) ?_
            obtain ⟨x29, e29, h⟩ := mm_bnd h
            refine mm_put (ty := .int) C hH hin5 tyX5_ok nmX5 rfl kl_157 (mm_e5 kd_157) (j := 13) (by decide) rfl w4 pd_I rfl rfl (Nat.le_of_ble_eq_true rfl) (sp_5_13 kd_157) (Option.some.inj e29) dX5_passes_135 (fun H locs hH => ?_)
            refine lv_iconst (v := 1) hx hb dX5_passes_138 (by decide) ?_
            exact mm_iret C hH hr hlk rfl h dX5_passes_139
        · have h := mm_neg c11 h
          refine lv_iload_n hx hb dX5_passes_90 rfl (lv_at hl 0 rfl) ?_
          refine lv_if_ne (tgt := 96) hx hb dX5_passes_91 (by decide) (fun c => absurd (by decide) c) (fun _ => ?_)
          have hl := lv_sub (l' := []) hl [] rfl
          refine lv_iconst (v := 0) hx hb dX5_passes_94 (by decide) ?_
          exact mm_iret C hH hr hlk rfl h dX5_passes_95
      · have h := mm_neg c10 h
        refine lv_iconst (v := 1) hx hb dX5_passes_71 (by decide) ?_
        refine lv_goto (tgt := 76) hx hb dX5_passes_72 (by decide) ?_
        refine lv_istore_n (lv' := [(1, .int 1), (0, .ref (b + 157))]) hx hb dX5_passes_76 rfl hl (by decide) rfl (fun ls hl => ?_)
        refine lv_aload_n hx hb dX5_passes_77 rfl (lv_at hl 1 rfl) ?_
        refine mm_get (v := .int (x23 157 10)) C hH hin5 rfl kl_157 (mm_e5 kd_157) (j := 10) (by decide) rfl w5 rfl dX5_passes_78 ?_
        refine lv_aload_n hx hb dX5_passes_81 rfl (lv_at hl 1 rfl) ?_
        refine mm_get (v := .ref (b + 158)) C hH hin5 rfl kl_157 (mm_e5 kd_157) (j := 0) (by decide) rfl w2 rfl dX5_passes_82 ?_
        refine lv_iconst (v := 5) hx hb dX5_passes_85 (by decide) ?_
        refine mm_iald (n := 135) (jn := 5) C hH kd_158 ln_158 (by decide) (by decide) dX5_passes_86 ?_
        refine lv_icmp_lt (tgt := 96) hx hb dX5_passes_87 (by decide) (fun c13 => ?_) (fun c13 => ?_)
        · have h := mm_pos c13 h
          have hl := lv_sub (l' := [(0, .ref (b + 157))]) hl [1] rfl
          refine lv_aload_n hx hb dX5_passes_96 rfl (lv_at hl 0 rfl) ?_
          refine lv_aload_n hx hb dX5_passes_97 rfl (lv_at hl 0 rfl) ?_
          refine mm_get (v := .int (x23 157 10)) C hH hin5 rfl kl_157 (mm_e5 kd_157) (j := 10) (by decide) rfl w5 rfl dX5_passes_98 ?_
          refine lv_aload_n hx hb dX5_passes_101 rfl (lv_at hl 0 rfl) ?_
          refine mm_get (v := .ref (b + 158)) C hH hin5 rfl kl_157 (mm_e5 kd_157) (j := 0) (by decide) rfl w2 rfl dX5_passes_102 ?_
          refine lv_iconst (v := 5) hx hb dX5_passes_105 (by decide) ?_
          refine mm_iald (n := 135) (jn := 5) C hH kd_158 ln_158 (by decide) (by decide) dX5_passes_106 ?_
          refine lv_icmp_lt (tgt := 121) hx hb dX5_passes_107 (by decide) (fun c14 => ?_) (fun c14 => ?_)
          · have h := mm_pos c14 h
            refine lv_aload_n hx hb dX5_passes_121 rfl (lv_at hl 0 rfl) ?_
            refine mm_get (v := .int (x23 157 10)) C hH hin5 rfl kl_157 (mm_e5 kd_157) (j := 10) (by decide) rfl w5 rfl dX5_passes_122 ?_
            obtain ⟨x30, e30, h⟩ := mm_bnd h
            refine mm_put (ty := .int) C hH hin5 tyX5_ok nmX5 rfl kl_157 (mm_e5 kd_157) (j := 10) (by decide) rfl w5 pd_I rfl rfl (Nat.le_of_ble_eq_true rfl) (sp_5_10 kd_157) (Option.some.inj e30) dX5_passes_125 (fun H locs hH => ?_)
            refine lv_aload_n hx hb dX5_passes_128 rfl (lv_at hl 0 rfl) ?_
            refine lv_iconst (v := 0) hx hb dX5_passes_129 (by decide) ?_
            obtain ⟨x31, e31, h⟩ := mm_bnd h
            refine mm_put (ty := .boolean) C hH hin5 tyX5_ok nmX5 rfl kl_157 (mm_e5 kd_157) (j := 12) (by decide) rfl w3 pd_Z rfl rfl (Nat.le_of_ble_eq_true rfl) (sp_5_12 kd_157) (Option.some.inj e31) dX5_passes_130 (fun H locs hH => ?_)
            refine lv_aload_n hx hb dX5_passes_133 rfl (lv_at hl 0 rfl) ?_
            refine lv_iconst (v := 0) hx hb dX5_passes_134 (by decide) ?_
            obtain ⟨x32, e32, h⟩ := mm_bnd h
            refine mm_put (ty := .int) C hH hin5 tyX5_ok nmX5 rfl kl_157 (mm_e5 kd_157) (j := 13) (by decide) rfl w4 pd_I rfl rfl (Nat.le_of_ble_eq_true rfl) (sp_5_13 kd_157) (Option.some.inj e32) dX5_passes_135 (fun H locs hH => ?_)
            refine lv_iconst (v := 1) hx hb dX5_passes_138 (by decide) ?_
            exact mm_iret C hH hr hlk rfl h dX5_passes_139
          · have h := mm_neg c14 h
            refine lv_aload_n hx hb dX5_passes_110 rfl (lv_at hl 0 rfl) ?_
            refine mm_get (v := .ref (b + 158)) C hH hin5 rfl kl_157 (mm_e5 kd_157) (j := 0) (by decide) rfl w2 rfl dX5_passes_111 ?_
            refine lv_iconst (v := 5) hx hb dX5_passes_114 (by decide) ?_
            refine mm_iald (n := 135) (jn := 5) C hH kd_158 ln_158 (by decide) (by decide) dX5_passes_115 ?_
            refine lv_iconst (v := 1) hx hb dX5_passes_116 (by decide) ?_
            refine lv_isub hx hb dX5_passes_117 ?_
            refine lv_goto (tgt := 125) hx hb dX5_passes_118 (by decide) ?_
            obtain ⟨x33, e33, h⟩ := mm_bnd h
            refine mm_put (ty := .int) C hH hin5 tyX5_ok nmX5 rfl kl_157 (mm_e5 kd_157) (j := 10) (by decide) rfl w5 pd_I rfl rfl (Nat.le_of_ble_eq_true rfl) (sp_5_10 kd_157) (Option.some.inj e33) dX5_passes_125 (fun H locs hH => ?_)
            refine lv_aload_n hx hb dX5_passes_128 rfl (lv_at hl 0 rfl) ?_
            refine lv_iconst (v := 0) hx hb dX5_passes_129 (by decide) ?_
            obtain ⟨x34, e34, h⟩ := mm_bnd h
            refine mm_put (ty := .boolean) C hH hin5 tyX5_ok nmX5 rfl kl_157 (mm_e5 kd_157) (j := 12) (by decide) rfl w3 pd_Z rfl rfl (Nat.le_of_ble_eq_true rfl) (sp_5_12 kd_157) (Option.some.inj e34) dX5_passes_130 (fun H locs hH => ?_)
            refine lv_aload_n hx hb dX5_passes_133 rfl (lv_at hl 0 rfl) ?_
            refine lv_iconst (v := 0) hx hb dX5_passes_134 (by decide) ?_
            obtain ⟨x35, e35, h⟩ := mm_bnd h
            refine mm_put (ty := .int) C hH hin5 tyX5_ok nmX5 rfl kl_157 (mm_e5 kd_157) (j := 13) (by decide) rfl w4 pd_I rfl rfl (Nat.le_of_ble_eq_true rfl) (sp_5_13 kd_157) (Option.some.inj e35) dX5_passes_135 (fun H locs hH => ?_)
            refine lv_iconst (v := 1) hx hb dX5_passes_138 (by decide) ?_
            exact mm_iret C hH hr hlk rfl h dX5_passes_139
        · have h := mm_neg c13 h
          refine lv_iload_n hx hb dX5_passes_90 rfl (lv_at hl 0 rfl) ?_
          refine lv_if_ne (tgt := 96) hx hb dX5_passes_91 (by decide) (fun _ => ?_) (fun c => absurd c (by decide))
          have hl := lv_sub (l' := [(0, .ref (b + 157))]) hl [1] rfl
          refine lv_aload_n hx hb dX5_passes_96 rfl (lv_at hl 0 rfl) ?_
          refine lv_aload_n hx hb dX5_passes_97 rfl (lv_at hl 0 rfl) ?_
          refine mm_get (v := .int (x23 157 10)) C hH hin5 rfl kl_157 (mm_e5 kd_157) (j := 10) (by decide) rfl w5 rfl dX5_passes_98 ?_
          refine lv_aload_n hx hb dX5_passes_101 rfl (lv_at hl 0 rfl) ?_
          refine mm_get (v := .ref (b + 158)) C hH hin5 rfl kl_157 (mm_e5 kd_157) (j := 0) (by decide) rfl w2 rfl dX5_passes_102 ?_
          refine lv_iconst (v := 5) hx hb dX5_passes_105 (by decide) ?_
          refine mm_iald (n := 135) (jn := 5) C hH kd_158 ln_158 (by decide) (by decide) dX5_passes_106 ?_
          refine lv_icmp_lt (tgt := 121) hx hb dX5_passes_107 (by decide) (fun c15 => ?_) (fun c15 => ?_)
          · have h := mm_pos c15 h
            refine lv_aload_n hx hb dX5_passes_121 rfl (lv_at hl 0 rfl) ?_
            refine mm_get (v := .int (x23 157 10)) C hH hin5 rfl kl_157 (mm_e5 kd_157) (j := 10) (by decide) rfl w5 rfl dX5_passes_122 ?_
            obtain ⟨x36, e36, h⟩ := mm_bnd h
            refine mm_put (ty := .int) C hH hin5 tyX5_ok nmX5 rfl kl_157 (mm_e5 kd_157) (j := 10) (by decide) rfl w5 pd_I rfl rfl (Nat.le_of_ble_eq_true rfl) (sp_5_10 kd_157) (Option.some.inj e36) dX5_passes_125 (fun H locs hH => ?_)
            refine lv_aload_n hx hb dX5_passes_128 rfl (lv_at hl 0 rfl) ?_
            refine lv_iconst (v := 0) hx hb dX5_passes_129 (by decide) ?_
            obtain ⟨x37, e37, h⟩ := mm_bnd h
            refine mm_put (ty := .boolean) C hH hin5 tyX5_ok nmX5 rfl kl_157 (mm_e5 kd_157) (j := 12) (by decide) rfl w3 pd_Z rfl rfl (Nat.le_of_ble_eq_true rfl) (sp_5_12 kd_157) (Option.some.inj e37) dX5_passes_130 (fun H locs hH => ?_)
            refine lv_aload_n hx hb dX5_passes_133 rfl (lv_at hl 0 rfl) ?_
            refine lv_iconst (v := 0) hx hb dX5_passes_134 (by decide) ?_
            obtain ⟨x38, e38, h⟩ := mm_bnd h
            refine mm_put (ty := .int) C hH hin5 tyX5_ok nmX5 rfl kl_157 (mm_e5 kd_157) (j := 13) (by decide) rfl w4 pd_I rfl rfl (Nat.le_of_ble_eq_true rfl) (sp_5_13 kd_157) (Option.some.inj e38) dX5_passes_135 (fun H locs hH => ?_)
            refine lv_iconst (v := 1) hx hb dX5_passes_138 (by decide) ?_
            exact mm_iret C hH hr hlk rfl h dX5_passes_139
          · have h := mm_neg c15 h
            refine lv_aload_n hx hb dX5_passes_110 rfl (lv_at hl 0 rfl) ?_
            refine mm_get (v := .ref (b + 158)) C hH hin5 rfl kl_157 (mm_e5 kd_157) (j := 0) (by decide) rfl w2 rfl dX5_passes_111 ?_
            refine lv_iconst (v := 5) hx hb dX5_passes_114 (by decide) ?_
            refine mm_iald (n := 135) (jn := 5) C hH kd_158 ln_158 (by decide) (by decide) dX5_passes_115 ?_
            refine lv_iconst (v := 1) hx hb dX5_passes_116 (by decide) ?_
            refine lv_isub hx hb dX5_passes_117 ?_
            refine lv_goto (tgt := 125) hx hb dX5_passes_118 (by decide) ?_
            obtain ⟨x39, e39, h⟩ := mm_bnd h
            refine mm_put (ty := .int) C hH hin5 tyX5_ok nmX5 rfl kl_157 (mm_e5 kd_157) (j := 10) (by decide) rfl w5 pd_I rfl rfl (Nat.le_of_ble_eq_true rfl) (sp_5_10 kd_157) (Option.some.inj e39) dX5_passes_125 (fun H locs hH => ?_)
            refine lv_aload_n hx hb dX5_passes_128 rfl (lv_at hl 0 rfl) ?_
            refine lv_iconst (v := 0) hx hb dX5_passes_129 (by decide) ?_
            obtain ⟨x40, e40, h⟩ := mm_bnd h
            refine mm_put (ty := .boolean) C hH hin5 tyX5_ok nmX5 rfl kl_157 (mm_e5 kd_157) (j := 12) (by decide) rfl w3 pd_Z rfl rfl (Nat.le_of_ble_eq_true rfl) (sp_5_12 kd_157) (Option.some.inj e40) dX5_passes_130 (fun H locs hH => ?_)
            refine lv_aload_n hx hb dX5_passes_133 rfl (lv_at hl 0 rfl) ?_
            refine lv_iconst (v := 0) hx hb dX5_passes_134 (by decide) ?_
            obtain ⟨x41, e41, h⟩ := mm_bnd h
            refine mm_put (ty := .int) C hH hin5 tyX5_ok nmX5 rfl kl_157 (mm_e5 kd_157) (j := 13) (by decide) rfl w4 pd_I rfl rfl (Nat.le_of_ble_eq_true rfl) (sp_5_13 kd_157) (Option.some.inj e41) dX5_passes_135 (fun H locs hH => ?_)
            refine lv_iconst (v := 1) hx hb dX5_passes_138 (by decide) ?_
            exact mm_iret C hH hr hlk rfl h dX5_passes_139
    · have h := mm_pos c9 h
      have hl := lv_sub (l' := []) hl [] rfl
      refine lv_iconst (v := 0) hx hb dX5_passes_45 (by decide) ?_
      exact mm_iret C hH hr hlk rfl h dX5_passes_46
def fn_X5_tries (a1 : Int32) (x : mm_M) : Option mm_M :=
  (fn_X5_its a1 2 x).bind fun v1 => (some (mm_up x 157 10 v1)).bind fun x1 => (fn_X5_its a1 5 x1).bind fun v2 => (some (mm_up x1 157 11 v2)).bind fun x2 => (fn_X5_its a1 3 x2).bind fun v3 => if v3 = 1 then (some (mm_up x2 157 12 1)).bind fun x5 => (fn_X5_its a1 4 x5).bind fun v5 => (some (mm_up x5 157 13 v5)).bind fun x6 => some x6 else (some (mm_up x2 157 12 0)).bind fun x3 => (fn_X5_its a1 4 x3).bind fun v4 => (some (mm_up x3 157 13 v4)).bind fun x4 => some x4
abbrev rm_X5_tries : Room := { frames := 1, cells := 0, slots := 0, locals := 22 }
theorem df_X5_tries : yX5_tries.cls = RX5 ∧ yX5_tries.cls ≠ "java/lang/invoke/MethodHandle" ∧ yX5_tries.cls ≠ "java/lang/invoke/VarHandle" ∧ (parseMethodDescriptor yX5_tries.desc).map (fun d => d.parameters.length) = some 1 := by decide +kernel
set_option maxRecDepth 100000 in
set_option maxHeartbeats 4000000 in
theorem ct_X5_tries (l : Launch) (G : va_G) (T : Nat → ClassId) (b : Nat) (z : Nat → Nat) (a1 : Int32) (x : mm_M) {x1 : mm_M} (h : fn_X5_tries a1 x = some x1) : mm_Cv l yX5_tries wsX5_tries rm_X5_tries G T b z [.ref (b + 157), .int a1] x x1 := by
  unfold fn_X5_tries at h
  refine mm_start (cc := cX5_tries) (maxL := 2) (ret := none) (by decide) rfl (Nat.le_of_ble_eq_true rfl) (fun p e s m below meth c ls C hr hlk hH hl => ?_)
  have hl : lv_has ls 2 [(0, .ref (b + 157)), (1, .int a1)] := hl
  have hx := C.1
  have hb := C.2.1
  have w1 := C.2.2.2.2.1 (.fieldLink RX5 70 "LandingFinesModel" "fine" "I") (by decide +kernel)
  have w2 := C.2.2.2.2.1 (.fieldLink RX5 67 "LandingFinesModel" "since" "I") (by decide +kernel)
  have w3 := C.2.2.2.2.1 (.fieldLink RX5 73 "LandingFinesModel" "isShunned" "Z") (by decide +kernel)
  have w4 := C.2.2.2.2.1 (.fieldLink RX5 77 "LandingFinesModel" "shunnedFor" "I") (by decide +kernel)
  have hin5 : ∀ w ∈ wsX50, w ∈ wsX5_tries := by decide +kernel
  refine lv_aload_n hx hb dX5_tries_0 rfl (lv_at hl 0 rfl) ?_
  refine lv_aload_n hx hb dX5_tries_1 rfl (lv_at hl 0 rfl) ?_
  refine lv_iload_n hx hb dX5_tries_2 rfl (lv_at hl 1 rfl) ?_
  refine lv_iconst (v := 2) hx hb dX5_tries_3 (by decide) ?_
  obtain ⟨v1, e1, h⟩ := mm_bnd h
  refine mm_goi hH (va_runV (As := [.int a1, .int 2]) (rest := [.ref (b + 157)]) ⟨hx, hb, C.2.2.1, C.2.2.2.1, C.2.2.2.2.1⟩ (ct_X5_its l G T b z a1 2 x e1) (cwV 2 C.2.2.2.2.1 gX5_tries_X5_its rfl rfl rfl df_X5_its ⟨Nat.le_of_ble_eq_true rfl, Nat.le_of_ble_eq_true rfl⟩) ⟨mm_B.blind, mm_recv (q := (RX5, TX5, 14)) C hH kl_157 (mm_e5 kd_157) rfl, mm_pre C hH⟩ rfl rfl hl.1 rfl (lv_room (Nat.le_of_ble_eq_true rfl)) dX5_tries_4 ⟨Nat.zero_le _, Nat.zero_le _⟩) (fun H locs hH => ?_)
  obtain ⟨x1, e2, h⟩ := mm_bnd h
  refine mm_put (ty := .int) C hH hin5 tyX5_ok nmX5 rfl kl_157 (mm_e5 kd_157) (j := 10) (by decide) rfl w1 pd_I rfl rfl (Nat.le_of_ble_eq_true rfl) (sp_5_10 kd_157) (Option.some.inj e2) dX5_tries_7 (fun H locs hH => ?_)
  refine lv_aload_n hx hb dX5_tries_10 rfl (lv_at hl 0 rfl) ?_
  refine lv_aload_n hx hb dX5_tries_11 rfl (lv_at hl 0 rfl) ?_
  refine lv_iload_n hx hb dX5_tries_12 rfl (lv_at hl 1 rfl) ?_
  refine lv_iconst (v := 5) hx hb dX5_tries_13 (by decide) ?_
  obtain ⟨v2, e3, h⟩ := mm_bnd h
  refine mm_goi hH (va_runV (As := [.int a1, .int 5]) (rest := [.ref (b + 157)]) ⟨hx, hb, C.2.2.1, C.2.2.2.1, C.2.2.2.2.1⟩ (ct_X5_its l G T b z a1 5 x1 e3) (cwV 2 C.2.2.2.2.1 gX5_tries_X5_its rfl rfl rfl df_X5_its ⟨Nat.le_of_ble_eq_true rfl, Nat.le_of_ble_eq_true rfl⟩) ⟨mm_B.blind, mm_recv (q := (RX5, TX5, 14)) C hH kl_157 (mm_e5 kd_157) rfl, mm_pre C hH⟩ rfl rfl hl.1 rfl (lv_room (Nat.le_of_ble_eq_true rfl)) dX5_tries_14 ⟨Nat.zero_le _, Nat.zero_le _⟩) (fun H locs hH => ?_)
  obtain ⟨x2, e4, h⟩ := mm_bnd h
  refine mm_put (ty := .int) C hH hin5 tyX5_ok nmX5 rfl kl_157 (mm_e5 kd_157) (j := 11) (by decide) rfl w2 pd_I rfl rfl (Nat.le_of_ble_eq_true rfl) (sp_5_11 kd_157) (Option.some.inj e4) dX5_tries_17 (fun H locs hH => ?_)
  refine lv_aload_n hx hb dX5_tries_20 rfl (lv_at hl 0 rfl) ?_
  refine lv_aload_n hx hb dX5_tries_21 rfl (lv_at hl 0 rfl) ?_
  refine lv_iload_n hx hb dX5_tries_22 rfl (lv_at hl 1 rfl) ?_
  refine lv_iconst (v := 3) hx hb dX5_tries_23 (by decide) ?_
  obtain ⟨v3, e5, h⟩ := mm_bnd h
  refine mm_goi hH (va_runV (As := [.int a1, .int 3]) (rest := [.ref (b + 157)]) ⟨hx, hb, C.2.2.1, C.2.2.2.1, C.2.2.2.2.1⟩ (ct_X5_its l G T b z a1 3 x2 e5) (cwV 2 C.2.2.2.2.1 gX5_tries_X5_its rfl rfl rfl df_X5_its ⟨Nat.le_of_ble_eq_true rfl, Nat.le_of_ble_eq_true rfl⟩) ⟨mm_B.blind, mm_recv (q := (RX5, TX5, 14)) C hH kl_157 (mm_e5 kd_157) rfl, mm_pre C hH⟩ rfl rfl hl.1 rfl (lv_room (Nat.le_of_ble_eq_true rfl)) dX5_tries_24 ⟨Nat.zero_le _, Nat.zero_le _⟩) (fun H locs hH => ?_)
  refine lv_iconst (v := 1) hx hb dX5_tries_27 (by decide) ?_
  refine lv_icmp_ne (tgt := 35) hx hb dX5_tries_28 (by decide) (fun c1 => ?_) (fun c1 => ?_)
  · have h := mm_neg c1 h
    refine lv_iconst (v := 0) hx hb dX5_tries_35 (by decide) ?_
    obtain ⟨x3, e6, h⟩ := mm_bnd h
    refine mm_put (ty := .boolean) C hH hin5 tyX5_ok nmX5 rfl kl_157 (mm_e5 kd_157) (j := 12) (by decide) rfl w3 pd_Z rfl rfl (Nat.le_of_ble_eq_true rfl) (sp_5_12 kd_157) (Option.some.inj e6) dX5_tries_36 (fun H locs hH => ?_)
    refine lv_aload_n hx hb dX5_tries_39 rfl (lv_at hl 0 rfl) ?_
    refine lv_aload_n hx hb dX5_tries_40 rfl (lv_at hl 0 rfl) ?_
    refine lv_iload_n hx hb dX5_tries_41 rfl (lv_at hl 1 rfl) ?_
    refine lv_iconst (v := 4) hx hb dX5_tries_42 (by decide) ?_
    obtain ⟨v4, e7, h⟩ := mm_bnd h
    refine mm_goi hH (va_runV (As := [.int a1, .int 4]) (rest := [.ref (b + 157)]) ⟨hx, hb, C.2.2.1, C.2.2.2.1, C.2.2.2.2.1⟩ (ct_X5_its l G T b z a1 4 x3 e7) (cwV 2 C.2.2.2.2.1 gX5_tries_X5_its rfl rfl rfl df_X5_its ⟨Nat.le_of_ble_eq_true rfl, Nat.le_of_ble_eq_true rfl⟩) ⟨mm_B.blind, mm_recv (q := (RX5, TX5, 14)) C hH kl_157 (mm_e5 kd_157) rfl, mm_pre C hH⟩ rfl rfl hl.1 rfl (lv_room (Nat.le_of_ble_eq_true rfl)) dX5_tries_43 ⟨Nat.zero_le _, Nat.zero_le _⟩) (fun H locs hH => ?_)
    obtain ⟨x4, e8, h⟩ := mm_bnd h
    refine mm_put (ty := .int) C hH hin5 tyX5_ok nmX5 rfl kl_157 (mm_e5 kd_157) (j := 13) (by decide) rfl w4 pd_I rfl rfl (Nat.le_of_ble_eq_true rfl) (sp_5_13 kd_157) (Option.some.inj e8) dX5_tries_46 (fun H locs hH => ?_)
    exact mm_vret C hH hr hlk h dX5_tries_49
  · have h := mm_pos c1 h
    refine lv_iconst (v := 1) hx hb dX5_tries_31 (by decide) ?_
    refine lv_goto (tgt := 36) hx hb dX5_tries_32 (by decide) ?_
    obtain ⟨x5, e9, h⟩ := mm_bnd h
    refine mm_put (ty := .boolean) C hH hin5 tyX5_ok nmX5 rfl kl_157 (mm_e5 kd_157) (j := 12) (by decide) rfl w3 pd_Z rfl rfl (Nat.le_of_ble_eq_true rfl) (sp_5_12 kd_157) (Option.some.inj e9) dX5_tries_36 (fun H locs hH => ?_)
    refine lv_aload_n hx hb dX5_tries_39 rfl (lv_at hl 0 rfl) ?_
    refine lv_aload_n hx hb dX5_tries_40 rfl (lv_at hl 0 rfl) ?_
    refine lv_iload_n hx hb dX5_tries_41 rfl (lv_at hl 1 rfl) ?_
    refine lv_iconst (v := 4) hx hb dX5_tries_42 (by decide) ?_
    obtain ⟨v5, e10, h⟩ := mm_bnd h
    refine mm_goi hH (va_runV (As := [.int a1, .int 4]) (rest := [.ref (b + 157)]) ⟨hx, hb, C.2.2.1, C.2.2.2.1, C.2.2.2.2.1⟩ (ct_X5_its l G T b z a1 4 x5 e10) (cwV 2 C.2.2.2.2.1 gX5_tries_X5_its rfl rfl rfl df_X5_its ⟨Nat.le_of_ble_eq_true rfl, Nat.le_of_ble_eq_true rfl⟩) ⟨mm_B.blind, mm_recv (q := (RX5, TX5, 14)) C hH kl_157 (mm_e5 kd_157) rfl, mm_pre C hH⟩ rfl rfl hl.1 rfl (lv_room (Nat.le_of_ble_eq_true rfl)) dX5_tries_43 ⟨Nat.zero_le _, Nat.zero_le _⟩) (fun H locs hH => ?_)
    obtain ⟨x6, e11, h⟩ := mm_bnd h
    refine mm_put (ty := .int) C hH hin5 tyX5_ok nmX5 rfl kl_157 (mm_e5 kd_157) (j := 13) (by decide) rfl w4 pd_I rfl rfl (Nat.le_of_ble_eq_true rfl) (sp_5_13 kd_157) (Option.some.inj e11) dX5_tries_46 (fun H locs hH => ?_)
    exact mm_vret C hH hr hlk h dX5_tries_49
def fn_X5_minute_20 : Nat → Int32 → Int32 → Int32 → mm_M → Option (mm_M × Int32)
  | 0, _, _, _, _ => none
  | n + 1, a1, i2, i3, x => if (x 158 8) ≤ i3 then some (x, i2) else (fn_X5_tries i3 x).bind fun x1 => mm_b2 (fn_X5_passes x1) fun x2 v1 => (fn_X5_lay i3 2 (x2 157 10) x2).bind fun x3 => (fn_X5_lay i3 5 (x3 157 11) x3).bind fun x4 => if (x4 157 12) = 0 then (fn_X5_lay i3 3 0 x4).bind fun x5 => (fn_X5_lay i3 4 (x5 157 13) x5).bind fun x6 => if v1 = 0 then (some (i3 + 1)).bind fun v2 => fn_X5_minute_20 n a1 i2 v2 x6 else (fn_X5_note 4 i3 x6).bind fun x7 => (some (i2 + 1)).bind fun v3 => (some (i3 + 1)).bind fun v4 => fn_X5_minute_20 n a1 v3 v4 x7 else (fn_X5_lay i3 3 1 x4).bind fun x8 => (fn_X5_lay i3 4 (x8 157 13) x8).bind fun x9 => if v1 = 0 then (some (i3 + 1)).bind fun v5 => fn_X5_minute_20 n a1 i2 v5 x9 else (fn_X5_note 4 i3 x9).bind fun x10 => (some (i2 + 1)).bind fun v6 => (some (i3 + 1)).bind fun v7 => fn_X5_minute_20 n a1 v6 v7 x10
def fn_X5_minute  (x : mm_M) : Option (mm_M × Int32) :=
  (fn_X5_taken x).bind fun v1 => (some (mm_up x 158 7 ((x 158 7) + 1))).bind fun x1 => mm_b2 (fn_X5_minute_20 9 v1 0 0 x1) fun x2 v2 => (fn_X5_taken x2).bind fun v3 => if v3 = v1 then (some (mm_up x2 158 9 ((x2 158 9) + 0))).bind fun x3 => some (x3, v2) else (some (mm_up x2 158 9 ((x2 158 9) + 1))).bind fun x4 => some (x4, v2)
abbrev rm_X5_minute : Room := { frames := 2, cells := 0, slots := 0, locals := 45 }
theorem df_X5_minute : yX5_minute.cls = RX5 ∧ yX5_minute.cls ≠ "java/lang/invoke/MethodHandle" ∧ yX5_minute.cls ≠ "java/lang/invoke/VarHandle" ∧ (parseMethodDescriptor yX5_minute.desc).map (fun d => d.parameters.length) = some 0 := by decide +kernel
set_option maxRecDepth 100000 in
set_option maxHeartbeats 4000000 in
theorem lp_X5_minute_20 {p : Program} {l : Launch} {e : Env} {s : State} {m : MethodId} {args : Array Value} {below : List Frame} {meth : Method} {c : Code} {Q : State → Prop} {G : va_G} {T : Nat → ClassId} {b : Nat} {z : Nat → Nat} (C : mm_C p m c cX5_minute 5 s args wsX5_minute RX5 G T b z) (a1 : Int32) : ∀ (n : Nat) (i2 : Int32) (i3 : Int32) (x : mm_M) (H : Heap) (locs : List Loc) (ls : Array Slot) (x1 : mm_M) (r2 : Int32), fn_X5_minute_20 n a1 i2 i3 x = some (x1, r2) → mm_H G T b x s H locs → lv_has ls 5 [(0, .ref (b + 157)), (1, .int a1), (2, .int i2), (3, .int i3)] → (∀ (H1 : Heap) (locs1 : List Loc) (ls1 : Array Slot), mm_H G T b x1 s H1 locs1 → lv_has ls1 5 [(0, .ref (b + 157)), (1, .int a1), (2, .int r2)] → W p l e rm_X5_minute s m args below meth c H1 locs1 0 0 Q (F0 m 110 ls1 [])) → W p l e rm_X5_minute s m args below meth c H locs 0 0 Q (F0 m 20 ls []) := by
  have hx := C.1
  have hb := C.2.1
  have w1 := C.2.2.2.2.1 (.fieldLink RX5 7 "LandingFinesModel" "row" "[I") (by decide +kernel)
  have w2 := C.2.2.2.2.1 (.fieldLink RX5 70 "LandingFinesModel" "fine" "I") (by decide +kernel)
  have w3 := C.2.2.2.2.1 (.fieldLink RX5 67 "LandingFinesModel" "since" "I") (by decide +kernel)
  have w4 := C.2.2.2.2.1 (.fieldLink RX5 73 "LandingFinesModel" "isShunned" "Z") (by decide +kernel)
  have w5 := C.2.2.2.2.1 (.fieldLink RX5 77 "LandingFinesModel" "shunnedFor" "I") (by decide +kernel)
  have hin5 : ∀ w ∈ wsX50, w ∈ wsX5_minute := by decide +kernel
  intro n
  induction n with
  | zero => intro _ _ _ _ _ _ _ _ h; cases (show (none : Option (mm_M × Int32)) = some _ from h)
  | succ n ih =>
    intro i2 i3 x H locs ls x1 r2 h hH hl kk
    rw [fn_X5_minute_20] at h
    refine lv_iload_n hx hb dX5_minute_20 rfl (lv_at hl 3 rfl) ?_
    refine lv_aload_n hx hb dX5_minute_21 rfl (lv_at hl 0 rfl) ?_
    refine mm_get (v := .ref (b + 158)) C hH hin5 rfl kl_157 (mm_e5 kd_157) (j := 0) (by decide) rfl w1 rfl dX5_minute_22 ?_
    refine lv_bipush (v := 8) hx hb dX5_minute_25 (by decide) ?_
    refine mm_iald (n := 135) (jn := 8) C hH kd_158 ln_158 (by decide) (by decide) dX5_minute_27 ?_
    refine lv_icmp_ge (tgt := 110) hx hb dX5_minute_28 (by decide) (fun c1 => ?_) (fun c1 => ?_)
    · have h := mm_pos c1 h
      have hl := lv_sub (l' := [(0, .ref (b + 157)), (1, .int a1), (2, .int i2)]) hl [0, 1, 2] rfl
      cases h
      exact kk _ _ _ hH (lv_sub hl [0, 1, 2] rfl)
    · have h := mm_neg c1 h
      refine lv_aload_n hx hb dX5_minute_31 rfl (lv_at hl 0 rfl) ?_
      refine lv_iload_n hx hb dX5_minute_32 rfl (lv_at hl 3 rfl) ?_
      obtain ⟨x1, e1, h⟩ := mm_bnd h
      refine mm_gov hH (va_runV (As := [.int i3]) (rest := []) ⟨hx, hb, C.2.2.1, C.2.2.2.1, C.2.2.2.2.1⟩ (ct_X5_tries l G T b z i3 x e1) (cwV 1 C.2.2.2.2.1 gX5_minute_X5_tries rfl rfl rfl df_X5_tries ⟨Nat.le_of_ble_eq_true rfl, Nat.le_of_ble_eq_true rfl⟩) ⟨mm_B.blind, mm_recv (q := (RX5, TX5, 14)) C hH kl_157 (mm_e5 kd_157) rfl, mm_pre C hH⟩ rfl rfl hl.1 rfl (lv_room (Nat.le_of_ble_eq_true rfl)) dX5_minute_33 ⟨Nat.zero_le _, Nat.zero_le _⟩) (fun H locs hH => ?_)
      refine lv_aload_n hx hb dX5_minute_36 rfl (lv_at hl 0 rfl) ?_
      obtain ⟨x2, v1, e2, h⟩ := mm_bnd2 h
      refine mm_goi hH (va_runV (As := []) (rest := []) ⟨hx, hb, C.2.2.1, C.2.2.2.1, C.2.2.2.2.1⟩ (ct_X5_passes l G T b z x1 e2) (cwV 0 C.2.2.2.2.1 gX5_minute_X5_passes rfl rfl rfl df_X5_passes ⟨Nat.le_of_ble_eq_true rfl, Nat.le_of_ble_eq_true rfl⟩) ⟨mm_B.blind, mm_recv (q := (RX5, TX5, 14)) C hH kl_157 (mm_e5 kd_157) rfl, mm_pre C hH⟩ rfl rfl hl.1 rfl (lv_room (Nat.le_of_ble_eq_true rfl)) dX5_minute_37 ⟨Nat.zero_le _, Nat.zero_le _⟩) (fun H locs hH => ?_)
      refine lv_istore (lv' := [(4, .int v1), (0, .ref (b + 157)), (1, .int a1), (2, .int i2), (3, .int i3)]) hx hb dX5_minute_40 hl (by decide) rfl (fun ls hl => ?_)
      refine lv_aload_n hx hb dX5_minute_42 rfl (lv_at hl 1 rfl) ?_
      refine lv_iload_n hx hb dX5_minute_43 rfl (lv_at hl 4 rfl) ?_
      refine lv_iconst (v := 2) hx hb dX5_minute_44 (by decide) ?_
      refine lv_aload_n hx hb dX5_minute_45 rfl (lv_at hl 1 rfl) ?_
      refine mm_get (v := .int (x2 157 10)) C hH hin5 rfl kl_157 (mm_e5 kd_157) (j := 10) (by decide) rfl w2 rfl dX5_minute_46 ?_
      obtain ⟨x3, e3, h⟩ := mm_bnd h
      refine mm_gov hH (va_runV (As := [.int i3, .int 2, .int (x2 157 10)]) (rest := []) ⟨hx, hb, C.2.2.1, C.2.2.2.1, C.2.2.2.2.1⟩ (ct_X5_lay l G T b z i3 2 (x2 157 10) x2 e3) (cwV 3 C.2.2.2.2.1 gX5_minute_X5_lay rfl rfl rfl df_X5_lay ⟨Nat.le_of_ble_eq_true rfl, Nat.le_of_ble_eq_true rfl⟩) ⟨mm_B.blind, mm_recv (q := (RX5, TX5, 14)) C hH kl_157 (mm_e5 kd_157) rfl, mm_pre C hH⟩ rfl rfl hl.1 rfl (lv_room (Nat.le_of_ble_eq_true rfl)) dX5_minute_49 ⟨Nat.zero_le _, Nat.zero_le _⟩) (fun H locs hH => ?_)
      refine lv_aload_n hx hb dX5_minute_52 rfl (lv_at hl 1 rfl) ?_
      refine lv_iload_n hx hb dX5_minute_53 rfl (lv_at hl 4 rfl) ?_
      refine lv_iconst (v := 5) hx hb dX5_minute_54 (by decide) ?_
      refine lv_aload_n hx hb dX5_minute_55 rfl (lv_at hl 1 rfl) ?_
      refine mm_get (v := .int (x3 157 11)) C hH hin5 rfl kl_157 (mm_e5 kd_157) (j := 11) (by decide) rfl w3 rfl dX5_minute_56 ?_
      obtain ⟨x4, e4, h⟩ := mm_bnd h
      refine mm_gov hH (va_runV (As := [.int i3, .int 5, .int (x3 157 11)]) (rest := []) ⟨hx, hb, C.2.2.1, C.2.2.2.1, C.2.2.2.2.1⟩ (ct_X5_lay l G T b z i3 5 (x3 157 11) x3 e4) (cwV 3 C.2.2.2.2.1 gX5_minute_X5_lay rfl rfl rfl df_X5_lay ⟨Nat.le_of_ble_eq_true rfl, Nat.le_of_ble_eq_true rfl⟩) ⟨mm_B.blind, mm_recv (q := (RX5, TX5, 14)) C hH kl_157 (mm_e5 kd_157) rfl, mm_pre C hH⟩ rfl rfl hl.1 rfl (lv_room (Nat.le_of_ble_eq_true rfl)) dX5_minute_59 ⟨Nat.zero_le _, Nat.zero_le _⟩) (fun H locs hH => ?_)
      refine lv_aload_n hx hb dX5_minute_62 rfl (lv_at hl 1 rfl) ?_
      refine lv_iload_n hx hb dX5_minute_63 rfl (lv_at hl 4 rfl) ?_
      refine lv_iconst (v := 3) hx hb dX5_minute_64 (by decide) ?_
      refine lv_aload_n hx hb dX5_minute_65 rfl (lv_at hl 1 rfl) ?_
      refine mm_get (v := .int (x4 157 12)) C hH hin5 rfl kl_157 (mm_e5 kd_157) (j := 12) (by decide) rfl w4 rfl dX5_minute_66 ?_
      refine lv_if_eq (tgt := 76) hx hb dX5_minute_69 (by decide) (fun c2 => ?_) (fun c2 => ?_)
      · have h := mm_pos c2 h
        refine lv_iconst (v := 0) hx hb dX5_minute_76 (by decide) ?_
        obtain ⟨x5, e5, h⟩ := mm_bnd h
        refine mm_gov hH (va_runV (As := [.int i3, .int 3, .int 0]) (rest := []) ⟨hx, hb, C.2.2.1, C.2.2.2.1, C.2.2.2.2.1⟩ (ct_X5_lay l G T b z i3 3 0 x4 e5) (cwV 3 C.2.2.2.2.1 gX5_minute_X5_lay rfl rfl rfl df_X5_lay ⟨Nat.le_of_ble_eq_true rfl, Nat.le_of_ble_eq_true rfl⟩) ⟨mm_B.blind, mm_recv (q := (RX5, TX5, 14)) C hH kl_157 (mm_e5 kd_157) rfl, mm_pre C hH⟩ rfl rfl hl.1 rfl (lv_room (Nat.le_of_ble_eq_true rfl)) dX5_minute_77 ⟨Nat.zero_le _, Nat.zero_le _⟩) (fun H locs hH => ?_)
        refine lv_aload_n hx hb dX5_minute_80 rfl (lv_at hl 1 rfl) ?_
        refine lv_iload_n hx hb dX5_minute_81 rfl (lv_at hl 4 rfl) ?_
        refine lv_iconst (v := 4) hx hb dX5_minute_82 (by decide) ?_
        refine lv_aload_n hx hb dX5_minute_83 rfl (lv_at hl 1 rfl) ?_
        refine mm_get (v := .int (x5 157 13)) C hH hin5 rfl kl_157 (mm_e5 kd_157) (j := 13) (by decide) rfl w5 rfl dX5_minute_84 ?_
        obtain ⟨x6, e6, h⟩ := mm_bnd h
        refine mm_gov hH (va_runV (As := [.int i3, .int 4, .int (x5 157 13)]) (rest := []) ⟨hx, hb, C.2.2.1, C.2.2.2.1, C.2.2.2.2.1⟩ (ct_X5_lay l G T b z i3 4 (x5 157 13) x5 e6) (cwV 3 C.2.2.2.2.1 gX5_minute_X5_lay rfl rfl rfl df_X5_lay ⟨Nat.le_of_ble_eq_true rfl, Nat.le_of_ble_eq_true rfl⟩) ⟨mm_B.blind, mm_recv (q := (RX5, TX5, 14)) C hH kl_157 (mm_e5 kd_157) rfl, mm_pre C hH⟩ rfl rfl hl.1 rfl (lv_room (Nat.le_of_ble_eq_true rfl)) dX5_minute_87 ⟨Nat.zero_le _, Nat.zero_le _⟩) (fun H locs hH => ?_)
        refine lv_iload hx hb dX5_minute_90 (lv_at hl 0 rfl) ?_
        refine lv_if_eq (tgt := 104) hx hb dX5_minute_92 (by decide) (fun c3 => ?_) (fun c3 => ?_)
        · have h := mm_pos c3 h
          have hl := lv_sub (l' := [(0, .ref (b + 157)), (1, .int a1), (2, .int i2), (3, .int i3)]) hl [1, 2, 3, 4] rfl
          obtain ⟨v2, e7, h⟩ := mm_bnd h
          refine lv_iinc (v := v2) (lv' := [(3, .int v2), (0, .ref (b + 157)), (1, .int a1), (2, .int i2)]) hx hb dX5_minute_104 hl (k := 3) rfl (Option.some.inj e7) (by decide) rfl (fun ls hl => ?_)
          refine lv_goto (tgt := 20) hx hb dX5_minute_107 (by decide) ?_
          exact ih i2 v2 x6 _ _ _ _ _ h hH (lv_sub hl [1, 2, 3, 0] rfl) kk
        · have h := mm_neg c3 h
          have hl := lv_sub (l' := [(0, .ref (b + 157)), (1, .int a1), (2, .int i2), (3, .int i3)]) hl [1, 2, 3, 4] rfl
          refine lv_aload_n hx hb dX5_minute_95 rfl (lv_at hl 0 rfl) ?_
          refine lv_iconst (v := 4) hx hb dX5_minute_96 (by decide) ?_
          refine lv_iload_n hx hb dX5_minute_97 rfl (lv_at hl 3 rfl) ?_
          obtain ⟨x7, e8, h⟩ := mm_bnd h
          refine mm_gov hH (va_runV (As := [.int 4, .int i3]) (rest := []) ⟨hx, hb, C.2.2.1, C.2.2.2.1, C.2.2.2.2.1⟩ (ct_X5_note l G T b z 4 i3 x6 e8) (cwV 2 C.2.2.2.2.1 gX5_minute_X5_note rfl rfl rfl df_X5_note ⟨Nat.le_of_ble_eq_true rfl, Nat.le_of_ble_eq_true rfl⟩) ⟨mm_B.blind, mm_recv (q := (RX5, TX5, 14)) C hH kl_157 (mm_e5 kd_157) rfl, mm_pre C hH⟩ rfl rfl hl.1 rfl (lv_room (Nat.le_of_ble_eq_true rfl)) dX5_minute_98 ⟨Nat.zero_le _, Nat.zero_le _⟩) (fun H locs hH => ?_)
          obtain ⟨v3, e9, h⟩ := mm_bnd h
          refine lv_iinc (v := v3) (lv' := [(2, .int v3), (0, .ref (b + 157)), (1, .int a1), (3, .int i3)]) hx hb dX5_minute_101 hl (k := 2) rfl (Option.some.inj e9) (by decide) rfl (fun ls hl => ?_)
          obtain ⟨v4, e10, h⟩ := mm_bnd h
          refine lv_iinc (v := v4) (lv' := [(3, .int v4), (2, .int v3), (0, .ref (b + 157)), (1, .int a1)]) hx hb dX5_minute_104 hl (k := 3) rfl (Option.some.inj e10) (by decide) rfl (fun ls hl => ?_)
          refine lv_goto (tgt := 20) hx hb dX5_minute_107 (by decide) ?_
          exact ih v3 v4 x7 _ _ _ _ _ h hH (lv_sub hl [2, 3, 1, 0] rfl) kk
      · have h := mm_neg c2 h
        refine lv_iconst (v := 1) hx hb dX5_minute_72 (by decide) ?_
        refine lv_goto (tgt := 77) hx hb dX5_minute_73 (by decide) ?_
        obtain ⟨x8, e11, h⟩ := mm_bnd h
        refine mm_gov hH (va_runV (As := [.int i3, .int 3, .int 1]) (rest := []) ⟨hx, hb, C.2.2.1, C.2.2.2.1, C.2.2.2.2.1⟩ (ct_X5_lay l G T b z i3 3 1 x4 e11) (cwV 3 C.2.2.2.2.1 gX5_minute_X5_lay rfl rfl rfl df_X5_lay ⟨Nat.le_of_ble_eq_true rfl, Nat.le_of_ble_eq_true rfl⟩) ⟨mm_B.blind, mm_recv (q := (RX5, TX5, 14)) C hH kl_157 (mm_e5 kd_157) rfl, mm_pre C hH⟩ rfl rfl hl.1 rfl (lv_room (Nat.le_of_ble_eq_true rfl)) dX5_minute_77 ⟨Nat.zero_le _, Nat.zero_le _⟩) (fun H locs hH => ?_)
        refine lv_aload_n hx hb dX5_minute_80 rfl (lv_at hl 1 rfl) ?_
        refine lv_iload_n hx hb dX5_minute_81 rfl (lv_at hl 4 rfl) ?_
        refine lv_iconst (v := 4) hx hb dX5_minute_82 (by decide) ?_
        refine lv_aload_n hx hb dX5_minute_83 rfl (lv_at hl 1 rfl) ?_
        refine mm_get (v := .int (x8 157 13)) C hH hin5 rfl kl_157 (mm_e5 kd_157) (j := 13) (by decide) rfl w5 rfl dX5_minute_84 ?_
        obtain ⟨x9, e12, h⟩ := mm_bnd h
        refine mm_gov hH (va_runV (As := [.int i3, .int 4, .int (x8 157 13)]) (rest := []) ⟨hx, hb, C.2.2.1, C.2.2.2.1, C.2.2.2.2.1⟩ (ct_X5_lay l G T b z i3 4 (x8 157 13) x8 e12) (cwV 3 C.2.2.2.2.1 gX5_minute_X5_lay rfl rfl rfl df_X5_lay ⟨Nat.le_of_ble_eq_true rfl, Nat.le_of_ble_eq_true rfl⟩) ⟨mm_B.blind, mm_recv (q := (RX5, TX5, 14)) C hH kl_157 (mm_e5 kd_157) rfl, mm_pre C hH⟩ rfl rfl hl.1 rfl (lv_room (Nat.le_of_ble_eq_true rfl)) dX5_minute_87 ⟨Nat.zero_le _, Nat.zero_le _⟩) (fun H locs hH => ?_)
        refine lv_iload hx hb dX5_minute_90 (lv_at hl 0 rfl) ?_
        refine lv_if_eq (tgt := 104) hx hb dX5_minute_92 (by decide) (fun c4 => ?_) (fun c4 => ?_)
        · have h := mm_pos c4 h
          have hl := lv_sub (l' := [(0, .ref (b + 157)), (1, .int a1), (2, .int i2), (3, .int i3)]) hl [1, 2, 3, 4] rfl
          obtain ⟨v5, e13, h⟩ := mm_bnd h
          refine lv_iinc (v := v5) (lv' := [(3, .int v5), (0, .ref (b + 157)), (1, .int a1), (2, .int i2)]) hx hb dX5_minute_104 hl (k := 3) rfl (Option.some.inj e13) (by decide) rfl (fun ls hl => ?_)
          refine lv_goto (tgt := 20) hx hb dX5_minute_107 (by decide) ?_
          exact ih i2 v5 x9 _ _ _ _ _ h hH (lv_sub hl [1, 2, 3, 0] rfl) kk
        · have h := mm_neg c4 h
          have hl := lv_sub (l' := [(0, .ref (b + 157)), (1, .int a1), (2, .int i2), (3, .int i3)]) hl [1, 2, 3, 4] rfl
          refine lv_aload_n hx hb dX5_minute_95 rfl (lv_at hl 0 rfl) ?_
          refine lv_iconst (v := 4) hx hb dX5_minute_96 (by decide) ?_
          refine lv_iload_n hx hb dX5_minute_97 rfl (lv_at hl 3 rfl) ?_
          obtain ⟨x10, e14, h⟩ := mm_bnd h
          refine mm_gov hH (va_runV (As := [.int 4, .int i3]) (rest := []) ⟨hx, hb, C.2.2.1, C.2.2.2.1, C.2.2.2.2.1⟩ (ct_X5_note l G T b z 4 i3 x9 e14) (cwV 2 C.2.2.2.2.1 gX5_minute_X5_note rfl rfl rfl df_X5_note ⟨Nat.le_of_ble_eq_true rfl, Nat.le_of_ble_eq_true rfl⟩) ⟨mm_B.blind, mm_recv (q := (RX5, TX5, 14)) C hH kl_157 (mm_e5 kd_157) rfl, mm_pre C hH⟩ rfl rfl hl.1 rfl (lv_room (Nat.le_of_ble_eq_true rfl)) dX5_minute_98 ⟨Nat.zero_le _, Nat.zero_le _⟩) (fun H locs hH => ?_)
          obtain ⟨v6, e15, h⟩ := mm_bnd h
          refine lv_iinc (v := v6) (lv' := [(2, .int v6), (0, .ref (b + 157)), (1, .int a1), (3, .int i3)]) hx hb dX5_minute_101 hl (k := 2) rfl (Option.some.inj e15) (by decide) rfl (fun ls hl => ?_)
          obtain ⟨v7, e16, h⟩ := mm_bnd h
          refine lv_iinc (v := v7) (lv' := [(3, .int v7), (2, .int v6), (0, .ref (b + 157)), (1, .int a1)]) hx hb dX5_minute_104 hl (k := 3) rfl (Option.some.inj e16) (by decide) rfl (fun ls hl => ?_)
          refine lv_goto (tgt := 20) hx hb dX5_minute_107 (by decide) ?_
          exact ih v6 v7 x10 _ _ _ _ _ h hH (lv_sub hl [2, 3, 1, 0] rfl) kk
set_option maxRecDepth 100000 in
set_option maxHeartbeats 4000000 in
theorem ct_X5_minute (l : Launch) (G : va_G) (T : Nat → ClassId) (b : Nat) (z : Nat → Nat)  (x : mm_M) {x1 : mm_M} {r : Int32} (h : fn_X5_minute  x = some (x1, r)) : mm_Ci l yX5_minute wsX5_minute rm_X5_minute G T b z [.ref (b + 157)] x r x1 := by
  unfold fn_X5_minute at h
  refine mm_start (cc := cX5_minute) (maxL := 5) (ret := (some .int)) (by decide) rfl (Nat.le_of_ble_eq_true rfl) (fun p e s m below meth c ls C hr hlk hH hl => ?_)
  have hl : lv_has ls 5 [(0, .ref (b + 157))] := hl
  have hx := C.1
  have hb := C.2.1
  have w1 := C.2.2.2.2.1 (.fieldLink RX5 7 "LandingFinesModel" "row" "[I") (by decide +kernel)
  have hin5 : ∀ w ∈ wsX50, w ∈ wsX5_minute := by decide +kernel
  refine lv_aload_n hx hb dX5_minute_0 rfl (lv_at hl 0 rfl) ?_
  obtain ⟨v1, e1, h⟩ := mm_bnd h
  refine mm_goi hH (va_runV (As := []) (rest := []) ⟨hx, hb, C.2.2.1, C.2.2.2.1, C.2.2.2.2.1⟩ (ct_X5_taken l G T b z x e1) (cwV 0 C.2.2.2.2.1 gX5_minute_X5_taken rfl rfl rfl df_X5_taken ⟨Nat.le_of_ble_eq_true rfl, Nat.le_of_ble_eq_true rfl⟩) ⟨mm_B.blind, mm_recv (q := (RX5, TX5, 14)) C hH kl_157 (mm_e5 kd_157) rfl, mm_pre C hH⟩ rfl rfl hl.1 rfl (lv_room (Nat.le_of_ble_eq_true rfl)) dX5_minute_1 ⟨Nat.zero_le _, Nat.zero_le _⟩) (fun H locs hH => ?_)
  refine lv_istore_n (lv' := [(1, .int v1), (0, .ref (b + 157))]) hx hb dX5_minute_4 rfl hl (by decide) rfl (fun ls hl => ?_)
  refine lv_iconst (v := 0) hx hb dX5_minute_5 (by decide) ?_
  refine lv_istore_n (lv' := [(2, .int 0), (1, .int v1), (0, .ref (b + 157))]) hx hb dX5_minute_6 rfl hl (by decide) rfl (fun ls hl => ?_)
  refine lv_aload_n hx hb dX5_minute_7 rfl (lv_at hl 2 rfl) ?_
  refine mm_get (v := .ref (b + 158)) C hH hin5 rfl kl_157 (mm_e5 kd_157) (j := 0) (by decide) rfl w1 rfl dX5_minute_8 ?_
  refine lv_bipush (v := 7) hx hb dX5_minute_11 (by decide) ?_
  refine lv_dup2_11 hx hb dX5_minute_13 rfl rfl ?_
  refine mm_iald (n := 135) (jn := 7) C hH kd_158 ln_158 (by decide) (by decide) dX5_minute_14 ?_
  refine lv_iconst (v := 1) hx hb dX5_minute_15 (by decide) ?_
  refine lv_iadd hx hb dX5_minute_16 ?_
  obtain ⟨x1, e2, h⟩ := mm_bnd h
  refine mm_iast (n := 135) (jn := 7) C hH kd_158 ln_158 (by decide) (by decide) (Option.some.inj e2) dX5_minute_17 (fun H locs hH => ?_)
  refine lv_iconst (v := 0) hx hb dX5_minute_18 (by decide) ?_
  refine lv_istore_n (lv' := [(3, .int 0), (2, .int 0), (1, .int v1), (0, .ref (b + 157))]) hx hb dX5_minute_19 rfl hl (by decide) rfl (fun ls hl => ?_)
  obtain ⟨x2, v2, e3, h⟩ := mm_bnd2 h
  refine lp_X5_minute_20 C v1 9 0 0 x1 _ _ _ _ _ e3 hH (lv_sub hl [3, 2, 1, 0] rfl) (fun H locs ls hH hl => ?_)
  refine lv_aload_n hx hb dX5_minute_110 rfl (lv_at hl 0 rfl) ?_
  refine mm_get (v := .ref (b + 158)) C hH hin5 rfl kl_157 (mm_e5 kd_157) (j := 0) (by decide) rfl w1 rfl dX5_minute_111 ?_
  refine lv_bipush (v := 9) hx hb dX5_minute_114 (by decide) ?_
  refine lv_dup2_11 hx hb dX5_minute_116 rfl rfl ?_
  refine mm_iald (n := 135) (jn := 9) C hH kd_158 ln_158 (by decide) (by decide) dX5_minute_117 ?_
  refine lv_aload_n hx hb dX5_minute_118 rfl (lv_at hl 0 rfl) ?_
  obtain ⟨v3, e4, h⟩ := mm_bnd h
  refine mm_goi hH (va_runV (As := []) (rest := [.int (x2 158 9), .int 9, .ref (b + 158)]) ⟨hx, hb, C.2.2.1, C.2.2.2.1, C.2.2.2.2.1⟩ (ct_X5_taken l G T b z x2 e4) (cwV 0 C.2.2.2.2.1 gX5_minute_X5_taken rfl rfl rfl df_X5_taken ⟨Nat.le_of_ble_eq_true rfl, Nat.le_of_ble_eq_true rfl⟩) ⟨mm_B.blind, mm_recv (q := (RX5, TX5, 14)) C hH kl_157 (mm_e5 kd_157) rfl, mm_pre C hH⟩ rfl rfl hl.1 rfl (lv_room (Nat.le_of_ble_eq_true rfl)) dX5_minute_119 ⟨Nat.zero_le _, Nat.zero_le _⟩) (fun H locs hH => ?_)
  refine lv_iload_n hx hb dX5_minute_122 rfl (lv_at hl 1 rfl) ?_
  refine lv_icmp_eq (tgt := 130) hx hb dX5_minute_123 (by decide) (fun c1 => ?_) (fun c1 => ?_)
  · have h := mm_pos c1 h
    have hl := lv_sub (l' := [(2, .int v2)]) hl [2] rfl
    refine lv_iconst (v := 0) hx hb dX5_minute_130 (by decide) ?_
    refine lv_iadd hx hb dX5_minute_131 ?_
    obtain ⟨x3, e5, h⟩ := mm_bnd h
    refine mm_iast (n := 135) (jn := 9) C hH kd_158 ln_158 (by decide) (by decide) (Option.some.inj e5) dX5_minute_132 (fun H locs hH => ?_)
    refine lv_iload_n hx hb dX5_minute_133 rfl (lv_at hl 0 rfl) ?_
    exact mm_iret C hH hr hlk rfl h dX5_minute_134
  · have h := mm_neg c1 h
    have hl := lv_sub (l' := [(2, .int v2)]) hl [2] rfl
    refine lv_iconst (v := 1) hx hb dX5_minute_126 (by decide) ?_
    refine lv_goto (tgt := 131) hx hb dX5_minute_127 (by decide) ?_
    refine lv_iadd hx hb dX5_minute_131 ?_
    obtain ⟨x4, e6, h⟩ := mm_bnd h
    refine mm_iast (n := 135) (jn := 9) C hH kd_158 ln_158 (by decide) (by decide) (Option.some.inj e6) dX5_minute_132 (fun H locs hH => ?_)
    refine lv_iload_n hx hb dX5_minute_133 rfl (lv_at hl 0 rfl) ?_
    exact mm_iret C hH hr hlk rfl h dX5_minute_134
def fn_X5_comes_40 : Nat → Int32 → Int32 → Int32 → Int32 → mm_M → Option mm_M
  | 0, _, _, _, _, _ => none
  | n + 1, a1, a2, a3, i4, x => if (8 : Int32) ≤ i4 then some (x) else if i4 = 0 then (fn_X5_lay a2 i4 1 x).bind fun x3 => (some (i4 + 1)).bind fun v3 => fn_X5_comes_40 n a1 a2 a3 v3 x3 else if i4 = 1 then (fn_X5_lay a2 i4 a1 x).bind fun x2 => (some (i4 + 1)).bind fun v2 => fn_X5_comes_40 n a1 a2 a3 v2 x2 else (fn_X5_lay a2 i4 0 x).bind fun x1 => (some (i4 + 1)).bind fun v1 => fn_X5_comes_40 n a1 a2 a3 v1 x1
def fn_X5_comes (a1 : Int32) (x : mm_M) : Option (mm_M × Int32) :=
  (fn_X5_in (Int32.toInt64 a1) 0 999 x).bind fun v1 => if v1 = 0 then some (x, (-2)) else (some ((x 158 8) : Int32)).bind fun v2 => if v2 = 8 then some (x, (-4)) else (fn_X5_taken x).bind fun v3 => (fn_X5_comes_40 9 a1 v2 v3 0 x).bind fun x1 => (some (mm_up x1 158 8 ((x1 158 8) + 1))).bind fun x2 => (fn_X5_taken x2).bind fun v4 => if v4 = v3 then (some (mm_up x2 158 9 ((x2 158 9) + 0))).bind fun x3 => some (x3, v2) else (some (mm_up x2 158 9 ((x2 158 9) + 1))).bind fun x4 => some (x4, v2)
abbrev rm_X5_comes : Room := { frames := 2, cells := 0, slots := 0, locals := 45 }
theorem df_X5_comes : yX5_comes.cls = RX5 ∧ yX5_comes.cls ≠ "java/lang/invoke/MethodHandle" ∧ yX5_comes.cls ≠ "java/lang/invoke/VarHandle" ∧ (parseMethodDescriptor yX5_comes.desc).map (fun d => d.parameters.length) = some 1 := by decide +kernel
set_option maxRecDepth 100000 in
set_option maxHeartbeats 4000000 in
theorem lp_X5_comes_40 {p : Program} {l : Launch} {e : Env} {s : State} {m : MethodId} {args : Array Value} {below : List Frame} {meth : Method} {c : Code} {Q : State → Prop} {G : va_G} {T : Nat → ClassId} {b : Nat} {z : Nat → Nat} (C : mm_C p m c cX5_comes 5 s args wsX5_comes RX5 G T b z) (a1 : Int32) (a2 : Int32) (a3 : Int32) : ∀ (n : Nat) (i4 : Int32) (x : mm_M) (H : Heap) (locs : List Loc) (ls : Array Slot) (x1 : mm_M), fn_X5_comes_40 n a1 a2 a3 i4 x = some (x1) → mm_H G T b x s H locs → lv_has ls 5 [(0, .ref (b + 157)), (1, .int a1), (2, .int a2), (3, .int a3), (4, .int i4)] → (∀ (H1 : Heap) (locs1 : List Loc) (ls1 : Array Slot), mm_H G T b x1 s H1 locs1 → lv_has ls1 5 [(0, .ref (b + 157)), (2, .int a2), (3, .int a3)] → W p l e rm_X5_comes s m args below meth c H1 locs1 0 0 Q (F0 m 80 ls1 [])) → W p l e rm_X5_comes s m args below meth c H locs 0 0 Q (F0 m 40 ls []) := by
  have hx := C.1
  have hb := C.2.1
  intro n
  induction n with
  | zero => intro _ _ _ _ _ _ h; cases (show (none : Option mm_M) = some _ from h)
  | succ n ih =>
    intro i4 x H locs ls x1 h hH hl kk
    rw [fn_X5_comes_40] at h
    refine lv_iload hx hb dX5_comes_40 (lv_at hl 4 rfl) ?_
    refine lv_bipush (v := 8) hx hb dX5_comes_42 (by decide) ?_
    refine lv_icmp_ge (tgt := 80) hx hb dX5_comes_44 (by decide) (fun c1 => ?_) (fun c1 => ?_)
    · have h := mm_pos c1 h
      have hl := lv_sub (l' := [(0, .ref (b + 157)), (2, .int a2), (3, .int a3)]) hl [0, 2, 3] rfl
      cases h
      exact kk _ _ _ hH (lv_sub hl [0, 1, 2] rfl)
    · have h := mm_neg c1 h
      refine lv_aload_n hx hb dX5_comes_47 rfl (lv_at hl 0 rfl) ?_
      refine lv_iload_n hx hb dX5_comes_48 rfl (lv_at hl 2 rfl) ?_
      refine lv_iload hx hb dX5_comes_49 (lv_at hl 4 rfl) ?_
      refine lv_iload hx hb dX5_comes_51 (lv_at hl 4 rfl) ?_
      refine lv_if_ne (tgt := 60) hx hb dX5_comes_53 (by decide) (fun c2 => ?_) (fun c2 => ?_)
      · have h := mm_neg c2 h
        refine lv_iload hx hb dX5_comes_60 (lv_at hl 4 rfl) ?_
        refine lv_iconst (v := 1) hx hb dX5_comes_62 (by decide) ?_
        refine lv_icmp_ne (tgt := 70) hx hb dX5_comes_63 (by decide) (fun c3 => ?_) (fun c3 => ?_)
        · have h := mm_neg c3 h
          refine lv_iconst (v := 0) hx hb dX5_comes_70 (by decide) ?_
          obtain ⟨x1, e1, h⟩ := mm_bnd h
          refine mm_gov hH (va_runV (As := [.int a2, .int i4, .int 0]) (rest := []) ⟨hx, hb, C.2.2.1, C.2.2.2.1, C.2.2.2.2.1⟩ (ct_X5_lay l G T b z a2 i4 0 x e1) (cwV 3 C.2.2.2.2.1 gX5_comes_X5_lay rfl rfl rfl df_X5_lay ⟨Nat.le_of_ble_eq_true rfl, Nat.le_of_ble_eq_true rfl⟩) ⟨mm_B.blind, mm_recv (q := (RX5, TX5, 14)) C hH kl_157 (mm_e5 kd_157) rfl, mm_pre C hH⟩ rfl rfl hl.1 rfl (lv_room (Nat.le_of_ble_eq_true rfl)) dX5_comes_71 ⟨Nat.zero_le _, Nat.zero_le _⟩) (fun H locs hH => ?_)
          obtain ⟨v1, e2, h⟩ := mm_bnd h
          refine lv_iinc (v := v1) (lv' := [(4, .int v1), (0, .ref (b + 157)), (1, .int a1), (2, .int a2), (3, .int a3)]) hx hb dX5_comes_74 hl (k := 4) rfl (Option.some.inj e2) (by decide) rfl (fun ls hl => ?_)
          refine lv_goto (tgt := 40) hx hb dX5_comes_77 (by decide) ?_
          exact ih v1 x1 _ _ _ _ h hH (lv_sub hl [1, 2, 3, 4, 0] rfl) kk
        · have h := mm_pos c3 h
          refine lv_iload_n hx hb dX5_comes_66 rfl (lv_at hl 1 rfl) ?_
          refine lv_goto (tgt := 71) hx hb dX5_comes_67 (by decide) ?_
          obtain ⟨x2, e3, h⟩ := mm_bnd h
          refine mm_gov hH (va_runV (As := [.int a2, .int i4, .int a1]) (rest := []) ⟨hx, hb, C.2.2.1, C.2.2.2.1, C.2.2.2.2.1⟩ (ct_X5_lay l G T b z a2 i4 a1 x e3) (cwV 3 C.2.2.2.2.1 gX5_comes_X5_lay rfl rfl rfl df_X5_lay ⟨Nat.le_of_ble_eq_true rfl, Nat.le_of_ble_eq_true rfl⟩) ⟨mm_B.blind, mm_recv (q := (RX5, TX5, 14)) C hH kl_157 (mm_e5 kd_157) rfl, mm_pre C hH⟩ rfl rfl hl.1 rfl (lv_room (Nat.le_of_ble_eq_true rfl)) dX5_comes_71 ⟨Nat.zero_le _, Nat.zero_le _⟩) (fun H locs hH => ?_)
          obtain ⟨v2, e4, h⟩ := mm_bnd h
          refine lv_iinc (v := v2) (lv' := [(4, .int v2), (0, .ref (b + 157)), (1, .int a1), (2, .int a2), (3, .int a3)]) hx hb dX5_comes_74 hl (k := 4) rfl (Option.some.inj e4) (by decide) rfl (fun ls hl => ?_)
          refine lv_goto (tgt := 40) hx hb dX5_comes_77 (by decide) ?_
          exact ih v2 x2 _ _ _ _ h hH (lv_sub hl [1, 2, 3, 4, 0] rfl) kk
      · have h := mm_pos c2 h
        refine lv_iconst (v := 1) hx hb dX5_comes_56 (by decide) ?_
        refine lv_goto (tgt := 71) hx hb dX5_comes_57 (by decide) ?_
        obtain ⟨x3, e5, h⟩ := mm_bnd h
        refine mm_gov hH (va_runV (As := [.int a2, .int i4, .int 1]) (rest := []) ⟨hx, hb, C.2.2.1, C.2.2.2.1, C.2.2.2.2.1⟩ (ct_X5_lay l G T b z a2 i4 1 x e5) (cwV 3 C.2.2.2.2.1 gX5_comes_X5_lay rfl rfl rfl df_X5_lay ⟨Nat.le_of_ble_eq_true rfl, Nat.le_of_ble_eq_true rfl⟩) ⟨mm_B.blind, mm_recv (q := (RX5, TX5, 14)) C hH kl_157 (mm_e5 kd_157) rfl, mm_pre C hH⟩ rfl rfl hl.1 rfl (lv_room (Nat.le_of_ble_eq_true rfl)) dX5_comes_71 ⟨Nat.zero_le _, Nat.zero_le _⟩) (fun H locs hH => ?_)
        obtain ⟨v3, e6, h⟩ := mm_bnd h
        refine lv_iinc (v := v3) (lv' := [(4, .int v3), (0, .ref (b + 157)), (1, .int a1), (2, .int a2), (3, .int a3)]) hx hb dX5_comes_74 hl (k := 4) rfl (Option.some.inj e6) (by decide) rfl (fun ls hl => ?_)
        refine lv_goto (tgt := 40) hx hb dX5_comes_77 (by decide) ?_
        exact ih v3 x3 _ _ _ _ h hH (lv_sub hl [1, 2, 3, 4, 0] rfl) kk
set_option maxRecDepth 100000 in
set_option maxHeartbeats 4000000 in
theorem ct_X5_comes (l : Launch) (G : va_G) (T : Nat → ClassId) (b : Nat) (z : Nat → Nat) (a1 : Int32) (x : mm_M) {x1 : mm_M} {r : Int32} (h : fn_X5_comes a1 x = some (x1, r)) : mm_Ci l yX5_comes wsX5_comes rm_X5_comes G T b z [.ref (b + 157), .int a1] x r x1 := by
  unfold fn_X5_comes at h
  refine mm_start (cc := cX5_comes) (maxL := 5) (ret := (some .int)) (by decide) rfl (Nat.le_of_ble_eq_true rfl) (fun p e s m below meth c ls C hr hlk hH hl => ?_)
  have hl : lv_has ls 5 [(0, .ref (b + 157)), (1, .int a1)] := hl
  have hx := C.1
  have hb := C.2.1
  have w1 := C.2.2.2.2.1 (.fieldLink RX5 7 "LandingFinesModel" "row" "[I") (by decide +kernel)
  have hin5 : ∀ w ∈ wsX50, w ∈ wsX5_comes := by decide +kernel
  refine lv_iload_n hx hb dX5_comes_0 rfl (lv_at hl 1 rfl) ?_
  refine lv_i2l (v := (Int32.toInt64 a1)) hx hb dX5_comes_1 rfl ?_
  refine lv_iconst (v := 0) hx hb dX5_comes_2 (by decide) ?_
  refine lv_sipush (v := 999) hx hb dX5_comes_3 (by decide) ?_
  obtain ⟨v1, e1, h⟩ := mm_bnd h
  refine mm_goi hH (va_runS (As := [.long (Int32.toInt64 a1), .int 0, .int 999]) (rest := []) ⟨hx, hb, C.2.2.1, C.2.2.2.1, C.2.2.2.2.1⟩ (ct_X5_in l G T b z (Int32.toInt64 a1) 0 999 x e1) (va_cwS 3 C.2.2.2.2.1 gX5_comes_X5_in rfl rfl rfl df_X5_in.2 ⟨Nat.le_of_ble_eq_true rfl, Nat.le_of_ble_eq_true rfl⟩) ⟨mm_B.blind, mm_pre C hH⟩ rfl rfl hl.1 rfl (lv_room (Nat.le_of_ble_eq_true rfl)) dX5_comes_6 ⟨Nat.zero_le _, Nat.zero_le _⟩) (fun H locs hH => ?_)
  refine lv_if_ne (tgt := 15) hx hb dX5_comes_9 (by decide) (fun c1 => ?_) (fun c1 => ?_)
  · have h := mm_neg c1 h
    refine lv_aload_n hx hb dX5_comes_15 rfl (lv_at hl 0 rfl) ?_
    refine mm_get (v := .ref (b + 158)) C hH hin5 rfl kl_157 (mm_e5 kd_157) (j := 0) (by decide) rfl w1 rfl dX5_comes_16 ?_
    refine lv_bipush (v := 8) hx hb dX5_comes_19 (by decide) ?_
    refine mm_iald (n := 135) (jn := 8) C hH kd_158 ln_158 (by decide) (by decide) dX5_comes_21 ?_
    obtain ⟨v2, e2, h⟩ := mm_bnd h
    refine mm_nmi e2 ?_
    refine lv_istore_n (lv' := [(2, .int v2), (0, .ref (b + 157)), (1, .int a1)]) hx hb dX5_comes_22 rfl hl (by decide) rfl (fun ls hl => ?_)
    refine lv_iload_n hx hb dX5_comes_23 rfl (lv_at hl 0 rfl) ?_
    refine lv_bipush (v := 8) hx hb dX5_comes_24 (by decide) ?_
    refine lv_icmp_ne (tgt := 32) hx hb dX5_comes_26 (by decide) (fun c2 => ?_) (fun c2 => ?_)
    · have h := mm_neg c2 h
      refine lv_aload_n hx hb dX5_comes_32 rfl (lv_at hl 1 rfl) ?_
      obtain ⟨v3, e3, h⟩ := mm_bnd h
      refine mm_goi hH (va_runV (As := []) (rest := []) ⟨hx, hb, C.2.2.1, C.2.2.2.1, C.2.2.2.2.1⟩ (ct_X5_taken l G T b z x e3) (cwV 0 C.2.2.2.2.1 gX5_comes_X5_taken rfl rfl rfl df_X5_taken ⟨Nat.le_of_ble_eq_true rfl, Nat.le_of_ble_eq_true rfl⟩) ⟨mm_B.blind, mm_recv (q := (RX5, TX5, 14)) C hH kl_157 (mm_e5 kd_157) rfl, mm_pre C hH⟩ rfl rfl hl.1 rfl (lv_room (Nat.le_of_ble_eq_true rfl)) dX5_comes_33 ⟨Nat.zero_le _, Nat.zero_le _⟩) (fun H locs hH => ?_)
      refine lv_istore_n (lv' := [(3, .int v3), (2, .int v2), (0, .ref (b + 157)), (1, .int a1)]) hx hb dX5_comes_36 rfl hl (by decide) rfl (fun ls hl => ?_)
      refine lv_iconst (v := 0) hx hb dX5_comes_37 (by decide) ?_
      refine lv_istore (lv' := [(4, .int 0), (3, .int v3), (2, .int v2), (0, .ref (b + 157)), (1, .int a1)]) hx hb dX5_comes_38 hl (by decide) rfl (fun ls hl => ?_)
      obtain ⟨x1, e4, h⟩ := mm_bnd h
      refine lp_X5_comes_40 C a1 v2 v3 9 0 x _ _ _ _ e4 hH (lv_sub hl [3, 4, 2, 1, 0] rfl) (fun H locs ls hH hl => ?_)
      refine lv_aload_n hx hb dX5_comes_80 rfl (lv_at hl 0 rfl) ?_
      refine mm_get (v := .ref (b + 158)) C hH hin5 rfl kl_157 (mm_e5 kd_157) (j := 0) (by decide) rfl w1 rfl dX5_comes_81 ?_
      refine lv_bipush (v := 8) hx hb dX5_comes_84 (by decide) ?_
      refine lv_dup2_11 hx hb dX5_comes_86 rfl rfl ?_
      refine mm_iald (n := 135) (jn := 8) C hH kd_158 ln_158 (by decide) (by decide) dX5_comes_87 ?_
      refine lv_iconst (v := 1) hx hb dX5_comes_88 (by decide) ?_
      refine lv_iadd hx hb dX5_comes_89 ?_
      obtain ⟨x2, e5, h⟩ := mm_bnd h
      refine mm_iast (n := 135) (jn := 8) C hH kd_158 ln_158 (by decide) (by decide) (Option.some.inj e5) dX5_comes_90 (fun H locs hH => ?_)
      refine lv_aload_n hx hb dX5_comes_91 rfl (lv_at hl 0 rfl) ?_
      refine mm_get (v := .ref (b + 158)) C hH hin5 rfl kl_157 (mm_e5 kd_157) (j := 0) (by decide) rfl w1 rfl dX5_comes_92 ?_
      refine lv_bipush (v := 9) hx hb dX5_comes_95 (by decide) ?_
      refine lv_dup2_11 hx hb dX5_comes_97 rfl rfl ?_
      refine mm_iald (n := 135) (jn := 9) C hH kd_158 ln_158 (by decide) (by decide) dX5_comes_98 ?_
      refine lv_aload_n hx hb dX5_comes_99 rfl (lv_at hl 0 rfl) ?_
      obtain ⟨v4, e6, h⟩ := mm_bnd h
      refine mm_goi hH (va_runV (As := []) (rest := [.int (x2 158 9), .int 9, .ref (b + 158)]) ⟨hx, hb, C.2.2.1, C.2.2.2.1, C.2.2.2.2.1⟩ (ct_X5_taken l G T b z x2 e6) (cwV 0 C.2.2.2.2.1 gX5_comes_X5_taken rfl rfl rfl df_X5_taken ⟨Nat.le_of_ble_eq_true rfl, Nat.le_of_ble_eq_true rfl⟩) ⟨mm_B.blind, mm_recv (q := (RX5, TX5, 14)) C hH kl_157 (mm_e5 kd_157) rfl, mm_pre C hH⟩ rfl rfl hl.1 rfl (lv_room (Nat.le_of_ble_eq_true rfl)) dX5_comes_100 ⟨Nat.zero_le _, Nat.zero_le _⟩) (fun H locs hH => ?_)
      refine lv_iload_n hx hb dX5_comes_103 rfl (lv_at hl 2 rfl) ?_
      refine lv_icmp_eq (tgt := 111) hx hb dX5_comes_104 (by decide) (fun c3 => ?_) (fun c3 => ?_)
      · have h := mm_pos c3 h
        have hl := lv_sub (l' := [(2, .int v2)]) hl [1] rfl
        refine lv_iconst (v := 0) hx hb dX5_comes_111 (by decide) ?_
        refine lv_iadd hx hb dX5_comes_112 ?_
        obtain ⟨x3, e7, h⟩ := mm_bnd h
        refine mm_iast (n := 135) (jn := 9) C hH kd_158 ln_158 (by decide) (by decide) (Option.some.inj e7) dX5_comes_113 (fun H locs hH => ?_)
        refine lv_iload_n hx hb dX5_comes_114 rfl (lv_at hl 0 rfl) ?_
        exact mm_iret C hH hr hlk rfl h dX5_comes_115
      · have h := mm_neg c3 h
        have hl := lv_sub (l' := [(2, .int v2)]) hl [1] rfl
        refine lv_iconst (v := 1) hx hb dX5_comes_107 (by decide) ?_
        refine lv_goto (tgt := 112) hx hb dX5_comes_108 (by decide) ?_
        refine lv_iadd hx hb dX5_comes_112 ?_
        obtain ⟨x4, e8, h⟩ := mm_bnd h
        refine mm_iast (n := 135) (jn := 9) C hH kd_158 ln_158 (by decide) (by decide) (Option.some.inj e8) dX5_comes_113 (fun H locs hH => ?_)
        refine lv_iload_n hx hb dX5_comes_114 rfl (lv_at hl 0 rfl) ?_
        exact mm_iret C hH hr hlk rfl h dX5_comes_115
    · have h := mm_pos c2 h
      have hl := lv_sub (l' := []) hl [] rfl
      refine lv_bipush (v := (-4)) hx hb dX5_comes_29 (by decide) ?_
      exact mm_iret C hH hr hlk rfl h dX5_comes_31
  · have h := mm_pos c1 h
    have hl := lv_sub (l' := []) hl [] rfl
    refine lv_bipush (v := (-2)) hx hb dX5_comes_12 (by decide) ?_
    exact mm_iret C hH hr hlk rfl h dX5_comes_14
def fn_X5_turns (a1 : Int32) (a2 : Int32) (x : mm_M) : Option (mm_M × Int32) :=
  (fn_X5_isLanding a1 x).bind fun v1 => if v1 = 0 then some (x, (-1)) else (fn_X5_its a1 0 x).bind fun v2 => if v2 = a2 then some (x, (-5)) else if a2 = 1 then mm_b2 (fn_X5_change a1 0 a2 1 x) fun x2 v4 => some (x2, v4) else mm_b2 (fn_X5_change a1 0 a2 0 x) fun x1 v3 => some (x1, v3)
abbrev rm_X5_turns : Room := { frames := 3, cells := 0, slots := 0, locals := 70 }
theorem df_X5_turns : yX5_turns.cls = RX5 ∧ yX5_turns.cls ≠ "java/lang/invoke/MethodHandle" ∧ yX5_turns.cls ≠ "java/lang/invoke/VarHandle" ∧ (parseMethodDescriptor yX5_turns.desc).map (fun d => d.parameters.length) = some 2 := by decide +kernel
set_option maxRecDepth 100000 in
set_option maxHeartbeats 4000000 in
theorem ct_X5_turns (l : Launch) (G : va_G) (T : Nat → ClassId) (b : Nat) (z : Nat → Nat) (a1 : Int32) (a2 : Int32) (x : mm_M) {x1 : mm_M} {r : Int32} (h : fn_X5_turns a1 a2 x = some (x1, r)) : mm_Ci l yX5_turns wsX5_turns rm_X5_turns G T b z [.ref (b + 157), .int a1, .int a2] x r x1 := by
  unfold fn_X5_turns at h
  refine mm_start (cc := cX5_turns) (maxL := 3) (ret := (some .int)) (by decide) rfl (Nat.le_of_ble_eq_true rfl) (fun p e s m below meth c ls C hr hlk hH hl => ?_)
  have hl : lv_has ls 3 [(0, .ref (b + 157)), (1, .int a1), (2, .int a2)] := hl
  have hx := C.1
  have hb := C.2.1
  refine lv_aload_n hx hb dX5_turns_0 rfl (lv_at hl 0 rfl) ?_
  refine lv_iload_n hx hb dX5_turns_1 rfl (lv_at hl 1 rfl) ?_
  obtain ⟨v1, e1, h⟩ := mm_bnd h
  refine mm_goi hH (va_runV (As := [.int a1]) (rest := []) ⟨hx, hb, C.2.2.1, C.2.2.2.1, C.2.2.2.2.1⟩ (ct_X5_isLanding l G T b z a1 x e1) (cwV 1 C.2.2.2.2.1 gX5_turns_X5_isLanding rfl rfl rfl df_X5_isLanding ⟨Nat.le_of_ble_eq_true rfl, Nat.le_of_ble_eq_true rfl⟩) ⟨mm_B.blind, mm_recv (q := (RX5, TX5, 14)) C hH kl_157 (mm_e5 kd_157) rfl, mm_pre C hH⟩ rfl rfl hl.1 rfl (lv_room (Nat.le_of_ble_eq_true rfl)) dX5_turns_2 ⟨Nat.zero_le _, Nat.zero_le _⟩) (fun H locs hH => ?_)
  refine lv_if_ne (tgt := 10) hx hb dX5_turns_5 (by decide) (fun c1 => ?_) (fun c1 => ?_)
  · have h := mm_neg c1 h
    refine lv_aload_n hx hb dX5_turns_10 rfl (lv_at hl 0 rfl) ?_
    refine lv_iload_n hx hb dX5_turns_11 rfl (lv_at hl 1 rfl) ?_
    refine lv_iconst (v := 0) hx hb dX5_turns_12 (by decide) ?_
    obtain ⟨v2, e2, h⟩ := mm_bnd h
    refine mm_goi hH (va_runV (As := [.int a1, .int 0]) (rest := []) ⟨hx, hb, C.2.2.1, C.2.2.2.1, C.2.2.2.2.1⟩ (ct_X5_its l G T b z a1 0 x e2) (cwV 2 C.2.2.2.2.1 gX5_turns_X5_its rfl rfl rfl df_X5_its ⟨Nat.le_of_ble_eq_true rfl, Nat.le_of_ble_eq_true rfl⟩) ⟨mm_B.blind, mm_recv (q := (RX5, TX5, 14)) C hH kl_157 (mm_e5 kd_157) rfl, mm_pre C hH⟩ rfl rfl hl.1 rfl (lv_room (Nat.le_of_ble_eq_true rfl)) dX5_turns_13 ⟨Nat.zero_le _, Nat.zero_le _⟩) (fun H locs hH => ?_)
    refine lv_iload_n hx hb dX5_turns_16 rfl (lv_at hl 2 rfl) ?_
    refine lv_icmp_ne (tgt := 25) hx hb dX5_turns_17 (by decide) (fun c2 => ?_) (fun c2 => ?_)
    · have h := mm_neg c2 h
      refine lv_aload_n hx hb dX5_turns_25 rfl (lv_at hl 0 rfl) ?_
      refine lv_iload_n hx hb dX5_turns_26 rfl (lv_at hl 1 rfl) ?_
      refine lv_iconst (v := 0) hx hb dX5_turns_27 (by decide) ?_
      refine lv_iload_n hx hb dX5_turns_28 rfl (lv_at hl 2 rfl) ?_
      refine lv_iload_n hx hb dX5_turns_29 rfl (lv_at hl 2 rfl) ?_
      refine lv_iconst (v := 1) hx hb dX5_turns_30 (by decide) ?_
      refine lv_icmp_ne (tgt := 38) hx hb dX5_turns_31 (by decide) (fun c3 => ?_) (fun c3 => ?_)
      · have h := mm_neg c3 h
        have hl := lv_sub (l' := []) hl [] rfl
        refine lv_iconst (v := 0) hx hb dX5_turns_38 (by decide) ?_
        obtain ⟨x1, v3, e3, h⟩ := mm_bnd2 h
        refine mm_goi hH (va_runV (As := [.int a1, .int 0, .int a2, .int 0]) (rest := []) ⟨hx, hb, C.2.2.1, C.2.2.2.1, C.2.2.2.2.1⟩ (ct_X5_change l G T b z a1 0 a2 0 x e3) (cwV 4 C.2.2.2.2.1 gX5_turns_X5_change rfl rfl rfl df_X5_change ⟨Nat.le_of_ble_eq_true rfl, Nat.le_of_ble_eq_true rfl⟩) ⟨mm_B.blind, mm_recv (q := (RX5, TX5, 14)) C hH kl_157 (mm_e5 kd_157) rfl, mm_pre C hH⟩ rfl rfl hl.1 rfl (lv_room (Nat.le_of_ble_eq_true rfl)) dX5_turns_39 ⟨Nat.zero_le _, Nat.zero_le _⟩) (fun H locs hH => ?_)
        exact mm_iret C hH hr hlk rfl h dX5_turns_42
      · have h := mm_pos c3 h
        have hl := lv_sub (l' := []) hl [] rfl
        refine lv_iconst (v := 1) hx hb dX5_turns_34 (by decide) ?_
        refine lv_goto (tgt := 39) hx hb dX5_turns_35 (by decide) ?_
        obtain ⟨x2, v4, e4, h⟩ := mm_bnd2 h
        refine mm_goi hH (va_runV (As := [.int a1, .int 0, .int a2, .int 1]) (rest := []) ⟨hx, hb, C.2.2.1, C.2.2.2.1, C.2.2.2.2.1⟩ (ct_X5_change l G T b z a1 0 a2 1 x e4) (cwV 4 C.2.2.2.2.1 gX5_turns_X5_change rfl rfl rfl df_X5_change ⟨Nat.le_of_ble_eq_true rfl, Nat.le_of_ble_eq_true rfl⟩) ⟨mm_B.blind, mm_recv (q := (RX5, TX5, 14)) C hH kl_157 (mm_e5 kd_157) rfl, mm_pre C hH⟩ rfl rfl hl.1 rfl (lv_room (Nat.le_of_ble_eq_true rfl)) dX5_turns_39 ⟨Nat.zero_le _, Nat.zero_le _⟩) (fun H locs hH => ?_)
        exact mm_iret C hH hr hlk rfl h dX5_turns_42
    · have h := mm_pos c2 h
      have hl := lv_sub (l' := []) hl [] rfl
      refine lv_bipush (v := (-5)) hx hb dX5_turns_20 (by decide) ?_
      refine lv_goto (tgt := 42) hx hb dX5_turns_22 (by decide) ?_
      exact mm_iret C hH hr hlk rfl h dX5_turns_42
  · have h := mm_pos c1 h
    have hl := lv_sub (l' := []) hl [] rfl
    refine lv_iconst (v := (-1)) hx hb dX5_turns_8 (by decide) ?_
    exact mm_iret C hH hr hlk rfl h dX5_turns_9
def fn_X5_costs (a1 : Int32) (a2 : Int32) (x : mm_M) : Option (mm_M × Int32) :=
  (fn_X5_isLanding a1 x).bind fun v1 => if v1 = 0 then some (x, (-1)) else (fn_X5_in (Int32.toInt64 a2) 0 999 x).bind fun v2 => if v2 = 0 then some (x, (-2)) else (fn_X5_its a1 1 x).bind fun v3 => if v3 = a2 then some (x, (-5)) else mm_b2 (fn_X5_change a1 1 a2 2 x) fun x1 v4 => some (x1, v4)
abbrev rm_X5_costs : Room := { frames := 3, cells := 0, slots := 0, locals := 70 }
theorem df_X5_costs : yX5_costs.cls = RX5 ∧ yX5_costs.cls ≠ "java/lang/invoke/MethodHandle" ∧ yX5_costs.cls ≠ "java/lang/invoke/VarHandle" ∧ (parseMethodDescriptor yX5_costs.desc).map (fun d => d.parameters.length) = some 2 := by decide +kernel
set_option maxRecDepth 100000 in
set_option maxHeartbeats 4000000 in
theorem ct_X5_costs (l : Launch) (G : va_G) (T : Nat → ClassId) (b : Nat) (z : Nat → Nat) (a1 : Int32) (a2 : Int32) (x : mm_M) {x1 : mm_M} {r : Int32} (h : fn_X5_costs a1 a2 x = some (x1, r)) : mm_Ci l yX5_costs wsX5_costs rm_X5_costs G T b z [.ref (b + 157), .int a1, .int a2] x r x1 := by
  unfold fn_X5_costs at h
  refine mm_start (cc := cX5_costs) (maxL := 3) (ret := (some .int)) (by decide) rfl (Nat.le_of_ble_eq_true rfl) (fun p e s m below meth c ls C hr hlk hH hl => ?_)
  have hl : lv_has ls 3 [(0, .ref (b + 157)), (1, .int a1), (2, .int a2)] := hl
  have hx := C.1
  have hb := C.2.1
  refine lv_aload_n hx hb dX5_costs_0 rfl (lv_at hl 0 rfl) ?_
  refine lv_iload_n hx hb dX5_costs_1 rfl (lv_at hl 1 rfl) ?_
  obtain ⟨v1, e1, h⟩ := mm_bnd h
  refine mm_goi hH (va_runV (As := [.int a1]) (rest := []) ⟨hx, hb, C.2.2.1, C.2.2.2.1, C.2.2.2.2.1⟩ (ct_X5_isLanding l G T b z a1 x e1) (cwV 1 C.2.2.2.2.1 gX5_costs_X5_isLanding rfl rfl rfl df_X5_isLanding ⟨Nat.le_of_ble_eq_true rfl, Nat.le_of_ble_eq_true rfl⟩) ⟨mm_B.blind, mm_recv (q := (RX5, TX5, 14)) C hH kl_157 (mm_e5 kd_157) rfl, mm_pre C hH⟩ rfl rfl hl.1 rfl (lv_room (Nat.le_of_ble_eq_true rfl)) dX5_costs_2 ⟨Nat.zero_le _, Nat.zero_le _⟩) (fun H locs hH => ?_)
  refine lv_if_ne (tgt := 10) hx hb dX5_costs_5 (by decide) (fun c1 => ?_) (fun c1 => ?_)
  · have h := mm_neg c1 h
    refine lv_iload_n hx hb dX5_costs_10 rfl (lv_at hl 2 rfl) ?_
    refine lv_i2l (v := (Int32.toInt64 a2)) hx hb dX5_costs_11 rfl ?_
    refine lv_iconst (v := 0) hx hb dX5_costs_12 (by decide) ?_
    refine lv_sipush (v := 999) hx hb dX5_costs_13 (by decide) ?_
    obtain ⟨v2, e2, h⟩ := mm_bnd h
    refine mm_goi hH (va_runS (As := [.long (Int32.toInt64 a2), .int 0, .int 999]) (rest := []) ⟨hx, hb, C.2.2.1, C.2.2.2.1, C.2.2.2.2.1⟩ (ct_X5_in l G T b z (Int32.toInt64 a2) 0 999 x e2) (va_cwS 3 C.2.2.2.2.1 gX5_costs_X5_in rfl rfl rfl df_X5_in.2 ⟨Nat.le_of_ble_eq_true rfl, Nat.le_of_ble_eq_true rfl⟩) ⟨mm_B.blind, mm_pre C hH⟩ rfl rfl hl.1 rfl (lv_room (Nat.le_of_ble_eq_true rfl)) dX5_costs_16 ⟨Nat.zero_le _, Nat.zero_le _⟩) (fun H locs hH => ?_)
    refine lv_if_ne (tgt := 25) hx hb dX5_costs_19 (by decide) (fun c2 => ?_) (fun c2 => ?_)
    · have h := mm_neg c2 h
      refine lv_aload_n hx hb dX5_costs_25 rfl (lv_at hl 0 rfl) ?_
      refine lv_iload_n hx hb dX5_costs_26 rfl (lv_at hl 1 rfl) ?_
      refine lv_iconst (v := 1) hx hb dX5_costs_27 (by decide) ?_
      obtain ⟨v3, e3, h⟩ := mm_bnd h
      refine mm_goi hH (va_runV (As := [.int a1, .int 1]) (rest := []) ⟨hx, hb, C.2.2.1, C.2.2.2.1, C.2.2.2.2.1⟩ (ct_X5_its l G T b z a1 1 x e3) (cwV 2 C.2.2.2.2.1 gX5_costs_X5_its rfl rfl rfl df_X5_its ⟨Nat.le_of_ble_eq_true rfl, Nat.le_of_ble_eq_true rfl⟩) ⟨mm_B.blind, mm_recv (q := (RX5, TX5, 14)) C hH kl_157 (mm_e5 kd_157) rfl, mm_pre C hH⟩ rfl rfl hl.1 rfl (lv_room (Nat.le_of_ble_eq_true rfl)) dX5_costs_28 ⟨Nat.zero_le _, Nat.zero_le _⟩) (fun H locs hH => ?_)
      refine lv_iload_n hx hb dX5_costs_31 rfl (lv_at hl 2 rfl) ?_
      refine lv_icmp_ne (tgt := 40) hx hb dX5_costs_32 (by decide) (fun c3 => ?_) (fun c3 => ?_)
      · have h := mm_neg c3 h
        refine lv_aload_n hx hb dX5_costs_40 rfl (lv_at hl 0 rfl) ?_
        refine lv_iload_n hx hb dX5_costs_41 rfl (lv_at hl 1 rfl) ?_
        refine lv_iconst (v := 1) hx hb dX5_costs_42 (by decide) ?_
        refine lv_iload_n hx hb dX5_costs_43 rfl (lv_at hl 2 rfl) ?_
        refine lv_iconst (v := 2) hx hb dX5_costs_44 (by decide) ?_
        obtain ⟨x1, v4, e4, h⟩ := mm_bnd2 h
        refine mm_goi hH (va_runV (As := [.int a1, .int 1, .int a2, .int 2]) (rest := []) ⟨hx, hb, C.2.2.1, C.2.2.2.1, C.2.2.2.2.1⟩ (ct_X5_change l G T b z a1 1 a2 2 x e4) (cwV 4 C.2.2.2.2.1 gX5_costs_X5_change rfl rfl rfl df_X5_change ⟨Nat.le_of_ble_eq_true rfl, Nat.le_of_ble_eq_true rfl⟩) ⟨mm_B.blind, mm_recv (q := (RX5, TX5, 14)) C hH kl_157 (mm_e5 kd_157) rfl, mm_pre C hH⟩ rfl rfl hl.1 rfl (lv_room (Nat.le_of_ble_eq_true rfl)) dX5_costs_45 ⟨Nat.zero_le _, Nat.zero_le _⟩) (fun H locs hH => ?_)
        exact mm_iret C hH hr hlk rfl h dX5_costs_48
      · have h := mm_pos c3 h
        have hl := lv_sub (l' := []) hl [] rfl
        refine lv_bipush (v := (-5)) hx hb dX5_costs_35 (by decide) ?_
        refine lv_goto (tgt := 48) hx hb dX5_costs_37 (by decide) ?_
        exact mm_iret C hH hr hlk rfl h dX5_costs_48
    · have h := mm_pos c2 h
      have hl := lv_sub (l' := []) hl [] rfl
      refine lv_bipush (v := (-2)) hx hb dX5_costs_22 (by decide) ?_
      exact mm_iret C hH hr hlk rfl h dX5_costs_24
  · have h := mm_pos c1 h
    have hl := lv_sub (l' := []) hl [] rfl
    refine lv_iconst (v := (-1)) hx hb dX5_costs_8 (by decide) ?_
    exact mm_iret C hH hr hlk rfl h dX5_costs_9
def fn_X5_waits_36 : Nat → Int32 → Int32 → Int32 → mm_M → Option (mm_M × Int32)
  | 0, _, _, _, _ => none
  | n + 1, a1, i2, i3, x => if a1 ≤ i3 then some (x, i2) else mm_b2 (fn_X5_minute x) fun x1 v1 => (some ((i2 + v1) : Int32)).bind fun v2 => (some (i3 + 1)).bind fun v3 => fn_X5_waits_36 n a1 v2 v3 x1
def fn_X5_waits (a1 : Int32) (x : mm_M) : Option (mm_M × Int32) :=
  (fn_X5_in (Int32.toInt64 a1) 1 999 x).bind fun v1 => if v1 = 0 then some (x, (-2)) else if ((x 158 7) + a1) ≤ 99999 then mm_b2 (fn_X5_waits_36 1000 a1 0 0 x) fun x1 v2 => some (x1, v2) else some (x, (-5))
abbrev rm_X5_waits : Room := { frames := 3, cells := 0, slots := 0, locals := 69 }
theorem df_X5_waits : yX5_waits.cls = RX5 ∧ yX5_waits.cls ≠ "java/lang/invoke/MethodHandle" ∧ yX5_waits.cls ≠ "java/lang/invoke/VarHandle" ∧ (parseMethodDescriptor yX5_waits.desc).map (fun d => d.parameters.length) = some 1 := by decide +kernel
set_option maxRecDepth 100000 in
set_option maxHeartbeats 4000000 in
theorem lp_X5_waits_36 {p : Program} {l : Launch} {e : Env} {s : State} {m : MethodId} {args : Array Value} {below : List Frame} {meth : Method} {c : Code} {Q : State → Prop} {G : va_G} {T : Nat → ClassId} {b : Nat} {z : Nat → Nat} (C : mm_C p m c cX5_waits 4 s args wsX5_waits RX5 G T b z) (a1 : Int32) : ∀ (n : Nat) (i2 : Int32) (i3 : Int32) (x : mm_M) (H : Heap) (locs : List Loc) (ls : Array Slot) (x1 : mm_M) (r2 : Int32), fn_X5_waits_36 n a1 i2 i3 x = some (x1, r2) → mm_H G T b x s H locs → lv_has ls 4 [(0, .ref (b + 157)), (1, .int a1), (2, .int i2), (3, .int i3)] → (∀ (H1 : Heap) (locs1 : List Loc) (ls1 : Array Slot), mm_H G T b x1 s H1 locs1 → lv_has ls1 4 [(2, .int r2)] → W p l e rm_X5_waits s m args below meth c H1 locs1 0 0 Q (F0 m 54 ls1 [])) → W p l e rm_X5_waits s m args below meth c H locs 0 0 Q (F0 m 36 ls []) := by
  have hx := C.1
  have hb := C.2.1
  intro n
  induction n with
  | zero => intro _ _ _ _ _ _ _ _ h; cases (show (none : Option (mm_M × Int32)) = some _ from h)
  | succ n ih =>
    intro i2 i3 x H locs ls x1 r2 h hH hl kk
    rw [fn_X5_waits_36] at h
    refine lv_iload_n hx hb dX5_waits_36 rfl (lv_at hl 3 rfl) ?_
    refine lv_iload_n hx hb dX5_waits_37 rfl (lv_at hl 1 rfl) ?_
    refine lv_icmp_ge (tgt := 54) hx hb dX5_waits_38 (by decide) (fun c1 => ?_) (fun c1 => ?_)
    · have h := mm_pos c1 h
      have hl := lv_sub (l' := [(2, .int i2)]) hl [2] rfl
      cases h
      exact kk _ _ _ hH (lv_sub hl [0] rfl)
    · have h := mm_neg c1 h
      refine lv_iload_n hx hb dX5_waits_41 rfl (lv_at hl 2 rfl) ?_
      refine lv_aload_n hx hb dX5_waits_42 rfl (lv_at hl 0 rfl) ?_
      obtain ⟨x1, v1, e1, h⟩ := mm_bnd2 h
      refine mm_goi hH (va_runV (As := []) (rest := [.int i2]) ⟨hx, hb, C.2.2.1, C.2.2.2.1, C.2.2.2.2.1⟩ (ct_X5_minute l G T b z x e1) (cwV 0 C.2.2.2.2.1 gX5_waits_X5_minute rfl rfl rfl df_X5_minute ⟨Nat.le_of_ble_eq_true rfl, Nat.le_of_ble_eq_true rfl⟩) ⟨mm_B.blind, mm_recv (q := (RX5, TX5, 14)) C hH kl_157 (mm_e5 kd_157) rfl, mm_pre C hH⟩ rfl rfl hl.1 rfl (lv_room (Nat.le_of_ble_eq_true rfl)) dX5_waits_43 ⟨Nat.zero_le _, Nat.zero_le _⟩) (fun H locs hH => ?_)
      refine lv_iadd hx hb dX5_waits_46 ?_
      obtain ⟨v2, e2, h⟩ := mm_bnd h
      refine mm_nmi e2 ?_
      refine lv_istore_n (lv' := [(2, .int v2), (0, .ref (b + 157)), (1, .int a1), (3, .int i3)]) hx hb dX5_waits_47 rfl hl (by decide) rfl (fun ls hl => ?_)
      obtain ⟨v3, e3, h⟩ := mm_bnd h
      refine lv_iinc (v := v3) (lv' := [(3, .int v3), (2, .int v2), (0, .ref (b + 157)), (1, .int a1)]) hx hb dX5_waits_48 hl (k := 3) rfl (Option.some.inj e3) (by decide) rfl (fun ls hl => ?_)
      refine lv_goto (tgt := 36) hx hb dX5_waits_51 (by decide) ?_
      exact ih v2 v3 x1 _ _ _ _ _ h hH (lv_sub hl [2, 3, 1, 0] rfl) kk
set_option maxRecDepth 100000 in
set_option maxHeartbeats 4000000 in
theorem ct_X5_waits (l : Launch) (G : va_G) (T : Nat → ClassId) (b : Nat) (z : Nat → Nat) (a1 : Int32) (x : mm_M) {x1 : mm_M} {r : Int32} (h : fn_X5_waits a1 x = some (x1, r)) : mm_Ci l yX5_waits wsX5_waits rm_X5_waits G T b z [.ref (b + 157), .int a1] x r x1 := by
  unfold fn_X5_waits at h
  refine mm_start (cc := cX5_waits) (maxL := 4) (ret := (some .int)) (by decide) rfl (Nat.le_of_ble_eq_true rfl) (fun p e s m below meth c ls C hr hlk hH hl => ?_)
  have hl : lv_has ls 4 [(0, .ref (b + 157)), (1, .int a1)] := hl
  have hx := C.1
  have hb := C.2.1
  have w1 := C.2.2.2.2.1 (.fieldLink RX5 7 "LandingFinesModel" "row" "[I") (by decide +kernel)
  have w2 := C.2.2.2.2.1 (.constant RX5 51 (99999)) (by decide +kernel)
  have hin5 : ∀ w ∈ wsX50, w ∈ wsX5_waits := by decide +kernel
  refine lv_iload_n hx hb dX5_waits_0 rfl (lv_at hl 1 rfl) ?_
  refine lv_i2l (v := (Int32.toInt64 a1)) hx hb dX5_waits_1 rfl ?_
  refine lv_iconst (v := 1) hx hb dX5_waits_2 (by decide) ?_
  refine lv_sipush (v := 999) hx hb dX5_waits_3 (by decide) ?_
  obtain ⟨v1, e1, h⟩ := mm_bnd h
  refine mm_goi hH (va_runS (As := [.long (Int32.toInt64 a1), .int 1, .int 999]) (rest := []) ⟨hx, hb, C.2.2.1, C.2.2.2.1, C.2.2.2.2.1⟩ (ct_X5_in l G T b z (Int32.toInt64 a1) 1 999 x e1) (va_cwS 3 C.2.2.2.2.1 gX5_waits_X5_in rfl rfl rfl df_X5_in.2 ⟨Nat.le_of_ble_eq_true rfl, Nat.le_of_ble_eq_true rfl⟩) ⟨mm_B.blind, mm_pre C hH⟩ rfl rfl hl.1 rfl (lv_room (Nat.le_of_ble_eq_true rfl)) dX5_waits_6 ⟨Nat.zero_le _, Nat.zero_le _⟩) (fun H locs hH => ?_)
  refine lv_if_ne (tgt := 15) hx hb dX5_waits_9 (by decide) (fun c1 => ?_) (fun c1 => ?_)
  · have h := mm_neg c1 h
    refine lv_aload_n hx hb dX5_waits_15 rfl (lv_at hl 0 rfl) ?_
    refine mm_get (v := .ref (b + 158)) C hH hin5 rfl kl_157 (mm_e5 kd_157) (j := 0) (by decide) rfl w1 rfl dX5_waits_16 ?_
    refine lv_bipush (v := 7) hx hb dX5_waits_19 (by decide) ?_
    refine mm_iald (n := 135) (jn := 7) C hH kd_158 ln_158 (by decide) (by decide) dX5_waits_21 ?_
    refine lv_iload_n hx hb dX5_waits_22 rfl (lv_at hl 1 rfl) ?_
    refine lv_iadd hx hb dX5_waits_23 ?_
    refine lv_ldc (own := RX5) (v := 99999) hx hb C.2.2.2.1 w2 dX5_waits_24 ?_
    refine lv_icmp_le (tgt := 32) hx hb dX5_waits_26 (by decide) (fun c2 => ?_) (fun c2 => ?_)
    · have h := mm_pos c2 h
      refine lv_iconst (v := 0) hx hb dX5_waits_32 (by decide) ?_
      refine lv_istore_n (lv' := [(2, .int 0), (0, .ref (b + 157)), (1, .int a1)]) hx hb dX5_waits_33 rfl hl (by decide) rfl (fun ls hl => ?_)
      refine lv_iconst (v := 0) hx hb dX5_waits_34 (by decide) ?_
      refine lv_istore_n (lv' := [(3, .int 0), (2, .int 0), (0, .ref (b + 157)), (1, .int a1)]) hx hb dX5_waits_35 rfl hl (by decide) rfl (fun ls hl => ?_)
      obtain ⟨x1, v2, e2, h⟩ := mm_bnd2 h
      refine lp_X5_waits_36 C a1 1000 0 0 x _ _ _ _ _ e2 hH (lv_sub hl [2, 3, 1, 0] rfl) (fun H locs ls hH hl => ?_)
      refine lv_iload_n hx hb dX5_waits_54 rfl (lv_at hl 0 rfl) ?_
      exact mm_iret C hH hr hlk rfl h dX5_waits_55
    · have h := mm_neg c2 h
      have hl := lv_sub (l' := []) hl [] rfl
      refine lv_bipush (v := (-5)) hx hb dX5_waits_29 (by decide) ?_
      exact mm_iret C hH hr hlk rfl h dX5_waits_31
  · have h := mm_pos c1 h
    have hl := lv_sub (l' := []) hl [] rfl
    refine lv_bipush (v := (-2)) hx hb dX5_waits_12 (by decide) ?_
    exact mm_iret C hH hr hlk rfl h dX5_waits_14
