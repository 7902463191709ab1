def fn_X4_keepState  (x : mm_M) : Option mm_M :=
  if (x 0 2) < 0 ∨ 7 ≤ Int32.toNatClampNeg (x 0 2) then none else if mm_kd (Int32.toNatClampNeg (x 16 (Int32.toNatClampNeg (x 0 2)))) = 3 then (fn_X3_copyFrom (Int32.toNatClampNeg (x 16 (Int32.toNatClampNeg (x 0 2)))) 1 x).bind fun x1 => some x1 else none
abbrev rm_X4_keepState : Room := { frames := 3, cells := 0, slots := 0, locals := 69 }
theorem df_X4_keepState : yX4_keepState.cls = RX4 ∧ yX4_keepState.cls ≠ "java/lang/invoke/MethodHandle" ∧ yX4_keepState.cls ≠ "java/lang/invoke/VarHandle" ∧ (parseMethodDescriptor yX4_keepState.desc).map (fun d => d.parameters.length) = some 0 := by decide +kernel
set_option maxRecDepth 100000 in
set_option maxHeartbeats 4000000 in
theorem ct_X4_keepState (l : Launch) (G : va_G) (T : Nat → ClassId) (b : Nat) (z : Nat → Nat)  (x : mm_M) {x1 : mm_M} (h : fn_X4_keepState  x = some x1) : mm_Cv l yX4_keepState wsX4_keepState rm_X4_keepState G T b z [.ref (b + 0)] x x1 := by
  unfold fn_X4_keepState at h
  refine mm_start (cc := cX4_keepState) (maxL := 1) (ret := none) (by decide) rfl (Nat.le_of_ble_eq_true rfl) (fun p e s m below meth c ls C hr hlk hH hl => ?_)
  have hl : lv_has ls 1 [(0, .ref (b + 0))] := hl
  have hx := C.1
  have hb := C.2.1
  have w1 := C.2.2.2.2.1 (.fieldLink RX4 16 "LandingFines" "history" "[LLandingFines$River;") (by decide +kernel)
  have w2 := C.2.2.2.2.1 (.fieldLink RX4 20 "LandingFines" "historySize" "I") (by decide +kernel)
  have w3 := C.2.2.2.2.1 (.fieldLink RX4 10 "LandingFines" "river" "LLandingFines$River;") (by decide +kernel)
  have hin4 : ∀ w ∈ wsX40, w ∈ wsX4_keepState := by decide +kernel
  refine lv_aload_n hx hb dX4_keepState_0 rfl (lv_at hl 0 rfl) ?_
  refine mm_get (v := .ref (b + 16)) C hH hin4 rfl kl_0 (mm_e4 kd_0) (j := 1) (by decide) rfl w1 rfl dX4_keepState_1 ?_
  refine lv_aload_n hx hb dX4_keepState_4 rfl (lv_at hl 0 rfl) ?_
  refine mm_get (v := .int (x 0 2)) C hH hin4 rfl kl_0 (mm_e4 kd_0) (j := 2) (by decide) rfl w2 rfl dX4_keepState_5 ?_
  obtain ⟨g1, h⟩ := mm_grn h
  refine mm_ald10 C hH kd_16 g1 dX4_keepState_8 ?_
  obtain ⟨g2, h⟩ := mm_grd h
  refine lv_aload_n hx hb dX4_keepState_9 rfl (lv_at hl 0 rfl) ?_
  refine mm_get (v := .ref (b + 1)) C hH hin4 rfl kl_0 (mm_e4 kd_0) (j := 0) (by decide) rfl w3 rfl dX4_keepState_10 ?_
  obtain ⟨x1, e1, h⟩ := mm_bnd h
  refine mm_gov hH (va_runV (As := [.ref (b + 1)]) (rest := []) ⟨hx, hb, C.2.2.1, C.2.2.2.1, C.2.2.2.2.1⟩ (ct_X3_copyFrom l G T b z (Int32.toNatClampNeg (x 16 (Int32.toNatClampNeg (x 0 2)))) 1 x e1) (cwV 1 C.2.2.2.2.1 gX4_keepState_X3_copyFrom rfl rfl rfl df_X3_copyFrom ⟨Nat.le_of_ble_eq_true rfl, Nat.le_of_ble_eq_true rfl⟩) ⟨mm_B.blind, mm_recv (q := (RX3, TX3, 7)) C hH (mm_lt g2 (by decide)) (mm_e3 g2) rfl, mm_pre C hH⟩ rfl rfl hl.1 rfl (lv_room (Nat.le_of_ble_eq_true rfl)) dX4_keepState_13 ⟨Nat.zero_le _, Nat.zero_le _⟩) (fun H locs hH => ?_)
  exact mm_vret C hH hr hlk h dX4_keepState_16
def fn_X4_dropOldest_9 : Nat → Nat → Int32 → mm_M → Option mm_M
  | 0, _, _, _ => none
  | n + 1, k1, i2, x => if (6 : Int32) ≤ i2 then some (x) else if (i2 + 1) < 0 ∨ 7 ≤ Int32.toNatClampNeg (i2 + 1) then none else if mm_kd (Int32.toNatClampNeg (x 16 (Int32.toNatClampNeg (i2 + 1)))) = 3 then if i2 < 0 ∨ 7 ≤ Int32.toNatClampNeg i2 then none else (some (mm_up x 16 (Int32.toNatClampNeg i2) (nI (Int32.toNatClampNeg (x 16 (Int32.toNatClampNeg (i2 + 1))))))).bind fun x1 => (some (i2 + 1)).bind fun v1 => fn_X4_dropOldest_9 n k1 v1 x1 else none
def fn_X4_dropOldest  (x : mm_M) : Option mm_M :=
  if mm_kd (Int32.toNatClampNeg (x 16 (Int32.toNatClampNeg 0))) = 3 then (fn_X4_dropOldest_9 7 (Int32.toNatClampNeg (x 16 (Int32.toNatClampNeg 0))) 0 x).bind fun x1 => (some (mm_up x1 16 (Int32.toNatClampNeg 6) (nI (Int32.toNatClampNeg (x 16 (Int32.toNatClampNeg 0)))))).bind fun x2 => some x2 else none
abbrev rm_X4_dropOldest : Room := { frames := 0, cells := 0, slots := 0, locals := 0 }
theorem df_X4_dropOldest : yX4_dropOldest.cls = RX4 ∧ yX4_dropOldest.cls ≠ "java/lang/invoke/MethodHandle" ∧ yX4_dropOldest.cls ≠ "java/lang/invoke/VarHandle" ∧ (parseMethodDescriptor yX4_dropOldest.desc).map (fun d => d.parameters.length) = some 0 := by decide +kernel
set_option maxRecDepth 100000 in
set_option maxHeartbeats 4000000 in
theorem lp_X4_dropOldest_9 {p : Program} {l : Launch} {e : Env} {s : State} {m : MethodId} {args : Array Value} {below : List Frame} {meth : Method} {c : Code} {Q : State → Prop} {G : va_G} {T : Nat → ClassId} {b : Nat} {z : Nat → Nat} (C : mm_C p m c cX4_dropOldest 3 s args wsX4_dropOldest RX4 G T b z) (k1 : Nat) (hk1 : mm_kd k1 = 3) : ∀ (n : Nat) (i2 : Int32) (x : mm_M) (H : Heap) (locs : List Loc) (ls : Array Slot) (x1 : mm_M), fn_X4_dropOldest_9 n k1 i2 x = some (x1) → mm_H G T b x s H locs → lv_has ls 3 [(0, .ref (b + 0)), (1, .ref (b + k1)), (2, .int i2)] → (∀ (H1 : Heap) (locs1 : List Loc) (ls1 : Array Slot), mm_H G T b x1 s H1 locs1 → lv_has ls1 3 [(0, .ref (b + 0)), (1, .ref (b + k1))] → W p l e rm_X4_dropOldest s m args below meth c H1 locs1 0 0 Q (F0 m 35 ls1 [])) → W p l e rm_X4_dropOldest s m args below meth c H locs 0 0 Q (F0 m 9 ls []) := by
  have hx := C.1
  have hb := C.2.1
  have w1 := C.2.2.2.2.1 (.fieldLink RX4 16 "LandingFines" "history" "[LLandingFines$River;") (by decide +kernel)
  have hin4 : ∀ w ∈ wsX40, w ∈ wsX4_dropOldest := by decide +kernel
  have hk1l := mm_lt hk1 (by decide)
  intro n
  induction n with
  | zero => intro _ _ _ _ _ _ h; cases (show (none : Option mm_M) = some _ from h)
  | succ n ih =>
    intro i2 x H locs ls x1 h hH hl kk
    rw [fn_X4_dropOldest_9] at h
    refine lv_iload_n hx hb dX4_dropOldest_9 rfl (lv_at hl 2 rfl) ?_
    refine lv_bipush (v := 6) hx hb dX4_dropOldest_10 (by decide) ?_
    refine lv_icmp_ge (tgt := 35) hx hb dX4_dropOldest_12 (by decide) (fun c1 => ?_) (fun c1 => ?_)
    · have h := mm_pos c1 h
      have hl := lv_sub (l' := [(0, .ref (b + 0)), (1, .ref (b + k1))]) hl [0, 1] rfl
      cases h
      exact kk _ _ _ hH (lv_sub hl [0, 1] rfl)
    · have h := mm_neg c1 h
      refine lv_aload_n hx hb dX4_dropOldest_15 rfl (lv_at hl 0 rfl) ?_
      refine mm_get (v := .ref (b + 16)) C hH hin4 rfl kl_0 (mm_e4 kd_0) (j := 1) (by decide) rfl w1 rfl dX4_dropOldest_16 ?_
      refine lv_iload_n hx hb dX4_dropOldest_19 rfl (lv_at hl 2 rfl) ?_
      refine lv_aload_n hx hb dX4_dropOldest_20 rfl (lv_at hl 0 rfl) ?_
      refine mm_get (v := .ref (b + 16)) C hH hin4 rfl kl_0 (mm_e4 kd_0) (j := 1) (by decide) rfl w1 rfl dX4_dropOldest_21 ?_
      refine lv_iload_n hx hb dX4_dropOldest_24 rfl (lv_at hl 2 rfl) ?_
      refine lv_iconst (v := 1) hx hb dX4_dropOldest_25 (by decide) ?_
      refine lv_iadd hx hb dX4_dropOldest_26 ?_
      obtain ⟨g1, h⟩ := mm_grn h
      refine mm_ald10 C hH kd_16 g1 dX4_dropOldest_27 ?_
      obtain ⟨g2, h⟩ := mm_grd h
      obtain ⟨g3, h⟩ := mm_grn h
      obtain ⟨x1, e1, h⟩ := mm_bnd h
      refine mm_ast10 C hH kd_16 g2 g3 (Option.some.inj e1) dX4_dropOldest_28 (fun H locs hH => ?_)
      obtain ⟨v1, e2, h⟩ := mm_bnd h
      refine lv_iinc (v := v1) (lv' := [(2, .int v1), (0, .ref (b + 0)), (1, .ref (b + k1))]) hx hb dX4_dropOldest_29 hl (k := 2) rfl (Option.some.inj e2) (by decide) rfl (fun ls hl => ?_)
      refine lv_goto (tgt := 9) hx hb dX4_dropOldest_32 (by decide) ?_
      exact ih v1 x1 _ _ _ _ h hH (lv_sub hl [1, 2, 0] rfl) kk
set_option maxRecDepth 100000 in
set_option maxHeartbeats 4000000 in
theorem ct_X4_dropOldest (l : Launch) (G : va_G) (T : Nat → ClassId) (b : Nat) (z : Nat → Nat)  (x : mm_M) {x1 : mm_M} (h : fn_X4_dropOldest  x = some x1) : mm_Cv l yX4_dropOldest wsX4_dropOldest rm_X4_dropOldest G T b z [.ref (b + 0)] x x1 := by
  unfold fn_X4_dropOldest at h
  refine mm_start (cc := cX4_dropOldest) (maxL := 3) (ret := none) (by decide) rfl (Nat.le_of_ble_eq_true rfl) (fun p e s m below meth c ls C hr hlk hH hl => ?_)
  have hl : lv_has ls 3 [(0, .ref (b + 0))] := hl
  have hx := C.1
  have hb := C.2.1
  have w1 := C.2.2.2.2.1 (.fieldLink RX4 16 "LandingFines" "history" "[LLandingFines$River;") (by decide +kernel)
  have hin4 : ∀ w ∈ wsX40, w ∈ wsX4_dropOldest := by decide +kernel
  refine lv_aload_n hx hb dX4_dropOldest_0 rfl (lv_at hl 0 rfl) ?_
  refine mm_get (v := .ref (b + 16)) C hH hin4 rfl kl_0 (mm_e4 kd_0) (j := 1) (by decide) rfl w1 rfl dX4_dropOldest_1 ?_
  refine lv_iconst (v := 0) hx hb dX4_dropOldest_4 (by decide) ?_
  refine mm_ald10 C hH kd_16 (by decide) dX4_dropOldest_5 ?_
  obtain ⟨g1, h⟩ := mm_grd h
  refine lv_astore_n (lv' := [(1, .ref (b + (Int32.toNatClampNeg (x 16 (Int32.toNatClampNeg 0))))), (0, .ref (b + 0))]) hx hb dX4_dropOldest_6 rfl hl (by decide) rfl (fun ls hl => ?_)
  refine lv_iconst (v := 0) hx hb dX4_dropOldest_7 (by decide) ?_
  refine lv_istore_n (lv' := [(2, .int 0), (1, .ref (b + (Int32.toNatClampNeg (x 16 (Int32.toNatClampNeg 0))))), (0, .ref (b + 0))]) hx hb dX4_dropOldest_8 rfl hl (by decide) rfl (fun ls hl => ?_)
  obtain ⟨x1, e1, h⟩ := mm_bnd h
  refine lp_X4_dropOldest_9 C (Int32.toNatClampNeg (x 16 (Int32.toNatClampNeg 0))) g1 7 0 x _ _ _ _ e1 hH (lv_sub hl [2, 1, 0] rfl) (fun H locs ls hH hl => ?_)
  refine lv_aload_n hx hb dX4_dropOldest_35 rfl (lv_at hl 0 rfl) ?_
  refine mm_get (v := .ref (b + 16)) C hH hin4 rfl kl_0 (mm_e4 kd_0) (j := 1) (by decide) rfl w1 rfl dX4_dropOldest_36 ?_
  refine lv_bipush (v := 6) hx hb dX4_dropOldest_39 (by decide) ?_
  refine lv_aload_n hx hb dX4_dropOldest_41 rfl (lv_at hl 1 rfl) ?_
  obtain ⟨x2, e2, h⟩ := mm_bnd h
  refine mm_ast10 C hH kd_16 g1 (by decide) (Option.some.inj e2) dX4_dropOldest_42 (fun H locs hH => ?_)
  exact mm_vret C hH hr hlk h dX4_dropOldest_43
def fn_X4_recordUnlessError (a1 : Int32) (x : mm_M) : Option (mm_M × Int32) :=
  if (0 : Int32) ≤ a1 then if (6 : Int32) ≤ (x 0 2) then (fn_X4_dropOldest x).bind fun x1 => some (x1, a1) else (some (mm_up x 0 2 ((x 0 2) + 1))).bind fun x2 => some (x2, a1) else some (x, a1)
abbrev rm_X4_recordUnlessError : Room := { frames := 1, cells := 0, slots := 0, locals := 22 }
theorem df_X4_recordUnlessError : yX4_recordUnlessError.cls = RX4 ∧ yX4_recordUnlessError.cls ≠ "java/lang/invoke/MethodHandle" ∧ yX4_recordUnlessError.cls ≠ "java/lang/invoke/VarHandle" ∧ (parseMethodDescriptor yX4_recordUnlessError.desc).map (fun d => d.parameters.length) = some 1 := by decide +kernel
set_option maxRecDepth 100000 in
set_option maxHeartbeats 4000000 in
theorem ct_X4_recordUnlessError (l : Launch) (G : va_G) (T : Nat → ClassId) (b : Nat) (z : Nat → Nat) (a1 : Int32) (x : mm_M) {x1 : mm_M} {r : Int32} (h : fn_X4_recordUnlessError a1 x = some (x1, r)) : mm_Ci l yX4_recordUnlessError wsX4_recordUnlessError rm_X4_recordUnlessError G T b z [.ref (b + 0), .int a1] x r x1 := by
  unfold fn_X4_recordUnlessError at h
  refine mm_start (cc := cX4_recordUnlessError) (maxL := 2) (ret := (some .int)) (by decide) rfl (Nat.le_of_ble_eq_true rfl) (fun p e s m below meth c ls C hr hlk hH hl => ?_)
  have hl : lv_has ls 2 [(0, .ref (b + 0)), (1, .int a1)] := hl
  have hx := C.1
  have hb := C.2.1
  have w1 := C.2.2.2.2.1 (.fieldLink RX4 20 "LandingFines" "historySize" "I") (by decide +kernel)
  have hin4 : ∀ w ∈ wsX40, w ∈ wsX4_recordUnlessError := by decide +kernel
  refine lv_iload_n hx hb dX4_recordUnlessError_0 rfl (lv_at hl 1 rfl) ?_
  refine lv_if_ge (tgt := 6) hx hb dX4_recordUnlessError_1 (by decide) (fun c1 => ?_) (fun c1 => ?_)
  · have h := mm_pos c1 h
    refine lv_aload_n hx hb dX4_recordUnlessError_6 rfl (lv_at hl 0 rfl) ?_
    refine mm_get (v := .int (x 0 2)) C hH hin4 rfl kl_0 (mm_e4 kd_0) (j := 2) (by decide) rfl w1 rfl dX4_recordUnlessError_7 ?_
    refine lv_bipush (v := 6) hx hb dX4_recordUnlessError_10 (by decide) ?_
    refine lv_icmp_ge (tgt := 28) hx hb dX4_recordUnlessError_12 (by decide) (fun c2 => ?_) (fun c2 => ?_)
    · have h := mm_pos c2 h
      refine lv_aload_n hx hb dX4_recordUnlessError_28 rfl (lv_at hl 0 rfl) ?_
      obtain ⟨x1, e1, h⟩ := mm_bnd h
      refine mm_gov hH (va_runV (As := []) (rest := []) ⟨hx, hb, C.2.2.1, C.2.2.2.1, C.2.2.2.2.1⟩ (ct_X4_dropOldest l G T b z x e1) (cwV 0 C.2.2.2.2.1 gX4_recordUnlessError_X4_dropOldest rfl rfl rfl df_X4_dropOldest ⟨Nat.le_of_ble_eq_true rfl, Nat.le_of_ble_eq_true rfl⟩) ⟨mm_B.blind, mm_recv (q := (RX4, TX4, 7)) C hH kl_0 (mm_e4 kd_0) rfl, mm_pre C hH⟩ rfl rfl hl.1 rfl (lv_room (Nat.le_of_ble_eq_true rfl)) dX4_recordUnlessError_29 ⟨Nat.zero_le _, Nat.zero_le _⟩) (fun H locs hH => ?_)
      refine lv_iload_n hx hb dX4_recordUnlessError_32 rfl (lv_at hl 1 rfl) ?_
      exact mm_iret C hH hr hlk rfl h dX4_recordUnlessError_33
    · have h := mm_neg c2 h
      refine lv_aload_n hx hb dX4_recordUnlessError_15 rfl (lv_at hl 0 rfl) ?_
      refine lv_dup hx hb dX4_recordUnlessError_16 rfl ?_
      refine mm_get (v := .int (x 0 2)) C hH hin4 rfl kl_0 (mm_e4 kd_0) (j := 2) (by decide) rfl w1 rfl dX4_recordUnlessError_17 ?_
      refine lv_iconst (v := 1) hx hb dX4_recordUnlessError_20 (by decide) ?_
      refine lv_iadd hx hb dX4_recordUnlessError_21 ?_
      obtain ⟨x2, e2, h⟩ := mm_bnd h
      refine mm_put (ty := .int) C hH hin4 tyX4_ok nmX4 rfl kl_0 (mm_e4 kd_0) (j := 2) (by decide) rfl w1 pd_I rfl rfl (Nat.le_of_ble_eq_true rfl) (sp_4_2 kd_0) (Option.some.inj e2) dX4_recordUnlessError_22 (fun H locs hH => ?_)
      refine lv_goto (tgt := 32) hx hb dX4_recordUnlessError_25 (by decide) ?_
      have hl := lv_sub (l' := [(1, .int a1)]) hl [1] rfl
      refine lv_iload_n hx hb dX4_recordUnlessError_32 rfl (lv_at hl 0 rfl) ?_
      exact mm_iret C hH hr hlk rfl h dX4_recordUnlessError_33
  · have h := mm_neg c1 h
    have hl := lv_sub (l' := [(1, .int a1)]) hl [1] rfl
    refine lv_iload_n hx hb dX4_recordUnlessError_4 rfl (lv_at hl 0 rfl) ?_
    exact mm_iret C hH hr hlk rfl h dX4_recordUnlessError_5
def fn_X4_set (a1 : Int32) (a2 : Int32) (x : mm_M) : Option (mm_M × Int32) :=
  (fn_X4_keepState x).bind fun x1 => mm_b2 (fn_X3_changeSetting a1 a2 x1) fun x2 v1 => mm_b2 (fn_X4_recordUnlessError v1 x2) fun x3 v2 => some (x3, v2)
abbrev rm_X4_set : Room := { frames := 4, cells := 0, slots := 0, locals := 89 }
theorem df_X4_set : yX4_set.cls = RX4 ∧ yX4_set.cls ≠ "java/lang/invoke/MethodHandle" ∧ yX4_set.cls ≠ "java/lang/invoke/VarHandle" ∧ (parseMethodDescriptor yX4_set.desc).map (fun d => d.parameters.length) = some 2 := by decide +kernel
set_option maxRecDepth 100000 in
set_option maxHeartbeats 4000000 in
theorem ct_X4_set (l : Launch) (G : va_G) (T : Nat → ClassId) (b : Nat) (z : Nat → Nat) (a1 : Int32) (a2 : Int32) (x : mm_M) {x1 : mm_M} {r : Int32} (h : fn_X4_set a1 a2 x = some (x1, r)) : mm_Ci l yX4_set wsX4_set rm_X4_set G T b z [.ref (b + 0), .int a1, .int a2] x r x1 := by
  unfold fn_X4_set at h
  refine mm_start (cc := cX4_set) (maxL := 3) (ret := (some .int)) (by decide) rfl (Nat.le_of_ble_eq_true rfl) (fun p e s m below meth c ls C hr hlk hH hl => ?_)
  have hl : lv_has ls 3 [(0, .ref (b + 0)), (1, .int a1), (2, .int a2)] := hl
  have hx := C.1
  have hb := C.2.1
  have w1 := C.2.2.2.2.1 (.fieldLink RX4 10 "LandingFines" "river" "LLandingFines$River;") (by decide +kernel)
  have hin4 : ∀ w ∈ wsX40, w ∈ wsX4_set := by decide +kernel
  refine lv_aload_n hx hb dX4_set_0 rfl (lv_at hl 0 rfl) ?_
  obtain ⟨x1, e1, h⟩ := mm_bnd h
  refine mm_gov hH (va_runV (As := []) (rest := []) ⟨hx, hb, C.2.2.1, C.2.2.2.1, C.2.2.2.2.1⟩ (ct_X4_keepState l G T b z x e1) (cwV 0 C.2.2.2.2.1 gX4_set_X4_keepState rfl rfl rfl df_X4_keepState ⟨Nat.le_of_ble_eq_true rfl, Nat.le_of_ble_eq_true rfl⟩) ⟨mm_B.blind, mm_recv (q := (RX4, TX4, 7)) C hH kl_0 (mm_e4 kd_0) rfl, mm_pre C hH⟩ rfl rfl hl.1 rfl (lv_room (Nat.le_of_ble_eq_true rfl)) dX4_set_1 ⟨Nat.zero_le _, Nat.zero_le _⟩) (fun H locs hH => ?_)
  refine lv_aload_n hx hb dX4_set_4 rfl (lv_at hl 0 rfl) ?_
  refine lv_aload_n hx hb dX4_set_5 rfl (lv_at hl 0 rfl) ?_
  refine mm_get (v := .ref (b + 1)) C hH hin4 rfl kl_0 (mm_e4 kd_0) (j := 0) (by decide) rfl w1 rfl dX4_set_6 ?_
  refine lv_iload_n hx hb dX4_set_9 rfl (lv_at hl 1 rfl) ?_
  refine lv_iload_n hx hb dX4_set_10 rfl (lv_at hl 2 rfl) ?_
  obtain ⟨x2, v1, e2, h⟩ := mm_bnd2 h
  refine mm_goi hH (va_runV (As := [.int a1, .int a2]) (rest := [.ref (b + 0)]) ⟨hx, hb, C.2.2.1, C.2.2.2.1, C.2.2.2.2.1⟩ (ct_X3_changeSetting l G T b z a1 a2 x1 e2) (cwV 2 C.2.2.2.2.1 gX4_set_X3_changeSetting rfl rfl rfl df_X3_changeSetting ⟨Nat.le_of_ble_eq_true rfl, Nat.le_of_ble_eq_true rfl⟩) ⟨mm_B.blind, mm_recv (q := (RX3, TX3, 7)) C hH kl_1 (mm_e3 kd_1) rfl, mm_pre C hH⟩ rfl rfl hl.1 rfl (lv_room (Nat.le_of_ble_eq_true rfl)) dX4_set_11 ⟨Nat.zero_le _, Nat.zero_le _⟩) (fun H locs hH => ?_)
  obtain ⟨x3, v2, e3, h⟩ := mm_bnd2 h
  refine mm_goi hH (va_runV (As := [.int v1]) (rest := []) ⟨hx, hb, C.2.2.1, C.2.2.2.1, C.2.2.2.2.1⟩ (ct_X4_recordUnlessError l G T b z v1 x2 e3) (cwV 1 C.2.2.2.2.1 gX4_set_X4_recordUnlessError rfl rfl rfl df_X4_recordUnlessError ⟨Nat.le_of_ble_eq_true rfl, Nat.le_of_ble_eq_true rfl⟩) ⟨mm_B.blind, mm_recv (q := (RX4, TX4, 7)) C hH kl_0 (mm_e4 kd_0) rfl, mm_pre C hH⟩ rfl rfl hl.1 rfl (lv_room (Nat.le_of_ble_eq_true rfl)) dX4_set_14 ⟨Nat.zero_le _, Nat.zero_le _⟩) (fun H locs hH => ?_)
  exact mm_iret C hH hr hlk rfl h dX4_set_17
def fn_X4_landing (a1 : Int32) (x : mm_M) : Option (mm_M × Int32) :=
  (fn_X4_keepState x).bind fun x1 => mm_b2 (fn_X3_addLanding a1 x1) fun x2 v1 => mm_b2 (fn_X4_recordUnlessError v1 x2) fun x3 v2 => some (x3, v2)
abbrev rm_X4_landing : Room := { frames := 4, cells := 0, slots := 0, locals := 89 }
theorem df_X4_landing : yX4_landing.cls = RX4 ∧ yX4_landing.cls ≠ "java/lang/invoke/MethodHandle" ∧ yX4_landing.cls ≠ "java/lang/invoke/VarHandle" ∧ (parseMethodDescriptor yX4_landing.desc).map (fun d => d.parameters.length) = some 1 := by decide +kernel
set_option maxRecDepth 100000 in
set_option maxHeartbeats 4000000 in
theorem ct_X4_landing (l : Launch) (G : va_G) (T : Nat → ClassId) (b : Nat) (z : Nat → Nat) (a1 : Int32) (x : mm_M) {x1 : mm_M} {r : Int32} (h : fn_X4_landing a1 x = some (x1, r)) : mm_Ci l yX4_landing wsX4_landing rm_X4_landing G T b z [.ref (b + 0), .int a1] x r x1 := by
  unfold fn_X4_landing at h
  refine mm_start (cc := cX4_landing) (maxL := 2) (ret := (some .int)) (by decide) rfl (Nat.le_of_ble_eq_true rfl) (fun p e s m below meth c ls C hr hlk hH hl => ?_)
  have hl : lv_has ls 2 [(0, .ref (b + 0)), (1, .int a1)] := hl
  have hx := C.1
  have hb := C.2.1
  have w1 := C.2.2.2.2.1 (.fieldLink RX4 10 "LandingFines" "river" "LLandingFines$River;") (by decide +kernel)
  have hin4 : ∀ w ∈ wsX40, w ∈ wsX4_landing := by decide +kernel
  refine lv_aload_n hx hb dX4_landing_0 rfl (lv_at hl 0 rfl) ?_
  obtain ⟨x1, e1, h⟩ := mm_bnd h
  refine mm_gov hH (va_runV (As := []) (rest := []) ⟨hx, hb, C.2.2.1, C.2.2.2.1, C.2.2.2.2.1⟩ (ct_X4_keepState l G T b z x e1) (cwV 0 C.2.2.2.2.1 gX4_landing_X4_keepState rfl rfl rfl df_X4_keepState ⟨Nat.le_of_ble_eq_true rfl, Nat.le_of_ble_eq_true rfl⟩) ⟨mm_B.blind, mm_recv (q := (RX4, TX4, 7)) C hH kl_0 (mm_e4 kd_0) rfl, mm_pre C hH⟩ rfl rfl hl.1 rfl (lv_room (Nat.le_of_ble_eq_true rfl)) dX4_landing_1 ⟨Nat.zero_le _, Nat.zero_le _⟩) (fun H locs hH => ?_)
  refine lv_aload_n hx hb dX4_landing_4 rfl (lv_at hl 0 rfl) ?_
  refine lv_aload_n hx hb dX4_landing_5 rfl (lv_at hl 0 rfl) ?_
  refine mm_get (v := .ref (b + 1)) C hH hin4 rfl kl_0 (mm_e4 kd_0) (j := 0) (by decide) rfl w1 rfl dX4_landing_6 ?_
  refine lv_iload_n hx hb dX4_landing_9 rfl (lv_at hl 1 rfl) ?_
  obtain ⟨x2, v1, e2, h⟩ := mm_bnd2 h
  refine mm_goi hH (va_runV (As := [.int a1]) (rest := [.ref (b + 0)]) ⟨hx, hb, C.2.2.1, C.2.2.2.1, C.2.2.2.2.1⟩ (ct_X3_addLanding l G T b z a1 x1 e2) (cwV 1 C.2.2.2.2.1 gX4_landing_X3_addLanding rfl rfl rfl df_X3_addLanding ⟨Nat.le_of_ble_eq_true rfl, Nat.le_of_ble_eq_true rfl⟩) ⟨mm_B.blind, mm_recv (q := (RX3, TX3, 7)) C hH kl_1 (mm_e3 kd_1) rfl, mm_pre C hH⟩ rfl rfl hl.1 rfl (lv_room (Nat.le_of_ble_eq_true rfl)) dX4_landing_10 ⟨Nat.zero_le _, Nat.zero_le _⟩) (fun H locs hH => ?_)
  obtain ⟨x3, v2, e3, h⟩ := mm_bnd2 h
  refine mm_goi hH (va_runV (As := [.int v1]) (rest := []) ⟨hx, hb, C.2.2.1, C.2.2.2.1, C.2.2.2.2.1⟩ (ct_X4_recordUnlessError l G T b z v1 x2 e3) (cwV 1 C.2.2.2.2.1 gX4_landing_X4_recordUnlessError rfl rfl rfl df_X4_recordUnlessError ⟨Nat.le_of_ble_eq_true rfl, Nat.le_of_ble_eq_true rfl⟩) ⟨mm_B.blind, mm_recv (q := (RX4, TX4, 7)) C hH kl_0 (mm_e4 kd_0) rfl, mm_pre C hH⟩ rfl rfl hl.1 rfl (lv_room (Nat.le_of_ble_eq_true rfl)) dX4_landing_13 ⟨Nat.zero_le _, Nat.zero_le _⟩) (fun H locs hH => ?_)
  exact mm_iret C hH hr hlk rfl h dX4_landing_16
def fn_X4_open (a1 : Int32) (x : mm_M) : Option (mm_M × Int32) :=
  (fn_X4_keepState x).bind fun x1 => mm_b2 (fn_X3_openLanding a1 x1) fun x2 v1 => mm_b2 (fn_X4_recordUnlessError v1 x2) fun x3 v2 => some (x3, v2)
abbrev rm_X4_open : Room := { frames := 5, cells := 0, slots := 0, locals := 110 }
theorem df_X4_open : yX4_open.cls = RX4 ∧ yX4_open.cls ≠ "java/lang/invoke/MethodHandle" ∧ yX4_open.cls ≠ "java/lang/invoke/VarHandle" ∧ (parseMethodDescriptor yX4_open.desc).map (fun d => d.parameters.length) = some 1 := by decide +kernel
set_option maxRecDepth 100000 in
set_option maxHeartbeats 4000000 in
theorem ct_X4_open (l : Launch) (G : va_G) (T : Nat → ClassId) (b : Nat) (z : Nat → Nat) (a1 : Int32) (x : mm_M) {x1 : mm_M} {r : Int32} (h : fn_X4_open a1 x = some (x1, r)) : mm_Ci l yX4_open wsX4_open rm_X4_open G T b z [.ref (b + 0), .int a1] x r x1 := by
  unfold fn_X4_open at h
  refine mm_start (cc := cX4_open) (maxL := 2) (ret := (some .int)) (by decide) rfl (Nat.le_of_ble_eq_true rfl) (fun p e s m below meth c ls C hr hlk hH hl => ?_)
  have hl : lv_has ls 2 [(0, .ref (b + 0)), (1, .int a1)] := hl
  have hx := C.1
  have hb := C.2.1
  have w1 := C.2.2.2.2.1 (.fieldLink RX4 10 "LandingFines" "river" "LLandingFines$River;") (by decide +kernel)
  have hin4 : ∀ w ∈ wsX40, w ∈ wsX4_open := by decide +kernel
  refine lv_aload_n hx hb dX4_open_0 rfl (lv_at hl 0 rfl) ?_
  obtain ⟨x1, e1, h⟩ := mm_bnd h
  refine mm_gov hH (va_runV (As := []) (rest := []) ⟨hx, hb, C.2.2.1, C.2.2.2.1, C.2.2.2.2.1⟩ (ct_X4_keepState l G T b z x e1) (cwV 0 C.2.2.2.2.1 gX4_open_X4_keepState rfl rfl rfl df_X4_keepState ⟨Nat.le_of_ble_eq_true rfl, Nat.le_of_ble_eq_true rfl⟩) ⟨mm_B.blind, mm_recv (q := (RX4, TX4, 7)) C hH kl_0 (mm_e4 kd_0) rfl, mm_pre C hH⟩ rfl rfl hl.1 rfl (lv_room (Nat.le_of_ble_eq_true rfl)) dX4_open_1 ⟨Nat.zero_le _, Nat.zero_le _⟩) (fun H locs hH => ?_)
  refine lv_aload_n hx hb dX4_open_4 rfl (lv_at hl 0 rfl) ?_
  refine lv_aload_n hx hb dX4_open_5 rfl (lv_at hl 0 rfl) ?_
  refine mm_get (v := .ref (b + 1)) C hH hin4 rfl kl_0 (mm_e4 kd_0) (j := 0) (by decide) rfl w1 rfl dX4_open_6 ?_
  refine lv_iload_n hx hb dX4_open_9 rfl (lv_at hl 1 rfl) ?_
  obtain ⟨x2, v1, e2, h⟩ := mm_bnd2 h
  refine mm_goi hH (va_runV (As := [.int a1]) (rest := [.ref (b + 0)]) ⟨hx, hb, C.2.2.1, C.2.2.2.1, C.2.2.2.2.1⟩ (ct_X3_openLanding l G T b z a1 x1 e2) (cwV 1 C.2.2.2.2.1 gX4_open_X3_openLanding rfl rfl rfl df_X3_openLanding ⟨Nat.le_of_ble_eq_true rfl, Nat.le_of_ble_eq_true rfl⟩) ⟨mm_B.blind, mm_recv (q := (RX3, TX3, 7)) C hH kl_1 (mm_e3 kd_1) rfl, mm_pre C hH⟩ rfl rfl hl.1 rfl (lv_room (Nat.le_of_ble_eq_true rfl)) dX4_open_10 ⟨Nat.zero_le _, Nat.zero_le _⟩) (fun H locs hH => ?_)
  obtain ⟨x3, v2, e3, h⟩ := mm_bnd2 h
  refine mm_goi hH (va_runV (As := [.int v1]) (rest := []) ⟨hx, hb, C.2.2.1, C.2.2.2.1, C.2.2.2.2.1⟩ (ct_X4_recordUnlessError l G T b z v1 x2 e3) (cwV 1 C.2.2.2.2.1 gX4_open_X4_recordUnlessError rfl rfl rfl df_X4_recordUnlessError ⟨Nat.le_of_ble_eq_true rfl, Nat.le_of_ble_eq_true rfl⟩) ⟨mm_B.blind, mm_recv (q := (RX4, TX4, 7)) C hH kl_0 (mm_e4 kd_0) rfl, mm_pre C hH⟩ rfl rfl hl.1 rfl (lv_room (Nat.le_of_ble_eq_true rfl)) dX4_open_13 ⟨Nat.zero_le _, Nat.zero_le _⟩) (fun H locs hH => ?_)
  exact mm_iret C hH hr hlk rfl h dX4_open_16
def fn_X4_close (a1 : Int32) (x : mm_M) : Option (mm_M × Int32) :=
  (fn_X4_keepState x).bind fun x1 => mm_b2 (fn_X3_closeLanding a1 x1) fun x2 v1 => mm_b2 (fn_X4_recordUnlessError v1 x2) fun x3 v2 => some (x3, v2)
abbrev rm_X4_close : Room := { frames := 5, cells := 0, slots := 0, locals := 110 }
theorem df_X4_close : yX4_close.cls = RX4 ∧ yX4_close.cls ≠ "java/lang/invoke/MethodHandle" ∧ yX4_close.cls ≠ "java/lang/invoke/VarHandle" ∧ (parseMethodDescriptor yX4_close.desc).map (fun d => d.parameters.length) = some 1 := by decide +kernel
set_option maxRecDepth 100000 in
set_option maxHeartbeats 4000000 in
theorem ct_X4_close (l : Launch) (G : va_G) (T : Nat → ClassId) (b : Nat) (z : Nat → Nat) (a1 : Int32) (x : mm_M) {x1 : mm_M} {r : Int32} (h : fn_X4_close a1 x = some (x1, r)) : mm_Ci l yX4_close wsX4_close rm_X4_close G T b z [.ref (b + 0), .int a1] x r x1 := by
  unfold fn_X4_close at h
  refine mm_start (cc := cX4_close) (maxL := 2) (ret := (some .int)) (by decide) rfl (Nat.le_of_ble_eq_true rfl) (fun p e s m below meth c ls C hr hlk hH hl => ?_)
  have hl : lv_has ls 2 [(0, .ref (b + 0)), (1, .int a1)] := hl
  have hx := C.1
  have hb := C.2.1
  have w1 := C.2.2.2.2.1 (.fieldLink RX4 10 "LandingFines" "river" "LLandingFines$River;") (by decide +kernel)
  have hin4 : ∀ w ∈ wsX40, w ∈ wsX4_close := by decide +kernel
  refine lv_aload_n hx hb dX4_close_0 rfl (lv_at hl 0 rfl) ?_
  obtain ⟨x1, e1, h⟩ := mm_bnd h
  refine mm_gov hH (va_runV (As := []) (rest := []) ⟨hx, hb, C.2.2.1, C.2.2.2.1, C.2.2.2.2.1⟩ (ct_X4_keepState l G T b z x e1) (cwV 0 C.2.2.2.2.1 gX4_close_X4_keepState rfl rfl rfl df_X4_keepState ⟨Nat.le_of_ble_eq_true rfl, Nat.le_of_ble_eq_true rfl⟩) ⟨mm_B.blind, mm_recv (q := (RX4, TX4, 7)) C hH kl_0 (mm_e4 kd_0) rfl, mm_pre C hH⟩ rfl rfl hl.1 rfl (lv_room (Nat.le_of_ble_eq_true rfl)) dX4_close_1 ⟨Nat.zero_le _, Nat.zero_le _⟩) (fun H locs hH => ?_)
  refine lv_aload_n hx hb dX4_close_4 rfl (lv_at hl 0 rfl) ?_
  refine lv_aload_n hx hb dX4_close_5 rfl (lv_at hl 0 rfl) ?_
  refine mm_get (v := .ref (b + 1)) C hH hin4 rfl kl_0 (mm_e4 kd_0) (j := 0) (by decide) rfl w1 rfl dX4_close_6 ?_
  refine lv_iload_n hx hb dX4_close_9 rfl (lv_at hl 1 rfl) ?_
  obtain ⟨x2, v1, e2, h⟩ := mm_bnd2 h
  refine mm_goi hH (va_runV (As := [.int a1]) (rest := [.ref (b + 0)]) ⟨hx, hb, C.2.2.1, C.2.2.2.1, C.2.2.2.2.1⟩ (ct_X3_closeLanding l G T b z a1 x1 e2) (cwV 1 C.2.2.2.2.1 gX4_close_X3_closeLanding rfl rfl rfl df_X3_closeLanding ⟨Nat.le_of_ble_eq_true rfl, Nat.le_of_ble_eq_true rfl⟩) ⟨mm_B.blind, mm_recv (q := (RX3, TX3, 7)) C hH kl_1 (mm_e3 kd_1) rfl, mm_pre C hH⟩ rfl rfl hl.1 rfl (lv_room (Nat.le_of_ble_eq_true rfl)) dX4_close_10 ⟨Nat.zero_le _, Nat.zero_le _⟩) (fun H locs hH => ?_)
  obtain ⟨x3, v2, e3, h⟩ := mm_bnd2 h
  refine mm_goi hH (va_runV (As := [.int v1]) (rest := []) ⟨hx, hb, C.2.2.1, C.2.2.2.1, C.2.2.2.2.1⟩ (ct_X4_recordUnlessError l G T b z v1 x2 e3) (cwV 1 C.2.2.2.2.1 gX4_close_X4_recordUnlessError rfl rfl rfl df_X4_recordUnlessError ⟨Nat.le_of_ble_eq_true rfl, Nat.le_of_ble_eq_true rfl⟩) ⟨mm_B.blind, mm_recv (q := (RX4, TX4, 7)) C hH kl_0 (mm_e4 kd_0) rfl, mm_pre C hH⟩ rfl rfl hl.1 rfl (lv_room (Nat.le_of_ble_eq_true rfl)) dX4_close_13 ⟨Nat.zero_le _, Nat.zero_le _⟩) (fun H locs hH => ?_)
  exact mm_iret C hH hr hlk rfl h dX4_close_16
def fn_X4_price (a1 : Int32) (a2 : Int32) (x : mm_M) : Option (mm_M × Int32) :=
  (fn_X4_keepState x).bind fun x1 => mm_b2 (fn_X3_changePrice a1 a2 x1) fun x2 v1 => mm_b2 (fn_X4_recordUnlessError v1 x2) fun x3 v2 => some (x3, v2)
abbrev rm_X4_price : Room := { frames := 5, cells := 0, slots := 0, locals := 111 }
theorem df_X4_price : yX4_price.cls = RX4 ∧ yX4_price.cls ≠ "java/lang/invoke/MethodHandle" ∧ yX4_price.cls ≠ "java/lang/invoke/VarHandle" ∧ (parseMethodDescriptor yX4_price.desc).map (fun d => d.parameters.length) = some 2 := by decide +kernel
set_option maxRecDepth 100000 in
set_option maxHeartbeats 4000000 in
theorem ct_X4_price (l : Launch) (G : va_G) (T : Nat → ClassId) (b : Nat) (z : Nat → Nat) (a1 : Int32) (a2 : Int32) (x : mm_M) {x1 : mm_M} {r : Int32} (h : fn_X4_price a1 a2 x = some (x1, r)) : mm_Ci l yX4_price wsX4_price rm_X4_price G T b z [.ref (b + 0), .int a1, .int a2] x r x1 := by
  unfold fn_X4_price at h
  refine mm_start (cc := cX4_price) (maxL := 3) (ret := (some .int)) (by decide) rfl (Nat.le_of_ble_eq_true rfl) (fun p e s m below meth c ls C hr hlk hH hl => ?_)
  have hl : lv_has ls 3 [(0, .ref (b + 0)), (1, .int a1), (2, .int a2)] := hl
  have hx := C.1
  have hb := C.2.1
  have w1 := C.2.2.2.2.1 (.fieldLink RX4 10 "LandingFines" "river" "LLandingFines$River;") (by decide +kernel)
  have hin4 : ∀ w ∈ wsX40, w ∈ wsX4_price := by decide +kernel
  refine lv_aload_n hx hb dX4_price_0 rfl (lv_at hl 0 rfl) ?_
  obtain ⟨x1, e1, h⟩ := mm_bnd h
  refine mm_gov hH (va_runV (As := []) (rest := []) ⟨hx, hb, C.2.2.1, C.2.2.2.1, C.2.2.2.2.1⟩ (ct_X4_keepState l G T b z x e1) (cwV 0 C.2.2.2.2.1 gX4_price_X4_keepState rfl rfl rfl df_X4_keepState ⟨Nat.le_of_ble_eq_true rfl, Nat.le_of_ble_eq_true rfl⟩) ⟨mm_B.blind, mm_recv (q := (RX4, TX4, 7)) C hH kl_0 (mm_e4 kd_0) rfl, mm_pre C hH⟩ rfl rfl hl.1 rfl (lv_room (Nat.le_of_ble_eq_true rfl)) dX4_price_1 ⟨Nat.zero_le _, Nat.zero_le _⟩) (fun H locs hH => ?_)
  refine lv_aload_n hx hb dX4_price_4 rfl (lv_at hl 0 rfl) ?_
  refine lv_aload_n hx hb dX4_price_5 rfl (lv_at hl 0 rfl) ?_
  refine mm_get (v := .ref (b + 1)) C hH hin4 rfl kl_0 (mm_e4 kd_0) (j := 0) (by decide) rfl w1 rfl dX4_price_6 ?_
  refine lv_iload_n hx hb dX4_price_9 rfl (lv_at hl 1 rfl) ?_
  refine lv_iload_n hx hb dX4_price_10 rfl (lv_at hl 2 rfl) ?_
  obtain ⟨x2, v1, e2, h⟩ := mm_bnd2 h
  refine mm_goi hH (va_runV (As := [.int a1, .int a2]) (rest := [.ref (b + 0)]) ⟨hx, hb, C.2.2.1, C.2.2.2.1, C.2.2.2.2.1⟩ (ct_X3_changePrice l G T b z a1 a2 x1 e2) (cwV 2 C.2.2.2.2.1 gX4_price_X3_changePrice rfl rfl rfl df_X3_changePrice ⟨Nat.le_of_ble_eq_true rfl, Nat.le_of_ble_eq_true rfl⟩) ⟨mm_B.blind, mm_recv (q := (RX3, TX3, 7)) C hH kl_1 (mm_e3 kd_1) rfl, mm_pre C hH⟩ rfl rfl hl.1 rfl (lv_room (Nat.le_of_ble_eq_true rfl)) dX4_price_11 ⟨Nat.zero_le _, Nat.zero_le _⟩) (fun H locs hH => ?_)
  obtain ⟨x3, v2, e3, h⟩ := mm_bnd2 h
  refine mm_goi hH (va_runV (As := [.int v1]) (rest := []) ⟨hx, hb, C.2.2.1, C.2.2.2.1, C.2.2.2.2.1⟩ (ct_X4_recordUnlessError l G T b z v1 x2 e3) (cwV 1 C.2.2.2.2.1 gX4_price_X4_recordUnlessError rfl rfl rfl df_X4_recordUnlessError ⟨Nat.le_of_ble_eq_true rfl, Nat.le_of_ble_eq_true rfl⟩) ⟨mm_B.blind, mm_recv (q := (RX4, TX4, 7)) C hH kl_0 (mm_e4 kd_0) rfl, mm_pre C hH⟩ rfl rfl hl.1 rfl (lv_room (Nat.le_of_ble_eq_true rfl)) dX4_price_14 ⟨Nat.zero_le _, Nat.zero_le _⟩) (fun H locs hH => ?_)
  exact mm_iret C hH hr hlk rfl h dX4_price_17
def fn_X4_pass (a1 : Int32) (x : mm_M) : Option (mm_M × Int32) :=
  (fn_X4_keepState x).bind fun x1 => mm_b2 (fn_X3_passMinutes a1 x1) fun x2 v1 => mm_b2 (fn_X4_recordUnlessError v1 x2) fun x3 v2 => some (x3, v2)
abbrev rm_X4_pass : Room := { frames := 5, cells := 0, slots := 0, locals := 110 }
theorem df_X4_pass : yX4_pass.cls = RX4 ∧ yX4_pass.cls ≠ "java/lang/invoke/MethodHandle" ∧ yX4_pass.cls ≠ "java/lang/invoke/VarHandle" ∧ (parseMethodDescriptor yX4_pass.desc).map (fun d => d.parameters.length) = some 1 := by decide +kernel
set_option maxRecDepth 100000 in
set_option maxHeartbeats 4000000 in
theorem ct_X4_pass (l : Launch) (G : va_G) (T : Nat → ClassId) (b : Nat) (z : Nat → Nat) (a1 : Int32) (x : mm_M) {x1 : mm_M} {r : Int32} (h : fn_X4_pass a1 x = some (x1, r)) : mm_Ci l yX4_pass wsX4_pass rm_X4_pass G T b z [.ref (b + 0), .int a1] x r x1 := by
  unfold fn_X4_pass at h
  refine mm_start (cc := cX4_pass) (maxL := 2) (ret := (some .int)) (by decide) rfl (Nat.le_of_ble_eq_true rfl) (fun p e s m below meth c ls C hr hlk hH hl => ?_)
  have hl : lv_has ls 2 [(0, .ref (b + 0)), (1, .int a1)] := hl
  have hx := C.1
  have hb := C.2.1
  have w1 := C.2.2.2.2.1 (.fieldLink RX4 10 "LandingFines" "river" "LLandingFines$River;") (by decide +kernel)
  have hin4 : ∀ w ∈ wsX40, w ∈ wsX4_pass := by decide +kernel
  refine lv_aload_n hx hb dX4_pass_0 rfl (lv_at hl 0 rfl) ?_
  obtain ⟨x1, e1, h⟩ := mm_bnd h
  refine mm_gov hH (va_runV (As := []) (rest := []) ⟨hx, hb, C.2.2.1, C.2.2.2.1, C.2.2.2.2.1⟩ (ct_X4_keepState l G T b z x e1) (cwV 0 C.2.2.2.2.1 gX4_pass_X4_keepState rfl rfl rfl df_X4_keepState ⟨Nat.le_of_ble_eq_true rfl, Nat.le_of_ble_eq_true rfl⟩) ⟨mm_B.blind, mm_recv (q := (RX4, TX4, 7)) C hH kl_0 (mm_e4 kd_0) rfl, mm_pre C hH⟩ rfl rfl hl.1 rfl (lv_room (Nat.le_of_ble_eq_true rfl)) dX4_pass_1 ⟨Nat.zero_le _, Nat.zero_le _⟩) (fun H locs hH => ?_)
  refine lv_aload_n hx hb dX4_pass_4 rfl (lv_at hl 0 rfl) ?_
  refine lv_aload_n hx hb dX4_pass_5 rfl (lv_at hl 0 rfl) ?_
  refine mm_get (v := .ref (b + 1)) C hH hin4 rfl kl_0 (mm_e4 kd_0) (j := 0) (by decide) rfl w1 rfl dX4_pass_6 ?_
  refine lv_iload_n hx hb dX4_pass_9 rfl (lv_at hl 1 rfl) ?_
  obtain ⟨x2, v1, e2, h⟩ := mm_bnd2 h
  refine mm_goi hH (va_runV (As := [.int a1]) (rest := [.ref (b + 0)]) ⟨hx, hb, C.2.2.1, C.2.2.2.1, C.2.2.2.2.1⟩ (ct_X3_passMinutes l G T b z a1 x1 e2) (cwV 1 C.2.2.2.2.1 gX4_pass_X3_passMinutes rfl rfl rfl df_X3_passMinutes ⟨Nat.le_of_ble_eq_true rfl, Nat.le_of_ble_eq_true rfl⟩) ⟨mm_B.blind, mm_recv (q := (RX3, TX3, 7)) C hH kl_1 (mm_e3 kd_1) rfl, mm_pre C hH⟩ rfl rfl hl.1 rfl (lv_room (Nat.le_of_ble_eq_true rfl)) dX4_pass_10 ⟨Nat.zero_le _, Nat.zero_le _⟩) (fun H locs hH => ?_)
  obtain ⟨x3, v2, e3, h⟩ := mm_bnd2 h
  refine mm_goi hH (va_runV (As := [.int v1]) (rest := []) ⟨hx, hb, C.2.2.1, C.2.2.2.1, C.2.2.2.2.1⟩ (ct_X4_recordUnlessError l G T b z v1 x2 e3) (cwV 1 C.2.2.2.2.1 gX4_pass_X4_recordUnlessError rfl rfl rfl df_X4_recordUnlessError ⟨Nat.le_of_ble_eq_true rfl, Nat.le_of_ble_eq_true rfl⟩) ⟨mm_B.blind, mm_recv (q := (RX4, TX4, 7)) C hH kl_0 (mm_e4 kd_0) rfl, mm_pre C hH⟩ rfl rfl hl.1 rfl (lv_room (Nat.le_of_ble_eq_true rfl)) dX4_pass_13 ⟨Nat.zero_le _, Nat.zero_le _⟩) (fun H locs hH => ?_)
  exact mm_iret C hH hr hlk rfl h dX4_pass_16
def fn_X4_of (a1 : Int32) (a2 : Int32) (x : mm_M) : Option Int32 :=
  (fn_X3_find a1 x).bind fun o1 => mm_oc o1 (some ((-1) : Int32)) fun k1 => if mm_kd k1 = 1 then (fn_X1_tell k1 a2 x).bind fun v1 => some v1 else none
abbrev rm_X4_of : Room := { frames := 1, cells := 0, slots := 0, locals := 21 }
theorem df_X4_of : yX4_of.cls = RX4 ∧ yX4_of.cls ≠ "java/lang/invoke/MethodHandle" ∧ yX4_of.cls ≠ "java/lang/invoke/VarHandle" ∧ (parseMethodDescriptor yX4_of.desc).map (fun d => d.parameters.length) = some 2 := by decide +kernel
set_option maxRecDepth 100000 in
set_option maxHeartbeats 4000000 in
theorem ct_X4_of (l : Launch) (G : va_G) (T : Nat → ClassId) (b : Nat) (z : Nat → Nat) (a1 : Int32) (a2 : Int32) (x : mm_M) {r : Int32} (h : fn_X4_of a1 a2 x = some r) : mm_Ci l yX4_of wsX4_of rm_X4_of G T b z [.ref (b + 0), .int a1, .int a2] x r x := by
  unfold fn_X4_of at h
  refine mm_start (cc := cX4_of) (maxL := 4) (ret := (some .int)) (by decide) rfl (Nat.le_of_ble_eq_true rfl) (fun p e s m below meth c ls C hr hlk hH hl => ?_)
  have hl : lv_has ls 4 [(0, .ref (b + 0)), (1, .int a1), (2, .int a2)] := hl
  have hx := C.1
  have hb := C.2.1
  have w1 := C.2.2.2.2.1 (.fieldLink RX4 10 "LandingFines" "river" "LLandingFines$River;") (by decide +kernel)
  have hin4 : ∀ w ∈ wsX40, w ∈ wsX4_of := by decide +kernel
  refine lv_aload_n hx hb dX4_of_0 rfl (lv_at hl 0 rfl) ?_
  refine mm_get (v := .ref (b + 1)) C hH hin4 rfl kl_0 (mm_e4 kd_0) (j := 0) (by decide) rfl w1 rfl dX4_of_1 ?_
  refine lv_iload_n hx hb dX4_of_4 rfl (lv_at hl 1 rfl) ?_
  obtain ⟨o1, e1, h⟩ := mm_bnd h
  refine mm_goe hH (va_runV (As := [.int a1]) (rest := []) ⟨hx, hb, C.2.2.1, C.2.2.2.1, C.2.2.2.2.1⟩ (ct_X3_find l G T b z a1 x e1) (cwV 1 C.2.2.2.2.1 gX4_of_X3_find rfl rfl rfl df_X3_find ⟨Nat.le_of_ble_eq_true rfl, Nat.le_of_ble_eq_true rfl⟩) ⟨mm_B.blind, mm_recv (q := (RX3, TX3, 7)) C hH kl_1 (mm_e3 kd_1) rfl, mm_pre C hH⟩ rfl rfl hl.1 rfl (lv_room (Nat.le_of_ble_eq_true rfl)) dX4_of_5 ⟨Nat.zero_le _, Nat.zero_le _⟩) (fun H locs hH => ?_)
  rcases o1 with _ | k1
  · have h := mm_oc0 h
    refine mm_nul ?_
    refine lv_astore_nN (lv' := [(3, .null), (0, .ref (b + 0)), (1, .int a1), (2, .int a2)]) hx hb dX4_of_8 rfl hl (by decide) rfl (fun ls hl => ?_)
    have hl := lv_sub (l' := [(3, .null), (2, .int a2)]) hl [0, 3] rfl
    refine lv_aload_nN hx hb dX4_of_9 rfl (lv_at hl 0 rfl) ?_
    refine lv_ifnonnullN hx hb dX4_of_10 ?_
    have hl := lv_sub (l' := []) hl [] rfl
    refine lv_iconst (v := (-1)) hx hb dX4_of_13 (by decide) ?_
    refine lv_goto (tgt := 22) hx hb dX4_of_14 (by decide) ?_
    exact mm_iretP C hH hr hlk rfl h dX4_of_22
  · have h := mm_oc1 h
    obtain ⟨g1, h⟩ := mm_grd h
    refine mm_nun ?_
    refine lv_astore_n (lv' := [(3, .ref (b + k1)), (0, .ref (b + 0)), (1, .int a1), (2, .int a2)]) hx hb dX4_of_8 rfl hl (by decide) rfl (fun ls hl => ?_)
    have hl := lv_sub (l' := [(3, .ref (b + k1)), (2, .int a2)]) hl [0, 3] rfl
    refine lv_aload_n hx hb dX4_of_9 rfl (lv_at hl 0 rfl) ?_
    refine lv_ifnonnull (tgt := 17) hx hb dX4_of_10 (by decide) ?_
    refine lv_aload_n hx hb dX4_of_17 rfl (lv_at hl 0 rfl) ?_
    refine lv_iload_n hx hb dX4_of_18 rfl (lv_at hl 1 rfl) ?_
    obtain ⟨v1, e2, h⟩ := mm_bnd h
    refine mm_goi hH (va_runV (As := [.int a2]) (rest := []) ⟨hx, hb, C.2.2.1, C.2.2.2.1, C.2.2.2.2.1⟩ (ct_X1_tell l G T b z k1 a2 x e2) (cwV 1 C.2.2.2.2.1 gX4_of_X1_tell rfl rfl rfl df_X1_tell ⟨Nat.le_of_ble_eq_true rfl, Nat.le_of_ble_eq_true rfl⟩) ⟨mm_B.blind, mm_recv (q := (RX1, TX1, 8)) C hH (mm_lt g1 (by decide)) (mm_e1 g1) rfl, mm_pre C hH⟩ rfl rfl hl.1 rfl (lv_room (Nat.le_of_ble_eq_true rfl)) dX4_of_19 ⟨Nat.zero_le _, Nat.zero_le _⟩) (fun H locs hH => ?_)
    exact mm_iretP C hH hr hlk rfl h dX4_of_22
def fn_X4_count (a1 : Int32) (x : mm_M) : Option Int32 :=
  if a1 = 14 then some (x 19 1) else if a1 = 15 then some (x 0 2) else (fn_X3_tell a1 x).bind fun v1 => some v1
abbrev rm_X4_count : Room := { frames := 2, cells := 0, slots := 0, locals := 43 }
theorem df_X4_count : yX4_count.cls = RX4 ∧ yX4_count.cls ≠ "java/lang/invoke/MethodHandle" ∧ yX4_count.cls ≠ "java/lang/invoke/VarHandle" ∧ (parseMethodDescriptor yX4_count.desc).map (fun d => d.parameters.length) = some 1 := by decide +kernel
set_option maxRecDepth 100000 in
set_option maxHeartbeats 4000000 in
theorem ct_X4_count (l : Launch) (G : va_G) (T : Nat → ClassId) (b : Nat) (z : Nat → Nat) (a1 : Int32) (x : mm_M) {r : Int32} (h : fn_X4_count a1 x = some r) : mm_Ci l yX4_count wsX4_count rm_X4_count G T b z [.ref (b + 0), .int a1] x r x := by
  unfold fn_X4_count at h
  refine mm_start (cc := cX4_count) (maxL := 2) (ret := (some .int)) (by decide) rfl (Nat.le_of_ble_eq_true rfl) (fun p e s m below meth c ls C hr hlk hH hl => ?_)
  have hl : lv_has ls 2 [(0, .ref (b + 0)), (1, .int a1)] := hl
  have hx := C.1
  have hb := C.2.1
  have w1 := C.2.2.2.2.1 (.fieldLink RX4 10 "LandingFines" "river" "LLandingFines$River;") (by decide +kernel)
  have w2 := C.2.2.2.2.1 (.fieldLink RX4 20 "LandingFines" "historySize" "I") (by decide +kernel)
  have w3 := C.2.2.2.2.1 (.fieldLink RX4 34 "LandingFines" "pad" "LLandingFines$Pad;") (by decide +kernel)
  have w4 := C.2.2.2.2.1 (.fieldLink RX4 78 "LandingFines$Pad" "length" "I") (by decide +kernel)
  have hin2 : ∀ w ∈ wsX20, w ∈ wsX4_count := by decide +kernel
  have hin4 : ∀ w ∈ wsX40, w ∈ wsX4_count := by decide +kernel
  refine lv_iload_n hx hb dX4_count_0 rfl (lv_at hl 1 rfl) ?_
  refine lv_bipush (v := 14) hx hb dX4_count_1 (by decide) ?_
  refine lv_icmp_ne (tgt := 14) hx hb dX4_count_3 (by decide) (fun c1 => ?_) (fun c1 => ?_)
  · have h := mm_neg c1 h
    refine lv_iload_n hx hb dX4_count_14 rfl (lv_at hl 1 rfl) ?_
    refine lv_bipush (v := 15) hx hb dX4_count_15 (by decide) ?_
    refine lv_icmp_ne (tgt := 25) hx hb dX4_count_17 (by decide) (fun c2 => ?_) (fun c2 => ?_)
    · have h := mm_neg c2 h
      refine lv_aload_n hx hb dX4_count_25 rfl (lv_at hl 0 rfl) ?_
      refine mm_get (v := .ref (b + 1)) C hH hin4 rfl kl_0 (mm_e4 kd_0) (j := 0) (by decide) rfl w1 rfl dX4_count_26 ?_
      refine lv_iload_n hx hb dX4_count_29 rfl (lv_at hl 1 rfl) ?_
      obtain ⟨v1, e1, h⟩ := mm_bnd h
      refine mm_goi hH (va_runV (As := [.int a1]) (rest := []) ⟨hx, hb, C.2.2.1, C.2.2.2.1, C.2.2.2.2.1⟩ (ct_X3_tell l G T b z a1 x e1) (cwV 1 C.2.2.2.2.1 gX4_count_X3_tell rfl rfl rfl df_X3_tell ⟨Nat.le_of_ble_eq_true rfl, Nat.le_of_ble_eq_true rfl⟩) ⟨mm_B.blind, mm_recv (q := (RX3, TX3, 7)) C hH kl_1 (mm_e3 kd_1) rfl, mm_pre C hH⟩ rfl rfl hl.1 rfl (lv_room (Nat.le_of_ble_eq_true rfl)) dX4_count_30 ⟨Nat.zero_le _, Nat.zero_le _⟩) (fun H locs hH => ?_)
      exact mm_iretP C hH hr hlk rfl h dX4_count_33
    · have h := mm_pos c2 h
      have hl := lv_sub (l' := [(0, .ref (b + 0))]) hl [0] rfl
      refine lv_aload_n hx hb dX4_count_20 rfl (lv_at hl 0 rfl) ?_
      refine mm_get (v := .int (x 0 2)) C hH hin4 rfl kl_0 (mm_e4 kd_0) (j := 2) (by decide) rfl w2 rfl dX4_count_21 ?_
      exact mm_iretP C hH hr hlk rfl h dX4_count_24
  · have h := mm_pos c1 h
    have hl := lv_sub (l' := [(0, .ref (b + 0))]) hl [0] rfl
    refine lv_aload_n hx hb dX4_count_6 rfl (lv_at hl 0 rfl) ?_
    refine mm_get (v := .ref (b + 19)) C hH hin4 rfl kl_0 (mm_e4 kd_0) (j := 5) (by decide) rfl w3 rfl dX4_count_7 ?_
    refine mm_get (v := .int (x 19 1)) C hH hin2 rfl kl_19 (mm_e2 kd_19) (j := 1) (by decide) rfl w4 rfl dX4_count_10 ?_
    exact mm_iretP C hH hr hlk rfl h dX4_count_13
def fn_X4_choice (a1 : Int32) (x : mm_M) : Option Int32 :=
  (fn_X3_chosen a1 x).bind fun v1 => some v1
abbrev rm_X4_choice : Room := { frames := 3, cells := 0, slots := 0, locals := 67 }
theorem df_X4_choice : yX4_choice.cls = RX4 ∧ yX4_choice.cls ≠ "java/lang/invoke/MethodHandle" ∧ yX4_choice.cls ≠ "java/lang/invoke/VarHandle" ∧ (parseMethodDescriptor yX4_choice.desc).map (fun d => d.parameters.length) = some 1 := by decide +kernel
set_option maxRecDepth 100000 in
set_option maxHeartbeats 4000000 in
theorem ct_X4_choice (l : Launch) (G : va_G) (T : Nat → ClassId) (b : Nat) (z : Nat → Nat) (a1 : Int32) (x : mm_M) {r : Int32} (h : fn_X4_choice a1 x = some r) : mm_Ci l yX4_choice wsX4_choice rm_X4_choice G T b z [.ref (b + 0), .int a1] x r x := by
  unfold fn_X4_choice at h
  refine mm_start (cc := cX4_choice) (maxL := 2) (ret := (some .int)) (by decide) rfl (Nat.le_of_ble_eq_true rfl) (fun p e s m below meth c ls C hr hlk hH hl => ?_)
  have hl : lv_has ls 2 [(0, .ref (b + 0)), (1, .int a1)] := hl
  have hx := C.1
  have hb := C.2.1
  have w1 := C.2.2.2.2.1 (.fieldLink RX4 10 "LandingFines" "river" "LLandingFines$River;") (by decide +kernel)
  have hin4 : ∀ w ∈ wsX40, w ∈ wsX4_choice := by decide +kernel
  refine lv_aload_n hx hb dX4_choice_0 rfl (lv_at hl 0 rfl) ?_
  refine mm_get (v := .ref (b + 1)) C hH hin4 rfl kl_0 (mm_e4 kd_0) (j := 0) (by decide) rfl w1 rfl dX4_choice_1 ?_
  refine lv_iload_n hx hb dX4_choice_4 rfl (lv_at hl 1 rfl) ?_
  obtain ⟨v1, e1, h⟩ := mm_bnd h
  refine mm_goi hH (va_runV (As := [.int a1]) (rest := []) ⟨hx, hb, C.2.2.1, C.2.2.2.1, C.2.2.2.2.1⟩ (ct_X3_chosen l G T b z a1 x e1) (cwV 1 C.2.2.2.2.1 gX4_choice_X3_chosen rfl rfl rfl df_X3_chosen ⟨Nat.le_of_ble_eq_true rfl, Nat.le_of_ble_eq_true rfl⟩) ⟨mm_B.blind, mm_recv (q := (RX3, TX3, 7)) C hH kl_1 (mm_e3 kd_1) rfl, mm_pre C hH⟩ rfl rfl hl.1 rfl (lv_room (Nat.le_of_ble_eq_true rfl)) dX4_choice_5 ⟨Nat.zero_le _, Nat.zero_le _⟩) (fun H locs hH => ?_)
  exact mm_iretP C hH hr hlk rfl h dX4_choice_8
def fn_X4_log (a1 : Int32) (a2 : Int32) (x : mm_M) : Option Int32 :=
  (fn_X0_tell a1 a2 x).bind fun v1 => some v1
abbrev rm_X4_log : Room := { frames := 1, cells := 0, slots := 0, locals := 23 }
theorem df_X4_log : yX4_log.cls = RX4 ∧ yX4_log.cls ≠ "java/lang/invoke/MethodHandle" ∧ yX4_log.cls ≠ "java/lang/invoke/VarHandle" ∧ (parseMethodDescriptor yX4_log.desc).map (fun d => d.parameters.length) = some 2 := by decide +kernel
set_option maxRecDepth 100000 in
set_option maxHeartbeats 4000000 in
theorem ct_X4_log (l : Launch) (G : va_G) (T : Nat → ClassId) (b : Nat) (z : Nat → Nat) (a1 : Int32) (a2 : Int32) (x : mm_M) {r : Int32} (h : fn_X4_log a1 a2 x = some r) : mm_Ci l yX4_log wsX4_log rm_X4_log G T b z [.ref (b + 0), .int a1, .int a2] x r x := by
  unfold fn_X4_log at h
  refine mm_start (cc := cX4_log) (maxL := 3) (ret := (some .int)) (by decide) rfl (Nat.le_of_ble_eq_true rfl) (fun p e s m below meth c ls C hr hlk hH hl => ?_)
  have hl : lv_has ls 3 [(0, .ref (b + 0)), (1, .int a1), (2, .int a2)] := hl
  have hx := C.1
  have hb := C.2.1
  have w1 := C.2.2.2.2.1 (.fieldLink RX4 10 "LandingFines" "river" "LLandingFines$River;") (by decide +kernel)
  have w2 := C.2.2.2.2.1 (.fieldLink RX4 85 "LandingFines$River" "journal" "LLandingFines$Journal;") (by decide +kernel)
  have hin3 : ∀ w ∈ wsX30, w ∈ wsX4_log := by decide +kernel
  have hin4 : ∀ w ∈ wsX40, w ∈ wsX4_log := by decide +kernel
  refine lv_aload_n hx hb dX4_log_0 rfl (lv_at hl 0 rfl) ?_
  refine mm_get (v := .ref (b + 1)) C hH hin4 rfl kl_0 (mm_e4 kd_0) (j := 0) (by decide) rfl w1 rfl dX4_log_1 ?_
  refine mm_get (v := .ref (b + 4)) C hH hin3 rfl kl_1 (mm_e3 kd_1) (j := 6) (by decide) rfl w2 rfl dX4_log_4 ?_
  refine lv_iload_n hx hb dX4_log_7 rfl (lv_at hl 1 rfl) ?_
  refine lv_iload_n hx hb dX4_log_8 rfl (lv_at hl 2 rfl) ?_
  obtain ⟨v1, e1, h⟩ := mm_bnd h
  refine mm_goi hH (va_runV (As := [.int a1, .int a2]) (rest := []) ⟨hx, hb, C.2.2.1, C.2.2.2.1, C.2.2.2.2.1⟩ (ct_X0_tell l G T b z a1 a2 x e1) (cwV 2 C.2.2.2.2.1 gX4_log_X0_tell rfl rfl rfl df_X0_tell ⟨Nat.le_of_ble_eq_true rfl, Nat.le_of_ble_eq_true rfl⟩) ⟨mm_B.blind, mm_recv (q := (RX0, TX0, 5)) C hH kl_4 (mm_e0 kd_4) rfl, mm_pre C hH⟩ rfl rfl hl.1 rfl (lv_room (Nat.le_of_ble_eq_true rfl)) dX4_log_9 ⟨Nat.zero_le _, Nat.zero_le _⟩) (fun H locs hH => ?_)
  exact mm_iretP C hH hr hlk rfl h dX4_log_12
def fn_X4_why (a1 : Int32) (x : mm_M) : Option Int32 :=
  (fn_X3_find a1 x).bind fun o1 => mm_oc o1 (some ((-1) : Int32)) fun k1 => if mm_kd k1 = 1 then if a1 = (x 1 4) then some (0 : Int32) else if (x k1 0) = 0 then some (1 : Int32) else if (x k1 3) = 0 then some (3 : Int32) else some (2 : Int32) else none
abbrev rm_X4_why : Room := { frames := 1, cells := 0, slots := 0, locals := 21 }
theorem df_X4_why : yX4_why.cls = RX4 ∧ yX4_why.cls ≠ "java/lang/invoke/MethodHandle" ∧ yX4_why.cls ≠ "java/lang/invoke/VarHandle" ∧ (parseMethodDescriptor yX4_why.desc).map (fun d => d.parameters.length) = some 1 := by decide +kernel
set_option maxRecDepth 100000 in
set_option maxHeartbeats 4000000 in
theorem ct_X4_why (l : Launch) (G : va_G) (T : Nat → ClassId) (b : Nat) (z : Nat → Nat) (a1 : Int32) (x : mm_M) {r : Int32} (h : fn_X4_why a1 x = some r) : mm_Ci l yX4_why wsX4_why rm_X4_why G T b z [.ref (b + 0), .int a1] x r x := by
  unfold fn_X4_why at h
  refine mm_start (cc := cX4_why) (maxL := 3) (ret := (some .int)) (by decide) rfl (Nat.le_of_ble_eq_true rfl) (fun p e s m below meth c ls C hr hlk hH hl => ?_)
  have hl : lv_has ls 3 [(0, .ref (b + 0)), (1, .int a1)] := hl
  have hx := C.1
  have hb := C.2.1
  have w1 := C.2.2.2.2.1 (.fieldLink RX4 10 "LandingFines" "river" "LLandingFines$River;") (by decide +kernel)
  have w2 := C.2.2.2.2.1 (.fieldLink RX4 93 "LandingFines$River" "taken" "I") (by decide +kernel)
  have w3 := C.2.2.2.2.1 (.fieldLink RX4 96 "LandingFines$Landing" "isOpen" "Z") (by decide +kernel)
  have w4 := C.2.2.2.2.1 (.fieldLink RX4 100 "LandingFines$Landing" "isShunned" "Z") (by decide +kernel)
  have hin1 : ∀ w ∈ wsX10, w ∈ wsX4_why := by decide +kernel
  have hin3 : ∀ w ∈ wsX30, w ∈ wsX4_why := by decide +kernel
  have hin4 : ∀ w ∈ wsX40, w ∈ wsX4_why := by decide +kernel
  refine lv_aload_n hx hb dX4_why_0 rfl (lv_at hl 0 rfl) ?_
  refine mm_get (v := .ref (b + 1)) C hH hin4 rfl kl_0 (mm_e4 kd_0) (j := 0) (by decide) rfl w1 rfl dX4_why_1 ?_
  refine lv_iload_n hx hb dX4_why_4 rfl (lv_at hl 1 rfl) ?_
  obtain ⟨o1, e1, h⟩ := mm_bnd h
  refine mm_goe hH (va_runV (As := [.int a1]) (rest := []) ⟨hx, hb, C.2.2.1, C.2.2.2.1, C.2.2.2.2.1⟩ (ct_X3_find l G T b z a1 x e1) (cwV 1 C.2.2.2.2.1 gX4_why_X3_find rfl rfl rfl df_X3_find ⟨Nat.le_of_ble_eq_true rfl, Nat.le_of_ble_eq_true rfl⟩) ⟨mm_B.blind, mm_recv (q := (RX3, TX3, 7)) C hH kl_1 (mm_e3 kd_1) rfl, mm_pre C hH⟩ rfl rfl hl.1 rfl (lv_room (Nat.le_of_ble_eq_true rfl)) dX4_why_5 ⟨Nat.zero_le _, Nat.zero_le _⟩) (fun H locs hH => ?_)
  rcases o1 with _ | k1
  · have h := mm_oc0 h
    refine mm_nul ?_
    refine lv_astore_nN (lv' := [(2, .null), (0, .ref (b + 0)), (1, .int a1)]) hx hb dX4_why_8 rfl hl (by decide) rfl (fun ls hl => ?_)
    refine lv_aload_nN hx hb dX4_why_9 rfl (lv_at hl 0 rfl) ?_
    refine lv_ifnonnullN hx hb dX4_why_10 ?_
    have hl := lv_sub (l' := []) hl [] rfl
    refine lv_iconst (v := (-1)) hx hb dX4_why_13 (by decide) ?_
    exact mm_iretP C hH hr hlk rfl h dX4_why_14
  · have h := mm_oc1 h
    obtain ⟨g1, h⟩ := mm_grd h
    refine mm_nun ?_
    refine lv_astore_n (lv' := [(2, .ref (b + k1)), (0, .ref (b + 0)), (1, .int a1)]) hx hb dX4_why_8 rfl hl (by decide) rfl (fun ls hl => ?_)
    refine lv_aload_n hx hb dX4_why_9 rfl (lv_at hl 0 rfl) ?_
    refine lv_ifnonnull (tgt := 15) hx hb dX4_why_10 (by decide) ?_
    refine lv_iload_n hx hb dX4_why_15 rfl (lv_at hl 2 rfl) ?_
    refine lv_aload_n hx hb dX4_why_16 rfl (lv_at hl 1 rfl) ?_
    refine mm_get (v := .ref (b + 1)) C hH hin4 rfl kl_0 (mm_e4 kd_0) (j := 0) (by decide) rfl w1 rfl dX4_why_17 ?_
    refine mm_get (v := .int (x 1 4)) C hH hin3 rfl kl_1 (mm_e3 kd_1) (j := 4) (by decide) rfl w2 rfl dX4_why_20 ?_
    refine lv_icmp_ne (tgt := 28) hx hb dX4_why_23 (by decide) (fun c1 => ?_) (fun c1 => ?_)
    · have h := mm_neg c1 h
      have hl := lv_sub (l' := [(2, .ref (b + k1))]) hl [0] rfl
      refine lv_aload_n hx hb dX4_why_28 rfl (lv_at hl 0 rfl) ?_
      refine mm_get (v := .int (x k1 0)) C hH hin1 rfl (mm_lt g1 (by decide)) (mm_e1 g1) (j := 0) (by decide) rfl w3 rfl dX4_why_29 ?_
      refine lv_if_ne (tgt := 37) hx hb dX4_why_32 (by decide) (fun c2 => ?_) (fun c2 => ?_)
      · have h := mm_neg c2 h
        refine lv_aload_n hx hb dX4_why_37 rfl (lv_at hl 0 rfl) ?_
        refine mm_get (v := .int (x k1 3)) C hH hin1 rfl (mm_lt g1 (by decide)) (mm_e1 g1) (j := 3) (by decide) rfl w4 rfl dX4_why_38 ?_
        refine lv_if_eq (tgt := 48) hx hb dX4_why_41 (by decide) (fun c3 => ?_) (fun c3 => ?_)
        · have h := mm_pos c3 h
          have hl := lv_sub (l' := []) hl [] rfl
          refine lv_iconst (v := 3) hx hb dX4_why_48 (by decide) ?_
          exact mm_iretP C hH hr hlk rfl h dX4_why_49
        · have h := mm_neg c3 h
          have hl := lv_sub (l' := []) hl [] rfl
          refine lv_iconst (v := 2) hx hb dX4_why_44 (by decide) ?_
          refine lv_goto (tgt := 49) hx hb dX4_why_45 (by decide) ?_
          exact mm_iretP C hH hr hlk rfl h dX4_why_49
      · have h := mm_pos c2 h
        have hl := lv_sub (l' := []) hl [] rfl
        refine lv_iconst (v := 1) hx hb dX4_why_35 (by decide) ?_
        exact mm_iretP C hH hr hlk rfl h dX4_why_36
    · have h := mm_pos c1 h
      have hl := lv_sub (l' := []) hl [] rfl
      refine lv_iconst (v := 0) hx hb dX4_why_26 (by decide) ?_
      exact mm_iretP C hH hr hlk rfl h dX4_why_27
