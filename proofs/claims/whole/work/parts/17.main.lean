def fn_X4_keepState  (x : mm_M) : Option mm_M :=
  if (x 0 2) < 0 ∨ 7 ≤ Int32.toNatClampNeg (x 0 2) then none else if mm_kd (Int32.toNatClampNeg (x 16 (Int32.toNatClampNeg (x 0 2)))) = 3 then (fn_X3_copyFrom (Int32.toNatClampNeg (x 16 (Int32.toNatClampNeg (x 0 2)))) 1 x).bind fun x1 => some x1 else none
abbrev rm_X4_keepState : Room := { frames := 3, cells := 0, slots := 0, locals := 69 }
theorem df_X4_keepState : yX4_keepState.cls = RX4 ∧ yX4_keepState.cls ≠ "java/lang/invoke/MethodHandle" ∧ yX4_keepState.cls ≠ "java/lang/invoke/VarHandle" ∧ (parseMethodDescriptor yX4_keepState.desc).map (fun d => d.parameters.length) = some 0 := by decide +kernel
set_option maxRecDepth 100000 in
set_option maxHeartbeats 4000000 in
theorem ct_X4_keepState (l : Launch) (G : va_G) (T : Nat → ClassId) (b : Nat) (z : Nat → Nat)  (x : mm_M) {x1 : mm_M} (h : fn_X4_keepState  x = some x1) : mm_Cv l yX4_keepState wsX4_keepState rm_X4_keepState G T b z [.ref (b + 0)] x x1 := by
  unfold fn_X4_keepState at h
  refine mm_start (cc := cX4_keepState) (maxL := 1) (ret := none) (by decide) rfl (Nat.le_of_ble_eq_true rfl) (fun p e s m below meth c ls C hr hlk hH hl => ?_)
  have hl : lv_has ls 1 [(0, .ref (b + 0))] := hl
  have hx := C.1
  have hb := C.2.1
  have w1 := C.2.2.2.2.1 (.fieldLink RX4 16 "LandingFines" "history" "[LLandingFines$River;") (by decide +kernel)
  have w2 := C.2.2.2.2.1 (.fieldLink RX4 20 "LandingFines" "historySize" "I") (by decide +kernel)
  have w3 := C.2.2.2.2.1 (.fieldLink RX4 10 "LandingFines" "river" "LLandingFines$River;") (by decide +kernel)
  have hin4 : ∀ w ∈ wsX40, w ∈ wsX4_keepState := by decide +kernel
  refine lv_aload_n hx hb dX4_keepState_0 rfl (lv_at hl 0 rfl) ?_
  refine mm_get (v := .ref (b + 16)) C hH hin4 rfl kl_0 (mm_e4 kd_0) (j := 1) (by decide) rfl w1 rfl dX4_keepState_1 ?_
  refine lv_aload_n hx hb dX4_keepState_4 rfl (lv_at hl 0 rfl) ?_
  refine mm_get (v := .int (x 0 2)) C hH hin4 rfl kl_0 (mm_e4 kd_0) (j := 2) (by decide) rfl w2 rfl dX4_keepState_5 ?_
  obtain ⟨g1, h⟩ := mm_grn h
  refine mm_ald10 C hH kd_16 g1 dX4_keepState_8 ?_
  obtain ⟨g2, h⟩ := mm_grd h
  refine lv_aload_n hx hb dX4_keepState_9 rfl (lv_at hl 0 rfl) ?_
  refine mm_get (v := .ref (b + 1)) C hH hin4 rfl kl_0 (mm_e4 kd_0) (j := 0) (by decide) rfl w3 rfl dX4_keepState_10 ?_
  obtain ⟨x1, e1, h⟩ := mm_bnd h
  refine mm_gov hH (va_runV (As := [.ref (b + 1)]) (rest := []) ⟨hx, hb, C.2.2.1, C.2.2.2.1, C.2.2.2.2.1⟩ (ct_X3_copyFrom l G T b z (Int32.toNatClampNeg (x 16 (Int32.toNatClampNeg (x 0 2)))) 1 x e1) (cwV 1 C.2.2.2.2.1 gX4_keepState_X3_copyFrom rfl rfl rfl df_X3_copyFrom ⟨Nat.le_of_ble_eq_true rfl, Nat.le_of_ble_eq_true rfl⟩) ⟨mm_B.blind, mm_recv (q := (RX3, TX3, 7)) C hH (mm_lt g2 (by decide)) (mm_e3 g2) rfl, mm_pre C hH⟩ rfl rfl hl.1 rfl (lv_room (Nat.le_of_ble_eq_true rfl)) dX4_keepState_13 ⟨Nat.zero_le _, Nat.zero_le _⟩) (fun H locs hH => ?_)
  exact mm_vret C hH hr hlk h dX4_keepState_16
def fn_X4_dropOldest_9 : Nat → Nat → Int32 → mm_M → Option mm_M
  | 0, _, _, _ => none
  | n + 1, k1, i2, x => if (6 : Int32) ≤ i2 then some (x) else if (i2 + 1) < 0 ∨ 7 ≤ Int32.toNatClampNeg (i2 + 1) then none else if mm_kd (Int32.toNatClampNeg (x 16 (Int32.toNatClampNeg (i2 + 1)))) = 3 then if i2 < 0 ∨ 7 ≤ Int32.toNatClampNeg i2 then none else (some (mm_up x 16 (Int32.toNatClampNeg i2) (nI (Int32.toNatClampNeg (x 16 (Int32.toNatClampNeg (i2 + 1))))))).bind fun x1 => (some (i2 + 1)).bind fun v1 => fn_X4_dropOldest_9 n k1 v1 x1 else none
def fn_X4_dropOldest  (x : mm_M) : Option mm_M :=
  if mm_kd (Int32.toNatClampNeg (x 16 (Int32.toNatClampNeg 0))) = 3 then (fn_X4_dropOldest_9 7 (Int32.toNatClampNeg (x 16 (Int32.toNatClampNeg 0))) 0 x).bind fun x1 => (some (mm_up x1 16 (Int32.toNatClampNeg 6) (nI (Int32.toNatClampNeg (x 16 (Int32.toNatClampNeg 0)))))).bind fun x2 => some x2 else none
abbrev rm_X4_dropOldest : Room := { frames := 0, cells := 0, slots := 0, locals := 0 }
theorem df_X4_dropOldest : yX4_dropOldest.cls = RX4 ∧ yX4_dropOldest.cls ≠ "java/lang/invoke/MethodHandle" ∧ yX4_dropOldest.cls ≠ "java/lang/invoke/VarHandle" ∧ (parseMethodDescriptor yX4_dropOldest.desc).map (fun d => d.parameters.length) = some 0 := by decide +kernel
set_option maxRecDepth 100000 in
set_option maxHeartbeats 4000000 in
theorem lp_X4_dropOldest_9 {p : Program} {l : Launch} {e : Env} {s : State} {m : MethodId} {args : Array Value} {below : List Frame} {meth : Method} {c : Code} {Q : State → Prop} {G : va_G} {T : Nat → ClassId} {b : Nat} {z : Nat → Nat} (C : mm_C p m c cX4_dropOldest 3 s args wsX4_dropOldest RX4 G T b z) (k1 : Nat) (hk1 : mm_kd k1 = 3) : ∀ (n : Nat) (i2 : Int32) (x : mm_M) (H : Heap) (locs : List Loc) (ls : Array Slot) (x1 : mm_M), fn_X4_dropOldest_9 n k1 i2 x = some (x1) → mm_H G T b x s H locs → lv_has ls 3 [(0, .ref (b + 0)), (1, .ref (b + k1)), (2, .int i2)] → (∀ (H1 : Heap) (locs1 : List Loc) (ls1 : Array Slot), mm_H G T b x1 s H1 locs1 → lv_has ls1 3 [(0, .ref (b + 0)), (1, .ref (b + k1))] → W p l e rm_X4_dropOldest s m args below meth c H1 locs1 0 0 Q (F0 m 35 ls1 [])) → W p l e rm_X4_dropOldest s m args below meth c H locs 0 0 Q (F0 m 9 ls []) := by
  have hx := C.1
  have hb := C.2.1
  have w1 := C.2.2.2.2.1 (.fieldLink RX4 16 "LandingFines" "history" "[LLandingFines$River;") (by decide +kernel)
  have hin4 : ∀ w ∈ wsX40, w ∈ wsX4_dropOldest := by decide +kernel
  have hk1l := mm_lt hk1 (by decide)
  intro n
  induction n with
  | zero => intro _ _ _ _ _ _ h; cases (show (none : Option mm_M) = some _ from h)
  | succ n ih =>
    intro i2 x H locs ls x1 h hH hl kk
    rw [fn_X4_dropOldest_9] at h
    refine lv_iload_n hx hb dX4_dropOldest_9 rfl (lv_at hl 2 rfl) ?_
    refine lv_bipush (v := 6) hx hb dX4_dropOldest_10 (by decide) ?_
    refine lv_icmp_ge (tgt := 35) hx hb dX4_dropOldest_12 (by decide) (fun c1 => ?_) (fun c1 => ?_)
    · have h := mm_pos c1 h
      have hl := lv_sub (l' := [(0, .ref (b + 0)), (1, .ref (b + k1))]) hl [0, 1] rfl
      cases h
      exact kk _ _ _ hH (lv_sub hl [0, 1] rfl)
    · have h := mm_neg c1 h
      refine lv_aload_n hx hb dX4_dropOldest_15 rfl (lv_at hl 0 rfl) ?_
      refine mm_get (v := .ref (b + 16)) C hH hin4 rfl kl_0 (mm_e4 kd_0) (j := 1) (by decide) rfl w1 rfl dX4_dropOldest_16 ?_
      refine lv_iload_n hx hb dX4_dropOldest_19 rfl (lv_at hl 2 rfl) ?_
      refine lv_aload_n hx hb dX4_dropOldest_20 rfl (lv_at hl 0 rfl) ?_
      refine mm_get (v := .ref (b + 16)) C hH hin4 rfl kl_0 (mm_e4 kd_0) (j := 1) (by decide) rfl w1 rfl dX4_dropOldest_21 ?_
      refine lv_iload_n hx hb dX4_dropOldest_24 rfl (lv_at hl 2 rfl) ?_
      refine lv_iconst (v := 1) hx hb dX4_dropOldest_25 (by decide) ?_
      refine lv_iadd hx hb dX4_dropOldest_26 ?_
      obtain ⟨g1, h⟩ := mm_grn h
      refine mm_ald10 C hH kd_16 g1 dX4_dropOldest_27 ?_
      obtain ⟨g2, h⟩ := mm_grd h
      obtain ⟨g3, h⟩ := mm_grn h
      obtain ⟨x1, e1, h⟩ := mm_bnd h
      refine mm_ast10 C hH kd_16 g2 g3 (Option.some.inj e1) dX4_dropOldest_28 (fun H locs hH => ?_)
      obtain ⟨v1, e2, h⟩ := mm_bnd h
      refine lv_iinc (v := v1) (lv' := [(2, .int v1), (0, .ref (b + 0)), (1, .ref (b + k1))]) hx hb dX4_dropOldest_29 hl (k := 2) rfl (Option.some.inj e2) (by decide) rfl (fun ls hl => ?_)
      refine lv_goto (tgt := 9) hx hb dX4_dropOldest_32 (by decide) ?_
      exact ih v1 x1 _ _ _ _ h hH (lv_sub hl [1, 2, 0] rfl) kk
set_option maxRecDepth 100000 in
set_option maxHeartbeats 4000000 in
theorem ct_X4_dropOldest (l : Launch) (G : va_G) (T : Nat → ClassId) (b : Nat) (z : Nat → Nat)  (x : mm_M) {x1 : mm_M} (h : fn_X4_dropOldest  x = some x1) : mm_Cv l yX4_dropOldest wsX4_dropOldest rm_X4_dropOldest G T b z [.ref (b + 0)] x x1 := by
  unfold fn_X4_dropOldest at h
  refine mm_start (cc := cX4_dropOldest) (maxL := 3) (ret := none) (by decide) rfl (Nat.le_of_ble_eq_true rfl) (fun p e s m below meth c ls C hr hlk hH hl => ?_)
  have hl : lv_has ls 3 [(0, .ref (b + 0))] := hl
  have hx := C.1
  have hb := C.2.1
  have w1 := C.2.2.2.2.1 (.fieldLink RX4 16 "LandingFines" "history" "[LLandingFines$River;") (by decide +kernel)
  have hin4 : ∀ w ∈ wsX40, w ∈ wsX4_dropOldest := by decide +kernel
  refine lv_aload_n hx hb dX4_dropOldest_0 rfl (lv_at hl 0 rfl) ?_
  refine mm_get (v := .ref (b + 16)) C hH hin4 rfl kl_0 (mm_e4 kd_0) (j := 1) (by decide) rfl w1 rfl dX4_dropOldest_1 ?_
  refine lv_iconst (v := 0) hx hb dX4_dropOldest_4 (by decide) ?_
  refine mm_ald10 C hH kd_16 (by decide) dX4_dropOldest_5 ?_
  obtain ⟨g1, h⟩ := mm_grd h
  refine lv_astore_n (lv' := [(1, .ref (b + (Int32.toNatClampNeg (x 16 (Int32.toNatClampNeg 0))))), (0, .ref (b + 0))]) hx hb dX4_dropOldest_6 rfl hl (by decide) rfl (fun ls hl => ?_)
  refine lv_iconst (v := 0) hx hb dX4_dropOldest_7 (by decide) ?_
  refine lv_istore_n (lv' := [(2, .int 0), (1, .ref (b + (Int32.toNatClampNeg (x 16 (Int32.toNatClampNeg 0))))), (0, .ref (b + 0))]) hx hb dX4_dropOldest_8 rfl hl (by decide) rfl (fun ls hl => ?_)
  obtain ⟨x1, e1, h⟩ := mm_bnd h
  refine lp_X4_dropOldest_9 C (Int32.toNatClampNeg (x 16 (Int32.toNatClampNeg 0))) g1 7 0 x _ _ _ _ e1 hH (lv_sub hl [2, 1, 0] rfl) (fun H locs ls hH hl => ?_)
  refine lv_aload_n hx hb dX4_dropOldest_35 rfl (lv_at hl 0 rfl) ?_
  refine mm_get (v := .ref (b + 16)) C hH hin4 rfl kl_0 (mm_e4 kd_0) (j := 1) (by decide) rfl w1 rfl dX4_dropOldest_36 ?_
  refine lv_bipush (v := 6) hx hb dX4_dropOldest_39 (by decide) ?_
  refine lv_aload_n hx hb dX4_dropOldest_41 rfl (lv_at hl 1 rfl) ?_
  obtain ⟨x2, e2, h⟩ := mm_bnd h
  refine mm_ast10 C hH kd_16 g1 (by decide) (Option.some.inj e2) dX4_dropOldest_42 (fun H locs hH => ?_)
  exact mm_vret C hH hr hlk h dX4_dropOldest_43
def fn_X4_recordUnlessError (a1 : Int32) (x : mm_M) : Option (mm_M × Int32) :=
  if (0 : Int32) ≤ a1 then if (6 : Int32) ≤ (x 0 2) then (fn_X4_dropOldest x).bind fun x1 => some (x1, a1) else (some (mm_up x 0 2 ((x 0 2) + 1))).bind fun x2 => some (x2, a1) else some (x, a1)
abbrev rm_X4_recordUnlessError : Room := { frames := 1, cells := 0, slots := 0, locals := 22 }
theorem df_X4_recordUnlessError : yX4_recordUnlessError.cls = RX4 ∧ yX4_recordUnlessError.cls ≠ "java/lang/invoke/MethodHandle" ∧ yX4_recordUnlessError.cls ≠ "java/lang/invoke/VarHandle" ∧ (parseMethodDescriptor yX4_recordUnlessError.desc).map (fun d => d.parameters.length) = some 1 := by decide +kernel
set_option maxRecDepth 100000 in
set_option maxHeartbeats 4000000 in
theorem ct_X4_recordUnlessError (l : Launch) (G : va_G) (T : Nat → ClassId) (b : Nat) (z : Nat → Nat) (a1 : Int32) (x : mm_M) {x1 : mm_M} {r : Int32} (h : fn_X4_recordUnlessError a1 x = some (x1, r)) : mm_Ci l yX4_recordUnlessError wsX4_recordUnlessError rm_X4_recordUnlessError G T b z [.ref (b + 0), .int a1] x r x1 := by
  unfold fn_X4_recordUnlessError at h
  refine mm_start (cc := cX4_recordUnlessError) (maxL := 2) (ret := (some .int)) (by decide) rfl (Nat.le_of_ble_eq_true rfl) (fun p e s m below meth c ls C hr hlk hH hl => ?_)
  have hl : lv_has ls 2 [(0, .ref (b + 0)), (1, .int a1)] := hl
  have hx := C.1
  have hb := C.2.1
  have w1 := C.2.2.2.2.1 (.fieldLink RX4 20 "LandingFines" "historySize" "I") (by decide +kernel)
  have hin4 : ∀ w ∈ wsX40, w ∈ wsX4_recordUnlessError := by decide +kernel
  refine lv_iload_n hx hb dX4_recordUnlessError_0 rfl (lv_at hl 1 rfl) ?_
  refine lv_if_ge (tgt := 6) hx hb dX4_recordUnlessError_1 (by decide) (fun c1 => ?_) (fun c1 => ?_)
  · have h := mm_pos c1 h
    refine lv_aload_n hx hb dX4_recordUnlessError_6 rfl (lv_at hl 0 rfl) ?_
    refine mm_get (v := .int (x 0 2)) C hH hin4 rfl kl_0 (mm_e4 kd_0) (j := 2) (by decide) rfl w1 rfl dX4_recordUnlessError_7 ?_
    refine lv_bipush (v := 6) hx hb dX4_recordUnlessError_10 (by decide) ?_
    refine lv_icmp_ge (tgt := 28) hx hb dX4_recordUnlessError_12 (by decide) (fun c2 => ?_) (fun c2 => ?_)
    · have h := mm_pos c2 h
      refine lv_aload_n hx hb dX4_recordUnlessError_28 rfl (lv_at hl 0 rfl) ?_
      obtain ⟨x1, e1, h⟩ := mm_bnd h
      refine mm_gov hH (va_runV (As := []) (rest := []) ⟨hx, hb, C.2.2.1, C.2.2.2.1, C.2.2.2.2.1⟩ (ct_X4_dropOldest l G T b z x e1) (cwV 0 C.2.2.2.2.1 gX4_recordUnlessError_X4_dropOldest rfl rfl rfl df_X4_dropOldest ⟨Nat.le_of_ble_eq_true rfl, Nat.le_of_ble_eq_true rfl⟩) ⟨mm_B.blind, mm_recv (q := (RX4, TX4, 7)) C hH kl_0 (mm_e4 kd_0) rfl, mm_pre C hH⟩ rfl rfl hl.1 rfl (lv_room (Nat.le_of_ble_eq_true rfl)) dX4_recordUnlessError_29 ⟨Nat.zero_le _, Nat.zero_le _⟩) (fun H locs hH => ?_)
      refine lv_iload_n hx hb dX4_recordUnlessError_32 rfl (lv_at hl 1 rfl) ?_
      exact mm_iret C hH hr hlk rfl h dX4_recordUnlessError_33
    · have h := mm_neg c2 h
      refine lv_aload_n hx hb dX4_recordUnlessError_15 rfl (lv_at hl 0 rfl) ?_
      refine lv_dup hx hb dX4_recordUnlessError_16 rfl ?_
      refine mm_get (v := .int (x 0 2)) C hH hin4 rfl kl_0 (mm_e4 kd_0) (j := 2) (by decide) rfl w1 rfl dX4_recordUnlessError_17 ?_
      refine lv_iconst (v := 1) hx hb dX4_recordUnlessError_20 (by decide) ?_
      refine lv_iadd hx hb dX4_recordUnlessError_21 ?_
      obtain ⟨x2, e2, h⟩ := mm_bnd h
      refine mm_put (ty := .int) C hH hin4 tyX4_ok nmX4 rfl kl_0 (mm_e4 kd_0) (j := 2) (by decide) rfl w1 pd_I rfl rfl (Nat.le_of_ble_eq_true rfl) (sp_4_2 kd_0) (Option.some.inj e2) dX4_recordUnlessError_22 (fun H locs hH => ?_)
      refine lv_goto (tgt := 32) hx hb dX4_recordUnlessError_25 (by decide) ?_
      have hl := lv_sub (l' := [(1, .int a1)]) hl [1] rfl
      refine lv_iload_n hx hb dX4_recordUnlessError_32 rfl (lv_at hl 0 rfl) ?_
      exact mm_iret C hH hr hlk rfl h dX4_recordUnlessError_33
  · have h := mm_neg c1 h
    have hl := lv_sub (l' := [(1, .int a1)]) hl [1] rfl
    refine lv_iload_n hx hb dX4_recordUnlessError_4 rfl (lv_at hl 0 rfl) ?_
    exact mm_iret C hH hr hlk rfl h dX4_recordUnlessError_5
def fn_X4_set (a1 : Int32) (a2 : Int32) (x : mm_M) : Option (mm_M × Int32) :=
  (fn_X4_keepState x).bind fun x1 => mm_b2 (fn_X3_changeSetting a1 a2 x1) fun x2 v1 => mm_b2 (fn_X4_recordUnlessError v1 x2) fun x3 v2 => some (x3, v2)
abbrev rm_X4_set : Room := { frames := 4, cells := 0, slots := 0, locals := 89 }
theorem df_X4_set : yX4_set.cls = RX4 ∧ yX4_set.cls ≠ "java/lang/invoke/MethodHandle" ∧ yX4_set.cls ≠ "java/lang/invoke/VarHandle" ∧ (parseMethodDescriptor yX4_set.desc).map (fun d => d.parameters.length) = some 2 := by decide +kernel
set_option maxRecDepth 100000 in
set_option maxHeartbeats 4000000 in
theorem ct_X4_set (l : Launch) (G : va_G) (T : Nat → ClassId) (b : Nat) (z : Nat → Nat) (a1 : Int32) (a2 : Int32) (x : mm_M) {x1 : mm_M} {r : Int32} (h : fn_X4_set a1 a2 x = some (x1, r)) : mm_Ci l yX4_set wsX4_set rm_X4_set G T b z [.ref (b + 0), .int a1, .int a2] x r x1 := by
  unfold fn_X4_set at h
  refine mm_start (cc := cX4_set) (maxL := 3) (ret := (some .int)) (by decide) rfl (Nat.le_of_ble_eq_true rfl) (fun p e s m below meth c ls C hr hlk hH hl => ?_)
  have hl : lv_has ls 3 [(0, .ref (b + 0)), (1, .int a1), (2, .int a2)] := hl
  have hx := C.1
  have hb := C.2.1
  have w1 := C.2.2.2.2.1 (.fieldLink RX4 10 "LandingFines" "river" "LLandingFines$River;") (by decide +kernel)
  have hin4 : ∀ w ∈ wsX40, w ∈ wsX4_set := by decide +kernel
  refine lv_aload_n hx hb dX4_set_0 rfl (lv_at hl 0 rfl) ?_
  obtain ⟨x1, e1, h⟩ := mm_bnd h
  refine mm_gov hH (va_runV (As := []) (rest := []) ⟨hx, hb, C.2.2.1, C.2.2.2.1, C.2.2.2.2.1⟩ (ct_X4_keepState l G T b z x e1) (cwV 0 C.2.2.2.2.1 gX4_set_X4_keepState rfl rfl rfl df_X4_keepState ⟨Nat.le_of_ble_eq_true rfl, Nat.le_of_ble_eq_true rfl⟩) ⟨mm_B.blind, mm_recv (q := (RX4, TX4, 7)) C hH kl_0 (mm_e4 kd_0) rfl, mm_pre C hH⟩ rfl rfl hl.1 rfl (lv_room (Nat.le_of_ble_eq_true rfl)) dX4_set_1 ⟨Nat.zero_le _, Nat.zero_le _⟩) (fun H locs hH => ?_)
  refine lv_aload_n hx hb dX4_set_4 rfl (lv_at hl 0 rfl) ?_
  refine lv_aload_n hx hb dX4_set_5 rfl (lv_at hl 0 rfl) ?_
  refine mm_get (v := .ref (b + 1)) C hH hin4 rfl kl_0 (mm_e4 kd_0) (j := 0) (by decide) rfl w1 rfl dX4_set_6 ?_
  refine lv_iload_n hx hb dX4_set_9 rfl (lv_at hl 1 rfl) ?_
  refine lv_iload_n hx hb dX4_set_10 rfl (lv_at hl 2 rfl) ?_
  obtain ⟨x2, v1, e2, h⟩ := mm_bnd2 h
  refine mm_goi hH (va_runV (As := [.int a1, .int a2]) (rest := [.ref (b + 0)]) ⟨hx, hb, C.2.2.1, C.2.2.2.1, C.2.2.2.2.1⟩ (ct_X3_changeSetting l G T b z a1 a2 x1 e2) (cwV 2 C.2.2.2.2.1 gX4_set_X3_changeSetting rfl rfl rfl df_X3_changeSetting ⟨Nat.le_of_ble_eq_true rfl, Nat.le_of_ble_eq_true rfl⟩) ⟨mm_B.blind, mm_recv (q := (RX3, TX3, 7)) C hH kl_1 (mm_e3 kd_1) rfl, mm_pre C hH⟩ rfl rfl hl.1 rfl (lv_room (Nat.le_of_ble_eq_true rfl)) dX4_set_11 ⟨Nat.zero_le _, Nat.zero_le _⟩) (fun H locs hH => ?_)
  obtain ⟨x3, v2, e3, h⟩ := mm_bnd2 h
  refine mm_goi hH (va_runV (As := [.int v1]) (rest := []) ⟨hx, hb, C.2.2.1, C.2.2.2.1, C.2.2.2.2.1⟩ (ct_X4_recordUnlessError l G T b z v1 x2 e3) (cwV 1 C.2.2.2.2.1 gX4_set_X4_recordUnlessError rfl rfl rfl df_X4_recordUnlessError ⟨Nat.le_of_ble_eq_true rfl, Nat.le_of_ble_eq_true rfl⟩) ⟨mm_B.blind, mm_recv (q := (RX4, TX4, 7)) C hH kl_0 (mm_e4 kd_0) rfl, mm_pre C hH⟩ rfl rfl hl.1 rfl (lv_room (Nat.le_of_ble_eq_true rfl)) dX4_set_14 ⟨Nat.zero_le _, Nat.zero_le _⟩) (fun H locs hH => ?_)
  exact mm_iret C hH hr hlk rfl h dX4_set_17
def fn_X4_landing (a1 : Int32) (x : mm_M) : Option (mm_M × Int32) :=
  (fn_X4_keepState x).bind fun x1 => mm_b2 (fn_X3_addLanding a1 x1) fun x2 v1 => mm_b2 (fn_X4_recordUnlessError v1 x2) fun x3 v2 => some (x3, v2)
abbrev rm_X4_landing : Room := { frames := 4, cells := 0, slots := 0, locals := 89 }
theorem df_X4_landing : yX4_landing.cls = RX4 ∧ yX4_landing.cls ≠ "java/lang/invoke/MethodHandle" ∧ yX4_landing.cls ≠ "java/lang/invoke/VarHandle" ∧ (parseMethodDescriptor yX4_landing.desc).map (fun d => d.parameters.length) = some 1 := by decide +kernel
set_option maxRecDepth 100000 in
set_option maxHeartbeats 4000000 in
theorem ct_X4_landing (l : Launch) (G : va_G) (T : Nat → ClassId) (b : Nat) (z : Nat → Nat) (a1 : Int32) (x : mm_M) {x1 : mm_M} {r : Int32} (h : fn_X4_landing a1 x = some (x1, r)) : mm_Ci l yX4_landing wsX4_landing rm_X4_landing G T b z [.ref (b + 0), .int a1] x r x1 := by
  unfold fn_X4_landing at h
  refine mm_start (cc := cX4_landing) (maxL := 2) (ret := (some .int)) (by decide) rfl (Nat.le_of_ble_eq_true rfl) (fun p e s m below meth c ls C hr hlk hH hl => ?_)
  have hl : lv_has ls 2 [(0, .ref (b + 0)), (1, .int a1)] := hl
  have hx := C.1
  have hb := C.2.1
  have w1 := C.2.2.2.2.1 (.fieldLink RX4 10 "LandingFines" "river" "LLandingFines$River;") (by decide +kernel)
  have hin4 : ∀ w ∈ wsX40, w ∈ wsX4_landing := by decide +kernel
  refine lv_aload_n hx hb dX4_landing_0 rfl (lv_at hl 0 rfl) ?_
  obtain ⟨x1, e1, h⟩ := mm_bnd h
  refine mm_gov hH (va_runV (As := []) (rest := []) ⟨hx, hb, C.2.2.1, C.2.2.2.1, C.2.2.2.2.1⟩ (ct_X4_keepState l G T b z x e1) (cwV 0 C.2.2.2.2.1 gX4_landing_X4_keepState rfl rfl rfl df_X4_keepState ⟨Nat.le_of_ble_eq_true rfl, Nat.le_of_ble_eq_true rfl⟩) ⟨mm_B.blind, mm_recv (q := (RX4, TX4, 7)) C hH kl_0 (mm_e4 kd_0) rfl, mm_pre C hH⟩ rfl rfl hl.1 rfl (lv_room (Nat.le_of_ble_eq_true rfl)) dX4_landing_1 ⟨Nat.zero_le _, Nat.zero_le _⟩) (fun H locs hH => ?_)
  refine lv_aload_n hx hb dX4_landing_4 rfl (lv_at hl 0 rfl) ?_
  refine lv_aload_n hx hb dX4_landing_5 rfl (lv_at hl 0 rfl) ?_
  refine mm_get (v := .ref (b + 1)) C hH hin4 rfl kl_0 (mm_e4 kd_0) (j := 0) (by decide) rfl w1 rfl dX4_landing_6 ?_
  refine lv_iload_n hx hb dX4_landing_9 rfl (lv_at hl 1 rfl) ?_
  obtain ⟨x2, v1, e2, h⟩ := mm_bnd2 h
  refine mm_goi hH (va_runV (As := [.int a1]) (rest := [.ref (b + 0)]) ⟨hx, hb, C.2.2.1, C.2.2.2.1, C.2.2.2.2.1⟩ (ct_X3_addLanding l G T b z a1 x1 e2) (cwV 1 C.2.2.2.2.1 gX4_landing_X3_addLanding rfl rfl rfl df_X3_addLanding ⟨Nat.le_of_ble_eq_true rfl, Nat.le_of_ble_eq_true rfl⟩) ⟨mm_B.blind, mm_recv (q := (RX3, TX3, 7)) C hH kl_1 (mm_e3 kd_1) rfl, mm_pre C hH⟩ rfl rfl hl.1 rfl (lv_room (Nat.le_of_ble_eq_true rfl)) dX4_landing_10 ⟨Nat.zero_le _, Nat.zero_le _⟩) (fun H locs hH => ?_)
  obtain ⟨x3, v2, e3, h⟩ := mm_bnd2 h
  refine mm_goi hH (va_runV (As := [.int v1]) (rest := []) ⟨hx, hb, C.2.2.1, C.2.2.2.1, C.2.2.2.2.1⟩ (ct_X4_recordUnlessError l G T b z v1 x2 e3) (cwV 1 C.2.2.2.2.1 gX4_landing_X4_recordUnlessError rfl rfl rfl df_X4_recordUnlessError ⟨Nat.le_of_ble_eq_true rfl, Nat.le_of_ble_eq_true rfl⟩) ⟨mm_B.blind, mm_recv (q := (RX4, TX4, 7)) C hH kl_0 (mm_e4 kd_0) rfl, mm_pre C hH⟩ rfl rfl hl.1 rfl (lv_room (Nat.le_of_ble_eq_true rfl)) dX4_landing_13 ⟨Nat.zero_le _, Nat.zero_le _⟩) (fun H locs hH => ?_)
  exact mm_iret C hH hr hlk rfl h dX4_landing_16
def fn_X4_open (a1 : Int32) (x : mm_M) : Option (mm_M × Int32) :=
  (fn_X4_keepState x).bind fun x1 => mm_b2 (fn_X3_openLanding a1 x1) fun x2 v1 => mm_b2 (fn_X4_recordUnlessError v1 x2) fun x3 v2 => some (x3, v2)
abbrev rm_X4_open : Room := { frames := 5, cells := 0, slots := 0, locals := 110 }
theorem df_X4_open : yX4_open.cls = RX4 ∧ yX4_open.cls ≠ "java/lang/invoke/MethodHandle" ∧ yX4_open.cls ≠ "java/lang/invoke/VarHandle" ∧ (parseMethodDescriptor yX4_open.desc).map (fun d => d.parameters.length) = some 1 := by decide +kernel
set_option maxRecDepth 100000 in
set_option maxHeartbeats 4000000 in
theorem ct_X4_open (l : Launch) (G : va_G) (T : Nat → ClassId) (b : Nat) (z : Nat → Nat) (a1 : Int32) (x : mm_M) {x1 : mm_M} {r : Int32} (h : fn_X4_open a1 x = some (x1, r)) : mm_Ci l yX4_open wsX4_open rm_X4_open G T b z [.ref (b + 0), .int a1] x r x1 := by
  unfold fn_X4_open at h
  refine mm_start (cc := cX4_open) (maxL := 2) (ret := (some .int)) (by decide) rfl (Nat.le_of_ble_eq_true rfl) (fun p e s m below meth c ls C hr hlk hH hl => ?_)
  have hl : lv_has ls 2 [(0, .ref (b + 0)), (1, .int a1)] := hl
  have hx := C.1
  have hb := C.2.1
  have w1 := C.2.2.2.2.1 (.fieldLink RX4 10 "LandingFines" "river" "LLandingFines$River;") (by decide +kernel)
  have hin4 : ∀ w ∈ wsX40, w ∈ wsX4_open := by decide +kernel
  refine lv_aload_n hx hb dX4_open_0 rfl (lv_at hl 0 rfl) ?_
  obtain ⟨x1, e1, h⟩ := mm_bnd h
  refine mm_gov hH (va_runV (As := []) (rest := []) ⟨hx, hb, C.2.2.1, C.2.2.2.1, C.2.2.2.2.1⟩ (ct_X4_keepState l G T b z x e1) (cwV 0 C.2.2.2.2.1 gX4_open_X4_keepState rfl rfl rfl df_X4_keepState ⟨Nat.le_of_ble_eq_true rfl, Nat.le_of_ble_eq_true rfl⟩) ⟨mm_B.blind, mm_recv (q := (RX4, TX4, 7)) C hH kl_0 (mm_e4 kd_0) rfl, mm_pre C hH⟩ rfl rfl hl.1 rfl (lv_room (Nat.le_of_ble_eq_true rfl)) dX4_open_1 ⟨Nat.zero_le _, Nat.zero_le _⟩) (fun H locs hH => ?_)
  refine lv_aload_n hx hb dX4_open_4 rfl (lv_at hl 0 rfl) ?_
  refine lv_aload_n hx hb dX4_open_5 rfl (lv_at hl 0 rfl) ?_
  refine mm_get (v := .ref (b + 1)) C hH hin4 rfl kl_0 (mm_e4 kd_0) (j := 0) (by decide) rfl w1 rfl dX4_open_6 ?_
  refine lv_iload_n hx hb dX4_open_9 rfl (lv_at hl 1 rfl) ?_
  obtain ⟨x2, v1, e2, h⟩ := mm_bnd2 h
  refine mm_goi hH (va_runV (As := [.int a1]) (rest := [.ref (b + 0)]) ⟨hx, hb, C.2.2.1, C.2.2.2.1, C.2.2.2.2.1⟩ (ct_X3_openLanding l G T b z a1 x1 e2) (cwV 1 C.2.2.2.2.1 gX4_open_X3_openLanding rfl rfl rfl df_X3_openLanding ⟨Nat.le_of_ble_eq_true rfl, Nat.le_of_ble_eq_true rfl⟩) ⟨mm_B.blind, mm_recv (q := (RX3, TX3, 7)) C hH kl_1 (mm_e3 kd_1) rfl, mm_pre C hH⟩ rfl rfl hl.1 rfl (lv_room (Nat.le_of_ble_eq_true rfl)) dX4_open_10 ⟨Nat.zero_le _, Nat.zero_le _⟩) (fun H locs hH => ?_)
  obtain ⟨x3, v2, e3, h⟩ := mm_bnd2 h
  refine mm_goi hH (va_runV (As := [.int v1]) (rest := []) ⟨hx, hb, C.2.2.1, C.2.2.2.1, C.2.2.2.2.1⟩ (ct_X4_recordUnlessError l G T b z v1 x2 e3) (cwV 1 C.2.2.2.2.1 gX4_open_X4_recordUnlessError rfl rfl rfl df_X4_recordUnlessError ⟨Nat.le_of_ble_eq_true rfl, Nat.le_of_ble_eq_true rfl⟩) ⟨mm_B.blind, mm_recv (q := (RX4, TX4, 7)) C hH kl_0 (mm_e4 kd_0) rfl, mm_pre C hH⟩ rfl rfl hl.1 rfl (lv_room (Nat.le_of_ble_eq_true rfl)) dX4_open_13 ⟨Nat.zero_le _, Nat.zero_le _⟩) (fun H locs hH => ?_)
  exact mm_iret C hH hr hlk rfl h dX4_open_16
def fn_X4_close (a1 : Int32) (x : mm_M) : Option (mm_M × Int32) :=
  (fn_X4_keepState x).bind fun x1 => mm_b2 (fn_X3_closeLanding a1 x1) fun x2 v1 => mm_b2 (fn_X4_recordUnlessError v1 x2) fun x3 v2 => some (x3, v2)
abbrev rm_X4_close : Room := { frames := 5, cells := 0, slots := 0, locals := 110 }
theorem df_X4_close : yX4_close.cls = RX4 ∧ yX4_close.cls ≠ "java/lang/invoke/MethodHandle" ∧ yX4_close.cls ≠ "java/lang/invoke/VarHandle" ∧ (parseMethodDescriptor yX4_close.desc).map (fun d => d.parameters.length) = some 1 := by decide +kernel
set_option maxRecDepth 100000 in
set_option maxHeartbeats 4000000 in
theorem ct_X4_close (l : Launch) (G : va_G) (T : Nat → ClassId) (b : Nat) (z : Nat → Nat) (a1 : Int32) (x : mm_M) {x1 : mm_M} {r : Int32} (h : fn_X4_close a1 x = some (x1, r)) : mm_Ci l yX4_close wsX4_close rm_X4_close G T b z [.ref (b + 0), .int a1] x r x1 := by
  unfold fn_X4_close at h
  refine mm_start (cc := cX4_close) (maxL := 2) (ret := (some .int)) (by decide) rfl (Nat.le_of_ble_eq_true rfl) (fun p e s m below meth c ls C hr hlk hH hl => ?_)
  have hl : lv_has ls 2 [(0, .ref (b + 0)), (1, .int a1)] := hl
  have hx := C.1
  have hb := C.2.1
  have w1 := C.2.2.2.2.1 (.fieldLink RX4 10 "LandingFines" "river" "LLandingFines$River;") (by decide +kernel)
  have hin4 : ∀ w ∈ wsX40, w ∈ wsX4_close := by decide +kernel
  refine lv_aload_n hx hb dX4_close_0 rfl (lv_at hl 0 rfl) ?_
  obtain ⟨x1, e1, h⟩ := mm_bnd h
  refine mm_gov hH (va_runV (As := []) (rest := []) ⟨hx, hb, C.2.2.1, C.2.2.2.1, C.2.2.2.2.1⟩ (ct_X4_keepState l G T b z x e1) (cwV 0 C.2.2.2.2.1 gX4_close_X4_keepState rfl rfl rfl df_X4_keepState ⟨Nat.le_of_ble_eq_true rfl, Nat.le_of_ble_eq_true rfl⟩) ⟨mm_B.blind, mm_recv (q := (RX4, TX4, 7)) C hH kl_0 (mm_e4 kd_0) rfl, mm_pre C hH⟩ rfl rfl hl.1 rfl (lv_room (Nat.le_of_ble_eq_true rfl)) dX4_close_1 ⟨Nat.zero_le _, Nat.zero_le _⟩) (fun H locs hH => ?_)
  refine lv_aload_n hx hb dX4_close_4 rfl (lv_at hl 0 rfl) ?_
  refine lv_aload_n hx hb dX4_close_5 rfl (lv_at hl 0 rfl) ?_
  refine mm_get (v := .ref (b + 1)) C hH hin4 rfl kl_0 (mm_e4 kd_0) (j := 0) (by decide) rfl w1 rfl dX4_close_6 ?_
  refine lv_iload_n hx hb dX4_close_9 rfl (lv_at hl 1 rfl) ?_
  obtain ⟨x2, v1, e2, h⟩ := mm_bnd2 h
  refine mm_goi hH (va_runV (As := [.int a1]) (rest := [.ref (b + 0)]) ⟨hx, hb, C.2.2.1, C.2.2.2.1, C.2.2.2.2.1⟩ (ct_X3_closeLanding l G T b z a1 x1 e2) (cwV 1 C.2.2.2.2.1 gX4_close_X3_closeLanding rfl rfl rfl df_X3_closeLanding ⟨Nat.le_of_ble_eq_true rfl, Nat.le_of_ble_eq_true rfl⟩) ⟨mm_B.blind, mm_recv (q := (RX3, TX3, 7)) C hH kl_1 (mm_e3 kd_1) rfl, mm_pre C hH⟩ rfl rfl hl.1 rfl (lv_room (Nat.le_of_ble_eq_true rfl)) dX4_close_10 ⟨Nat.zero_le _, Nat.zero_le _⟩) (fun H locs hH => ?_)
  obtain ⟨x3, v2, e3, h⟩ := mm_bnd2 h
  refine mm_goi hH (va_runV (As := [.int v1]) (rest := []) ⟨hx, hb, C.2.2.1, C.2.2.2.1, C.2.2.2.2.1⟩ (ct_X4_recordUnlessError l G T b z v1 x2 e3) (cwV 1 C.2.2.2.2.1 gX4_close_X4_recordUnlessError rfl rfl rfl df_X4_recordUnlessError ⟨Nat.le_of_ble_eq_true rfl, Nat.le_of_ble_eq_true rfl⟩) ⟨mm_B.blind, mm_recv (q := (RX4, TX4, 7)) C hH kl_0 (mm_e4 kd_0) rfl, mm_pre C hH⟩ rfl rfl hl.1 rfl (lv_room (Nat.le_of_ble_eq_true rfl)) dX4_close_13 ⟨Nat.zero_le _, Nat.zero_le _⟩) (fun H locs hH => ?_)
  exact mm_iret C hH hr hlk rfl h dX4_close_16
def fn_X4_price (a1 : Int32) (a2 : Int32) (x : mm_M) : Option (mm_M × Int32) :=
  (fn_X4_keepState x).bind fun x1 => mm_b2 (fn_X3_changePrice a1 a2 x1) fun x2 v1 => mm_b2 (fn_X4_recordUnlessError v1 x2) fun x3 v2 => some (x3, v2)
abbrev rm_X4_price : Room := { frames := 5, cells := 0, slots := 0, locals := 111 }
theorem df_X4_price : yX4_price.cls = RX4 ∧ yX4_price.cls ≠ "java/lang/invoke/MethodHandle" ∧ yX4_price.cls ≠ "java/lang/invoke/VarHandle" ∧ (parseMethodDescriptor yX4_price.desc).map (fun d => d.parameters.length) = some 2 := by decide +kernel
set_option maxRecDepth 100000 in
set_option maxHeartbeats 4000000 in
theorem ct_X4_price (l : Launch) (G : va_G) (T : Nat → ClassId) (b : Nat) (z : Nat → Nat) (a1 : Int32) (a2 : Int32) (x : mm_M) {x1 : mm_M} {r : Int32} (h : fn_X4_price a1 a2 x = some (x1, r)) : mm_Ci l yX4_price wsX4_price rm_X4_price G T b z [.ref (b + 0), .int a1, .int a2] x r x1 := by
  unfold fn_X4_price at h
  refine mm_start (cc := cX4_price) (maxL := 3) (ret := (some .int)) (by decide) rfl (Nat.le_of_ble_eq_true rfl) (fun p e s m below meth c ls C hr hlk hH hl => ?_)
  have hl : lv_has ls 3 [(0, .ref (b + 0)), (1, .int a1), (2, .int a2)] := hl
  have hx := C.1
  have hb := C.2.1
  have w1 := C.2.2.2.2.1 (.fieldLink RX4 10 "LandingFines" "river" "LLandingFines$River;") (by decide +kernel)
  have hin4 : ∀ w ∈ wsX40, w ∈ wsX4_price := by decide +kernel
  refine lv_aload_n hx hb dX4_price_0 rfl (lv_at hl 0 rfl) ?_
  obtain ⟨x1, e1, h⟩ := mm_bnd h
  refine mm_gov hH (va_runV (As := []) (rest := []) ⟨hx, hb, C.2.2.1, C.2.2.2.1, C.2.2.2.2.1⟩ (ct_X4_keepState l G T b z x e1) (cwV 0 C.2.2.2.2.1 gX4_price_X4_keepState rfl rfl rfl df_X4_keepState ⟨Nat.le_of_ble_eq_true rfl, Nat.le_of_ble_eq_true rfl⟩) ⟨mm_B.blind, mm_recv (q := (RX4, TX4, 7)) C hH kl_0 (mm_e4 kd_0) rfl, mm_pre C hH⟩ rfl rfl hl.1 rfl (lv_room (Nat.le_of_ble_eq_true rfl)) dX4_price_1 ⟨Nat.zero_le _, Nat.zero_le _⟩) (fun H locs hH => ?_)
  refine lv_aload_n hx hb dX4_price_4 rfl (lv_at hl 0 rfl) ?_
  refine lv_aload_n hx hb dX4_price_5 rfl (lv_at hl 0 rfl) ?_
  refine mm_get (v := .ref (b + 1)) C hH hin4 rfl kl_0 (mm_e4 kd_0) (j := 0) (by decide) rfl w1 rfl dX4_price_6 ?_
  refine lv_iload_n hx hb dX4_price_9 rfl (lv_at hl 1 rfl) ?_
  refine lv_iload_n hx hb dX4_price_10 rfl (lv_at hl 2 rfl) ?_
  obtain ⟨x2, v1, e2, h⟩ := mm_bnd2 h
  refine mm_goi hH (va_runV (As := [.int a1, .int a2]) (rest := [.ref (b + 0)]) ⟨hx, hb, C.2.2.1, C.2.2.2.1, C.2.2.2.2.1⟩ (ct_X3_changePrice l G T b z a1 a2 x1 e2) (cwV 2 C.2.2.2.2.1 gX4_price_X3_changePrice rfl rfl rfl df_X3_changePrice ⟨Nat.le_of_ble_eq_true rfl, Nat.le_of_ble_eq_true rfl⟩) ⟨mm_B.blind, mm_recv (q := (RX3, TX3, 7)) C hH kl_1 (mm_e3 kd_1) rfl, mm_pre C hH⟩ rfl rfl hl.1 rfl (lv_room (Nat.le_of_ble_eq_true rfl)) dX4_price_11 ⟨Nat.zero_le _, Nat.zero_le _⟩) (fun H locs hH => ?_)
  obtain ⟨x3, v2, e3, h⟩ := mm_bnd2 h
  refine mm_goi hH (va_runV (As := [.int v1]) (rest := []) ⟨hx, hb, C.2.2.1, C.2.2.2.1, C.2.2.2.2.1⟩ (ct_X4_recordUnlessError l G T b z v1 x2 e3) (cwV 1 C.2.2.2.2.1 gX4_price_X4_recordUnlessError rfl rfl rfl df_X4_recordUnlessError ⟨Nat.le_of_ble_eq_true rfl, Nat.le_of_ble_eq_true rfl⟩) ⟨mm_B.blind, mm_recv (q := (RX4, TX4, 7)) C hH kl_0 (mm_e4 kd_0) rfl, mm_pre C hH⟩ rfl rfl hl.1 rfl (lv_room (Nat.le_of_ble_eq_true rfl)) dX4_price_14 ⟨Nat.zero_le _, Nat.zero_le _⟩) (fun H locs hH => ?_)
  exact mm_iret C hH hr hlk rfl h dX4_price_17
def fn_X4_pass (a1 : Int32) (x : mm_M) : Option (mm_M × Int32) :=
  (fn_X4_keepState x).bind fun x1 => mm_b2 (fn_X3_passMinutes a1 x1) fun x2 v1 => mm_b2 (fn_X4_recordUnlessError v1 x2) fun x3 v2 => some (x3, v2)
abbrev rm_X4_pass : Room := { frames := 5, cells := 0, slots := 0, locals := 110 }
theorem df_X4_pass : yX4_pass.cls = RX4 ∧ yX4_pass.cls ≠ "java/lang/invoke/MethodHandle" ∧ yX4_pass.cls ≠ "java/lang/invoke/VarHandle" ∧ (parseMethodDescriptor yX4_pass.desc).map (fun d => d.parameters.length) = some 1 := by decide +kernel
set_option maxRecDepth 100000 in
set_option maxHeartbeats 4000000 in
theorem ct_X4_pass (l : Launch) (G : va_G) (T : Nat → ClassId) (b : Nat) (z : Nat → Nat) (a1 : Int32) (x : mm_M) {x1 : mm_M} {r : Int32} (h : fn_X4_pass a1 x = some (x1, r)) : mm_Ci l yX4_pass wsX4_pass rm_X4_pass G T b z [.ref (b + 0), .int a1] x r x1 := by
  unfold fn_X4_pass at h
  refine mm_start (cc := cX4_pass) (maxL := 2) (ret := (some .int)) (by decide) rfl (Nat.le_of_ble_eq_true rfl) (fun p e s m below meth c ls C hr hlk hH hl => ?_)
  have hl : lv_has ls 2 [(0, .ref (b + 0)), (1, .int a1)] := hl
  have hx := C.1
  have hb := C.2.1
  have w1 := C.2.2.2.2.1 (.fieldLink RX4 10 "LandingFines" "river" "LLandingFines$River;") (by decide +kernel)
  have hin4 : ∀ w ∈ wsX40, w ∈ wsX4_pass := by decide +kernel
  refine lv_aload_n hx hb dX4_pass_0 rfl (lv_at hl 0 rfl) ?_
  obtain ⟨x1, e1, h⟩ := mm_bnd h
  refine mm_gov hH (va_runV (As := []) (rest := []) ⟨hx, hb, C.2.2.1, C.2.2.2.1, C.2.2.2.2.1⟩ (ct_X4_keepState l G T b z x e1) (cwV 0 C.2.2.2.2.1 gX4_pass_X4_keepState rfl rfl rfl df_X4_keepState ⟨Nat.le_of_ble_eq_true rfl, Nat.le_of_ble_eq_true rfl⟩) ⟨mm_B.blind, mm_recv (q := (RX4, TX4, 7)) C hH kl_0 (mm_e4 kd_0) rfl, mm_pre C hH⟩ rfl rfl hl.1 rfl (lv_room (Nat.le_of_ble_eq_true rfl)) dX4_pass_1 ⟨Nat.zero_le _, Nat.zero_le _⟩) (fun H locs hH => ?_)
  refine lv_aload_n hx hb dX4_pass_4 rfl (lv_at hl 0 rfl) ?_
  refine lv_aload_n hx hb dX4_pass_5 rfl (lv_at hl 0 rfl) ?_
  refine mm_get (v := .ref (b + 1)) C hH hin4 rfl kl_0 (mm_e4 kd_0) (j := 0) (by decide) rfl w1 rfl dX4_pass_6 ?_
  refine lv_iload_n hx hb dX4_pass_9 rfl (lv_at hl 1 rfl) ?_
  obtain ⟨x2, v1, e2, h⟩ := mm_bnd2 h
  refine mm_goi hH (va_runV (As := [.int a1]) (rest := [.ref (b + 0)]) ⟨hx, hb, C.2.2.1, C.2.2.2.1, C.2.2.2.2.1⟩ (ct_X3_passMinutes l G T b z a1 x1 e2) (cwV 1 C.2.2.2.2.1 gX4_pass_X3_passMinutes rfl rfl rfl df_X3_passMinutes ⟨Nat.le_of_ble_eq_true rfl, Nat.le_of_ble_eq_true rfl⟩) ⟨mm_B.blind, mm_recv (q := (RX3, TX3, 7)) C hH kl_1 (mm_e3 kd_1) rfl, mm_pre C hH⟩ rfl rfl hl.1 rfl (lv_room (Nat.le_of_ble_eq_true rfl)) dX4_pass_10 ⟨Nat.zero_le _, Nat.zero_le _⟩) (fun H locs hH => ?_)
  obtain ⟨x3, v2, e3, h⟩ := mm_bnd2 h
  refine mm_goi hH (va_runV (As := [.int v1]) (rest := []) ⟨hx, hb, C.2.2.1, C.2.2.2.1, C.2.2.2.2.1⟩ (ct_X4_recordUnlessError l G T b z v1 x2 e3) (cwV 1 C.2.2.2.2.1 gX4_pass_X4_recordUnlessError rfl rfl rfl df_X4_recordUnlessError ⟨Nat.le_of_ble_eq_true rfl, Nat.le_of_ble_eq_true rfl⟩) ⟨mm_B.blind, mm_recv (q := (RX4, TX4, 7)) C hH kl_0 (mm_e4 kd_0) rfl, mm_pre C hH⟩ rfl rfl hl.1 rfl (lv_room (Nat.le_of_ble_eq_true rfl)) dX4_pass_13 ⟨Nat.zero_le _, Nat.zero_le _⟩) (fun H locs hH => ?_)
  exact mm_iret C hH hr hlk rfl h dX4_pass_16
def fn_X4_of (a1 : Int32) (a2 : Int32) (x : mm_M) : Option Int32 :=
  (fn_X3_find a1 x).bind fun o1 => mm_oc o1 (some ((-1) : Int32)) fun k1 => if mm_kd k1 = 1 then (fn_X1_tell k1 a2 x).bind fun v1 => some v1 else none
abbrev rm_X4_of : Room := { frames := 1, cells := 0, slots := 0, locals := 21 }
theorem df_X4_of : yX4_of.cls = RX4 ∧ yX4_of.cls ≠ "java/lang/invoke/MethodHandle" ∧ yX4_of.cls ≠ "java/lang/invoke/VarHandle" ∧ (parseMethodDescriptor yX4_of.desc).map (fun d => d.parameters.length) = some 2 := by decide +kernel
set_option maxRecDepth 100000 in
set_option maxHeartbeats 4000000 in
theorem ct_X4_of (l : Launch) (G : va_G) (T : Nat → ClassId) (b : Nat) (z : Nat → Nat) (a1 : Int32) (a2 : Int32) (x : mm_M) {r : Int32} (h : fn_X4_of a1 a2 x = some r) : mm_Ci l yX4_of wsX4_of rm_X4_of G T b z [.ref (b + 0), .int a1, .int a2] x r x := by
  unfold fn_X4_of at h
  refine mm_start (cc := cX4_of) (maxL := 4) (ret := (some .int)) (by decide) rfl (Nat.le_of_ble_eq_true rfl) (fun p e s m below meth c ls C hr hlk hH hl => ?_)
  have hl : lv_has ls 4 [(0, .ref (b + 0)), (1, .int a1), (2, .int a2)] := hl
  have hx := C.1
  have hb := C.2.1
  have w1 := C.2.2.2.2.1 (.fieldLink RX4 10 "LandingFines" "river" "LLandingFines$River;") (by decide +kernel)
  have hin4 : ∀ w ∈ wsX40, w ∈ wsX4_of := by decide +kernel
  refine lv_aload_n hx hb dX4_of_0 rfl (lv_at hl 0 rfl) ?_
  refine mm_get (v := .ref (b + 1)) C hH hin4 rfl kl_0 (mm_e4 kd_0) (j := 0) (by decide) rfl w1 rfl dX4_of_1 ?_
  refine lv_iload_n hx hb dX4_of_4 rfl (lv_at hl 1 rfl) ?_
  obtain ⟨o1, e1, h⟩ := mm_bnd h
  refine mm_goe hH (va_runV (As := [.int a1]) (rest := []) ⟨hx, hb, C.2.2.1, C.2.2.2.1, C.2.2.2.2.1⟩ (ct_X3_find l G T b z a1 x e1) (cwV 1 C.2.2.2.2.1 gX4_of_X3_find rfl rfl rfl df_X3_find ⟨Nat.le_of_ble_eq_true rfl, Nat.le_of_ble_eq_true rfl⟩) ⟨mm_B.blind, mm_recv (q := (RX3, TX3, 7)) C hH kl_1 (mm_e3 kd_1) rfl, mm_pre C hH⟩ rfl rfl hl.1 rfl (lv_room (Nat.le_of_ble_eq_true rfl)) dX4_of_5 ⟨Nat.zero_le _, Nat.zero_le _⟩) (fun H locs hH => ?_)
  rcases o1 with _ | k1
  · have h := mm_oc0 h
    refine mm_nul ?_
    refine lv_astore_nN (lv' := [(3, .null), (0, .ref (b + 0)), (1, .int a1), (2, .int a2)]) hx hb dX4_of_8 rfl hl (by decide) rfl (fun ls hl => ?_)
    have hl := lv_sub (l' := [(3, .null), (2, .int a2)]) hl [0, 3] rfl
    refine lv_aload_nN hx hb dX4_of_9 rfl (lv_at hl 0 rfl) ?_
    refine lv_ifnonnullN hx hb dX4_of_10 ?_
    have hl := lv_sub (l' := []) hl [] rfl
    refine lv_iconst (v := (-1)) hx hb dX4_of_13 (by decide) ?_
    refine lv_goto (tgt := 22) hx hb dX4_of_14 (by decide) ?_
    exact mm_iretP C hH hr hlk rfl h dX4_of_22
  · have h := mm_oc1 h
    obtain ⟨g1, h⟩ := mm_grd h
    refine mm_nun ?_
    refine lv_astore_n (lv' := [(3, .ref (b + k1)), (0, .ref (b + 0)), (1, .int a1), (2, .int a2)]) hx hb dX4_of_8 rfl hl (by decide) rfl (fun ls hl => ?_)
    have hl := lv_sub (l' := [(3, .ref (b + k1)), (2, .int a2)]) hl [0, 3] rfl
    refine lv_aload_n hx hb dX4_of_9 rfl (lv_at hl 0 rfl) ?_
    refine lv_ifnonnull (tgt := 17) hx hb dX4_of_10 (by decide) ?_
    refine lv_aload_n hx hb dX4_of_17 rfl (lv_at hl 0 rfl) ?_
    refine lv_iload_n hx hb dX4_of_18 rfl (lv_at hl 1 rfl) ?_
    obtain ⟨v1, e2, h⟩ := mm_bnd h
    refine mm_goi hH (va_runV (As := [.int a2]) (rest := []) ⟨hx, hb, C.2.2.1, C.2.2.2.1, C.2.2.2.2.1⟩ (ct_X1_tell l G T b z k1 a2 x e2) (cwV 1 C.2.2.2.2.1 gX4_of_X1_tell rfl rfl rfl df_X1_tell ⟨Nat.le_of_ble_eq_true rfl, Nat.le_of_ble_eq_true rfl⟩) ⟨mm_B.blind, mm_recv (q := (RX1, TX1, 8)) C hH (mm_lt g1 (by decide)) (mm_e1 g1) rfl, mm_pre C hH⟩ rfl rfl hl.1 rfl (lv_room (Nat.le_of_ble_eq_true rfl)) dX4_of_19 ⟨Nat.zero_le _, Nat.zero_le _⟩) (fun H locs hH => ?_)
    exact mm_iretP C hH hr hlk rfl h dX4_of_22
def fn_X4_count (a1 : Int32) (x : mm_M) : Option Int32 :=
  if a1 = 14 then some (x 19 1) else if a1 = 15 then some (x 0 2) else (fn_X3_tell a1 x).bind fun v1 => some v1
abbrev rm_X4_count : Room := { frames := 2, cells := 0, slots := 0, locals := 43 }
theorem df_X4_count : yX4_count.cls = RX4 ∧ yX4_count.cls ≠ "java/lang/invoke/MethodHandle" ∧ yX4_count.cls ≠ "java/lang/invoke/VarHandle" ∧ (parseMethodDescriptor yX4_count.desc).map (fun d => d.parameters.length) = some 1 := by decide +kernel
set_option maxRecDepth 100000 in
set_option maxHeartbeats 4000000 in
theorem ct_X4_count (l : Launch) (G : va_G) (T : Nat → ClassId) (b : Nat) (z : Nat → Nat) (a1 : Int32) (x : mm_M) {r : Int32} (h : fn_X4_count a1 x = some r) : mm_Ci l yX4_count wsX4_count rm_X4_count G T b z [.ref (b + 0), .int a1] x r x := by
  unfold fn_X4_count at h
  refine mm_start (cc := cX4_count) (maxL := 2) (ret := (some .int)) (by decide) rfl (Nat.le_of_ble_eq_true rfl) (fun p e s m below meth c ls C hr hlk hH hl => ?_)
  have hl : lv_has ls 2 [(0, .ref (b + 0)), (1, .int a1)] := hl
  have hx := C.1
  have hb := C.2.1
  have w1 := C.2.2.2.2.1 (.fieldLink RX4 10 "LandingFines" "river" "LLandingFines$River;") (by decide +kernel)
  have w2 := C.2.2.2.2.1 (.fieldLink RX4 20 "LandingFines" "historySize" "I") (by decide +kernel)
  have w3 := C.2.2.2.2.1 (.fieldLink RX4 34 "LandingFines" "pad" "LLandingFines$Pad;") (by decide +kernel)
  have w4 := C.2.2.2.2.1 (.fieldLink RX4 78 "LandingFines$Pad" "length" "I") (by decide +kernel)
  have hin2 : ∀ w ∈ wsX20, w ∈ wsX4_count := by decide +kernel
  have hin4 : ∀ w ∈ wsX40, w ∈ wsX4_count := by decide +kernel
  refine lv_iload_n hx hb dX4_count_0 rfl (lv_at hl 1 rfl) ?_
  refine lv_bipush (v := 14) hx hb dX4_count_1 (by decide) ?_
  refine lv_icmp_ne (tgt := 14) hx hb dX4_count_3 (by decide) (fun c1 => ?_) (fun c1 => ?_)
  · have h := mm_neg c1 h
    refine lv_iload_n hx hb dX4_count_14 rfl (lv_at hl 1 rfl) ?_
    refine lv_bipush (v := 15) hx hb dX4_count_15 (by decide) ?_
    refine lv_icmp_ne (tgt := 25) hx hb dX4_count_17 (by decide) (fun c2 => ?_) (fun c2 => ?_)
    · have h := mm_neg c2 h
      refine lv_aload_n hx hb dX4_count_25 rfl (lv_at hl 0 rfl) ?_
      refine mm_get (v := .ref (b + 1)) C hH hin4 rfl kl_0 (mm_e4 kd_0) (j := 0) (by decide) rfl w1 rfl dX4_count_26 ?_
      refine lv_iload_n hx hb dX4_count_29 rfl (lv_at hl 1 rfl) ?_
      obtain ⟨v1, e1, h⟩ := mm_bnd h
      refine mm_goi hH (va_runV (As := [.int a1]) (rest := []) ⟨hx, hb, C.2.2.1, C.2.2.2.1, C.2.2.2.2.1⟩ (ct_X3_tell l G T b z a1 x e1) (cwV 1 C.2.2.2.2.1 gX4_count_X3_tell rfl rfl rfl df_X3_tell ⟨Nat.le_of_ble_eq_true rfl, Nat.le_of_ble_eq_true rfl⟩) ⟨mm_B.blind, mm_recv (q := (RX3, TX3, 7)) C hH kl_1 (mm_e3 kd_1) rfl, mm_pre C hH⟩ rfl rfl hl.1 rfl (lv_room (Nat.le_of_ble_eq_true rfl)) dX4_count_30 ⟨Nat.zero_le _, Nat.zero_le _⟩) (fun H locs hH => ?_)
      exact mm_iretP C hH hr hlk rfl h dX4_count_33
    · have h := mm_pos c2 h
      have hl := lv_sub (l' := [(0, .ref (b + 0))]) hl [0] rfl
      refine lv_aload_n hx hb dX4_count_20 rfl (lv_at hl 0 rfl) ?_
      refine mm_get (v := .int (x 0 2)) C hH hin4 rfl kl_0 (mm_e4 kd_0) (j := 2) (by decide) rfl w2 rfl dX4_count_21 ?_
      exact mm_iretP C hH hr hlk rfl h dX4_count_24
  · have h := mm_pos c1 h
    have hl := lv_sub (l' := [(0, .ref (b + 0))]) hl [0] rfl
    refine lv_aload_n hx hb dX4_count_6 rfl (lv_at hl 0 rfl) ?_
    refine mm_get (v := .ref (b + 19)) C hH hin4 rfl kl_0 (mm_e4 kd_0) (j := 5) (by decide) rfl w3 rfl dX4_count_7 ?_
    refine mm_get (v := .int (x 19 1)) C hH hin2 rfl kl_19 (mm_e2 kd_19) (j := 1) (by decide) rfl w4 rfl dX4_count_10 ?_
    exact mm_iretP C hH hr hlk rfl h dX4_count_13
def fn_X4_choice (a1 : Int32) (x : mm_M) : Option Int32 :=
  (fn_X3_chosen a1 x).bind fun v1 => some v1
abbrev rm_X4_choice : Room := { frames := 3, cells := 0, slots := 0, locals := 67 }
theorem df_X4_choice : yX4_choice.cls = RX4 ∧ yX4_choice.cls ≠ "java/lang/invoke/MethodHandle" ∧ yX4_choice.cls ≠ "java/lang/invoke/VarHandle" ∧ (parseMethodDescriptor yX4_choice.desc).map (fun d => d.parameters.length) = some 1 := by decide +kernel
set_option maxRecDepth 100000 in
set_option maxHeartbeats 4000000 in
theorem ct_X4_choice (l : Launch) (G : va_G) (T : Nat → ClassId) (b : Nat) (z : Nat → Nat) (a1 : Int32) (x : mm_M) {r : Int32} (h : fn_X4_choice a1 x = some r) : mm_Ci l yX4_choice wsX4_choice rm_X4_choice G T b z [.ref (b + 0), .int a1] x r x := by
  unfold fn_X4_choice at h
  refine mm_start (cc := cX4_choice) (maxL := 2) (ret := (some .int)) (by decide) rfl (Nat.le_of_ble_eq_true rfl) (fun p e s m below meth c ls C hr hlk hH hl => ?_)
  have hl : lv_has ls 2 [(0, .ref (b + 0)), (1, .int a1)] := hl
  have hx := C.1
  have hb := C.2.1
  have w1 := C.2.2.2.2.1 (.fieldLink RX4 10 "LandingFines" "river" "LLandingFines$River;") (by decide +kernel)
  have hin4 : ∀ w ∈ wsX40, w ∈ wsX4_choice := by decide +kernel
  refine lv_aload_n hx hb dX4_choice_0 rfl (lv_at hl 0 rfl) ?_
  refine mm_get (v := .ref (b + 1)) C hH hin4 rfl kl_0 (mm_e4 kd_0) (j := 0) (by decide) rfl w1 rfl dX4_choice_1 ?_
  refine lv_iload_n hx hb dX4_choice_4 rfl (lv_at hl 1 rfl) ?_
  obtain ⟨v1, e1, h⟩ := mm_bnd h
  refine mm_goi hH (va_runV (As := [.int a1]) (rest := []) ⟨hx, hb, C.2.2.1, C.2.2.2.1, C.2.2.2.2.1⟩ (ct_X3_chosen l G T b z a1 x e1) (cwV 1 C.2.2.2.2.1 gX4_choice_X3_chosen rfl rfl rfl df_X3_chosen ⟨Nat.le_of_ble_eq_true rfl, Nat.le_of_ble_eq_true rfl⟩) ⟨mm_B.blind, mm_recv (q := (RX3, TX3, 7)) C hH kl_1 (mm_e3 kd_1) rfl, mm_pre C hH⟩ rfl rfl hl.1 rfl (lv_room (Nat.le_of_ble_eq_true rfl)) dX4_choice_5 ⟨Nat.zero_le _, Nat.zero_le _⟩) (fun H locs hH => ?_)
  exact mm_iretP C hH hr hlk rfl h dX4_choice_8
def fn_X4_log (a1 : Int32) (a2 : Int32) (x : mm_M) : Option Int32 :=
  (fn_X0_tell a1 a2 x).bind fun v1 => some v1
abbrev rm_X4_log : Room := { frames := 1, cells := 0, slots := 0, locals := 23 }
theorem df_X4_log : yX4_log.cls = RX4 ∧ yX4_log.cls ≠ "java/lang/invoke/MethodHandle" ∧ yX4_log.cls ≠ "java/lang/invoke/VarHandle" ∧ (parseMethodDescriptor yX4_log.desc).map (fun d => d.parameters.length) = some 2 := by decide +kernel
set_option maxRecDepth 100000 in
set_option maxHeartbeats 4000000 in
theorem ct_X4_log (l : Launch) (G : va_G) (T : Nat → ClassId) (b : Nat) (z : Nat → Nat) (a1 : Int32) (a2 : Int32) (x : mm_M) {r : Int32} (h : fn_X4_log a1 a2 x = some r) : mm_Ci l yX4_log wsX4_log rm_X4_log G T b z [.ref (b + 0), .int a1, .int a2] x r x := by
  unfold fn_X4_log at h
  refine mm_start (cc := cX4_log) (maxL := 3) (ret := (some .int)) (by decide) rfl (Nat.le_of_ble_eq_true rfl) (fun p e s m below meth c ls C hr hlk hH hl => ?_)
  have hl : lv_has ls 3 [(0, .ref (b + 0)), (1, .int a1), (2, .int a2)] := hl
  have hx := C.1
  have hb := C.2.1
  have w1 := C.2.2.2.2.1 (.fieldLink RX4 10 "LandingFines" "river" "LLandingFines$River;") (by decide +kernel)
  have w2 := C.2.2.2.2.1 (.fieldLink RX4 85 "LandingFines$River" "journal" "LLandingFines$Journal;") (by decide +kernel)
  have hin3 : ∀ w ∈ wsX30, w ∈ wsX4_log := by decide +kernel
  have hin4 : ∀ w ∈ wsX40, w ∈ wsX4_log := by decide +kernel
  refine lv_aload_n hx hb dX4_log_0 rfl (lv_at hl 0 rfl) ?_
  refine mm_get (v := .ref (b + 1)) C hH hin4 rfl kl_0 (mm_e4 kd_0) (j := 0) (by decide) rfl w1 rfl dX4_log_1 ?_
  refine mm_get (v := .ref (b + 4)) C hH hin3 rfl kl_1 (mm_e3 kd_1) (j := 6) (by decide) rfl w2 rfl dX4_log_4 ?_
  refine lv_iload_n hx hb dX4_log_7 rfl (lv_at hl 1 rfl) ?_
  refine lv_iload_n hx hb dX4_log_8 rfl (lv_at hl 2 rfl) ?_
  obtain ⟨v1, e1, h⟩ := mm_bnd h
  refine mm_goi hH (va_runV (As := [.int a1, .int a2]) (rest := []) ⟨hx, hb, C.2.2.1, C.2.2.2.1, C.2.2.2.2.1⟩ (ct_X0_tell l G T b z a1 a2 x e1) (cwV 2 C.2.2.2.2.1 gX4_log_X0_tell rfl rfl rfl df_X0_tell ⟨Nat.le_of_ble_eq_true rfl, Nat.le_of_ble_eq_true rfl⟩) ⟨mm_B.blind, mm_recv (q := (RX0, TX0, 5)) C hH kl_4 (mm_e0 kd_4) rfl, mm_pre C hH⟩ rfl rfl hl.1 rfl (lv_room (Nat.le_of_ble_eq_true rfl)) dX4_log_9 ⟨Nat.zero_le _, Nat.zero_le _⟩) (fun H locs hH => ?_)
  exact mm_iretP C hH hr hlk rfl h dX4_log_12
def fn_X4_why (a1 : Int32) (x : mm_M) : Option Int32 :=
  (fn_X3_find a1 x).bind fun o1 => mm_oc o1 (some ((-1) : Int32)) fun k1 => if mm_kd k1 = 1 then if a1 = (x 1 4) then some (0 : Int32) else if (x k1 0) = 0 then some (1 : Int32) else if (x k1 3) = 0 then some (3 : Int32) else some (2 : Int32) else none
abbrev rm_X4_why : Room := { frames := 1, cells := 0, slots := 0, locals := 21 }
theorem df_X4_why : yX4_why.cls = RX4 ∧ yX4_why.cls ≠ "java/lang/invoke/MethodHandle" ∧ yX4_why.cls ≠ "java/lang/invoke/VarHandle" ∧ (parseMethodDescriptor yX4_why.desc).map (fun d => d.parameters.length) = some 1 := by decide +kernel
set_option maxRecDepth 100000 in
set_option maxHeartbeats 4000000 in
theorem ct_X4_why (l : Launch) (G : va_G) (T : Nat → ClassId) (b : Nat) (z : Nat → Nat) (a1 : Int32) (x : mm_M) {r : Int32} (h : fn_X4_why a1 x = some r) : mm_Ci l yX4_why wsX4_why rm_X4_why G T b z [.ref (b + 0), .int a1] x r x := by
  unfold fn_X4_why at h
  refine mm_start (cc := cX4_why) (maxL := 3) (ret := (some .int)) (by decide) rfl (Nat.le_of_ble_eq_true rfl) (fun p e s m below meth c ls C hr hlk hH hl => ?_)
  have hl : lv_has ls 3 [(0, .ref (b + 0)), (1, .int a1)] := hl
  have hx := C.1
  have hb := C.2.1
  have w1 := C.2.2.2.2.1 (.fieldLink RX4 10 "LandingFines" "river" "LLandingFines$River;") (by decide +kernel)
  have w2 := C.2.2.2.2.1 (.fieldLink RX4 93 "LandingFines$River" "taken" "I") (by decide +kernel)
  have w3 := C.2.2.2.2.1 (.fieldLink RX4 96 "LandingFines$Landing" "isOpen" "Z") (by decide +kernel)
  have w4 := C.2.2.2.2.1 (.fieldLink RX4 100 "LandingFines$Landing" "isShunned" "Z") (by decide +kernel)
  have hin1 : ∀ w ∈ wsX10, w ∈ wsX4_why := by decide +kernel
  have hin3 : ∀ w ∈ wsX30, w ∈ wsX4_why := by decide +kernel
  have hin4 : ∀ w ∈ wsX40, w ∈ wsX4_why := by decide +kernel
  refine lv_aload_n hx hb dX4_why_0 rfl (lv_at hl 0 rfl) ?_
  refine mm_get (v := .ref (b + 1)) C hH hin4 rfl kl_0 (mm_e4 kd_0) (j := 0) (by decide) rfl w1 rfl dX4_why_1 ?_
  refine lv_iload_n hx hb dX4_why_4 rfl (lv_at hl 1 rfl) ?_
  obtain ⟨o1, e1, h⟩ := mm_bnd h
  refine mm_goe hH (va_runV (As := [.int a1]) (rest := []) ⟨hx, hb, C.2.2.1, C.2.2.2.1, C.2.2.2.2.1⟩ (ct_X3_find l G T b z a1 x e1) (cwV 1 C.2.2.2.2.1 gX4_why_X3_find rfl rfl rfl df_X3_find ⟨Nat.le_of_ble_eq_true rfl, Nat.le_of_ble_eq_true rfl⟩) ⟨mm_B.blind, mm_recv (q := (RX3, TX3, 7)) C hH kl_1 (mm_e3 kd_1) rfl, mm_pre C hH⟩ rfl rfl hl.1 rfl (lv_room (Nat.le_of_ble_eq_true rfl)) dX4_why_5 ⟨Nat.zero_le _, Nat.zero_le _⟩) (fun H locs hH => ?_)
  rcases o1 with _ | k1
  · have h := mm_oc0 h
    refine mm_nul ?_
    refine lv_astore_nN (lv' := [(2, .null), (0, .ref (b + 0)), (1, .int a1)]) hx hb dX4_why_8 rfl hl (by decide) rfl (fun ls hl => ?_)
    refine lv_aload_nN hx hb dX4_why_9 rfl (lv_at hl 0 rfl) ?_
    refine lv_ifnonnullN hx hb dX4_why_10 ?_
    have hl := lv_sub (l' := []) hl [] rfl
    refine lv_iconst (v := (-1)) hx hb dX4_why_13 (by decide) ?_
    exact mm_iretP C hH hr hlk rfl h dX4_why_14
  · have h := mm_oc1 h
    obtain ⟨g1, h⟩ := mm_grd h
    refine mm_nun ?_
    refine lv_astore_n (lv' := [(2, .ref (b + k1)), (0, .ref (b + 0)), (1, .int a1)]) hx hb dX4_why_8 rfl hl (by decide) rfl (fun ls hl => ?_)
    refine lv_aload_n hx hb dX4_why_9 rfl (lv_at hl 0 rfl) ?_
    refine lv_ifnonnull (tgt := 15) hx hb dX4_why_10 (by decide) ?_
    refine lv_iload_n hx hb dX4_why_15 rfl (lv_at hl 2 rfl) ?_
    refine lv_aload_n hx hb dX4_why_16 rfl (lv_at hl 1 rfl) ?_
    refine mm_get (v := .ref (b + 1)) C hH hin4 rfl kl_0 (mm_e4 kd_0) (j := 0) (by decide) rfl w1 rfl dX4_why_17 ?_
    refine mm_get (v := .int (x 1 4)) C hH hin3 rfl kl_1 (mm_e3 kd_1) (j := 4) (by decide) rfl w2 rfl dX4_why_20 ?_
    refine lv_icmp_ne (tgt := 28) hx hb dX4_why_23 (by decide) (fun c1 => ?_) (fun c1 => ?_)
    · have h := mm_neg c1 h
      have hl := lv_sub (l' := [(2, .ref (b + k1))]) hl [0] rfl
      refine lv_aload_n hx hb dX4_why_28 rfl (lv_at hl 0 rfl) ?_
      refine mm_get (v := .int (x k1 0)) C hH hin1 rfl (mm_lt g1 (by decide)) (mm_e1 g1) (j := 0) (by decide) rfl w3 rfl dX4_why_29 ?_
      refine lv_if_ne (tgt := 37) hx hb dX4_why_32 (by decide) (fun c2 => ?_) (fun c2 => ?_)
      · have h := mm_neg c2 h
        refine lv_aload_n hx hb dX4_why_37 rfl (lv_at hl 0 rfl) ?_
        refine mm_get (v := .int (x k1 3)) C hH hin1 rfl (mm_lt g1 (by decide)) (mm_e1 g1) (j := 3) (by decide) rfl w4 rfl dX4_why_38 ?_
        refine lv_if_eq (tgt := 48) hx hb dX4_why_41 (by decide) (fun c3 => ?_) (fun c3 => ?_)
        · have h := mm_pos c3 h
          have hl := lv_sub (l' := []) hl [] rfl
          refine lv_iconst (v := 3) hx hb dX4_why_48 (by decide) ?_
          exact mm_iretP C hH hr hlk rfl h dX4_why_49
        · have h := mm_neg c3 h
          have hl := lv_sub (l' := []) hl [] rfl
          refine lv_iconst (v := 2) hx hb dX4_why_44 (by decide) ?_
          refine lv_goto (tgt := 49) hx hb dX4_why_45 (by decide) ?_
          exact mm_iretP C hH hr hlk rfl h dX4_why_49
      · have h := mm_pos c2 h
        have hl := lv_sub (l' := []) hl [] rfl
        refine lv_iconst (v := 1) hx hb dX4_why_35 (by decide) ?_
        exact mm_iretP C hH hr hlk rfl h dX4_why_36
    · have h := mm_pos c1 h
      have hl := lv_sub (l' := []) hl [] rfl
      refine lv_iconst (v := 0) hx hb dX4_why_26 (by decide) ?_
      exact mm_iretP C hH hr hlk rfl h dX4_why_27
def fn_X4_welcomeIn_25 : Nat → Int32 → mm_M → Option (mm_M × Int32)
  | 0, _, _ => none
  | n + 1, i3, x => if (x 21 3) = 0 then some (x, i3) else if (999 : Int32) ≤ i3 then some (x, i3) else mm_b2 (fn_X3_passMinuteOf 21 x) fun x1 v1 => (some (i3 + 1)).bind fun v2 => fn_X4_welcomeIn_25 n  v2 x1
def fn_X4_welcomeIn (a1 : Int32) (x : mm_M) : Option (mm_M × Int32) :=
  (fn_X3_find a1 x).bind fun o1 => mm_oc o1 (some (x, (-1))) fun k1 => if mm_kd k1 = 1 then (fn_X1_copyFrom 21 k1 x).bind fun x1 => mm_b2 (fn_X4_welcomeIn_25 1000 0 x1) fun x2 v1 => some (x2, v1) else none
abbrev rm_X4_welcomeIn : Room := { frames := 3, cells := 0, slots := 0, locals := 65 }
theorem df_X4_welcomeIn : yX4_welcomeIn.cls = RX4 ∧ yX4_welcomeIn.cls ≠ "java/lang/invoke/MethodHandle" ∧ yX4_welcomeIn.cls ≠ "java/lang/invoke/VarHandle" ∧ (parseMethodDescriptor yX4_welcomeIn.desc).map (fun d => d.parameters.length) = some 1 := by decide +kernel
set_option maxRecDepth 100000 in
set_option maxHeartbeats 4000000 in
theorem lp_X4_welcomeIn_25 {p : Program} {l : Launch} {e : Env} {s : State} {m : MethodId} {args : Array Value} {below : List Frame} {meth : Method} {c : Code} {Q : State → Prop} {G : va_G} {T : Nat → ClassId} {b : Nat} {z : Nat → Nat} (C : mm_C p m c cX4_welcomeIn 4 s args wsX4_welcomeIn RX4 G T b z)  : ∀ (n : Nat) (i3 : Int32) (x : mm_M) (H : Heap) (locs : List Loc) (ls : Array Slot) (x1 : mm_M) (r3 : Int32), fn_X4_welcomeIn_25 n i3 x = some (x1, r3) → mm_H G T b x s H locs → lv_has ls 4 [(0, .ref (b + 0)), (3, .int i3)] → (∀ (H1 : Heap) (locs1 : List Loc) (ls1 : Array Slot), mm_H G T b x1 s H1 locs1 → lv_has ls1 4 [(3, .int r3)] → W p l e rm_X4_welcomeIn s m args below meth c H1 locs1 0 0 Q (F0 m 60 ls1 [])) → W p l e rm_X4_welcomeIn s m args below meth c H locs 0 0 Q (F0 m 25 ls []) := by
  have hx := C.1
  have hb := C.2.1
  have w1 := C.2.2.2.2.1 (.fieldLink RX4 41 "LandingFines" "trial" "LLandingFines$Landing;") (by decide +kernel)
  have w2 := C.2.2.2.2.1 (.fieldLink RX4 100 "LandingFines$Landing" "isShunned" "Z") (by decide +kernel)
  have w3 := C.2.2.2.2.1 (.fieldLink RX4 10 "LandingFines" "river" "LLandingFines$River;") (by decide +kernel)
  have hin1 : ∀ w ∈ wsX10, w ∈ wsX4_welcomeIn := by decide +kernel
  have hin4 : ∀ w ∈ wsX40, w ∈ wsX4_welcomeIn := by decide +kernel
  intro n
  induction n with
  | zero => intro _ _ _ _ _ _ _ h; cases (show (none : Option (mm_M × Int32)) = some _ from h)
  | succ n ih =>
    intro i3 x H locs ls x1 r3 h hH hl kk
    rw [fn_X4_welcomeIn_25] at h
    refine lv_aload_n hx hb dX4_welcomeIn_25 rfl (lv_at hl 0 rfl) ?_
    refine mm_get (v := .ref (b + 21)) C hH hin4 rfl kl_0 (mm_e4 kd_0) (j := 6) (by decide) rfl w1 rfl dX4_welcomeIn_26 ?_
    refine mm_get (v := .int (x 21 3)) C hH hin1 rfl kl_21 (mm_e1 kd_21) (j := 3) (by decide) rfl w2 rfl dX4_welcomeIn_29 ?_
    refine lv_if_eq (tgt := 60) hx hb dX4_welcomeIn_32 (by decide) (fun c1 => ?_) (fun c1 => ?_)
    · have h := mm_pos c1 h
      have hl := lv_sub (l' := [(3, .int i3)]) hl [1] rfl
      cases h
      exact kk _ _ _ hH (lv_sub hl [0] rfl)
    · have h := mm_neg c1 h
      refine lv_iload_n hx hb dX4_welcomeIn_35 rfl (lv_at hl 1 rfl) ?_
      refine lv_sipush (v := 999) hx hb dX4_welcomeIn_36 (by decide) ?_
      refine lv_icmp_ge (tgt := 60) hx hb dX4_welcomeIn_39 (by decide) (fun c2 => ?_) (fun c2 => ?_)
      · have h := mm_pos c2 h
        have hl := lv_sub (l' := [(3, .int i3)]) hl [1] rfl
        cases h
        exact kk _ _ _ hH (lv_sub hl [0] rfl)
      · have h := mm_neg c2 h
        refine lv_aload_n hx hb dX4_welcomeIn_42 rfl (lv_at hl 0 rfl) ?_
        refine mm_get (v := .ref (b + 1)) C hH hin4 rfl kl_0 (mm_e4 kd_0) (j := 0) (by decide) rfl w3 rfl dX4_welcomeIn_43 ?_
        refine lv_aload_n hx hb dX4_welcomeIn_46 rfl (lv_at hl 0 rfl) ?_
        refine mm_get (v := .ref (b + 21)) C hH hin4 rfl kl_0 (mm_e4 kd_0) (j := 6) (by decide) rfl w1 rfl dX4_welcomeIn_47 ?_
        obtain ⟨x1, v1, e1, h⟩ := mm_bnd2 h
        refine mm_goi hH (va_runV (As := [.ref (b + 21)]) (rest := []) ⟨hx, hb, C.2.2.1, C.2.2.2.1, C.2.2.2.2.1⟩ (ct_X3_passMinuteOf l G T b z 21 x e1) (cwV 1 C.2.2.2.2.1 gX4_welcomeIn_X3_passMinuteOf rfl rfl rfl df_X3_passMinuteOf ⟨Nat.le_of_ble_eq_true rfl, Nat.le_of_ble_eq_true rfl⟩) ⟨mm_B.blind, mm_recv (q := (RX3, TX3, 7)) C hH kl_1 (mm_e3 kd_1) rfl, mm_pre C hH⟩ rfl rfl hl.1 rfl (lv_room (Nat.le_of_ble_eq_true rfl)) dX4_welcomeIn_50 ⟨Nat.zero_le _, Nat.zero_le _⟩) (fun H locs hH => ?_)
        refine lv_pop hx hb dX4_welcomeIn_53 rfl ?_
        obtain ⟨v2, e2, h⟩ := mm_bnd h
        refine lv_iinc (v := v2) (lv' := [(3, .int v2), (0, .ref (b + 0))]) hx hb dX4_welcomeIn_54 hl (k := 1) rfl (Option.some.inj e2) (by decide) rfl (fun ls hl => ?_)
        refine lv_goto (tgt := 25) hx hb dX4_welcomeIn_57 (by decide) ?_
        exact ih v2 x1 _ _ _ _ _ h hH (lv_sub hl [1, 0] rfl) kk
set_option maxRecDepth 100000 in
set_option maxHeartbeats 4000000 in
theorem ct_X4_welcomeIn (l : Launch) (G : va_G) (T : Nat → ClassId) (b : Nat) (z : Nat → Nat) (a1 : Int32) (x : mm_M) {x1 : mm_M} {r : Int32} (h : fn_X4_welcomeIn a1 x = some (x1, r)) : mm_Ci l yX4_welcomeIn wsX4_welcomeIn rm_X4_welcomeIn G T b z [.ref (b + 0), .int a1] x r x1 := by
  unfold fn_X4_welcomeIn at h
  refine mm_start (cc := cX4_welcomeIn) (maxL := 4) (ret := (some .int)) (by decide) rfl (Nat.le_of_ble_eq_true rfl) (fun p e s m below meth c ls C hr hlk hH hl => ?_)
  have hl : lv_has ls 4 [(0, .ref (b + 0)), (1, .int a1)] := hl
  have hx := C.1
  have hb := C.2.1
  have w1 := C.2.2.2.2.1 (.fieldLink RX4 10 "LandingFines" "river" "LLandingFines$River;") (by decide +kernel)
  have w2 := C.2.2.2.2.1 (.fieldLink RX4 41 "LandingFines" "trial" "LLandingFines$Landing;") (by decide +kernel)
  have hin4 : ∀ w ∈ wsX40, w ∈ wsX4_welcomeIn := by decide +kernel
  refine lv_aload_n hx hb dX4_welcomeIn_0 rfl (lv_at hl 0 rfl) ?_
  refine mm_get (v := .ref (b + 1)) C hH hin4 rfl kl_0 (mm_e4 kd_0) (j := 0) (by decide) rfl w1 rfl dX4_welcomeIn_1 ?_
  refine lv_iload_n hx hb dX4_welcomeIn_4 rfl (lv_at hl 1 rfl) ?_
  obtain ⟨o1, e1, h⟩ := mm_bnd h
  refine mm_goe hH (va_runV (As := [.int a1]) (rest := []) ⟨hx, hb, C.2.2.1, C.2.2.2.1, C.2.2.2.2.1⟩ (ct_X3_find l G T b z a1 x e1) (cwV 1 C.2.2.2.2.1 gX4_welcomeIn_X3_find rfl rfl rfl df_X3_find ⟨Nat.le_of_ble_eq_true rfl, Nat.le_of_ble_eq_true rfl⟩) ⟨mm_B.blind, mm_recv (q := (RX3, TX3, 7)) C hH kl_1 (mm_e3 kd_1) rfl, mm_pre C hH⟩ rfl rfl hl.1 rfl (lv_room (Nat.le_of_ble_eq_true rfl)) dX4_welcomeIn_5 ⟨Nat.zero_le _, Nat.zero_le _⟩) (fun H locs hH => ?_)
  rcases o1 with _ | k1
  · have h := mm_oc0 h
    refine mm_nul ?_
    refine lv_astore_nN (lv' := [(2, .null), (0, .ref (b + 0)), (1, .int a1)]) hx hb dX4_welcomeIn_8 rfl hl (by decide) rfl (fun ls hl => ?_)
    have hl := lv_sub (l' := [(2, .null), (0, .ref (b + 0))]) hl [0, 1] rfl
    refine lv_aload_nN hx hb dX4_welcomeIn_9 rfl (lv_at hl 0 rfl) ?_
    refine lv_ifnonnullN hx hb dX4_welcomeIn_10 ?_
    have hl := lv_sub (l' := []) hl [] rfl
    refine lv_iconst (v := (-1)) hx hb dX4_welcomeIn_13 (by decide) ?_
    exact mm_iret C hH hr hlk rfl h dX4_welcomeIn_14
  · have h := mm_oc1 h
    obtain ⟨g1, h⟩ := mm_grd h
    refine mm_nun ?_
    refine lv_astore_n (lv' := [(2, .ref (b + k1)), (0, .ref (b + 0)), (1, .int a1)]) hx hb dX4_welcomeIn_8 rfl hl (by decide) rfl (fun ls hl => ?_)
    have hl := lv_sub (l' := [(2, .ref (b + k1)), (0, .ref (b + 0))]) hl [0, 1] rfl
    refine lv_aload_n hx hb dX4_welcomeIn_9 rfl (lv_at hl 0 rfl) ?_
    refine lv_ifnonnull (tgt := 15) hx hb dX4_welcomeIn_10 (by decide) ?_
    refine lv_aload_n hx hb dX4_welcomeIn_15 rfl (lv_at hl 1 rfl) ?_
    refine mm_get (v := .ref (b + 21)) C hH hin4 rfl kl_0 (mm_e4 kd_0) (j := 6) (by decide) rfl w2 rfl dX4_welcomeIn_16 ?_
    refine lv_aload_n hx hb dX4_welcomeIn_19 rfl (lv_at hl 0 rfl) ?_
    obtain ⟨x1, e2, h⟩ := mm_bnd h
    refine mm_gov hH (va_runV (As := [.ref (b + k1)]) (rest := []) ⟨hx, hb, C.2.2.1, C.2.2.2.1, C.2.2.2.2.1⟩ (ct_X1_copyFrom l G T b z 21 k1 x e2) (cwV 1 C.2.2.2.2.1 gX4_welcomeIn_X1_copyFrom rfl rfl rfl df_X1_copyFrom ⟨Nat.le_of_ble_eq_true rfl, Nat.le_of_ble_eq_true rfl⟩) ⟨mm_B.blind, mm_recv (q := (RX1, TX1, 8)) C hH kl_21 (mm_e1 kd_21) rfl, mm_pre C hH⟩ rfl rfl hl.1 rfl (lv_room (Nat.le_of_ble_eq_true rfl)) dX4_welcomeIn_20 ⟨Nat.zero_le _, Nat.zero_le _⟩) (fun H locs hH => ?_)
    refine lv_iconst (v := 0) hx hb dX4_welcomeIn_23 (by decide) ?_
    refine lv_istore_n (lv' := [(3, .int 0), (2, .ref (b + k1)), (0, .ref (b + 0))]) hx hb dX4_welcomeIn_24 rfl hl (by decide) rfl (fun ls hl => ?_)
    have hl := lv_sub (l' := [(3, .int 0), (0, .ref (b + 0))]) hl [0, 2] rfl
    obtain ⟨x2, v1, e3, h⟩ := mm_bnd2 h
    refine lp_X4_welcomeIn_25 C 1000 0 x1 _ _ _ _ _ e3 hH (lv_sub hl [1, 0] rfl) (fun H locs ls hH hl => ?_)
    refine lv_iload_n hx hb dX4_welcomeIn_60 rfl (lv_at hl 0 rfl) ?_
    exact mm_iret C hH hr hlk rfl h dX4_welcomeIn_61
def fn_X4_mayChange_34 : Nat → Int32 → mm_M → Option (mm_M × Int32)
  | 0, _, _ => none
  | n + 1, i3, x => if (100 : Int32) < i3 then some (x, (-6)) else if (x 21 0) = 0 then (some (mm_up x 21 0 1)).bind fun x4 => if (x4 21 0) = 0 then mm_b2 (fn_X3_fineBySort 21 0 x4) fun x5 v5 => if v5 = 0 then (some (i3 + 1)).bind fun v6 => fn_X4_mayChange_34 n  v6 x5 else some (x5, i3) else mm_b2 (fn_X3_fineBySort 21 1 x4) fun x6 v7 => if v7 = 0 then (some (i3 + 1)).bind fun v8 => fn_X4_mayChange_34 n  v8 x6 else some (x6, i3) else (some (mm_up x 21 0 0)).bind fun x1 => if (x1 21 0) = 0 then mm_b2 (fn_X3_fineBySort 21 0 x1) fun x2 v1 => if v1 = 0 then (some (i3 + 1)).bind fun v2 => fn_X4_mayChange_34 n  v2 x2 else some (x2, i3) else mm_b2 (fn_X3_fineBySort 21 1 x1) fun x3 v3 => if v3 = 0 then (some (i3 + 1)).bind fun v4 => fn_X4_mayChange_34 n  v4 x3 else some (x3, i3)
def fn_X4_mayChange (a1 : Int32) (x : mm_M) : Option (mm_M × Int32) :=
  (fn_X3_find a1 x).bind fun o1 => mm_oc o1 (some (x, (-1))) fun k1 => if mm_kd k1 = 1 then if (x k1 3) = 0 then (fn_X1_copyFrom 21 k1 x).bind fun x1 => fn_X4_mayChange_34 101 1 x1 else some (x, 0) else none
abbrev rm_X4_mayChange : Room := { frames := 3, cells := 0, slots := 0, locals := 65 }
theorem df_X4_mayChange : yX4_mayChange.cls = RX4 ∧ yX4_mayChange.cls ≠ "java/lang/invoke/MethodHandle" ∧ yX4_mayChange.cls ≠ "java/lang/invoke/VarHandle" ∧ (parseMethodDescriptor yX4_mayChange.desc).map (fun d => d.parameters.length) = some 1 := by decide +kernel
set_option maxRecDepth 100000 in
set_option maxHeartbeats 4000000 in
theorem lp_X4_mayChange_34 {p : Program} {l : Launch} {e : Env} {s : State} {m : MethodId} {args : Array Value} {below : List Frame} {meth : Method} {c : Code} {G : va_G} {T : Nat → ClassId} {b : Nat} {z : Nat → Nat} (C : mm_C p m c cX4_mayChange 4 s args wsX4_mayChange RX4 G T b z)  (hr : meth.sig.returnType = (some .int)) (hlk : meth.locks = false) : ∀ (n : Nat) (i3 : Int32) (x : mm_M) (H : Heap) (locs : List Loc) (ls : Array Slot) (x1 : mm_M) (r : Int32), fn_X4_mayChange_34 n i3 x = some (x1, r) → mm_H G T b x s H locs → lv_has ls 4 [(0, .ref (b + 0)), (3, .int i3)] → W p l e rm_X4_mayChange s m args below meth c H locs 0 0 (MQ below (mm_Qi G T b r x1) args s 0 0 (fun q => b ≤ q)) (F0 m 34 ls []) := by
  have hx := C.1
  have hb := C.2.1
  have w1 := C.2.2.2.2.1 (.fieldLink RX4 41 "LandingFines" "trial" "LLandingFines$Landing;") (by decide +kernel)
  have w2 := C.2.2.2.2.1 (.fieldLink RX4 96 "LandingFines$Landing" "isOpen" "Z") (by decide +kernel)
  have w3 := C.2.2.2.2.1 (.fieldLink RX4 10 "LandingFines" "river" "LLandingFines$River;") (by decide +kernel)
  have hin1 : ∀ w ∈ wsX10, w ∈ wsX4_mayChange := by decide +kernel
  have hin4 : ∀ w ∈ wsX40, w ∈ wsX4_mayChange := by decide +kernel
  intro n
  induction n with
  | zero => intro _ _ _ _ _ _ _ h; cases (show (none : Option (mm_M × Int32)) = some _ from h)
  | succ n ih =>
    intro i3 x H locs ls x1 r h hH hl
    rw [fn_X4_mayChange_34] at h
    refine lv_iload_n hx hb dX4_mayChange_34 rfl (lv_at hl 1 rfl) ?_
    refine lv_bipush (v := 100) hx hb dX4_mayChange_35 (by decide) ?_
    refine lv_icmp_gt (tgt := 99) hx hb dX4_mayChange_37 (by decide) (fun c1 => ?_) (fun c1 => ?_)
    · have h := mm_pos c1 h
      have hl := lv_sub (l' := []) hl [] rfl
      refine lv_bipush (v := (-6)) hx hb dX4_mayChange_99 (by decide) ?_
      exact mm_iret C hH hr hlk rfl h dX4_mayChange_101
    · have h := mm_neg c1 h
      refine lv_aload_n hx hb dX4_mayChange_40 rfl (lv_at hl 0 rfl) ?_
      refine mm_get (v := .ref (b + 21)) C hH hin4 rfl kl_0 (mm_e4 kd_0) (j := 6) (by decide) rfl w1 rfl dX4_mayChange_41 ?_
      refine lv_aload_n hx hb dX4_mayChange_44 rfl (lv_at hl 0 rfl) ?_
      refine mm_get (v := .ref (b + 21)) C hH hin4 rfl kl_0 (mm_e4 kd_0) (j := 6) (by decide) rfl w1 rfl dX4_mayChange_45 ?_
      refine mm_get (v := .int (x 21 0)) C hH hin1 rfl kl_21 (mm_e1 kd_21) (j := 0) (by decide) rfl w2 rfl dX4_mayChange_48 ?_
      refine lv_if_ne (tgt := 58) hx hb dX4_mayChange_51 (by decide) (fun c2 => ?_) (fun c2 => ?_)
      · have h := mm_neg c2 h
        refine lv_iconst (v := 0) hx hb dX4_mayChange_58 (by decide) ?_
        obtain ⟨x1, e1, h⟩ := mm_bnd h
        refine mm_put (ty := .boolean) C hH hin1 tyX1_ok nmX1 rfl kl_21 (mm_e1 kd_21) (j := 0) (by decide) rfl w2 pd_Z rfl rfl (Nat.le_of_ble_eq_true rfl) (sp_1_0 kd_21) (Option.some.inj e1) dX4_mayChange_59 (fun H locs hH => ?_)
        refine lv_aload_n hx hb dX4_mayChange_62 rfl (lv_at hl 0 rfl) ?_
        refine mm_get (v := .ref (b + 1)) C hH hin4 rfl kl_0 (mm_e4 kd_0) (j := 0) (by decide) rfl w3 rfl dX4_mayChange_63 ?_
        refine lv_aload_n hx hb dX4_mayChange_66 rfl (lv_at hl 0 rfl) ?_
        refine mm_get (v := .ref (b + 21)) C hH hin4 rfl kl_0 (mm_e4 kd_0) (j := 6) (by decide) rfl w1 rfl dX4_mayChange_67 ?_
        refine lv_aload_n hx hb dX4_mayChange_70 rfl (lv_at hl 0 rfl) ?_
        refine mm_get (v := .ref (b + 21)) C hH hin4 rfl kl_0 (mm_e4 kd_0) (j := 6) (by decide) rfl w1 rfl dX4_mayChange_71 ?_
        refine mm_get (v := .int (x1 21 0)) C hH hin1 rfl kl_21 (mm_e1 kd_21) (j := 0) (by decide) rfl w2 rfl dX4_mayChange_74 ?_
        refine lv_if_eq (tgt := 84) hx hb dX4_mayChange_77 (by decide) (fun c3 => ?_) (fun c3 => ?_)
        · have h := mm_pos c3 h
          refine lv_iconst (v := 0) hx hb dX4_mayChange_84 (by decide) ?_
          obtain ⟨x2, v1, e2, h⟩ := mm_bnd2 h
          refine mm_goi hH (va_runV (As := [.ref (b + 21), .int 0]) (rest := []) ⟨hx, hb, C.2.2.1, C.2.2.2.1, C.2.2.2.2.1⟩ (ct_X3_fineBySort l G T b z 21 0 x1 e2) (cwV 2 C.2.2.2.2.1 gX4_mayChange_X3_fineBySort rfl rfl rfl df_X3_fineBySort ⟨Nat.le_of_ble_eq_true rfl, Nat.le_of_ble_eq_true rfl⟩) ⟨mm_B.blind, mm_recv (q := (RX3, TX3, 7)) C hH kl_1 (mm_e3 kd_1) rfl, mm_pre C hH⟩ rfl rfl hl.1 rfl (lv_room (Nat.le_of_ble_eq_true rfl)) dX4_mayChange_85 ⟨Nat.zero_le _, Nat.zero_le _⟩) (fun H locs hH => ?_)
          refine lv_if_eq (tgt := 93) hx hb dX4_mayChange_88 (by decide) (fun c4 => ?_) (fun c4 => ?_)
          · have h := mm_pos c4 h
            obtain ⟨v2, e3, h⟩ := mm_bnd h
            refine lv_iinc (v := v2) (lv' := [(3, .int v2), (0, .ref (b + 0))]) hx hb dX4_mayChange_93 hl (k := 1) rfl (Option.some.inj e3) (by decide) rfl (fun ls hl => ?_)
            refine lv_goto (tgt := 34) hx hb dX4_mayChange_96 (by decide) ?_
            exact ih v2 x2 _ _ _ _ _ h hH (lv_sub hl [1, 0] rfl)
          · have h := mm_neg c4 h
            have hl := lv_sub (l' := [(3, .int i3)]) hl [1] rfl
            refine lv_iload_n hx hb dX4_mayChange_91 rfl (lv_at hl 0 rfl) ?_
            exact mm_iret C hH hr hlk rfl h dX4_mayChange_92
        · have h := mm_neg c3 h
          refine lv_iconst (v := 1) hx hb dX4_mayChange_80 (by decide) ?_
          refine lv_goto (tgt := 85) hx hb dX4_mayChange_81 (by decide) ?_
          obtain ⟨x3, v3, e4, h⟩ := mm_bnd2 h
          refine mm_goi hH (va_runV (As := [.ref (b + 21), .int 1]) (rest := []) ⟨hx, hb, C.2.2.1, C.2.2.2.1, C.2.2.2.2.1⟩ (ct_X3_fineBySort l G T b z 21 1 x1 e4) (cwV 2 C.2.2.2.2.1 gX4_mayChange_X3_fineBySort rfl rfl rfl df_X3_fineBySort ⟨Nat.le_of_ble_eq_true rfl, Nat.le_of_ble_eq_true rfl⟩) ⟨mm_B.blind, mm_recv (q := (RX3, TX3, 7)) C hH kl_1 (mm_e3 kd_1) rfl, mm_pre C hH⟩ rfl rfl hl.1 rfl (lv_room (Nat.le_of_ble_eq_true rfl)) dX4_mayChange_85 ⟨Nat.zero_le _, Nat.zero_le _⟩) (fun H locs hH => ?_)
          refine lv_if_eq (tgt := 93) hx hb dX4_mayChange_88 (by decide) (fun c5 => ?_) (fun c5 => ?_)
          · have h := mm_pos c5 h
            obtain ⟨v4, e5, h⟩ := mm_bnd h
            refine lv_iinc (v := v4) (lv' := [(3, .int v4), (0, .ref (b + 0))]) hx hb dX4_mayChange_93 hl (k := 1) rfl (Option.some.inj e5) (by decide) rfl (fun ls hl => ?_)
            refine lv_goto (tgt := 34) hx hb dX4_mayChange_96 (by decide) ?_
            exact ih v4 x3 _ _ _ _ _ h hH (lv_sub hl [1, 0] rfl)
          · have h := mm_neg c5 h
            have hl := lv_sub (l' := [(3, .int i3)]) hl [1] rfl
            refine lv_iload_n hx hb dX4_mayChange_91 rfl (lv_at hl 0 rfl) ?_
            exact mm_iret C hH hr hlk rfl h dX4_mayChange_92
      · have h := mm_pos c2 h
        refine lv_iconst (v := 1) hx hb dX4_mayChange_54 (by decide) ?_
        refine lv_goto (tgt := 59) hx hb dX4_mayChange_55 (by decide) ?_
        obtain ⟨x4, e6, h⟩ := mm_bnd h
        refine mm_put (ty := .boolean) C hH hin1 tyX1_ok nmX1 rfl kl_21 (mm_e1 kd_21) (j := 0) (by decide) rfl w2 pd_Z rfl rfl (Nat.le_of_ble_eq_true rfl) (sp_1_0 kd_21) (Option.some.inj e6) dX4_mayChange_59 (fun H locs hH => ?_)
        refine lv_aload_n hx hb dX4_mayChange_62 rfl (lv_at hl 0 rfl) ?_
        refine mm_get (v := .ref (b + 1)) C hH hin4 rfl kl_0 (mm_e4 kd_0) (j := 0) (by decide) rfl w3 rfl dX4_mayChange_63 ?_
        refine lv_aload_n hx hb dX4_mayChange_66 rfl (lv_at hl 0 rfl) ?_
        refine mm_get (v := .ref (b + 21)) C hH hin4 rfl kl_0 (mm_e4 kd_0) (j := 6) (by decide) rfl w1 rfl dX4_mayChange_67 ?_
        refine lv_aload_n hx hb dX4_mayChange_70 rfl (lv_at hl 0 rfl) ?_
        refine mm_get (v := .ref (b + 21)) C hH hin4 rfl kl_0 (mm_e4 kd_0) (j := 6) (by decide) rfl w1 rfl dX4_mayChange_71 ?_
        refine mm_get (v := .int (x4 21 0)) C hH hin1 rfl kl_21 (mm_e1 kd_21) (j := 0) (by decide) rfl w2 rfl dX4_mayChange_74 ?_
        refine lv_if_eq (tgt := 84) hx hb dX4_mayChange_77 (by decide) (fun c6 => ?_) (fun c6 => ?_)
        · have h := mm_pos c6 h
          refine lv_iconst (v := 0) hx hb dX4_mayChange_84 (by decide) ?_
          obtain ⟨x5, v5, e7, h⟩ := mm_bnd2 h
          refine mm_goi hH (va_runV (As := [.ref (b + 21), .int 0]) (rest := []) ⟨hx, hb, C.2.2.1, C.2.2.2.1, C.2.2.2.2.1⟩ (ct_X3_fineBySort l G T b z 21 0 x4 e7) (cwV 2 C.2.2.2.2.1 gX4_mayChange_X3_fineBySort rfl rfl rfl df_X3_fineBySort ⟨Nat.le_of_ble_eq_true rfl, Nat.le_of_ble_eq_true rfl⟩) ⟨mm_B.blind, mm_recv (q := (RX3, TX3, 7)) C hH kl_1 (mm_e3 kd_1) rfl, mm_pre C hH⟩ rfl rfl hl.1 rfl (lv_room (Nat.le_of_ble_eq_true rfl)) dX4_mayChange_85 ⟨Nat.zero_le _, Nat.zero_le _⟩) (fun H locs hH => ?_)
          refine lv_if_eq (tgt := 93) hx hb dX4_mayChange_88 (by decide) (fun c7 => ?_) (fun c7 => ?_)
          · have h := mm_pos c7 h
            obtain ⟨v6, e8, h⟩ := mm_bnd h
            refine lv_iinc (v := v6) (lv' := [(3, .int v6), (0, .ref (b + 0))]) hx hb dX4_mayChange_93 hl (k := 1) rfl (Option.some.inj e8) (by decide) rfl (fun ls hl => ?_)
            refine lv_goto (tgt := 34) hx hb dX4_mayChange_96 (by decide) ?_
            exact ih v6 x5 _ _ _ _ _ h hH (lv_sub hl [1, 0] rfl)
          · have h := mm_neg c7 h
            have hl := lv_sub (l' := [(3, .int i3)]) hl [1] rfl
            refine lv_iload_n hx hb dX4_mayChange_91 rfl (lv_at hl 0 rfl) ?_
            exact mm_iret C hH hr hlk rfl h dX4_mayChange_92
        · have h := mm_neg c6 h
          refine lv_iconst (v := 1) hx hb dX4_mayChange_80 (by decide) ?_
          refine lv_goto (tgt := 85) hx hb dX4_mayChange_81 (by decide) ?_
          obtain ⟨x6, v7, e9, h⟩ := mm_bnd2 h
          refine mm_goi hH (va_runV (As := [.ref (b + 21), .int 1]) (rest := []) ⟨hx, hb, C.2.2.1, C.2.2.2.1, C.2.2.2.2.1⟩ (ct_X3_fineBySort l G T b z 21 1 x4 e9) (cwV 2 C.2.2.2.2.1 gX4_mayChange_X3_fineBySort rfl rfl rfl df_X3_fineBySort ⟨Nat.le_of_ble_eq_true rfl, Nat.le_of_ble_eq_true rfl⟩) ⟨mm_B.blind, mm_recv (q := (RX3, TX3, 7)) C hH kl_1 (mm_e3 kd_1) rfl, mm_pre C hH⟩ rfl rfl hl.1 rfl (lv_room (Nat.le_of_ble_eq_true rfl)) dX4_mayChange_85 ⟨Nat.zero_le _, Nat.zero_le _⟩) (fun H locs hH => ?_)
          refine lv_if_eq (tgt := 93) hx hb dX4_mayChange_88 (by decide) (fun c8 => ?_) (fun c8 => ?_)
          · have h := mm_pos c8 h
            obtain ⟨v8, e10, h⟩ := mm_bnd h
            refine lv_iinc (v := v8) (lv' := [(3, .int v8), (0, .ref (b + 0))]) hx hb dX4_mayChange_93 hl (k := 1) rfl (Option.some.inj e10) (by decide) rfl (fun ls hl => ?_)
            refine lv_goto (tgt := 34) hx hb dX4_mayChange_96 (by decide) ?_
            exact ih v8 x6 _ _ _ _ _ h hH (lv_sub hl [1, 0] rfl)
          · have h := mm_neg c8 h
            have hl := lv_sub (l' := [(3, .int i3)]) hl [1] rfl
            refine lv_iload_n hx hb dX4_mayChange_91 rfl (lv_at hl 0 rfl) ?_
            exact mm_iret C hH hr hlk rfl h dX4_mayChange_92
set_option maxRecDepth 100000 in
set_option maxHeartbeats 4000000 in
theorem ct_X4_mayChange (l : Launch) (G : va_G) (T : Nat → ClassId) (b : Nat) (z : Nat → Nat) (a1 : Int32) (x : mm_M) {x1 : mm_M} {r : Int32} (h : fn_X4_mayChange a1 x = some (x1, r)) : mm_Ci l yX4_mayChange wsX4_mayChange rm_X4_mayChange G T b z [.ref (b + 0), .int a1] x r x1 := by
  unfold fn_X4_mayChange at h
  refine mm_start (cc := cX4_mayChange) (maxL := 4) (ret := (some .int)) (by decide) rfl (Nat.le_of_ble_eq_true rfl) (fun p e s m below meth c ls C hr hlk hH hl => ?_)
  have hl : lv_has ls 4 [(0, .ref (b + 0)), (1, .int a1)] := hl
  have hx := C.1
  have hb := C.2.1
  have w1 := C.2.2.2.2.1 (.fieldLink RX4 10 "LandingFines" "river" "LLandingFines$River;") (by decide +kernel)
  have w2 := C.2.2.2.2.1 (.fieldLink RX4 100 "LandingFines$Landing" "isShunned" "Z") (by decide +kernel)
  have w3 := C.2.2.2.2.1 (.fieldLink RX4 41 "LandingFines" "trial" "LLandingFines$Landing;") (by decide +kernel)
  have hin1 : ∀ w ∈ wsX10, w ∈ wsX4_mayChange := by decide +kernel
  have hin4 : ∀ w ∈ wsX40, w ∈ wsX4_mayChange := by decide +kernel
  refine lv_aload_n hx hb dX4_mayChange_0 rfl (lv_at hl 0 rfl) ?_
  refine mm_get (v := .ref (b + 1)) C hH hin4 rfl kl_0 (mm_e4 kd_0) (j := 0) (by decide) rfl w1 rfl dX4_mayChange_1 ?_
  refine lv_iload_n hx hb dX4_mayChange_4 rfl (lv_at hl 1 rfl) ?_
  obtain ⟨o1, e1, h⟩ := mm_bnd h
  refine mm_goe hH (va_runV (As := [.int a1]) (rest := []) ⟨hx, hb, C.2.2.1, C.2.2.2.1, C.2.2.2.2.1⟩ (ct_X3_find l G T b z a1 x e1) (cwV 1 C.2.2.2.2.1 gX4_mayChange_X3_find rfl rfl rfl df_X3_find ⟨Nat.le_of_ble_eq_true rfl, Nat.le_of_ble_eq_true rfl⟩) ⟨mm_B.blind, mm_recv (q := (RX3, TX3, 7)) C hH kl_1 (mm_e3 kd_1) rfl, mm_pre C hH⟩ rfl rfl hl.1 rfl (lv_room (Nat.le_of_ble_eq_true rfl)) dX4_mayChange_5 ⟨Nat.zero_le _, Nat.zero_le _⟩) (fun H locs hH => ?_)
  rcases o1 with _ | k1
  · have h := mm_oc0 h
    refine mm_nul ?_
    refine lv_astore_nN (lv' := [(2, .null), (0, .ref (b + 0)), (1, .int a1)]) hx hb dX4_mayChange_8 rfl hl (by decide) rfl (fun ls hl => ?_)
    have hl := lv_sub (l' := [(2, .null), (0, .ref (b + 0))]) hl [0, 1] rfl
    refine lv_aload_nN hx hb dX4_mayChange_9 rfl (lv_at hl 0 rfl) ?_
    refine lv_ifnonnullN hx hb dX4_mayChange_10 ?_
    have hl := lv_sub (l' := []) hl [] rfl
    refine lv_iconst (v := (-1)) hx hb dX4_mayChange_13 (by decide) ?_
    exact mm_iret C hH hr hlk rfl h dX4_mayChange_14
  · have h := mm_oc1 h
    obtain ⟨g1, h⟩ := mm_grd h
    refine mm_nun ?_
    refine lv_astore_n (lv' := [(2, .ref (b + k1)), (0, .ref (b + 0)), (1, .int a1)]) hx hb dX4_mayChange_8 rfl hl (by decide) rfl (fun ls hl => ?_)
    have hl := lv_sub (l' := [(2, .ref (b + k1)), (0, .ref (b + 0))]) hl [0, 1] rfl
    refine lv_aload_n hx hb dX4_mayChange_9 rfl (lv_at hl 0 rfl) ?_
    refine lv_ifnonnull (tgt := 15) hx hb dX4_mayChange_10 (by decide) ?_
    refine lv_aload_n hx hb dX4_mayChange_15 rfl (lv_at hl 0 rfl) ?_
    refine mm_get (v := .int (x k1 3)) C hH hin1 rfl (mm_lt g1 (by decide)) (mm_e1 g1) (j := 3) (by decide) rfl w2 rfl dX4_mayChange_16 ?_
    refine lv_if_eq (tgt := 24) hx hb dX4_mayChange_19 (by decide) (fun c1 => ?_) (fun c1 => ?_)
    · have h := mm_pos c1 h
      refine lv_aload_n hx hb dX4_mayChange_24 rfl (lv_at hl 1 rfl) ?_
      refine mm_get (v := .ref (b + 21)) C hH hin4 rfl kl_0 (mm_e4 kd_0) (j := 6) (by decide) rfl w3 rfl dX4_mayChange_25 ?_
      refine lv_aload_n hx hb dX4_mayChange_28 rfl (lv_at hl 0 rfl) ?_
      obtain ⟨x1, e2, h⟩ := mm_bnd h
      refine mm_gov hH (va_runV (As := [.ref (b + k1)]) (rest := []) ⟨hx, hb, C.2.2.1, C.2.2.2.1, C.2.2.2.2.1⟩ (ct_X1_copyFrom l G T b z 21 k1 x e2) (cwV 1 C.2.2.2.2.1 gX4_mayChange_X1_copyFrom rfl rfl rfl df_X1_copyFrom ⟨Nat.le_of_ble_eq_true rfl, Nat.le_of_ble_eq_true rfl⟩) ⟨mm_B.blind, mm_recv (q := (RX1, TX1, 8)) C hH kl_21 (mm_e1 kd_21) rfl, mm_pre C hH⟩ rfl rfl hl.1 rfl (lv_room (Nat.le_of_ble_eq_true rfl)) dX4_mayChange_29 ⟨Nat.zero_le _, Nat.zero_le _⟩) (fun H locs hH => ?_)
      refine lv_iconst (v := 1) hx hb dX4_mayChange_32 (by decide) ?_
      refine lv_istore_n (lv' := [(3, .int 1), (2, .ref (b + k1)), (0, .ref (b + 0))]) hx hb dX4_mayChange_33 rfl hl (by decide) rfl (fun ls hl => ?_)
      have hl := lv_sub (l' := [(3, .int 1), (0, .ref (b + 0))]) hl [0, 2] rfl
      exact lp_X4_mayChange_34 C   hr hlk 101 1 x1 _ _ _ _ _ h hH (lv_sub hl [1, 0] rfl)
    · have h := mm_neg c1 h
      have hl := lv_sub (l' := []) hl [] rfl
      refine lv_iconst (v := 0) hx hb dX4_mayChange_22 (by decide) ?_
      exact mm_iret C hH hr hlk rfl h dX4_mayChange_23
def fn_X4_fineIn_40 : Nat → Int32 → Int32 → mm_M → Option mm_M
  | 0, _, _, _ => none
  | n + 1, a2, i4, x => if a2 ≤ i4 then some (x) else mm_b2 (fn_X3_passMinuteOf 21 x) fun x1 v1 => (some (i4 + 1)).bind fun v2 => fn_X4_fineIn_40 n a2 v2 x1
def fn_X4_fineIn (a1 : Int32) (a2 : Int32) (x : mm_M) : Option (mm_M × Int32) :=
  (fn_X3_find a1 x).bind fun o1 => mm_oc o1 (some (x, (-1))) fun k1 => if mm_kd k1 = 1 then if a2 < 0 then some (x, (-2)) else if a2 ≤ 999 then (fn_X1_copyFrom 21 k1 x).bind fun x1 => (fn_X4_fineIn_40 1000 a2 0 x1).bind fun x2 => some (x2, (x2 21 2)) else some (x, (-2)) else none
abbrev rm_X4_fineIn : Room := { frames := 3, cells := 0, slots := 0, locals := 65 }
theorem df_X4_fineIn : yX4_fineIn.cls = RX4 ∧ yX4_fineIn.cls ≠ "java/lang/invoke/MethodHandle" ∧ yX4_fineIn.cls ≠ "java/lang/invoke/VarHandle" ∧ (parseMethodDescriptor yX4_fineIn.desc).map (fun d => d.parameters.length) = some 2 := by decide +kernel
set_option maxRecDepth 100000 in
set_option maxHeartbeats 4000000 in
theorem lp_X4_fineIn_40 {p : Program} {l : Launch} {e : Env} {s : State} {m : MethodId} {args : Array Value} {below : List Frame} {meth : Method} {c : Code} {Q : State → Prop} {G : va_G} {T : Nat → ClassId} {b : Nat} {z : Nat → Nat} (C : mm_C p m c cX4_fineIn 5 s args wsX4_fineIn RX4 G T b z) (a2 : Int32) : ∀ (n : Nat) (i4 : Int32) (x : mm_M) (H : Heap) (locs : List Loc) (ls : Array Slot) (x1 : mm_M), fn_X4_fineIn_40 n a2 i4 x = some (x1) → mm_H G T b x s H locs → lv_has ls 5 [(0, .ref (b + 0)), (2, .int a2), (4, .int i4)] → (∀ (H1 : Heap) (locs1 : List Loc) (ls1 : Array Slot), mm_H G T b x1 s H1 locs1 → lv_has ls1 5 [(0, .ref (b + 0))] → W p l e rm_X4_fineIn s m args below meth c H1 locs1 0 0 Q (F0 m 64 ls1 [])) → W p l e rm_X4_fineIn s m args below meth c H locs 0 0 Q (F0 m 40 ls []) := by
  have hx := C.1
  have hb := C.2.1
  have w1 := C.2.2.2.2.1 (.fieldLink RX4 10 "LandingFines" "river" "LLandingFines$River;") (by decide +kernel)
  have w2 := C.2.2.2.2.1 (.fieldLink RX4 41 "LandingFines" "trial" "LLandingFines$Landing;") (by decide +kernel)
  have hin4 : ∀ w ∈ wsX40, w ∈ wsX4_fineIn := by decide +kernel
  intro n
  induction n with
  | zero => intro _ _ _ _ _ _ h; cases (show (none : Option mm_M) = some _ from h)
  | succ n ih =>
    intro i4 x H locs ls x1 h hH hl kk
    rw [fn_X4_fineIn_40] at h
    refine lv_iload hx hb dX4_fineIn_40 (lv_at hl 2 rfl) ?_
    refine lv_iload_n hx hb dX4_fineIn_42 rfl (lv_at hl 1 rfl) ?_
    refine lv_icmp_ge (tgt := 64) hx hb dX4_fineIn_43 (by decide) (fun c1 => ?_) (fun c1 => ?_)
    · have h := mm_pos c1 h
      have hl := lv_sub (l' := [(0, .ref (b + 0))]) hl [0] rfl
      cases h
      exact kk _ _ _ hH (lv_sub hl [0] rfl)
    · have h := mm_neg c1 h
      refine lv_aload_n hx hb dX4_fineIn_46 rfl (lv_at hl 0 rfl) ?_
      refine mm_get (v := .ref (b + 1)) C hH hin4 rfl kl_0 (mm_e4 kd_0) (j := 0) (by decide) rfl w1 rfl dX4_fineIn_47 ?_
      refine lv_aload_n hx hb dX4_fineIn_50 rfl (lv_at hl 0 rfl) ?_
      refine mm_get (v := .ref (b + 21)) C hH hin4 rfl kl_0 (mm_e4 kd_0) (j := 6) (by decide) rfl w2 rfl dX4_fineIn_51 ?_
      obtain ⟨x1, v1, e1, h⟩ := mm_bnd2 h
      refine mm_goi hH (va_runV (As := [.ref (b + 21)]) (rest := []) ⟨hx, hb, C.2.2.1, C.2.2.2.1, C.2.2.2.2.1⟩ (ct_X3_passMinuteOf l G T b z 21 x e1) (cwV 1 C.2.2.2.2.1 gX4_fineIn_X3_passMinuteOf rfl rfl rfl df_X3_passMinuteOf ⟨Nat.le_of_ble_eq_true rfl, Nat.le_of_ble_eq_true rfl⟩) ⟨mm_B.blind, mm_recv (q := (RX3, TX3, 7)) C hH kl_1 (mm_e3 kd_1) rfl, mm_pre C hH⟩ rfl rfl hl.1 rfl (lv_room (Nat.le_of_ble_eq_true rfl)) dX4_fineIn_54 ⟨Nat.zero_le _, Nat.zero_le _⟩) (fun H locs hH => ?_)
      refine lv_pop hx hb dX4_fineIn_57 rfl ?_
      obtain ⟨v2, e2, h⟩ := mm_bnd h
      refine lv_iinc (v := v2) (lv' := [(4, .int v2), (0, .ref (b + 0)), (2, .int a2)]) hx hb dX4_fineIn_58 hl (k := 2) rfl (Option.some.inj e2) (by decide) rfl (fun ls hl => ?_)
      refine lv_goto (tgt := 40) hx hb dX4_fineIn_61 (by decide) ?_
      exact ih v2 x1 _ _ _ _ h hH (lv_sub hl [1, 2, 0] rfl) kk
set_option maxRecDepth 100000 in
set_option maxHeartbeats 4000000 in
theorem ct_X4_fineIn (l : Launch) (G : va_G) (T : Nat → ClassId) (b : Nat) (z : Nat → Nat) (a1 : Int32) (a2 : Int32) (x : mm_M) {x1 : mm_M} {r : Int32} (h : fn_X4_fineIn a1 a2 x = some (x1, r)) : mm_Ci l yX4_fineIn wsX4_fineIn rm_X4_fineIn G T b z [.ref (b + 0), .int a1, .int a2] x r x1 := by
  unfold fn_X4_fineIn at h
  refine mm_start (cc := cX4_fineIn) (maxL := 5) (ret := (some .int)) (by decide) rfl (Nat.le_of_ble_eq_true rfl) (fun p e s m below meth c ls C hr hlk hH hl => ?_)
  have hl : lv_has ls 5 [(0, .ref (b + 0)), (1, .int a1), (2, .int a2)] := hl
  have hx := C.1
  have hb := C.2.1
  have w1 := C.2.2.2.2.1 (.fieldLink RX4 10 "LandingFines" "river" "LLandingFines$River;") (by decide +kernel)
  have w2 := C.2.2.2.2.1 (.fieldLink RX4 41 "LandingFines" "trial" "LLandingFines$Landing;") (by decide +kernel)
  have w3 := C.2.2.2.2.1 (.fieldLink RX4 115 "LandingFines$Landing" "fine" "I") (by decide +kernel)
  have hin1 : ∀ w ∈ wsX10, w ∈ wsX4_fineIn := by decide +kernel
  have hin4 : ∀ w ∈ wsX40, w ∈ wsX4_fineIn := by decide +kernel
  refine lv_aload_n hx hb dX4_fineIn_0 rfl (lv_at hl 0 rfl) ?_
  refine mm_get (v := .ref (b + 1)) C hH hin4 rfl kl_0 (mm_e4 kd_0) (j := 0) (by decide) rfl w1 rfl dX4_fineIn_1 ?_
  refine lv_iload_n hx hb dX4_fineIn_4 rfl (lv_at hl 1 rfl) ?_
  obtain ⟨o1, e1, h⟩ := mm_bnd h
  refine mm_goe hH (va_runV (As := [.int a1]) (rest := []) ⟨hx, hb, C.2.2.1, C.2.2.2.1, C.2.2.2.2.1⟩ (ct_X3_find l G T b z a1 x e1) (cwV 1 C.2.2.2.2.1 gX4_fineIn_X3_find rfl rfl rfl df_X3_find ⟨Nat.le_of_ble_eq_true rfl, Nat.le_of_ble_eq_true rfl⟩) ⟨mm_B.blind, mm_recv (q := (RX3, TX3, 7)) C hH kl_1 (mm_e3 kd_1) rfl, mm_pre C hH⟩ rfl rfl hl.1 rfl (lv_room (Nat.le_of_ble_eq_true rfl)) dX4_fineIn_5 ⟨Nat.zero_le _, Nat.zero_le _⟩) (fun H locs hH => ?_)
  rcases o1 with _ | k1
  · have h := mm_oc0 h
    refine mm_nul ?_
    refine lv_astore_nN (lv' := [(3, .null), (0, .ref (b + 0)), (1, .int a1), (2, .int a2)]) hx hb dX4_fineIn_8 rfl hl (by decide) rfl (fun ls hl => ?_)
    have hl := lv_sub (l' := [(3, .null), (0, .ref (b + 0)), (2, .int a2)]) hl [0, 1, 3] rfl
    refine lv_aload_nN hx hb dX4_fineIn_9 rfl (lv_at hl 0 rfl) ?_
    refine lv_ifnonnullN hx hb dX4_fineIn_10 ?_
    have hl := lv_sub (l' := []) hl [] rfl
    refine lv_iconst (v := (-1)) hx hb dX4_fineIn_13 (by decide) ?_
    exact mm_iret C hH hr hlk rfl h dX4_fineIn_14
  · have h := mm_oc1 h
    obtain ⟨g1, h⟩ := mm_grd h
    refine mm_nun ?_
    refine lv_astore_n (lv' := [(3, .ref (b + k1)), (0, .ref (b + 0)), (1, .int a1), (2, .int a2)]) hx hb dX4_fineIn_8 rfl hl (by decide) rfl (fun ls hl => ?_)
    have hl := lv_sub (l' := [(3, .ref (b + k1)), (0, .ref (b + 0)), (2, .int a2)]) hl [0, 1, 3] rfl
    refine lv_aload_n hx hb dX4_fineIn_9 rfl (lv_at hl 0 rfl) ?_
    refine lv_ifnonnull (tgt := 15) hx hb dX4_fineIn_10 (by decide) ?_
    refine lv_iload_n hx hb dX4_fineIn_15 rfl (lv_at hl 2 rfl) ?_
    refine lv_if_lt (tgt := 26) hx hb dX4_fineIn_16 (by decide) (fun c1 => ?_) (fun c1 => ?_)
    · have h := mm_pos c1 h
      have hl := lv_sub (l' := []) hl [] rfl
      refine lv_bipush (v := (-2)) hx hb dX4_fineIn_26 (by decide) ?_
      exact mm_iret C hH hr hlk rfl h dX4_fineIn_28
    · have h := mm_neg c1 h
      refine lv_iload_n hx hb dX4_fineIn_19 rfl (lv_at hl 2 rfl) ?_
      refine lv_sipush (v := 999) hx hb dX4_fineIn_20 (by decide) ?_
      refine lv_icmp_le (tgt := 29) hx hb dX4_fineIn_23 (by decide) (fun c2 => ?_) (fun c2 => ?_)
      · have h := mm_pos c2 h
        refine lv_aload_n hx hb dX4_fineIn_29 rfl (lv_at hl 1 rfl) ?_
        refine mm_get (v := .ref (b + 21)) C hH hin4 rfl kl_0 (mm_e4 kd_0) (j := 6) (by decide) rfl w2 rfl dX4_fineIn_30 ?_
        refine lv_aload_n hx hb dX4_fineIn_33 rfl (lv_at hl 0 rfl) ?_
        obtain ⟨x1, e2, h⟩ := mm_bnd h
        refine mm_gov hH (va_runV (As := [.ref (b + k1)]) (rest := []) ⟨hx, hb, C.2.2.1, C.2.2.2.1, C.2.2.2.2.1⟩ (ct_X1_copyFrom l G T b z 21 k1 x e2) (cwV 1 C.2.2.2.2.1 gX4_fineIn_X1_copyFrom rfl rfl rfl df_X1_copyFrom ⟨Nat.le_of_ble_eq_true rfl, Nat.le_of_ble_eq_true rfl⟩) ⟨mm_B.blind, mm_recv (q := (RX1, TX1, 8)) C hH kl_21 (mm_e1 kd_21) rfl, mm_pre C hH⟩ rfl rfl hl.1 rfl (lv_room (Nat.le_of_ble_eq_true rfl)) dX4_fineIn_34 ⟨Nat.zero_le _, Nat.zero_le _⟩) (fun H locs hH => ?_)
        refine lv_iconst (v := 0) hx hb dX4_fineIn_37 (by decide) ?_
        refine lv_istore (lv' := [(4, .int 0), (3, .ref (b + k1)), (0, .ref (b + 0)), (2, .int a2)]) hx hb dX4_fineIn_38 hl (by decide) rfl (fun ls hl => ?_)
        have hl := lv_sub (l' := [(4, .int 0), (0, .ref (b + 0)), (2, .int a2)]) hl [0, 2, 3] rfl
        obtain ⟨x2, e3, h⟩ := mm_bnd h
        refine lp_X4_fineIn_40 C a2 1000 0 x1 _ _ _ _ e3 hH (lv_sub hl [1, 2, 0] rfl) (fun H locs ls hH hl => ?_)
        refine lv_aload_n hx hb dX4_fineIn_64 rfl (lv_at hl 0 rfl) ?_
        refine mm_get (v := .ref (b + 21)) C hH hin4 rfl kl_0 (mm_e4 kd_0) (j := 6) (by decide) rfl w2 rfl dX4_fineIn_65 ?_
        refine mm_get (v := .int (x2 21 2)) C hH hin1 rfl kl_21 (mm_e1 kd_21) (j := 2) (by decide) rfl w3 rfl dX4_fineIn_68 ?_
        exact mm_iret C hH hr hlk rfl h dX4_fineIn_71
      · have h := mm_neg c2 h
        have hl := lv_sub (l' := []) hl [] rfl
        refine lv_bipush (v := (-2)) hx hb dX4_fineIn_26 (by decide) ?_
        exact mm_iret C hH hr hlk rfl h dX4_fineIn_28
def fn_X4_staysWelcome_10 : Nat → Int32 → Int32 → mm_M → Option (mm_M × Int32)
  | 0, _, _, _ => none
  | n + 1, a1, i2, x => if (80 : Int32) ≤ i2 then some (x, 1) else if (i2 - i2 / 2 * 2) = 0 then mm_b2 (fn_X3_fineBySort 21 0 x) fun x3 v3 => if v3 = 0 then (fn_X3_fade 21 a1 x3).bind fun x4 => (some (i2 + 1)).bind fun v4 => fn_X4_staysWelcome_10 n a1 v4 x4 else some (x3, 0) else mm_b2 (fn_X3_fineBySort 21 1 x) fun x1 v1 => if v1 = 0 then (fn_X3_fade 21 a1 x1).bind fun x2 => (some (i2 + 1)).bind fun v2 => fn_X4_staysWelcome_10 n a1 v2 x2 else some (x1, 0)
def fn_X4_staysWelcome (a1 : Int32) (x : mm_M) : Option (mm_M × Int32) :=
  (fn_X1_arrive 21 0 x).bind fun x1 => fn_X4_staysWelcome_10 81 a1 0 x1
abbrev rm_X4_staysWelcome : Room := { frames := 3, cells := 0, slots := 0, locals := 65 }
theorem df_X4_staysWelcome : yX4_staysWelcome.cls = RX4 ∧ yX4_staysWelcome.cls ≠ "java/lang/invoke/MethodHandle" ∧ yX4_staysWelcome.cls ≠ "java/lang/invoke/VarHandle" ∧ (parseMethodDescriptor yX4_staysWelcome.desc).map (fun d => d.parameters.length) = some 1 := by decide +kernel
set_option maxRecDepth 100000 in
set_option maxHeartbeats 4000000 in
theorem lp_X4_staysWelcome_10 {p : Program} {l : Launch} {e : Env} {s : State} {m : MethodId} {args : Array Value} {below : List Frame} {meth : Method} {c : Code} {G : va_G} {T : Nat → ClassId} {b : Nat} {z : Nat → Nat} (C : mm_C p m c cX4_staysWelcome 3 s args wsX4_staysWelcome RX4 G T b z) (a1 : Int32) (hr : meth.sig.returnType = (some .boolean)) (hlk : meth.locks = false) : ∀ (n : Nat) (i2 : Int32) (x : mm_M) (H : Heap) (locs : List Loc) (ls : Array Slot) (x1 : mm_M) (r : Int32), fn_X4_staysWelcome_10 n a1 i2 x = some (x1, r) → mm_H G T b x s H locs → lv_has ls 3 [(0, .ref (b + 0)), (1, .int a1), (2, .int i2)] → W p l e rm_X4_staysWelcome s m args below meth c H locs 0 0 (MQ below (mm_Qi G T b r x1) args s 0 0 (fun q => b ≤ q)) (F0 m 10 ls []) := by
  have hx := C.1
  have hb := C.2.1
  have w1 := C.2.2.2.2.1 (.fieldLink RX4 10 "LandingFines" "river" "LLandingFines$River;") (by decide +kernel)
  have w2 := C.2.2.2.2.1 (.fieldLink RX4 41 "LandingFines" "trial" "LLandingFines$Landing;") (by decide +kernel)
  have hin4 : ∀ w ∈ wsX40, w ∈ wsX4_staysWelcome := by decide +kernel
  intro n
  induction n with
  | zero => intro _ _ _ _ _ _ _ h; cases (show (none : Option (mm_M × Int32)) = some _ from h)
  | succ n ih =>
    intro i2 x H locs ls x1 r h hH hl
    rw [fn_X4_staysWelcome_10] at h
    refine lv_iload_n hx hb dX4_staysWelcome_10 rfl (lv_at hl 2 rfl) ?_
    refine lv_bipush (v := 80) hx hb dX4_staysWelcome_11 (by decide) ?_
    refine lv_icmp_ge (tgt := 61) hx hb dX4_staysWelcome_13 (by decide) (fun c1 => ?_) (fun c1 => ?_)
    · have h := mm_pos c1 h
      have hl := lv_sub (l' := []) hl [] rfl
      refine lv_iconst (v := 1) hx hb dX4_staysWelcome_61 (by decide) ?_
      exact mm_iret C hH hr hlk rfl h dX4_staysWelcome_62
    · have h := mm_neg c1 h
      refine lv_aload_n hx hb dX4_staysWelcome_16 rfl (lv_at hl 0 rfl) ?_
      refine mm_get (v := .ref (b + 1)) C hH hin4 rfl kl_0 (mm_e4 kd_0) (j := 0) (by decide) rfl w1 rfl dX4_staysWelcome_17 ?_
      refine lv_aload_n hx hb dX4_staysWelcome_20 rfl (lv_at hl 0 rfl) ?_
      refine mm_get (v := .ref (b + 21)) C hH hin4 rfl kl_0 (mm_e4 kd_0) (j := 6) (by decide) rfl w2 rfl dX4_staysWelcome_21 ?_
      refine lv_iload_n hx hb dX4_staysWelcome_24 rfl (lv_at hl 2 rfl) ?_
      refine lv_iconst (v := 2) hx hb dX4_staysWelcome_25 (by decide) ?_
      refine lv_irem hx hb dX4_staysWelcome_26 (by decide) ?_
      refine lv_if_ne (tgt := 34) hx hb dX4_staysWelcome_27 (by decide) (fun c2 => ?_) (fun c2 => ?_)
      · have h := mm_neg c2 h
        refine lv_iconst (v := 1) hx hb dX4_staysWelcome_34 (by decide) ?_
        obtain ⟨x1, v1, e1, h⟩ := mm_bnd2 h
        refine mm_goi hH (va_runV (As := [.ref (b + 21), .int 1]) (rest := []) ⟨hx, hb, C.2.2.1, C.2.2.2.1, C.2.2.2.2.1⟩ (ct_X3_fineBySort l G T b z 21 1 x e1) (cwV 2 C.2.2.2.2.1 gX4_staysWelcome_X3_fineBySort rfl rfl rfl df_X3_fineBySort ⟨Nat.le_of_ble_eq_true rfl, Nat.le_of_ble_eq_true rfl⟩) ⟨mm_B.blind, mm_recv (q := (RX3, TX3, 7)) C hH kl_1 (mm_e3 kd_1) rfl, mm_pre C hH⟩ rfl rfl hl.1 rfl (lv_room (Nat.le_of_ble_eq_true rfl)) dX4_staysWelcome_35 ⟨Nat.zero_le _, Nat.zero_le _⟩) (fun H locs hH => ?_)
        refine lv_if_eq (tgt := 43) hx hb dX4_staysWelcome_38 (by decide) (fun c3 => ?_) (fun c3 => ?_)
        · have h := mm_pos c3 h
          refine lv_aload_n hx hb dX4_staysWelcome_43 rfl (lv_at hl 0 rfl) ?_
          refine mm_get (v := .ref (b + 1)) C hH hin4 rfl kl_0 (mm_e4 kd_0) (j := 0) (by decide) rfl w1 rfl dX4_staysWelcome_44 ?_
          refine lv_aload_n hx hb dX4_staysWelcome_47 rfl (lv_at hl 0 rfl) ?_
          refine mm_get (v := .ref (b + 21)) C hH hin4 rfl kl_0 (mm_e4 kd_0) (j := 6) (by decide) rfl w2 rfl dX4_staysWelcome_48 ?_
          refine lv_iload_n hx hb dX4_staysWelcome_51 rfl (lv_at hl 1 rfl) ?_
          obtain ⟨x2, e2, h⟩ := mm_bnd h
          refine mm_gov hH (va_runV (As := [.ref (b + 21), .int a1]) (rest := []) ⟨hx, hb, C.2.2.1, C.2.2.2.1, C.2.2.2.2.1⟩ (ct_X3_fade l G T b z 21 a1 x1 e2) (cwV 2 C.2.2.2.2.1 gX4_staysWelcome_X3_fade rfl rfl rfl df_X3_fade ⟨Nat.le_of_ble_eq_true rfl, Nat.le_of_ble_eq_true rfl⟩) ⟨mm_B.blind, mm_recv (q := (RX3, TX3, 7)) C hH kl_1 (mm_e3 kd_1) rfl, mm_pre C hH⟩ rfl rfl hl.1 rfl (lv_room (Nat.le_of_ble_eq_true rfl)) dX4_staysWelcome_52 ⟨Nat.zero_le _, Nat.zero_le _⟩) (fun H locs hH => ?_)
          obtain ⟨v2, e3, h⟩ := mm_bnd h
          refine lv_iinc (v := v2) (lv' := [(2, .int v2), (0, .ref (b + 0)), (1, .int a1)]) hx hb dX4_staysWelcome_55 hl (k := 2) rfl (Option.some.inj e3) (by decide) rfl (fun ls hl => ?_)
          refine lv_goto (tgt := 10) hx hb dX4_staysWelcome_58 (by decide) ?_
          exact ih v2 x2 _ _ _ _ _ h hH (lv_sub hl [1, 2, 0] rfl)
        · have h := mm_neg c3 h
          have hl := lv_sub (l' := []) hl [] rfl
          refine lv_iconst (v := 0) hx hb dX4_staysWelcome_41 (by decide) ?_
          exact mm_iret C hH hr hlk rfl h dX4_staysWelcome_42
      · have h := mm_pos c2 h
        refine lv_iconst (v := 0) hx hb dX4_staysWelcome_30 (by decide) ?_
        refine lv_goto (tgt := 35) hx hb dX4_staysWelcome_31 (by decide) ?_
        obtain ⟨x3, v3, e4, h⟩ := mm_bnd2 h
        refine mm_goi hH (va_runV (As := [.ref (b + 21), .int 0]) (rest := []) ⟨hx, hb, C.2.2.1, C.2.2.2.1, C.2.2.2.2.1⟩ (ct_X3_fineBySort l G T b z 21 0 x e4) (cwV 2 C.2.2.2.2.1 gX4_staysWelcome_X3_fineBySort rfl rfl rfl df_X3_fineBySort ⟨Nat.le_of_ble_eq_true rfl, Nat.le_of_ble_eq_true rfl⟩) ⟨mm_B.blind, mm_recv (q := (RX3, TX3, 7)) C hH kl_1 (mm_e3 kd_1) rfl, mm_pre C hH⟩ rfl rfl hl.1 rfl (lv_room (Nat.le_of_ble_eq_true rfl)) dX4_staysWelcome_35 ⟨Nat.zero_le _, Nat.zero_le _⟩) (fun H locs hH => ?_)
        refine lv_if_eq (tgt := 43) hx hb dX4_staysWelcome_38 (by decide) (fun c4 => ?_) (fun c4 => ?_)
        · have h := mm_pos c4 h
          refine lv_aload_n hx hb dX4_staysWelcome_43 rfl (lv_at hl 0 rfl) ?_
          refine mm_get (v := .ref (b + 1)) C hH hin4 rfl kl_0 (mm_e4 kd_0) (j := 0) (by decide) rfl w1 rfl dX4_staysWelcome_44 ?_
          refine lv_aload_n hx hb dX4_staysWelcome_47 rfl (lv_at hl 0 rfl) ?_
          refine mm_get (v := .ref (b + 21)) C hH hin4 rfl kl_0 (mm_e4 kd_0) (j := 6) (by decide) rfl w2 rfl dX4_staysWelcome_48 ?_
          refine lv_iload_n hx hb dX4_staysWelcome_51 rfl (lv_at hl 1 rfl) ?_
          obtain ⟨x4, e5, h⟩ := mm_bnd h
          refine mm_gov hH (va_runV (As := [.ref (b + 21), .int a1]) (rest := []) ⟨hx, hb, C.2.2.1, C.2.2.2.1, C.2.2.2.2.1⟩ (ct_X3_fade l G T b z 21 a1 x3 e5) (cwV 2 C.2.2.2.2.1 gX4_staysWelcome_X3_fade rfl rfl rfl df_X3_fade ⟨Nat.le_of_ble_eq_true rfl, Nat.le_of_ble_eq_true rfl⟩) ⟨mm_B.blind, mm_recv (q := (RX3, TX3, 7)) C hH kl_1 (mm_e3 kd_1) rfl, mm_pre C hH⟩ rfl rfl hl.1 rfl (lv_room (Nat.le_of_ble_eq_true rfl)) dX4_staysWelcome_52 ⟨Nat.zero_le _, Nat.zero_le _⟩) (fun H locs hH => ?_)
          obtain ⟨v4, e6, h⟩ := mm_bnd h
          refine lv_iinc (v := v4) (lv' := [(2, .int v4), (0, .ref (b + 0)), (1, .int a1)]) hx hb dX4_staysWelcome_55 hl (k := 2) rfl (Option.some.inj e6) (by decide) rfl (fun ls hl => ?_)
          refine lv_goto (tgt := 10) hx hb dX4_staysWelcome_58 (by decide) ?_
          exact ih v4 x4 _ _ _ _ _ h hH (lv_sub hl [1, 2, 0] rfl)
        · have h := mm_neg c4 h
          have hl := lv_sub (l' := []) hl [] rfl
          refine lv_iconst (v := 0) hx hb dX4_staysWelcome_41 (by decide) ?_
          exact mm_iret C hH hr hlk rfl h dX4_staysWelcome_42
set_option maxRecDepth 100000 in
set_option maxHeartbeats 4000000 in
theorem ct_X4_staysWelcome (l : Launch) (G : va_G) (T : Nat → ClassId) (b : Nat) (z : Nat → Nat) (a1 : Int32) (x : mm_M) {x1 : mm_M} {r : Int32} (h : fn_X4_staysWelcome a1 x = some (x1, r)) : mm_Ci l yX4_staysWelcome wsX4_staysWelcome rm_X4_staysWelcome G T b z [.ref (b + 0), .int a1] x r x1 := by
  unfold fn_X4_staysWelcome at h
  refine mm_start (cc := cX4_staysWelcome) (maxL := 3) (ret := (some .boolean)) (by decide) rfl (Nat.le_of_ble_eq_true rfl) (fun p e s m below meth c ls C hr hlk hH hl => ?_)
  have hl : lv_has ls 3 [(0, .ref (b + 0)), (1, .int a1)] := hl
  have hx := C.1
  have hb := C.2.1
  have w1 := C.2.2.2.2.1 (.fieldLink RX4 41 "LandingFines" "trial" "LLandingFines$Landing;") (by decide +kernel)
  have hin4 : ∀ w ∈ wsX40, w ∈ wsX4_staysWelcome := by decide +kernel
  refine lv_aload_n hx hb dX4_staysWelcome_0 rfl (lv_at hl 0 rfl) ?_
  refine mm_get (v := .ref (b + 21)) C hH hin4 rfl kl_0 (mm_e4 kd_0) (j := 6) (by decide) rfl w1 rfl dX4_staysWelcome_1 ?_
  refine lv_iconst (v := 0) hx hb dX4_staysWelcome_4 (by decide) ?_
  obtain ⟨x1, e1, h⟩ := mm_bnd h
  refine mm_gov hH (va_runV (As := [.int 0]) (rest := []) ⟨hx, hb, C.2.2.1, C.2.2.2.1, C.2.2.2.2.1⟩ (ct_X1_arrive l G T b z 21 0 x e1) (cwV 1 C.2.2.2.2.1 gX4_staysWelcome_X1_arrive rfl rfl rfl df_X1_arrive ⟨Nat.le_of_ble_eq_true rfl, Nat.le_of_ble_eq_true rfl⟩) ⟨mm_B.blind, mm_recv (q := (RX1, TX1, 8)) C hH kl_21 (mm_e1 kd_21) rfl, mm_pre C hH⟩ rfl rfl hl.1 rfl (lv_room (Nat.le_of_ble_eq_true rfl)) dX4_staysWelcome_5 ⟨Nat.zero_le _, Nat.zero_le _⟩) (fun H locs hH => ?_)
  refine lv_iconst (v := 0) hx hb dX4_staysWelcome_8 (by decide) ?_
  refine lv_istore_n (lv' := [(2, .int 0), (0, .ref (b + 0)), (1, .int a1)]) hx hb dX4_staysWelcome_9 rfl hl (by decide) rfl (fun ls hl => ?_)
  exact lp_X4_staysWelcome_10 C a1  hr hlk 81 0 x1 _ _ _ _ _ h hH (lv_sub hl [1, 2, 0] rfl)
def fn_X4_steady_2 : Nat → Int32 → mm_M → Option (mm_M × Int32)
  | 0, _, _ => none
  | n + 1, i1, x => if (200 : Int32) < i1 then some (x, (-6)) else mm_b2 (fn_X4_staysWelcome i1 x) fun x1 v1 => if v1 = 0 then (some (i1 + 1)).bind fun v2 => fn_X4_steady_2 n  v2 x1 else some (x1, i1)
def fn_X4_steady  (x : mm_M) : Option (mm_M × Int32) :=
  fn_X4_steady_2 202 0 x
abbrev rm_X4_steady : Room := { frames := 4, cells := 0, slots := 0, locals := 87 }
theorem df_X4_steady : yX4_steady.cls = RX4 ∧ yX4_steady.cls ≠ "java/lang/invoke/MethodHandle" ∧ yX4_steady.cls ≠ "java/lang/invoke/VarHandle" ∧ (parseMethodDescriptor yX4_steady.desc).map (fun d => d.parameters.length) = some 0 := by decide +kernel
set_option maxRecDepth 100000 in
set_option maxHeartbeats 4000000 in
theorem lp_X4_steady_2 {p : Program} {l : Launch} {e : Env} {s : State} {m : MethodId} {args : Array Value} {below : List Frame} {meth : Method} {c : Code} {G : va_G} {T : Nat → ClassId} {b : Nat} {z : Nat → Nat} (C : mm_C p m c cX4_steady 2 s args wsX4_steady RX4 G T b z)  (hr : meth.sig.returnType = (some .int)) (hlk : meth.locks = false) : ∀ (n : Nat) (i1 : Int32) (x : mm_M) (H : Heap) (locs : List Loc) (ls : Array Slot) (x1 : mm_M) (r : Int32), fn_X4_steady_2 n i1 x = some (x1, r) → mm_H G T b x s H locs → lv_has ls 2 [(0, .ref (b + 0)), (1, .int i1)] → W p l e rm_X4_steady s m args below meth c H locs 0 0 (MQ below (mm_Qi G T b r x1) args s 0 0 (fun q => b ≤ q)) (F0 m 2 ls []) := by
  have hx := C.1
  have hb := C.2.1
  intro n
  induction n with
  | zero => intro _ _ _ _ _ _ _ h; cases (show (none : Option (mm_M × Int32)) = some _ from h)
  | succ n ih =>
    intro i1 x H locs ls x1 r h hH hl
    rw [fn_X4_steady_2] at h
    refine lv_iload_n hx hb dX4_steady_2 rfl (lv_at hl 1 rfl) ?_
    refine lv_sipush (v := 200) hx hb dX4_steady_3 (by decide) ?_
    refine lv_icmp_gt (tgt := 25) hx hb dX4_steady_6 (by decide) (fun c1 => ?_) (fun c1 => ?_)
    · have h := mm_pos c1 h
      have hl := lv_sub (l' := []) hl [] rfl
      refine lv_bipush (v := (-6)) hx hb dX4_steady_25 (by decide) ?_
      exact mm_iret C hH hr hlk rfl h dX4_steady_27
    · have h := mm_neg c1 h
      refine lv_aload_n hx hb dX4_steady_9 rfl (lv_at hl 0 rfl) ?_
      refine lv_iload_n hx hb dX4_steady_10 rfl (lv_at hl 1 rfl) ?_
      obtain ⟨x1, v1, e1, h⟩ := mm_bnd2 h
      refine mm_goi hH (va_runV (As := [.int i1]) (rest := []) ⟨hx, hb, C.2.2.1, C.2.2.2.1, C.2.2.2.2.1⟩ (ct_X4_staysWelcome l G T b z i1 x e1) (cwV 1 C.2.2.2.2.1 gX4_steady_X4_staysWelcome rfl rfl rfl df_X4_staysWelcome ⟨Nat.le_of_ble_eq_true rfl, Nat.le_of_ble_eq_true rfl⟩) ⟨mm_B.blind, mm_recv (q := (RX4, TX4, 7)) C hH kl_0 (mm_e4 kd_0) rfl, mm_pre C hH⟩ rfl rfl hl.1 rfl (lv_room (Nat.le_of_ble_eq_true rfl)) dX4_steady_11 ⟨Nat.zero_le _, Nat.zero_le _⟩) (fun H locs hH => ?_)
      refine lv_if_eq (tgt := 19) hx hb dX4_steady_14 (by decide) (fun c2 => ?_) (fun c2 => ?_)
      · have h := mm_pos c2 h
        obtain ⟨v2, e2, h⟩ := mm_bnd h
        refine lv_iinc (v := v2) (lv' := [(1, .int v2), (0, .ref (b + 0))]) hx hb dX4_steady_19 hl (k := 1) rfl (Option.some.inj e2) (by decide) rfl (fun ls hl => ?_)
        refine lv_goto (tgt := 2) hx hb dX4_steady_22 (by decide) ?_
        exact ih v2 x1 _ _ _ _ _ h hH (lv_sub hl [1, 0] rfl)
      · have h := mm_neg c2 h
        have hl := lv_sub (l' := [(1, .int i1)]) hl [1] rfl
        refine lv_iload_n hx hb dX4_steady_17 rfl (lv_at hl 0 rfl) ?_
        exact mm_iret C hH hr hlk rfl h dX4_steady_18
set_option maxRecDepth 100000 in
set_option maxHeartbeats 4000000 in
theorem ct_X4_steady (l : Launch) (G : va_G) (T : Nat → ClassId) (b : Nat) (z : Nat → Nat)  (x : mm_M) {x1 : mm_M} {r : Int32} (h : fn_X4_steady  x = some (x1, r)) : mm_Ci l yX4_steady wsX4_steady rm_X4_steady G T b z [.ref (b + 0)] x r x1 := by
  unfold fn_X4_steady at h
  refine mm_start (cc := cX4_steady) (maxL := 2) (ret := (some .int)) (by decide) rfl (Nat.le_of_ble_eq_true rfl) (fun p e s m below meth c ls C hr hlk hH hl => ?_)
  have hl : lv_has ls 2 [(0, .ref (b + 0))] := hl
  have hx := C.1
  have hb := C.2.1
  refine lv_iconst (v := 0) hx hb dX4_steady_0 (by decide) ?_
  refine lv_istore_n (lv' := [(1, .int 0), (0, .ref (b + 0))]) hx hb dX4_steady_1 rfl hl (by decide) rfl (fun ls hl => ?_)
  exact lp_X4_steady_2 C   hr hlk 202 0 x _ _ _ _ _ h hH (lv_sub hl [1, 0] rfl)
def fn_X4_charactersIn_4 : Nat → Int32 → Int64 → mm_M → Option Int32
  | 0, _, _, _ => none
  | n + 1, i2, i3, x => if (lg_cmp i3 0) = 0 then some i2 else if (8 : Int32) ≤ i2 then some i2 else (some ((Int64.toInt32 (i3 &&& 255)) : Int32)).bind fun v1 => if v1 < 33 then some (0 : Int32) else if v1 ≤ 126 then (some (i2 + 1)).bind fun v2 => (some (((Int64.toUInt64 i3 >>> (Int64.toUInt64 (Int32.toInt64 (8 : Int32)) &&& Int64.toUInt64 63)).toInt64) : Int64)).bind fun u1 => fn_X4_charactersIn_4 n  v2 u1 x else some (0 : Int32)
def fn_X4_charactersIn (a0 : Int64) (x : mm_M) : Option Int32 :=
  fn_X4_charactersIn_4 9 0 a0 x
abbrev rm_X4_charactersIn : Room := { frames := 0, cells := 0, slots := 0, locals := 0 }
theorem df_X4_charactersIn : yX4_charactersIn.cls = RX4 ∧ yX4_charactersIn.cls ≠ "java/lang/invoke/MethodHandle" ∧ yX4_charactersIn.cls ≠ "java/lang/invoke/VarHandle" ∧ (parseMethodDescriptor yX4_charactersIn.desc).map (fun d => d.parameters.length) = some 1 := by decide +kernel
set_option maxRecDepth 100000 in
set_option maxHeartbeats 4000000 in
theorem lp_X4_charactersIn_4 {p : Program} {l : Launch} {e : Env} {s : State} {m : MethodId} {args : Array Value} {below : List Frame} {meth : Method} {c : Code} {G : va_G} {T : Nat → ClassId} {b : Nat} {z : Nat → Nat} (C : mm_C p m c cX4_charactersIn 6 s args wsX4_charactersIn RX4 G T b z)  (hr : meth.sig.returnType = (some .int)) (hlk : meth.locks = false) : ∀ (n : Nat) (i2 : Int32) (i3 : Int64) (x : mm_M) (H : Heap) (locs : List Loc) (ls : Array Slot) (r : Int32), fn_X4_charactersIn_4 n i2 i3 x = some r → mm_H G T b x s H locs → lv_has ls 6 [(2, .int i2), (3, .long i3)] → W p l e rm_X4_charactersIn s m args below meth c H locs 0 0 (MQ below (mm_Qi G T b r x) args s 0 0 (fun q => b ≤ q)) (F0 m 4 ls []) := by
  have hx := C.1
  have hb := C.2.1
  have w1 := C.2.2.2.2.1 (.constantLong RX4 138 (255)) (by decide +kernel)
  intro n
  induction n with
  | zero => intro _ _ _ _ _ _ _ h; cases (show (none : Option Int32) = some _ from h)
  | succ n ih =>
    intro i2 i3 x H locs ls r h hH hl
    rw [fn_X4_charactersIn_4] at h
    refine lv_lload_n hx hb dX4_charactersIn_4 rfl (lv_at hl 1 rfl) ?_
    refine lv_lconst (v := 0) hx hb dX4_charactersIn_5 (by decide) ?_
    refine W.lcmp hx hb dX4_charactersIn_6 ?_
    refine lv_if_eq (tgt := 51) hx hb dX4_charactersIn_7 (by decide) (fun c1 => ?_) (fun c1 => ?_)
    · have h := mm_pos c1 h
      have hl := lv_sub (l' := [(2, .int i2)]) hl [0] rfl
      refine lv_iload_n hx hb dX4_charactersIn_51 rfl (lv_at hl 0 rfl) ?_
      exact mm_iretP C hH hr hlk rfl h dX4_charactersIn_52
    · have h := mm_neg c1 h
      refine lv_iload_n hx hb dX4_charactersIn_10 rfl (lv_at hl 0 rfl) ?_
      refine lv_bipush (v := 8) hx hb dX4_charactersIn_11 (by decide) ?_
      refine lv_icmp_ge (tgt := 51) hx hb dX4_charactersIn_13 (by decide) (fun c2 => ?_) (fun c2 => ?_)
      · have h := mm_pos c2 h
        have hl := lv_sub (l' := [(2, .int i2)]) hl [0] rfl
        refine lv_iload_n hx hb dX4_charactersIn_51 rfl (lv_at hl 0 rfl) ?_
        exact mm_iretP C hH hr hlk rfl h dX4_charactersIn_52
      · have h := mm_neg c2 h
        refine lv_lload_n hx hb dX4_charactersIn_16 rfl (lv_at hl 1 rfl) ?_
        refine lv_ldc2 (own := RX4) (v := 255) hx hb C.2.2.2.1 w1 dX4_charactersIn_17 ?_
        refine lv_land hx hb dX4_charactersIn_20 ?_
        refine lv_l2i (v := (Int64.toInt32 (i3 &&& 255))) hx hb dX4_charactersIn_21 rfl ?_
        obtain ⟨v1, e1, h⟩ := mm_bnd h
        refine mm_nmi e1 ?_
        refine lv_istore (lv' := [(5, .int v1), (2, .int i2), (3, .long i3)]) hx hb dX4_charactersIn_22 hl (by decide) rfl (fun ls hl => ?_)
        refine lv_iload hx hb dX4_charactersIn_24 (lv_at hl 0 rfl) ?_
        refine lv_bipush (v := 33) hx hb dX4_charactersIn_26 (by decide) ?_
        refine lv_icmp_lt (tgt := 38) hx hb dX4_charactersIn_28 (by decide) (fun c3 => ?_) (fun c3 => ?_)
        · have h := mm_pos c3 h
          have hl := lv_sub (l' := []) hl [] rfl
          refine lv_iconst (v := 0) hx hb dX4_charactersIn_38 (by decide) ?_
          exact mm_iretP C hH hr hlk rfl h dX4_charactersIn_39
        · have h := mm_neg c3 h
          refine lv_iload hx hb dX4_charactersIn_31 (lv_at hl 0 rfl) ?_
          refine lv_bipush (v := 126) hx hb dX4_charactersIn_33 (by decide) ?_
          refine lv_icmp_le (tgt := 40) hx hb dX4_charactersIn_35 (by decide) (fun c4 => ?_) (fun c4 => ?_)
          · have h := mm_pos c4 h
            have hl := lv_sub (l' := [(2, .int i2), (3, .long i3)]) hl [1, 2] rfl
            obtain ⟨v2, e2, h⟩ := mm_bnd h
            refine lv_iinc (v := v2) (lv' := [(2, .int v2), (3, .long i3)]) hx hb dX4_charactersIn_40 hl (k := 0) rfl (Option.some.inj e2) (by decide) rfl (fun ls hl => ?_)
            refine lv_lload_n hx hb dX4_charactersIn_43 rfl (lv_at hl 1 rfl) ?_
            refine lv_bipush (v := 8) hx hb dX4_charactersIn_44 (by decide) ?_
            refine lv_lushr (v := ((Int64.toUInt64 i3 >>> (Int64.toUInt64 (Int32.toInt64 (8 : Int32)) &&& Int64.toUInt64 63)).toInt64)) hx hb dX4_charactersIn_46 rfl ?_
            obtain ⟨u1, e3, h⟩ := mm_bnd h
            refine mm_nml e3 ?_
            refine lv_lstore_n (lv' := [(3, .long u1), (2, .int v2)]) hx hb dX4_charactersIn_47 rfl hl (by decide) rfl (fun ls hl => ?_)
            refine lv_goto (tgt := 4) hx hb dX4_charactersIn_48 (by decide) ?_
            exact ih v2 u1 x _ _ _ _ h hH (lv_sub hl [1, 0] rfl)
          · have h := mm_neg c4 h
            have hl := lv_sub (l' := []) hl [] rfl
            refine lv_iconst (v := 0) hx hb dX4_charactersIn_38 (by decide) ?_
            exact mm_iretP C hH hr hlk rfl h dX4_charactersIn_39
set_option maxRecDepth 100000 in
set_option maxHeartbeats 4000000 in
theorem ct_X4_charactersIn (l : Launch) (G : va_G) (T : Nat → ClassId) (b : Nat) (z : Nat → Nat) (a0 : Int64) (x : mm_M) {r : Int32} (h : fn_X4_charactersIn a0 x = some r) : mm_Ci l yX4_charactersIn wsX4_charactersIn rm_X4_charactersIn G T b z [.long a0] x r x := by
  unfold fn_X4_charactersIn at h
  refine mm_start (cc := cX4_charactersIn) (maxL := 6) (ret := (some .int)) (by decide) rfl (Nat.le_of_ble_eq_true rfl) (fun p e s m below meth c ls C hr hlk hH hl => ?_)
  have hl : lv_has ls 6 [(0, .long a0)] := hl
  have hx := C.1
  have hb := C.2.1
  refine lv_iconst (v := 0) hx hb dX4_charactersIn_0 (by decide) ?_
  refine lv_istore_n (lv' := [(2, .int 0), (0, .long a0)]) hx hb dX4_charactersIn_1 rfl hl (by decide) rfl (fun ls hl => ?_)
  refine lv_lload_n hx hb dX4_charactersIn_2 rfl (lv_at hl 1 rfl) ?_
  refine lv_lstore_n (lv' := [(3, .long a0), (2, .int 0), (0, .long a0)]) hx hb dX4_charactersIn_3 rfl hl (by decide) rfl (fun ls hl => ?_)
  have hl := lv_sub (l' := [(3, .long a0), (2, .int 0)]) hl [0, 1] rfl
  exact lp_X4_charactersIn_4 C   hr hlk 9 0 a0 x _ _ _ _ h hH (lv_sub hl [1, 0] rfl)
def fn_X4_put (a1 : Int64) (x : mm_M) : Option (mm_M × Int32) :=
  (fn_X4_charactersIn a1 x).bind fun v1 => if v1 = 0 then some (x, (-2)) else if ((x 19 1) + v1) ≤ 80 then (fn_X2_append a1 v1 x).bind fun x1 => some (x1, (x1 19 1)) else some (x, (-4))
abbrev rm_X4_put : Room := { frames := 1, cells := 0, slots := 0, locals := 25 }
theorem df_X4_put : yX4_put.cls = RX4 ∧ yX4_put.cls ≠ "java/lang/invoke/MethodHandle" ∧ yX4_put.cls ≠ "java/lang/invoke/VarHandle" ∧ (parseMethodDescriptor yX4_put.desc).map (fun d => d.parameters.length) = some 1 := by decide +kernel
set_option maxRecDepth 100000 in
set_option maxHeartbeats 4000000 in
theorem ct_X4_put (l : Launch) (G : va_G) (T : Nat → ClassId) (b : Nat) (z : Nat → Nat) (a1 : Int64) (x : mm_M) {x1 : mm_M} {r : Int32} (h : fn_X4_put a1 x = some (x1, r)) : mm_Ci l yX4_put wsX4_put rm_X4_put G T b z [.ref (b + 0), .long a1] x r x1 := by
  unfold fn_X4_put at h
  refine mm_start (cc := cX4_put) (maxL := 4) (ret := (some .int)) (by decide) rfl (Nat.le_of_ble_eq_true rfl) (fun p e s m below meth c ls C hr hlk hH hl => ?_)
  have hl : lv_has ls 4 [(0, .ref (b + 0)), (1, .long a1)] := hl
  have hx := C.1
  have hb := C.2.1
  have w1 := C.2.2.2.2.1 (.fieldLink RX4 34 "LandingFines" "pad" "LLandingFines$Pad;") (by decide +kernel)
  have w2 := C.2.2.2.2.1 (.fieldLink RX4 78 "LandingFines$Pad" "length" "I") (by decide +kernel)
  have hin2 : ∀ w ∈ wsX20, w ∈ wsX4_put := by decide +kernel
  have hin4 : ∀ w ∈ wsX40, w ∈ wsX4_put := by decide +kernel
  refine lv_lload_n hx hb dX4_put_0 rfl (lv_at hl 1 rfl) ?_
  obtain ⟨v1, e1, h⟩ := mm_bnd h
  refine mm_goi hH (va_runS (As := [.long a1]) (rest := []) ⟨hx, hb, C.2.2.1, C.2.2.2.1, C.2.2.2.2.1⟩ (ct_X4_charactersIn l G T b z a1 x e1) (va_cwS 1 C.2.2.2.2.1 gX4_put_X4_charactersIn rfl rfl rfl df_X4_charactersIn.2 ⟨Nat.le_of_ble_eq_true rfl, Nat.le_of_ble_eq_true rfl⟩) ⟨mm_B.blind, mm_pre C hH⟩ rfl rfl hl.1 rfl (lv_room (Nat.le_of_ble_eq_true rfl)) dX4_put_1 ⟨Nat.zero_le _, Nat.zero_le _⟩) (fun H locs hH => ?_)
  refine lv_istore_n (lv' := [(3, .int v1), (0, .ref (b + 0)), (1, .long a1)]) hx hb dX4_put_4 rfl hl (by decide) rfl (fun ls hl => ?_)
  refine lv_iload_n hx hb dX4_put_5 rfl (lv_at hl 0 rfl) ?_
  refine lv_if_ne (tgt := 12) hx hb dX4_put_6 (by decide) (fun c1 => ?_) (fun c1 => ?_)
  · have h := mm_neg c1 h
    refine lv_aload_n hx hb dX4_put_12 rfl (lv_at hl 1 rfl) ?_
    refine mm_get (v := .ref (b + 19)) C hH hin4 rfl kl_0 (mm_e4 kd_0) (j := 5) (by decide) rfl w1 rfl dX4_put_13 ?_
    refine mm_get (v := .int (x 19 1)) C hH hin2 rfl kl_19 (mm_e2 kd_19) (j := 1) (by decide) rfl w2 rfl dX4_put_16 ?_
    refine lv_iload_n hx hb dX4_put_19 rfl (lv_at hl 0 rfl) ?_
    refine lv_iadd hx hb dX4_put_20 ?_
    refine lv_bipush (v := 80) hx hb dX4_put_21 (by decide) ?_
    refine lv_icmp_le (tgt := 29) hx hb dX4_put_23 (by decide) (fun c2 => ?_) (fun c2 => ?_)
    · have h := mm_pos c2 h
      refine lv_aload_n hx hb dX4_put_29 rfl (lv_at hl 1 rfl) ?_
      refine mm_get (v := .ref (b + 19)) C hH hin4 rfl kl_0 (mm_e4 kd_0) (j := 5) (by decide) rfl w1 rfl dX4_put_30 ?_
      refine lv_lload_n hx hb dX4_put_33 rfl (lv_at hl 2 rfl) ?_
      refine lv_iload_n hx hb dX4_put_34 rfl (lv_at hl 0 rfl) ?_
      obtain ⟨x1, e2, h⟩ := mm_bnd h
      refine mm_gov hH (va_runV (As := [.long a1, .int v1]) (rest := []) ⟨hx, hb, C.2.2.1, C.2.2.2.1, C.2.2.2.2.1⟩ (ct_X2_append l G T b z a1 v1 x e2) (cwV 2 C.2.2.2.2.1 gX4_put_X2_append rfl rfl rfl df_X2_append ⟨Nat.le_of_ble_eq_true rfl, Nat.le_of_ble_eq_true rfl⟩) ⟨mm_B.blind, mm_recv (q := (RX2, TX2, 6)) C hH kl_19 (mm_e2 kd_19) rfl, mm_pre C hH⟩ rfl rfl hl.1 rfl (lv_room (Nat.le_of_ble_eq_true rfl)) dX4_put_35 ⟨Nat.zero_le _, Nat.zero_le _⟩) (fun H locs hH => ?_)
      refine lv_aload_n hx hb dX4_put_38 rfl (lv_at hl 1 rfl) ?_
      refine mm_get (v := .ref (b + 19)) C hH hin4 rfl kl_0 (mm_e4 kd_0) (j := 5) (by decide) rfl w1 rfl dX4_put_39 ?_
      refine mm_get (v := .int (x1 19 1)) C hH hin2 rfl kl_19 (mm_e2 kd_19) (j := 1) (by decide) rfl w2 rfl dX4_put_42 ?_
      exact mm_iret C hH hr hlk rfl h dX4_put_45
    · have h := mm_neg c2 h
      have hl := lv_sub (l' := []) hl [] rfl
      refine lv_bipush (v := (-4)) hx hb dX4_put_26 (by decide) ?_
      exact mm_iret C hH hr hlk rfl h dX4_put_28
  · have h := mm_pos c1 h
    have hl := lv_sub (l' := []) hl [] rfl
    refine lv_bipush (v := (-2)) hx hb dX4_put_9 (by decide) ?_
    exact mm_iret C hH hr hlk rfl h dX4_put_11
def fn_X4_wipe  (x : mm_M) : Option (mm_M × Int32) :=
  mm_b2 (fn_X2_clear x) fun x1 v1 => some (x1, v1)
abbrev rm_X4_wipe : Room := { frames := 1, cells := 0, slots := 0, locals := 21 }
theorem df_X4_wipe : yX4_wipe.cls = RX4 ∧ yX4_wipe.cls ≠ "java/lang/invoke/MethodHandle" ∧ yX4_wipe.cls ≠ "java/lang/invoke/VarHandle" ∧ (parseMethodDescriptor yX4_wipe.desc).map (fun d => d.parameters.length) = some 0 := by decide +kernel
set_option maxRecDepth 100000 in
set_option maxHeartbeats 4000000 in
theorem ct_X4_wipe (l : Launch) (G : va_G) (T : Nat → ClassId) (b : Nat) (z : Nat → Nat)  (x : mm_M) {x1 : mm_M} {r : Int32} (h : fn_X4_wipe  x = some (x1, r)) : mm_Ci l yX4_wipe wsX4_wipe rm_X4_wipe G T b z [.ref (b + 0)] x r x1 := by
  unfold fn_X4_wipe at h
  refine mm_start (cc := cX4_wipe) (maxL := 1) (ret := (some .int)) (by decide) rfl (Nat.le_of_ble_eq_true rfl) (fun p e s m below meth c ls C hr hlk hH hl => ?_)
  have hl : lv_has ls 1 [(0, .ref (b + 0))] := hl
  have hx := C.1
  have hb := C.2.1
  have w1 := C.2.2.2.2.1 (.fieldLink RX4 34 "LandingFines" "pad" "LLandingFines$Pad;") (by decide +kernel)
  have hin4 : ∀ w ∈ wsX40, w ∈ wsX4_wipe := by decide +kernel
  refine lv_aload_n hx hb dX4_wipe_0 rfl (lv_at hl 0 rfl) ?_
  refine mm_get (v := .ref (b + 19)) C hH hin4 rfl kl_0 (mm_e4 kd_0) (j := 5) (by decide) rfl w1 rfl dX4_wipe_1 ?_
  obtain ⟨x1, v1, e1, h⟩ := mm_bnd2 h
  refine mm_goi hH (va_runV (As := []) (rest := []) ⟨hx, hb, C.2.2.1, C.2.2.2.1, C.2.2.2.2.1⟩ (ct_X2_clear l G T b z x e1) (cwV 0 C.2.2.2.2.1 gX4_wipe_X2_clear rfl rfl rfl df_X2_clear ⟨Nat.le_of_ble_eq_true rfl, Nat.le_of_ble_eq_true rfl⟩) ⟨mm_B.blind, mm_recv (q := (RX2, TX2, 6)) C hH kl_19 (mm_e2 kd_19) rfl, mm_pre C hH⟩ rfl rfl hl.1 rfl (lv_room (Nat.le_of_ble_eq_true rfl)) dX4_wipe_4 ⟨Nat.zero_le _, Nat.zero_le _⟩) (fun H locs hH => ?_)
  exact mm_iret C hH hr hlk rfl h dX4_wipe_7
def fn_X4_fault  (x : mm_M) : Option (mm_M × Int32) :=
  mm_b2 (fn_X2_findFault x) fun x1 v1 => some (x1, v1)
abbrev rm_X4_fault : Room := { frames := 4, cells := 0, slots := 0, locals := 82 }
theorem df_X4_fault : yX4_fault.cls = RX4 ∧ yX4_fault.cls ≠ "java/lang/invoke/MethodHandle" ∧ yX4_fault.cls ≠ "java/lang/invoke/VarHandle" ∧ (parseMethodDescriptor yX4_fault.desc).map (fun d => d.parameters.length) = some 0 := by decide +kernel
set_option maxRecDepth 100000 in
set_option maxHeartbeats 4000000 in
theorem ct_X4_fault (l : Launch) (G : va_G) (T : Nat → ClassId) (b : Nat) (z : Nat → Nat)  (x : mm_M) {x1 : mm_M} {r : Int32} (h : fn_X4_fault  x = some (x1, r)) : mm_Ci l yX4_fault wsX4_fault rm_X4_fault G T b z [.ref (b + 0)] x r x1 := by
  unfold fn_X4_fault at h
  refine mm_start (cc := cX4_fault) (maxL := 1) (ret := (some .int)) (by decide) rfl (Nat.le_of_ble_eq_true rfl) (fun p e s m below meth c ls C hr hlk hH hl => ?_)
  have hl : lv_has ls 1 [(0, .ref (b + 0))] := hl
  have hx := C.1
  have hb := C.2.1
  have w1 := C.2.2.2.2.1 (.fieldLink RX4 34 "LandingFines" "pad" "LLandingFines$Pad;") (by decide +kernel)
  have hin4 : ∀ w ∈ wsX40, w ∈ wsX4_fault := by decide +kernel
  refine lv_aload_n hx hb dX4_fault_0 rfl (lv_at hl 0 rfl) ?_
  refine mm_get (v := .ref (b + 19)) C hH hin4 rfl kl_0 (mm_e4 kd_0) (j := 5) (by decide) rfl w1 rfl dX4_fault_1 ?_
  obtain ⟨x1, v1, e1, h⟩ := mm_bnd2 h
  refine mm_goi hH (va_runV (As := []) (rest := []) ⟨hx, hb, C.2.2.1, C.2.2.2.1, C.2.2.2.2.1⟩ (ct_X2_findFault l G T b z x e1) (cwV 0 C.2.2.2.2.1 gX4_fault_X2_findFault rfl rfl rfl df_X2_findFault ⟨Nat.le_of_ble_eq_true rfl, Nat.le_of_ble_eq_true rfl⟩) ⟨mm_B.blind, mm_recv (q := (RX2, TX2, 6)) C hH kl_19 (mm_e2 kd_19) rfl, mm_pre C hH⟩ rfl rfl hl.1 rfl (lv_room (Nat.le_of_ble_eq_true rfl)) dX4_fault_4 ⟨Nat.zero_le _, Nat.zero_le _⟩) (fun H locs hH => ?_)
  exact mm_iret C hH hr hlk rfl h dX4_fault_7
def fn_X4_carryOutOne  (x : mm_M) : Option (mm_M × Int32) :=
  (some ((x 19 3) : Int32)).bind fun v1 => if v1 = 43 then mm_b2 (fn_X3_addLanding (x 19 5) x) fun x1 v2 => some (x1, v2) else if v1 = 99 then mm_b2 (fn_X3_closeLanding (x 19 4) x) fun x2 v3 => some (x2, v3) else if v1 = 111 then mm_b2 (fn_X3_openLanding (x 19 4) x) fun x3 v4 => some (x3, v4) else if v1 = 112 then mm_b2 (fn_X3_changePrice (x 19 4) (x 19 5) x) fun x4 v5 => some (x4, v5) else mm_b2 (fn_X3_passMinutes (x 19 5) x) fun x5 v6 => some (x5, v6)
abbrev rm_X4_carryOutOne : Room := { frames := 5, cells := 0, slots := 0, locals := 111 }
theorem df_X4_carryOutOne : yX4_carryOutOne.cls = RX4 ∧ yX4_carryOutOne.cls ≠ "java/lang/invoke/MethodHandle" ∧ yX4_carryOutOne.cls ≠ "java/lang/invoke/VarHandle" ∧ (parseMethodDescriptor yX4_carryOutOne.desc).map (fun d => d.parameters.length) = some 0 := by decide +kernel
set_option maxRecDepth 100000 in
set_option maxHeartbeats 4000000 in
theorem ct_X4_carryOutOne (l : Launch) (G : va_G) (T : Nat → ClassId) (b : Nat) (z : Nat → Nat)  (x : mm_M) {x1 : mm_M} {r : Int32} (h : fn_X4_carryOutOne  x = some (x1, r)) : mm_Ci l yX4_carryOutOne wsX4_carryOutOne rm_X4_carryOutOne G T b z [.ref (b + 0)] x r x1 := by
  unfold fn_X4_carryOutOne at h
  refine mm_start (cc := cX4_carryOutOne) (maxL := 1) (ret := (some .int)) (by decide) rfl (Nat.le_of_ble_eq_true rfl) (fun p e s m below meth c ls C hr hlk hH hl => ?_)
  have hl : lv_has ls 1 [(0, .ref (b + 0))] := hl
  have hx := C.1
  have hb := C.2.1
  have w1 := C.2.2.2.2.1 (.fieldLink RX4 34 "LandingFines" "pad" "LLandingFines$Pad;") (by decide +kernel)
  have w2 := C.2.2.2.2.1 (.fieldLink RX4 161 "LandingFines$Pad" "orderSign" "C") (by decide +kernel)
  have w3 := C.2.2.2.2.1 (.fieldLink RX4 10 "LandingFines" "river" "LLandingFines$River;") (by decide +kernel)
  have w4 := C.2.2.2.2.1 (.fieldLink RX4 165 "LandingFines$Pad" "orderNumber" "I") (by decide +kernel)
  have w5 := C.2.2.2.2.1 (.fieldLink RX4 168 "LandingFines$Pad" "orderLanding" "I") (by decide +kernel)
  have hin2 : ∀ w ∈ wsX20, w ∈ wsX4_carryOutOne := by decide +kernel
  have hin4 : ∀ w ∈ wsX40, w ∈ wsX4_carryOutOne := by decide +kernel
  refine lv_aload_n hx hb dX4_carryOutOne_0 rfl (lv_at hl 0 rfl) ?_
  refine mm_get (v := .ref (b + 19)) C hH hin4 rfl kl_0 (mm_e4 kd_0) (j := 5) (by decide) rfl w1 rfl dX4_carryOutOne_1 ?_
  refine mm_get (v := .int (x 19 3)) C hH hin2 rfl kl_19 (mm_e2 kd_19) (j := 3) (by decide) rfl w2 rfl dX4_carryOutOne_4 ?_
  obtain ⟨v1, e1, h⟩ := mm_bnd h
  refine mm_nmi e1 ?_
  by_cases c1 : v1 = 43
  · have h := mm_pos c1 h
    refine lv_lookup (off := 41) (tgt := 48) hx hb dX4_carryOutOne_7 (by decide) (by rw [c1]; decide) (by decide) ?_
    refine lv_aload_n hx hb dX4_carryOutOne_48 rfl (lv_at hl 0 rfl) ?_
    refine mm_get (v := .ref (b + 1)) C hH hin4 rfl kl_0 (mm_e4 kd_0) (j := 0) (by decide) rfl w3 rfl dX4_carryOutOne_49 ?_
    refine lv_aload_n hx hb dX4_carryOutOne_52 rfl (lv_at hl 0 rfl) ?_
    refine mm_get (v := .ref (b + 19)) C hH hin4 rfl kl_0 (mm_e4 kd_0) (j := 5) (by decide) rfl w1 rfl dX4_carryOutOne_53 ?_
    refine mm_get (v := .int (x 19 5)) C hH hin2 rfl kl_19 (mm_e2 kd_19) (j := 5) (by decide) rfl w4 rfl dX4_carryOutOne_56 ?_
    obtain ⟨x1, v2, e2, h⟩ := mm_bnd2 h
    refine mm_goi hH (va_runV (As := [.int (x 19 5)]) (rest := []) ⟨hx, hb, C.2.2.1, C.2.2.2.1, C.2.2.2.2.1⟩ (ct_X3_addLanding l G T b z (x 19 5) x e2) (cwV 1 C.2.2.2.2.1 gX4_carryOutOne_X3_addLanding rfl rfl rfl df_X3_addLanding ⟨Nat.le_of_ble_eq_true rfl, Nat.le_of_ble_eq_true rfl⟩) ⟨mm_B.blind, mm_recv (q := (RX3, TX3, 7)) C hH kl_1 (mm_e3 kd_1) rfl, mm_pre C hH⟩ rfl rfl hl.1 rfl (lv_room (Nat.le_of_ble_eq_true rfl)) dX4_carryOutOne_59 ⟨Nat.zero_le _, Nat.zero_le _⟩) (fun H locs hH => ?_)
    exact mm_iret C hH hr hlk rfl h dX4_carryOutOne_62
  have h := mm_neg c1 h
  by_cases c2 : v1 = 99
  · have h := mm_pos c2 h
    refine lv_lookup (off := 71) (tgt := 78) hx hb dX4_carryOutOne_7 (by decide) (by rw [c2]; decide) (by decide) ?_
    refine lv_aload_n hx hb dX4_carryOutOne_78 rfl (lv_at hl 0 rfl) ?_
    refine mm_get (v := .ref (b + 1)) C hH hin4 rfl kl_0 (mm_e4 kd_0) (j := 0) (by decide) rfl w3 rfl dX4_carryOutOne_79 ?_
    refine lv_aload_n hx hb dX4_carryOutOne_82 rfl (lv_at hl 0 rfl) ?_
    refine mm_get (v := .ref (b + 19)) C hH hin4 rfl kl_0 (mm_e4 kd_0) (j := 5) (by decide) rfl w1 rfl dX4_carryOutOne_83 ?_
    refine mm_get (v := .int (x 19 4)) C hH hin2 rfl kl_19 (mm_e2 kd_19) (j := 4) (by decide) rfl w5 rfl dX4_carryOutOne_86 ?_
    obtain ⟨x2, v3, e3, h⟩ := mm_bnd2 h
    refine mm_goi hH (va_runV (As := [.int (x 19 4)]) (rest := []) ⟨hx, hb, C.2.2.1, C.2.2.2.1, C.2.2.2.2.1⟩ (ct_X3_closeLanding l G T b z (x 19 4) x e3) (cwV 1 C.2.2.2.2.1 gX4_carryOutOne_X3_closeLanding rfl rfl rfl df_X3_closeLanding ⟨Nat.le_of_ble_eq_true rfl, Nat.le_of_ble_eq_true rfl⟩) ⟨mm_B.blind, mm_recv (q := (RX3, TX3, 7)) C hH kl_1 (mm_e3 kd_1) rfl, mm_pre C hH⟩ rfl rfl hl.1 rfl (lv_room (Nat.le_of_ble_eq_true rfl)) dX4_carryOutOne_89 ⟨Nat.zero_le _, Nat.zero_le _⟩) (fun H locs hH => ?_)
    exact mm_iret C hH hr hlk rfl h dX4_carryOutOne_92
  have h := mm_neg c2 h
  by_cases c3 : v1 = 111
  · have h := mm_pos c3 h
    refine lv_lookup (off := 56) (tgt := 63) hx hb dX4_carryOutOne_7 (by decide) (by rw [c3]; decide) (by decide) ?_
    refine lv_aload_n hx hb dX4_carryOutOne_63 rfl (lv_at hl 0 rfl) ?_
    refine mm_get (v := .ref (b + 1)) C hH hin4 rfl kl_0 (mm_e4 kd_0) (j := 0) (by decide) rfl w3 rfl dX4_carryOutOne_64 ?_
    refine lv_aload_n hx hb dX4_carryOutOne_67 rfl (lv_at hl 0 rfl) ?_
    refine mm_get (v := .ref (b + 19)) C hH hin4 rfl kl_0 (mm_e4 kd_0) (j := 5) (by decide) rfl w1 rfl dX4_carryOutOne_68 ?_
    refine mm_get (v := .int (x 19 4)) C hH hin2 rfl kl_19 (mm_e2 kd_19) (j := 4) (by decide) rfl w5 rfl dX4_carryOutOne_71 ?_
    obtain ⟨x3, v4, e4, h⟩ := mm_bnd2 h
    refine mm_goi hH (va_runV (As := [.int (x 19 4)]) (rest := []) ⟨hx, hb, C.2.2.1, C.2.2.2.1, C.2.2.2.2.1⟩ (ct_X3_openLanding l G T b z (x 19 4) x e4) (cwV 1 C.2.2.2.2.1 gX4_carryOutOne_X3_openLanding rfl rfl rfl df_X3_openLanding ⟨Nat.le_of_ble_eq_true rfl, Nat.le_of_ble_eq_true rfl⟩) ⟨mm_B.blind, mm_recv (q := (RX3, TX3, 7)) C hH kl_1 (mm_e3 kd_1) rfl, mm_pre C hH⟩ rfl rfl hl.1 rfl (lv_room (Nat.le_of_ble_eq_true rfl)) dX4_carryOutOne_74 ⟨Nat.zero_le _, Nat.zero_le _⟩) (fun H locs hH => ?_)
    exact mm_iret C hH hr hlk rfl h dX4_carryOutOne_77
  have h := mm_neg c3 h
  by_cases c4 : v1 = 112
  · have h := mm_pos c4 h
    refine lv_lookup (off := 86) (tgt := 93) hx hb dX4_carryOutOne_7 (by decide) (by rw [c4]; decide) (by decide) ?_
    refine lv_aload_n hx hb dX4_carryOutOne_93 rfl (lv_at hl 0 rfl) ?_
    refine mm_get (v := .ref (b + 1)) C hH hin4 rfl kl_0 (mm_e4 kd_0) (j := 0) (by decide) rfl w3 rfl dX4_carryOutOne_94 ?_
    refine lv_aload_n hx hb dX4_carryOutOne_97 rfl (lv_at hl 0 rfl) ?_
    refine mm_get (v := .ref (b + 19)) C hH hin4 rfl kl_0 (mm_e4 kd_0) (j := 5) (by decide) rfl w1 rfl dX4_carryOutOne_98 ?_
    refine mm_get (v := .int (x 19 4)) C hH hin2 rfl kl_19 (mm_e2 kd_19) (j := 4) (by decide) rfl w5 rfl dX4_carryOutOne_101 ?_
    refine lv_aload_n hx hb dX4_carryOutOne_104 rfl (lv_at hl 0 rfl) ?_
    refine mm_get (v := .ref (b + 19)) C hH hin4 rfl kl_0 (mm_e4 kd_0) (j := 5) (by decide) rfl w1 rfl dX4_carryOutOne_105 ?_
    refine mm_get (v := .int (x 19 5)) C hH hin2 rfl kl_19 (mm_e2 kd_19) (j := 5) (by decide) rfl w4 rfl dX4_carryOutOne_108 ?_
    obtain ⟨x4, v5, e5, h⟩ := mm_bnd2 h
    refine mm_goi hH (va_runV (As := [.int (x 19 4), .int (x 19 5)]) (rest := []) ⟨hx, hb, C.2.2.1, C.2.2.2.1, C.2.2.2.2.1⟩ (ct_X3_changePrice l G T b z (x 19 4) (x 19 5) x e5) (cwV 2 C.2.2.2.2.1 gX4_carryOutOne_X3_changePrice rfl rfl rfl df_X3_changePrice ⟨Nat.le_of_ble_eq_true rfl, Nat.le_of_ble_eq_true rfl⟩) ⟨mm_B.blind, mm_recv (q := (RX3, TX3, 7)) C hH kl_1 (mm_e3 kd_1) rfl, mm_pre C hH⟩ rfl rfl hl.1 rfl (lv_room (Nat.le_of_ble_eq_true rfl)) dX4_carryOutOne_111 ⟨Nat.zero_le _, Nat.zero_le _⟩) (fun H locs hH => ?_)
    exact mm_iret C hH hr hlk rfl h dX4_carryOutOne_114
  have h := mm_neg c4 h
  refine lv_lookup (off := 108) (tgt := 115) hx hb dX4_carryOutOne_7 (by decide) ((lv_osw c1 (by decide)).trans ((lv_osw c2 (by decide)).trans ((lv_osw c3 (by decide)).trans ((lv_osw c4 (by decide)).trans (rfl))))) (by decide) ?_
  refine lv_aload_n hx hb dX4_carryOutOne_115 rfl (lv_at hl 0 rfl) ?_
  refine mm_get (v := .ref (b + 1)) C hH hin4 rfl kl_0 (mm_e4 kd_0) (j := 0) (by decide) rfl w3 rfl dX4_carryOutOne_116 ?_
  refine lv_aload_n hx hb dX4_carryOutOne_119 rfl (lv_at hl 0 rfl) ?_
  refine mm_get (v := .ref (b + 19)) C hH hin4 rfl kl_0 (mm_e4 kd_0) (j := 5) (by decide) rfl w1 rfl dX4_carryOutOne_120 ?_
  refine mm_get (v := .int (x 19 5)) C hH hin2 rfl kl_19 (mm_e2 kd_19) (j := 5) (by decide) rfl w4 rfl dX4_carryOutOne_123 ?_
  obtain ⟨x5, v6, e6, h⟩ := mm_bnd2 h
  refine mm_goi hH (va_runV (As := [.int (x 19 5)]) (rest := []) ⟨hx, hb, C.2.2.1, C.2.2.2.1, C.2.2.2.2.1⟩ (ct_X3_passMinutes l G T b z (x 19 5) x e6) (cwV 1 C.2.2.2.2.1 gX4_carryOutOne_X3_passMinutes rfl rfl rfl df_X3_passMinutes ⟨Nat.le_of_ble_eq_true rfl, Nat.le_of_ble_eq_true rfl⟩) ⟨mm_B.blind, mm_recv (q := (RX3, TX3, 7)) C hH kl_1 (mm_e3 kd_1) rfl, mm_pre C hH⟩ rfl rfl hl.1 rfl (lv_room (Nat.le_of_ble_eq_true rfl)) dX4_carryOutOne_126 ⟨Nat.zero_le _, Nat.zero_le _⟩) (fun H locs hH => ?_)
  exact mm_iret C hH hr hlk rfl h dX4_carryOutOne_129
def fn_X4_carryOut_30 : Nat → Int32 → Int32 → mm_M → Option (mm_M × Int32)
  | 0, _, _, _ => none
  | n + 1, i1, i2, x => if (80 : Int32) ≤ i2 then some (x, i1) else mm_b2 (fn_X2_readOrder x) fun x1 v1 => if v1 = 0 then some (x1, i1) else mm_b2 (fn_X4_carryOutOne x1) fun x2 v2 => if (0 : Int32) ≤ v2 then (some (i1 + 1)).bind fun v3 => mm_b2 (fn_X2_readSign 59 x2) fun x3 v4 => if v4 = 0 then some (x3, v3) else (some (i2 + 1)).bind fun v5 => fn_X4_carryOut_30 n  v3 v5 x3 else some (x2, i1)
def fn_X4_carryOut  (x : mm_M) : Option (mm_M × Int32) :=
  mm_b2 (fn_X2_findFault x) fun x1 v1 => if v1 = (-6) then (fn_X4_keepState x1).bind fun x2 => (fn_X2_startReading x2).bind fun x3 => mm_b2 (fn_X4_carryOut_30 81 0 0 x3) fun x4 v2 => mm_b2 (fn_X2_clear x4) fun x5 v3 => mm_b2 (fn_X4_recordUnlessError v2 x5) fun x6 v4 => some (x6, v4) else some (x1, (-3))
abbrev rm_X4_carryOut : Room := { frames := 6, cells := 0, slots := 0, locals := 131 }
theorem df_X4_carryOut : yX4_carryOut.cls = RX4 ∧ yX4_carryOut.cls ≠ "java/lang/invoke/MethodHandle" ∧ yX4_carryOut.cls ≠ "java/lang/invoke/VarHandle" ∧ (parseMethodDescriptor yX4_carryOut.desc).map (fun d => d.parameters.length) = some 0 := by decide +kernel
set_option maxRecDepth 100000 in
set_option maxHeartbeats 4000000 in
theorem lp_X4_carryOut_30 {p : Program} {l : Launch} {e : Env} {s : State} {m : MethodId} {args : Array Value} {below : List Frame} {meth : Method} {c : Code} {Q : State → Prop} {G : va_G} {T : Nat → ClassId} {b : Nat} {z : Nat → Nat} (C : mm_C p m c cX4_carryOut 3 s args wsX4_carryOut RX4 G T b z)  : ∀ (n : Nat) (i1 : Int32) (i2 : Int32) (x : mm_M) (H : Heap) (locs : List Loc) (ls : Array Slot) (x1 : mm_M) (r1 : Int32), fn_X4_carryOut_30 n i1 i2 x = some (x1, r1) → mm_H G T b x s H locs → lv_has ls 3 [(0, .ref (b + 0)), (1, .int i1), (2, .int i2)] → (∀ (H1 : Heap) (locs1 : List Loc) (ls1 : Array Slot), mm_H G T b x1 s H1 locs1 → lv_has ls1 3 [(0, .ref (b + 0)), (1, .int r1)] → W p l e rm_X4_carryOut s m args below meth c H1 locs1 0 0 Q (F0 m 80 ls1 [])) → W p l e rm_X4_carryOut s m args below meth c H locs 0 0 Q (F0 m 30 ls []) := by
  have hx := C.1
  have hb := C.2.1
  have w1 := C.2.2.2.2.1 (.fieldLink RX4 34 "LandingFines" "pad" "LLandingFines$Pad;") (by decide +kernel)
  have hin4 : ∀ w ∈ wsX40, w ∈ wsX4_carryOut := by decide +kernel
  intro n
  induction n with
  | zero => intro _ _ _ _ _ _ _ _ h; cases (show (none : Option (mm_M × Int32)) = some _ from h)
  | succ n ih =>
    intro i1 i2 x H locs ls x1 r1 h hH hl kk
    rw [fn_X4_carryOut_30] at h
    refine lv_iload_n hx hb dX4_carryOut_30 rfl (lv_at hl 2 rfl) ?_
    refine lv_bipush (v := 80) hx hb dX4_carryOut_31 (by decide) ?_
    refine lv_icmp_ge (tgt := 80) hx hb dX4_carryOut_33 (by decide) (fun c1 => ?_) (fun c1 => ?_)
    · have h := mm_pos c1 h
      have hl := lv_sub (l' := [(0, .ref (b + 0)), (1, .int i1)]) hl [0, 1] rfl
      cases h
      exact kk _ _ _ hH (lv_sub hl [0, 1] rfl)
    · have h := mm_neg c1 h
      refine lv_aload_n hx hb dX4_carryOut_36 rfl (lv_at hl 0 rfl) ?_
      refine mm_get (v := .ref (b + 19)) C hH hin4 rfl kl_0 (mm_e4 kd_0) (j := 5) (by decide) rfl w1 rfl dX4_carryOut_37 ?_
      obtain ⟨x1, v1, e1, h⟩ := mm_bnd2 h
      refine mm_goi hH (va_runV (As := []) (rest := []) ⟨hx, hb, C.2.2.1, C.2.2.2.1, C.2.2.2.2.1⟩ (ct_X2_readOrder l G T b z x e1) (cwV 0 C.2.2.2.2.1 gX4_carryOut_X2_readOrder rfl rfl rfl df_X2_readOrder ⟨Nat.le_of_ble_eq_true rfl, Nat.le_of_ble_eq_true rfl⟩) ⟨mm_B.blind, mm_recv (q := (RX2, TX2, 6)) C hH kl_19 (mm_e2 kd_19) rfl, mm_pre C hH⟩ rfl rfl hl.1 rfl (lv_room (Nat.le_of_ble_eq_true rfl)) dX4_carryOut_40 ⟨Nat.zero_le _, Nat.zero_le _⟩) (fun H locs hH => ?_)
      refine lv_if_eq (tgt := 80) hx hb dX4_carryOut_43 (by decide) (fun c2 => ?_) (fun c2 => ?_)
      · have h := mm_pos c2 h
        have hl := lv_sub (l' := [(0, .ref (b + 0)), (1, .int i1)]) hl [0, 1] rfl
        cases h
        exact kk _ _ _ hH (lv_sub hl [0, 1] rfl)
      · have h := mm_neg c2 h
        refine lv_aload_n hx hb dX4_carryOut_46 rfl (lv_at hl 0 rfl) ?_
        obtain ⟨x2, v2, e2, h⟩ := mm_bnd2 h
        refine mm_goi hH (va_runV (As := []) (rest := []) ⟨hx, hb, C.2.2.1, C.2.2.2.1, C.2.2.2.2.1⟩ (ct_X4_carryOutOne l G T b z x1 e2) (cwV 0 C.2.2.2.2.1 gX4_carryOut_X4_carryOutOne rfl rfl rfl df_X4_carryOutOne ⟨Nat.le_of_ble_eq_true rfl, Nat.le_of_ble_eq_true rfl⟩) ⟨mm_B.blind, mm_recv (q := (RX4, TX4, 7)) C hH kl_0 (mm_e4 kd_0) rfl, mm_pre C hH⟩ rfl rfl hl.1 rfl (lv_room (Nat.le_of_ble_eq_true rfl)) dX4_carryOut_47 ⟨Nat.zero_le _, Nat.zero_le _⟩) (fun H locs hH => ?_)
        refine lv_if_ge (tgt := 56) hx hb dX4_carryOut_50 (by decide) (fun c3 => ?_) (fun c3 => ?_)
        · have h := mm_pos c3 h
          obtain ⟨v3, e3, h⟩ := mm_bnd h
          refine lv_iinc (v := v3) (lv' := [(1, .int v3), (0, .ref (b + 0)), (2, .int i2)]) hx hb dX4_carryOut_56 hl (k := 1) rfl (Option.some.inj e3) (by decide) rfl (fun ls hl => ?_)
          refine lv_aload_n hx hb dX4_carryOut_59 rfl (lv_at hl 1 rfl) ?_
          refine mm_get (v := .ref (b + 19)) C hH hin4 rfl kl_0 (mm_e4 kd_0) (j := 5) (by decide) rfl w1 rfl dX4_carryOut_60 ?_
          refine lv_bipush (v := 59) hx hb dX4_carryOut_63 (by decide) ?_
          obtain ⟨x3, v4, e4, h⟩ := mm_bnd2 h
          refine mm_goi hH (va_runV (As := [.int 59]) (rest := []) ⟨hx, hb, C.2.2.1, C.2.2.2.1, C.2.2.2.2.1⟩ (ct_X2_readSign l G T b z 59 x2 e4) (cwV 1 C.2.2.2.2.1 gX4_carryOut_X2_readSign rfl rfl rfl df_X2_readSign ⟨Nat.le_of_ble_eq_true rfl, Nat.le_of_ble_eq_true rfl⟩) ⟨mm_B.blind, mm_recv (q := (RX2, TX2, 6)) C hH kl_19 (mm_e2 kd_19) rfl, mm_pre C hH⟩ rfl rfl hl.1 rfl (lv_room (Nat.le_of_ble_eq_true rfl)) dX4_carryOut_65 ⟨Nat.zero_le _, Nat.zero_le _⟩) (fun H locs hH => ?_)
          refine lv_if_ne (tgt := 74) hx hb dX4_carryOut_68 (by decide) (fun c4 => ?_) (fun c4 => ?_)
          · have h := mm_neg c4 h
            obtain ⟨v5, e5, h⟩ := mm_bnd h
            refine lv_iinc (v := v5) (lv' := [(2, .int v5), (1, .int v3), (0, .ref (b + 0))]) hx hb dX4_carryOut_74 hl (k := 2) rfl (Option.some.inj e5) (by decide) rfl (fun ls hl => ?_)
            refine lv_goto (tgt := 30) hx hb dX4_carryOut_77 (by decide) ?_
            exact ih v3 v5 x3 _ _ _ _ _ h hH (lv_sub hl [2, 1, 0] rfl) kk
          · have h := mm_pos c4 h
            have hl := lv_sub (l' := [(1, .int v3), (0, .ref (b + 0))]) hl [0, 1] rfl
            refine lv_goto (tgt := 80) hx hb dX4_carryOut_71 (by decide) ?_
            cases h
            exact kk _ _ _ hH (lv_sub hl [1, 0] rfl)
        · have h := mm_neg c3 h
          have hl := lv_sub (l' := [(0, .ref (b + 0)), (1, .int i1)]) hl [0, 1] rfl
          refine lv_goto (tgt := 80) hx hb dX4_carryOut_53 (by decide) ?_
          cases h
          exact kk _ _ _ hH (lv_sub hl [0, 1] rfl)
set_option maxRecDepth 100000 in
set_option maxHeartbeats 4000000 in
theorem ct_X4_carryOut (l : Launch) (G : va_G) (T : Nat → ClassId) (b : Nat) (z : Nat → Nat)  (x : mm_M) {x1 : mm_M} {r : Int32} (h : fn_X4_carryOut  x = some (x1, r)) : mm_Ci l yX4_carryOut wsX4_carryOut rm_X4_carryOut G T b z [.ref (b + 0)] x r x1 := by
  unfold fn_X4_carryOut at h
  refine mm_start (cc := cX4_carryOut) (maxL := 3) (ret := (some .int)) (by decide) rfl (Nat.le_of_ble_eq_true rfl) (fun p e s m below meth c ls C hr hlk hH hl => ?_)
  have hl : lv_has ls 3 [(0, .ref (b + 0))] := hl
  have hx := C.1
  have hb := C.2.1
  have w1 := C.2.2.2.2.1 (.fieldLink RX4 34 "LandingFines" "pad" "LLandingFines$Pad;") (by decide +kernel)
  have hin4 : ∀ w ∈ wsX40, w ∈ wsX4_carryOut := by decide +kernel
  refine lv_aload_n hx hb dX4_carryOut_0 rfl (lv_at hl 0 rfl) ?_
  refine mm_get (v := .ref (b + 19)) C hH hin4 rfl kl_0 (mm_e4 kd_0) (j := 5) (by decide) rfl w1 rfl dX4_carryOut_1 ?_
  obtain ⟨x1, v1, e1, h⟩ := mm_bnd2 h
  refine mm_goi hH (va_runV (As := []) (rest := []) ⟨hx, hb, C.2.2.1, C.2.2.2.1, C.2.2.2.2.1⟩ (ct_X2_findFault l G T b z x e1) (cwV 0 C.2.2.2.2.1 gX4_carryOut_X2_findFault rfl rfl rfl df_X2_findFault ⟨Nat.le_of_ble_eq_true rfl, Nat.le_of_ble_eq_true rfl⟩) ⟨mm_B.blind, mm_recv (q := (RX2, TX2, 6)) C hH kl_19 (mm_e2 kd_19) rfl, mm_pre C hH⟩ rfl rfl hl.1 rfl (lv_room (Nat.le_of_ble_eq_true rfl)) dX4_carryOut_4 ⟨Nat.zero_le _, Nat.zero_le _⟩) (fun H locs hH => ?_)
  refine lv_bipush (v := (-6)) hx hb dX4_carryOut_7 (by decide) ?_
  refine lv_icmp_eq (tgt := 15) hx hb dX4_carryOut_9 (by decide) (fun c1 => ?_) (fun c1 => ?_)
  · have h := mm_pos c1 h
    refine lv_aload_n hx hb dX4_carryOut_15 rfl (lv_at hl 0 rfl) ?_
    obtain ⟨x2, e2, h⟩ := mm_bnd h
    refine mm_gov hH (va_runV (As := []) (rest := []) ⟨hx, hb, C.2.2.1, C.2.2.2.1, C.2.2.2.2.1⟩ (ct_X4_keepState l G T b z x1 e2) (cwV 0 C.2.2.2.2.1 gX4_carryOut_X4_keepState rfl rfl rfl df_X4_keepState ⟨Nat.le_of_ble_eq_true rfl, Nat.le_of_ble_eq_true rfl⟩) ⟨mm_B.blind, mm_recv (q := (RX4, TX4, 7)) C hH kl_0 (mm_e4 kd_0) rfl, mm_pre C hH⟩ rfl rfl hl.1 rfl (lv_room (Nat.le_of_ble_eq_true rfl)) dX4_carryOut_16 ⟨Nat.zero_le _, Nat.zero_le _⟩) (fun H locs hH => ?_)
    refine lv_iconst (v := 0) hx hb dX4_carryOut_19 (by decide) ?_
    refine lv_istore_n (lv' := [(1, .int 0), (0, .ref (b + 0))]) hx hb dX4_carryOut_20 rfl hl (by decide) rfl (fun ls hl => ?_)
    refine lv_aload_n hx hb dX4_carryOut_21 rfl (lv_at hl 1 rfl) ?_
    refine mm_get (v := .ref (b + 19)) C hH hin4 rfl kl_0 (mm_e4 kd_0) (j := 5) (by decide) rfl w1 rfl dX4_carryOut_22 ?_
    obtain ⟨x3, e3, h⟩ := mm_bnd h
    refine mm_gov hH (va_runV (As := []) (rest := []) ⟨hx, hb, C.2.2.1, C.2.2.2.1, C.2.2.2.2.1⟩ (ct_X2_startReading l G T b z x2 e3) (cwV 0 C.2.2.2.2.1 gX4_carryOut_X2_startReading rfl rfl rfl df_X2_startReading ⟨Nat.le_of_ble_eq_true rfl, Nat.le_of_ble_eq_true rfl⟩) ⟨mm_B.blind, mm_recv (q := (RX2, TX2, 6)) C hH kl_19 (mm_e2 kd_19) rfl, mm_pre C hH⟩ rfl rfl hl.1 rfl (lv_room (Nat.le_of_ble_eq_true rfl)) dX4_carryOut_25 ⟨Nat.zero_le _, Nat.zero_le _⟩) (fun H locs hH => ?_)
    refine lv_iconst (v := 0) hx hb dX4_carryOut_28 (by decide) ?_
    refine lv_istore_n (lv' := [(2, .int 0), (1, .int 0), (0, .ref (b + 0))]) hx hb dX4_carryOut_29 rfl hl (by decide) rfl (fun ls hl => ?_)
    obtain ⟨x4, v2, e4, h⟩ := mm_bnd2 h
    refine lp_X4_carryOut_30 C 81 0 0 x3 _ _ _ _ _ e4 hH (lv_sub hl [2, 1, 0] rfl) (fun H locs ls hH hl => ?_)
    refine lv_aload_n hx hb dX4_carryOut_80 rfl (lv_at hl 0 rfl) ?_
    refine mm_get (v := .ref (b + 19)) C hH hin4 rfl kl_0 (mm_e4 kd_0) (j := 5) (by decide) rfl w1 rfl dX4_carryOut_81 ?_
    obtain ⟨x5, v3, e5, h⟩ := mm_bnd2 h
    refine mm_goi hH (va_runV (As := []) (rest := []) ⟨hx, hb, C.2.2.1, C.2.2.2.1, C.2.2.2.2.1⟩ (ct_X2_clear l G T b z x4 e5) (cwV 0 C.2.2.2.2.1 gX4_carryOut_X2_clear rfl rfl rfl df_X2_clear ⟨Nat.le_of_ble_eq_true rfl, Nat.le_of_ble_eq_true rfl⟩) ⟨mm_B.blind, mm_recv (q := (RX2, TX2, 6)) C hH kl_19 (mm_e2 kd_19) rfl, mm_pre C hH⟩ rfl rfl hl.1 rfl (lv_room (Nat.le_of_ble_eq_true rfl)) dX4_carryOut_84 ⟨Nat.zero_le _, Nat.zero_le _⟩) (fun H locs hH => ?_)
    refine lv_pop hx hb dX4_carryOut_87 rfl ?_
    refine lv_aload_n hx hb dX4_carryOut_88 rfl (lv_at hl 0 rfl) ?_
    refine lv_iload_n hx hb dX4_carryOut_89 rfl (lv_at hl 1 rfl) ?_
    obtain ⟨x6, v4, e6, h⟩ := mm_bnd2 h
    refine mm_goi hH (va_runV (As := [.int v2]) (rest := []) ⟨hx, hb, C.2.2.1, C.2.2.2.1, C.2.2.2.2.1⟩ (ct_X4_recordUnlessError l G T b z v2 x5 e6) (cwV 1 C.2.2.2.2.1 gX4_carryOut_X4_recordUnlessError rfl rfl rfl df_X4_recordUnlessError ⟨Nat.le_of_ble_eq_true rfl, Nat.le_of_ble_eq_true rfl⟩) ⟨mm_B.blind, mm_recv (q := (RX4, TX4, 7)) C hH kl_0 (mm_e4 kd_0) rfl, mm_pre C hH⟩ rfl rfl hl.1 rfl (lv_room (Nat.le_of_ble_eq_true rfl)) dX4_carryOut_90 ⟨Nat.zero_le _, Nat.zero_le _⟩) (fun H locs hH => ?_)
    exact mm_iret C hH hr hlk rfl h dX4_carryOut_93
  · have h := mm_neg c1 h
    have hl := lv_sub (l' := []) hl [] rfl
    refine lv_bipush (v := (-3)) hx hb dX4_carryOut_12 (by decide) ?_
    exact mm_iret C hH hr hlk rfl h dX4_carryOut_14
def fn_X4_undo  (x : mm_M) : Option (mm_M × Int32) :=
  if (1 : Int32) ≤ (x 0 2) then (some (mm_up x 0 2 ((x 0 2) - 1))).bind fun x1 => if (x1 0 2) < 0 ∨ 7 ≤ Int32.toNatClampNeg (x1 0 2) then none else if mm_kd (Int32.toNatClampNeg (x1 16 (Int32.toNatClampNeg (x1 0 2)))) = 3 then (fn_X3_copyFrom 1 (Int32.toNatClampNeg (x1 16 (Int32.toNatClampNeg (x1 0 2)))) x1).bind fun x2 => some (x2, (x2 0 2)) else none else some (x, (-5))
abbrev rm_X4_undo : Room := { frames := 3, cells := 0, slots := 0, locals := 69 }
theorem df_X4_undo : yX4_undo.cls = RX4 ∧ yX4_undo.cls ≠ "java/lang/invoke/MethodHandle" ∧ yX4_undo.cls ≠ "java/lang/invoke/VarHandle" ∧ (parseMethodDescriptor yX4_undo.desc).map (fun d => d.parameters.length) = some 0 := by decide +kernel
set_option maxRecDepth 100000 in
set_option maxHeartbeats 4000000 in
theorem ct_X4_undo (l : Launch) (G : va_G) (T : Nat → ClassId) (b : Nat) (z : Nat → Nat)  (x : mm_M) {x1 : mm_M} {r : Int32} (h : fn_X4_undo  x = some (x1, r)) : mm_Ci l yX4_undo wsX4_undo rm_X4_undo G T b z [.ref (b + 0)] x r x1 := by
  unfold fn_X4_undo at h
  refine mm_start (cc := cX4_undo) (maxL := 1) (ret := (some .int)) (by decide) rfl (Nat.le_of_ble_eq_true rfl) (fun p e s m below meth c ls C hr hlk hH hl => ?_)
  have hl : lv_has ls 1 [(0, .ref (b + 0))] := hl
  have hx := C.1
  have hb := C.2.1
  have w1 := C.2.2.2.2.1 (.fieldLink RX4 20 "LandingFines" "historySize" "I") (by decide +kernel)
  have w2 := C.2.2.2.2.1 (.fieldLink RX4 10 "LandingFines" "river" "LLandingFines$River;") (by decide +kernel)
  have w3 := C.2.2.2.2.1 (.fieldLink RX4 16 "LandingFines" "history" "[LLandingFines$River;") (by decide +kernel)
  have hin4 : ∀ w ∈ wsX40, w ∈ wsX4_undo := by decide +kernel
  refine lv_aload_n hx hb dX4_undo_0 rfl (lv_at hl 0 rfl) ?_
  refine mm_get (v := .int (x 0 2)) C hH hin4 rfl kl_0 (mm_e4 kd_0) (j := 2) (by decide) rfl w1 rfl dX4_undo_1 ?_
  refine lv_iconst (v := 1) hx hb dX4_undo_4 (by decide) ?_
  refine lv_icmp_ge (tgt := 11) hx hb dX4_undo_5 (by decide) (fun c1 => ?_) (fun c1 => ?_)
  · have h := mm_pos c1 h
    refine lv_aload_n hx hb dX4_undo_11 rfl (lv_at hl 0 rfl) ?_
    refine lv_dup hx hb dX4_undo_12 rfl ?_
    refine mm_get (v := .int (x 0 2)) C hH hin4 rfl kl_0 (mm_e4 kd_0) (j := 2) (by decide) rfl w1 rfl dX4_undo_13 ?_
    refine lv_iconst (v := 1) hx hb dX4_undo_16 (by decide) ?_
    refine lv_isub hx hb dX4_undo_17 ?_
    obtain ⟨x1, e1, h⟩ := mm_bnd h
    refine mm_put (ty := .int) C hH hin4 tyX4_ok nmX4 rfl kl_0 (mm_e4 kd_0) (j := 2) (by decide) rfl w1 pd_I rfl rfl (Nat.le_of_ble_eq_true rfl) (sp_4_2 kd_0) (Option.some.inj e1) dX4_undo_18 (fun H locs hH => ?_)
    refine lv_aload_n hx hb dX4_undo_21 rfl (lv_at hl 0 rfl) ?_
    refine mm_get (v := .ref (b + 1)) C hH hin4 rfl kl_0 (mm_e4 kd_0) (j := 0) (by decide) rfl w2 rfl dX4_undo_22 ?_
    refine lv_aload_n hx hb dX4_undo_25 rfl (lv_at hl 0 rfl) ?_
    refine mm_get (v := .ref (b + 16)) C hH hin4 rfl kl_0 (mm_e4 kd_0) (j := 1) (by decide) rfl w3 rfl dX4_undo_26 ?_
    refine lv_aload_n hx hb dX4_undo_29 rfl (lv_at hl 0 rfl) ?_
    refine mm_get (v := .int (x1 0 2)) C hH hin4 rfl kl_0 (mm_e4 kd_0) (j := 2) (by decide) rfl w1 rfl dX4_undo_30 ?_
    obtain ⟨g1, h⟩ := mm_grn h
    refine mm_ald10 C hH kd_16 g1 dX4_undo_33 ?_
    obtain ⟨g2, h⟩ := mm_grd h
    obtain ⟨x2, e2, h⟩ := mm_bnd h
    refine mm_gov hH (va_runV (As := [.ref (b + (Int32.toNatClampNeg (x1 16 (Int32.toNatClampNeg (x1 0 2)))))]) (rest := []) ⟨hx, hb, C.2.2.1, C.2.2.2.1, C.2.2.2.2.1⟩ (ct_X3_copyFrom l G T b z 1 (Int32.toNatClampNeg (x1 16 (Int32.toNatClampNeg (x1 0 2)))) x1 e2) (cwV 1 C.2.2.2.2.1 gX4_undo_X3_copyFrom rfl rfl rfl df_X3_copyFrom ⟨Nat.le_of_ble_eq_true rfl, Nat.le_of_ble_eq_true rfl⟩) ⟨mm_B.blind, mm_recv (q := (RX3, TX3, 7)) C hH kl_1 (mm_e3 kd_1) rfl, mm_pre C hH⟩ rfl rfl hl.1 rfl (lv_room (Nat.le_of_ble_eq_true rfl)) dX4_undo_34 ⟨Nat.zero_le _, Nat.zero_le _⟩) (fun H locs hH => ?_)
    refine lv_aload_n hx hb dX4_undo_37 rfl (lv_at hl 0 rfl) ?_
    refine mm_get (v := .int (x2 0 2)) C hH hin4 rfl kl_0 (mm_e4 kd_0) (j := 2) (by decide) rfl w1 rfl dX4_undo_38 ?_
    exact mm_iret C hH hr hlk rfl h dX4_undo_41
  · have h := mm_neg c1 h
    have hl := lv_sub (l' := []) hl [] rfl
    refine lv_bipush (v := (-5)) hx hb dX4_undo_8 (by decide) ?_
    exact mm_iret C hH hr hlk rfl h dX4_undo_10
def fn_X4_save (a1 : Int32) (x : mm_M) : Option (mm_M × Int32) :=
  if a1 < 0 then some (x, (-2)) else if a1 < 2 then if a1 < 0 ∨ 2 ≤ Int32.toNatClampNeg a1 then none else (fn_X3_copyFrom (127 + 15 * Int32.toNatClampNeg a1) 1 x).bind fun x1 => if a1 < 0 ∨ 2 ≤ Int32.toNatClampNeg a1 then none else (some (mm_up x1 18 (Int32.toNatClampNeg a1) 1)).bind fun x2 => some (x2, (x2 1 2)) else some (x, (-2))
abbrev rm_X4_save : Room := { frames := 3, cells := 0, slots := 0, locals := 69 }
theorem df_X4_save : yX4_save.cls = RX4 ∧ yX4_save.cls ≠ "java/lang/invoke/MethodHandle" ∧ yX4_save.cls ≠ "java/lang/invoke/VarHandle" ∧ (parseMethodDescriptor yX4_save.desc).map (fun d => d.parameters.length) = some 1 := by decide +kernel
set_option maxRecDepth 100000 in
set_option maxHeartbeats 4000000 in
theorem ct_X4_save (l : Launch) (G : va_G) (T : Nat → ClassId) (b : Nat) (z : Nat → Nat) (a1 : Int32) (x : mm_M) {x1 : mm_M} {r : Int32} (h : fn_X4_save a1 x = some (x1, r)) : mm_Ci l yX4_save wsX4_save rm_X4_save G T b z [.ref (b + 0), .int a1] x r x1 := by
  unfold fn_X4_save at h
  refine mm_start (cc := cX4_save) (maxL := 2) (ret := (some .int)) (by decide) rfl (Nat.le_of_ble_eq_true rfl) (fun p e s m below meth c ls C hr hlk hH hl => ?_)
  have hl : lv_has ls 2 [(0, .ref (b + 0)), (1, .int a1)] := hl
  have hx := C.1
  have hb := C.2.1
  have w1 := C.2.2.2.2.1 (.fieldLink RX4 24 "LandingFines" "slots" "[LLandingFines$River;") (by decide +kernel)
  have w2 := C.2.2.2.2.1 (.fieldLink RX4 10 "LandingFines" "river" "LLandingFines$River;") (by decide +kernel)
  have w3 := C.2.2.2.2.1 (.fieldLink RX4 27 "LandingFines" "slotUsed" "[Z") (by decide +kernel)
  have w4 := C.2.2.2.2.1 (.fieldLink RX4 174 "LandingFines$River" "landingCount" "I") (by decide +kernel)
  have hin3 : ∀ w ∈ wsX30, w ∈ wsX4_save := by decide +kernel
  have hin4 : ∀ w ∈ wsX40, w ∈ wsX4_save := by decide +kernel
  refine lv_iload_n hx hb dX4_save_0 rfl (lv_at hl 1 rfl) ?_
  refine lv_if_lt (tgt := 9) hx hb dX4_save_1 (by decide) (fun c1 => ?_) (fun c1 => ?_)
  · have h := mm_pos c1 h
    have hl := lv_sub (l' := []) hl [] rfl
    refine lv_bipush (v := (-2)) hx hb dX4_save_9 (by decide) ?_
    exact mm_iret C hH hr hlk rfl h dX4_save_11
  · have h := mm_neg c1 h
    refine lv_iload_n hx hb dX4_save_4 rfl (lv_at hl 1 rfl) ?_
    refine lv_iconst (v := 2) hx hb dX4_save_5 (by decide) ?_
    refine lv_icmp_lt (tgt := 12) hx hb dX4_save_6 (by decide) (fun c2 => ?_) (fun c2 => ?_)
    · have h := mm_pos c2 h
      refine lv_aload_n hx hb dX4_save_12 rfl (lv_at hl 0 rfl) ?_
      refine mm_get (v := .ref (b + 17)) C hH hin4 rfl kl_0 (mm_e4 kd_0) (j := 3) (by decide) rfl w1 rfl dX4_save_13 ?_
      refine lv_iload_n hx hb dX4_save_16 rfl (lv_at hl 1 rfl) ?_
      obtain ⟨g1, h⟩ := mm_grn h
      refine mm_ald11 C hH kd_17 g1 dX4_save_17 ?_
      refine lv_aload_n hx hb dX4_save_18 rfl (lv_at hl 0 rfl) ?_
      refine mm_get (v := .ref (b + 1)) C hH hin4 rfl kl_0 (mm_e4 kd_0) (j := 0) (by decide) rfl w2 rfl dX4_save_19 ?_
      obtain ⟨x1, e1, h⟩ := mm_bnd h
      refine mm_gov hH (va_runV (As := [.ref (b + 1)]) (rest := []) ⟨hx, hb, C.2.2.1, C.2.2.2.1, C.2.2.2.2.1⟩ (ct_X3_copyFrom l G T b z (127 + 15 * Int32.toNatClampNeg a1) 1 x e1) (cwV 1 C.2.2.2.2.1 gX4_save_X3_copyFrom rfl rfl rfl df_X3_copyFrom ⟨Nat.le_of_ble_eq_true rfl, Nat.le_of_ble_eq_true rfl⟩) ⟨mm_B.blind, mm_recv (q := (RX3, TX3, 7)) C hH (mm_lt (mm_lds g1) (by decide)) (mm_e3 (mm_lds g1)) rfl, mm_pre C hH⟩ rfl rfl hl.1 rfl (lv_room (Nat.le_of_ble_eq_true rfl)) dX4_save_22 ⟨Nat.zero_le _, Nat.zero_le _⟩) (fun H locs hH => ?_)
      refine lv_aload_n hx hb dX4_save_25 rfl (lv_at hl 0 rfl) ?_
      refine mm_get (v := .ref (b + 18)) C hH hin4 rfl kl_0 (mm_e4 kd_0) (j := 4) (by decide) rfl w3 rfl dX4_save_26 ?_
      refine lv_iload_n hx hb dX4_save_29 rfl (lv_at hl 1 rfl) ?_
      refine lv_iconst (v := 1) hx hb dX4_save_30 (by decide) ?_
      obtain ⟨g2, h⟩ := mm_grn h
      obtain ⟨x2, e2, h⟩ := mm_bnd h
      refine mm_bast (n := 2) (jn := (Int32.toNatClampNeg a1)) C hH kd_18 ln_18 g2 (by decide) rfl (Option.some.inj e2) dX4_save_31 (fun H locs hH => ?_)
      refine lv_aload_n hx hb dX4_save_32 rfl (lv_at hl 0 rfl) ?_
      refine mm_get (v := .ref (b + 1)) C hH hin4 rfl kl_0 (mm_e4 kd_0) (j := 0) (by decide) rfl w2 rfl dX4_save_33 ?_
      refine mm_get (v := .int (x2 1 2)) C hH hin3 rfl kl_1 (mm_e3 kd_1) (j := 2) (by decide) rfl w4 rfl dX4_save_36 ?_
      exact mm_iret C hH hr hlk rfl h dX4_save_39
    · have h := mm_neg c2 h
      have hl := lv_sub (l' := []) hl [] rfl
      refine lv_bipush (v := (-2)) hx hb dX4_save_9 (by decide) ?_
      exact mm_iret C hH hr hlk rfl h dX4_save_11
def fn_X4_restore (a1 : Int32) (x : mm_M) : Option (mm_M × Int32) :=
  if a1 < 0 then some (x, (-2)) else if a1 < 2 then if a1 < 0 ∨ 2 ≤ Int32.toNatClampNeg a1 then none else if (x 18 (Int32.toNatClampNeg a1)) = 0 then some (x, (-5)) else (fn_X4_keepState x).bind fun x1 => if a1 < 0 ∨ 2 ≤ Int32.toNatClampNeg a1 then none else (fn_X3_copyFrom 1 (127 + 15 * Int32.toNatClampNeg a1) x1).bind fun x2 => mm_b2 (fn_X4_recordUnlessError (x2 1 2) x2) fun x3 v1 => some (x3, v1) else some (x, (-2))
abbrev rm_X4_restore : Room := { frames := 4, cells := 0, slots := 0, locals := 89 }
theorem df_X4_restore : yX4_restore.cls = RX4 ∧ yX4_restore.cls ≠ "java/lang/invoke/MethodHandle" ∧ yX4_restore.cls ≠ "java/lang/invoke/VarHandle" ∧ (parseMethodDescriptor yX4_restore.desc).map (fun d => d.parameters.length) = some 1 := by decide +kernel
set_option maxRecDepth 100000 in
set_option maxHeartbeats 4000000 in
theorem ct_X4_restore (l : Launch) (G : va_G) (T : Nat → ClassId) (b : Nat) (z : Nat → Nat) (a1 : Int32) (x : mm_M) {x1 : mm_M} {r : Int32} (h : fn_X4_restore a1 x = some (x1, r)) : mm_Ci l yX4_restore wsX4_restore rm_X4_restore G T b z [.ref (b + 0), .int a1] x r x1 := by
  unfold fn_X4_restore at h
  refine mm_start (cc := cX4_restore) (maxL := 2) (ret := (some .int)) (by decide) rfl (Nat.le_of_ble_eq_true rfl) (fun p e s m below meth c ls C hr hlk hH hl => ?_)
  have hl : lv_has ls 2 [(0, .ref (b + 0)), (1, .int a1)] := hl
  have hx := C.1
  have hb := C.2.1
  have w1 := C.2.2.2.2.1 (.fieldLink RX4 27 "LandingFines" "slotUsed" "[Z") (by decide +kernel)
  have w2 := C.2.2.2.2.1 (.fieldLink RX4 10 "LandingFines" "river" "LLandingFines$River;") (by decide +kernel)
  have w3 := C.2.2.2.2.1 (.fieldLink RX4 24 "LandingFines" "slots" "[LLandingFines$River;") (by decide +kernel)
  have w4 := C.2.2.2.2.1 (.fieldLink RX4 174 "LandingFines$River" "landingCount" "I") (by decide +kernel)
  have hin3 : ∀ w ∈ wsX30, w ∈ wsX4_restore := by decide +kernel
  have hin4 : ∀ w ∈ wsX40, w ∈ wsX4_restore := by decide +kernel
  refine lv_iload_n hx hb dX4_restore_0 rfl (lv_at hl 1 rfl) ?_
  refine lv_if_lt (tgt := 9) hx hb dX4_restore_1 (by decide) (fun c1 => ?_) (fun c1 => ?_)
  · have h := mm_pos c1 h
    have hl := lv_sub (l' := []) hl [] rfl
    refine lv_bipush (v := (-2)) hx hb dX4_restore_9 (by decide) ?_
    exact mm_iret C hH hr hlk rfl h dX4_restore_11
  · have h := mm_neg c1 h
    refine lv_iload_n hx hb dX4_restore_4 rfl (lv_at hl 1 rfl) ?_
    refine lv_iconst (v := 2) hx hb dX4_restore_5 (by decide) ?_
    refine lv_icmp_lt (tgt := 12) hx hb dX4_restore_6 (by decide) (fun c2 => ?_) (fun c2 => ?_)
    · have h := mm_pos c2 h
      refine lv_aload_n hx hb dX4_restore_12 rfl (lv_at hl 0 rfl) ?_
      refine mm_get (v := .ref (b + 18)) C hH hin4 rfl kl_0 (mm_e4 kd_0) (j := 4) (by decide) rfl w1 rfl dX4_restore_13 ?_
      refine lv_iload_n hx hb dX4_restore_16 rfl (lv_at hl 1 rfl) ?_
      obtain ⟨g1, h⟩ := mm_grn h
      refine mm_bald (n := 2) (jn := (Int32.toNatClampNeg a1)) C hH kd_18 ln_18 g1 rfl dX4_restore_17 ?_
      refine lv_if_ne (tgt := 24) hx hb dX4_restore_18 (by decide) (fun c3 => ?_) (fun c3 => ?_)
      · have h := mm_neg c3 h
        refine lv_aload_n hx hb dX4_restore_24 rfl (lv_at hl 0 rfl) ?_
        obtain ⟨x1, e1, h⟩ := mm_bnd h
        refine mm_gov hH (va_runV (As := []) (rest := []) ⟨hx, hb, C.2.2.1, C.2.2.2.1, C.2.2.2.2.1⟩ (ct_X4_keepState l G T b z x e1) (cwV 0 C.2.2.2.2.1 gX4_restore_X4_keepState rfl rfl rfl df_X4_keepState ⟨Nat.le_of_ble_eq_true rfl, Nat.le_of_ble_eq_true rfl⟩) ⟨mm_B.blind, mm_recv (q := (RX4, TX4, 7)) C hH kl_0 (mm_e4 kd_0) rfl, mm_pre C hH⟩ rfl rfl hl.1 rfl (lv_room (Nat.le_of_ble_eq_true rfl)) dX4_restore_25 ⟨Nat.zero_le _, Nat.zero_le _⟩) (fun H locs hH => ?_)
        refine lv_aload_n hx hb dX4_restore_28 rfl (lv_at hl 0 rfl) ?_
        refine mm_get (v := .ref (b + 1)) C hH hin4 rfl kl_0 (mm_e4 kd_0) (j := 0) (by decide) rfl w2 rfl dX4_restore_29 ?_
        refine lv_aload_n hx hb dX4_restore_32 rfl (lv_at hl 0 rfl) ?_
        refine mm_get (v := .ref (b + 17)) C hH hin4 rfl kl_0 (mm_e4 kd_0) (j := 3) (by decide) rfl w3 rfl dX4_restore_33 ?_
        refine lv_iload_n hx hb dX4_restore_36 rfl (lv_at hl 1 rfl) ?_
        obtain ⟨g2, h⟩ := mm_grn h
        refine mm_ald11 C hH kd_17 g2 dX4_restore_37 ?_
        obtain ⟨x2, e2, h⟩ := mm_bnd h
        refine mm_gov hH (va_runV (As := [.ref (b + (127 + 15 * Int32.toNatClampNeg a1))]) (rest := []) ⟨hx, hb, C.2.2.1, C.2.2.2.1, C.2.2.2.2.1⟩ (ct_X3_copyFrom l G T b z 1 (127 + 15 * Int32.toNatClampNeg a1) x1 e2) (cwV 1 C.2.2.2.2.1 gX4_restore_X3_copyFrom rfl rfl rfl df_X3_copyFrom ⟨Nat.le_of_ble_eq_true rfl, Nat.le_of_ble_eq_true rfl⟩) ⟨mm_B.blind, mm_recv (q := (RX3, TX3, 7)) C hH kl_1 (mm_e3 kd_1) rfl, mm_pre C hH⟩ rfl rfl hl.1 rfl (lv_room (Nat.le_of_ble_eq_true rfl)) dX4_restore_38 ⟨Nat.zero_le _, Nat.zero_le _⟩) (fun H locs hH => ?_)
        refine lv_aload_n hx hb dX4_restore_41 rfl (lv_at hl 0 rfl) ?_
        refine lv_aload_n hx hb dX4_restore_42 rfl (lv_at hl 0 rfl) ?_
        refine mm_get (v := .ref (b + 1)) C hH hin4 rfl kl_0 (mm_e4 kd_0) (j := 0) (by decide) rfl w2 rfl dX4_restore_43 ?_
        refine mm_get (v := .int (x2 1 2)) C hH hin3 rfl kl_1 (mm_e3 kd_1) (j := 2) (by decide) rfl w4 rfl dX4_restore_46 ?_
        obtain ⟨x3, v1, e3, h⟩ := mm_bnd2 h
        refine mm_goi hH (va_runV (As := [.int (x2 1 2)]) (rest := []) ⟨hx, hb, C.2.2.1, C.2.2.2.1, C.2.2.2.2.1⟩ (ct_X4_recordUnlessError l G T b z (x2 1 2) x2 e3) (cwV 1 C.2.2.2.2.1 gX4_restore_X4_recordUnlessError rfl rfl rfl df_X4_recordUnlessError ⟨Nat.le_of_ble_eq_true rfl, Nat.le_of_ble_eq_true rfl⟩) ⟨mm_B.blind, mm_recv (q := (RX4, TX4, 7)) C hH kl_0 (mm_e4 kd_0) rfl, mm_pre C hH⟩ rfl rfl hl.1 rfl (lv_room (Nat.le_of_ble_eq_true rfl)) dX4_restore_49 ⟨Nat.zero_le _, Nat.zero_le _⟩) (fun H locs hH => ?_)
        exact mm_iret C hH hr hlk rfl h dX4_restore_52
      · have h := mm_pos c3 h
        have hl := lv_sub (l' := []) hl [] rfl
        refine lv_bipush (v := (-5)) hx hb dX4_restore_21 (by decide) ?_
        exact mm_iret C hH hr hlk rfl h dX4_restore_23
    · have h := mm_neg c2 h
      have hl := lv_sub (l' := []) hl [] rfl
      refine lv_bipush (v := (-2)) hx hb dX4_restore_9 (by decide) ?_
      exact mm_iret C hH hr hlk rfl h dX4_restore_11
