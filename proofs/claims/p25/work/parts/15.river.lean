def fn_X3_copyFrom_20 : Nat → Nat → Nat → Int32 → mm_M → Option mm_M
  | 0, _, _, _, _ => none
  | n + 1, k0, k1, i2, x => if (8 : Int32) ≤ i2 then some (x) else if i2 < 0 ∨ 8 ≤ Int32.toNatClampNeg i2 then none else if i2 < 0 ∨ 8 ≤ Int32.toNatClampNeg i2 then none else (fn_X1_copyFrom ((k0 + 2) + 5 + Int32.toNatClampNeg i2) ((k1 + 2) + 5 + Int32.toNatClampNeg i2) x).bind fun x1 => (some (i2 + 1)).bind fun v1 => fn_X3_copyFrom_20 n k0 k1 v1 x1
def fn_X3_copyFrom (k0 : Nat) (k1 : Nat) (x : mm_M) : Option mm_M :=
  if mm_kd k0 = 3 then if mm_kd k1 = 3 then (some (mm_cy x (k1 + 1) (k0 + 1) 0 0 7)).bind fun x1 => (fn_X3_copyFrom_20 9 k0 k1 0 x1).bind fun x2 => (some (mm_up x2 k0 2 (x2 k1 2))).bind fun x3 => (some (mm_up x3 k0 3 (x3 k1 3))).bind fun x4 => (some (mm_up x4 k0 4 (x4 k1 4))).bind fun x5 => (some (mm_up x5 k0 5 (x5 k1 5))).bind fun x6 => (fn_X0_copyFrom (k0 + 3) (k1 + 3) x6).bind fun x7 => some x7 else none else none
abbrev rm_X3_copyFrom : Room := { frames := 2, cells := 0, slots := 0, locals := 47 }
theorem df_X3_copyFrom : yX3_copyFrom.cls = RX3 ∧ yX3_copyFrom.cls ≠ "java/lang/invoke/MethodHandle" ∧ yX3_copyFrom.cls ≠ "java/lang/invoke/VarHandle" ∧ (parseMethodDescriptor yX3_copyFrom.desc).map (fun d => d.parameters.length) = some 1 := by decide +kernel
set_option maxRecDepth 100000 in
set_option maxHeartbeats 4000000 in
theorem lp_X3_copyFrom_20 {p : Program} {l : Launch} {e : Env} {s : State} {m : MethodId} {args : Array Value} {below : List Frame} {meth : Method} {c : Code} {Q : State → Prop} {G : va_G} {T : Nat → ClassId} {b : Nat} {z : Nat → Nat} (C : mm_C p m c cX3_copyFrom 3 s args wsX3_copyFrom RX3 G T b z) (k0 : Nat) (k1 : Nat) (hk0 : mm_kd k0 = 3) (hk1 : mm_kd k1 = 3) : ∀ (n : Nat) (i2 : Int32) (x : mm_M) (H : Heap) (locs : List Loc) (ls : Array Slot) (x1 : mm_M), fn_X3_copyFrom_20 n k0 k1 i2 x = some (x1) → mm_H G T b x s H locs → lv_has ls 3 [(0, .ref (b + k0)), (1, .ref (b + k1)), (2, .int i2)] → (∀ (H1 : Heap) (locs1 : List Loc) (ls1 : Array Slot), mm_H G T b x1 s H1 locs1 → lv_has ls1 3 [(0, .ref (b + k0)), (1, .ref (b + k1))] → W p l e rm_X3_copyFrom s m args below meth c H1 locs1 0 0 Q (F0 m 50 ls1 [])) → W p l e rm_X3_copyFrom s m args below meth c H locs 0 0 Q (F0 m 20 ls []) := by
  have hx := C.1
  have hb := C.2.1
  have w1 := C.2.2.2.2.1 (.fieldLink RX3 25 "LandingFines$River" "landings" "[LLandingFines$Landing;") (by decide +kernel)
  have hin3 : ∀ w ∈ wsX30, w ∈ wsX3_copyFrom := by decide +kernel
  have hk0l := mm_lt hk0 (by decide)
  have hk1l := mm_lt hk1 (by decide)
  intro n
  induction n with
  | zero => intro _ _ _ _ _ _ h; cases (show (none : Option mm_M) = some _ from h)
  | succ n ih =>
    intro i2 x H locs ls x1 h hH hl kk
    rw [fn_X3_copyFrom_20] at h
    refine lv_iload_n hx hb dX3_copyFrom_20 rfl (lv_at hl 2 rfl) ?_
    refine lv_aload_n hx hb dX3_copyFrom_21 rfl (lv_at hl 0 rfl) ?_
    refine mm_get (v := .ref (b + (k0 + 2))) C hH hin3 rfl hk0l (mm_e3 hk0) (j := 1) (by decide) rfl w1 rfl dX3_copyFrom_22 ?_
    refine mm_alen (v := 8) C hH (mm_lt (mm_rv2 hk0) (by decide)) (mm_e9 (mm_rv2 hk0)) 3 rfl rfl dX3_copyFrom_25 ?_
    refine lv_icmp_ge (tgt := 50) hx hb dX3_copyFrom_26 (by decide) (fun c1 => ?_) (fun c1 => ?_)
    · have h := mm_pos c1 h
      have hl := lv_sub (l' := [(0, .ref (b + k0)), (1, .ref (b + k1))]) hl [0, 1] rfl
      cases h
      exact kk _ _ _ hH (lv_sub hl [0, 1] rfl)
    · have h := mm_neg c1 h
      refine lv_aload_n hx hb dX3_copyFrom_29 rfl (lv_at hl 0 rfl) ?_
      refine mm_get (v := .ref (b + (k0 + 2))) C hH hin3 rfl hk0l (mm_e3 hk0) (j := 1) (by decide) rfl w1 rfl dX3_copyFrom_30 ?_
      refine lv_iload_n hx hb dX3_copyFrom_33 rfl (lv_at hl 2 rfl) ?_
      obtain ⟨g1, h⟩ := mm_grn h
      refine mm_ald9 C hH (mm_rv2 hk0) g1 dX3_copyFrom_34 ?_
      refine lv_aload_n hx hb dX3_copyFrom_35 rfl (lv_at hl 1 rfl) ?_
      refine mm_get (v := .ref (b + (k1 + 2))) C hH hin3 rfl hk1l (mm_e3 hk1) (j := 1) (by decide) rfl w1 rfl dX3_copyFrom_36 ?_
      refine lv_iload_n hx hb dX3_copyFrom_39 rfl (lv_at hl 2 rfl) ?_
      obtain ⟨g2, h⟩ := mm_grn h
      refine mm_ald9 C hH (mm_rv2 hk1) g2 dX3_copyFrom_40 ?_
      obtain ⟨x1, e1, h⟩ := mm_bnd h
      refine mm_gov hH (va_runV (As := [.ref (b + ((k1 + 2) + 5 + Int32.toNatClampNeg i2))]) (rest := []) ⟨hx, hb, C.2.2.1, C.2.2.2.1, C.2.2.2.2.1⟩ (ct_X1_copyFrom l G T b z ((k0 + 2) + 5 + Int32.toNatClampNeg i2) ((k1 + 2) + 5 + Int32.toNatClampNeg i2) x e1) (cwV 1 C.2.2.2.2.1 gX3_copyFrom_X1_copyFrom rfl rfl rfl df_X1_copyFrom ⟨Nat.le_of_ble_eq_true rfl, Nat.le_of_ble_eq_true rfl⟩) ⟨mm_B.blind, mm_recv (q := (RX1, TX1, 8)) C hH (mm_lt (mm_ldr hk0 g1) (by decide)) (mm_e1 (mm_ldr hk0 g1)) rfl, mm_pre C hH⟩ rfl rfl hl.1 rfl (lv_room (Nat.le_of_ble_eq_true rfl)) dX3_copyFrom_41 ⟨Nat.zero_le _, Nat.zero_le _⟩) (fun H locs hH => ?_)
      obtain ⟨v1, e2, h⟩ := mm_bnd h
      refine lv_iinc (v := v1) (lv' := [(2, .int v1), (0, .ref (b + k0)), (1, .ref (b + k1))]) hx hb dX3_copyFrom_44 hl (k := 2) rfl (Option.some.inj e2) (by decide) rfl (fun ls hl => ?_)
      refine lv_goto (tgt := 20) hx hb dX3_copyFrom_47 (by decide) ?_
      exact ih v1 x1 _ _ _ _ h hH (lv_sub hl [1, 2, 0] rfl) kk
set_option maxRecDepth 100000 in
set_option maxHeartbeats 4000000 in
theorem ct_X3_copyFrom (l : Launch) (G : va_G) (T : Nat → ClassId) (b : Nat) (z : Nat → Nat) (k0 : Nat) (k1 : Nat) (x : mm_M) {x1 : mm_M} (h : fn_X3_copyFrom k0 k1 x = some x1) : mm_Cv l yX3_copyFrom wsX3_copyFrom rm_X3_copyFrom G T b z [.ref (b + k0), .ref (b + k1)] x x1 := by
  unfold fn_X3_copyFrom at h
  refine mm_start (cc := cX3_copyFrom) (maxL := 3) (ret := none) (by decide) rfl (Nat.le_of_ble_eq_true rfl) (fun p e s m below meth c ls C hr hlk hH hl => ?_)
  have hl : lv_has ls 3 [(0, .ref (b + k0)), (1, .ref (b + k1))] := hl
  have hx := C.1
  have hb := C.2.1
  have w1 := C.2.2.2.2.1 (.fieldLink RX3 18 "LandingFines$River" "settings" "[I") (by decide +kernel)
  have w2 := C.2.2.2.2.1 (.methodLink RX3 50 arraycopyName) (by decide +kernel)
  have w3 := C.2.2.2.2.1 (.native arraycopyName) (by decide +kernel)
  have w4 := C.2.2.2.2.1 (.static arraycopyName) (by decide +kernel)
  have w5 := C.2.2.2.2.1 (.initialized "java/lang/System") (by decide +kernel)
  have w6 := C.2.2.2.2.1 (.fieldLink RX3 29 "LandingFines$River" "landingCount" "I") (by decide +kernel)
  have w7 := C.2.2.2.2.1 (.fieldLink RX3 33 "LandingFines$River" "minutesSoFar" "I") (by decide +kernel)
  have w8 := C.2.2.2.2.1 (.fieldLink RX3 36 "LandingFines$River" "taken" "I") (by decide +kernel)
  have w9 := C.2.2.2.2.1 (.fieldLink RX3 39 "LandingFines$River" "switches" "I") (by decide +kernel)
  have w10 := C.2.2.2.2.1 (.fieldLink RX3 45 "LandingFines$River" "journal" "LLandingFines$Journal;") (by decide +kernel)
  have hin3 : ∀ w ∈ wsX30, w ∈ wsX3_copyFrom := by decide +kernel
  obtain ⟨hk0, h⟩ := mm_grd h
  have hk0l := mm_lt hk0 (by decide)
  obtain ⟨hk1, h⟩ := mm_grd h
  have hk1l := mm_lt hk1 (by decide)
  refine lv_aload_n hx hb dX3_copyFrom_0 rfl (lv_at hl 1 rfl) ?_
  refine mm_get (v := .ref (b + (k1 + 1))) C hH hin3 rfl hk1l (mm_e3 hk1) (j := 0) (by decide) rfl w1 rfl dX3_copyFrom_1 ?_
  refine lv_iconst (v := 0) hx hb dX3_copyFrom_4 (by decide) ?_
  refine lv_aload_n hx hb dX3_copyFrom_5 rfl (lv_at hl 0 rfl) ?_
  refine mm_get (v := .ref (b + (k0 + 1))) C hH hin3 rfl hk0l (mm_e3 hk0) (j := 0) (by decide) rfl w1 rfl dX3_copyFrom_6 ?_
  refine lv_iconst (v := 0) hx hb dX3_copyFrom_9 (by decide) ?_
  refine lv_aload_n hx hb dX3_copyFrom_10 rfl (lv_at hl 0 rfl) ?_
  refine mm_get (v := .ref (b + (k0 + 1))) C hH hin3 rfl hk0l (mm_e3 hk0) (j := 0) (by decide) rfl w1 rfl dX3_copyFrom_11 ?_
  refine mm_alen (v := 7) C hH (mm_lt (mm_rv1 hk0).1 (by decide)) (mm_e6 (mm_rv1 hk0).1) 0 rfl (by rw [(mm_rv1 hk0).2]; rfl) dX3_copyFrom_14 ?_
  obtain ⟨x1, e1, h⟩ := mm_bnd h
  refine mm_copy (n0 := 7) (n1 := 7) C hl.1.symm hH (mm_rv1 hk1).1 (mm_rv1 hk0).1 (mm_rv1 hk1).2 (mm_rv1 hk0).2 w2 w3 w4 w5 (by decide) (by decide) (by decide) (by decide) (by decide) (Nat.le_of_ble_eq_true rfl) (Nat.le_of_ble_eq_true rfl) (Option.some.inj e1) dX3_copyFrom_15 (fun H locs hH => ?_)
  refine lv_iconst (v := 0) hx hb dX3_copyFrom_18 (by decide) ?_
  refine lv_istore_n (lv' := [(2, .int 0), (0, .ref (b + k0)), (1, .ref (b + k1))]) hx hb dX3_copyFrom_19 rfl hl (by decide) rfl (fun ls hl => ?_)
  obtain ⟨x2, e2, h⟩ := mm_bnd h
  refine lp_X3_copyFrom_20 C k0 k1 hk0 hk1 9 0 x1 _ _ _ _ e2 hH (lv_sub hl [1, 2, 0] rfl) (fun H locs ls hH hl => ?_)
  refine lv_aload_n hx hb dX3_copyFrom_50 rfl (lv_at hl 0 rfl) ?_
  refine lv_aload_n hx hb dX3_copyFrom_51 rfl (lv_at hl 1 rfl) ?_
  refine mm_get (v := .int (x2 k1 2)) C hH hin3 rfl hk1l (mm_e3 hk1) (j := 2) (by decide) rfl w6 rfl dX3_copyFrom_52 ?_
  obtain ⟨x3, e3, h⟩ := mm_bnd h
  refine mm_put (ty := .int) C hH hin3 tyX3_ok nmX3 rfl hk0l (mm_e3 hk0) (j := 2) (by decide) rfl w6 pd_I rfl rfl (Nat.le_of_ble_eq_true rfl) (sp_3_2 hk0) (Option.some.inj e3) dX3_copyFrom_55 (fun H locs hH => ?_)
  refine lv_aload_n hx hb dX3_copyFrom_58 rfl (lv_at hl 0 rfl) ?_
  refine lv_aload_n hx hb dX3_copyFrom_59 rfl (lv_at hl 1 rfl) ?_
  refine mm_get (v := .int (x3 k1 3)) C hH hin3 rfl hk1l (mm_e3 hk1) (j := 3) (by decide) rfl w7 rfl dX3_copyFrom_60 ?_
  obtain ⟨x4, e4, h⟩ := mm_bnd h
  refine mm_put (ty := .int) C hH hin3 tyX3_ok nmX3 rfl hk0l (mm_e3 hk0) (j := 3) (by decide) rfl w7 pd_I rfl rfl (Nat.le_of_ble_eq_true rfl) (sp_3_3 hk0) (Option.some.inj e4) dX3_copyFrom_63 (fun H locs hH => ?_)
  refine lv_aload_n hx hb dX3_copyFrom_66 rfl (lv_at hl 0 rfl) ?_
  refine lv_aload_n hx hb dX3_copyFrom_67 rfl (lv_at hl 1 rfl) ?_
  refine mm_get (v := .int (x4 k1 4)) C hH hin3 rfl hk1l (mm_e3 hk1) (j := 4) (by decide) rfl w8 rfl dX3_copyFrom_68 ?_
  obtain ⟨x5, e5, h⟩ := mm_bnd h
  refine mm_put (ty := .int) C hH hin3 tyX3_ok nmX3 rfl hk0l (mm_e3 hk0) (j := 4) (by decide) rfl w8 pd_I rfl rfl (Nat.le_of_ble_eq_true rfl) (sp_3_4 hk0) (Option.some.inj e5) dX3_copyFrom_71 (fun H locs hH => ?_)
  refine lv_aload_n hx hb dX3_copyFrom_74 rfl (lv_at hl 0 rfl) ?_
  refine lv_aload_n hx hb dX3_copyFrom_75 rfl (lv_at hl 1 rfl) ?_
  refine mm_get (v := .int (x5 k1 5)) C hH hin3 rfl hk1l (mm_e3 hk1) (j := 5) (by decide) rfl w9 rfl dX3_copyFrom_76 ?_
  obtain ⟨x6, e6, h⟩ := mm_bnd h
  refine mm_put (ty := .int) C hH hin3 tyX3_ok nmX3 rfl hk0l (mm_e3 hk0) (j := 5) (by decide) rfl w9 pd_I rfl rfl (Nat.le_of_ble_eq_true rfl) (sp_3_5 hk0) (Option.some.inj e6) dX3_copyFrom_79 (fun H locs hH => ?_)
  refine lv_aload_n hx hb dX3_copyFrom_82 rfl (lv_at hl 0 rfl) ?_
  refine mm_get (v := .ref (b + (k0 + 3))) C hH hin3 rfl hk0l (mm_e3 hk0) (j := 6) (by decide) rfl w10 rfl dX3_copyFrom_83 ?_
  refine lv_aload_n hx hb dX3_copyFrom_86 rfl (lv_at hl 1 rfl) ?_
  refine mm_get (v := .ref (b + (k1 + 3))) C hH hin3 rfl hk1l (mm_e3 hk1) (j := 6) (by decide) rfl w10 rfl dX3_copyFrom_87 ?_
  obtain ⟨x7, e7, h⟩ := mm_bnd h
  refine mm_gov hH (va_runV (As := [.ref (b + (k1 + 3))]) (rest := []) ⟨hx, hb, C.2.2.1, C.2.2.2.1, C.2.2.2.2.1⟩ (ct_X0_copyFrom l G T b z (k0 + 3) (k1 + 3) x6 e7) (cwV 1 C.2.2.2.2.1 gX3_copyFrom_X0_copyFrom rfl rfl rfl df_X0_copyFrom ⟨Nat.le_of_ble_eq_true rfl, Nat.le_of_ble_eq_true rfl⟩) ⟨mm_B.blind, mm_recv (q := (RX0, TX0, 5)) C hH (mm_lt (mm_rv3 hk0) (by decide)) (mm_e0 (mm_rv3 hk0)) rfl, mm_pre C hH⟩ rfl rfl hl.1 rfl (lv_room (Nat.le_of_ble_eq_true rfl)) dX3_copyFrom_90 ⟨Nat.zero_le _, Nat.zero_le _⟩) (fun H locs hH => ?_)
  exact mm_vret C hH hr hlk h dX3_copyFrom_93
def fn_X3_find (a1 : Int32) (x : mm_M) : Option (Option Nat) :=
  if a1 < 0 then some none else if a1 < (x 1 2) then if a1 < 0 ∨ 8 ≤ Int32.toNatClampNeg a1 then none else some (some (3 + 5 + Int32.toNatClampNeg a1)) else some none
abbrev rm_X3_find : Room := { frames := 0, cells := 0, slots := 0, locals := 0 }
theorem df_X3_find : yX3_find.cls = RX3 ∧ yX3_find.cls ≠ "java/lang/invoke/MethodHandle" ∧ yX3_find.cls ≠ "java/lang/invoke/VarHandle" ∧ (parseMethodDescriptor yX3_find.desc).map (fun d => d.parameters.length) = some 1 := by decide +kernel
set_option maxRecDepth 100000 in
set_option maxHeartbeats 4000000 in
theorem ct_X3_find (l : Launch) (G : va_G) (T : Nat → ClassId) (b : Nat) (z : Nat → Nat) (a1 : Int32) (x : mm_M) {r : Option Nat} (h : fn_X3_find a1 x = some r) : mm_Ce l yX3_find wsX3_find rm_X3_find G T b z [.ref (b + 1), .int a1] x r x := by
  unfold fn_X3_find at h
  refine mm_start (cc := cX3_find) (maxL := 2) (ret := (some (.object "LandingFines$Landing"))) (by decide) rfl (Nat.le_of_ble_eq_true rfl) (fun p e s m below meth c ls C hr hlk hH hl => ?_)
  have hl : lv_has ls 2 [(0, .ref (b + 1)), (1, .int a1)] := hl
  have hx := C.1
  have hb := C.2.1
  have w1 := C.2.2.2.2.1 (.fieldLink RX3 29 "LandingFines$River" "landingCount" "I") (by decide +kernel)
  have w2 := C.2.2.2.2.1 (.fieldLink RX3 25 "LandingFines$River" "landings" "[LLandingFines$Landing;") (by decide +kernel)
  have hin3 : ∀ w ∈ wsX30, w ∈ wsX3_find := by decide +kernel
  refine lv_iload_n hx hb dX3_find_0 rfl (lv_at hl 1 rfl) ?_
  refine lv_if_lt (tgt := 12) hx hb dX3_find_1 (by decide) (fun c1 => ?_) (fun c1 => ?_)
  · have h := mm_pos c1 h
    have hl := lv_sub (l' := []) hl [] rfl
    refine lv_null hx hb dX3_find_12 ?_
    refine lv_goto (tgt := 22) hx hb dX3_find_13 (by decide) ?_
    exact mm_eretP C hH hr (Or.inl ⟨_, rfl⟩) hlk rfl h dX3_find_22
  · have h := mm_neg c1 h
    refine lv_iload_n hx hb dX3_find_4 rfl (lv_at hl 1 rfl) ?_
    refine lv_aload_n hx hb dX3_find_5 rfl (lv_at hl 0 rfl) ?_
    refine mm_get (v := .int (x 1 2)) C hH hin3 rfl kl_1 (mm_e3 kd_1) (j := 2) (by decide) rfl w1 rfl dX3_find_6 ?_
    refine lv_icmp_lt (tgt := 16) hx hb dX3_find_9 (by decide) (fun c2 => ?_) (fun c2 => ?_)
    · have h := mm_pos c2 h
      refine lv_aload_n hx hb dX3_find_16 rfl (lv_at hl 0 rfl) ?_
      refine mm_get (v := .ref (b + 3)) C hH hin3 rfl kl_1 (mm_e3 kd_1) (j := 1) (by decide) rfl w2 rfl dX3_find_17 ?_
      refine lv_iload_n hx hb dX3_find_20 rfl (lv_at hl 1 rfl) ?_
      obtain ⟨g1, h⟩ := mm_grn h
      refine mm_ald9 C hH kd_3 g1 dX3_find_21 ?_
      exact mm_eretP C hH hr (Or.inl ⟨_, rfl⟩) hlk rfl h dX3_find_22
    · have h := mm_neg c2 h
      have hl := lv_sub (l' := []) hl [] rfl
      refine lv_null hx hb dX3_find_12 ?_
      refine lv_goto (tgt := 22) hx hb dX3_find_13 (by decide) ?_
      exact mm_eretP C hH hr (Or.inl ⟨_, rfl⟩) hlk rfl h dX3_find_22
def fn_X3_changeSetting (a1 : Int32) (a2 : Int32) (x : mm_M) : Option (mm_M × Int32) :=
  if a1 < 0 then some (x, (-2)) else if a1 < 7 then if a1 < 0 ∨ 7 ≤ Int32.toNatClampNeg a1 then none else if a2 < (mm_st 0 (Int32.toNatClampNeg a1)) then some (x, (-2)) else if a1 < 0 ∨ 7 ≤ Int32.toNatClampNeg a1 then none else if a2 ≤ (mm_st 1 (Int32.toNatClampNeg a1)) then if a1 < 0 ∨ 7 ≤ Int32.toNatClampNeg a1 then none else (some ((x 2 (Int32.toNatClampNeg a1)) : Int32)).bind fun v1 => if a1 < 0 ∨ 7 ≤ Int32.toNatClampNeg a1 then none else (some (mm_up x 2 (Int32.toNatClampNeg a1) a2)).bind fun x1 => some (x1, v1) else some (x, (-2)) else some (x, (-2))
abbrev rm_X3_changeSetting : Room := { frames := 0, cells := 0, slots := 0, locals := 0 }
theorem df_X3_changeSetting : yX3_changeSetting.cls = RX3 ∧ yX3_changeSetting.cls ≠ "java/lang/invoke/MethodHandle" ∧ yX3_changeSetting.cls ≠ "java/lang/invoke/VarHandle" ∧ (parseMethodDescriptor yX3_changeSetting.desc).map (fun d => d.parameters.length) = some 2 := by decide +kernel
set_option maxRecDepth 100000 in
set_option maxHeartbeats 4000000 in
theorem ct_X3_changeSetting (l : Launch) (G : va_G) (T : Nat → ClassId) (b : Nat) (z : Nat → Nat) (a1 : Int32) (a2 : Int32) (x : mm_M) {x1 : mm_M} {r : Int32} (h : fn_X3_changeSetting a1 a2 x = some (x1, r)) : mm_Ci l yX3_changeSetting wsX3_changeSetting rm_X3_changeSetting G T b z [.ref (b + 1), .int a1, .int a2] x r x1 := by
  unfold fn_X3_changeSetting at h
  refine mm_start (cc := cX3_changeSetting) (maxL := 4) (ret := (some .int)) (by decide) rfl (Nat.le_of_ble_eq_true rfl) (fun p e s m below meth c ls C hr hlk hH hl => ?_)
  have hl : lv_has ls 4 [(0, .ref (b + 1)), (1, .int a1), (2, .int a2)] := hl
  have hx := C.1
  have hb := C.2.1
  have w1 := C.2.2.2.2.1 (.fieldLink RX3 18 "LandingFines$River" "settings" "[I") (by decide +kernel)
  have hin3 : ∀ w ∈ wsX30, w ∈ wsX3_changeSetting := by decide +kernel
  refine lv_iload_n hx hb dX3_changeSetting_0 rfl (lv_at hl 1 rfl) ?_
  refine lv_if_lt (tgt := 13) hx hb dX3_changeSetting_1 (by decide) (fun c1 => ?_) (fun c1 => ?_)
  · have h := mm_pos c1 h
    have hl := lv_sub (l' := []) hl [] rfl
    refine lv_bipush (v := (-2)) hx hb dX3_changeSetting_13 (by decide) ?_
    exact mm_iret C hH hr hlk rfl h dX3_changeSetting_15
  · have h := mm_neg c1 h
    refine lv_iload_n hx hb dX3_changeSetting_4 rfl (lv_at hl 1 rfl) ?_
    refine lv_aload_n hx hb dX3_changeSetting_5 rfl (lv_at hl 0 rfl) ?_
    refine mm_get (v := .ref (b + 2)) C hH hin3 rfl kl_1 (mm_e3 kd_1) (j := 0) (by decide) rfl w1 rfl dX3_changeSetting_6 ?_
    refine mm_alen (v := 7) C hH kl_2 (mm_e6 kd_2) 0 rfl rfl dX3_changeSetting_9 ?_
    refine lv_icmp_lt (tgt := 16) hx hb dX3_changeSetting_10 (by decide) (fun c2 => ?_) (fun c2 => ?_)
    · have h := mm_pos c2 h
      refine lv_iload_n hx hb dX3_changeSetting_16 rfl (lv_at hl 2 rfl) ?_
      refine mm_gets (i := 0) C rfl hH (by decide) rfl dX3_changeSetting_17 ?_
      refine lv_iload_n hx hb dX3_changeSetting_20 rfl (lv_at hl 1 rfl) ?_
      obtain ⟨g1, h⟩ := mm_grn h
      refine mm_sld (i := 0) C hH (by decide) g1 dX3_changeSetting_21 ?_
      refine lv_icmp_lt (tgt := 34) hx hb dX3_changeSetting_22 (by decide) (fun c3 => ?_) (fun c3 => ?_)
      · have h := mm_pos c3 h
        have hl := lv_sub (l' := []) hl [] rfl
        refine lv_bipush (v := (-2)) hx hb dX3_changeSetting_34 (by decide) ?_
        exact mm_iret C hH hr hlk rfl h dX3_changeSetting_36
      · have h := mm_neg c3 h
        refine lv_iload_n hx hb dX3_changeSetting_25 rfl (lv_at hl 2 rfl) ?_
        refine mm_gets (i := 1) C rfl hH (by decide) rfl dX3_changeSetting_26 ?_
        refine lv_iload_n hx hb dX3_changeSetting_29 rfl (lv_at hl 1 rfl) ?_
        obtain ⟨g2, h⟩ := mm_grn h
        refine mm_sld (i := 1) C hH (by decide) g2 dX3_changeSetting_30 ?_
        refine lv_icmp_le (tgt := 37) hx hb dX3_changeSetting_31 (by decide) (fun c4 => ?_) (fun c4 => ?_)
        · have h := mm_pos c4 h
          refine lv_aload_n hx hb dX3_changeSetting_37 rfl (lv_at hl 0 rfl) ?_
          refine mm_get (v := .ref (b + 2)) C hH hin3 rfl kl_1 (mm_e3 kd_1) (j := 0) (by decide) rfl w1 rfl dX3_changeSetting_38 ?_
          refine lv_iload_n hx hb dX3_changeSetting_41 rfl (lv_at hl 1 rfl) ?_
          obtain ⟨g3, h⟩ := mm_grn h
          refine mm_iald (n := 7) (jn := (Int32.toNatClampNeg a1)) C hH kd_2 ln_2 g3 rfl dX3_changeSetting_42 ?_
          obtain ⟨v1, e1, h⟩ := mm_bnd h
          refine mm_nmi e1 ?_
          refine lv_istore_n (lv' := [(3, .int v1), (0, .ref (b + 1)), (1, .int a1), (2, .int a2)]) hx hb dX3_changeSetting_43 rfl hl (by decide) rfl (fun ls hl => ?_)
          refine lv_aload_n hx hb dX3_changeSetting_44 rfl (lv_at hl 1 rfl) ?_
          refine mm_get (v := .ref (b + 2)) C hH hin3 rfl kl_1 (mm_e3 kd_1) (j := 0) (by decide) rfl w1 rfl dX3_changeSetting_45 ?_
          refine lv_iload_n hx hb dX3_changeSetting_48 rfl (lv_at hl 2 rfl) ?_
          refine lv_iload_n hx hb dX3_changeSetting_49 rfl (lv_at hl 3 rfl) ?_
          obtain ⟨g4, h⟩ := mm_grn h
          obtain ⟨x1, e2, h⟩ := mm_bnd h
          refine mm_iast (n := 7) (jn := (Int32.toNatClampNeg a1)) C hH kd_2 ln_2 g4 rfl (Option.some.inj e2) dX3_changeSetting_50 (fun H locs hH => ?_)
          refine lv_iload_n hx hb dX3_changeSetting_51 rfl (lv_at hl 0 rfl) ?_
          exact mm_iret C hH hr hlk rfl h dX3_changeSetting_52
        · have h := mm_neg c4 h
          have hl := lv_sub (l' := []) hl [] rfl
          refine lv_bipush (v := (-2)) hx hb dX3_changeSetting_34 (by decide) ?_
          exact mm_iret C hH hr hlk rfl h dX3_changeSetting_36
    · have h := mm_neg c2 h
      have hl := lv_sub (l' := []) hl [] rfl
      refine lv_bipush (v := (-2)) hx hb dX3_changeSetting_13 (by decide) ?_
      exact mm_iret C hH hr hlk rfl h dX3_changeSetting_15
def fn_X3_followTaken_5 : Nat → Int32 → Int32 → mm_M → Option Int32
  | 0, _, _, _ => none
  | n + 1, i1, i2, x => if (x 1 2) ≤ i2 then some (i1) else if i2 < 0 ∨ 8 ≤ Int32.toNatClampNeg i2 then none else (fn_X1_canBeTaken (3 + 5 + Int32.toNatClampNeg i2) x).bind fun v1 => if v1 = 0 then (some (i2 + 1)).bind fun v2 => fn_X3_followTaken_5 n  i1 v2 x else if i1 < 0 then (some (i2 + 1)).bind fun v3 => fn_X3_followTaken_5 n  i2 v3 x else if i2 < 0 ∨ 8 ≤ Int32.toNatClampNeg i2 then none else if i1 < 0 ∨ 8 ≤ Int32.toNatClampNeg i1 then none else if (x (3 + 5 + Int32.toNatClampNeg i1) 1) ≤ (x (3 + 5 + Int32.toNatClampNeg i2) 1) then (some (i2 + 1)).bind fun v4 => fn_X3_followTaken_5 n  i1 v4 x else (some (i2 + 1)).bind fun v5 => fn_X3_followTaken_5 n  i2 v5 x
def fn_X3_followTaken  (x : mm_M) : Option mm_M :=
  (fn_X3_followTaken_5 9 (-6) 0 x).bind fun v1 => if v1 = (x 1 4) then some x else (some (mm_up x 1 4 v1)).bind fun x1 => (some (mm_up x1 1 5 ((x1 1 5) + 1))).bind fun x2 => some x2
abbrev rm_X3_followTaken : Room := { frames := 1, cells := 0, slots := 0, locals := 20 }
theorem df_X3_followTaken : yX3_followTaken.cls = RX3 ∧ yX3_followTaken.cls ≠ "java/lang/invoke/MethodHandle" ∧ yX3_followTaken.cls ≠ "java/lang/invoke/VarHandle" ∧ (parseMethodDescriptor yX3_followTaken.desc).map (fun d => d.parameters.length) = some 0 := by decide +kernel
set_option maxRecDepth 100000 in
set_option maxHeartbeats 4000000 in
theorem lp_X3_followTaken_5 {p : Program} {l : Launch} {e : Env} {s : State} {m : MethodId} {args : Array Value} {below : List Frame} {meth : Method} {c : Code} {Q : State → Prop} {G : va_G} {T : Nat → ClassId} {b : Nat} {z : Nat → Nat} (C : mm_C p m c cX3_followTaken 3 s args wsX3_followTaken RX3 G T b z)  : ∀ (n : Nat) (i1 : Int32) (i2 : Int32) (x : mm_M) (H : Heap) (locs : List Loc) (ls : Array Slot) (r1 : Int32), fn_X3_followTaken_5 n i1 i2 x = some (r1) → mm_H G T b x s H locs → lv_has ls 3 [(0, .ref (b + 1)), (1, .int i1), (2, .int i2)] → (∀ (H1 : Heap) (locs1 : List Loc) (ls1 : Array Slot), mm_H G T b x s H1 locs1 → lv_has ls1 3 [(0, .ref (b + 1)), (1, .int r1)] → W p l e rm_X3_followTaken s m args below meth c H1 locs1 0 0 Q (F0 m 58 ls1 [])) → W p l e rm_X3_followTaken s m args below meth c H locs 0 0 Q (F0 m 5 ls []) := by
  have hx := C.1
  have hb := C.2.1
  have w1 := C.2.2.2.2.1 (.fieldLink RX3 29 "LandingFines$River" "landingCount" "I") (by decide +kernel)
  have w2 := C.2.2.2.2.1 (.fieldLink RX3 25 "LandingFines$River" "landings" "[LLandingFines$Landing;") (by decide +kernel)
  have w3 := C.2.2.2.2.1 (.fieldLink RX3 88 "LandingFines$Landing" "fare" "I") (by decide +kernel)
  have hin1 : ∀ w ∈ wsX10, w ∈ wsX3_followTaken := by decide +kernel
  have hin3 : ∀ w ∈ wsX30, w ∈ wsX3_followTaken := by decide +kernel
  intro n
  induction n with
  | zero => intro _ _ _ _ _ _ _ h; cases (show (none : Option Int32) = some _ from h)
  | succ n ih =>
    intro i1 i2 x H locs ls r1 h hH hl kk
    rw [fn_X3_followTaken_5] at h
    refine lv_iload_n hx hb dX3_followTaken_5 rfl (lv_at hl 2 rfl) ?_
    refine lv_aload_n hx hb dX3_followTaken_6 rfl (lv_at hl 0 rfl) ?_
    refine mm_get (v := .int (x 1 2)) C hH hin3 rfl kl_1 (mm_e3 kd_1) (j := 2) (by decide) rfl w1 rfl dX3_followTaken_7 ?_
    refine lv_icmp_ge (tgt := 58) hx hb dX3_followTaken_10 (by decide) (fun c1 => ?_) (fun c1 => ?_)
    · have h := mm_pos c1 h
      have hl := lv_sub (l' := [(0, .ref (b + 1)), (1, .int i1)]) hl [0, 1] rfl
      cases h
      exact kk _ _ _ hH (lv_sub hl [0, 1] rfl)
    · have h := mm_neg c1 h
      refine lv_aload_n hx hb dX3_followTaken_13 rfl (lv_at hl 0 rfl) ?_
      refine mm_get (v := .ref (b + 3)) C hH hin3 rfl kl_1 (mm_e3 kd_1) (j := 1) (by decide) rfl w2 rfl dX3_followTaken_14 ?_
      refine lv_iload_n hx hb dX3_followTaken_17 rfl (lv_at hl 2 rfl) ?_
      obtain ⟨g1, h⟩ := mm_grn h
      refine mm_ald9 C hH kd_3 g1 dX3_followTaken_18 ?_
      obtain ⟨v1, e1, h⟩ := mm_bnd h
      refine mm_goi hH (va_runV (As := []) (rest := []) ⟨hx, hb, C.2.2.1, C.2.2.2.1, C.2.2.2.2.1⟩ (ct_X1_canBeTaken l G T b z (3 + 5 + Int32.toNatClampNeg i2) x e1) (cwV 0 C.2.2.2.2.1 gX3_followTaken_X1_canBeTaken rfl rfl rfl df_X1_canBeTaken ⟨Nat.le_of_ble_eq_true rfl, Nat.le_of_ble_eq_true rfl⟩) ⟨mm_B.blind, mm_recv (q := (RX1, TX1, 8)) C hH (mm_lt (mm_ldc g1) (by decide)) (mm_e1 (mm_ldc g1)) rfl, mm_pre C hH⟩ rfl rfl hl.1 rfl (lv_room (Nat.le_of_ble_eq_true rfl)) dX3_followTaken_19 ⟨Nat.zero_le _, Nat.zero_le _⟩) (fun H locs hH => ?_)
      refine lv_if_eq (tgt := 52) hx hb dX3_followTaken_22 (by decide) (fun c2 => ?_) (fun c2 => ?_)
      · have h := mm_pos c2 h
        obtain ⟨v2, e2, h⟩ := mm_bnd h
        refine lv_iinc (v := v2) (lv' := [(2, .int v2), (0, .ref (b + 1)), (1, .int i1)]) hx hb dX3_followTaken_52 hl (k := 2) rfl (Option.some.inj e2) (by decide) rfl (fun ls hl => ?_)
        refine lv_goto (tgt := 5) hx hb dX3_followTaken_55 (by decide) ?_
        exact ih i1 v2 x _ _ _ _ h hH (lv_sub hl [1, 2, 0] rfl) kk
      · have h := mm_neg c2 h
        refine lv_iload_n hx hb dX3_followTaken_25 rfl (lv_at hl 1 rfl) ?_
        refine lv_if_lt (tgt := 50) hx hb dX3_followTaken_26 (by decide) (fun c3 => ?_) (fun c3 => ?_)
        · have h := mm_pos c3 h
          have hl := lv_sub (l' := [(0, .ref (b + 1)), (2, .int i2)]) hl [0, 2] rfl
          refine lv_iload_n hx hb dX3_followTaken_50 rfl (lv_at hl 1 rfl) ?_
          refine lv_istore_n (lv' := [(1, .int i2), (0, .ref (b + 1)), (2, .int i2)]) hx hb dX3_followTaken_51 rfl hl (by decide) rfl (fun ls hl => ?_)
          obtain ⟨v3, e3, h⟩ := mm_bnd h
          refine lv_iinc (v := v3) (lv' := [(2, .int v3), (1, .int i2), (0, .ref (b + 1))]) hx hb dX3_followTaken_52 hl (k := 2) rfl (Option.some.inj e3) (by decide) rfl (fun ls hl => ?_)
          refine lv_goto (tgt := 5) hx hb dX3_followTaken_55 (by decide) ?_
          exact ih i2 v3 x _ _ _ _ h hH (lv_sub hl [2, 1, 0] rfl) kk
        · have h := mm_neg c3 h
          refine lv_aload_n hx hb dX3_followTaken_29 rfl (lv_at hl 0 rfl) ?_
          refine mm_get (v := .ref (b + 3)) C hH hin3 rfl kl_1 (mm_e3 kd_1) (j := 1) (by decide) rfl w2 rfl dX3_followTaken_30 ?_
          refine lv_iload_n hx hb dX3_followTaken_33 rfl (lv_at hl 2 rfl) ?_
          obtain ⟨g2, h⟩ := mm_grn h
          refine mm_ald9 C hH kd_3 g2 dX3_followTaken_34 ?_
          refine mm_get (v := .int (x (3 + 5 + Int32.toNatClampNeg i2) 1)) C hH hin1 rfl (mm_lt (mm_ldc g2) (by decide)) (mm_e1 (mm_ldc g2)) (j := 1) (by decide) rfl w3 rfl dX3_followTaken_35 ?_
          refine lv_aload_n hx hb dX3_followTaken_38 rfl (lv_at hl 0 rfl) ?_
          refine mm_get (v := .ref (b + 3)) C hH hin3 rfl kl_1 (mm_e3 kd_1) (j := 1) (by decide) rfl w2 rfl dX3_followTaken_39 ?_
          refine lv_iload_n hx hb dX3_followTaken_42 rfl (lv_at hl 1 rfl) ?_
          obtain ⟨g3, h⟩ := mm_grn h
          refine mm_ald9 C hH kd_3 g3 dX3_followTaken_43 ?_
          refine mm_get (v := .int (x (3 + 5 + Int32.toNatClampNeg i1) 1)) C hH hin1 rfl (mm_lt (mm_ldc g3) (by decide)) (mm_e1 (mm_ldc g3)) (j := 1) (by decide) rfl w3 rfl dX3_followTaken_44 ?_
          refine lv_icmp_ge (tgt := 52) hx hb dX3_followTaken_47 (by decide) (fun c4 => ?_) (fun c4 => ?_)
          · have h := mm_pos c4 h
            obtain ⟨v4, e4, h⟩ := mm_bnd h
            refine lv_iinc (v := v4) (lv' := [(2, .int v4), (0, .ref (b + 1)), (1, .int i1)]) hx hb dX3_followTaken_52 hl (k := 2) rfl (Option.some.inj e4) (by decide) rfl (fun ls hl => ?_)
            refine lv_goto (tgt := 5) hx hb dX3_followTaken_55 (by decide) ?_
            exact ih i1 v4 x _ _ _ _ h hH (lv_sub hl [1, 2, 0] rfl) kk
          · have h := mm_neg c4 h
            have hl := lv_sub (l' := [(0, .ref (b + 1)), (2, .int i2)]) hl [0, 2] rfl
            refine lv_iload_n hx hb dX3_followTaken_50 rfl (lv_at hl 1 rfl) ?_
            refine lv_istore_n (lv' := [(1, .int i2), (0, .ref (b + 1)), (2, .int i2)]) hx hb dX3_followTaken_51 rfl hl (by decide) rfl (fun ls hl => ?_)
            obtain ⟨v5, e5, h⟩ := mm_bnd h
            refine lv_iinc (v := v5) (lv' := [(2, .int v5), (1, .int i2), (0, .ref (b + 1))]) hx hb dX3_followTaken_52 hl (k := 2) rfl (Option.some.inj e5) (by decide) rfl (fun ls hl => ?_)
            refine lv_goto (tgt := 5) hx hb dX3_followTaken_55 (by decide) ?_
            exact ih i2 v5 x _ _ _ _ h hH (lv_sub hl [2, 1, 0] rfl) kk
set_option maxRecDepth 100000 in
set_option maxHeartbeats 4000000 in
theorem ct_X3_followTaken (l : Launch) (G : va_G) (T : Nat → ClassId) (b : Nat) (z : Nat → Nat)  (x : mm_M) {x1 : mm_M} (h : fn_X3_followTaken  x = some x1) : mm_Cv l yX3_followTaken wsX3_followTaken rm_X3_followTaken G T b z [.ref (b + 1)] x x1 := by
  unfold fn_X3_followTaken at h
  refine mm_start (cc := cX3_followTaken) (maxL := 3) (ret := none) (by decide) rfl (Nat.le_of_ble_eq_true rfl) (fun p e s m below meth c ls C hr hlk hH hl => ?_)
  have hl : lv_has ls 3 [(0, .ref (b + 1))] := hl
  have hx := C.1
  have hb := C.2.1
  have w1 := C.2.2.2.2.1 (.fieldLink RX3 36 "LandingFines$River" "taken" "I") (by decide +kernel)
  have w2 := C.2.2.2.2.1 (.fieldLink RX3 39 "LandingFines$River" "switches" "I") (by decide +kernel)
  have hin3 : ∀ w ∈ wsX30, w ∈ wsX3_followTaken := by decide +kernel
  refine lv_bipush (v := (-6)) hx hb dX3_followTaken_0 (by decide) ?_
  refine lv_istore_n (lv' := [(1, .int (-6)), (0, .ref (b + 1))]) hx hb dX3_followTaken_2 rfl hl (by decide) rfl (fun ls hl => ?_)
  refine lv_iconst (v := 0) hx hb dX3_followTaken_3 (by decide) ?_
  refine lv_istore_n (lv' := [(2, .int 0), (1, .int (-6)), (0, .ref (b + 1))]) hx hb dX3_followTaken_4 rfl hl (by decide) rfl (fun ls hl => ?_)
  obtain ⟨v1, e1, h⟩ := mm_bnd h
  refine lp_X3_followTaken_5 C 9 (-6) 0 x _ _ _ _ e1 hH (lv_sub hl [2, 1, 0] rfl) (fun H locs ls hH hl => ?_)
  refine lv_iload_n hx hb dX3_followTaken_58 rfl (lv_at hl 1 rfl) ?_
  refine lv_aload_n hx hb dX3_followTaken_59 rfl (lv_at hl 0 rfl) ?_
  refine mm_get (v := .int (x 1 4)) C hH hin3 rfl kl_1 (mm_e3 kd_1) (j := 4) (by decide) rfl w1 rfl dX3_followTaken_60 ?_
  refine lv_icmp_eq (tgt := 81) hx hb dX3_followTaken_63 (by decide) (fun c1 => ?_) (fun c1 => ?_)
  · have h := mm_pos c1 h
    have hl := lv_sub (l' := []) hl [] rfl
    exact mm_vret C hH hr hlk h dX3_followTaken_81
  · have h := mm_neg c1 h
    refine lv_aload_n hx hb dX3_followTaken_66 rfl (lv_at hl 0 rfl) ?_
    refine lv_iload_n hx hb dX3_followTaken_67 rfl (lv_at hl 1 rfl) ?_
    obtain ⟨x1, e2, h⟩ := mm_bnd h
    refine mm_put (ty := .int) C hH hin3 tyX3_ok nmX3 rfl kl_1 (mm_e3 kd_1) (j := 4) (by decide) rfl w1 pd_I rfl rfl (Nat.le_of_ble_eq_true rfl) (sp_3_4 kd_1) (Option.some.inj e2) dX3_followTaken_68 (fun H locs hH => ?_)
    refine lv_aload_n hx hb dX3_followTaken_71 rfl (lv_at hl 0 rfl) ?_
    refine lv_dup hx hb dX3_followTaken_72 rfl ?_
    refine mm_get (v := .int (x1 1 5)) C hH hin3 rfl kl_1 (mm_e3 kd_1) (j := 5) (by decide) rfl w2 rfl dX3_followTaken_73 ?_
    refine lv_iconst (v := 1) hx hb dX3_followTaken_76 (by decide) ?_
    refine lv_iadd hx hb dX3_followTaken_77 ?_
    obtain ⟨x2, e3, h⟩ := mm_bnd h
    refine mm_put (ty := .int) C hH hin3 tyX3_ok nmX3 rfl kl_1 (mm_e3 kd_1) (j := 5) (by decide) rfl w2 pd_I rfl rfl (Nat.le_of_ble_eq_true rfl) (sp_3_5 kd_1) (Option.some.inj e3) dX3_followTaken_78 (fun H locs hH => ?_)
    exact mm_vret C hH hr hlk h dX3_followTaken_81
def fn_X3_addLanding (a1 : Int32) (x : mm_M) : Option (mm_M × Int32) :=
  if a1 < 0 then some (x, (-2)) else if a1 ≤ 999 then if (x 1 2) < 8 then if (x 1 2) < 0 ∨ 8 ≤ Int32.toNatClampNeg (x 1 2) then none else (fn_X1_arrive (3 + 5 + Int32.toNatClampNeg (x 1 2)) a1 x).bind fun x1 => (some (mm_up x1 1 2 ((x1 1 2) + 1))).bind fun x2 => (fn_X3_followTaken x2).bind fun x3 => some (x3, ((x3 1 2) - 1)) else some (x, (-4)) else some (x, (-2))
abbrev rm_X3_addLanding : Room := { frames := 2, cells := 0, slots := 0, locals := 42 }
theorem df_X3_addLanding : yX3_addLanding.cls = RX3 ∧ yX3_addLanding.cls ≠ "java/lang/invoke/MethodHandle" ∧ yX3_addLanding.cls ≠ "java/lang/invoke/VarHandle" ∧ (parseMethodDescriptor yX3_addLanding.desc).map (fun d => d.parameters.length) = some 1 := by decide +kernel
set_option maxRecDepth 100000 in
set_option maxHeartbeats 4000000 in
theorem ct_X3_addLanding (l : Launch) (G : va_G) (T : Nat → ClassId) (b : Nat) (z : Nat → Nat) (a1 : Int32) (x : mm_M) {x1 : mm_M} {r : Int32} (h : fn_X3_addLanding a1 x = some (x1, r)) : mm_Ci l yX3_addLanding wsX3_addLanding rm_X3_addLanding G T b z [.ref (b + 1), .int a1] x r x1 := by
  unfold fn_X3_addLanding at h
  refine mm_start (cc := cX3_addLanding) (maxL := 2) (ret := (some .int)) (by decide) rfl (Nat.le_of_ble_eq_true rfl) (fun p e s m below meth c ls C hr hlk hH hl => ?_)
  have hl : lv_has ls 2 [(0, .ref (b + 1)), (1, .int a1)] := hl
  have hx := C.1
  have hb := C.2.1
  have w1 := C.2.2.2.2.1 (.fieldLink RX3 29 "LandingFines$River" "landingCount" "I") (by decide +kernel)
  have w2 := C.2.2.2.2.1 (.fieldLink RX3 25 "LandingFines$River" "landings" "[LLandingFines$Landing;") (by decide +kernel)
  have hin3 : ∀ w ∈ wsX30, w ∈ wsX3_addLanding := by decide +kernel
  refine lv_iload_n hx hb dX3_addLanding_0 rfl (lv_at hl 1 rfl) ?_
  refine lv_if_lt (tgt := 11) hx hb dX3_addLanding_1 (by decide) (fun c1 => ?_) (fun c1 => ?_)
  · have h := mm_pos c1 h
    have hl := lv_sub (l' := []) hl [] rfl
    refine lv_bipush (v := (-2)) hx hb dX3_addLanding_11 (by decide) ?_
    exact mm_iret C hH hr hlk rfl h dX3_addLanding_13
  · have h := mm_neg c1 h
    refine lv_iload_n hx hb dX3_addLanding_4 rfl (lv_at hl 1 rfl) ?_
    refine lv_sipush (v := 999) hx hb dX3_addLanding_5 (by decide) ?_
    refine lv_icmp_le (tgt := 14) hx hb dX3_addLanding_8 (by decide) (fun c2 => ?_) (fun c2 => ?_)
    · have h := mm_pos c2 h
      refine lv_aload_n hx hb dX3_addLanding_14 rfl (lv_at hl 0 rfl) ?_
      refine mm_get (v := .int (x 1 2)) C hH hin3 rfl kl_1 (mm_e3 kd_1) (j := 2) (by decide) rfl w1 rfl dX3_addLanding_15 ?_
      refine lv_bipush (v := 8) hx hb dX3_addLanding_18 (by decide) ?_
      refine lv_icmp_lt (tgt := 26) hx hb dX3_addLanding_20 (by decide) (fun c3 => ?_) (fun c3 => ?_)
      · have h := mm_pos c3 h
        refine lv_aload_n hx hb dX3_addLanding_26 rfl (lv_at hl 0 rfl) ?_
        refine mm_get (v := .ref (b + 3)) C hH hin3 rfl kl_1 (mm_e3 kd_1) (j := 1) (by decide) rfl w2 rfl dX3_addLanding_27 ?_
        refine lv_aload_n hx hb dX3_addLanding_30 rfl (lv_at hl 0 rfl) ?_
        refine mm_get (v := .int (x 1 2)) C hH hin3 rfl kl_1 (mm_e3 kd_1) (j := 2) (by decide) rfl w1 rfl dX3_addLanding_31 ?_
        obtain ⟨g1, h⟩ := mm_grn h
        refine mm_ald9 C hH kd_3 g1 dX3_addLanding_34 ?_
        refine lv_iload_n hx hb dX3_addLanding_35 rfl (lv_at hl 1 rfl) ?_
        obtain ⟨x1, e1, h⟩ := mm_bnd h
        refine mm_gov hH (va_runV (As := [.int a1]) (rest := []) ⟨hx, hb, C.2.2.1, C.2.2.2.1, C.2.2.2.2.1⟩ (ct_X1_arrive l G T b z (3 + 5 + Int32.toNatClampNeg (x 1 2)) a1 x e1) (cwV 1 C.2.2.2.2.1 gX3_addLanding_X1_arrive rfl rfl rfl df_X1_arrive ⟨Nat.le_of_ble_eq_true rfl, Nat.le_of_ble_eq_true rfl⟩) ⟨mm_B.blind, mm_recv (q := (RX1, TX1, 8)) C hH (mm_lt (mm_ldc g1) (by decide)) (mm_e1 (mm_ldc g1)) rfl, mm_pre C hH⟩ rfl rfl hl.1 rfl (lv_room (Nat.le_of_ble_eq_true rfl)) dX3_addLanding_36 ⟨Nat.zero_le _, Nat.zero_le _⟩) (fun H locs hH => ?_)
        refine lv_aload_n hx hb dX3_addLanding_39 rfl (lv_at hl 0 rfl) ?_
        refine lv_dup hx hb dX3_addLanding_40 rfl ?_
        refine mm_get (v := .int (x1 1 2)) C hH hin3 rfl kl_1 (mm_e3 kd_1) (j := 2) (by decide) rfl w1 rfl dX3_addLanding_41 ?_
        refine lv_iconst (v := 1) hx hb dX3_addLanding_44 (by decide) ?_
        refine lv_iadd hx hb dX3_addLanding_45 ?_
        obtain ⟨x2, e2, h⟩ := mm_bnd h
        refine mm_put (ty := .int) C hH hin3 tyX3_ok nmX3 rfl kl_1 (mm_e3 kd_1) (j := 2) (by decide) rfl w1 pd_I rfl rfl (Nat.le_of_ble_eq_true rfl) (sp_3_2 kd_1) (Option.some.inj e2) dX3_addLanding_46 (fun H locs hH => ?_)
        refine lv_aload_n hx hb dX3_addLanding_49 rfl (lv_at hl 0 rfl) ?_
        obtain ⟨x3, e3, h⟩ := mm_bnd h
        refine mm_gov hH (va_runV (As := []) (rest := []) ⟨hx, hb, C.2.2.1, C.2.2.2.1, C.2.2.2.2.1⟩ (ct_X3_followTaken l G T b z x2 e3) (cwV 0 C.2.2.2.2.1 gX3_addLanding_X3_followTaken rfl rfl rfl df_X3_followTaken ⟨Nat.le_of_ble_eq_true rfl, Nat.le_of_ble_eq_true rfl⟩) ⟨mm_B.blind, mm_recv (q := (RX3, TX3, 7)) C hH kl_1 (mm_e3 kd_1) rfl, mm_pre C hH⟩ rfl rfl hl.1 rfl (lv_room (Nat.le_of_ble_eq_true rfl)) dX3_addLanding_50 ⟨Nat.zero_le _, Nat.zero_le _⟩) (fun H locs hH => ?_)
        refine lv_aload_n hx hb dX3_addLanding_53 rfl (lv_at hl 0 rfl) ?_
        refine mm_get (v := .int (x3 1 2)) C hH hin3 rfl kl_1 (mm_e3 kd_1) (j := 2) (by decide) rfl w1 rfl dX3_addLanding_54 ?_
        refine lv_iconst (v := 1) hx hb dX3_addLanding_57 (by decide) ?_
        refine lv_isub hx hb dX3_addLanding_58 ?_
        exact mm_iret C hH hr hlk rfl h dX3_addLanding_59
      · have h := mm_neg c3 h
        have hl := lv_sub (l' := []) hl [] rfl
        refine lv_bipush (v := (-4)) hx hb dX3_addLanding_23 (by decide) ?_
        exact mm_iret C hH hr hlk rfl h dX3_addLanding_25
    · have h := mm_neg c2 h
      have hl := lv_sub (l' := []) hl [] rfl
      refine lv_bipush (v := (-2)) hx hb dX3_addLanding_11 (by decide) ?_
      exact mm_iret C hH hr hlk rfl h dX3_addLanding_13
def fn_X3_fineBySort (k1 : Nat) (a2 : Int32) (x : mm_M) : Option (mm_M × Int32) :=
  if mm_kd k1 = 1 then if a2 < 0 ∨ 7 ≤ Int32.toNatClampNeg a2 then none else mm_b2 (fn_X1_addFine k1 (x 2 (Int32.toNatClampNeg a2)) (x 2 4) x) fun x1 v1 => if vp_nar .boolean v1 = v1 then some (x1, v1) else none else none
abbrev rm_X3_fineBySort : Room := { frames := 2, cells := 0, slots := 0, locals := 43 }
theorem df_X3_fineBySort : yX3_fineBySort.cls = RX3 ∧ yX3_fineBySort.cls ≠ "java/lang/invoke/MethodHandle" ∧ yX3_fineBySort.cls ≠ "java/lang/invoke/VarHandle" ∧ (parseMethodDescriptor yX3_fineBySort.desc).map (fun d => d.parameters.length) = some 2 := by decide +kernel
set_option maxRecDepth 100000 in
set_option maxHeartbeats 4000000 in
theorem ct_X3_fineBySort (l : Launch) (G : va_G) (T : Nat → ClassId) (b : Nat) (z : Nat → Nat) (k1 : Nat) (a2 : Int32) (x : mm_M) {x1 : mm_M} {r : Int32} (h : fn_X3_fineBySort k1 a2 x = some (x1, r)) : mm_Ci l yX3_fineBySort wsX3_fineBySort rm_X3_fineBySort G T b z [.ref (b + 1), .ref (b + k1), .int a2] x r x1 := by
  unfold fn_X3_fineBySort at h
  refine mm_start (cc := cX3_fineBySort) (maxL := 3) (ret := (some .boolean)) (by decide) rfl (Nat.le_of_ble_eq_true rfl) (fun p e s m below meth c ls C hr hlk hH hl => ?_)
  have hl : lv_has ls 3 [(0, .ref (b + 1)), (1, .ref (b + k1)), (2, .int a2)] := hl
  have hx := C.1
  have hb := C.2.1
  have w1 := C.2.2.2.2.1 (.fieldLink RX3 18 "LandingFines$River" "settings" "[I") (by decide +kernel)
  have hin3 : ∀ w ∈ wsX30, w ∈ wsX3_fineBySort := by decide +kernel
  obtain ⟨hk1, h⟩ := mm_grd h
  have hk1l := mm_lt hk1 (by decide)
  refine lv_aload_n hx hb dX3_fineBySort_0 rfl (lv_at hl 1 rfl) ?_
  refine lv_aload_n hx hb dX3_fineBySort_1 rfl (lv_at hl 0 rfl) ?_
  refine mm_get (v := .ref (b + 2)) C hH hin3 rfl kl_1 (mm_e3 kd_1) (j := 0) (by decide) rfl w1 rfl dX3_fineBySort_2 ?_
  refine lv_iload_n hx hb dX3_fineBySort_5 rfl (lv_at hl 2 rfl) ?_
  obtain ⟨g1, h⟩ := mm_grn h
  refine mm_iald (n := 7) (jn := (Int32.toNatClampNeg a2)) C hH kd_2 ln_2 g1 rfl dX3_fineBySort_6 ?_
  refine lv_aload_n hx hb dX3_fineBySort_7 rfl (lv_at hl 0 rfl) ?_
  refine mm_get (v := .ref (b + 2)) C hH hin3 rfl kl_1 (mm_e3 kd_1) (j := 0) (by decide) rfl w1 rfl dX3_fineBySort_8 ?_
  refine lv_iconst (v := 4) hx hb dX3_fineBySort_11 (by decide) ?_
  refine mm_iald (n := 7) (jn := 4) C hH kd_2 ln_2 (by decide) (by decide) dX3_fineBySort_12 ?_
  obtain ⟨x1, v1, e1, h⟩ := mm_bnd2 h
  refine mm_goi hH (va_runV (As := [.int (x 2 (Int32.toNatClampNeg a2)), .int (x 2 4)]) (rest := []) ⟨hx, hb, C.2.2.1, C.2.2.2.1, C.2.2.2.2.1⟩ (ct_X1_addFine l G T b z k1 (x 2 (Int32.toNatClampNeg a2)) (x 2 4) x e1) (cwV 2 C.2.2.2.2.1 gX3_fineBySort_X1_addFine rfl rfl rfl df_X1_addFine ⟨Nat.le_of_ble_eq_true rfl, Nat.le_of_ble_eq_true rfl⟩) ⟨mm_B.blind, mm_recv (q := (RX1, TX1, 8)) C hH hk1l (mm_e1 hk1) rfl, mm_pre C hH⟩ rfl rfl hl.1 rfl (lv_room (Nat.le_of_ble_eq_true rfl)) dX3_fineBySort_13 ⟨Nat.zero_le _, Nat.zero_le _⟩) (fun H locs hH => ?_)
  obtain ⟨g2, h⟩ := mm_grd h
  exact mm_iret C hH hr hlk (mm_narZ g2) h dX3_fineBySort_16
def fn_X3_finishChange (k1 : Nat) (a2 : Int32) (a3 : Int32) (x : mm_M) : Option (mm_M × Int32) :=
  if mm_kd k1 = 1 then (fn_X0_add a3 a2 (x 1 3) x).bind fun x1 => mm_b2 (fn_X3_fineBySort k1 a3 x1) fun x2 v1 => if v1 = 0 then (fn_X3_followTaken x2).bind fun x3 => some (x3, (x3 k1 2)) else (fn_X0_add 3 a2 (x2 1 3) x2).bind fun x4 => (fn_X3_followTaken x4).bind fun x5 => some (x5, (x5 k1 2)) else none
abbrev rm_X3_finishChange : Room := { frames := 3, cells := 0, slots := 0, locals := 65 }
theorem df_X3_finishChange : yX3_finishChange.cls = RX3 ∧ yX3_finishChange.cls ≠ "java/lang/invoke/MethodHandle" ∧ yX3_finishChange.cls ≠ "java/lang/invoke/VarHandle" ∧ (parseMethodDescriptor yX3_finishChange.desc).map (fun d => d.parameters.length) = some 3 := by decide +kernel
set_option maxRecDepth 100000 in
set_option maxHeartbeats 4000000 in
theorem ct_X3_finishChange (l : Launch) (G : va_G) (T : Nat → ClassId) (b : Nat) (z : Nat → Nat) (k1 : Nat) (a2 : Int32) (a3 : Int32) (x : mm_M) {x1 : mm_M} {r : Int32} (h : fn_X3_finishChange k1 a2 a3 x = some (x1, r)) : mm_Ci l yX3_finishChange wsX3_finishChange rm_X3_finishChange G T b z [.ref (b + 1), .ref (b + k1), .int a2, .int a3] x r x1 := by
  unfold fn_X3_finishChange at h
  refine mm_start (cc := cX3_finishChange) (maxL := 4) (ret := (some .int)) (by decide) rfl (Nat.le_of_ble_eq_true rfl) (fun p e s m below meth c ls C hr hlk hH hl => ?_)
  have hl : lv_has ls 4 [(0, .ref (b + 1)), (1, .ref (b + k1)), (2, .int a2), (3, .int a3)] := hl
  have hx := C.1
  have hb := C.2.1
  have w1 := C.2.2.2.2.1 (.fieldLink RX3 45 "LandingFines$River" "journal" "LLandingFines$Journal;") (by decide +kernel)
  have w2 := C.2.2.2.2.1 (.fieldLink RX3 33 "LandingFines$River" "minutesSoFar" "I") (by decide +kernel)
  have w3 := C.2.2.2.2.1 (.fieldLink RX3 99 "LandingFines$Landing" "fine" "I") (by decide +kernel)
  have hin1 : ∀ w ∈ wsX10, w ∈ wsX3_finishChange := by decide +kernel
  have hin3 : ∀ w ∈ wsX30, w ∈ wsX3_finishChange := by decide +kernel
  obtain ⟨hk1, h⟩ := mm_grd h
  have hk1l := mm_lt hk1 (by decide)
  refine lv_aload_n hx hb dX3_finishChange_0 rfl (lv_at hl 0 rfl) ?_
  refine mm_get (v := .ref (b + 4)) C hH hin3 rfl kl_1 (mm_e3 kd_1) (j := 6) (by decide) rfl w1 rfl dX3_finishChange_1 ?_
  refine lv_iload_n hx hb dX3_finishChange_4 rfl (lv_at hl 3 rfl) ?_
  refine lv_iload_n hx hb dX3_finishChange_5 rfl (lv_at hl 2 rfl) ?_
  refine lv_aload_n hx hb dX3_finishChange_6 rfl (lv_at hl 0 rfl) ?_
  refine mm_get (v := .int (x 1 3)) C hH hin3 rfl kl_1 (mm_e3 kd_1) (j := 3) (by decide) rfl w2 rfl dX3_finishChange_7 ?_
  obtain ⟨x1, e1, h⟩ := mm_bnd h
  refine mm_gov hH (va_runV (As := [.int a3, .int a2, .int (x 1 3)]) (rest := []) ⟨hx, hb, C.2.2.1, C.2.2.2.1, C.2.2.2.2.1⟩ (ct_X0_add l G T b z a3 a2 (x 1 3) x e1) (cwV 3 C.2.2.2.2.1 gX3_finishChange_X0_add rfl rfl rfl df_X0_add ⟨Nat.le_of_ble_eq_true rfl, Nat.le_of_ble_eq_true rfl⟩) ⟨mm_B.blind, mm_recv (q := (RX0, TX0, 5)) C hH kl_4 (mm_e0 kd_4) rfl, mm_pre C hH⟩ rfl rfl hl.1 rfl (lv_room (Nat.le_of_ble_eq_true rfl)) dX3_finishChange_10 ⟨Nat.zero_le _, Nat.zero_le _⟩) (fun H locs hH => ?_)
  refine lv_aload_n hx hb dX3_finishChange_13 rfl (lv_at hl 0 rfl) ?_
  refine lv_aload_n hx hb dX3_finishChange_14 rfl (lv_at hl 1 rfl) ?_
  refine lv_iload_n hx hb dX3_finishChange_15 rfl (lv_at hl 3 rfl) ?_
  obtain ⟨x2, v1, e2, h⟩ := mm_bnd2 h
  refine mm_goi hH (va_runV (As := [.ref (b + k1), .int a3]) (rest := []) ⟨hx, hb, C.2.2.1, C.2.2.2.1, C.2.2.2.2.1⟩ (ct_X3_fineBySort l G T b z k1 a3 x1 e2) (cwV 2 C.2.2.2.2.1 gX3_finishChange_X3_fineBySort rfl rfl rfl df_X3_fineBySort ⟨Nat.le_of_ble_eq_true rfl, Nat.le_of_ble_eq_true rfl⟩) ⟨mm_B.blind, mm_recv (q := (RX3, TX3, 7)) C hH kl_1 (mm_e3 kd_1) rfl, mm_pre C hH⟩ rfl rfl hl.1 rfl (lv_room (Nat.le_of_ble_eq_true rfl)) dX3_finishChange_16 ⟨Nat.zero_le _, Nat.zero_le _⟩) (fun H locs hH => ?_)
  refine lv_if_eq (tgt := 35) hx hb dX3_finishChange_19 (by decide) (fun c1 => ?_) (fun c1 => ?_)
  · have h := mm_pos c1 h
    have hl := lv_sub (l' := [(0, .ref (b + 1)), (1, .ref (b + k1))]) hl [0, 1] rfl
    refine lv_aload_n hx hb dX3_finishChange_35 rfl (lv_at hl 0 rfl) ?_
    obtain ⟨x3, e3, h⟩ := mm_bnd h
    refine mm_gov hH (va_runV (As := []) (rest := []) ⟨hx, hb, C.2.2.1, C.2.2.2.1, C.2.2.2.2.1⟩ (ct_X3_followTaken l G T b z x2 e3) (cwV 0 C.2.2.2.2.1 gX3_finishChange_X3_followTaken rfl rfl rfl df_X3_followTaken ⟨Nat.le_of_ble_eq_true rfl, Nat.le_of_ble_eq_true rfl⟩) ⟨mm_B.blind, mm_recv (q := (RX3, TX3, 7)) C hH kl_1 (mm_e3 kd_1) rfl, mm_pre C hH⟩ rfl rfl hl.1 rfl (lv_room (Nat.le_of_ble_eq_true rfl)) dX3_finishChange_36 ⟨Nat.zero_le _, Nat.zero_le _⟩) (fun H locs hH => ?_)
    refine lv_aload_n hx hb dX3_finishChange_39 rfl (lv_at hl 1 rfl) ?_
    refine mm_get (v := .int (x3 k1 2)) C hH hin1 rfl hk1l (mm_e1 hk1) (j := 2) (by decide) rfl w3 rfl dX3_finishChange_40 ?_
    exact mm_iret C hH hr hlk rfl h dX3_finishChange_43
  · have h := mm_neg c1 h
    have hl := lv_sub (l' := [(0, .ref (b + 1)), (1, .ref (b + k1)), (2, .int a2)]) hl [0, 1, 2] rfl
    refine lv_aload_n hx hb dX3_finishChange_22 rfl (lv_at hl 0 rfl) ?_
    refine mm_get (v := .ref (b + 4)) C hH hin3 rfl kl_1 (mm_e3 kd_1) (j := 6) (by decide) rfl w1 rfl dX3_finishChange_23 ?_
    refine lv_iconst (v := 3) hx hb dX3_finishChange_26 (by decide) ?_
    refine lv_iload_n hx hb dX3_finishChange_27 rfl (lv_at hl 2 rfl) ?_
    refine lv_aload_n hx hb dX3_finishChange_28 rfl (lv_at hl 0 rfl) ?_
    refine mm_get (v := .int (x2 1 3)) C hH hin3 rfl kl_1 (mm_e3 kd_1) (j := 3) (by decide) rfl w2 rfl dX3_finishChange_29 ?_
    obtain ⟨x4, e4, h⟩ := mm_bnd h
    refine mm_gov hH (va_runV (As := [.int 3, .int a2, .int (x2 1 3)]) (rest := []) ⟨hx, hb, C.2.2.1, C.2.2.2.1, C.2.2.2.2.1⟩ (ct_X0_add l G T b z 3 a2 (x2 1 3) x2 e4) (cwV 3 C.2.2.2.2.1 gX3_finishChange_X0_add rfl rfl rfl df_X0_add ⟨Nat.le_of_ble_eq_true rfl, Nat.le_of_ble_eq_true rfl⟩) ⟨mm_B.blind, mm_recv (q := (RX0, TX0, 5)) C hH kl_4 (mm_e0 kd_4) rfl, mm_pre C hH⟩ rfl rfl hl.1 rfl (lv_room (Nat.le_of_ble_eq_true rfl)) dX3_finishChange_32 ⟨Nat.zero_le _, Nat.zero_le _⟩) (fun H locs hH => ?_)
    refine lv_aload_n hx hb dX3_finishChange_35 rfl (lv_at hl 0 rfl) ?_
    obtain ⟨x5, e5, h⟩ := mm_bnd h
    refine mm_gov hH (va_runV (As := []) (rest := []) ⟨hx, hb, C.2.2.1, C.2.2.2.1, C.2.2.2.2.1⟩ (ct_X3_followTaken l G T b z x4 e5) (cwV 0 C.2.2.2.2.1 gX3_finishChange_X3_followTaken rfl rfl rfl df_X3_followTaken ⟨Nat.le_of_ble_eq_true rfl, Nat.le_of_ble_eq_true rfl⟩) ⟨mm_B.blind, mm_recv (q := (RX3, TX3, 7)) C hH kl_1 (mm_e3 kd_1) rfl, mm_pre C hH⟩ rfl rfl hl.1 rfl (lv_room (Nat.le_of_ble_eq_true rfl)) dX3_finishChange_36 ⟨Nat.zero_le _, Nat.zero_le _⟩) (fun H locs hH => ?_)
    refine lv_aload_n hx hb dX3_finishChange_39 rfl (lv_at hl 1 rfl) ?_
    refine mm_get (v := .int (x5 k1 2)) C hH hin1 rfl hk1l (mm_e1 hk1) (j := 2) (by decide) rfl w3 rfl dX3_finishChange_40 ?_
    exact mm_iret C hH hr hlk rfl h dX3_finishChange_43
def fn_X3_openLanding (a1 : Int32) (x : mm_M) : Option (mm_M × Int32) :=
  (fn_X3_find a1 x).bind fun o1 => mm_oc o1 (some (x, (-1))) fun k1 => if mm_kd k1 = 1 then if (x k1 0) = 0 then (some (mm_up x k1 0 1)).bind fun x1 => mm_b2 (fn_X3_finishChange k1 a1 1 x1) fun x2 v1 => some (x2, v1) else some (x, (-5)) else none
abbrev rm_X3_openLanding : Room := { frames := 4, cells := 0, slots := 0, locals := 88 }
theorem df_X3_openLanding : yX3_openLanding.cls = RX3 ∧ yX3_openLanding.cls ≠ "java/lang/invoke/MethodHandle" ∧ yX3_openLanding.cls ≠ "java/lang/invoke/VarHandle" ∧ (parseMethodDescriptor yX3_openLanding.desc).map (fun d => d.parameters.length) = some 1 := by decide +kernel
set_option maxRecDepth 100000 in
set_option maxHeartbeats 4000000 in
theorem ct_X3_openLanding (l : Launch) (G : va_G) (T : Nat → ClassId) (b : Nat) (z : Nat → Nat) (a1 : Int32) (x : mm_M) {x1 : mm_M} {r : Int32} (h : fn_X3_openLanding a1 x = some (x1, r)) : mm_Ci l yX3_openLanding wsX3_openLanding rm_X3_openLanding G T b z [.ref (b + 1), .int a1] x r x1 := by
  unfold fn_X3_openLanding at h
  refine mm_start (cc := cX3_openLanding) (maxL := 3) (ret := (some .int)) (by decide) rfl (Nat.le_of_ble_eq_true rfl) (fun p e s m below meth c ls C hr hlk hH hl => ?_)
  have hl : lv_has ls 3 [(0, .ref (b + 1)), (1, .int a1)] := hl
  have hx := C.1
  have hb := C.2.1
  have w1 := C.2.2.2.2.1 (.fieldLink RX3 80 "LandingFines$Landing" "isOpen" "Z") (by decide +kernel)
  have hin1 : ∀ w ∈ wsX10, w ∈ wsX3_openLanding := by decide +kernel
  refine lv_aload_n hx hb dX3_openLanding_0 rfl (lv_at hl 0 rfl) ?_
  refine lv_iload_n hx hb dX3_openLanding_1 rfl (lv_at hl 1 rfl) ?_
  obtain ⟨o1, e1, h⟩ := mm_bnd h
  refine mm_goe hH (va_runV (As := [.int a1]) (rest := []) ⟨hx, hb, C.2.2.1, C.2.2.2.1, C.2.2.2.2.1⟩ (ct_X3_find l G T b z a1 x e1) (cwV 1 C.2.2.2.2.1 gX3_openLanding_X3_find rfl rfl rfl df_X3_find ⟨Nat.le_of_ble_eq_true rfl, Nat.le_of_ble_eq_true rfl⟩) ⟨mm_B.blind, mm_recv (q := (RX3, TX3, 7)) C hH kl_1 (mm_e3 kd_1) rfl, mm_pre C hH⟩ rfl rfl hl.1 rfl (lv_room (Nat.le_of_ble_eq_true rfl)) dX3_openLanding_2 ⟨Nat.zero_le _, Nat.zero_le _⟩) (fun H locs hH => ?_)
  rcases o1 with _ | k1
  · have h := mm_oc0 h
    refine mm_nul ?_
    refine lv_astore_nN (lv' := [(2, .null), (0, .ref (b + 1)), (1, .int a1)]) hx hb dX3_openLanding_5 rfl hl (by decide) rfl (fun ls hl => ?_)
    refine lv_aload_nN hx hb dX3_openLanding_6 rfl (lv_at hl 0 rfl) ?_
    refine lv_ifnonnullN hx hb dX3_openLanding_7 ?_
    have hl := lv_sub (l' := []) hl [] rfl
    refine lv_iconst (v := (-1)) hx hb dX3_openLanding_10 (by decide) ?_
    exact mm_iret C hH hr hlk rfl h dX3_openLanding_11
  · have h := mm_oc1 h
    obtain ⟨g1, h⟩ := mm_grd h
    refine mm_nun ?_
    refine lv_astore_n (lv' := [(2, .ref (b + k1)), (0, .ref (b + 1)), (1, .int a1)]) hx hb dX3_openLanding_5 rfl hl (by decide) rfl (fun ls hl => ?_)
    refine lv_aload_n hx hb dX3_openLanding_6 rfl (lv_at hl 0 rfl) ?_
    refine lv_ifnonnull (tgt := 12) hx hb dX3_openLanding_7 (by decide) ?_
    refine lv_aload_n hx hb dX3_openLanding_12 rfl (lv_at hl 0 rfl) ?_
    refine mm_get (v := .int (x k1 0)) C hH hin1 rfl (mm_lt g1 (by decide)) (mm_e1 g1) (j := 0) (by decide) rfl w1 rfl dX3_openLanding_13 ?_
    refine lv_if_eq (tgt := 22) hx hb dX3_openLanding_16 (by decide) (fun c1 => ?_) (fun c1 => ?_)
    · have h := mm_pos c1 h
      refine lv_aload_n hx hb dX3_openLanding_22 rfl (lv_at hl 0 rfl) ?_
      refine lv_iconst (v := 1) hx hb dX3_openLanding_23 (by decide) ?_
      obtain ⟨x1, e2, h⟩ := mm_bnd h
      refine mm_put (ty := .boolean) C hH hin1 tyX1_ok nmX1 rfl (mm_lt g1 (by decide)) (mm_e1 g1) (j := 0) (by decide) rfl w1 pd_Z rfl rfl (Nat.le_of_ble_eq_true rfl) (sp_1_0 g1) (Option.some.inj e2) dX3_openLanding_24 (fun H locs hH => ?_)
      refine lv_aload_n hx hb dX3_openLanding_27 rfl (lv_at hl 1 rfl) ?_
      refine lv_aload_n hx hb dX3_openLanding_28 rfl (lv_at hl 0 rfl) ?_
      refine lv_iload_n hx hb dX3_openLanding_29 rfl (lv_at hl 2 rfl) ?_
      refine lv_iconst (v := 1) hx hb dX3_openLanding_30 (by decide) ?_
      obtain ⟨x2, v1, e3, h⟩ := mm_bnd2 h
      refine mm_goi hH (va_runV (As := [.ref (b + k1), .int a1, .int 1]) (rest := []) ⟨hx, hb, C.2.2.1, C.2.2.2.1, C.2.2.2.2.1⟩ (ct_X3_finishChange l G T b z k1 a1 1 x1 e3) (cwV 3 C.2.2.2.2.1 gX3_openLanding_X3_finishChange rfl rfl rfl df_X3_finishChange ⟨Nat.le_of_ble_eq_true rfl, Nat.le_of_ble_eq_true rfl⟩) ⟨mm_B.blind, mm_recv (q := (RX3, TX3, 7)) C hH kl_1 (mm_e3 kd_1) rfl, mm_pre C hH⟩ rfl rfl hl.1 rfl (lv_room (Nat.le_of_ble_eq_true rfl)) dX3_openLanding_31 ⟨Nat.zero_le _, Nat.zero_le _⟩) (fun H locs hH => ?_)
      exact mm_iret C hH hr hlk rfl h dX3_openLanding_34
    · have h := mm_neg c1 h
      have hl := lv_sub (l' := []) hl [] rfl
      refine lv_bipush (v := (-5)) hx hb dX3_openLanding_19 (by decide) ?_
      exact mm_iret C hH hr hlk rfl h dX3_openLanding_21
def fn_X3_closeLanding (a1 : Int32) (x : mm_M) : Option (mm_M × Int32) :=
  (fn_X3_find a1 x).bind fun o1 => mm_oc o1 (some (x, (-1))) fun k1 => if mm_kd k1 = 1 then if (x k1 0) = 0 then some (x, (-5)) else (some (mm_up x k1 0 0)).bind fun x1 => mm_b2 (fn_X3_finishChange k1 a1 0 x1) fun x2 v1 => some (x2, v1) else none
abbrev rm_X3_closeLanding : Room := { frames := 4, cells := 0, slots := 0, locals := 88 }
theorem df_X3_closeLanding : yX3_closeLanding.cls = RX3 ∧ yX3_closeLanding.cls ≠ "java/lang/invoke/MethodHandle" ∧ yX3_closeLanding.cls ≠ "java/lang/invoke/VarHandle" ∧ (parseMethodDescriptor yX3_closeLanding.desc).map (fun d => d.parameters.length) = some 1 := by decide +kernel
set_option maxRecDepth 100000 in
set_option maxHeartbeats 4000000 in
theorem ct_X3_closeLanding (l : Launch) (G : va_G) (T : Nat → ClassId) (b : Nat) (z : Nat → Nat) (a1 : Int32) (x : mm_M) {x1 : mm_M} {r : Int32} (h : fn_X3_closeLanding a1 x = some (x1, r)) : mm_Ci l yX3_closeLanding wsX3_closeLanding rm_X3_closeLanding G T b z [.ref (b + 1), .int a1] x r x1 := by
  unfold fn_X3_closeLanding at h
  refine mm_start (cc := cX3_closeLanding) (maxL := 3) (ret := (some .int)) (by decide) rfl (Nat.le_of_ble_eq_true rfl) (fun p e s m below meth c ls C hr hlk hH hl => ?_)
  have hl : lv_has ls 3 [(0, .ref (b + 1)), (1, .int a1)] := hl
  have hx := C.1
  have hb := C.2.1
  have w1 := C.2.2.2.2.1 (.fieldLink RX3 80 "LandingFines$Landing" "isOpen" "Z") (by decide +kernel)
  have hin1 : ∀ w ∈ wsX10, w ∈ wsX3_closeLanding := by decide +kernel
  refine lv_aload_n hx hb dX3_closeLanding_0 rfl (lv_at hl 0 rfl) ?_
  refine lv_iload_n hx hb dX3_closeLanding_1 rfl (lv_at hl 1 rfl) ?_
  obtain ⟨o1, e1, h⟩ := mm_bnd h
  refine mm_goe hH (va_runV (As := [.int a1]) (rest := []) ⟨hx, hb, C.2.2.1, C.2.2.2.1, C.2.2.2.2.1⟩ (ct_X3_find l G T b z a1 x e1) (cwV 1 C.2.2.2.2.1 gX3_closeLanding_X3_find rfl rfl rfl df_X3_find ⟨Nat.le_of_ble_eq_true rfl, Nat.le_of_ble_eq_true rfl⟩) ⟨mm_B.blind, mm_recv (q := (RX3, TX3, 7)) C hH kl_1 (mm_e3 kd_1) rfl, mm_pre C hH⟩ rfl rfl hl.1 rfl (lv_room (Nat.le_of_ble_eq_true rfl)) dX3_closeLanding_2 ⟨Nat.zero_le _, Nat.zero_le _⟩) (fun H locs hH => ?_)
  rcases o1 with _ | k1
  · have h := mm_oc0 h
    refine mm_nul ?_
    refine lv_astore_nN (lv' := [(2, .null), (0, .ref (b + 1)), (1, .int a1)]) hx hb dX3_closeLanding_5 rfl hl (by decide) rfl (fun ls hl => ?_)
    refine lv_aload_nN hx hb dX3_closeLanding_6 rfl (lv_at hl 0 rfl) ?_
    refine lv_ifnonnullN hx hb dX3_closeLanding_7 ?_
    have hl := lv_sub (l' := []) hl [] rfl
    refine lv_iconst (v := (-1)) hx hb dX3_closeLanding_10 (by decide) ?_
    exact mm_iret C hH hr hlk rfl h dX3_closeLanding_11
  · have h := mm_oc1 h
    obtain ⟨g1, h⟩ := mm_grd h
    refine mm_nun ?_
    refine lv_astore_n (lv' := [(2, .ref (b + k1)), (0, .ref (b + 1)), (1, .int a1)]) hx hb dX3_closeLanding_5 rfl hl (by decide) rfl (fun ls hl => ?_)
    refine lv_aload_n hx hb dX3_closeLanding_6 rfl (lv_at hl 0 rfl) ?_
    refine lv_ifnonnull (tgt := 12) hx hb dX3_closeLanding_7 (by decide) ?_
    refine lv_aload_n hx hb dX3_closeLanding_12 rfl (lv_at hl 0 rfl) ?_
    refine mm_get (v := .int (x k1 0)) C hH hin1 rfl (mm_lt g1 (by decide)) (mm_e1 g1) (j := 0) (by decide) rfl w1 rfl dX3_closeLanding_13 ?_
    refine lv_if_ne (tgt := 22) hx hb dX3_closeLanding_16 (by decide) (fun c1 => ?_) (fun c1 => ?_)
    · have h := mm_neg c1 h
      refine lv_aload_n hx hb dX3_closeLanding_22 rfl (lv_at hl 0 rfl) ?_
      refine lv_iconst (v := 0) hx hb dX3_closeLanding_23 (by decide) ?_
      obtain ⟨x1, e2, h⟩ := mm_bnd h
      refine mm_put (ty := .boolean) C hH hin1 tyX1_ok nmX1 rfl (mm_lt g1 (by decide)) (mm_e1 g1) (j := 0) (by decide) rfl w1 pd_Z rfl rfl (Nat.le_of_ble_eq_true rfl) (sp_1_0 g1) (Option.some.inj e2) dX3_closeLanding_24 (fun H locs hH => ?_)
      refine lv_aload_n hx hb dX3_closeLanding_27 rfl (lv_at hl 1 rfl) ?_
      refine lv_aload_n hx hb dX3_closeLanding_28 rfl (lv_at hl 0 rfl) ?_
      refine lv_iload_n hx hb dX3_closeLanding_29 rfl (lv_at hl 2 rfl) ?_
      refine lv_iconst (v := 0) hx hb dX3_closeLanding_30 (by decide) ?_
      obtain ⟨x2, v1, e3, h⟩ := mm_bnd2 h
      refine mm_goi hH (va_runV (As := [.ref (b + k1), .int a1, .int 0]) (rest := []) ⟨hx, hb, C.2.2.1, C.2.2.2.1, C.2.2.2.2.1⟩ (ct_X3_finishChange l G T b z k1 a1 0 x1 e3) (cwV 3 C.2.2.2.2.1 gX3_closeLanding_X3_finishChange rfl rfl rfl df_X3_finishChange ⟨Nat.le_of_ble_eq_true rfl, Nat.le_of_ble_eq_true rfl⟩) ⟨mm_B.blind, mm_recv (q := (RX3, TX3, 7)) C hH kl_1 (mm_e3 kd_1) rfl, mm_pre C hH⟩ rfl rfl hl.1 rfl (lv_room (Nat.le_of_ble_eq_true rfl)) dX3_closeLanding_31 ⟨Nat.zero_le _, Nat.zero_le _⟩) (fun H locs hH => ?_)
      exact mm_iret C hH hr hlk rfl h dX3_closeLanding_34
    · have h := mm_pos c1 h
      have hl := lv_sub (l' := []) hl [] rfl
      refine lv_bipush (v := (-5)) hx hb dX3_closeLanding_19 (by decide) ?_
      exact mm_iret C hH hr hlk rfl h dX3_closeLanding_21
def fn_X3_changePrice (a1 : Int32) (a2 : Int32) (x : mm_M) : Option (mm_M × Int32) :=
  (fn_X3_find a1 x).bind fun o1 => mm_oc o1 (some (x, (-1))) fun k1 => if mm_kd k1 = 1 then if a2 < 0 then some (x, (-2)) else if a2 ≤ 999 then if (x k1 1) = a2 then some (x, (-5)) else (some (mm_up x k1 1 a2)).bind fun x1 => mm_b2 (fn_X3_finishChange k1 a1 2 x1) fun x2 v1 => some (x2, v1) else some (x, (-2)) else none
abbrev rm_X3_changePrice : Room := { frames := 4, cells := 0, slots := 0, locals := 88 }
theorem df_X3_changePrice : yX3_changePrice.cls = RX3 ∧ yX3_changePrice.cls ≠ "java/lang/invoke/MethodHandle" ∧ yX3_changePrice.cls ≠ "java/lang/invoke/VarHandle" ∧ (parseMethodDescriptor yX3_changePrice.desc).map (fun d => d.parameters.length) = some 2 := by decide +kernel
set_option maxRecDepth 100000 in
set_option maxHeartbeats 4000000 in
theorem ct_X3_changePrice (l : Launch) (G : va_G) (T : Nat → ClassId) (b : Nat) (z : Nat → Nat) (a1 : Int32) (a2 : Int32) (x : mm_M) {x1 : mm_M} {r : Int32} (h : fn_X3_changePrice a1 a2 x = some (x1, r)) : mm_Ci l yX3_changePrice wsX3_changePrice rm_X3_changePrice G T b z [.ref (b + 1), .int a1, .int a2] x r x1 := by
  unfold fn_X3_changePrice at h
  refine mm_start (cc := cX3_changePrice) (maxL := 4) (ret := (some .int)) (by decide) rfl (Nat.le_of_ble_eq_true rfl) (fun p e s m below meth c ls C hr hlk hH hl => ?_)
  have hl : lv_has ls 4 [(0, .ref (b + 1)), (1, .int a1), (2, .int a2)] := hl
  have hx := C.1
  have hb := C.2.1
  have w1 := C.2.2.2.2.1 (.fieldLink RX3 88 "LandingFines$Landing" "fare" "I") (by decide +kernel)
  have hin1 : ∀ w ∈ wsX10, w ∈ wsX3_changePrice := by decide +kernel
  refine lv_aload_n hx hb dX3_changePrice_0 rfl (lv_at hl 0 rfl) ?_
  refine lv_iload_n hx hb dX3_changePrice_1 rfl (lv_at hl 1 rfl) ?_
  obtain ⟨o1, e1, h⟩ := mm_bnd h
  refine mm_goe hH (va_runV (As := [.int a1]) (rest := []) ⟨hx, hb, C.2.2.1, C.2.2.2.1, C.2.2.2.2.1⟩ (ct_X3_find l G T b z a1 x e1) (cwV 1 C.2.2.2.2.1 gX3_changePrice_X3_find rfl rfl rfl df_X3_find ⟨Nat.le_of_ble_eq_true rfl, Nat.le_of_ble_eq_true rfl⟩) ⟨mm_B.blind, mm_recv (q := (RX3, TX3, 7)) C hH kl_1 (mm_e3 kd_1) rfl, mm_pre C hH⟩ rfl rfl hl.1 rfl (lv_room (Nat.le_of_ble_eq_true rfl)) dX3_changePrice_2 ⟨Nat.zero_le _, Nat.zero_le _⟩) (fun H locs hH => ?_)
  rcases o1 with _ | k1
  · have h := mm_oc0 h
    refine mm_nul ?_
    refine lv_astore_nN (lv' := [(3, .null), (0, .ref (b + 1)), (1, .int a1), (2, .int a2)]) hx hb dX3_changePrice_5 rfl hl (by decide) rfl (fun ls hl => ?_)
    refine lv_aload_nN hx hb dX3_changePrice_6 rfl (lv_at hl 0 rfl) ?_
    refine lv_ifnonnullN hx hb dX3_changePrice_7 ?_
    have hl := lv_sub (l' := []) hl [] rfl
    refine lv_iconst (v := (-1)) hx hb dX3_changePrice_10 (by decide) ?_
    exact mm_iret C hH hr hlk rfl h dX3_changePrice_11
  · have h := mm_oc1 h
    obtain ⟨g1, h⟩ := mm_grd h
    refine mm_nun ?_
    refine lv_astore_n (lv' := [(3, .ref (b + k1)), (0, .ref (b + 1)), (1, .int a1), (2, .int a2)]) hx hb dX3_changePrice_5 rfl hl (by decide) rfl (fun ls hl => ?_)
    refine lv_aload_n hx hb dX3_changePrice_6 rfl (lv_at hl 0 rfl) ?_
    refine lv_ifnonnull (tgt := 12) hx hb dX3_changePrice_7 (by decide) ?_
    refine lv_iload_n hx hb dX3_changePrice_12 rfl (lv_at hl 3 rfl) ?_
    refine lv_if_lt (tgt := 23) hx hb dX3_changePrice_13 (by decide) (fun c1 => ?_) (fun c1 => ?_)
    · have h := mm_pos c1 h
      have hl := lv_sub (l' := []) hl [] rfl
      refine lv_bipush (v := (-2)) hx hb dX3_changePrice_23 (by decide) ?_
      exact mm_iret C hH hr hlk rfl h dX3_changePrice_25
    · have h := mm_neg c1 h
      refine lv_iload_n hx hb dX3_changePrice_16 rfl (lv_at hl 3 rfl) ?_
      refine lv_sipush (v := 999) hx hb dX3_changePrice_17 (by decide) ?_
      refine lv_icmp_le (tgt := 26) hx hb dX3_changePrice_20 (by decide) (fun c2 => ?_) (fun c2 => ?_)
      · have h := mm_pos c2 h
        refine lv_aload_n hx hb dX3_changePrice_26 rfl (lv_at hl 0 rfl) ?_
        refine mm_get (v := .int (x k1 1)) C hH hin1 rfl (mm_lt g1 (by decide)) (mm_e1 g1) (j := 1) (by decide) rfl w1 rfl dX3_changePrice_27 ?_
        refine lv_iload_n hx hb dX3_changePrice_30 rfl (lv_at hl 3 rfl) ?_
        refine lv_icmp_ne (tgt := 37) hx hb dX3_changePrice_31 (by decide) (fun c3 => ?_) (fun c3 => ?_)
        · have h := mm_neg c3 h
          refine lv_aload_n hx hb dX3_changePrice_37 rfl (lv_at hl 0 rfl) ?_
          refine lv_iload_n hx hb dX3_changePrice_38 rfl (lv_at hl 3 rfl) ?_
          obtain ⟨x1, e2, h⟩ := mm_bnd h
          refine mm_put (ty := .int) C hH hin1 tyX1_ok nmX1 rfl (mm_lt g1 (by decide)) (mm_e1 g1) (j := 1) (by decide) rfl w1 pd_I rfl rfl (Nat.le_of_ble_eq_true rfl) (sp_1_1 g1) (Option.some.inj e2) dX3_changePrice_39 (fun H locs hH => ?_)
          refine lv_aload_n hx hb dX3_changePrice_42 rfl (lv_at hl 1 rfl) ?_
          refine lv_aload_n hx hb dX3_changePrice_43 rfl (lv_at hl 0 rfl) ?_
          refine lv_iload_n hx hb dX3_changePrice_44 rfl (lv_at hl 2 rfl) ?_
          refine lv_iconst (v := 2) hx hb dX3_changePrice_45 (by decide) ?_
          obtain ⟨x2, v1, e3, h⟩ := mm_bnd2 h
          refine mm_goi hH (va_runV (As := [.ref (b + k1), .int a1, .int 2]) (rest := []) ⟨hx, hb, C.2.2.1, C.2.2.2.1, C.2.2.2.2.1⟩ (ct_X3_finishChange l G T b z k1 a1 2 x1 e3) (cwV 3 C.2.2.2.2.1 gX3_changePrice_X3_finishChange rfl rfl rfl df_X3_finishChange ⟨Nat.le_of_ble_eq_true rfl, Nat.le_of_ble_eq_true rfl⟩) ⟨mm_B.blind, mm_recv (q := (RX3, TX3, 7)) C hH kl_1 (mm_e3 kd_1) rfl, mm_pre C hH⟩ rfl rfl hl.1 rfl (lv_room (Nat.le_of_ble_eq_true rfl)) dX3_changePrice_46 ⟨Nat.zero_le _, Nat.zero_le _⟩) (fun H locs hH => ?_)
          exact mm_iret C hH hr hlk rfl h dX3_changePrice_49
        · have h := mm_pos c3 h
          have hl := lv_sub (l' := []) hl [] rfl
          refine lv_bipush (v := (-5)) hx hb dX3_changePrice_34 (by decide) ?_
          exact mm_iret C hH hr hlk rfl h dX3_changePrice_36
      · have h := mm_neg c2 h
        have hl := lv_sub (l' := []) hl [] rfl
        refine lv_bipush (v := (-2)) hx hb dX3_changePrice_23 (by decide) ?_
        exact mm_iret C hH hr hlk rfl h dX3_changePrice_25
def fn_X3_passMinuteOf (k1 : Nat) (x : mm_M) : Option (mm_M × Int32) :=
  if mm_kd k1 = 1 then mm_b2 (fn_X1_passMinute k1 (x 2 3) (x 2 5) (x 2 6) x) fun x1 v1 => if vp_nar .boolean v1 = v1 then some (x1, v1) else none else none
abbrev rm_X3_passMinuteOf : Room := { frames := 2, cells := 0, slots := 0, locals := 44 }
theorem df_X3_passMinuteOf : yX3_passMinuteOf.cls = RX3 ∧ yX3_passMinuteOf.cls ≠ "java/lang/invoke/MethodHandle" ∧ yX3_passMinuteOf.cls ≠ "java/lang/invoke/VarHandle" ∧ (parseMethodDescriptor yX3_passMinuteOf.desc).map (fun d => d.parameters.length) = some 1 := by decide +kernel
set_option maxRecDepth 100000 in
set_option maxHeartbeats 4000000 in
theorem ct_X3_passMinuteOf (l : Launch) (G : va_G) (T : Nat → ClassId) (b : Nat) (z : Nat → Nat) (k1 : Nat) (x : mm_M) {x1 : mm_M} {r : Int32} (h : fn_X3_passMinuteOf k1 x = some (x1, r)) : mm_Ci l yX3_passMinuteOf wsX3_passMinuteOf rm_X3_passMinuteOf G T b z [.ref (b + 1), .ref (b + k1)] x r x1 := by
  unfold fn_X3_passMinuteOf at h
  refine mm_start (cc := cX3_passMinuteOf) (maxL := 2) (ret := (some .boolean)) (by decide) rfl (Nat.le_of_ble_eq_true rfl) (fun p e s m below meth c ls C hr hlk hH hl => ?_)
  have hl : lv_has ls 2 [(0, .ref (b + 1)), (1, .ref (b + k1))] := hl
  have hx := C.1
  have hb := C.2.1
  have w1 := C.2.2.2.2.1 (.fieldLink RX3 18 "LandingFines$River" "settings" "[I") (by decide +kernel)
  have hin3 : ∀ w ∈ wsX30, w ∈ wsX3_passMinuteOf := by decide +kernel
  obtain ⟨hk1, h⟩ := mm_grd h
  have hk1l := mm_lt hk1 (by decide)
  refine lv_aload_n hx hb dX3_passMinuteOf_0 rfl (lv_at hl 1 rfl) ?_
  refine lv_aload_n hx hb dX3_passMinuteOf_1 rfl (lv_at hl 0 rfl) ?_
  refine mm_get (v := .ref (b + 2)) C hH hin3 rfl kl_1 (mm_e3 kd_1) (j := 0) (by decide) rfl w1 rfl dX3_passMinuteOf_2 ?_
  refine lv_iconst (v := 3) hx hb dX3_passMinuteOf_5 (by decide) ?_
  refine mm_iald (n := 7) (jn := 3) C hH kd_2 ln_2 (by decide) (by decide) dX3_passMinuteOf_6 ?_
  refine lv_aload_n hx hb dX3_passMinuteOf_7 rfl (lv_at hl 0 rfl) ?_
  refine mm_get (v := .ref (b + 2)) C hH hin3 rfl kl_1 (mm_e3 kd_1) (j := 0) (by decide) rfl w1 rfl dX3_passMinuteOf_8 ?_
  refine lv_iconst (v := 5) hx hb dX3_passMinuteOf_11 (by decide) ?_
  refine mm_iald (n := 7) (jn := 5) C hH kd_2 ln_2 (by decide) (by decide) dX3_passMinuteOf_12 ?_
  refine lv_aload_n hx hb dX3_passMinuteOf_13 rfl (lv_at hl 0 rfl) ?_
  refine mm_get (v := .ref (b + 2)) C hH hin3 rfl kl_1 (mm_e3 kd_1) (j := 0) (by decide) rfl w1 rfl dX3_passMinuteOf_14 ?_
  refine lv_bipush (v := 6) hx hb dX3_passMinuteOf_17 (by decide) ?_
  refine mm_iald (n := 7) (jn := 6) C hH kd_2 ln_2 (by decide) (by decide) dX3_passMinuteOf_19 ?_
  obtain ⟨x1, v1, e1, h⟩ := mm_bnd2 h
  refine mm_goi hH (va_runV (As := [.int (x 2 3), .int (x 2 5), .int (x 2 6)]) (rest := []) ⟨hx, hb, C.2.2.1, C.2.2.2.1, C.2.2.2.2.1⟩ (ct_X1_passMinute l G T b z k1 (x 2 3) (x 2 5) (x 2 6) x e1) (cwV 3 C.2.2.2.2.1 gX3_passMinuteOf_X1_passMinute rfl rfl rfl df_X1_passMinute ⟨Nat.le_of_ble_eq_true rfl, Nat.le_of_ble_eq_true rfl⟩) ⟨mm_B.blind, mm_recv (q := (RX1, TX1, 8)) C hH hk1l (mm_e1 hk1) rfl, mm_pre C hH⟩ rfl rfl hl.1 rfl (lv_room (Nat.le_of_ble_eq_true rfl)) dX3_passMinuteOf_20 ⟨Nat.zero_le _, Nat.zero_le _⟩) (fun H locs hH => ?_)
  obtain ⟨g1, h⟩ := mm_grd h
  exact mm_iret C hH hr hlk (mm_narZ g1) h dX3_passMinuteOf_23
def fn_X3_passOneMinute_14 : Nat → Int32 → Int32 → mm_M → Option (mm_M × Int32)
  | 0, _, _, _ => none
  | n + 1, i1, i2, x => if (x 1 2) ≤ i2 then some (x, i1) else if i2 < 0 ∨ 8 ≤ Int32.toNatClampNeg i2 then none else mm_b2 (fn_X3_passMinuteOf (3 + 5 + Int32.toNatClampNeg i2) x) fun x1 v1 => if v1 = 0 then (some (i2 + 1)).bind fun v2 => fn_X3_passOneMinute_14 n  i1 v2 x1 else (fn_X0_add 4 i2 (x1 1 3) x1).bind fun x2 => (some (i1 + 1)).bind fun v3 => (some (i2 + 1)).bind fun v4 => fn_X3_passOneMinute_14 n  v3 v4 x2
def fn_X3_passOneMinute  (x : mm_M) : Option (mm_M × Int32) :=
  (some (mm_up x 1 3 ((x 1 3) + 1))).bind fun x1 => mm_b2 (fn_X3_passOneMinute_14 9 0 0 x1) fun x2 v1 => if v1 ≤ 0 then some (x2, v1) else (fn_X3_followTaken x2).bind fun x3 => some (x3, v1)
abbrev rm_X3_passOneMinute : Room := { frames := 3, cells := 0, slots := 0, locals := 65 }
theorem df_X3_passOneMinute : yX3_passOneMinute.cls = RX3 ∧ yX3_passOneMinute.cls ≠ "java/lang/invoke/MethodHandle" ∧ yX3_passOneMinute.cls ≠ "java/lang/invoke/VarHandle" ∧ (parseMethodDescriptor yX3_passOneMinute.desc).map (fun d => d.parameters.length) = some 0 := by decide +kernel
set_option maxRecDepth 100000 in
set_option maxHeartbeats 4000000 in
theorem lp_X3_passOneMinute_14 {p : Program} {l : Launch} {e : Env} {s : State} {m : MethodId} {args : Array Value} {below : List Frame} {meth : Method} {c : Code} {Q : State → Prop} {G : va_G} {T : Nat → ClassId} {b : Nat} {z : Nat → Nat} (C : mm_C p m c cX3_passOneMinute 3 s args wsX3_passOneMinute RX3 G T b z)  : ∀ (n : Nat) (i1 : Int32) (i2 : Int32) (x : mm_M) (H : Heap) (locs : List Loc) (ls : Array Slot) (x1 : mm_M) (r1 : Int32), fn_X3_passOneMinute_14 n i1 i2 x = some (x1, r1) → mm_H G T b x s H locs → lv_has ls 3 [(0, .ref (b + 1)), (1, .int i1), (2, .int i2)] → (∀ (H1 : Heap) (locs1 : List Loc) (ls1 : Array Slot), mm_H G T b x1 s H1 locs1 → lv_has ls1 3 [(0, .ref (b + 1)), (1, .int r1)] → W p l e rm_X3_passOneMinute s m args below meth c H1 locs1 0 0 Q (F0 m 57 ls1 [])) → W p l e rm_X3_passOneMinute s m args below meth c H locs 0 0 Q (F0 m 14 ls []) := by
  have hx := C.1
  have hb := C.2.1
  have w1 := C.2.2.2.2.1 (.fieldLink RX3 29 "LandingFines$River" "landingCount" "I") (by decide +kernel)
  have w2 := C.2.2.2.2.1 (.fieldLink RX3 25 "LandingFines$River" "landings" "[LLandingFines$Landing;") (by decide +kernel)
  have w3 := C.2.2.2.2.1 (.fieldLink RX3 45 "LandingFines$River" "journal" "LLandingFines$Journal;") (by decide +kernel)
  have w4 := C.2.2.2.2.1 (.fieldLink RX3 33 "LandingFines$River" "minutesSoFar" "I") (by decide +kernel)
  have hin3 : ∀ w ∈ wsX30, w ∈ wsX3_passOneMinute := by decide +kernel
  intro n
  induction n with
  | zero => intro _ _ _ _ _ _ _ _ h; cases (show (none : Option (mm_M × Int32)) = some _ from h)
  | succ n ih =>
    intro i1 i2 x H locs ls x1 r1 h hH hl kk
    rw [fn_X3_passOneMinute_14] at h
    refine lv_iload_n hx hb dX3_passOneMinute_14 rfl (lv_at hl 2 rfl) ?_
    refine lv_aload_n hx hb dX3_passOneMinute_15 rfl (lv_at hl 0 rfl) ?_
    refine mm_get (v := .int (x 1 2)) C hH hin3 rfl kl_1 (mm_e3 kd_1) (j := 2) (by decide) rfl w1 rfl dX3_passOneMinute_16 ?_
    refine lv_icmp_ge (tgt := 57) hx hb dX3_passOneMinute_19 (by decide) (fun c1 => ?_) (fun c1 => ?_)
    · have h := mm_pos c1 h
      have hl := lv_sub (l' := [(0, .ref (b + 1)), (1, .int i1)]) hl [0, 1] rfl
      cases h
      exact kk _ _ _ hH (lv_sub hl [0, 1] rfl)
    · have h := mm_neg c1 h
      refine lv_aload_n hx hb dX3_passOneMinute_22 rfl (lv_at hl 0 rfl) ?_
      refine lv_aload_n hx hb dX3_passOneMinute_23 rfl (lv_at hl 0 rfl) ?_
      refine mm_get (v := .ref (b + 3)) C hH hin3 rfl kl_1 (mm_e3 kd_1) (j := 1) (by decide) rfl w2 rfl dX3_passOneMinute_24 ?_
      refine lv_iload_n hx hb dX3_passOneMinute_27 rfl (lv_at hl 2 rfl) ?_
      obtain ⟨g1, h⟩ := mm_grn h
      refine mm_ald9 C hH kd_3 g1 dX3_passOneMinute_28 ?_
      obtain ⟨x1, v1, e1, h⟩ := mm_bnd2 h
      refine mm_goi hH (va_runV (As := [.ref (b + (3 + 5 + Int32.toNatClampNeg i2))]) (rest := []) ⟨hx, hb, C.2.2.1, C.2.2.2.1, C.2.2.2.2.1⟩ (ct_X3_passMinuteOf l G T b z (3 + 5 + Int32.toNatClampNeg i2) x e1) (cwV 1 C.2.2.2.2.1 gX3_passOneMinute_X3_passMinuteOf rfl rfl rfl df_X3_passMinuteOf ⟨Nat.le_of_ble_eq_true rfl, Nat.le_of_ble_eq_true rfl⟩) ⟨mm_B.blind, mm_recv (q := (RX3, TX3, 7)) C hH kl_1 (mm_e3 kd_1) rfl, mm_pre C hH⟩ rfl rfl hl.1 rfl (lv_room (Nat.le_of_ble_eq_true rfl)) dX3_passOneMinute_29 ⟨Nat.zero_le _, Nat.zero_le _⟩) (fun H locs hH => ?_)
      refine lv_if_eq (tgt := 51) hx hb dX3_passOneMinute_32 (by decide) (fun c2 => ?_) (fun c2 => ?_)
      · have h := mm_pos c2 h
        obtain ⟨v2, e2, h⟩ := mm_bnd h
        refine lv_iinc (v := v2) (lv' := [(2, .int v2), (0, .ref (b + 1)), (1, .int i1)]) hx hb dX3_passOneMinute_51 hl (k := 2) rfl (Option.some.inj e2) (by decide) rfl (fun ls hl => ?_)
        refine lv_goto (tgt := 14) hx hb dX3_passOneMinute_54 (by decide) ?_
        exact ih i1 v2 x1 _ _ _ _ _ h hH (lv_sub hl [1, 2, 0] rfl) kk
      · have h := mm_neg c2 h
        refine lv_aload_n hx hb dX3_passOneMinute_35 rfl (lv_at hl 0 rfl) ?_
        refine mm_get (v := .ref (b + 4)) C hH hin3 rfl kl_1 (mm_e3 kd_1) (j := 6) (by decide) rfl w3 rfl dX3_passOneMinute_36 ?_
        refine lv_iconst (v := 4) hx hb dX3_passOneMinute_39 (by decide) ?_
        refine lv_iload_n hx hb dX3_passOneMinute_40 rfl (lv_at hl 2 rfl) ?_
        refine lv_aload_n hx hb dX3_passOneMinute_41 rfl (lv_at hl 0 rfl) ?_
        refine mm_get (v := .int (x1 1 3)) C hH hin3 rfl kl_1 (mm_e3 kd_1) (j := 3) (by decide) rfl w4 rfl dX3_passOneMinute_42 ?_
        obtain ⟨x2, e3, h⟩ := mm_bnd h
        refine mm_gov hH (va_runV (As := [.int 4, .int i2, .int (x1 1 3)]) (rest := []) ⟨hx, hb, C.2.2.1, C.2.2.2.1, C.2.2.2.2.1⟩ (ct_X0_add l G T b z 4 i2 (x1 1 3) x1 e3) (cwV 3 C.2.2.2.2.1 gX3_passOneMinute_X0_add rfl rfl rfl df_X0_add ⟨Nat.le_of_ble_eq_true rfl, Nat.le_of_ble_eq_true rfl⟩) ⟨mm_B.blind, mm_recv (q := (RX0, TX0, 5)) C hH kl_4 (mm_e0 kd_4) rfl, mm_pre C hH⟩ rfl rfl hl.1 rfl (lv_room (Nat.le_of_ble_eq_true rfl)) dX3_passOneMinute_45 ⟨Nat.zero_le _, Nat.zero_le _⟩) (fun H locs hH => ?_)
        obtain ⟨v3, e4, h⟩ := mm_bnd h
        refine lv_iinc (v := v3) (lv' := [(1, .int v3), (0, .ref (b + 1)), (2, .int i2)]) hx hb dX3_passOneMinute_48 hl (k := 1) rfl (Option.some.inj e4) (by decide) rfl (fun ls hl => ?_)
        obtain ⟨v4, e5, h⟩ := mm_bnd h
        refine lv_iinc (v := v4) (lv' := [(2, .int v4), (1, .int v3), (0, .ref (b + 1))]) hx hb dX3_passOneMinute_51 hl (k := 2) rfl (Option.some.inj e5) (by decide) rfl (fun ls hl => ?_)
        refine lv_goto (tgt := 14) hx hb dX3_passOneMinute_54 (by decide) ?_
        exact ih v3 v4 x2 _ _ _ _ _ h hH (lv_sub hl [2, 1, 0] rfl) kk
set_option maxRecDepth 100000 in
set_option maxHeartbeats 4000000 in
theorem ct_X3_passOneMinute (l : Launch) (G : va_G) (T : Nat → ClassId) (b : Nat) (z : Nat → Nat)  (x : mm_M) {x1 : mm_M} {r : Int32} (h : fn_X3_passOneMinute  x = some (x1, r)) : mm_Ci l yX3_passOneMinute wsX3_passOneMinute rm_X3_passOneMinute G T b z [.ref (b + 1)] x r x1 := by
  unfold fn_X3_passOneMinute at h
  refine mm_start (cc := cX3_passOneMinute) (maxL := 3) (ret := (some .int)) (by decide) rfl (Nat.le_of_ble_eq_true rfl) (fun p e s m below meth c ls C hr hlk hH hl => ?_)
  have hl : lv_has ls 3 [(0, .ref (b + 1))] := hl
  have hx := C.1
  have hb := C.2.1
  have w1 := C.2.2.2.2.1 (.fieldLink RX3 33 "LandingFines$River" "minutesSoFar" "I") (by decide +kernel)
  have hin3 : ∀ w ∈ wsX30, w ∈ wsX3_passOneMinute := by decide +kernel
  refine lv_aload_n hx hb dX3_passOneMinute_0 rfl (lv_at hl 0 rfl) ?_
  refine lv_dup hx hb dX3_passOneMinute_1 rfl ?_
  refine mm_get (v := .int (x 1 3)) C hH hin3 rfl kl_1 (mm_e3 kd_1) (j := 3) (by decide) rfl w1 rfl dX3_passOneMinute_2 ?_
  refine lv_iconst (v := 1) hx hb dX3_passOneMinute_5 (by decide) ?_
  refine lv_iadd hx hb dX3_passOneMinute_6 ?_
  obtain ⟨x1, e1, h⟩ := mm_bnd h
  refine mm_put (ty := .int) C hH hin3 tyX3_ok nmX3 rfl kl_1 (mm_e3 kd_1) (j := 3) (by decide) rfl w1 pd_I rfl rfl (Nat.le_of_ble_eq_true rfl) (sp_3_3 kd_1) (Option.some.inj e1) dX3_passOneMinute_7 (fun H locs hH => ?_)
  refine lv_iconst (v := 0) hx hb dX3_passOneMinute_10 (by decide) ?_
  refine lv_istore_n (lv' := [(1, .int 0), (0, .ref (b + 1))]) hx hb dX3_passOneMinute_11 rfl hl (by decide) rfl (fun ls hl => ?_)
  refine lv_iconst (v := 0) hx hb dX3_passOneMinute_12 (by decide) ?_
  refine lv_istore_n (lv' := [(2, .int 0), (1, .int 0), (0, .ref (b + 1))]) hx hb dX3_passOneMinute_13 rfl hl (by decide) rfl (fun ls hl => ?_)
  obtain ⟨x2, v1, e2, h⟩ := mm_bnd2 h
  refine lp_X3_passOneMinute_14 C 9 0 0 x1 _ _ _ _ _ e2 hH (lv_sub hl [2, 1, 0] rfl) (fun H locs ls hH hl => ?_)
  refine lv_iload_n hx hb dX3_passOneMinute_57 rfl (lv_at hl 1 rfl) ?_
  refine lv_if_le (tgt := 65) hx hb dX3_passOneMinute_58 (by decide) (fun c1 => ?_) (fun c1 => ?_)
  · have h := mm_pos c1 h
    have hl := lv_sub (l' := [(1, .int v1)]) hl [1] rfl
    refine lv_iload_n hx hb dX3_passOneMinute_65 rfl (lv_at hl 0 rfl) ?_
    exact mm_iret C hH hr hlk rfl h dX3_passOneMinute_66
  · have h := mm_neg c1 h
    refine lv_aload_n hx hb dX3_passOneMinute_61 rfl (lv_at hl 0 rfl) ?_
    obtain ⟨x3, e3, h⟩ := mm_bnd h
    refine mm_gov hH (va_runV (As := []) (rest := []) ⟨hx, hb, C.2.2.1, C.2.2.2.1, C.2.2.2.2.1⟩ (ct_X3_followTaken l G T b z x2 e3) (cwV 0 C.2.2.2.2.1 gX3_passOneMinute_X3_followTaken rfl rfl rfl df_X3_followTaken ⟨Nat.le_of_ble_eq_true rfl, Nat.le_of_ble_eq_true rfl⟩) ⟨mm_B.blind, mm_recv (q := (RX3, TX3, 7)) C hH kl_1 (mm_e3 kd_1) rfl, mm_pre C hH⟩ rfl rfl hl.1 rfl (lv_room (Nat.le_of_ble_eq_true rfl)) dX3_passOneMinute_62 ⟨Nat.zero_le _, Nat.zero_le _⟩) (fun H locs hH => ?_)
    refine lv_iload_n hx hb dX3_passOneMinute_65 rfl (lv_at hl 1 rfl) ?_
    exact mm_iret C hH hr hlk rfl h dX3_passOneMinute_66
def fn_X3_passMinutes_33 : Nat → Int32 → Int32 → Int32 → mm_M → Option (mm_M × Int32)
  | 0, _, _, _, _ => none
  | n + 1, a1, i2, i3, x => if a1 ≤ i3 then some (x, i2) else mm_b2 (fn_X3_passOneMinute x) fun x1 v1 => (some ((i2 + v1) : Int32)).bind fun v2 => (some (i3 + 1)).bind fun v3 => fn_X3_passMinutes_33 n a1 v2 v3 x1
def fn_X3_passMinutes (a1 : Int32) (x : mm_M) : Option (mm_M × Int32) :=
  if a1 < 1 then some (x, (-2)) else if a1 ≤ 999 then if ((x 1 3) + a1) ≤ 99999 then mm_b2 (fn_X3_passMinutes_33 1000 a1 0 0 x) fun x1 v1 => some (x1, v1) else some (x, (-5)) else some (x, (-2))
abbrev rm_X3_passMinutes : Room := { frames := 4, cells := 0, slots := 0, locals := 87 }
theorem df_X3_passMinutes : yX3_passMinutes.cls = RX3 ∧ yX3_passMinutes.cls ≠ "java/lang/invoke/MethodHandle" ∧ yX3_passMinutes.cls ≠ "java/lang/invoke/VarHandle" ∧ (parseMethodDescriptor yX3_passMinutes.desc).map (fun d => d.parameters.length) = some 1 := by decide +kernel
set_option maxRecDepth 100000 in
set_option maxHeartbeats 4000000 in
theorem lp_X3_passMinutes_33 {p : Program} {l : Launch} {e : Env} {s : State} {m : MethodId} {args : Array Value} {below : List Frame} {meth : Method} {c : Code} {Q : State → Prop} {G : va_G} {T : Nat → ClassId} {b : Nat} {z : Nat → Nat} (C : mm_C p m c cX3_passMinutes 4 s args wsX3_passMinutes RX3 G T b z) (a1 : Int32) : ∀ (n : Nat) (i2 : Int32) (i3 : Int32) (x : mm_M) (H : Heap) (locs : List Loc) (ls : Array Slot) (x1 : mm_M) (r2 : Int32), fn_X3_passMinutes_33 n a1 i2 i3 x = some (x1, r2) → mm_H G T b x s H locs → lv_has ls 4 [(0, .ref (b + 1)), (1, .int a1), (2, .int i2), (3, .int i3)] → (∀ (H1 : Heap) (locs1 : List Loc) (ls1 : Array Slot), mm_H G T b x1 s H1 locs1 → lv_has ls1 4 [(2, .int r2)] → W p l e rm_X3_passMinutes s m args below meth c H1 locs1 0 0 Q (F0 m 51 ls1 [])) → W p l e rm_X3_passMinutes s m args below meth c H locs 0 0 Q (F0 m 33 ls []) := by
  have hx := C.1
  have hb := C.2.1
  intro n
  induction n with
  | zero => intro _ _ _ _ _ _ _ _ h; cases (show (none : Option (mm_M × Int32)) = some _ from h)
  | succ n ih =>
    intro i2 i3 x H locs ls x1 r2 h hH hl kk
    rw [fn_X3_passMinutes_33] at h
    refine lv_iload_n hx hb dX3_passMinutes_33 rfl (lv_at hl 3 rfl) ?_
    refine lv_iload_n hx hb dX3_passMinutes_34 rfl (lv_at hl 1 rfl) ?_
    refine lv_icmp_ge (tgt := 51) hx hb dX3_passMinutes_35 (by decide) (fun c1 => ?_) (fun c1 => ?_)
    · have h := mm_pos c1 h
      have hl := lv_sub (l' := [(2, .int i2)]) hl [2] rfl
      cases h
      exact kk _ _ _ hH (lv_sub hl [0] rfl)
    · have h := mm_neg c1 h
      refine lv_iload_n hx hb dX3_passMinutes_38 rfl (lv_at hl 2 rfl) ?_
      refine lv_aload_n hx hb dX3_passMinutes_39 rfl (lv_at hl 0 rfl) ?_
      obtain ⟨x1, v1, e1, h⟩ := mm_bnd2 h
      refine mm_goi hH (va_runV (As := []) (rest := [.int i2]) ⟨hx, hb, C.2.2.1, C.2.2.2.1, C.2.2.2.2.1⟩ (ct_X3_passOneMinute l G T b z x e1) (cwV 0 C.2.2.2.2.1 gX3_passMinutes_X3_passOneMinute rfl rfl rfl df_X3_passOneMinute ⟨Nat.le_of_ble_eq_true rfl, Nat.le_of_ble_eq_true rfl⟩) ⟨mm_B.blind, mm_recv (q := (RX3, TX3, 7)) C hH kl_1 (mm_e3 kd_1) rfl, mm_pre C hH⟩ rfl rfl hl.1 rfl (lv_room (Nat.le_of_ble_eq_true rfl)) dX3_passMinutes_40 ⟨Nat.zero_le _, Nat.zero_le _⟩) (fun H locs hH => ?_)
      refine lv_iadd hx hb dX3_passMinutes_43 ?_
      obtain ⟨v2, e2, h⟩ := mm_bnd h
      refine mm_nmi e2 ?_
      refine lv_istore_n (lv' := [(2, .int v2), (0, .ref (b + 1)), (1, .int a1), (3, .int i3)]) hx hb dX3_passMinutes_44 rfl hl (by decide) rfl (fun ls hl => ?_)
      obtain ⟨v3, e3, h⟩ := mm_bnd h
      refine lv_iinc (v := v3) (lv' := [(3, .int v3), (2, .int v2), (0, .ref (b + 1)), (1, .int a1)]) hx hb dX3_passMinutes_45 hl (k := 3) rfl (Option.some.inj e3) (by decide) rfl (fun ls hl => ?_)
      refine lv_goto (tgt := 33) hx hb dX3_passMinutes_48 (by decide) ?_
      exact ih v2 v3 x1 _ _ _ _ _ h hH (lv_sub hl [2, 3, 1, 0] rfl) kk
set_option maxRecDepth 100000 in
set_option maxHeartbeats 4000000 in
theorem ct_X3_passMinutes (l : Launch) (G : va_G) (T : Nat → ClassId) (b : Nat) (z : Nat → Nat) (a1 : Int32) (x : mm_M) {x1 : mm_M} {r : Int32} (h : fn_X3_passMinutes a1 x = some (x1, r)) : mm_Ci l yX3_passMinutes wsX3_passMinutes rm_X3_passMinutes G T b z [.ref (b + 1), .int a1] x r x1 := by
  unfold fn_X3_passMinutes at h
  refine mm_start (cc := cX3_passMinutes) (maxL := 4) (ret := (some .int)) (by decide) rfl (Nat.le_of_ble_eq_true rfl) (fun p e s m below meth c ls C hr hlk hH hl => ?_)
  have hl : lv_has ls 4 [(0, .ref (b + 1)), (1, .int a1)] := hl
  have hx := C.1
  have hb := C.2.1
  have w1 := C.2.2.2.2.1 (.fieldLink RX3 33 "LandingFines$River" "minutesSoFar" "I") (by decide +kernel)
  have w2 := C.2.2.2.2.1 (.constant RX3 106 (99999)) (by decide +kernel)
  have hin3 : ∀ w ∈ wsX30, w ∈ wsX3_passMinutes := by decide +kernel
  refine lv_iload_n hx hb dX3_passMinutes_0 rfl (lv_at hl 1 rfl) ?_
  refine lv_iconst (v := 1) hx hb dX3_passMinutes_1 (by decide) ?_
  refine lv_icmp_lt (tgt := 12) hx hb dX3_passMinutes_2 (by decide) (fun c1 => ?_) (fun c1 => ?_)
  · have h := mm_pos c1 h
    have hl := lv_sub (l' := []) hl [] rfl
    refine lv_bipush (v := (-2)) hx hb dX3_passMinutes_12 (by decide) ?_
    exact mm_iret C hH hr hlk rfl h dX3_passMinutes_14
  · have h := mm_neg c1 h
    refine lv_iload_n hx hb dX3_passMinutes_5 rfl (lv_at hl 1 rfl) ?_
    refine lv_sipush (v := 999) hx hb dX3_passMinutes_6 (by decide) ?_
    refine lv_icmp_le (tgt := 15) hx hb dX3_passMinutes_9 (by decide) (fun c2 => ?_) (fun c2 => ?_)
    · have h := mm_pos c2 h
      refine lv_aload_n hx hb dX3_passMinutes_15 rfl (lv_at hl 0 rfl) ?_
      refine mm_get (v := .int (x 1 3)) C hH hin3 rfl kl_1 (mm_e3 kd_1) (j := 3) (by decide) rfl w1 rfl dX3_passMinutes_16 ?_
      refine lv_iload_n hx hb dX3_passMinutes_19 rfl (lv_at hl 1 rfl) ?_
      refine lv_iadd hx hb dX3_passMinutes_20 ?_
      refine lv_ldc (own := RX3) (v := 99999) hx hb C.2.2.2.1 w2 dX3_passMinutes_21 ?_
      refine lv_icmp_le (tgt := 29) hx hb dX3_passMinutes_23 (by decide) (fun c3 => ?_) (fun c3 => ?_)
      · have h := mm_pos c3 h
        refine lv_iconst (v := 0) hx hb dX3_passMinutes_29 (by decide) ?_
        refine lv_istore_n (lv' := [(2, .int 0), (0, .ref (b + 1)), (1, .int a1)]) hx hb dX3_passMinutes_30 rfl hl (by decide) rfl (fun ls hl => ?_)
        refine lv_iconst (v := 0) hx hb dX3_passMinutes_31 (by decide) ?_
        refine lv_istore_n (lv' := [(3, .int 0), (2, .int 0), (0, .ref (b + 1)), (1, .int a1)]) hx hb dX3_passMinutes_32 rfl hl (by decide) rfl (fun ls hl => ?_)
        obtain ⟨x1, v1, e1, h⟩ := mm_bnd2 h
        refine lp_X3_passMinutes_33 C a1 1000 0 0 x _ _ _ _ _ e1 hH (lv_sub hl [2, 3, 1, 0] rfl) (fun H locs ls hH hl => ?_)
        refine lv_iload_n hx hb dX3_passMinutes_51 rfl (lv_at hl 0 rfl) ?_
        exact mm_iret C hH hr hlk rfl h dX3_passMinutes_52
      · have h := mm_neg c3 h
        have hl := lv_sub (l' := []) hl [] rfl
        refine lv_bipush (v := (-5)) hx hb dX3_passMinutes_26 (by decide) ?_
        exact mm_iret C hH hr hlk rfl h dX3_passMinutes_28
    · have h := mm_neg c2 h
      have hl := lv_sub (l' := []) hl [] rfl
      refine lv_bipush (v := (-2)) hx hb dX3_passMinutes_12 (by decide) ?_
      exact mm_iret C hH hr hlk rfl h dX3_passMinutes_14
def fn_X3_rankOf_15 : Nat → Int32 → Int32 → Int32 → Int32 → mm_M → Option Int32
  | 0, _, _, _, _, _ => none
  | n + 1, a1, a3, i2, i4, x => if (x 1 2) ≤ i4 then some (i2) else if i4 < 0 ∨ 8 ≤ Int32.toNatClampNeg i4 then none else (fn_X1_canBeTaken (3 + 5 + Int32.toNatClampNeg i4) x).bind fun v1 => if v1 = 0 then (some (i4 + 1)).bind fun v2 => fn_X3_rankOf_15 n a1 a3 i2 v2 x else if (x (3 + 5 + Int32.toNatClampNeg i4) 1) < a3 then (some (i2 + 1)).bind fun v3 => (some (i4 + 1)).bind fun v4 => fn_X3_rankOf_15 n a1 a3 v3 v4 x else if (x (3 + 5 + Int32.toNatClampNeg i4) 1) = a3 then if a1 ≤ i4 then (some (i4 + 1)).bind fun v6 => fn_X3_rankOf_15 n a1 a3 i2 v6 x else (some (i2 + 1)).bind fun v7 => (some (i4 + 1)).bind fun v8 => fn_X3_rankOf_15 n a1 a3 v7 v8 x else (some (i4 + 1)).bind fun v5 => fn_X3_rankOf_15 n a1 a3 i2 v5 x
def fn_X3_rankOf (a1 : Int32) (x : mm_M) : Option Int32 :=
  if a1 < 0 ∨ 8 ≤ Int32.toNatClampNeg a1 then none else (some ((x (3 + 5 + Int32.toNatClampNeg a1) 1) : Int32)).bind fun v1 => (fn_X3_rankOf_15 9 a1 v1 0 0 x).bind fun v2 => some v2
abbrev rm_X3_rankOf : Room := { frames := 1, cells := 0, slots := 0, locals := 20 }
theorem df_X3_rankOf : yX3_rankOf.cls = RX3 ∧ yX3_rankOf.cls ≠ "java/lang/invoke/MethodHandle" ∧ yX3_rankOf.cls ≠ "java/lang/invoke/VarHandle" ∧ (parseMethodDescriptor yX3_rankOf.desc).map (fun d => d.parameters.length) = some 1 := by decide +kernel
set_option maxRecDepth 100000 in
set_option maxHeartbeats 4000000 in
theorem lp_X3_rankOf_15 {p : Program} {l : Launch} {e : Env} {s : State} {m : MethodId} {args : Array Value} {below : List Frame} {meth : Method} {c : Code} {Q : State → Prop} {G : va_G} {T : Nat → ClassId} {b : Nat} {z : Nat → Nat} (C : mm_C p m c cX3_rankOf 6 s args wsX3_rankOf RX3 G T b z) (a1 : Int32) (a3 : Int32) : ∀ (n : Nat) (i2 : Int32) (i4 : Int32) (x : mm_M) (H : Heap) (locs : List Loc) (ls : Array Slot) (r2 : Int32), fn_X3_rankOf_15 n a1 a3 i2 i4 x = some (r2) → mm_H G T b x s H locs → lv_has ls 6 [(0, .ref (b + 1)), (1, .int a1), (2, .int i2), (3, .int a3), (4, .int i4)] → (∀ (H1 : Heap) (locs1 : List Loc) (ls1 : Array Slot), mm_H G T b x s H1 locs1 → lv_has ls1 6 [(2, .int r2)] → W p l e rm_X3_rankOf s m args below meth c H1 locs1 0 0 Q (F0 m 74 ls1 [])) → W p l e rm_X3_rankOf s m args below meth c H locs 0 0 Q (F0 m 15 ls []) := by
  have hx := C.1
  have hb := C.2.1
  have w1 := C.2.2.2.2.1 (.fieldLink RX3 29 "LandingFines$River" "landingCount" "I") (by decide +kernel)
  have w2 := C.2.2.2.2.1 (.fieldLink RX3 25 "LandingFines$River" "landings" "[LLandingFines$Landing;") (by decide +kernel)
  have w3 := C.2.2.2.2.1 (.fieldLink RX3 88 "LandingFines$Landing" "fare" "I") (by decide +kernel)
  have hin1 : ∀ w ∈ wsX10, w ∈ wsX3_rankOf := by decide +kernel
  have hin3 : ∀ w ∈ wsX30, w ∈ wsX3_rankOf := by decide +kernel
  intro n
  induction n with
  | zero => intro _ _ _ _ _ _ _ h; cases (show (none : Option Int32) = some _ from h)
  | succ n ih =>
    intro i2 i4 x H locs ls r2 h hH hl kk
    rw [fn_X3_rankOf_15] at h
    refine lv_iload hx hb dX3_rankOf_15 (lv_at hl 4 rfl) ?_
    refine lv_aload_n hx hb dX3_rankOf_17 rfl (lv_at hl 0 rfl) ?_
    refine mm_get (v := .int (x 1 2)) C hH hin3 rfl kl_1 (mm_e3 kd_1) (j := 2) (by decide) rfl w1 rfl dX3_rankOf_18 ?_
    refine lv_icmp_ge (tgt := 74) hx hb dX3_rankOf_21 (by decide) (fun c1 => ?_) (fun c1 => ?_)
    · have h := mm_pos c1 h
      have hl := lv_sub (l' := [(2, .int i2)]) hl [2] rfl
      cases h
      exact kk _ _ _ hH (lv_sub hl [0] rfl)
    · have h := mm_neg c1 h
      refine lv_aload_n hx hb dX3_rankOf_24 rfl (lv_at hl 0 rfl) ?_
      refine mm_get (v := .ref (b + 3)) C hH hin3 rfl kl_1 (mm_e3 kd_1) (j := 1) (by decide) rfl w2 rfl dX3_rankOf_25 ?_
      refine lv_iload hx hb dX3_rankOf_28 (lv_at hl 4 rfl) ?_
      obtain ⟨g1, h⟩ := mm_grn h
      refine mm_ald9 C hH kd_3 g1 dX3_rankOf_30 ?_
      refine lv_astore (lv' := [(5, .ref (b + (3 + 5 + Int32.toNatClampNeg i4))), (0, .ref (b + 1)), (1, .int a1), (2, .int i2), (3, .int a3), (4, .int i4)]) hx hb dX3_rankOf_31 hl (by decide) rfl (fun ls hl => ?_)
      refine lv_aload hx hb dX3_rankOf_33 (lv_at hl 0 rfl) ?_
      obtain ⟨v1, e1, h⟩ := mm_bnd h
      refine mm_goi hH (va_runV (As := []) (rest := []) ⟨hx, hb, C.2.2.1, C.2.2.2.1, C.2.2.2.2.1⟩ (ct_X1_canBeTaken l G T b z (3 + 5 + Int32.toNatClampNeg i4) x e1) (cwV 0 C.2.2.2.2.1 gX3_rankOf_X1_canBeTaken rfl rfl rfl df_X1_canBeTaken ⟨Nat.le_of_ble_eq_true rfl, Nat.le_of_ble_eq_true rfl⟩) ⟨mm_B.blind, mm_recv (q := (RX1, TX1, 8)) C hH (mm_lt (mm_ldc g1) (by decide)) (mm_e1 (mm_ldc g1)) rfl, mm_pre C hH⟩ rfl rfl hl.1 rfl (lv_room (Nat.le_of_ble_eq_true rfl)) dX3_rankOf_35 ⟨Nat.zero_le _, Nat.zero_le _⟩) (fun H locs hH => ?_)
      refine lv_if_eq (tgt := 68) hx hb dX3_rankOf_38 (by decide) (fun c2 => ?_) (fun c2 => ?_)
      · have h := mm_pos c2 h
        have hl := lv_sub (l' := [(0, .ref (b + 1)), (1, .int a1), (2, .int i2), (3, .int a3), (4, .int i4)]) hl [1, 2, 3, 4, 5] rfl
        obtain ⟨v2, e2, h⟩ := mm_bnd h
        refine lv_iinc (v := v2) (lv' := [(4, .int v2), (0, .ref (b + 1)), (1, .int a1), (2, .int i2), (3, .int a3)]) hx hb dX3_rankOf_68 hl (k := 4) rfl (Option.some.inj e2) (by decide) rfl (fun ls hl => ?_)
        refine lv_goto (tgt := 15) hx hb dX3_rankOf_71 (by decide) ?_
        exact ih i2 v2 x _ _ _ _ h hH (lv_sub hl [1, 2, 3, 4, 0] rfl) kk
      · have h := mm_neg c2 h
        refine lv_aload hx hb dX3_rankOf_41 (lv_at hl 0 rfl) ?_
        refine mm_get (v := .int (x (3 + 5 + Int32.toNatClampNeg i4) 1)) C hH hin1 rfl (mm_lt (mm_ldc g1) (by decide)) (mm_e1 (mm_ldc g1)) (j := 1) (by decide) rfl w3 rfl dX3_rankOf_43 ?_
        refine lv_iload_n hx hb dX3_rankOf_46 rfl (lv_at hl 4 rfl) ?_
        refine lv_icmp_lt (tgt := 65) hx hb dX3_rankOf_47 (by decide) (fun c3 => ?_) (fun c3 => ?_)
        · have h := mm_pos c3 h
          have hl := lv_sub (l' := [(0, .ref (b + 1)), (1, .int a1), (2, .int i2), (3, .int a3), (4, .int i4)]) hl [1, 2, 3, 4, 5] rfl
          obtain ⟨v3, e3, h⟩ := mm_bnd h
          refine lv_iinc (v := v3) (lv' := [(2, .int v3), (0, .ref (b + 1)), (1, .int a1), (3, .int a3), (4, .int i4)]) hx hb dX3_rankOf_65 hl (k := 2) rfl (Option.some.inj e3) (by decide) rfl (fun ls hl => ?_)
          obtain ⟨v4, e4, h⟩ := mm_bnd h
          refine lv_iinc (v := v4) (lv' := [(4, .int v4), (2, .int v3), (0, .ref (b + 1)), (1, .int a1), (3, .int a3)]) hx hb dX3_rankOf_68 hl (k := 4) rfl (Option.some.inj e4) (by decide) rfl (fun ls hl => ?_)
          refine lv_goto (tgt := 15) hx hb dX3_rankOf_71 (by decide) ?_
          exact ih v3 v4 x _ _ _ _ h hH (lv_sub hl [2, 3, 1, 4, 0] rfl) kk
        · have h := mm_neg c3 h
          refine lv_aload hx hb dX3_rankOf_50 (lv_at hl 0 rfl) ?_
          refine mm_get (v := .int (x (3 + 5 + Int32.toNatClampNeg i4) 1)) C hH hin1 rfl (mm_lt (mm_ldc g1) (by decide)) (mm_e1 (mm_ldc g1)) (j := 1) (by decide) rfl w3 rfl dX3_rankOf_52 ?_
          refine lv_iload_n hx hb dX3_rankOf_55 rfl (lv_at hl 4 rfl) ?_
          refine lv_icmp_ne (tgt := 68) hx hb dX3_rankOf_56 (by decide) (fun c4 => ?_) (fun c4 => ?_)
          · have h := mm_neg c4 h
            have hl := lv_sub (l' := [(0, .ref (b + 1)), (1, .int a1), (2, .int i2), (3, .int a3), (4, .int i4)]) hl [1, 2, 3, 4, 5] rfl
            obtain ⟨v5, e5, h⟩ := mm_bnd h
            refine lv_iinc (v := v5) (lv' := [(4, .int v5), (0, .ref (b + 1)), (1, .int a1), (2, .int i2), (3, .int a3)]) hx hb dX3_rankOf_68 hl (k := 4) rfl (Option.some.inj e5) (by decide) rfl (fun ls hl => ?_)
            refine lv_goto (tgt := 15) hx hb dX3_rankOf_71 (by decide) ?_
            exact ih i2 v5 x _ _ _ _ h hH (lv_sub hl [1, 2, 3, 4, 0] rfl) kk
          · have h := mm_pos c4 h
            have hl := lv_sub (l' := [(0, .ref (b + 1)), (1, .int a1), (2, .int i2), (3, .int a3), (4, .int i4)]) hl [1, 2, 3, 4, 5] rfl
            refine lv_iload hx hb dX3_rankOf_59 (lv_at hl 4 rfl) ?_
            refine lv_iload_n hx hb dX3_rankOf_61 rfl (lv_at hl 1 rfl) ?_
            refine lv_icmp_ge (tgt := 68) hx hb dX3_rankOf_62 (by decide) (fun c5 => ?_) (fun c5 => ?_)
            · have h := mm_pos c5 h
              obtain ⟨v6, e6, h⟩ := mm_bnd h
              refine lv_iinc (v := v6) (lv' := [(4, .int v6), (0, .ref (b + 1)), (1, .int a1), (2, .int i2), (3, .int a3)]) hx hb dX3_rankOf_68 hl (k := 4) rfl (Option.some.inj e6) (by decide) rfl (fun ls hl => ?_)
              refine lv_goto (tgt := 15) hx hb dX3_rankOf_71 (by decide) ?_
              exact ih i2 v6 x _ _ _ _ h hH (lv_sub hl [1, 2, 3, 4, 0] rfl) kk
            · have h := mm_neg c5 h
              obtain ⟨v7, e7, h⟩ := mm_bnd h
              refine lv_iinc (v := v7) (lv' := [(2, .int v7), (0, .ref (b + 1)), (1, .int a1), (3, .int a3), (4, .int i4)]) hx hb dX3_rankOf_65 hl (k := 2) rfl (Option.some.inj e7) (by decide) rfl (fun ls hl => ?_)
              obtain ⟨v8, e8, h⟩ := mm_bnd h
              refine lv_iinc (v := v8) (lv' := [(4, .int v8), (2, .int v7), (0, .ref (b + 1)), (1, .int a1), (3, .int a3)]) hx hb dX3_rankOf_68 hl (k := 4) rfl (Option.some.inj e8) (by decide) rfl (fun ls hl => ?_)
              refine lv_goto (tgt := 15) hx hb dX3_rankOf_71 (by decide) ?_
              exact ih v7 v8 x _ _ _ _ h hH (lv_sub hl [2, 3, 1, 4, 0] rfl) kk
set_option maxRecDepth 100000 in
set_option maxHeartbeats 4000000 in
theorem ct_X3_rankOf (l : Launch) (G : va_G) (T : Nat → ClassId) (b : Nat) (z : Nat → Nat) (a1 : Int32) (x : mm_M) {r : Int32} (h : fn_X3_rankOf a1 x = some r) : mm_Ci l yX3_rankOf wsX3_rankOf rm_X3_rankOf G T b z [.ref (b + 1), .int a1] x r x := by
  unfold fn_X3_rankOf at h
  refine mm_start (cc := cX3_rankOf) (maxL := 6) (ret := (some .int)) (by decide) rfl (Nat.le_of_ble_eq_true rfl) (fun p e s m below meth c ls C hr hlk hH hl => ?_)
  have hl : lv_has ls 6 [(0, .ref (b + 1)), (1, .int a1)] := hl
  have hx := C.1
  have hb := C.2.1
  have w1 := C.2.2.2.2.1 (.fieldLink RX3 25 "LandingFines$River" "landings" "[LLandingFines$Landing;") (by decide +kernel)
  have w2 := C.2.2.2.2.1 (.fieldLink RX3 88 "LandingFines$Landing" "fare" "I") (by decide +kernel)
  have hin1 : ∀ w ∈ wsX10, w ∈ wsX3_rankOf := by decide +kernel
  have hin3 : ∀ w ∈ wsX30, w ∈ wsX3_rankOf := by decide +kernel
  refine lv_iconst (v := 0) hx hb dX3_rankOf_0 (by decide) ?_
  refine lv_istore_n (lv' := [(2, .int 0), (0, .ref (b + 1)), (1, .int a1)]) hx hb dX3_rankOf_1 rfl hl (by decide) rfl (fun ls hl => ?_)
  refine lv_aload_n hx hb dX3_rankOf_2 rfl (lv_at hl 1 rfl) ?_
  refine mm_get (v := .ref (b + 3)) C hH hin3 rfl kl_1 (mm_e3 kd_1) (j := 1) (by decide) rfl w1 rfl dX3_rankOf_3 ?_
  refine lv_iload_n hx hb dX3_rankOf_6 rfl (lv_at hl 2 rfl) ?_
  obtain ⟨g1, h⟩ := mm_grn h
  refine mm_ald9 C hH kd_3 g1 dX3_rankOf_7 ?_
  refine mm_get (v := .int (x (3 + 5 + Int32.toNatClampNeg a1) 1)) C hH hin1 rfl (mm_lt (mm_ldc g1) (by decide)) (mm_e1 (mm_ldc g1)) (j := 1) (by decide) rfl w2 rfl dX3_rankOf_8 ?_
  obtain ⟨v1, e1, h⟩ := mm_bnd h
  refine mm_nmi e1 ?_
  refine lv_istore_n (lv' := [(3, .int v1), (2, .int 0), (0, .ref (b + 1)), (1, .int a1)]) hx hb dX3_rankOf_11 rfl hl (by decide) rfl (fun ls hl => ?_)
  refine lv_iconst (v := 0) hx hb dX3_rankOf_12 (by decide) ?_
  refine lv_istore (lv' := [(4, .int 0), (3, .int v1), (2, .int 0), (0, .ref (b + 1)), (1, .int a1)]) hx hb dX3_rankOf_13 hl (by decide) rfl (fun ls hl => ?_)
  obtain ⟨v2, e2, h⟩ := mm_bnd h
  refine lp_X3_rankOf_15 C a1 v1 9 0 0 x _ _ _ _ e2 hH (lv_sub hl [3, 4, 2, 1, 0] rfl) (fun H locs ls hH hl => ?_)
  refine lv_iload_n hx hb dX3_rankOf_74 rfl (lv_at hl 0 rfl) ?_
  exact mm_iretP C hH hr hlk rfl h dX3_rankOf_75
def fn_X3_chosen_2 : Nat → Int32 → Int32 → mm_M → Option Int32
  | 0, _, _, _ => none
  | n + 1, a1, i2, x => if (x 1 2) ≤ i2 then some ((-1) : Int32) else if i2 < 0 ∨ 8 ≤ Int32.toNatClampNeg i2 then none else (fn_X1_canBeTaken (3 + 5 + Int32.toNatClampNeg i2) x).bind fun v1 => if v1 = 0 then (some (i2 + 1)).bind fun v2 => fn_X3_chosen_2 n a1 v2 x else (fn_X3_rankOf i2 x).bind fun v3 => if v3 = a1 then some i2 else (some (i2 + 1)).bind fun v4 => fn_X3_chosen_2 n a1 v4 x
def fn_X3_chosen (a1 : Int32) (x : mm_M) : Option Int32 :=
  fn_X3_chosen_2 9 a1 0 x
abbrev rm_X3_chosen : Room := { frames := 2, cells := 0, slots := 0, locals := 45 }
theorem df_X3_chosen : yX3_chosen.cls = RX3 ∧ yX3_chosen.cls ≠ "java/lang/invoke/MethodHandle" ∧ yX3_chosen.cls ≠ "java/lang/invoke/VarHandle" ∧ (parseMethodDescriptor yX3_chosen.desc).map (fun d => d.parameters.length) = some 1 := by decide +kernel
set_option maxRecDepth 100000 in
set_option maxHeartbeats 4000000 in
theorem lp_X3_chosen_2 {p : Program} {l : Launch} {e : Env} {s : State} {m : MethodId} {args : Array Value} {below : List Frame} {meth : Method} {c : Code} {G : va_G} {T : Nat → ClassId} {b : Nat} {z : Nat → Nat} (C : mm_C p m c cX3_chosen 3 s args wsX3_chosen RX3 G T b z) (a1 : Int32) (hr : meth.sig.returnType = (some .int)) (hlk : meth.locks = false) : ∀ (n : Nat) (i2 : Int32) (x : mm_M) (H : Heap) (locs : List Loc) (ls : Array Slot) (r : Int32), fn_X3_chosen_2 n a1 i2 x = some r → mm_H G T b x s H locs → lv_has ls 3 [(0, .ref (b + 1)), (1, .int a1), (2, .int i2)] → W p l e rm_X3_chosen s m args below meth c H locs 0 0 (MQ below (mm_Qi G T b r x) args s 0 0 (mm_A b)) (F0 m 2 ls []) := by
  have hx := C.1
  have hb := C.2.1
  have w1 := C.2.2.2.2.1 (.fieldLink RX3 29 "LandingFines$River" "landingCount" "I") (by decide +kernel)
  have w2 := C.2.2.2.2.1 (.fieldLink RX3 25 "LandingFines$River" "landings" "[LLandingFines$Landing;") (by decide +kernel)
  have hin3 : ∀ w ∈ wsX30, w ∈ wsX3_chosen := by decide +kernel
  intro n
  induction n with
  | zero => intro _ _ _ _ _ _ h; cases (show (none : Option Int32) = some _ from h)
  | succ n ih =>
    intro i2 x H locs ls r h hH hl
    rw [fn_X3_chosen_2] at h
    refine lv_iload_n hx hb dX3_chosen_2 rfl (lv_at hl 2 rfl) ?_
    refine lv_aload_n hx hb dX3_chosen_3 rfl (lv_at hl 0 rfl) ?_
    refine mm_get (v := .int (x 1 2)) C hH hin3 rfl kl_1 (mm_e3 kd_1) (j := 2) (by decide) rfl w1 rfl dX3_chosen_4 ?_
    refine lv_icmp_ge (tgt := 39) hx hb dX3_chosen_7 (by decide) (fun c1 => ?_) (fun c1 => ?_)
    · have h := mm_pos c1 h
      have hl := lv_sub (l' := []) hl [] rfl
      refine lv_iconst (v := (-1)) hx hb dX3_chosen_39 (by decide) ?_
      exact mm_iretP C hH hr hlk rfl h dX3_chosen_40
    · have h := mm_neg c1 h
      refine lv_aload_n hx hb dX3_chosen_10 rfl (lv_at hl 0 rfl) ?_
      refine mm_get (v := .ref (b + 3)) C hH hin3 rfl kl_1 (mm_e3 kd_1) (j := 1) (by decide) rfl w2 rfl dX3_chosen_11 ?_
      refine lv_iload_n hx hb dX3_chosen_14 rfl (lv_at hl 2 rfl) ?_
      obtain ⟨g1, h⟩ := mm_grn h
      refine mm_ald9 C hH kd_3 g1 dX3_chosen_15 ?_
      obtain ⟨v1, e1, h⟩ := mm_bnd h
      refine mm_goi hH (va_runV (As := []) (rest := []) ⟨hx, hb, C.2.2.1, C.2.2.2.1, C.2.2.2.2.1⟩ (ct_X1_canBeTaken l G T b z (3 + 5 + Int32.toNatClampNeg i2) x e1) (cwV 0 C.2.2.2.2.1 gX3_chosen_X1_canBeTaken rfl rfl rfl df_X1_canBeTaken ⟨Nat.le_of_ble_eq_true rfl, Nat.le_of_ble_eq_true rfl⟩) ⟨mm_B.blind, mm_recv (q := (RX1, TX1, 8)) C hH (mm_lt (mm_ldc g1) (by decide)) (mm_e1 (mm_ldc g1)) rfl, mm_pre C hH⟩ rfl rfl hl.1 rfl (lv_room (Nat.le_of_ble_eq_true rfl)) dX3_chosen_16 ⟨Nat.zero_le _, Nat.zero_le _⟩) (fun H locs hH => ?_)
      refine lv_if_eq (tgt := 33) hx hb dX3_chosen_19 (by decide) (fun c2 => ?_) (fun c2 => ?_)
      · have h := mm_pos c2 h
        obtain ⟨v2, e2, h⟩ := mm_bnd h
        refine lv_iinc (v := v2) (lv' := [(2, .int v2), (0, .ref (b + 1)), (1, .int a1)]) hx hb dX3_chosen_33 hl (k := 2) rfl (Option.some.inj e2) (by decide) rfl (fun ls hl => ?_)
        refine lv_goto (tgt := 2) hx hb dX3_chosen_36 (by decide) ?_
        exact ih v2 x _ _ _ _ h hH (lv_sub hl [1, 2, 0] rfl)
      · have h := mm_neg c2 h
        refine lv_aload_n hx hb dX3_chosen_22 rfl (lv_at hl 0 rfl) ?_
        refine lv_iload_n hx hb dX3_chosen_23 rfl (lv_at hl 2 rfl) ?_
        obtain ⟨v3, e3, h⟩ := mm_bnd h
        refine mm_goi hH (va_runV (As := [.int i2]) (rest := []) ⟨hx, hb, C.2.2.1, C.2.2.2.1, C.2.2.2.2.1⟩ (ct_X3_rankOf l G T b z i2 x e3) (cwV 1 C.2.2.2.2.1 gX3_chosen_X3_rankOf rfl rfl rfl df_X3_rankOf ⟨Nat.le_of_ble_eq_true rfl, Nat.le_of_ble_eq_true rfl⟩) ⟨mm_B.blind, mm_recv (q := (RX3, TX3, 7)) C hH kl_1 (mm_e3 kd_1) rfl, mm_pre C hH⟩ rfl rfl hl.1 rfl (lv_room (Nat.le_of_ble_eq_true rfl)) dX3_chosen_24 ⟨Nat.zero_le _, Nat.zero_le _⟩) (fun H locs hH => ?_)
        refine lv_iload_n hx hb dX3_chosen_27 rfl (lv_at hl 1 rfl) ?_
        refine lv_icmp_ne (tgt := 33) hx hb dX3_chosen_28 (by decide) (fun c3 => ?_) (fun c3 => ?_)
        · have h := mm_neg c3 h
          obtain ⟨v4, e4, h⟩ := mm_bnd h
          refine lv_iinc (v := v4) (lv' := [(2, .int v4), (0, .ref (b + 1)), (1, .int a1)]) hx hb dX3_chosen_33 hl (k := 2) rfl (Option.some.inj e4) (by decide) rfl (fun ls hl => ?_)
          refine lv_goto (tgt := 2) hx hb dX3_chosen_36 (by decide) ?_
          exact ih v4 x _ _ _ _ h hH (lv_sub hl [1, 2, 0] rfl)
        · have h := mm_pos c3 h
          have hl := lv_sub (l' := [(2, .int i2)]) hl [2] rfl
          refine lv_iload_n hx hb dX3_chosen_31 rfl (lv_at hl 0 rfl) ?_
          exact mm_iretP C hH hr hlk rfl h dX3_chosen_32
set_option maxRecDepth 100000 in
set_option maxHeartbeats 4000000 in
theorem ct_X3_chosen (l : Launch) (G : va_G) (T : Nat → ClassId) (b : Nat) (z : Nat → Nat) (a1 : Int32) (x : mm_M) {r : Int32} (h : fn_X3_chosen a1 x = some r) : mm_Ci l yX3_chosen wsX3_chosen rm_X3_chosen G T b z [.ref (b + 1), .int a1] x r x := by
  unfold fn_X3_chosen at h
  refine mm_start (cc := cX3_chosen) (maxL := 3) (ret := (some .int)) (by decide) rfl (Nat.le_of_ble_eq_true rfl) (fun p e s m below meth c ls C hr hlk hH hl => ?_)
  have hl : lv_has ls 3 [(0, .ref (b + 1)), (1, .int a1)] := hl
  have hx := C.1
  have hb := C.2.1
  refine lv_iconst (v := 0) hx hb dX3_chosen_0 (by decide) ?_
  refine lv_istore_n (lv' := [(2, .int 0), (0, .ref (b + 1)), (1, .int a1)]) hx hb dX3_chosen_1 rfl hl (by decide) rfl (fun ls hl => ?_)
  exact lp_X3_chosen_2 C a1  hr hlk 9 0 x _ _ _ _ h hH (lv_sub hl [1, 2, 0] rfl)
def fn_X3_openOnes_4 : Nat → Int32 → Int32 → mm_M → Option Int32
  | 0, _, _, _ => none
  | n + 1, i1, i2, x => if (x 1 2) ≤ i2 then some (i1) else if i2 < 0 ∨ 8 ≤ Int32.toNatClampNeg i2 then none else if (x (3 + 5 + Int32.toNatClampNeg i2) 0) = 0 then (some (i2 + 1)).bind fun v1 => fn_X3_openOnes_4 n  i1 v1 x else (some ((i1 ||| ((1 : Int32) <<< (i2 &&& 31))) : Int32)).bind fun v2 => (some (i2 + 1)).bind fun v3 => fn_X3_openOnes_4 n  v2 v3 x
def fn_X3_openOnes  (x : mm_M) : Option Int32 :=
  (fn_X3_openOnes_4 9 0 0 x).bind fun v1 => some v1
abbrev rm_X3_openOnes : Room := { frames := 0, cells := 0, slots := 0, locals := 0 }
theorem df_X3_openOnes : yX3_openOnes.cls = RX3 ∧ yX3_openOnes.cls ≠ "java/lang/invoke/MethodHandle" ∧ yX3_openOnes.cls ≠ "java/lang/invoke/VarHandle" ∧ (parseMethodDescriptor yX3_openOnes.desc).map (fun d => d.parameters.length) = some 0 := by decide +kernel
set_option maxRecDepth 100000 in
set_option maxHeartbeats 4000000 in
theorem lp_X3_openOnes_4 {p : Program} {l : Launch} {e : Env} {s : State} {m : MethodId} {args : Array Value} {below : List Frame} {meth : Method} {c : Code} {Q : State → Prop} {G : va_G} {T : Nat → ClassId} {b : Nat} {z : Nat → Nat} (C : mm_C p m c cX3_openOnes 3 s args wsX3_openOnes RX3 G T b z)  : ∀ (n : Nat) (i1 : Int32) (i2 : Int32) (x : mm_M) (H : Heap) (locs : List Loc) (ls : Array Slot) (r1 : Int32), fn_X3_openOnes_4 n i1 i2 x = some (r1) → mm_H G T b x s H locs → lv_has ls 3 [(0, .ref (b + 1)), (1, .int i1), (2, .int i2)] → (∀ (H1 : Heap) (locs1 : List Loc) (ls1 : Array Slot), mm_H G T b x s H1 locs1 → lv_has ls1 3 [(1, .int r1)] → W p l e rm_X3_openOnes s m args below meth c H1 locs1 0 0 Q (F0 m 36 ls1 [])) → W p l e rm_X3_openOnes s m args below meth c H locs 0 0 Q (F0 m 4 ls []) := by
  have hx := C.1
  have hb := C.2.1
  have w1 := C.2.2.2.2.1 (.fieldLink RX3 29 "LandingFines$River" "landingCount" "I") (by decide +kernel)
  have w2 := C.2.2.2.2.1 (.fieldLink RX3 25 "LandingFines$River" "landings" "[LLandingFines$Landing;") (by decide +kernel)
  have w3 := C.2.2.2.2.1 (.fieldLink RX3 80 "LandingFines$Landing" "isOpen" "Z") (by decide +kernel)
  have hin1 : ∀ w ∈ wsX10, w ∈ wsX3_openOnes := by decide +kernel
  have hin3 : ∀ w ∈ wsX30, w ∈ wsX3_openOnes := by decide +kernel
  intro n
  induction n with
  | zero => intro _ _ _ _ _ _ _ h; cases (show (none : Option Int32) = some _ from h)
  | succ n ih =>
    intro i1 i2 x H locs ls r1 h hH hl kk
    rw [fn_X3_openOnes_4] at h
    refine lv_iload_n hx hb dX3_openOnes_4 rfl (lv_at hl 2 rfl) ?_
    refine lv_aload_n hx hb dX3_openOnes_5 rfl (lv_at hl 0 rfl) ?_
    refine mm_get (v := .int (x 1 2)) C hH hin3 rfl kl_1 (mm_e3 kd_1) (j := 2) (by decide) rfl w1 rfl dX3_openOnes_6 ?_
    refine lv_icmp_ge (tgt := 36) hx hb dX3_openOnes_9 (by decide) (fun c1 => ?_) (fun c1 => ?_)
    · have h := mm_pos c1 h
      have hl := lv_sub (l' := [(1, .int i1)]) hl [1] rfl
      cases h
      exact kk _ _ _ hH (lv_sub hl [0] rfl)
    · have h := mm_neg c1 h
      refine lv_aload_n hx hb dX3_openOnes_12 rfl (lv_at hl 0 rfl) ?_
      refine mm_get (v := .ref (b + 3)) C hH hin3 rfl kl_1 (mm_e3 kd_1) (j := 1) (by decide) rfl w2 rfl dX3_openOnes_13 ?_
      refine lv_iload_n hx hb dX3_openOnes_16 rfl (lv_at hl 2 rfl) ?_
      obtain ⟨g1, h⟩ := mm_grn h
      refine mm_ald9 C hH kd_3 g1 dX3_openOnes_17 ?_
      refine mm_get (v := .int (x (3 + 5 + Int32.toNatClampNeg i2) 0)) C hH hin1 rfl (mm_lt (mm_ldc g1) (by decide)) (mm_e1 (mm_ldc g1)) (j := 0) (by decide) rfl w3 rfl dX3_openOnes_18 ?_
      refine lv_if_eq (tgt := 30) hx hb dX3_openOnes_21 (by decide) (fun c2 => ?_) (fun c2 => ?_)
      · have h := mm_pos c2 h
        obtain ⟨v1, e1, h⟩ := mm_bnd h
        refine lv_iinc (v := v1) (lv' := [(2, .int v1), (0, .ref (b + 1)), (1, .int i1)]) hx hb dX3_openOnes_30 hl (k := 2) rfl (Option.some.inj e1) (by decide) rfl (fun ls hl => ?_)
        refine lv_goto (tgt := 4) hx hb dX3_openOnes_33 (by decide) ?_
        exact ih i1 v1 x _ _ _ _ h hH (lv_sub hl [1, 2, 0] rfl) kk
      · have h := mm_neg c2 h
        refine lv_iload_n hx hb dX3_openOnes_24 rfl (lv_at hl 1 rfl) ?_
        refine lv_iconst (v := 1) hx hb dX3_openOnes_25 (by decide) ?_
        refine lv_iload_n hx hb dX3_openOnes_26 rfl (lv_at hl 2 rfl) ?_
        refine lv_ishl hx hb dX3_openOnes_27 ?_
        refine lv_ior hx hb dX3_openOnes_28 ?_
        obtain ⟨v2, e2, h⟩ := mm_bnd h
        refine mm_nmi e2 ?_
        refine lv_istore_n (lv' := [(1, .int v2), (0, .ref (b + 1)), (2, .int i2)]) hx hb dX3_openOnes_29 rfl hl (by decide) rfl (fun ls hl => ?_)
        obtain ⟨v3, e3, h⟩ := mm_bnd h
        refine lv_iinc (v := v3) (lv' := [(2, .int v3), (1, .int v2), (0, .ref (b + 1))]) hx hb dX3_openOnes_30 hl (k := 2) rfl (Option.some.inj e3) (by decide) rfl (fun ls hl => ?_)
        refine lv_goto (tgt := 4) hx hb dX3_openOnes_33 (by decide) ?_
        exact ih v2 v3 x _ _ _ _ h hH (lv_sub hl [2, 1, 0] rfl) kk
set_option maxRecDepth 100000 in
set_option maxHeartbeats 4000000 in
theorem ct_X3_openOnes (l : Launch) (G : va_G) (T : Nat → ClassId) (b : Nat) (z : Nat → Nat)  (x : mm_M) {r : Int32} (h : fn_X3_openOnes  x = some r) : mm_Ci l yX3_openOnes wsX3_openOnes rm_X3_openOnes G T b z [.ref (b + 1)] x r x := by
  unfold fn_X3_openOnes at h
  refine mm_start (cc := cX3_openOnes) (maxL := 3) (ret := (some .int)) (by decide) rfl (Nat.le_of_ble_eq_true rfl) (fun p e s m below meth c ls C hr hlk hH hl => ?_)
  have hl : lv_has ls 3 [(0, .ref (b + 1))] := hl
  have hx := C.1
  have hb := C.2.1
  refine lv_iconst (v := 0) hx hb dX3_openOnes_0 (by decide) ?_
  refine lv_istore_n (lv' := [(1, .int 0), (0, .ref (b + 1))]) hx hb dX3_openOnes_1 rfl hl (by decide) rfl (fun ls hl => ?_)
  refine lv_iconst (v := 0) hx hb dX3_openOnes_2 (by decide) ?_
  refine lv_istore_n (lv' := [(2, .int 0), (1, .int 0), (0, .ref (b + 1))]) hx hb dX3_openOnes_3 rfl hl (by decide) rfl (fun ls hl => ?_)
  obtain ⟨v1, e1, h⟩ := mm_bnd h
  refine lp_X3_openOnes_4 C 9 0 0 x _ _ _ _ e1 hH (lv_sub hl [2, 1, 0] rfl) (fun H locs ls hH hl => ?_)
  refine lv_iload_n hx hb dX3_openOnes_36 rfl (lv_at hl 0 rfl) ?_
  exact mm_iretP C hH hr hlk rfl h dX3_openOnes_37
def fn_X3_shunnedOnes_4 : Nat → Int32 → Int32 → mm_M → Option Int32
  | 0, _, _, _ => none
  | n + 1, i1, i2, x => if (x 1 2) ≤ i2 then some (i1) else if i2 < 0 ∨ 8 ≤ Int32.toNatClampNeg i2 then none else if (x (3 + 5 + Int32.toNatClampNeg i2) 3) = 0 then (some (i2 + 1)).bind fun v1 => fn_X3_shunnedOnes_4 n  i1 v1 x else (some ((i1 ||| ((1 : Int32) <<< (i2 &&& 31))) : Int32)).bind fun v2 => (some (i2 + 1)).bind fun v3 => fn_X3_shunnedOnes_4 n  v2 v3 x
def fn_X3_shunnedOnes  (x : mm_M) : Option Int32 :=
  (fn_X3_shunnedOnes_4 9 0 0 x).bind fun v1 => some v1
abbrev rm_X3_shunnedOnes : Room := { frames := 0, cells := 0, slots := 0, locals := 0 }
theorem df_X3_shunnedOnes : yX3_shunnedOnes.cls = RX3 ∧ yX3_shunnedOnes.cls ≠ "java/lang/invoke/MethodHandle" ∧ yX3_shunnedOnes.cls ≠ "java/lang/invoke/VarHandle" ∧ (parseMethodDescriptor yX3_shunnedOnes.desc).map (fun d => d.parameters.length) = some 0 := by decide +kernel
set_option maxRecDepth 100000 in
set_option maxHeartbeats 4000000 in
theorem lp_X3_shunnedOnes_4 {p : Program} {l : Launch} {e : Env} {s : State} {m : MethodId} {args : Array Value} {below : List Frame} {meth : Method} {c : Code} {Q : State → Prop} {G : va_G} {T : Nat → ClassId} {b : Nat} {z : Nat → Nat} (C : mm_C p m c cX3_shunnedOnes 3 s args wsX3_shunnedOnes RX3 G T b z)  : ∀ (n : Nat) (i1 : Int32) (i2 : Int32) (x : mm_M) (H : Heap) (locs : List Loc) (ls : Array Slot) (r1 : Int32), fn_X3_shunnedOnes_4 n i1 i2 x = some (r1) → mm_H G T b x s H locs → lv_has ls 3 [(0, .ref (b + 1)), (1, .int i1), (2, .int i2)] → (∀ (H1 : Heap) (locs1 : List Loc) (ls1 : Array Slot), mm_H G T b x s H1 locs1 → lv_has ls1 3 [(1, .int r1)] → W p l e rm_X3_shunnedOnes s m args below meth c H1 locs1 0 0 Q (F0 m 36 ls1 [])) → W p l e rm_X3_shunnedOnes s m args below meth c H locs 0 0 Q (F0 m 4 ls []) := by
  have hx := C.1
  have hb := C.2.1
  have w1 := C.2.2.2.2.1 (.fieldLink RX3 29 "LandingFines$River" "landingCount" "I") (by decide +kernel)
  have w2 := C.2.2.2.2.1 (.fieldLink RX3 25 "LandingFines$River" "landings" "[LLandingFines$Landing;") (by decide +kernel)
  have w3 := C.2.2.2.2.1 (.fieldLink RX3 148 "LandingFines$Landing" "isShunned" "Z") (by decide +kernel)
  have hin1 : ∀ w ∈ wsX10, w ∈ wsX3_shunnedOnes := by decide +kernel
  have hin3 : ∀ w ∈ wsX30, w ∈ wsX3_shunnedOnes := by decide +kernel
  intro n
  induction n with
  | zero => intro _ _ _ _ _ _ _ h; cases (show (none : Option Int32) = some _ from h)
  | succ n ih =>
    intro i1 i2 x H locs ls r1 h hH hl kk
    rw [fn_X3_shunnedOnes_4] at h
    refine lv_iload_n hx hb dX3_shunnedOnes_4 rfl (lv_at hl 2 rfl) ?_
    refine lv_aload_n hx hb dX3_shunnedOnes_5 rfl (lv_at hl 0 rfl) ?_
    refine mm_get (v := .int (x 1 2)) C hH hin3 rfl kl_1 (mm_e3 kd_1) (j := 2) (by decide) rfl w1 rfl dX3_shunnedOnes_6 ?_
    refine lv_icmp_ge (tgt := 36) hx hb dX3_shunnedOnes_9 (by decide) (fun c1 => ?_) (fun c1 => ?_)
    · have h := mm_pos c1 h
      have hl := lv_sub (l' := [(1, .int i1)]) hl [1] rfl
      cases h
      exact kk _ _ _ hH (lv_sub hl [0] rfl)
    · have h := mm_neg c1 h
      refine lv_aload_n hx hb dX3_shunnedOnes_12 rfl (lv_at hl 0 rfl) ?_
      refine mm_get (v := .ref (b + 3)) C hH hin3 rfl kl_1 (mm_e3 kd_1) (j := 1) (by decide) rfl w2 rfl dX3_shunnedOnes_13 ?_
      refine lv_iload_n hx hb dX3_shunnedOnes_16 rfl (lv_at hl 2 rfl) ?_
      obtain ⟨g1, h⟩ := mm_grn h
      refine mm_ald9 C hH kd_3 g1 dX3_shunnedOnes_17 ?_
      refine mm_get (v := .int (x (3 + 5 + Int32.toNatClampNeg i2) 3)) C hH hin1 rfl (mm_lt (mm_ldc g1) (by decide)) (mm_e1 (mm_ldc g1)) (j := 3) (by decide) rfl w3 rfl dX3_shunnedOnes_18 ?_
      refine lv_if_eq (tgt := 30) hx hb dX3_shunnedOnes_21 (by decide) (fun c2 => ?_) (fun c2 => ?_)
      · have h := mm_pos c2 h
        obtain ⟨v1, e1, h⟩ := mm_bnd h
        refine lv_iinc (v := v1) (lv' := [(2, .int v1), (0, .ref (b + 1)), (1, .int i1)]) hx hb dX3_shunnedOnes_30 hl (k := 2) rfl (Option.some.inj e1) (by decide) rfl (fun ls hl => ?_)
        refine lv_goto (tgt := 4) hx hb dX3_shunnedOnes_33 (by decide) ?_
        exact ih i1 v1 x _ _ _ _ h hH (lv_sub hl [1, 2, 0] rfl) kk
      · have h := mm_neg c2 h
        refine lv_iload_n hx hb dX3_shunnedOnes_24 rfl (lv_at hl 1 rfl) ?_
        refine lv_iconst (v := 1) hx hb dX3_shunnedOnes_25 (by decide) ?_
        refine lv_iload_n hx hb dX3_shunnedOnes_26 rfl (lv_at hl 2 rfl) ?_
        refine lv_ishl hx hb dX3_shunnedOnes_27 ?_
        refine lv_ior hx hb dX3_shunnedOnes_28 ?_
        obtain ⟨v2, e2, h⟩ := mm_bnd h
        refine mm_nmi e2 ?_
        refine lv_istore_n (lv' := [(1, .int v2), (0, .ref (b + 1)), (2, .int i2)]) hx hb dX3_shunnedOnes_29 rfl hl (by decide) rfl (fun ls hl => ?_)
        obtain ⟨v3, e3, h⟩ := mm_bnd h
        refine lv_iinc (v := v3) (lv' := [(2, .int v3), (1, .int v2), (0, .ref (b + 1))]) hx hb dX3_shunnedOnes_30 hl (k := 2) rfl (Option.some.inj e3) (by decide) rfl (fun ls hl => ?_)
        refine lv_goto (tgt := 4) hx hb dX3_shunnedOnes_33 (by decide) ?_
        exact ih v2 v3 x _ _ _ _ h hH (lv_sub hl [2, 1, 0] rfl) kk
set_option maxRecDepth 100000 in
set_option maxHeartbeats 4000000 in
theorem ct_X3_shunnedOnes (l : Launch) (G : va_G) (T : Nat → ClassId) (b : Nat) (z : Nat → Nat)  (x : mm_M) {r : Int32} (h : fn_X3_shunnedOnes  x = some r) : mm_Ci l yX3_shunnedOnes wsX3_shunnedOnes rm_X3_shunnedOnes G T b z [.ref (b + 1)] x r x := by
  unfold fn_X3_shunnedOnes at h
  refine mm_start (cc := cX3_shunnedOnes) (maxL := 3) (ret := (some .int)) (by decide) rfl (Nat.le_of_ble_eq_true rfl) (fun p e s m below meth c ls C hr hlk hH hl => ?_)
  have hl : lv_has ls 3 [(0, .ref (b + 1))] := hl
  have hx := C.1
  have hb := C.2.1
  refine lv_iconst (v := 0) hx hb dX3_shunnedOnes_0 (by decide) ?_
  refine lv_istore_n (lv' := [(1, .int 0), (0, .ref (b + 1))]) hx hb dX3_shunnedOnes_1 rfl hl (by decide) rfl (fun ls hl => ?_)
  refine lv_iconst (v := 0) hx hb dX3_shunnedOnes_2 (by decide) ?_
  refine lv_istore_n (lv' := [(2, .int 0), (1, .int 0), (0, .ref (b + 1))]) hx hb dX3_shunnedOnes_3 rfl hl (by decide) rfl (fun ls hl => ?_)
  obtain ⟨v1, e1, h⟩ := mm_bnd h
  refine lp_X3_shunnedOnes_4 C 9 0 0 x _ _ _ _ e1 hH (lv_sub hl [2, 1, 0] rfl) (fun H locs ls hH hl => ?_)
  refine lv_iload_n hx hb dX3_shunnedOnes_36 rfl (lv_at hl 0 rfl) ?_
  exact mm_iretP C hH hr hlk rfl h dX3_shunnedOnes_37
def fn_X3_tell (a1 : Int32) (x : mm_M) : Option Int32 :=
  if a1 = 0 then some (x 1 3) else if a1 = 1 then some (x 1 2) else if a1 = 2 then (fn_X3_openOnes x).bind fun v1 => some v1 else if a1 = 3 then (fn_X3_shunnedOnes x).bind fun v2 => some v2 else if a1 = 4 then some (x 1 4) else if a1 = 5 then some (x 1 5) else if a1 = 6 then some (x 4 3) else if a1 < 7 then some ((-2) : Int32) else if (7 : Int32) ≤ (a1 - 7) then some ((-2) : Int32) else if (a1 - 7) < 0 ∨ 7 ≤ Int32.toNatClampNeg (a1 - 7) then none else some (x 2 (Int32.toNatClampNeg (a1 - 7)))
abbrev rm_X3_tell : Room := { frames := 1, cells := 0, slots := 0, locals := 22 }
theorem df_X3_tell : yX3_tell.cls = RX3 ∧ yX3_tell.cls ≠ "java/lang/invoke/MethodHandle" ∧ yX3_tell.cls ≠ "java/lang/invoke/VarHandle" ∧ (parseMethodDescriptor yX3_tell.desc).map (fun d => d.parameters.length) = some 1 := by decide +kernel
set_option maxRecDepth 100000 in
set_option maxHeartbeats 4000000 in
theorem ct_X3_tell (l : Launch) (G : va_G) (T : Nat → ClassId) (b : Nat) (z : Nat → Nat) (a1 : Int32) (x : mm_M) {r : Int32} (h : fn_X3_tell a1 x = some r) : mm_Ci l yX3_tell wsX3_tell rm_X3_tell G T b z [.ref (b + 1), .int a1] x r x := by
  unfold fn_X3_tell at h
  refine mm_start (cc := cX3_tell) (maxL := 2) (ret := (some .int)) (by decide) rfl (Nat.le_of_ble_eq_true rfl) (fun p e s m below meth c ls C hr hlk hH hl => ?_)
  have hl : lv_has ls 2 [(0, .ref (b + 1)), (1, .int a1)] := hl
  have hx := C.1
  have hb := C.2.1
  have w1 := C.2.2.2.2.1 (.fieldLink RX3 33 "LandingFines$River" "minutesSoFar" "I") (by decide +kernel)
  have w2 := C.2.2.2.2.1 (.fieldLink RX3 29 "LandingFines$River" "landingCount" "I") (by decide +kernel)
  have w3 := C.2.2.2.2.1 (.fieldLink RX3 36 "LandingFines$River" "taken" "I") (by decide +kernel)
  have w4 := C.2.2.2.2.1 (.fieldLink RX3 39 "LandingFines$River" "switches" "I") (by decide +kernel)
  have w5 := C.2.2.2.2.1 (.fieldLink RX3 45 "LandingFines$River" "journal" "LLandingFines$Journal;") (by decide +kernel)
  have w6 := C.2.2.2.2.1 (.fieldLink RX3 145 "LandingFines$Journal" "size" "I") (by decide +kernel)
  have w7 := C.2.2.2.2.1 (.fieldLink RX3 18 "LandingFines$River" "settings" "[I") (by decide +kernel)
  have hin0 : ∀ w ∈ wsX00, w ∈ wsX3_tell := by decide +kernel
  have hin3 : ∀ w ∈ wsX30, w ∈ wsX3_tell := by decide +kernel
  refine lv_iload_n hx hb dX3_tell_0 rfl (lv_at hl 1 rfl) ?_
  by_cases c1 : a1 = 0
  · have h := mm_pos c1 h
    refine lv_tableIn (off := 43) (tgt := 44) hx hb dX3_tell_1 (by rw [c1]; decide) (by rw [c1]; decide) (by rw [c1]; decide) (by decide) ?_
    have hl := lv_sub (l' := [(0, .ref (b + 1))]) hl [0] rfl
    refine lv_aload_n hx hb dX3_tell_44 rfl (lv_at hl 0 rfl) ?_
    refine mm_get (v := .int (x 1 3)) C hH hin3 rfl kl_1 (mm_e3 kd_1) (j := 3) (by decide) rfl w1 rfl dX3_tell_45 ?_
    exact mm_iretP C hH hr hlk rfl h dX3_tell_48
  have h := mm_neg c1 h
  by_cases c2 : a1 = 1
  · have h := mm_pos c2 h
    refine lv_tableIn (off := 48) (tgt := 49) hx hb dX3_tell_1 (by rw [c2]; decide) (by rw [c2]; decide) (by rw [c2]; decide) (by decide) ?_
    have hl := lv_sub (l' := [(0, .ref (b + 1))]) hl [0] rfl
    refine lv_aload_n hx hb dX3_tell_49 rfl (lv_at hl 0 rfl) ?_
    refine mm_get (v := .int (x 1 2)) C hH hin3 rfl kl_1 (mm_e3 kd_1) (j := 2) (by decide) rfl w2 rfl dX3_tell_50 ?_
    exact mm_iretP C hH hr hlk rfl h dX3_tell_53
  have h := mm_neg c2 h
  by_cases c3 : a1 = 2
  · have h := mm_pos c3 h
    refine lv_tableIn (off := 53) (tgt := 54) hx hb dX3_tell_1 (by rw [c3]; decide) (by rw [c3]; decide) (by rw [c3]; decide) (by decide) ?_
    have hl := lv_sub (l' := [(0, .ref (b + 1))]) hl [0] rfl
    refine lv_aload_n hx hb dX3_tell_54 rfl (lv_at hl 0 rfl) ?_
    obtain ⟨v1, e1, h⟩ := mm_bnd h
    refine mm_goi hH (va_runV (As := []) (rest := []) ⟨hx, hb, C.2.2.1, C.2.2.2.1, C.2.2.2.2.1⟩ (ct_X3_openOnes l G T b z x e1) (cwV 0 C.2.2.2.2.1 gX3_tell_X3_openOnes rfl rfl rfl df_X3_openOnes ⟨Nat.le_of_ble_eq_true rfl, Nat.le_of_ble_eq_true rfl⟩) ⟨mm_B.blind, mm_recv (q := (RX3, TX3, 7)) C hH kl_1 (mm_e3 kd_1) rfl, mm_pre C hH⟩ rfl rfl hl.1 rfl (lv_room (Nat.le_of_ble_eq_true rfl)) dX3_tell_55 ⟨Nat.zero_le _, Nat.zero_le _⟩) (fun H locs hH => ?_)
    exact mm_iretP C hH hr hlk rfl h dX3_tell_58
  have h := mm_neg c3 h
  by_cases c4 : a1 = 3
  · have h := mm_pos c4 h
    refine lv_tableIn (off := 58) (tgt := 59) hx hb dX3_tell_1 (by rw [c4]; decide) (by rw [c4]; decide) (by rw [c4]; decide) (by decide) ?_
    have hl := lv_sub (l' := [(0, .ref (b + 1))]) hl [0] rfl
    refine lv_aload_n hx hb dX3_tell_59 rfl (lv_at hl 0 rfl) ?_
    obtain ⟨v2, e2, h⟩ := mm_bnd h
    refine mm_goi hH (va_runV (As := []) (rest := []) ⟨hx, hb, C.2.2.1, C.2.2.2.1, C.2.2.2.2.1⟩ (ct_X3_shunnedOnes l G T b z x e2) (cwV 0 C.2.2.2.2.1 gX3_tell_X3_shunnedOnes rfl rfl rfl df_X3_shunnedOnes ⟨Nat.le_of_ble_eq_true rfl, Nat.le_of_ble_eq_true rfl⟩) ⟨mm_B.blind, mm_recv (q := (RX3, TX3, 7)) C hH kl_1 (mm_e3 kd_1) rfl, mm_pre C hH⟩ rfl rfl hl.1 rfl (lv_room (Nat.le_of_ble_eq_true rfl)) dX3_tell_60 ⟨Nat.zero_le _, Nat.zero_le _⟩) (fun H locs hH => ?_)
    exact mm_iretP C hH hr hlk rfl h dX3_tell_63
  have h := mm_neg c4 h
  by_cases c5 : a1 = 4
  · have h := mm_pos c5 h
    refine lv_tableIn (off := 63) (tgt := 64) hx hb dX3_tell_1 (by rw [c5]; decide) (by rw [c5]; decide) (by rw [c5]; decide) (by decide) ?_
    have hl := lv_sub (l' := [(0, .ref (b + 1))]) hl [0] rfl
    refine lv_aload_n hx hb dX3_tell_64 rfl (lv_at hl 0 rfl) ?_
    refine mm_get (v := .int (x 1 4)) C hH hin3 rfl kl_1 (mm_e3 kd_1) (j := 4) (by decide) rfl w3 rfl dX3_tell_65 ?_
    exact mm_iretP C hH hr hlk rfl h dX3_tell_68
  have h := mm_neg c5 h
  by_cases c6 : a1 = 5
  · have h := mm_pos c6 h
    refine lv_tableIn (off := 68) (tgt := 69) hx hb dX3_tell_1 (by rw [c6]; decide) (by rw [c6]; decide) (by rw [c6]; decide) (by decide) ?_
    have hl := lv_sub (l' := [(0, .ref (b + 1))]) hl [0] rfl
    refine lv_aload_n hx hb dX3_tell_69 rfl (lv_at hl 0 rfl) ?_
    refine mm_get (v := .int (x 1 5)) C hH hin3 rfl kl_1 (mm_e3 kd_1) (j := 5) (by decide) rfl w4 rfl dX3_tell_70 ?_
    exact mm_iretP C hH hr hlk rfl h dX3_tell_73
  have h := mm_neg c6 h
  by_cases c7 : a1 = 6
  · have h := mm_pos c7 h
    refine lv_tableIn (off := 73) (tgt := 74) hx hb dX3_tell_1 (by rw [c7]; decide) (by rw [c7]; decide) (by rw [c7]; decide) (by decide) ?_
    have hl := lv_sub (l' := [(0, .ref (b + 1))]) hl [0] rfl
    refine lv_aload_n hx hb dX3_tell_74 rfl (lv_at hl 0 rfl) ?_
    refine mm_get (v := .ref (b + 4)) C hH hin3 rfl kl_1 (mm_e3 kd_1) (j := 6) (by decide) rfl w5 rfl dX3_tell_75 ?_
    refine mm_get (v := .int (x 4 3)) C hH hin0 rfl kl_4 (mm_e0 kd_4) (j := 3) (by decide) rfl w6 rfl dX3_tell_78 ?_
    exact mm_iretP C hH hr hlk rfl h dX3_tell_81
  have h := mm_neg c7 h
  have nc1 := mm_tn (a := 0) c1 (by decide)
  have nc2 := mm_tn (a := 1) c2 (by decide)
  have nc3 := mm_tn (a := 2) c3 (by decide)
  have nc4 := mm_tn (a := 3) c4 (by decide)
  have nc5 := mm_tn (a := 4) c5 (by decide)
  have nc6 := mm_tn (a := 5) c6 (by decide)
  have nc7 := mm_tn (a := 6) c7 (by decide)
  refine lv_tableOut (tgt := 82) hx hb dX3_tell_1 (by omega) (by decide) ?_
  refine lv_iload_n hx hb dX3_tell_82 rfl (lv_at hl 1 rfl) ?_
  refine lv_bipush (v := 7) hx hb dX3_tell_83 (by decide) ?_
  refine lv_icmp_lt (tgt := 112) hx hb dX3_tell_85 (by decide) (fun c8 => ?_) (fun c8 => ?_)
  · have h := mm_pos c8 h
    have hl := lv_sub (l' := []) hl [] rfl
    refine lv_bipush (v := (-2)) hx hb dX3_tell_112 (by decide) ?_
    exact mm_iretP C hH hr hlk rfl h dX3_tell_114
  · have h := mm_neg c8 h
    refine lv_iload_n hx hb dX3_tell_88 rfl (lv_at hl 1 rfl) ?_
    refine lv_bipush (v := 7) hx hb dX3_tell_89 (by decide) ?_
    refine lv_isub hx hb dX3_tell_91 ?_
    refine lv_aload_n hx hb dX3_tell_92 rfl (lv_at hl 0 rfl) ?_
    refine mm_get (v := .ref (b + 2)) C hH hin3 rfl kl_1 (mm_e3 kd_1) (j := 0) (by decide) rfl w7 rfl dX3_tell_93 ?_
    refine mm_alen (v := 7) C hH kl_2 (mm_e6 kd_2) 0 rfl rfl dX3_tell_96 ?_
    refine lv_icmp_ge (tgt := 112) hx hb dX3_tell_97 (by decide) (fun c9 => ?_) (fun c9 => ?_)
    · have h := mm_pos c9 h
      have hl := lv_sub (l' := []) hl [] rfl
      refine lv_bipush (v := (-2)) hx hb dX3_tell_112 (by decide) ?_
      exact mm_iretP C hH hr hlk rfl h dX3_tell_114
    · have h := mm_neg c9 h
      refine lv_aload_n hx hb dX3_tell_100 rfl (lv_at hl 0 rfl) ?_
      refine mm_get (v := .ref (b + 2)) C hH hin3 rfl kl_1 (mm_e3 kd_1) (j := 0) (by decide) rfl w7 rfl dX3_tell_101 ?_
      refine lv_iload_n hx hb dX3_tell_104 rfl (lv_at hl 1 rfl) ?_
      refine lv_bipush (v := 7) hx hb dX3_tell_105 (by decide) ?_
      refine lv_isub hx hb dX3_tell_107 ?_
      obtain ⟨g1, h⟩ := mm_grn h
      refine mm_iald (n := 7) (jn := (Int32.toNatClampNeg (a1 - 7))) C hH kd_2 ln_2 g1 rfl dX3_tell_108 ?_
      refine lv_goto (tgt := 114) hx hb dX3_tell_109 (by decide) ?_
      have hl := lv_sub (l' := []) hl [] rfl
      exact mm_iretP C hH hr hlk rfl h dX3_tell_114
