def fn_L_low (a0 : Int32) (a1 : Int32) (x : mm_M) : Option Int32 :=
  if a1 = 0 then none else some ((a0 &&& 2147483647) - (a0 &&& 2147483647) / a1 * a1)
abbrev rm_L_low : Room := { frames := 0, cells := 0, slots := 0, locals := 0 }
theorem df_L_low : yL_low.cls = RL ∧ yL_low.cls ≠ "java/lang/invoke/MethodHandle" ∧ yL_low.cls ≠ "java/lang/invoke/VarHandle" ∧ (parseMethodDescriptor yL_low.desc).map (fun d => d.parameters.length) = some 2 := by decide +kernel
set_option maxRecDepth 100000 in
set_option maxHeartbeats 4000000 in
theorem ct_L_low (l : Launch) (G : va_G) (T : Nat → ClassId) (b : Nat) (z : Nat → Nat) (a0 : Int32) (a1 : Int32) (x : mm_M) {r : Int32} (h : fn_L_low a0 a1 x = some r) : mm_Ci l yL_low wsL_low rm_L_low G T b z [.int a0, .int a1] x r x := by
  unfold fn_L_low at h
  refine mm_start (cc := cL_low) (maxL := 2) (ret := (some .int)) (by decide) rfl (Nat.le_of_ble_eq_true rfl) (fun p e s m below meth c ls C hr hlk hH hl => ?_)
  have hl : lv_has ls 2 [(0, .int a0), (1, .int a1)] := hl
  have hx := C.1
  have hb := C.2.1
  have w1 := C.2.2.2.2.1 (.constant RL 8 (2147483647)) (by decide +kernel)
  refine lv_iload_n hx hb dL_low_0 rfl (lv_at hl 0 rfl) ?_
  refine lv_ldc (own := RL) (v := 2147483647) hx hb C.2.2.2.1 w1 dL_low_1 ?_
  refine lv_iand hx hb dL_low_3 ?_
  refine lv_iload_n hx hb dL_low_4 rfl (lv_at hl 1 rfl) ?_
  obtain ⟨g1, h⟩ := mm_grn h
  refine lv_irem hx hb dL_low_5 g1 ?_
  exact mm_iretP C hH hr hlk rfl h dL_low_6
def fn_L_taken_5 : Nat → Int32 → Int32 → mm_M → Option Int32
  | 0, _, _, _ => none
  | n + 1, i1, i2, x => (fn_X4_count 1 x).bind fun v1 => if v1 ≤ i2 then some (i1) else (fn_X4_of i2 0 x).bind fun v2 => if v2 = 1 then (fn_X4_of i2 3 x).bind fun v4 => if v4 = 0 then if i1 < 0 then (some (i2 + 1)).bind fun v6 => fn_L_taken_5 n  i2 v6 x else (fn_X4_of i2 1 x).bind fun v7 => (fn_X4_of i1 1 x).bind fun v8 => if v8 ≤ v7 then (some (i2 + 1)).bind fun v9 => fn_L_taken_5 n  i1 v9 x else (some (i2 + 1)).bind fun v10 => fn_L_taken_5 n  i2 v10 x else (some (i2 + 1)).bind fun v5 => fn_L_taken_5 n  i1 v5 x else (some (i2 + 1)).bind fun v3 => fn_L_taken_5 n  i1 v3 x
def fn_L_taken  (x : mm_M) : Option Int32 :=
  (fn_L_taken_5 9 (-6) 0 x).bind fun v1 => some v1
abbrev rm_L_taken : Room := { frames := 3, cells := 0, slots := 0, locals := 64 }
theorem df_L_taken : yL_taken.cls = RL ∧ yL_taken.cls ≠ "java/lang/invoke/MethodHandle" ∧ yL_taken.cls ≠ "java/lang/invoke/VarHandle" ∧ (parseMethodDescriptor yL_taken.desc).map (fun d => d.parameters.length) = some 1 := by decide +kernel
set_option maxRecDepth 100000 in
set_option maxHeartbeats 4000000 in
theorem lp_L_taken_5 {p : Program} {l : Launch} {e : Env} {s : State} {m : MethodId} {args : Array Value} {below : List Frame} {meth : Method} {c : Code} {Q : State → Prop} {G : va_G} {T : Nat → ClassId} {b : Nat} {z : Nat → Nat} (C : mm_C p m c cL_taken 4 s args wsL_taken RL G T b z)  : ∀ (n : Nat) (i1 : Int32) (i2 : Int32) (x : mm_M) (H : Heap) (locs : List Loc) (ls : Array Slot) (r1 : Int32), fn_L_taken_5 n i1 i2 x = some (r1) → mm_H G T b x s H locs → lv_has ls 4 [(0, .ref (b + 0)), (1, .int i1), (2, .int i2)] → (∀ (H1 : Heap) (locs1 : List Loc) (ls1 : Array Slot), mm_H G T b x s H1 locs1 → lv_has ls1 4 [(1, .int r1)] → W p l e rm_L_taken s m args below meth c H1 locs1 0 0 Q (F0 m 74 ls1 [])) → W p l e rm_L_taken s m args below meth c H locs 0 0 Q (F0 m 5 ls []) := by
  have hx := C.1
  have hb := C.2.1
  intro n
  induction n with
  | zero => intro _ _ _ _ _ _ _ h; cases (show (none : Option Int32) = some _ from h)
  | succ n ih =>
    intro i1 i2 x H locs ls r1 h hH hl kk
    rw [fn_L_taken_5] at h
    refine lv_iload_n hx hb dL_taken_5 rfl (lv_at hl 2 rfl) ?_
    refine lv_aload_n hx hb dL_taken_6 rfl (lv_at hl 0 rfl) ?_
    refine lv_iconst (v := 1) hx hb dL_taken_7 (by decide) ?_
    obtain ⟨v1, e1, h⟩ := mm_bnd h
    refine mm_goi hH (va_runV (As := [.int 1]) (rest := [.int i2]) ⟨hx, hb, C.2.2.1, C.2.2.2.1, C.2.2.2.2.1⟩ (ct_X4_count l G T b z 1 x e1) (cwV 1 C.2.2.2.2.1 gL_taken_X4_count rfl rfl rfl df_X4_count ⟨Nat.le_of_ble_eq_true rfl, Nat.le_of_ble_eq_true rfl⟩) ⟨mm_B.blind, mm_recv (q := (RX4, TX4, 7)) C hH kl_0 (mm_e4 kd_0) rfl, mm_pre C hH⟩ rfl rfl hl.1 rfl (lv_room (Nat.le_of_ble_eq_true rfl)) dL_taken_8 ⟨Nat.zero_le _, Nat.zero_le _⟩) (fun H locs hH => ?_)
    refine lv_icmp_ge (tgt := 74) hx hb dL_taken_11 (by decide) (fun c1 => ?_) (fun c1 => ?_)
    · have h := mm_pos c1 h
      have hl := lv_sub (l' := [(1, .int i1)]) hl [1] rfl
      cases h
      exact kk _ _ _ hH (lv_sub hl [0] rfl)
    · have h := mm_neg c1 h
      refine lv_aload_n hx hb dL_taken_14 rfl (lv_at hl 0 rfl) ?_
      refine lv_iload_n hx hb dL_taken_15 rfl (lv_at hl 2 rfl) ?_
      refine lv_iconst (v := 0) hx hb dL_taken_16 (by decide) ?_
      obtain ⟨v2, e2, h⟩ := mm_bnd h
      refine mm_goi hH (va_runV (As := [.int i2, .int 0]) (rest := []) ⟨hx, hb, C.2.2.1, C.2.2.2.1, C.2.2.2.2.1⟩ (ct_X4_of l G T b z i2 0 x e2) (cwV 2 C.2.2.2.2.1 gL_taken_X4_of rfl rfl rfl df_X4_of ⟨Nat.le_of_ble_eq_true rfl, Nat.le_of_ble_eq_true rfl⟩) ⟨mm_B.blind, mm_recv (q := (RX4, TX4, 7)) C hH kl_0 (mm_e4 kd_0) rfl, mm_pre C hH⟩ rfl rfl hl.1 rfl (lv_room (Nat.le_of_ble_eq_true rfl)) dL_taken_17 ⟨Nat.zero_le _, Nat.zero_le _⟩) (fun H locs hH => ?_)
      refine lv_iconst (v := 1) hx hb dL_taken_20 (by decide) ?_
      refine lv_icmp_ne (tgt := 37) hx hb dL_taken_21 (by decide) (fun c2 => ?_) (fun c2 => ?_)
      · have h := mm_neg c2 h
        refine lv_iconst (v := 0) hx hb dL_taken_37 (by decide) ?_
        refine lv_istore_n (lv' := [(3, .int 0), (0, .ref (b + 0)), (1, .int i1), (2, .int i2)]) hx hb dL_taken_38 rfl hl (by decide) rfl (fun ls hl => ?_)
        refine lv_iload_n hx hb dL_taken_39 rfl (lv_at hl 0 rfl) ?_
        refine lv_if_eq (tgt := 66) hx hb dL_taken_40 (by decide) (fun _ => ?_) (fun c => absurd (by decide) c)
        have hl := lv_sub (l' := [(0, .ref (b + 0)), (1, .int i1), (2, .int i2)]) hl [1, 2, 3] rfl
        refine lv_iload_n hx hb dL_taken_66 rfl (lv_at hl 1 rfl) ?_
        refine lv_istore_n (lv' := [(1, .int i1), (0, .ref (b + 0)), (2, .int i2)]) hx hb dL_taken_67 rfl hl (by decide) rfl (fun ls hl => ?_)
        obtain ⟨v3, e3, h⟩ := mm_bnd h
        refine lv_iinc (v := v3) (lv' := [(2, .int v3), (1, .int i1), (0, .ref (b + 0))]) hx hb dL_taken_68 hl (k := 2) rfl (Option.some.inj e3) (by decide) rfl (fun ls hl => ?_)
        refine lv_goto (tgt := 5) hx hb dL_taken_71 (by decide) ?_
        exact ih i1 v3 x _ _ _ _ h hH (lv_sub hl [2, 1, 0] rfl) kk
      · have h := mm_pos c2 h
        refine lv_aload_n hx hb dL_taken_24 rfl (lv_at hl 0 rfl) ?_
        refine lv_iload_n hx hb dL_taken_25 rfl (lv_at hl 2 rfl) ?_
        refine lv_iconst (v := 3) hx hb dL_taken_26 (by decide) ?_
        obtain ⟨v4, e4, h⟩ := mm_bnd h
        refine mm_goi hH (va_runV (As := [.int i2, .int 3]) (rest := []) ⟨hx, hb, C.2.2.1, C.2.2.2.1, C.2.2.2.2.1⟩ (ct_X4_of l G T b z i2 3 x e4) (cwV 2 C.2.2.2.2.1 gL_taken_X4_of rfl rfl rfl df_X4_of ⟨Nat.le_of_ble_eq_true rfl, Nat.le_of_ble_eq_true rfl⟩) ⟨mm_B.blind, mm_recv (q := (RX4, TX4, 7)) C hH kl_0 (mm_e4 kd_0) rfl, mm_pre C hH⟩ rfl rfl hl.1 rfl (lv_room (Nat.le_of_ble_eq_true rfl)) dL_taken_27 ⟨Nat.zero_le _, Nat.zero_le _⟩) (fun H locs hH => ?_)
        refine lv_if_ne (tgt := 37) hx hb dL_taken_30 (by decide) (fun c3 => ?_) (fun c3 => ?_)
        · have h := mm_neg c3 h
          refine lv_iconst (v := 0) hx hb dL_taken_37 (by decide) ?_
          refine lv_istore_n (lv' := [(3, .int 0), (0, .ref (b + 0)), (1, .int i1), (2, .int i2)]) hx hb dL_taken_38 rfl hl (by decide) rfl (fun ls hl => ?_)
          refine lv_iload_n hx hb dL_taken_39 rfl (lv_at hl 0 rfl) ?_
          refine lv_if_eq (tgt := 66) hx hb dL_taken_40 (by decide) (fun _ => ?_) (fun c => absurd (by decide) c)
          have hl := lv_sub (l' := [(0, .ref (b + 0)), (1, .int i1), (2, .int i2)]) hl [1, 2, 3] rfl
          refine lv_iload_n hx hb dL_taken_66 rfl (lv_at hl 1 rfl) ?_
          refine lv_istore_n (lv' := [(1, .int i1), (0, .ref (b + 0)), (2, .int i2)]) hx hb dL_taken_67 rfl hl (by decide) rfl (fun ls hl => ?_)
          obtain ⟨v5, e5, h⟩ := mm_bnd h
          refine lv_iinc (v := v5) (lv' := [(2, .int v5), (1, .int i1), (0, .ref (b + 0))]) hx hb dL_taken_68 hl (k := 2) rfl (Option.some.inj e5) (by decide) rfl (fun ls hl => ?_)
          refine lv_goto (tgt := 5) hx hb dL_taken_71 (by decide) ?_
          exact ih i1 v5 x _ _ _ _ h hH (lv_sub hl [2, 1, 0] rfl) kk
        · have h := mm_pos c3 h
          refine lv_iconst (v := 1) hx hb dL_taken_33 (by decide) ?_
          refine lv_goto (tgt := 38) hx hb dL_taken_34 (by decide) ?_
          refine lv_istore_n (lv' := [(3, .int 1), (0, .ref (b + 0)), (1, .int i1), (2, .int i2)]) hx hb dL_taken_38 rfl hl (by decide) rfl (fun ls hl => ?_)
          refine lv_iload_n hx hb dL_taken_39 rfl (lv_at hl 0 rfl) ?_
          refine lv_if_eq (tgt := 66) hx hb dL_taken_40 (by decide) (fun c => absurd c (by decide)) (fun _ => ?_)
          have hl := lv_sub (l' := [(0, .ref (b + 0)), (1, .int i1), (2, .int i2)]) hl [1, 2, 3] rfl
          refine lv_iload_n hx hb dL_taken_43 rfl (lv_at hl 1 rfl) ?_
          refine lv_if_lt (tgt := 62) hx hb dL_taken_44 (by decide) (fun c4 => ?_) (fun c4 => ?_)
          · have h := mm_pos c4 h
            have hl := lv_sub (l' := [(0, .ref (b + 0)), (2, .int i2)]) hl [0, 2] rfl
            refine lv_iload_n hx hb dL_taken_62 rfl (lv_at hl 1 rfl) ?_
            refine lv_goto (tgt := 67) hx hb dL_taken_63 (by decide) ?_
            refine lv_istore_n (lv' := [(1, .int i2), (0, .ref (b + 0)), (2, .int i2)]) hx hb dL_taken_67 rfl hl (by decide) rfl (fun ls hl => ?_)
            obtain ⟨v6, e6, h⟩ := mm_bnd h
            refine lv_iinc (v := v6) (lv' := [(2, .int v6), (1, .int i2), (0, .ref (b + 0))]) hx hb dL_taken_68 hl (k := 2) rfl (Option.some.inj e6) (by decide) rfl (fun ls hl => ?_)
            refine lv_goto (tgt := 5) hx hb dL_taken_71 (by decide) ?_
            exact ih i2 v6 x _ _ _ _ h hH (lv_sub hl [2, 1, 0] rfl) kk
          · have h := mm_neg c4 h
            refine lv_aload_n hx hb dL_taken_47 rfl (lv_at hl 0 rfl) ?_
            refine lv_iload_n hx hb dL_taken_48 rfl (lv_at hl 2 rfl) ?_
            refine lv_iconst (v := 1) hx hb dL_taken_49 (by decide) ?_
            obtain ⟨v7, e7, h⟩ := mm_bnd h
            refine mm_goi hH (va_runV (As := [.int i2, .int 1]) (rest := []) ⟨hx, hb, C.2.2.1, C.2.2.2.1, C.2.2.2.2.1⟩ (ct_X4_of l G T b z i2 1 x e7) (cwV 2 C.2.2.2.2.1 gL_taken_X4_of rfl rfl rfl df_X4_of ⟨Nat.le_of_ble_eq_true rfl, Nat.le_of_ble_eq_true rfl⟩) ⟨mm_B.blind, mm_recv (q := (RX4, TX4, 7)) C hH kl_0 (mm_e4 kd_0) rfl, mm_pre C hH⟩ rfl rfl hl.1 rfl (lv_room (Nat.le_of_ble_eq_true rfl)) dL_taken_50 ⟨Nat.zero_le _, Nat.zero_le _⟩) (fun H locs hH => ?_)
            refine lv_aload_n hx hb dL_taken_53 rfl (lv_at hl 0 rfl) ?_
            refine lv_iload_n hx hb dL_taken_54 rfl (lv_at hl 1 rfl) ?_
            refine lv_iconst (v := 1) hx hb dL_taken_55 (by decide) ?_
            obtain ⟨v8, e8, h⟩ := mm_bnd h
            refine mm_goi hH (va_runV (As := [.int i1, .int 1]) (rest := [.int v7]) ⟨hx, hb, C.2.2.1, C.2.2.2.1, C.2.2.2.2.1⟩ (ct_X4_of l G T b z i1 1 x e8) (cwV 2 C.2.2.2.2.1 gL_taken_X4_of rfl rfl rfl df_X4_of ⟨Nat.le_of_ble_eq_true rfl, Nat.le_of_ble_eq_true rfl⟩) ⟨mm_B.blind, mm_recv (q := (RX4, TX4, 7)) C hH kl_0 (mm_e4 kd_0) rfl, mm_pre C hH⟩ rfl rfl hl.1 rfl (lv_room (Nat.le_of_ble_eq_true rfl)) dL_taken_56 ⟨Nat.zero_le _, Nat.zero_le _⟩) (fun H locs hH => ?_)
            refine lv_icmp_ge (tgt := 66) hx hb dL_taken_59 (by decide) (fun c5 => ?_) (fun c5 => ?_)
            · have h := mm_pos c5 h
              refine lv_iload_n hx hb dL_taken_66 rfl (lv_at hl 1 rfl) ?_
              refine lv_istore_n (lv' := [(1, .int i1), (0, .ref (b + 0)), (2, .int i2)]) hx hb dL_taken_67 rfl hl (by decide) rfl (fun ls hl => ?_)
              obtain ⟨v9, e9, h⟩ := mm_bnd h
              refine lv_iinc (v := v9) (lv' := [(2, .int v9), (1, .int i1), (0, .ref (b + 0))]) hx hb dL_taken_68 hl (k := 2) rfl (Option.some.inj e9) (by decide) rfl (fun ls hl => ?_)
              refine lv_goto (tgt := 5) hx hb dL_taken_71 (by decide) ?_
              exact ih i1 v9 x _ _ _ _ h hH (lv_sub hl [2, 1, 0] rfl) kk
            · have h := mm_neg c5 h
              have hl := lv_sub (l' := [(0, .ref (b + 0)), (2, .int i2)]) hl [0, 2] rfl
              refine lv_iload_n hx hb dL_taken_62 rfl (lv_at hl 1 rfl) ?_
              refine lv_goto (tgt := 67) hx hb dL_taken_63 (by decide) ?_
              refine lv_istore_n (lv' := [(1, .int i2), (0, .ref (b + 0)), (2, .int i2)]) hx hb dL_taken_67 rfl hl (by decide) rfl (fun ls hl => ?_)
              obtain ⟨v10, e10, h⟩ := mm_bnd h
              refine lv_iinc (v := v10) (lv' := [(2, .int v10), (1, .int i2), (0, .ref (b + 0))]) hx hb dL_taken_68 hl (k := 2) rfl (Option.some.inj e10) (by decide) rfl (fun ls hl => ?_)
              refine lv_goto (tgt := 5) hx hb dL_taken_71 (by decide) ?_
              exact ih i2 v10 x _ _ _ _ h hH (lv_sub hl [2, 1, 0] rfl) kk
set_option maxRecDepth 100000 in
set_option maxHeartbeats 4000000 in
theorem ct_L_taken (l : Launch) (G : va_G) (T : Nat → ClassId) (b : Nat) (z : Nat → Nat)  (x : mm_M) {r : Int32} (h : fn_L_taken  x = some r) : mm_Ci l yL_taken wsL_taken rm_L_taken G T b z [.ref (b + 0)] x r x := by
  unfold fn_L_taken at h
  refine mm_start (cc := cL_taken) (maxL := 4) (ret := (some .int)) (by decide) rfl (Nat.le_of_ble_eq_true rfl) (fun p e s m below meth c ls C hr hlk hH hl => ?_)
  have hl : lv_has ls 4 [(0, .ref (b + 0))] := hl
  have hx := C.1
  have hb := C.2.1
  refine lv_bipush (v := (-6)) hx hb dL_taken_0 (by decide) ?_
  refine lv_istore_n (lv' := [(1, .int (-6)), (0, .ref (b + 0))]) hx hb dL_taken_2 rfl hl (by decide) rfl (fun ls hl => ?_)
  refine lv_iconst (v := 0) hx hb dL_taken_3 (by decide) ?_
  refine lv_istore_n (lv' := [(2, .int 0), (1, .int (-6)), (0, .ref (b + 0))]) hx hb dL_taken_4 rfl hl (by decide) rfl (fun ls hl => ?_)
  obtain ⟨v1, e1, h⟩ := mm_bnd h
  refine lp_L_taken_5 C 9 (-6) 0 x _ _ _ _ e1 hH (lv_sub hl [2, 1, 0] rfl) (fun H locs ls hH hl => ?_)
  refine lv_iload_n hx hb dL_taken_74 rfl (lv_at hl 0 rfl) ?_
  exact mm_iretP C hH hr hlk rfl h dL_taken_75
def fn_L_chosen_61 : Nat → Int32 → Int32 → Int32 → mm_M → Option Int32
  | 0, _, _, _, _ => none
  | n + 1, a1, i2, i3, x => (fn_X4_count 1 x).bind fun v1 => if v1 ≤ i3 then some (i2) else (fn_X4_of i3 0 x).bind fun v2 => if v2 = 0 then (fn_X4_why i3 x).bind fun v25 => if v25 = 1 then (fn_X4_count 2 x).bind fun v26 => (fn_X4_of i3 0 x).bind fun v27 => if ((v26 >>> (i3 &&& 31)) &&& 1) = v27 then (fn_X4_count 3 x).bind fun v28 => (fn_X4_of i3 3 x).bind fun v29 => if ((v28 >>> (i3 &&& 31)) &&& 1) = v29 then (some ((i2 + 0) : Int32)).bind fun v30 => (some (i3 + 1)).bind fun v31 => fn_L_chosen_61 n a1 v30 v31 x else none else none else none else (fn_X4_of i3 3 x).bind fun v3 => if v3 = 1 then (fn_X4_why i3 x).bind fun v18 => if v18 = 2 then (fn_X4_count 2 x).bind fun v19 => (fn_X4_of i3 0 x).bind fun v20 => if ((v19 >>> (i3 &&& 31)) &&& 1) = v20 then (fn_X4_count 3 x).bind fun v21 => (fn_X4_of i3 3 x).bind fun v22 => if ((v21 >>> (i3 &&& 31)) &&& 1) = v22 then (some ((i2 + 0) : Int32)).bind fun v23 => (some (i3 + 1)).bind fun v24 => fn_L_chosen_61 n a1 v23 v24 x else none else none else none else if a1 = i3 then (fn_X4_why i3 x).bind fun v11 => if v11 = 0 then (fn_X4_count 2 x).bind fun v12 => (fn_X4_of i3 0 x).bind fun v13 => if ((v12 >>> (i3 &&& 31)) &&& 1) = v13 then (fn_X4_count 3 x).bind fun v14 => (fn_X4_of i3 3 x).bind fun v15 => if ((v14 >>> (i3 &&& 31)) &&& 1) = v15 then (some ((i2 + 1) : Int32)).bind fun v16 => (some (i3 + 1)).bind fun v17 => fn_L_chosen_61 n a1 v16 v17 x else none else none else none else (fn_X4_why i3 x).bind fun v4 => if v4 = 3 then (fn_X4_count 2 x).bind fun v5 => (fn_X4_of i3 0 x).bind fun v6 => if ((v5 >>> (i3 &&& 31)) &&& 1) = v6 then (fn_X4_count 3 x).bind fun v7 => (fn_X4_of i3 3 x).bind fun v8 => if ((v7 >>> (i3 &&& 31)) &&& 1) = v8 then (some ((i2 + 1) : Int32)).bind fun v9 => (some (i3 + 1)).bind fun v10 => fn_L_chosen_61 n a1 v9 v10 x else none else none else none
def fn_L_chosen_184 : Nat → Int32 → Int32 → mm_M → Option Unit
  | 0, _, _, _ => none
  | n + 1, a2, i3, x => if a2 ≤ i3 then some () else (fn_X4_choice (i3 - 1) x).bind fun v1 => (fn_X4_choice i3 x).bind fun v2 => (fn_X4_of v1 1 x).bind fun v3 => (fn_X4_of v2 1 x).bind fun v4 => if v4 < v3 then none else (fn_X4_of v1 1 x).bind fun v5 => (fn_X4_of v2 1 x).bind fun v6 => if v5 = v6 then if v1 < v2 then (some (i3 + 1)).bind fun v8 => fn_L_chosen_184 n a2 v8 x else none else (some (i3 + 1)).bind fun v7 => fn_L_chosen_184 n a2 v7 x
def fn_L_chosen  (x : mm_M) : Option Int32 :=
  (fn_L_taken x).bind fun v1 => (fn_X4_count 4 x).bind fun v2 => if v2 = v1 then (fn_X4_choice 0 x).bind fun v3 => if (0 : Int32) ≤ v1 then if v3 = v1 then (fn_X4_choice (-1) x).bind fun v4 => if v4 = (-1) then (fn_X4_count 6 x).bind fun v5 => (fn_X4_log v5 0 x).bind fun v6 => if v6 = (-1) then (fn_L_chosen_61 9 v1 0 0 x).bind fun v7 => (fn_L_chosen_184 9 v7 1 x).bind fun _ => (fn_X4_choice v7 x).bind fun v8 => if v8 = (-1) then some (1 : Int32) else none else none else none else none else if v3 = (-1) then (fn_X4_choice (-1) x).bind fun v9 => if v9 = (-1) then (fn_X4_count 6 x).bind fun v10 => (fn_X4_log v10 0 x).bind fun v11 => if v11 = (-1) then (fn_L_chosen_61 9 v1 0 0 x).bind fun v12 => (fn_L_chosen_184 9 v12 1 x).bind fun _ => (fn_X4_choice v12 x).bind fun v13 => if v13 = (-1) then some (1 : Int32) else none else none else none else none else none
abbrev rm_L_chosen : Room := { frames := 4, cells := 0, slots := 0, locals := 88 }
theorem df_L_chosen : yL_chosen.cls = RL ∧ yL_chosen.cls ≠ "java/lang/invoke/MethodHandle" ∧ yL_chosen.cls ≠ "java/lang/invoke/VarHandle" ∧ (parseMethodDescriptor yL_chosen.desc).map (fun d => d.parameters.length) = some 1 := by decide +kernel
set_option maxRecDepth 100000 in
set_option maxHeartbeats 4000000 in
theorem lp_L_chosen_61 {p : Program} {l : Launch} {e : Env} {s : State} {m : MethodId} {args : Array Value} {below : List Frame} {meth : Method} {c : Code} {Q : State → Prop} {G : va_G} {T : Nat → ClassId} {b : Nat} {z : Nat → Nat} (C : mm_C p m c cL_chosen 6 s args wsL_chosen RL G T b z) (a1 : Int32) : ∀ (n : Nat) (i2 : Int32) (i3 : Int32) (x : mm_M) (H : Heap) (locs : List Loc) (ls : Array Slot) (r2 : Int32), fn_L_chosen_61 n a1 i2 i3 x = some (r2) → mm_H G T b x s H locs → lv_has ls 6 [(0, .ref (b + 0)), (1, .int a1), (2, .int i2), (3, .int i3)] → (∀ (H1 : Heap) (locs1 : List Loc) (ls1 : Array Slot), mm_H G T b x s H1 locs1 → lv_has ls1 6 [(0, .ref (b + 0)), (2, .int r2)] → W p l e rm_L_chosen s m args below meth c H1 locs1 0 0 Q (F0 m 182 ls1 [])) → W p l e rm_L_chosen s m args below meth c H locs 0 0 Q (F0 m 61 ls []) := by
  have hx := C.1
  have hb := C.2.1
  intro n
  induction n with
  | zero => intro _ _ _ _ _ _ _ h; cases (show (none : Option Int32) = some _ from h)
  | succ n ih =>
    intro i2 i3 x H locs ls r2 h hH hl kk
    rw [fn_L_chosen_61] at h
    refine lv_iload_n hx hb dL_chosen_61 rfl (lv_at hl 3 rfl) ?_
    refine lv_aload_n hx hb dL_chosen_62 rfl (lv_at hl 0 rfl) ?_
    refine lv_iconst (v := 1) hx hb dL_chosen_63 (by decide) ?_
    obtain ⟨v1, e1, h⟩ := mm_bnd h
    refine mm_goi hH (va_runV (As := [.int 1]) (rest := [.int i3]) ⟨hx, hb, C.2.2.1, C.2.2.2.1, C.2.2.2.2.1⟩ (ct_X4_count l G T b z 1 x e1) (cwV 1 C.2.2.2.2.1 gL_chosen_X4_count rfl rfl rfl df_X4_count ⟨Nat.le_of_ble_eq_true rfl, Nat.le_of_ble_eq_true rfl⟩) ⟨mm_B.blind, mm_recv (q := (RX4, TX4, 7)) C hH kl_0 (mm_e4 kd_0) rfl, mm_pre C hH⟩ rfl rfl hl.1 rfl (lv_room (Nat.le_of_ble_eq_true rfl)) dL_chosen_64 ⟨Nat.zero_le _, Nat.zero_le _⟩) (fun H locs hH => ?_)
    refine lv_icmp_ge (tgt := 182) hx hb dL_chosen_67 (by decide) (fun c1 => ?_) (fun c1 => ?_)
    · have h := mm_pos c1 h
      have hl := lv_sub (l' := [(0, .ref (b + 0)), (2, .int i2)]) hl [0, 2] rfl
      cases h
      exact kk _ _ _ hH (lv_sub hl [0, 1] rfl)
    · have h := mm_neg c1 h
      refine lv_aload_n hx hb dL_chosen_70 rfl (lv_at hl 0 rfl) ?_
      refine lv_iload_n hx hb dL_chosen_71 rfl (lv_at hl 3 rfl) ?_
      refine lv_iconst (v := 0) hx hb dL_chosen_72 (by decide) ?_
      obtain ⟨v2, e2, h⟩ := mm_bnd h
      refine mm_goi hH (va_runV (As := [.int i3, .int 0]) (rest := []) ⟨hx, hb, C.2.2.1, C.2.2.2.1, C.2.2.2.2.1⟩ (ct_X4_of l G T b z i3 0 x e2) (cwV 2 C.2.2.2.2.1 gL_chosen_X4_of rfl rfl rfl df_X4_of ⟨Nat.le_of_ble_eq_true rfl, Nat.le_of_ble_eq_true rfl⟩) ⟨mm_B.blind, mm_recv (q := (RX4, TX4, 7)) C hH kl_0 (mm_e4 kd_0) rfl, mm_pre C hH⟩ rfl rfl hl.1 rfl (lv_room (Nat.le_of_ble_eq_true rfl)) dL_chosen_73 ⟨Nat.zero_le _, Nat.zero_le _⟩) (fun H locs hH => ?_)
      refine lv_if_ne (tgt := 83) hx hb dL_chosen_76 (by decide) (fun c2 => ?_) (fun c2 => ?_)
      · have h := mm_neg c2 h
        refine lv_aload_n hx hb dL_chosen_83 rfl (lv_at hl 0 rfl) ?_
        refine lv_iload_n hx hb dL_chosen_84 rfl (lv_at hl 3 rfl) ?_
        refine lv_iconst (v := 3) hx hb dL_chosen_85 (by decide) ?_
        obtain ⟨v3, e3, h⟩ := mm_bnd h
        refine mm_goi hH (va_runV (As := [.int i3, .int 3]) (rest := []) ⟨hx, hb, C.2.2.1, C.2.2.2.1, C.2.2.2.2.1⟩ (ct_X4_of l G T b z i3 3 x e3) (cwV 2 C.2.2.2.2.1 gL_chosen_X4_of rfl rfl rfl df_X4_of ⟨Nat.le_of_ble_eq_true rfl, Nat.le_of_ble_eq_true rfl⟩) ⟨mm_B.blind, mm_recv (q := (RX4, TX4, 7)) C hH kl_0 (mm_e4 kd_0) rfl, mm_pre C hH⟩ rfl rfl hl.1 rfl (lv_room (Nat.le_of_ble_eq_true rfl)) dL_chosen_86 ⟨Nat.zero_le _, Nat.zero_le _⟩) (fun H locs hH => ?_)
        refine lv_iconst (v := 1) hx hb dL_chosen_89 (by decide) ?_
        refine lv_icmp_ne (tgt := 97) hx hb dL_chosen_90 (by decide) (fun c3 => ?_) (fun c3 => ?_)
        · have h := mm_neg c3 h
          refine lv_iload_n hx hb dL_chosen_97 rfl (lv_at hl 1 rfl) ?_
          refine lv_iload_n hx hb dL_chosen_98 rfl (lv_at hl 3 rfl) ?_
          refine lv_icmp_ne (tgt := 106) hx hb dL_chosen_99 (by decide) (fun c4 => ?_) (fun c4 => ?_)
          · have h := mm_neg c4 h
            refine lv_iconst (v := 3) hx hb dL_chosen_106 (by decide) ?_
            refine lv_istore (lv' := [(4, .int 3), (0, .ref (b + 0)), (1, .int a1), (2, .int i2), (3, .int i3)]) hx hb dL_chosen_107 hl (by decide) rfl (fun ls hl => ?_)
            refine lv_aload_n hx hb dL_chosen_109 rfl (lv_at hl 1 rfl) ?_
            refine lv_iload_n hx hb dL_chosen_110 rfl (lv_at hl 4 rfl) ?_
            obtain ⟨v4, e4, h⟩ := mm_bnd h
            refine mm_goi hH (va_runV (As := [.int i3]) (rest := []) ⟨hx, hb, C.2.2.1, C.2.2.2.1, C.2.2.2.2.1⟩ (ct_X4_why l G T b z i3 x e4) (cwV 1 C.2.2.2.2.1 gL_chosen_X4_why rfl rfl rfl df_X4_why ⟨Nat.le_of_ble_eq_true rfl, Nat.le_of_ble_eq_true rfl⟩) ⟨mm_B.blind, mm_recv (q := (RX4, TX4, 7)) C hH kl_0 (mm_e4 kd_0) rfl, mm_pre C hH⟩ rfl rfl hl.1 rfl (lv_room (Nat.le_of_ble_eq_true rfl)) dL_chosen_111 ⟨Nat.zero_le _, Nat.zero_le _⟩) (fun H locs hH => ?_)
            refine lv_iload hx hb dL_chosen_114 (lv_at hl 0 rfl) ?_
            refine lv_icmp_ne (tgt := 155) hx hb dL_chosen_116 (by decide) (fun c5 => ?_) (fun c5 => ?_)
            · have h := mm_neg c5 h
              have hl := lv_sub (l' := []) hl [] rfl
              cases h
            · have h := mm_pos c5 h
              refine lv_aload_n hx hb dL_chosen_119 rfl (lv_at hl 1 rfl) ?_
              refine lv_iconst (v := 2) hx hb dL_chosen_120 (by decide) ?_
              obtain ⟨v5, e5, h⟩ := mm_bnd h
              refine mm_goi hH (va_runV (As := [.int 2]) (rest := []) ⟨hx, hb, C.2.2.1, C.2.2.2.1, C.2.2.2.2.1⟩ (ct_X4_count l G T b z 2 x e5) (cwV 1 C.2.2.2.2.1 gL_chosen_X4_count rfl rfl rfl df_X4_count ⟨Nat.le_of_ble_eq_true rfl, Nat.le_of_ble_eq_true rfl⟩) ⟨mm_B.blind, mm_recv (q := (RX4, TX4, 7)) C hH kl_0 (mm_e4 kd_0) rfl, mm_pre C hH⟩ rfl rfl hl.1 rfl (lv_room (Nat.le_of_ble_eq_true rfl)) dL_chosen_121 ⟨Nat.zero_le _, Nat.zero_le _⟩) (fun H locs hH => ?_)
              refine lv_iload_n hx hb dL_chosen_124 rfl (lv_at hl 4 rfl) ?_
              refine lv_ishr hx hb dL_chosen_125 ?_
              refine lv_iconst (v := 1) hx hb dL_chosen_126 (by decide) ?_
              refine lv_iand hx hb dL_chosen_127 ?_
              refine lv_aload_n hx hb dL_chosen_128 rfl (lv_at hl 1 rfl) ?_
              refine lv_iload_n hx hb dL_chosen_129 rfl (lv_at hl 4 rfl) ?_
              refine lv_iconst (v := 0) hx hb dL_chosen_130 (by decide) ?_
              obtain ⟨v6, e6, h⟩ := mm_bnd h
              refine mm_goi hH (va_runV (As := [.int i3, .int 0]) (rest := [.int ((v5 >>> (i3 &&& 31)) &&& 1)]) ⟨hx, hb, C.2.2.1, C.2.2.2.1, C.2.2.2.2.1⟩ (ct_X4_of l G T b z i3 0 x e6) (cwV 2 C.2.2.2.2.1 gL_chosen_X4_of rfl rfl rfl df_X4_of ⟨Nat.le_of_ble_eq_true rfl, Nat.le_of_ble_eq_true rfl⟩) ⟨mm_B.blind, mm_recv (q := (RX4, TX4, 7)) C hH kl_0 (mm_e4 kd_0) rfl, mm_pre C hH⟩ rfl rfl hl.1 rfl (lv_room (Nat.le_of_ble_eq_true rfl)) dL_chosen_131 ⟨Nat.zero_le _, Nat.zero_le _⟩) (fun H locs hH => ?_)
              refine lv_icmp_ne (tgt := 155) hx hb dL_chosen_134 (by decide) (fun c6 => ?_) (fun c6 => ?_)
              · have h := mm_neg c6 h
                have hl := lv_sub (l' := []) hl [] rfl
                cases h
              · have h := mm_pos c6 h
                refine lv_aload_n hx hb dL_chosen_137 rfl (lv_at hl 1 rfl) ?_
                refine lv_iconst (v := 3) hx hb dL_chosen_138 (by decide) ?_
                obtain ⟨v7, e7, h⟩ := mm_bnd h
                refine mm_goi hH (va_runV (As := [.int 3]) (rest := []) ⟨hx, hb, C.2.2.1, C.2.2.2.1, C.2.2.2.2.1⟩ (ct_X4_count l G T b z 3 x e7) (cwV 1 C.2.2.2.2.1 gL_chosen_X4_count rfl rfl rfl df_X4_count ⟨Nat.le_of_ble_eq_true rfl, Nat.le_of_ble_eq_true rfl⟩) ⟨mm_B.blind, mm_recv (q := (RX4, TX4, 7)) C hH kl_0 (mm_e4 kd_0) rfl, mm_pre C hH⟩ rfl rfl hl.1 rfl (lv_room (Nat.le_of_ble_eq_true rfl)) dL_chosen_139 ⟨Nat.zero_le _, Nat.zero_le _⟩) (fun H locs hH => ?_)
                refine lv_iload_n hx hb dL_chosen_142 rfl (lv_at hl 4 rfl) ?_
                refine lv_ishr hx hb dL_chosen_143 ?_
                refine lv_iconst (v := 1) hx hb dL_chosen_144 (by decide) ?_
                refine lv_iand hx hb dL_chosen_145 ?_
                refine lv_aload_n hx hb dL_chosen_146 rfl (lv_at hl 1 rfl) ?_
                refine lv_iload_n hx hb dL_chosen_147 rfl (lv_at hl 4 rfl) ?_
                refine lv_iconst (v := 3) hx hb dL_chosen_148 (by decide) ?_
                obtain ⟨v8, e8, h⟩ := mm_bnd h
                refine mm_goi hH (va_runV (As := [.int i3, .int 3]) (rest := [.int ((v7 >>> (i3 &&& 31)) &&& 1)]) ⟨hx, hb, C.2.2.1, C.2.2.2.1, C.2.2.2.2.1⟩ (ct_X4_of l G T b z i3 3 x e8) (cwV 2 C.2.2.2.2.1 gL_chosen_X4_of rfl rfl rfl df_X4_of ⟨Nat.le_of_ble_eq_true rfl, Nat.le_of_ble_eq_true rfl⟩) ⟨mm_B.blind, mm_recv (q := (RX4, TX4, 7)) C hH kl_0 (mm_e4 kd_0) rfl, mm_pre C hH⟩ rfl rfl hl.1 rfl (lv_room (Nat.le_of_ble_eq_true rfl)) dL_chosen_149 ⟨Nat.zero_le _, Nat.zero_le _⟩) (fun H locs hH => ?_)
                refine lv_icmp_eq (tgt := 157) hx hb dL_chosen_152 (by decide) (fun c7 => ?_) (fun c7 => ?_)
                · have h := mm_pos c7 h
                  refine lv_iload_n hx hb dL_chosen_157 rfl (lv_at hl 3 rfl) ?_
                  refine lv_iload hx hb dL_chosen_158 (lv_at hl 0 rfl) ?_
                  refine lv_if_eq (tgt := 169) hx hb dL_chosen_160 (by decide) (fun c => absurd c (by decide)) (fun _ => ?_)
                  have hl := lv_sub (l' := [(4, .int 3), (0, .ref (b + 0)), (1, .int a1), (3, .int i3)]) hl [0, 1, 2, 4] rfl
                  refine lv_iload hx hb dL_chosen_163 (lv_at hl 0 rfl) ?_
                  refine lv_iconst (v := 3) hx hb dL_chosen_165 (by decide) ?_
                  refine lv_icmp_ne (tgt := 173) hx hb dL_chosen_166 (by decide) (fun c => absurd (by decide) c) (fun _ => ?_)
                  have hl := lv_sub (l' := [(0, .ref (b + 0)), (1, .int a1), (3, .int i3)]) hl [1, 2, 3] rfl
                  refine lv_iconst (v := 1) hx hb dL_chosen_169 (by decide) ?_
                  refine lv_goto (tgt := 174) hx hb dL_chosen_170 (by decide) ?_
                  refine lv_iadd hx hb dL_chosen_174 ?_
                  obtain ⟨v9, e9, h⟩ := mm_bnd h
                  refine mm_nmi e9 ?_
                  refine lv_istore_n (lv' := [(2, .int v9), (0, .ref (b + 0)), (1, .int a1), (3, .int i3)]) hx hb dL_chosen_175 rfl hl (by decide) rfl (fun ls hl => ?_)
                  obtain ⟨v10, e10, h⟩ := mm_bnd h
                  refine lv_iinc (v := v10) (lv' := [(3, .int v10), (2, .int v9), (0, .ref (b + 0)), (1, .int a1)]) hx hb dL_chosen_176 hl (k := 3) rfl (Option.some.inj e10) (by decide) rfl (fun ls hl => ?_)
                  refine lv_goto (tgt := 61) hx hb dL_chosen_179 (by decide) ?_
                  exact ih v9 v10 x _ _ _ _ h hH (lv_sub hl [2, 3, 1, 0] rfl) kk
                · have h := mm_neg c7 h
                  have hl := lv_sub (l' := []) hl [] rfl
                  cases h
          · have h := mm_pos c4 h
            refine lv_iconst (v := 0) hx hb dL_chosen_102 (by decide) ?_
            refine lv_goto (tgt := 107) hx hb dL_chosen_103 (by decide) ?_
            refine lv_istore (lv' := [(4, .int 0), (0, .ref (b + 0)), (1, .int a1), (2, .int i2), (3, .int i3)]) hx hb dL_chosen_107 hl (by decide) rfl (fun ls hl => ?_)
            refine lv_aload_n hx hb dL_chosen_109 rfl (lv_at hl 1 rfl) ?_
            refine lv_iload_n hx hb dL_chosen_110 rfl (lv_at hl 4 rfl) ?_
            obtain ⟨v11, e11, h⟩ := mm_bnd h
            refine mm_goi hH (va_runV (As := [.int i3]) (rest := []) ⟨hx, hb, C.2.2.1, C.2.2.2.1, C.2.2.2.2.1⟩ (ct_X4_why l G T b z i3 x e11) (cwV 1 C.2.2.2.2.1 gL_chosen_X4_why rfl rfl rfl df_X4_why ⟨Nat.le_of_ble_eq_true rfl, Nat.le_of_ble_eq_true rfl⟩) ⟨mm_B.blind, mm_recv (q := (RX4, TX4, 7)) C hH kl_0 (mm_e4 kd_0) rfl, mm_pre C hH⟩ rfl rfl hl.1 rfl (lv_room (Nat.le_of_ble_eq_true rfl)) dL_chosen_111 ⟨Nat.zero_le _, Nat.zero_le _⟩) (fun H locs hH => ?_)
            refine lv_iload hx hb dL_chosen_114 (lv_at hl 0 rfl) ?_
            refine lv_icmp_ne (tgt := 155) hx hb dL_chosen_116 (by decide) (fun c8 => ?_) (fun c8 => ?_)
            · have h := mm_neg c8 h
              have hl := lv_sub (l' := []) hl [] rfl
              cases h
            · have h := mm_pos c8 h
              refine lv_aload_n hx hb dL_chosen_119 rfl (lv_at hl 1 rfl) ?_
              refine lv_iconst (v := 2) hx hb dL_chosen_120 (by decide) ?_
              obtain ⟨v12, e12, h⟩ := mm_bnd h
              refine mm_goi hH (va_runV (As := [.int 2]) (rest := []) ⟨hx, hb, C.2.2.1, C.2.2.2.1, C.2.2.2.2.1⟩ (ct_X4_count l G T b z 2 x e12) (cwV 1 C.2.2.2.2.1 gL_chosen_X4_count rfl rfl rfl df_X4_count ⟨Nat.le_of_ble_eq_true rfl, Nat.le_of_ble_eq_true rfl⟩) ⟨mm_B.blind, mm_recv (q := (RX4, TX4, 7)) C hH kl_0 (mm_e4 kd_0) rfl, mm_pre C hH⟩ rfl rfl hl.1 rfl (lv_room (Nat.le_of_ble_eq_true rfl)) dL_chosen_121 ⟨Nat.zero_le _, Nat.zero_le _⟩) (fun H locs hH => ?_)
              refine lv_iload_n hx hb dL_chosen_124 rfl (lv_at hl 4 rfl) ?_
              refine lv_ishr hx hb dL_chosen_125 ?_
              refine lv_iconst (v := 1) hx hb dL_chosen_126 (by decide) ?_
              refine lv_iand hx hb dL_chosen_127 ?_
              refine lv_aload_n hx hb dL_chosen_128 rfl (lv_at hl 1 rfl) ?_
              refine lv_iload_n hx hb dL_chosen_129 rfl (lv_at hl 4 rfl) ?_
              refine lv_iconst (v := 0) hx hb dL_chosen_130 (by decide) ?_
              obtain ⟨v13, e13, h⟩ := mm_bnd h
              refine mm_goi hH (va_runV (As := [.int i3, .int 0]) (rest := [.int ((v12 >>> (i3 &&& 31)) &&& 1)]) ⟨hx, hb, C.2.2.1, C.2.2.2.1, C.2.2.2.2.1⟩ (ct_X4_of l G T b z i3 0 x e13) (cwV 2 C.2.2.2.2.1 gL_chosen_X4_of rfl rfl rfl df_X4_of ⟨Nat.le_of_ble_eq_true rfl, Nat.le_of_ble_eq_true rfl⟩) ⟨mm_B.blind, mm_recv (q := (RX4, TX4, 7)) C hH kl_0 (mm_e4 kd_0) rfl, mm_pre C hH⟩ rfl rfl hl.1 rfl (lv_room (Nat.le_of_ble_eq_true rfl)) dL_chosen_131 ⟨Nat.zero_le _, Nat.zero_le _⟩) (fun H locs hH => ?_)
              refine lv_icmp_ne (tgt := 155) hx hb dL_chosen_134 (by decide) (fun c9 => ?_) (fun c9 => ?_)
              · have h := mm_neg c9 h
                have hl := lv_sub (l' := []) hl [] rfl
                cases h
              · have h := mm_pos c9 h
                refine lv_aload_n hx hb dL_chosen_137 rfl (lv_at hl 1 rfl) ?_
                refine lv_iconst (v := 3) hx hb dL_chosen_138 (by decide) ?_
                obtain ⟨v14, e14, h⟩ := mm_bnd h
                refine mm_goi hH (va_runV (As := [.int 3]) (rest := []) ⟨hx, hb, C.2.2.1, C.2.2.2.1, C.2.2.2.2.1⟩ (ct_X4_count l G T b z 3 x e14) (cwV 1 C.2.2.2.2.1 gL_chosen_X4_count rfl rfl rfl df_X4_count ⟨Nat.le_of_ble_eq_true rfl, Nat.le_of_ble_eq_true rfl⟩) ⟨mm_B.blind, mm_recv (q := (RX4, TX4, 7)) C hH kl_0 (mm_e4 kd_0) rfl, mm_pre C hH⟩ rfl rfl hl.1 rfl (lv_room (Nat.le_of_ble_eq_true rfl)) dL_chosen_139 ⟨Nat.zero_le _, Nat.zero_le _⟩) (fun H locs hH => ?_)
                refine lv_iload_n hx hb dL_chosen_142 rfl (lv_at hl 4 rfl) ?_
                refine lv_ishr hx hb dL_chosen_143 ?_
                refine lv_iconst (v := 1) hx hb dL_chosen_144 (by decide) ?_
                refine lv_iand hx hb dL_chosen_145 ?_
                refine lv_aload_n hx hb dL_chosen_146 rfl (lv_at hl 1 rfl) ?_
                refine lv_iload_n hx hb dL_chosen_147 rfl (lv_at hl 4 rfl) ?_
                refine lv_iconst (v := 3) hx hb dL_chosen_148 (by decide) ?_
                obtain ⟨v15, e15, h⟩ := mm_bnd h
                refine mm_goi hH (va_runV (As := [.int i3, .int 3]) (rest := [.int ((v14 >>> (i3 &&& 31)) &&& 1)]) ⟨hx, hb, C.2.2.1, C.2.2.2.1, C.2.2.2.2.1⟩ (ct_X4_of l G T b z i3 3 x e15) (cwV 2 C.2.2.2.2.1 gL_chosen_X4_of rfl rfl rfl df_X4_of ⟨Nat.le_of_ble_eq_true rfl, Nat.le_of_ble_eq_true rfl⟩) ⟨mm_B.blind, mm_recv (q := (RX4, TX4, 7)) C hH kl_0 (mm_e4 kd_0) rfl, mm_pre C hH⟩ rfl rfl hl.1 rfl (lv_room (Nat.le_of_ble_eq_true rfl)) dL_chosen_149 ⟨Nat.zero_le _, Nat.zero_le _⟩) (fun H locs hH => ?_)
                refine lv_icmp_eq (tgt := 157) hx hb dL_chosen_152 (by decide) (fun c10 => ?_) (fun c10 => ?_)
                · have h := mm_pos c10 h
                  refine lv_iload_n hx hb dL_chosen_157 rfl (lv_at hl 3 rfl) ?_
                  refine lv_iload hx hb dL_chosen_158 (lv_at hl 0 rfl) ?_
                  refine lv_if_eq (tgt := 169) hx hb dL_chosen_160 (by decide) (fun _ => ?_) (fun c => absurd (by decide) c)
                  have hl := lv_sub (l' := [(0, .ref (b + 0)), (1, .int a1), (3, .int i3)]) hl [1, 2, 4] rfl
                  refine lv_iconst (v := 1) hx hb dL_chosen_169 (by decide) ?_
                  refine lv_goto (tgt := 174) hx hb dL_chosen_170 (by decide) ?_
                  refine lv_iadd hx hb dL_chosen_174 ?_
                  obtain ⟨v16, e16, h⟩ := mm_bnd h
                  refine mm_nmi e16 ?_
                  refine lv_istore_n (lv' := [(2, .int v16), (0, .ref (b + 0)), (1, .int a1), (3, .int i3)]) hx hb dL_chosen_175 rfl hl (by decide) rfl (fun ls hl => ?_)
                  obtain ⟨v17, e17, h⟩ := mm_bnd h
                  refine lv_iinc (v := v17) (lv' := [(3, .int v17), (2, .int v16), (0, .ref (b + 0)), (1, .int a1)]) hx hb dL_chosen_176 hl (k := 3) rfl (Option.some.inj e17) (by decide) rfl (fun ls hl => ?_)
                  refine lv_goto (tgt := 61) hx hb dL_chosen_179 (by decide) ?_
                  exact ih v16 v17 x _ _ _ _ h hH (lv_sub hl [2, 3, 1, 0] rfl) kk
                · have h := mm_neg c10 h
                  have hl := lv_sub (l' := []) hl [] rfl
                  cases h
        · have h := mm_pos c3 h
          refine lv_iconst (v := 2) hx hb dL_chosen_93 (by decide) ?_
          refine lv_goto (tgt := 107) hx hb dL_chosen_94 (by decide) ?_
          refine lv_istore (lv' := [(4, .int 2), (0, .ref (b + 0)), (1, .int a1), (2, .int i2), (3, .int i3)]) hx hb dL_chosen_107 hl (by decide) rfl (fun ls hl => ?_)
          refine lv_aload_n hx hb dL_chosen_109 rfl (lv_at hl 1 rfl) ?_
          refine lv_iload_n hx hb dL_chosen_110 rfl (lv_at hl 4 rfl) ?_
          obtain ⟨v18, e18, h⟩ := mm_bnd h
          refine mm_goi hH (va_runV (As := [.int i3]) (rest := []) ⟨hx, hb, C.2.2.1, C.2.2.2.1, C.2.2.2.2.1⟩ (ct_X4_why l G T b z i3 x e18) (cwV 1 C.2.2.2.2.1 gL_chosen_X4_why rfl rfl rfl df_X4_why ⟨Nat.le_of_ble_eq_true rfl, Nat.le_of_ble_eq_true rfl⟩) ⟨mm_B.blind, mm_recv (q := (RX4, TX4, 7)) C hH kl_0 (mm_e4 kd_0) rfl, mm_pre C hH⟩ rfl rfl hl.1 rfl (lv_room (Nat.le_of_ble_eq_true rfl)) dL_chosen_111 ⟨Nat.zero_le _, Nat.zero_le _⟩) (fun H locs hH => ?_)
          refine lv_iload hx hb dL_chosen_114 (lv_at hl 0 rfl) ?_
          refine lv_icmp_ne (tgt := 155) hx hb dL_chosen_116 (by decide) (fun c11 => ?_) (fun c11 => ?_)
          · have h := mm_neg c11 h
            have hl := lv_sub (l' := []) hl [] rfl
            cases h
          · have h := mm_pos c11 h
            refine lv_aload_n hx hb dL_chosen_119 rfl (lv_at hl 1 rfl) ?_
            refine lv_iconst (v := 2) hx hb dL_chosen_120 (by decide) ?_
            obtain ⟨v19, e19, h⟩ := mm_bnd h
            refine mm_goi hH (va_runV (As := [.int 2]) (rest := []) ⟨hx, hb, C.2.2.1, C.2.2.2.1, C.2.2.2.2.1⟩ (ct_X4_count l G T b z 2 x e19) (cwV 1 C.2.2.2.2.1 gL_chosen_X4_count rfl rfl rfl df_X4_count ⟨Nat.le_of_ble_eq_true rfl, Nat.le_of_ble_eq_true rfl⟩) ⟨mm_B.blind, mm_recv (q := (RX4, TX4, 7)) C hH kl_0 (mm_e4 kd_0) rfl, mm_pre C hH⟩ rfl rfl hl.1 rfl (lv_room (Nat.le_of_ble_eq_true rfl)) dL_chosen_121 ⟨Nat.zero_le _, Nat.zero_le _⟩) (fun H locs hH => ?_)
            refine lv_iload_n hx hb dL_chosen_124 rfl (lv_at hl 4 rfl) ?_
            refine lv_ishr hx hb dL_chosen_125 ?_
            refine lv_iconst (v := 1) hx hb dL_chosen_126 (by decide) ?_
            refine lv_iand hx hb dL_chosen_127 ?_
            refine lv_aload_n hx hb dL_chosen_128 rfl (lv_at hl 1 rfl) ?_
            refine lv_iload_n hx hb dL_chosen_129 rfl (lv_at hl 4 rfl) ?_
            refine lv_iconst (v := 0) hx hb dL_chosen_130 (by decide) ?_
            obtain ⟨v20, e20, h⟩ := mm_bnd h
            refine mm_goi hH (va_runV (As := [.int i3, .int 0]) (rest := [.int ((v19 >>> (i3 &&& 31)) &&& 1)]) ⟨hx, hb, C.2.2.1, C.2.2.2.1, C.2.2.2.2.1⟩ (ct_X4_of l G T b z i3 0 x e20) (cwV 2 C.2.2.2.2.1 gL_chosen_X4_of rfl rfl rfl df_X4_of ⟨Nat.le_of_ble_eq_true rfl, Nat.le_of_ble_eq_true rfl⟩) ⟨mm_B.blind, mm_recv (q := (RX4, TX4, 7)) C hH kl_0 (mm_e4 kd_0) rfl, mm_pre C hH⟩ rfl rfl hl.1 rfl (lv_room (Nat.le_of_ble_eq_true rfl)) dL_chosen_131 ⟨Nat.zero_le _, Nat.zero_le _⟩) (fun H locs hH => ?_)
            refine lv_icmp_ne (tgt := 155) hx hb dL_chosen_134 (by decide) (fun c12 => ?_) (fun c12 => ?_)
            · have h := mm_neg c12 h
              have hl := lv_sub (l' := []) hl [] rfl
              cases h
            · have h := mm_pos c12 h
              refine lv_aload_n hx hb dL_chosen_137 rfl (lv_at hl 1 rfl) ?_
              refine lv_iconst (v := 3) hx hb dL_chosen_138 (by decide) ?_
              obtain ⟨v21, e21, h⟩ := mm_bnd h
              refine mm_goi hH (va_runV (As := [.int 3]) (rest := []) ⟨hx, hb, C.2.2.1, C.2.2.2.1, C.2.2.2.2.1⟩ (ct_X4_count l G T b z 3 x e21) (cwV 1 C.2.2.2.2.1 gL_chosen_X4_count rfl rfl rfl df_X4_count ⟨Nat.le_of_ble_eq_true rfl, Nat.le_of_ble_eq_true rfl⟩) ⟨mm_B.blind, mm_recv (q := (RX4, TX4, 7)) C hH kl_0 (mm_e4 kd_0) rfl, mm_pre C hH⟩ rfl rfl hl.1 rfl (lv_room (Nat.le_of_ble_eq_true rfl)) dL_chosen_139 ⟨Nat.zero_le _, Nat.zero_le _⟩) (fun H locs hH => ?_)
              refine lv_iload_n hx hb dL_chosen_142 rfl (lv_at hl 4 rfl) ?_
              refine lv_ishr hx hb dL_chosen_143 ?_
              refine lv_iconst (v := 1) hx hb dL_chosen_144 (by decide) ?_
              refine lv_iand hx hb dL_chosen_145 ?_
              refine lv_aload_n hx hb dL_chosen_146 rfl (lv_at hl 1 rfl) ?_
              refine lv_iload_n hx hb dL_chosen_147 rfl (lv_at hl 4 rfl) ?_
              refine lv_iconst (v := 3) hx hb dL_chosen_148 (by decide) ?_
              obtain ⟨v22, e22, h⟩ := mm_bnd h
              refine mm_goi hH (va_runV (As := [.int i3, .int 3]) (rest := [.int ((v21 >>> (i3 &&& 31)) &&& 1)]) ⟨hx, hb, C.2.2.1, C.2.2.2.1, C.2.2.2.2.1⟩ (ct_X4_of l G T b z i3 3 x e22) (cwV 2 C.2.2.2.2.1 gL_chosen_X4_of rfl rfl rfl df_X4_of ⟨Nat.le_of_ble_eq_true rfl, Nat.le_of_ble_eq_true rfl⟩) ⟨mm_B.blind, mm_recv (q := (RX4, TX4, 7)) C hH kl_0 (mm_e4 kd_0) rfl, mm_pre C hH⟩ rfl rfl hl.1 rfl (lv_room (Nat.le_of_ble_eq_true rfl)) dL_chosen_149 ⟨Nat.zero_le _, Nat.zero_le _⟩) (fun H locs hH => ?_)
              refine lv_icmp_eq (tgt := 157) hx hb dL_chosen_152 (by decide) (fun c13 => ?_) (fun c13 => ?_)
              · have h := mm_pos c13 h
                refine lv_iload_n hx hb dL_chosen_157 rfl (lv_at hl 3 rfl) ?_
                refine lv_iload hx hb dL_chosen_158 (lv_at hl 0 rfl) ?_
                refine lv_if_eq (tgt := 169) hx hb dL_chosen_160 (by decide) (fun c => absurd c (by decide)) (fun _ => ?_)
                have hl := lv_sub (l' := [(4, .int 2), (0, .ref (b + 0)), (1, .int a1), (3, .int i3)]) hl [0, 1, 2, 4] rfl
                refine lv_iload hx hb dL_chosen_163 (lv_at hl 0 rfl) ?_
                refine lv_iconst (v := 3) hx hb dL_chosen_165 (by decide) ?_
                refine lv_icmp_ne (tgt := 173) hx hb dL_chosen_166 (by decide) (fun _ => ?_) (fun c => absurd c (by decide))
                have hl := lv_sub (l' := [(0, .ref (b + 0)), (1, .int a1), (3, .int i3)]) hl [1, 2, 3] rfl
                refine lv_iconst (v := 0) hx hb dL_chosen_173 (by decide) ?_
                refine lv_iadd hx hb dL_chosen_174 ?_
                obtain ⟨v23, e23, h⟩ := mm_bnd h
                refine mm_nmi e23 ?_
                refine lv_istore_n (lv' := [(2, .int v23), (0, .ref (b + 0)), (1, .int a1), (3, .int i3)]) hx hb dL_chosen_175 rfl hl (by decide) rfl (fun ls hl => ?_)
                obtain ⟨v24, e24, h⟩ := mm_bnd h
                refine lv_iinc (v := v24) (lv' := [(3, .int v24), (2, .int v23), (0, .ref (b + 0)), (1, .int a1)]) hx hb dL_chosen_176 hl (k := 3) rfl (Option.some.inj e24) (by decide) rfl (fun ls hl => ?_)
                refine lv_goto (tgt := 61) hx hb dL_chosen_179 (by decide) ?_
                exact ih v23 v24 x _ _ _ _ h hH (lv_sub hl [2, 3, 1, 0] rfl) kk
              · have h := mm_neg c13 h
                have hl := lv_sub (l' := []) hl [] rfl
                cases h
      · have h := mm_pos c2 h
        refine lv_iconst (v := 1) hx hb dL_chosen_79 (by decide) ?_
        refine lv_goto (tgt := 107) hx hb dL_chosen_80 (by decide) ?_
        refine lv_istore (lv' := [(4, .int 1), (0, .ref (b + 0)), (1, .int a1), (2, .int i2), (3, .int i3)]) hx hb dL_chosen_107 hl (by decide) rfl (fun ls hl => ?_)
        refine lv_aload_n hx hb dL_chosen_109 rfl (lv_at hl 1 rfl) ?_
        refine lv_iload_n hx hb dL_chosen_110 rfl (lv_at hl 4 rfl) ?_
        obtain ⟨v25, e25, h⟩ := mm_bnd h
        refine mm_goi hH (va_runV (As := [.int i3]) (rest := []) ⟨hx, hb, C.2.2.1, C.2.2.2.1, C.2.2.2.2.1⟩ (ct_X4_why l G T b z i3 x e25) (cwV 1 C.2.2.2.2.1 gL_chosen_X4_why rfl rfl rfl df_X4_why ⟨Nat.le_of_ble_eq_true rfl, Nat.le_of_ble_eq_true rfl⟩) ⟨mm_B.blind, mm_recv (q := (RX4, TX4, 7)) C hH kl_0 (mm_e4 kd_0) rfl, mm_pre C hH⟩ rfl rfl hl.1 rfl (lv_room (Nat.le_of_ble_eq_true rfl)) dL_chosen_111 ⟨Nat.zero_le _, Nat.zero_le _⟩) (fun H locs hH => ?_)
        refine lv_iload hx hb dL_chosen_114 (lv_at hl 0 rfl) ?_
        refine lv_icmp_ne (tgt := 155) hx hb dL_chosen_116 (by decide) (fun c14 => ?_) (fun c14 => ?_)
        · have h := mm_neg c14 h
          have hl := lv_sub (l' := []) hl [] rfl
          cases h
        · have h := mm_pos c14 h
          refine lv_aload_n hx hb dL_chosen_119 rfl (lv_at hl 1 rfl) ?_
          refine lv_iconst (v := 2) hx hb dL_chosen_120 (by decide) ?_
          obtain ⟨v26, e26, h⟩ := mm_bnd h
          refine mm_goi hH (va_runV (As := [.int 2]) (rest := []) ⟨hx, hb, C.2.2.1, C.2.2.2.1, C.2.2.2.2.1⟩ (ct_X4_count l G T b z 2 x e26) (cwV 1 C.2.2.2.2.1 gL_chosen_X4_count rfl rfl rfl df_X4_count ⟨Nat.le_of_ble_eq_true rfl, Nat.le_of_ble_eq_true rfl⟩) ⟨mm_B.blind, mm_recv (q := (RX4, TX4, 7)) C hH kl_0 (mm_e4 kd_0) rfl, mm_pre C hH⟩ rfl rfl hl.1 rfl (lv_room (Nat.le_of_ble_eq_true rfl)) dL_chosen_121 ⟨Nat.zero_le _, Nat.zero_le _⟩) (fun H locs hH => ?_)
          refine lv_iload_n hx hb dL_chosen_124 rfl (lv_at hl 4 rfl) ?_
          refine lv_ishr hx hb dL_chosen_125 ?_
          refine lv_iconst (v := 1) hx hb dL_chosen_126 (by decide) ?_
          refine lv_iand hx hb dL_chosen_127 ?_
          refine lv_aload_n hx hb dL_chosen_128 rfl (lv_at hl 1 rfl) ?_
          refine lv_iload_n hx hb dL_chosen_129 rfl (lv_at hl 4 rfl) ?_
          refine lv_iconst (v := 0) hx hb dL_chosen_130 (by decide) ?_
          obtain ⟨v27, e27, h⟩ := mm_bnd h
          refine mm_goi hH (va_runV (As := [.int i3, .int 0]) (rest := [.int ((v26 >>> (i3 &&& 31)) &&& 1)]) ⟨hx, hb, C.2.2.1, C.2.2.2.1, C.2.2.2.2.1⟩ (ct_X4_of l G T b z i3 0 x e27) (cwV 2 C.2.2.2.2.1 gL_chosen_X4_of rfl rfl rfl df_X4_of ⟨Nat.le_of_ble_eq_true rfl, Nat.le_of_ble_eq_true rfl⟩) ⟨mm_B.blind, mm_recv (q := (RX4, TX4, 7)) C hH kl_0 (mm_e4 kd_0) rfl, mm_pre C hH⟩ rfl rfl hl.1 rfl (lv_room (Nat.le_of_ble_eq_true rfl)) dL_chosen_131 ⟨Nat.zero_le _, Nat.zero_le _⟩) (fun H locs hH => ?_)
          refine lv_icmp_ne (tgt := 155) hx hb dL_chosen_134 (by decide) (fun c15 => ?_) (fun c15 => ?_)
          · have h := mm_neg c15 h
            have hl := lv_sub (l' := []) hl [] rfl
            cases h
          · have h := mm_pos c15 h
            refine lv_aload_n hx hb dL_chosen_137 rfl (lv_at hl 1 rfl) ?_
            refine lv_iconst (v := 3) hx hb dL_chosen_138 (by decide) ?_
            obtain ⟨v28, e28, h⟩ := mm_bnd h
            refine mm_goi hH (va_runV (As := [.int 3]) (rest := []) ⟨hx, hb, C.2.2.1, C.2.2.2.1, C.2.2.2.2.1⟩ (ct_X4_count l G T b z 3 x e28) (cwV 1 C.2.2.2.2.1 gL_chosen_X4_count rfl rfl rfl df_X4_count ⟨Nat.le_of_ble_eq_true rfl, Nat.le_of_ble_eq_true rfl⟩) ⟨mm_B.blind, mm_recv (q := (RX4, TX4, 7)) C hH kl_0 (mm_e4 kd_0) rfl, mm_pre C hH⟩ rfl rfl hl.1 rfl (lv_room (Nat.le_of_ble_eq_true rfl)) dL_chosen_139 ⟨Nat.zero_le _, Nat.zero_le _⟩) (fun H locs hH => ?_)
            refine lv_iload_n hx hb dL_chosen_142 rfl (lv_at hl 4 rfl) ?_
            refine lv_ishr hx hb dL_chosen_143 ?_
            refine lv_iconst (v := 1) hx hb dL_chosen_144 (by decide) ?_
            refine lv_iand hx hb dL_chosen_145 ?_
            refine lv_aload_n hx hb dL_chosen_146 rfl (lv_at hl 1 rfl) ?_
            refine lv_iload_n hx hb dL_chosen_147 rfl (lv_at hl 4 rfl) ?_
            refine lv_iconst (v := 3) hx hb dL_chosen_148 (by decide) ?_
            obtain ⟨v29, e29, h⟩ := mm_bnd h
            refine mm_goi hH (va_runV (As := [.int i3, .int 3]) (rest := [.int ((v28 >>> (i3 &&& 31)) &&& 1)]) ⟨hx, hb, C.2.2.1, C.2.2.2.1, C.2.2.2.2.1⟩ (ct_X4_of l G T b z i3 3 x e29) (cwV 2 C.2.2.2.2.1 gL_chosen_X4_of rfl rfl rfl df_X4_of ⟨Nat.le_of_ble_eq_true rfl, Nat.le_of_ble_eq_true rfl⟩) ⟨mm_B.blind, mm_recv (q := (RX4, TX4, 7)) C hH kl_0 (mm_e4 kd_0) rfl, mm_pre C hH⟩ rfl rfl hl.1 rfl (lv_room (Nat.le_of_ble_eq_true rfl)) dL_chosen_149 ⟨Nat.zero_le _, Nat.zero_le _⟩) (fun H locs hH => ?_)
            refine lv_icmp_eq (tgt := 157) hx hb dL_chosen_152 (by decide) (fun c16 => ?_) (fun c16 => ?_)
            · have h := mm_pos c16 h
              refine lv_iload_n hx hb dL_chosen_157 rfl (lv_at hl 3 rfl) ?_
              refine lv_iload hx hb dL_chosen_158 (lv_at hl 0 rfl) ?_
              refine lv_if_eq (tgt := 169) hx hb dL_chosen_160 (by decide) (fun c => absurd c (by decide)) (fun _ => ?_)
              have hl := lv_sub (l' := [(4, .int 1), (0, .ref (b + 0)), (1, .int a1), (3, .int i3)]) hl [0, 1, 2, 4] rfl
              refine lv_iload hx hb dL_chosen_163 (lv_at hl 0 rfl) ?_
              refine lv_iconst (v := 3) hx hb dL_chosen_165 (by decide) ?_
              refine lv_icmp_ne (tgt := 173) hx hb dL_chosen_166 (by decide) (fun _ => ?_) (fun c => absurd c (by decide))
              have hl := lv_sub (l' := [(0, .ref (b + 0)), (1, .int a1), (3, .int i3)]) hl [1, 2, 3] rfl
              refine lv_iconst (v := 0) hx hb dL_chosen_173 (by decide) ?_
              refine lv_iadd hx hb dL_chosen_174 ?_
              obtain ⟨v30, e30, h⟩ := mm_bnd h
              refine mm_nmi e30 ?_
              refine lv_istore_n (lv' := [(2, .int v30), (0, .ref (b + 0)), (1, .int a1), (3, .int i3)]) hx hb dL_chosen_175 rfl hl (by decide) rfl (fun ls hl => ?_)
              obtain ⟨v31, e31, h⟩ := mm_bnd h
              refine lv_iinc (v := v31) (lv' := [(3, .int v31), (2, .int v30), (0, .ref (b + 0)), (1, .int a1)]) hx hb dL_chosen_176 hl (k := 3) rfl (Option.some.inj e31) (by decide) rfl (fun ls hl => ?_)
              refine lv_goto (tgt := 61) hx hb dL_chosen_179 (by decide) ?_
              exact ih v30 v31 x _ _ _ _ h hH (lv_sub hl [2, 3, 1, 0] rfl) kk
            · have h := mm_neg c16 h
              have hl := lv_sub (l' := []) hl [] rfl
              cases h
set_option maxRecDepth 100000 in
set_option maxHeartbeats 4000000 in
theorem lp_L_chosen_184 {p : Program} {l : Launch} {e : Env} {s : State} {m : MethodId} {args : Array Value} {below : List Frame} {meth : Method} {c : Code} {Q : State → Prop} {G : va_G} {T : Nat → ClassId} {b : Nat} {z : Nat → Nat} (C : mm_C p m c cL_chosen 6 s args wsL_chosen RL G T b z) (a2 : Int32) : ∀ (n : Nat) (i3 : Int32) (x : mm_M) (H : Heap) (locs : List Loc) (ls : Array Slot) , fn_L_chosen_184 n a2 i3 x = some () → mm_H G T b x s H locs → lv_has ls 6 [(0, .ref (b + 0)), (2, .int a2), (3, .int i3)] → (∀ (H1 : Heap) (locs1 : List Loc) (ls1 : Array Slot), mm_H G T b x s H1 locs1 → lv_has ls1 6 [(0, .ref (b + 0)), (2, .int a2)] → W p l e rm_L_chosen s m args below meth c H1 locs1 0 0 Q (F0 m 254 ls1 [])) → W p l e rm_L_chosen s m args below meth c H locs 0 0 Q (F0 m 184 ls []) := by
  have hx := C.1
  have hb := C.2.1
  intro n
  induction n with
  | zero => intro _ _ _ _ _ h; cases (show (none : Option Unit) = some _ from h)
  | succ n ih =>
    intro i3 x H locs ls  h hH hl kk
    rw [fn_L_chosen_184] at h
    refine lv_iload_n hx hb dL_chosen_184 rfl (lv_at hl 2 rfl) ?_
    refine lv_iload_n hx hb dL_chosen_185 rfl (lv_at hl 1 rfl) ?_
    refine lv_icmp_ge (tgt := 254) hx hb dL_chosen_186 (by decide) (fun c1 => ?_) (fun c1 => ?_)
    · have h := mm_pos c1 h
      have hl := lv_sub (l' := [(0, .ref (b + 0)), (2, .int a2)]) hl [0, 1] rfl
      clear h
      exact kk _ _ _ hH (lv_sub hl [0, 1] rfl)
    · have h := mm_neg c1 h
      refine lv_aload_n hx hb dL_chosen_189 rfl (lv_at hl 0 rfl) ?_
      refine lv_iload_n hx hb dL_chosen_190 rfl (lv_at hl 2 rfl) ?_
      refine lv_iconst (v := 1) hx hb dL_chosen_191 (by decide) ?_
      refine lv_isub hx hb dL_chosen_192 ?_
      obtain ⟨v1, e1, h⟩ := mm_bnd h
      refine mm_goi hH (va_runV (As := [.int (i3 - 1)]) (rest := []) ⟨hx, hb, C.2.2.1, C.2.2.2.1, C.2.2.2.2.1⟩ (ct_X4_choice l G T b z (i3 - 1) x e1) (cwV 1 C.2.2.2.2.1 gL_chosen_X4_choice rfl rfl rfl df_X4_choice ⟨Nat.le_of_ble_eq_true rfl, Nat.le_of_ble_eq_true rfl⟩) ⟨mm_B.blind, mm_recv (q := (RX4, TX4, 7)) C hH kl_0 (mm_e4 kd_0) rfl, mm_pre C hH⟩ rfl rfl hl.1 rfl (lv_room (Nat.le_of_ble_eq_true rfl)) dL_chosen_193 ⟨Nat.zero_le _, Nat.zero_le _⟩) (fun H locs hH => ?_)
      refine lv_istore (lv' := [(4, .int v1), (0, .ref (b + 0)), (2, .int a2), (3, .int i3)]) hx hb dL_chosen_196 hl (by decide) rfl (fun ls hl => ?_)
      refine lv_aload_n hx hb dL_chosen_198 rfl (lv_at hl 1 rfl) ?_
      refine lv_iload_n hx hb dL_chosen_199 rfl (lv_at hl 3 rfl) ?_
      obtain ⟨v2, e2, h⟩ := mm_bnd h
      refine mm_goi hH (va_runV (As := [.int i3]) (rest := []) ⟨hx, hb, C.2.2.1, C.2.2.2.1, C.2.2.2.2.1⟩ (ct_X4_choice l G T b z i3 x e2) (cwV 1 C.2.2.2.2.1 gL_chosen_X4_choice rfl rfl rfl df_X4_choice ⟨Nat.le_of_ble_eq_true rfl, Nat.le_of_ble_eq_true rfl⟩) ⟨mm_B.blind, mm_recv (q := (RX4, TX4, 7)) C hH kl_0 (mm_e4 kd_0) rfl, mm_pre C hH⟩ rfl rfl hl.1 rfl (lv_room (Nat.le_of_ble_eq_true rfl)) dL_chosen_200 ⟨Nat.zero_le _, Nat.zero_le _⟩) (fun H locs hH => ?_)
      refine lv_istore (lv' := [(5, .int v2), (4, .int v1), (0, .ref (b + 0)), (2, .int a2), (3, .int i3)]) hx hb dL_chosen_203 hl (by decide) rfl (fun ls hl => ?_)
      refine lv_aload_n hx hb dL_chosen_205 rfl (lv_at hl 2 rfl) ?_
      refine lv_iload hx hb dL_chosen_206 (lv_at hl 1 rfl) ?_
      refine lv_iconst (v := 1) hx hb dL_chosen_208 (by decide) ?_
      obtain ⟨v3, e3, h⟩ := mm_bnd h
      refine mm_goi hH (va_runV (As := [.int v1, .int 1]) (rest := []) ⟨hx, hb, C.2.2.1, C.2.2.2.1, C.2.2.2.2.1⟩ (ct_X4_of l G T b z v1 1 x e3) (cwV 2 C.2.2.2.2.1 gL_chosen_X4_of rfl rfl rfl df_X4_of ⟨Nat.le_of_ble_eq_true rfl, Nat.le_of_ble_eq_true rfl⟩) ⟨mm_B.blind, mm_recv (q := (RX4, TX4, 7)) C hH kl_0 (mm_e4 kd_0) rfl, mm_pre C hH⟩ rfl rfl hl.1 rfl (lv_room (Nat.le_of_ble_eq_true rfl)) dL_chosen_209 ⟨Nat.zero_le _, Nat.zero_le _⟩) (fun H locs hH => ?_)
      refine lv_aload_n hx hb dL_chosen_212 rfl (lv_at hl 2 rfl) ?_
      refine lv_iload hx hb dL_chosen_213 (lv_at hl 0 rfl) ?_
      refine lv_iconst (v := 1) hx hb dL_chosen_215 (by decide) ?_
      obtain ⟨v4, e4, h⟩ := mm_bnd h
      refine mm_goi hH (va_runV (As := [.int v2, .int 1]) (rest := [.int v3]) ⟨hx, hb, C.2.2.1, C.2.2.2.1, C.2.2.2.2.1⟩ (ct_X4_of l G T b z v2 1 x e4) (cwV 2 C.2.2.2.2.1 gL_chosen_X4_of rfl rfl rfl df_X4_of ⟨Nat.le_of_ble_eq_true rfl, Nat.le_of_ble_eq_true rfl⟩) ⟨mm_B.blind, mm_recv (q := (RX4, TX4, 7)) C hH kl_0 (mm_e4 kd_0) rfl, mm_pre C hH⟩ rfl rfl hl.1 rfl (lv_room (Nat.le_of_ble_eq_true rfl)) dL_chosen_216 ⟨Nat.zero_le _, Nat.zero_le _⟩) (fun H locs hH => ?_)
      refine lv_icmp_gt (tgt := 246) hx hb dL_chosen_219 (by decide) (fun c2 => ?_) (fun c2 => ?_)
      · have h := mm_pos c2 h
        have hl := lv_sub (l' := []) hl [] rfl
        cases h
      · have h := mm_neg c2 h
        refine lv_aload_n hx hb dL_chosen_222 rfl (lv_at hl 2 rfl) ?_
        refine lv_iload hx hb dL_chosen_223 (lv_at hl 1 rfl) ?_
        refine lv_iconst (v := 1) hx hb dL_chosen_225 (by decide) ?_
        obtain ⟨v5, e5, h⟩ := mm_bnd h
        refine mm_goi hH (va_runV (As := [.int v1, .int 1]) (rest := []) ⟨hx, hb, C.2.2.1, C.2.2.2.1, C.2.2.2.2.1⟩ (ct_X4_of l G T b z v1 1 x e5) (cwV 2 C.2.2.2.2.1 gL_chosen_X4_of rfl rfl rfl df_X4_of ⟨Nat.le_of_ble_eq_true rfl, Nat.le_of_ble_eq_true rfl⟩) ⟨mm_B.blind, mm_recv (q := (RX4, TX4, 7)) C hH kl_0 (mm_e4 kd_0) rfl, mm_pre C hH⟩ rfl rfl hl.1 rfl (lv_room (Nat.le_of_ble_eq_true rfl)) dL_chosen_226 ⟨Nat.zero_le _, Nat.zero_le _⟩) (fun H locs hH => ?_)
        refine lv_aload_n hx hb dL_chosen_229 rfl (lv_at hl 2 rfl) ?_
        refine lv_iload hx hb dL_chosen_230 (lv_at hl 0 rfl) ?_
        refine lv_iconst (v := 1) hx hb dL_chosen_232 (by decide) ?_
        obtain ⟨v6, e6, h⟩ := mm_bnd h
        refine mm_goi hH (va_runV (As := [.int v2, .int 1]) (rest := [.int v5]) ⟨hx, hb, C.2.2.1, C.2.2.2.1, C.2.2.2.2.1⟩ (ct_X4_of l G T b z v2 1 x e6) (cwV 2 C.2.2.2.2.1 gL_chosen_X4_of rfl rfl rfl df_X4_of ⟨Nat.le_of_ble_eq_true rfl, Nat.le_of_ble_eq_true rfl⟩) ⟨mm_B.blind, mm_recv (q := (RX4, TX4, 7)) C hH kl_0 (mm_e4 kd_0) rfl, mm_pre C hH⟩ rfl rfl hl.1 rfl (lv_room (Nat.le_of_ble_eq_true rfl)) dL_chosen_233 ⟨Nat.zero_le _, Nat.zero_le _⟩) (fun H locs hH => ?_)
        refine lv_icmp_ne (tgt := 248) hx hb dL_chosen_236 (by decide) (fun c3 => ?_) (fun c3 => ?_)
        · have h := mm_neg c3 h
          have hl := lv_sub (l' := [(0, .ref (b + 0)), (2, .int a2), (3, .int i3)]) hl [2, 3, 4] rfl
          obtain ⟨v7, e7, h⟩ := mm_bnd h
          refine lv_iinc (v := v7) (lv' := [(3, .int v7), (0, .ref (b + 0)), (2, .int a2)]) hx hb dL_chosen_248 hl (k := 2) rfl (Option.some.inj e7) (by decide) rfl (fun ls hl => ?_)
          refine lv_goto (tgt := 184) hx hb dL_chosen_251 (by decide) ?_
          exact ih v7 x _ _ _  h hH (lv_sub hl [1, 2, 0] rfl) kk
        · have h := mm_pos c3 h
          refine lv_iload hx hb dL_chosen_239 (lv_at hl 1 rfl) ?_
          refine lv_iload hx hb dL_chosen_241 (lv_at hl 0 rfl) ?_
          refine lv_icmp_lt (tgt := 248) hx hb dL_chosen_243 (by decide) (fun c4 => ?_) (fun c4 => ?_)
          · have h := mm_pos c4 h
            have hl := lv_sub (l' := [(0, .ref (b + 0)), (2, .int a2), (3, .int i3)]) hl [2, 3, 4] rfl
            obtain ⟨v8, e8, h⟩ := mm_bnd h
            refine lv_iinc (v := v8) (lv' := [(3, .int v8), (0, .ref (b + 0)), (2, .int a2)]) hx hb dL_chosen_248 hl (k := 2) rfl (Option.some.inj e8) (by decide) rfl (fun ls hl => ?_)
            refine lv_goto (tgt := 184) hx hb dL_chosen_251 (by decide) ?_
            exact ih v8 x _ _ _  h hH (lv_sub hl [1, 2, 0] rfl) kk
          · have h := mm_neg c4 h
            have hl := lv_sub (l' := []) hl [] rfl
            cases h
set_option maxRecDepth 100000 in
set_option maxHeartbeats 4000000 in
theorem ct_L_chosen (l : Launch) (G : va_G) (T : Nat → ClassId) (b : Nat) (z : Nat → Nat)  (x : mm_M) {r : Int32} (h : fn_L_chosen  x = some r) : mm_Ci l yL_chosen wsL_chosen rm_L_chosen G T b z [.ref (b + 0)] x r x := by
  unfold fn_L_chosen at h
  refine mm_start (cc := cL_chosen) (maxL := 6) (ret := (some .boolean)) (by decide) rfl (Nat.le_of_ble_eq_true rfl) (fun p e s m below meth c ls C hr hlk hH hl => ?_)
  have hl : lv_has ls 6 [(0, .ref (b + 0))] := hl
  have hx := C.1
  have hb := C.2.1
  refine lv_aload_n hx hb dL_chosen_0 rfl (lv_at hl 0 rfl) ?_
  obtain ⟨v1, e1, h⟩ := mm_bnd h
  refine mm_goi hH (va_runS (As := [.ref (b + 0)]) (rest := []) ⟨hx, hb, C.2.2.1, C.2.2.2.1, C.2.2.2.2.1⟩ (ct_L_taken l G T b z x e1) (va_cwS 1 C.2.2.2.2.1 gL_chosen_L_taken rfl rfl rfl df_L_taken.2 ⟨Nat.le_of_ble_eq_true rfl, Nat.le_of_ble_eq_true rfl⟩) ⟨mm_B.blind, mm_pre C hH⟩ rfl rfl hl.1 rfl (lv_room (Nat.le_of_ble_eq_true rfl)) dL_chosen_1 ⟨Nat.zero_le _, Nat.zero_le _⟩) (fun H locs hH => ?_)
  refine lv_istore_n (lv' := [(1, .int v1), (0, .ref (b + 0))]) hx hb dL_chosen_4 rfl hl (by decide) rfl (fun ls hl => ?_)
  refine lv_aload_n hx hb dL_chosen_5 rfl (lv_at hl 1 rfl) ?_
  refine lv_iconst (v := 4) hx hb dL_chosen_6 (by decide) ?_
  obtain ⟨v2, e2, h⟩ := mm_bnd h
  refine mm_goi hH (va_runV (As := [.int 4]) (rest := []) ⟨hx, hb, C.2.2.1, C.2.2.2.1, C.2.2.2.2.1⟩ (ct_X4_count l G T b z 4 x e2) (cwV 1 C.2.2.2.2.1 gL_chosen_X4_count rfl rfl rfl df_X4_count ⟨Nat.le_of_ble_eq_true rfl, Nat.le_of_ble_eq_true rfl⟩) ⟨mm_B.blind, mm_recv (q := (RX4, TX4, 7)) C hH kl_0 (mm_e4 kd_0) rfl, mm_pre C hH⟩ rfl rfl hl.1 rfl (lv_room (Nat.le_of_ble_eq_true rfl)) dL_chosen_7 ⟨Nat.zero_le _, Nat.zero_le _⟩) (fun H locs hH => ?_)
  refine lv_iload_n hx hb dL_chosen_10 rfl (lv_at hl 0 rfl) ?_
  refine lv_icmp_ne (tgt := 55) hx hb dL_chosen_11 (by decide) (fun c1 => ?_) (fun c1 => ?_)
  · have h := mm_neg c1 h
    have hl := lv_sub (l' := []) hl [] rfl
    cases h
  · have h := mm_pos c1 h
    refine lv_aload_n hx hb dL_chosen_14 rfl (lv_at hl 1 rfl) ?_
    refine lv_iconst (v := 0) hx hb dL_chosen_15 (by decide) ?_
    obtain ⟨v3, e3, h⟩ := mm_bnd h
    refine mm_goi hH (va_runV (As := [.int 0]) (rest := []) ⟨hx, hb, C.2.2.1, C.2.2.2.1, C.2.2.2.2.1⟩ (ct_X4_choice l G T b z 0 x e3) (cwV 1 C.2.2.2.2.1 gL_chosen_X4_choice rfl rfl rfl df_X4_choice ⟨Nat.le_of_ble_eq_true rfl, Nat.le_of_ble_eq_true rfl⟩) ⟨mm_B.blind, mm_recv (q := (RX4, TX4, 7)) C hH kl_0 (mm_e4 kd_0) rfl, mm_pre C hH⟩ rfl rfl hl.1 rfl (lv_room (Nat.le_of_ble_eq_true rfl)) dL_chosen_16 ⟨Nat.zero_le _, Nat.zero_le _⟩) (fun H locs hH => ?_)
    refine lv_iload_n hx hb dL_chosen_19 rfl (lv_at hl 0 rfl) ?_
    refine lv_if_ge (tgt := 27) hx hb dL_chosen_20 (by decide) (fun c2 => ?_) (fun c2 => ?_)
    · have h := mm_pos c2 h
      refine lv_iload_n hx hb dL_chosen_27 rfl (lv_at hl 0 rfl) ?_
      refine lv_icmp_ne (tgt := 55) hx hb dL_chosen_28 (by decide) (fun c3 => ?_) (fun c3 => ?_)
      · have h := mm_neg c3 h
        have hl := lv_sub (l' := []) hl [] rfl
        cases h
      · have h := mm_pos c3 h
        refine lv_aload_n hx hb dL_chosen_31 rfl (lv_at hl 1 rfl) ?_
        refine lv_iconst (v := (-1)) hx hb dL_chosen_32 (by decide) ?_
        obtain ⟨v4, e4, h⟩ := mm_bnd h
        refine mm_goi hH (va_runV (As := [.int (-1)]) (rest := []) ⟨hx, hb, C.2.2.1, C.2.2.2.1, C.2.2.2.2.1⟩ (ct_X4_choice l G T b z (-1) x e4) (cwV 1 C.2.2.2.2.1 gL_chosen_X4_choice rfl rfl rfl df_X4_choice ⟨Nat.le_of_ble_eq_true rfl, Nat.le_of_ble_eq_true rfl⟩) ⟨mm_B.blind, mm_recv (q := (RX4, TX4, 7)) C hH kl_0 (mm_e4 kd_0) rfl, mm_pre C hH⟩ rfl rfl hl.1 rfl (lv_room (Nat.le_of_ble_eq_true rfl)) dL_chosen_33 ⟨Nat.zero_le _, Nat.zero_le _⟩) (fun H locs hH => ?_)
        refine lv_iconst (v := (-1)) hx hb dL_chosen_36 (by decide) ?_
        refine lv_icmp_ne (tgt := 55) hx hb dL_chosen_37 (by decide) (fun c4 => ?_) (fun c4 => ?_)
        · have h := mm_neg c4 h
          have hl := lv_sub (l' := []) hl [] rfl
          cases h
        · have h := mm_pos c4 h
          refine lv_aload_n hx hb dL_chosen_40 rfl (lv_at hl 1 rfl) ?_
          refine lv_aload_n hx hb dL_chosen_41 rfl (lv_at hl 1 rfl) ?_
          refine lv_bipush (v := 6) hx hb dL_chosen_42 (by decide) ?_
          obtain ⟨v5, e5, h⟩ := mm_bnd h
          refine mm_goi hH (va_runV (As := [.int 6]) (rest := [.ref (b + 0)]) ⟨hx, hb, C.2.2.1, C.2.2.2.1, C.2.2.2.2.1⟩ (ct_X4_count l G T b z 6 x e5) (cwV 1 C.2.2.2.2.1 gL_chosen_X4_count rfl rfl rfl df_X4_count ⟨Nat.le_of_ble_eq_true rfl, Nat.le_of_ble_eq_true rfl⟩) ⟨mm_B.blind, mm_recv (q := (RX4, TX4, 7)) C hH kl_0 (mm_e4 kd_0) rfl, mm_pre C hH⟩ rfl rfl hl.1 rfl (lv_room (Nat.le_of_ble_eq_true rfl)) dL_chosen_44 ⟨Nat.zero_le _, Nat.zero_le _⟩) (fun H locs hH => ?_)
          refine lv_iconst (v := 0) hx hb dL_chosen_47 (by decide) ?_
          obtain ⟨v6, e6, h⟩ := mm_bnd h
          refine mm_goi hH (va_runV (As := [.int v5, .int 0]) (rest := []) ⟨hx, hb, C.2.2.1, C.2.2.2.1, C.2.2.2.2.1⟩ (ct_X4_log l G T b z v5 0 x e6) (cwV 2 C.2.2.2.2.1 gL_chosen_X4_log rfl rfl rfl df_X4_log ⟨Nat.le_of_ble_eq_true rfl, Nat.le_of_ble_eq_true rfl⟩) ⟨mm_B.blind, mm_recv (q := (RX4, TX4, 7)) C hH kl_0 (mm_e4 kd_0) rfl, mm_pre C hH⟩ rfl rfl hl.1 rfl (lv_room (Nat.le_of_ble_eq_true rfl)) dL_chosen_48 ⟨Nat.zero_le _, Nat.zero_le _⟩) (fun H locs hH => ?_)
          refine lv_iconst (v := (-1)) hx hb dL_chosen_51 (by decide) ?_
          refine lv_icmp_eq (tgt := 57) hx hb dL_chosen_52 (by decide) (fun c5 => ?_) (fun c5 => ?_)
          · have h := mm_pos c5 h
            refine lv_iconst (v := 0) hx hb dL_chosen_57 (by decide) ?_
            refine lv_istore_n (lv' := [(2, .int 0), (1, .int v1), (0, .ref (b + 0))]) hx hb dL_chosen_58 rfl hl (by decide) rfl (fun ls hl => ?_)
            refine lv_iconst (v := 0) hx hb dL_chosen_59 (by decide) ?_
            refine lv_istore_n (lv' := [(3, .int 0), (2, .int 0), (1, .int v1), (0, .ref (b + 0))]) hx hb dL_chosen_60 rfl hl (by decide) rfl (fun ls hl => ?_)
            obtain ⟨v7, e7, h⟩ := mm_bnd h
            refine lp_L_chosen_61 C v1 9 0 0 x _ _ _ _ e7 hH (lv_sub hl [3, 2, 1, 0] rfl) (fun H locs ls hH hl => ?_)
            refine lv_iconst (v := 1) hx hb dL_chosen_182 (by decide) ?_
            refine lv_istore_n (lv' := [(3, .int 1), (0, .ref (b + 0)), (2, .int v7)]) hx hb dL_chosen_183 rfl hl (by decide) rfl (fun ls hl => ?_)
            obtain ⟨⟨⟩, e8, h⟩ := mm_bnd h
            refine lp_L_chosen_184 C v7 9 1 x _ _ _ e8 hH (lv_sub hl [1, 2, 0] rfl) (fun H locs ls hH hl => ?_)
            refine lv_aload_n hx hb dL_chosen_254 rfl (lv_at hl 0 rfl) ?_
            refine lv_iload_n hx hb dL_chosen_255 rfl (lv_at hl 1 rfl) ?_
            obtain ⟨v8, e9, h⟩ := mm_bnd h
            refine mm_goi hH (va_runV (As := [.int v7]) (rest := []) ⟨hx, hb, C.2.2.1, C.2.2.2.1, C.2.2.2.2.1⟩ (ct_X4_choice l G T b z v7 x e9) (cwV 1 C.2.2.2.2.1 gL_chosen_X4_choice rfl rfl rfl df_X4_choice ⟨Nat.le_of_ble_eq_true rfl, Nat.le_of_ble_eq_true rfl⟩) ⟨mm_B.blind, mm_recv (q := (RX4, TX4, 7)) C hH kl_0 (mm_e4 kd_0) rfl, mm_pre C hH⟩ rfl rfl hl.1 rfl (lv_room (Nat.le_of_ble_eq_true rfl)) dL_chosen_256 ⟨Nat.zero_le _, Nat.zero_le _⟩) (fun H locs hH => ?_)
            refine lv_iconst (v := (-1)) hx hb dL_chosen_259 (by decide) ?_
            refine lv_icmp_ne (tgt := 267) hx hb dL_chosen_260 (by decide) (fun c6 => ?_) (fun c6 => ?_)
            · have h := mm_neg c6 h
              have hl := lv_sub (l' := []) hl [] rfl
              cases h
            · have h := mm_pos c6 h
              have hl := lv_sub (l' := []) hl [] rfl
              refine lv_iconst (v := 1) hx hb dL_chosen_263 (by decide) ?_
              refine lv_goto (tgt := 268) hx hb dL_chosen_264 (by decide) ?_
              exact mm_iretP C hH hr hlk rfl h dL_chosen_268
          · have h := mm_neg c5 h
            have hl := lv_sub (l' := []) hl [] rfl
            cases h
    · have h := mm_neg c2 h
      refine lv_iconst (v := (-1)) hx hb dL_chosen_23 (by decide) ?_
      refine lv_goto (tgt := 28) hx hb dL_chosen_24 (by decide) ?_
      refine lv_icmp_ne (tgt := 55) hx hb dL_chosen_28 (by decide) (fun c7 => ?_) (fun c7 => ?_)
      · have h := mm_neg c7 h
        have hl := lv_sub (l' := []) hl [] rfl
        cases h
      · have h := mm_pos c7 h
        refine lv_aload_n hx hb dL_chosen_31 rfl (lv_at hl 1 rfl) ?_
        refine lv_iconst (v := (-1)) hx hb dL_chosen_32 (by decide) ?_
        obtain ⟨v9, e10, h⟩ := mm_bnd h
        refine mm_goi hH (va_runV (As := [.int (-1)]) (rest := []) ⟨hx, hb, C.2.2.1, C.2.2.2.1, C.2.2.2.2.1⟩ (ct_X4_choice l G T b z (-1) x e10) (cwV 1 C.2.2.2.2.1 gL_chosen_X4_choice rfl rfl rfl df_X4_choice ⟨Nat.le_of_ble_eq_true rfl, Nat.le_of_ble_eq_true rfl⟩) ⟨mm_B.blind, mm_recv (q := (RX4, TX4, 7)) C hH kl_0 (mm_e4 kd_0) rfl, mm_pre C hH⟩ rfl rfl hl.1 rfl (lv_room (Nat.le_of_ble_eq_true rfl)) dL_chosen_33 ⟨Nat.zero_le _, Nat.zero_le _⟩) (fun H locs hH => ?_)
        refine lv_iconst (v := (-1)) hx hb dL_chosen_36 (by decide) ?_
        refine lv_icmp_ne (tgt := 55) hx hb dL_chosen_37 (by decide) (fun c8 => ?_) (fun c8 => ?_)
        · have h := mm_neg c8 h
          have hl := lv_sub (l' := []) hl [] rfl
          cases h
        · have h := mm_pos c8 h
          refine lv_aload_n hx hb dL_chosen_40 rfl (lv_at hl 1 rfl) ?_
          refine lv_aload_n hx hb dL_chosen_41 rfl (lv_at hl 1 rfl) ?_
          refine lv_bipush (v := 6) hx hb dL_chosen_42 (by decide) ?_
          obtain ⟨v10, e11, h⟩ := mm_bnd h
          refine mm_goi hH (va_runV (As := [.int 6]) (rest := [.ref (b + 0)]) ⟨hx, hb, C.2.2.1, C.2.2.2.1, C.2.2.2.2.1⟩ (ct_X4_count l G T b z 6 x e11) (cwV 1 C.2.2.2.2.1 gL_chosen_X4_count rfl rfl rfl df_X4_count ⟨Nat.le_of_ble_eq_true rfl, Nat.le_of_ble_eq_true rfl⟩) ⟨mm_B.blind, mm_recv (q := (RX4, TX4, 7)) C hH kl_0 (mm_e4 kd_0) rfl, mm_pre C hH⟩ rfl rfl hl.1 rfl (lv_room (Nat.le_of_ble_eq_true rfl)) dL_chosen_44 ⟨Nat.zero_le _, Nat.zero_le _⟩) (fun H locs hH => ?_)
          refine lv_iconst (v := 0) hx hb dL_chosen_47 (by decide) ?_
          obtain ⟨v11, e12, h⟩ := mm_bnd h
          refine mm_goi hH (va_runV (As := [.int v10, .int 0]) (rest := []) ⟨hx, hb, C.2.2.1, C.2.2.2.1, C.2.2.2.2.1⟩ (ct_X4_log l G T b z v10 0 x e12) (cwV 2 C.2.2.2.2.1 gL_chosen_X4_log rfl rfl rfl df_X4_log ⟨Nat.le_of_ble_eq_true rfl, Nat.le_of_ble_eq_true rfl⟩) ⟨mm_B.blind, mm_recv (q := (RX4, TX4, 7)) C hH kl_0 (mm_e4 kd_0) rfl, mm_pre C hH⟩ rfl rfl hl.1 rfl (lv_room (Nat.le_of_ble_eq_true rfl)) dL_chosen_48 ⟨Nat.zero_le _, Nat.zero_le _⟩) (fun H locs hH => ?_)
          refine lv_iconst (v := (-1)) hx hb dL_chosen_51 (by decide) ?_
          refine lv_icmp_eq (tgt := 57) hx hb dL_chosen_52 (by decide) (fun c9 => ?_) (fun c9 => ?_)
          · have h := mm_pos c9 h
            refine lv_iconst (v := 0) hx hb dL_chosen_57 (by decide) ?_
            refine lv_istore_n (lv' := [(2, .int 0), (1, .int v1), (0, .ref (b + 0))]) hx hb dL_chosen_58 rfl hl (by decide) rfl (fun ls hl => ?_)
            refine lv_iconst (v := 0) hx hb dL_chosen_59 (by decide) ?_
            refine lv_istore_n (lv' := [(3, .int 0), (2, .int 0), (1, .int v1), (0, .ref (b + 0))]) hx hb dL_chosen_60 rfl hl (by decide) rfl (fun ls hl => ?_)
            obtain ⟨v12, e13, h⟩ := mm_bnd h
            refine lp_L_chosen_61 C v1 9 0 0 x _ _ _ _ e13 hH (lv_sub hl [3, 2, 1, 0] rfl) (fun H locs ls hH hl => ?_)
            refine lv_iconst (v := 1) hx hb dL_chosen_182 (by decide) ?_
            refine lv_istore_n (lv' := [(3, .int 1), (0, .ref (b + 0)), (2, .int v12)]) hx hb dL_chosen_183 rfl hl (by decide) rfl (fun ls hl => ?_)
            obtain ⟨⟨⟩, e14, h⟩ := mm_bnd h
            refine lp_L_chosen_184 C v12 9 1 x _ _ _ e14 hH (lv_sub hl [1, 2, 0] rfl) (fun H locs ls hH hl => ?_)
            refine lv_aload_n hx hb dL_chosen_254 rfl (lv_at hl 0 rfl) ?_
            refine lv_iload_n hx hb dL_chosen_255 rfl (lv_at hl 1 rfl) ?_
            obtain ⟨v13, e15, h⟩ := mm_bnd h
            refine mm_goi hH (va_runV (As := [.int v12]) (rest := []) ⟨hx, hb, C.2.2.1, C.2.2.2.1, C.2.2.2.2.1⟩ (ct_X4_choice l G T b z v12 x e15) (cwV 1 C.2.2.2.2.1 gL_chosen_X4_choice rfl rfl rfl df_X4_choice ⟨Nat.le_of_ble_eq_true rfl, Nat.le_of_ble_eq_true rfl⟩) ⟨mm_B.blind, mm_recv (q := (RX4, TX4, 7)) C hH kl_0 (mm_e4 kd_0) rfl, mm_pre C hH⟩ rfl rfl hl.1 rfl (lv_room (Nat.le_of_ble_eq_true rfl)) dL_chosen_256 ⟨Nat.zero_le _, Nat.zero_le _⟩) (fun H locs hH => ?_)
            refine lv_iconst (v := (-1)) hx hb dL_chosen_259 (by decide) ?_
            refine lv_icmp_ne (tgt := 267) hx hb dL_chosen_260 (by decide) (fun c10 => ?_) (fun c10 => ?_)
            · have h := mm_neg c10 h
              have hl := lv_sub (l' := []) hl [] rfl
              cases h
            · have h := mm_pos c10 h
              have hl := lv_sub (l' := []) hl [] rfl
              refine lv_iconst (v := 1) hx hb dL_chosen_263 (by decide) ?_
              refine lv_goto (tgt := 268) hx hb dL_chosen_264 (by decide) ?_
              exact mm_iretP C hH hr hlk rfl h dL_chosen_268
          · have h := mm_neg c9 h
            have hl := lv_sub (l' := []) hl [] rfl
            cases h
