def fn_X5_set (a1 : Int32) (a2 : Int32) (x : mm_M) : Option (mm_M × Int32) :=
  (fn_X5_in (Int32.toInt64 a1) 0 6 x).bind fun v1 => if v1 = 0 then some (x, (-2)) else if (3 : Int32) ≤ a1 then if (3 : Int32) ≤ a1 then if a1 = 3 then (fn_X5_in (Int32.toInt64 a2) 1 99 x).bind fun v8 => if v8 = 0 then some (x, (-2)) else (fn_X5_remember x).bind fun x7 => if a1 < 0 ∨ 135 ≤ Int32.toNatClampNeg a1 then none else (some ((x7 158 (Int32.toNatClampNeg a1)) : Int32)).bind fun v9 => if a1 < 0 ∨ 135 ≤ Int32.toNatClampNeg a1 then none else (some (mm_up x7 158 (Int32.toNatClampNeg a1) a2)).bind fun x8 => mm_b2 (fn_X5_record v9 x8) fun x9 v10 => some (x9, v10) else if a1 = 6 then (fn_X5_in (Int32.toInt64 a2) 1 999 x).bind fun v5 => if v5 = 0 then some (x, (-2)) else (fn_X5_remember x).bind fun x4 => if a1 < 0 ∨ 135 ≤ Int32.toNatClampNeg a1 then none else (some ((x4 158 (Int32.toNatClampNeg a1)) : Int32)).bind fun v6 => if a1 < 0 ∨ 135 ≤ Int32.toNatClampNeg a1 then none else (some (mm_up x4 158 (Int32.toNatClampNeg a1) a2)).bind fun x5 => mm_b2 (fn_X5_record v6 x5) fun x6 v7 => some (x6, v7) else (fn_X5_in (Int32.toInt64 a2) 1 99999 x).bind fun v2 => if v2 = 0 then some (x, (-2)) else (fn_X5_remember x).bind fun x1 => if a1 < 0 ∨ 135 ≤ Int32.toNatClampNeg a1 then none else (some ((x1 158 (Int32.toNatClampNeg a1)) : Int32)).bind fun v3 => if a1 < 0 ∨ 135 ≤ Int32.toNatClampNeg a1 then none else (some (mm_up x1 158 (Int32.toNatClampNeg a1) a2)).bind fun x2 => mm_b2 (fn_X5_record v3 x2) fun x3 v4 => some (x3, v4) else (fn_X5_in (Int32.toInt64 a2) 1 9999 x).bind fun v11 => if v11 = 0 then some (x, (-2)) else (fn_X5_remember x).bind fun x10 => if a1 < 0 ∨ 135 ≤ Int32.toNatClampNeg a1 then none else (some ((x10 158 (Int32.toNatClampNeg a1)) : Int32)).bind fun v12 => if a1 < 0 ∨ 135 ≤ Int32.toNatClampNeg a1 then none else (some (mm_up x10 158 (Int32.toNatClampNeg a1) a2)).bind fun x11 => mm_b2 (fn_X5_record v12 x11) fun x12 v13 => some (x12, v13) else if (3 : Int32) ≤ a1 then if a1 = 3 then (fn_X5_in (Int32.toInt64 a2) 0 99 x).bind fun v20 => if v20 = 0 then some (x, (-2)) else (fn_X5_remember x).bind fun x19 => if a1 < 0 ∨ 135 ≤ Int32.toNatClampNeg a1 then none else (some ((x19 158 (Int32.toNatClampNeg a1)) : Int32)).bind fun v21 => if a1 < 0 ∨ 135 ≤ Int32.toNatClampNeg a1 then none else (some (mm_up x19 158 (Int32.toNatClampNeg a1) a2)).bind fun x20 => mm_b2 (fn_X5_record v21 x20) fun x21 v22 => some (x21, v22) else if a1 = 6 then (fn_X5_in (Int32.toInt64 a2) 0 999 x).bind fun v17 => if v17 = 0 then some (x, (-2)) else (fn_X5_remember x).bind fun x16 => if a1 < 0 ∨ 135 ≤ Int32.toNatClampNeg a1 then none else (some ((x16 158 (Int32.toNatClampNeg a1)) : Int32)).bind fun v18 => if a1 < 0 ∨ 135 ≤ Int32.toNatClampNeg a1 then none else (some (mm_up x16 158 (Int32.toNatClampNeg a1) a2)).bind fun x17 => mm_b2 (fn_X5_record v18 x17) fun x18 v19 => some (x18, v19) else (fn_X5_in (Int32.toInt64 a2) 0 99999 x).bind fun v14 => if v14 = 0 then some (x, (-2)) else (fn_X5_remember x).bind fun x13 => if a1 < 0 ∨ 135 ≤ Int32.toNatClampNeg a1 then none else (some ((x13 158 (Int32.toNatClampNeg a1)) : Int32)).bind fun v15 => if a1 < 0 ∨ 135 ≤ Int32.toNatClampNeg a1 then none else (some (mm_up x13 158 (Int32.toNatClampNeg a1) a2)).bind fun x14 => mm_b2 (fn_X5_record v15 x14) fun x15 v16 => some (x15, v16) else (fn_X5_in (Int32.toInt64 a2) 0 9999 x).bind fun v23 => if v23 = 0 then some (x, (-2)) else (fn_X5_remember x).bind fun x22 => if a1 < 0 ∨ 135 ≤ Int32.toNatClampNeg a1 then none else (some ((x22 158 (Int32.toNatClampNeg a1)) : Int32)).bind fun v24 => if a1 < 0 ∨ 135 ≤ Int32.toNatClampNeg a1 then none else (some (mm_up x22 158 (Int32.toNatClampNeg a1) a2)).bind fun x23 => mm_b2 (fn_X5_record v24 x23) fun x24 v25 => some (x24, v25)
abbrev rm_X5_set : Room := { frames := 1, cells := 0, slots := 0, locals := 23 }
theorem df_X5_set : yX5_set.cls = RX5 ∧ yX5_set.cls ≠ "java/lang/invoke/MethodHandle" ∧ yX5_set.cls ≠ "java/lang/invoke/VarHandle" ∧ (parseMethodDescriptor yX5_set.desc).map (fun d => d.parameters.length) = some 2 := by decide +kernel
set_option maxRecDepth 100000 in
set_option maxHeartbeats 4000000 in
theorem ct_X5_set (l : Launch) (G : va_G) (T : Nat → ClassId) (b : Nat) (z : Nat → Nat) (a1 : Int32) (a2 : Int32) (x : mm_M) {x1 : mm_M} {r : Int32} (h : fn_X5_set a1 a2 x = some (x1, r)) : mm_Ci l yX5_set wsX5_set rm_X5_set G T b z [.ref (b + 157), .int a1, .int a2] x r x1 := by
  unfold fn_X5_set at h
  refine mm_start (cc := cX5_set) (maxL := 6) (ret := (some .int)) (by decide) rfl (Nat.le_of_ble_eq_true rfl) (fun p e s m below meth c ls C hr hlk hH hl => ?_)
  have hl : lv_has ls 6 [(0, .ref (b + 157)), (1, .int a1), (2, .int a2)] := hl
  have hx := C.1
  have hb := C.2.1
  have w1 := C.2.2.2.2.1 (.constant RX5 51 (99999)) (by decide +kernel)
  have w2 := C.2.2.2.2.1 (.fieldLink RX5 7 "LandingFinesModel" "row" "[I") (by decide +kernel)
  have hin5 : ∀ w ∈ wsX50, w ∈ wsX5_set := by decide +kernel
  refine lv_iload_n hx hb dX5_set_0 rfl (lv_at hl 1 rfl) ?_
  refine lv_i2l (v := (Int32.toInt64 a1)) hx hb dX5_set_1 rfl ?_
  refine lv_iconst (v := 0) hx hb dX5_set_2 (by decide) ?_
  refine lv_bipush (v := 6) hx hb dX5_set_3 (by decide) ?_
  obtain ⟨v1, e1, h⟩ := mm_bnd h
  refine mm_goi hH (va_runS (As := [.long (Int32.toInt64 a1), .int 0, .int 6]) (rest := []) ⟨hx, hb, C.2.2.1, C.2.2.2.1, C.2.2.2.2.1⟩ (ct_X5_in l G T b z (Int32.toInt64 a1) 0 6 x e1) (va_cwS 3 C.2.2.2.2.1 gX5_set_X5_in rfl rfl rfl df_X5_in.2 ⟨Nat.le_of_ble_eq_true rfl, Nat.le_of_ble_eq_true rfl⟩) ⟨mm_B.blind, mm_pre C hH⟩ rfl rfl hl.1 rfl (lv_room (Nat.le_of_ble_eq_true rfl)) dX5_set_5 ⟨Nat.zero_le _, Nat.zero_le _⟩) (fun H locs hH => ?_)
  refine lv_if_ne (tgt := 14) hx hb dX5_set_8 (by decide) (fun c1 => ?_) (fun c1 => ?_)
  · have h := mm_neg c1 h
    refine lv_iload_n hx hb dX5_set_14 rfl (lv_at hl 1 rfl) ?_
    refine lv_iconst (v := 3) hx hb dX5_set_15 (by decide) ?_
    refine lv_icmp_ge (tgt := 23) hx hb dX5_set_16 (by decide) (fun c2 => ?_) (fun c2 => ?_)
    · have h := mm_pos c2 h
      refine lv_iconst (v := 1) hx hb dX5_set_23 (by decide) ?_
      refine lv_istore_n (lv' := [(3, .int 1), (0, .ref (b + 157)), (1, .int a1), (2, .int a2)]) hx hb dX5_set_24 rfl hl (by decide) rfl (fun ls hl => ?_)
      refine lv_iload_n hx hb dX5_set_25 rfl (lv_at hl 2 rfl) ?_
      refine lv_iconst (v := 3) hx hb dX5_set_26 (by decide) ?_
      refine lv_icmp_ge (tgt := 36) hx hb dX5_set_27 (by decide) (fun c3 => ?_) (fun c3 => ?_)
      · have h := mm_pos c3 h
        refine lv_iload_n hx hb dX5_set_36 rfl (lv_at hl 2 rfl) ?_
        refine lv_iconst (v := 3) hx hb dX5_set_37 (by decide) ?_
        refine lv_icmp_ne (tgt := 46) hx hb dX5_set_38 (by decide) (fun c4 => ?_) (fun c4 => ?_)
        · have h := mm_neg c4 h
          refine lv_iload_n hx hb dX5_set_46 rfl (lv_at hl 2 rfl) ?_
          refine lv_bipush (v := 6) hx hb dX5_set_47 (by decide) ?_
          refine lv_icmp_ne (tgt := 58) hx hb dX5_set_49 (by decide) (fun c5 => ?_) (fun c5 => ?_)
          · have h := mm_neg c5 h
            refine lv_ldc (own := RX5) (v := 99999) hx hb C.2.2.2.1 w1 dX5_set_58 ?_
            refine lv_istore (lv' := [(4, .int 99999), (3, .int 1), (0, .ref (b + 157)), (1, .int a1), (2, .int a2)]) hx hb dX5_set_60 hl (by decide) rfl (fun ls hl => ?_)
            refine lv_iload_n hx hb dX5_set_62 rfl (lv_at hl 4 rfl) ?_
            refine lv_i2l (v := (Int32.toInt64 a2)) hx hb dX5_set_63 rfl ?_
            refine lv_iload_n hx hb dX5_set_64 rfl (lv_at hl 1 rfl) ?_
            refine lv_iload hx hb dX5_set_65 (lv_at hl 0 rfl) ?_
            obtain ⟨v2, e2, h⟩ := mm_bnd h
            refine mm_goi hH (va_runS (As := [.long (Int32.toInt64 a2), .int 1, .int 99999]) (rest := []) ⟨hx, hb, C.2.2.1, C.2.2.2.1, C.2.2.2.2.1⟩ (ct_X5_in l G T b z (Int32.toInt64 a2) 1 99999 x e2) (va_cwS 3 C.2.2.2.2.1 gX5_set_X5_in rfl rfl rfl df_X5_in.2 ⟨Nat.le_of_ble_eq_true rfl, Nat.le_of_ble_eq_true rfl⟩) ⟨mm_B.blind, mm_pre C hH⟩ rfl rfl hl.1 rfl (lv_room (Nat.le_of_ble_eq_true rfl)) dX5_set_67 ⟨Nat.zero_le _, Nat.zero_le _⟩) (fun H locs hH => ?_)
            refine lv_if_ne (tgt := 76) hx hb dX5_set_70 (by decide) (fun c6 => ?_) (fun c6 => ?_)
            · have h := mm_neg c6 h
              have hl := lv_sub (l' := [(0, .ref (b + 157)), (1, .int a1), (2, .int a2)]) hl [2, 3, 4] rfl
              refine lv_aload_n hx hb dX5_set_76 rfl (lv_at hl 0 rfl) ?_
              obtain ⟨x1, e3, h⟩ := mm_bnd h
              refine mm_gov hH (va_runV (As := []) (rest := []) ⟨hx, hb, C.2.2.1, C.2.2.2.1, C.2.2.2.2.1⟩ (ct_X5_remember l G T b z x e3) (cwV 0 C.2.2.2.2.1 gX5_set_X5_remember rfl rfl rfl df_X5_remember ⟨Nat.le_of_ble_eq_true rfl, Nat.le_of_ble_eq_true rfl⟩) ⟨mm_B.blind, mm_recv (q := (RX5, TX5, 14)) C hH kl_157 (mm_e5 kd_157) rfl, mm_pre C hH⟩ rfl rfl hl.1 rfl (lv_room (Nat.le_of_ble_eq_true rfl)) dX5_set_77 ⟨Nat.zero_le _, Nat.zero_le _⟩) (fun H locs hH => ?_)
              refine lv_aload_n hx hb dX5_set_80 rfl (lv_at hl 0 rfl) ?_
              refine mm_get (v := .ref (b + 158)) C hH hin5 rfl kl_157 (mm_e5 kd_157) (j := 0) (by decide) rfl w2 rfl dX5_set_81 ?_
              refine lv_iload_n hx hb dX5_set_84 rfl (lv_at hl 1 rfl) ?_
              obtain ⟨g1, h⟩ := mm_grn h
              refine mm_iald (n := 135) (jn := (Int32.toNatClampNeg a1)) C hH kd_158 ln_158 g1 rfl dX5_set_85 ?_
              obtain ⟨v3, e4, h⟩ := mm_bnd h
              refine mm_nmi e4 ?_
              refine lv_istore (lv' := [(5, .int v3), (0, .ref (b + 157)), (1, .int a1), (2, .int a2)]) hx hb dX5_set_86 hl (by decide) rfl (fun ls hl => ?_)
              refine lv_aload_n hx hb dX5_set_88 rfl (lv_at hl 1 rfl) ?_
              refine mm_get (v := .ref (b + 158)) C hH hin5 rfl kl_157 (mm_e5 kd_157) (j := 0) (by decide) rfl w2 rfl dX5_set_89 ?_
              refine lv_iload_n hx hb dX5_set_92 rfl (lv_at hl 2 rfl) ?_
              refine lv_iload_n hx hb dX5_set_93 rfl (lv_at hl 3 rfl) ?_
              obtain ⟨g2, h⟩ := mm_grn h
              obtain ⟨x2, e5, h⟩ := mm_bnd h
              refine mm_iast (n := 135) (jn := (Int32.toNatClampNeg a1)) C hH kd_158 ln_158 g2 rfl (Option.some.inj e5) dX5_set_94 (fun H locs hH => ?_)
              refine lv_aload_n hx hb dX5_set_95 rfl (lv_at hl 1 rfl) ?_
              refine lv_iload hx hb dX5_set_96 (lv_at hl 0 rfl) ?_
              obtain ⟨x3, v4, e6, h⟩ := mm_bnd2 h
              refine mm_goi hH (va_runV (As := [.int v3]) (rest := []) ⟨hx, hb, C.2.2.1, C.2.2.2.1, C.2.2.2.2.1⟩ (ct_X5_record l G T b z v3 x2 e6) (cwV 1 C.2.2.2.2.1 gX5_set_X5_record rfl rfl rfl df_X5_record ⟨Nat.le_of_ble_eq_true rfl, Nat.le_of_ble_eq_true rfl⟩) ⟨mm_B.blind, mm_recv (q := (RX5, TX5, 14)) C hH kl_157 (mm_e5 kd_157) rfl, mm_pre C hH⟩ rfl rfl hl.1 rfl (lv_room (Nat.le_of_ble_eq_true rfl)) dX5_set_98 ⟨Nat.zero_le _, Nat.zero_le _⟩) (fun H locs hH => ?_)
              exact mm_iret C hH hr hlk rfl h dX5_set_101
            · have h := mm_pos c6 h
              have hl := lv_sub (l' := []) hl [] rfl
              refine lv_bipush (v := (-2)) hx hb dX5_set_73 (by decide) ?_
              exact mm_iret C hH hr hlk rfl h dX5_set_75
          · have h := mm_pos c5 h
            refine lv_sipush (v := 999) hx hb dX5_set_52 (by decide) ?_
            refine lv_goto (tgt := 60) hx hb dX5_set_55 (by decide) ?_
            refine lv_istore (lv' := [(4, .int 999), (3, .int 1), (0, .ref (b + 157)), (1, .int a1), (2, .int a2)]) hx hb dX5_set_60 hl (by decide) rfl (fun ls hl => ?_)
            refine lv_iload_n hx hb dX5_set_62 rfl (lv_at hl 4 rfl) ?_
            refine lv_i2l (v := (Int32.toInt64 a2)) hx hb dX5_set_63 rfl ?_
            refine lv_iload_n hx hb dX5_set_64 rfl (lv_at hl 1 rfl) ?_
            refine lv_iload hx hb dX5_set_65 (lv_at hl 0 rfl) ?_
            obtain ⟨v5, e7, h⟩ := mm_bnd h
            refine mm_goi hH (va_runS (As := [.long (Int32.toInt64 a2), .int 1, .int 999]) (rest := []) ⟨hx, hb, C.2.2.1, C.2.2.2.1, C.2.2.2.2.1⟩ (ct_X5_in l G T b z (Int32.toInt64 a2) 1 999 x e7) (va_cwS 3 C.2.2.2.2.1 gX5_set_X5_in rfl rfl rfl df_X5_in.2 ⟨Nat.le_of_ble_eq_true rfl, Nat.le_of_ble_eq_true rfl⟩) ⟨mm_B.blind, mm_pre C hH⟩ rfl rfl hl.1 rfl (lv_room (Nat.le_of_ble_eq_true rfl)) dX5_set_67 ⟨Nat.zero_le _, Nat.zero_le _⟩) (fun H locs hH => ?_)
            refine lv_if_ne (tgt := 76) hx hb dX5_set_70 (by decide) (fun c7 => ?_) (fun c7 => ?_)
            · have h := mm_neg c7 h
              have hl := lv_sub (l' := [(0, .ref (b + 157)), (1, .int a1), (2, .int a2)]) hl [2, 3, 4] rfl
              refine lv_aload_n hx hb dX5_set_76 rfl (lv_at hl 0 rfl) ?_
              obtain ⟨x4, e8, h⟩ := mm_bnd h
              refine mm_gov hH (va_runV (As := []) (rest := []) ⟨hx, hb, C.2.2.1, C.2.2.2.1, C.2.2.2.2.1⟩ (ct_X5_remember l G T b z x e8) (cwV 0 C.2.2.2.2.1 gX5_set_X5_remember rfl rfl rfl df_X5_remember ⟨Nat.le_of_ble_eq_true rfl, Nat.le_of_ble_eq_true rfl⟩) ⟨mm_B.blind, mm_recv (q := (RX5, TX5, 14)) C hH kl_157 (mm_e5 kd_157) rfl, mm_pre C hH⟩ rfl rfl hl.1 rfl (lv_room (Nat.le_of_ble_eq_true rfl)) dX5_set_77 ⟨Nat.zero_le _, Nat.zero_le _⟩) (fun H locs hH => ?_)
              refine lv_aload_n hx hb dX5_set_80 rfl (lv_at hl 0 rfl) ?_
              refine mm_get (v := .ref (b + 158)) C hH hin5 rfl kl_157 (mm_e5 kd_157) (j := 0) (by decide) rfl w2 rfl dX5_set_81 ?_
              refine lv_iload_n hx hb dX5_set_84 rfl (lv_at hl 1 rfl) ?_
              obtain ⟨g3, h⟩ := mm_grn h
              refine mm_iald (n := 135) (jn := (Int32.toNatClampNeg a1)) C hH kd_158 ln_158 g3 rfl dX5_set_85 ?_
              obtain ⟨v6, e9, h⟩ := mm_bnd h
              refine mm_nmi e9 ?_
              refine lv_istore (lv' := [(5, .int v6), (0, .ref (b + 157)), (1, .int a1), (2, .int a2)]) hx hb dX5_set_86 hl (by decide) rfl (fun ls hl => ?_)
              refine lv_aload_n hx hb dX5_set_88 rfl (lv_at hl 1 rfl) ?_
              refine mm_get (v := .ref (b + 158)) C hH hin5 rfl kl_157 (mm_e5 kd_157) (j := 0) (by decide) rfl w2 rfl dX5_set_89 ?_
              refine lv_iload_n hx hb dX5_set_92 rfl (lv_at hl 2 rfl) ?_
              refine lv_iload_n hx hb dX5_set_93 rfl (lv_at hl 3 rfl) ?_
              obtain ⟨g4, h⟩ := mm_grn h
              obtain ⟨x5, e10, h⟩ := mm_bnd h
              refine mm_iast (n := 135) (jn := (Int32.toNatClampNeg a1)) C hH kd_158 ln_158 g4 rfl (Option.some.inj e10) dX5_set_94 (fun H locs hH => ?_)
              refine lv_aload_n hx hb dX5_set_95 rfl (lv_at hl 1 rfl) ?_
              refine lv_iload hx hb dX5_set_96 (lv_at hl 0 rfl) ?_
              obtain ⟨x6, v7, e11, h⟩ := mm_bnd2 h
              refine mm_goi hH (va_runV (As := [.int v6]) (rest := []) ⟨hx, hb, C.2.2.1, C.2.2.2.1, C.2.2.2.2.1⟩ (ct_X5_record l G T b z v6 x5 e11) (cwV 1 C.2.2.2.2.1 gX5_set_X5_record rfl rfl rfl df_X5_record ⟨Nat.le_of_ble_eq_true rfl, Nat.le_of_ble_eq_true rfl⟩) ⟨mm_B.blind, mm_recv (q := (RX5, TX5, 14)) C hH kl_157 (mm_e5 kd_157) rfl, mm_pre C hH⟩ rfl rfl hl.1 rfl (lv_room (Nat.le_of_ble_eq_true rfl)) dX5_set_98 ⟨Nat.zero_le _, Nat.zero_le _⟩) (fun H locs hH => ?_)
              exact mm_iret C hH hr hlk rfl h dX5_set_101
            · have h := mm_pos c7 h
              have hl := lv_sub (l' := []) hl [] rfl
              refine lv_bipush (v := (-2)) hx hb dX5_set_73 (by decide) ?_
              exact mm_iret C hH hr hlk rfl h dX5_set_75
        · have h := mm_pos c4 h
          refine lv_bipush (v := 99) hx hb dX5_set_41 (by decide) ?_
          refine lv_goto (tgt := 60) hx hb dX5_set_43 (by decide) ?_
          refine lv_istore (lv' := [(4, .int 99), (3, .int 1), (0, .ref (b + 157)), (1, .int a1), (2, .int a2)]) hx hb dX5_set_60 hl (by decide) rfl (fun ls hl => ?_)
          refine lv_iload_n hx hb dX5_set_62 rfl (lv_at hl 4 rfl) ?_
          refine lv_i2l (v := (Int32.toInt64 a2)) hx hb dX5_set_63 rfl ?_
          refine lv_iload_n hx hb dX5_set_64 rfl (lv_at hl 1 rfl) ?_
          refine lv_iload hx hb dX5_set_65 (lv_at hl 0 rfl) ?_
          obtain ⟨v8, e12, h⟩ := mm_bnd h
          refine mm_goi hH (va_runS (As := [.long (Int32.toInt64 a2), .int 1, .int 99]) (rest := []) ⟨hx, hb, C.2.2.1, C.2.2.2.1, C.2.2.2.2.1⟩ (ct_X5_in l G T b z (Int32.toInt64 a2) 1 99 x e12) (va_cwS 3 C.2.2.2.2.1 gX5_set_X5_in rfl rfl rfl df_X5_in.2 ⟨Nat.le_of_ble_eq_true rfl, Nat.le_of_ble_eq_true rfl⟩) ⟨mm_B.blind, mm_pre C hH⟩ rfl rfl hl.1 rfl (lv_room (Nat.le_of_ble_eq_true rfl)) dX5_set_67 ⟨Nat.zero_le _, Nat.zero_le _⟩) (fun H locs hH => ?_)
          refine lv_if_ne (tgt := 76) hx hb dX5_set_70 (by decide) (fun c8 => ?_) (fun c8 => ?_)
          · have h := mm_neg c8 h
            have hl := lv_sub (l' := [(0, .ref (b + 157)), (1, .int a1), (2, .int a2)]) hl [2, 3, 4] rfl
            refine lv_aload_n hx hb dX5_set_76 rfl (lv_at hl 0 rfl) ?_
            obtain ⟨x7, e13, h⟩ := mm_bnd h
            refine mm_gov hH (va_runV (As := []) (rest := []) ⟨hx, hb, C.2.2.1, C.2.2.2.1, C.2.2.2.2.1⟩ (ct_X5_remember l G T b z x e13) (cwV 0 C.2.2.2.2.1 gX5_set_X5_remember rfl rfl rfl df_X5_remember ⟨Nat.le_of_ble_eq_true rfl, Nat.le_of_ble_eq_true rfl⟩) ⟨mm_B.blind, mm_recv (q := (RX5, TX5, 14)) C hH kl_157 (mm_e5 kd_157) rfl, mm_pre C hH⟩ rfl rfl hl.1 rfl (lv_room (Nat.le_of_ble_eq_true rfl)) dX5_set_77 ⟨Nat.zero_le _, Nat.zero_le _⟩) (fun H locs hH => ?_)
            refine lv_aload_n hx hb dX5_set_80 rfl (lv_at hl 0 rfl) ?_
            refine mm_get (v := .ref (b + 158)) C hH hin5 rfl kl_157 (mm_e5 kd_157) (j := 0) (by decide) rfl w2 rfl dX5_set_81 ?_
            refine lv_iload_n hx hb dX5_set_84 rfl (lv_at hl 1 rfl) ?_
            obtain ⟨g5, h⟩ := mm_grn h
            refine mm_iald (n := 135) (jn := (Int32.toNatClampNeg a1)) C hH kd_158 ln_158 g5 rfl dX5_set_85 ?_
            obtain ⟨v9, e14, h⟩ := mm_bnd h
            refine mm_nmi e14 ?_
            refine lv_istore (lv' := [(5, .int v9), (0, .ref (b + 157)), (1, .int a1), (2, .int a2)]) hx hb dX5_set_86 hl (by decide) rfl (fun ls hl => ?_)
            refine lv_aload_n hx hb dX5_set_88 rfl (lv_at hl 1 rfl) ?_
            refine mm_get (v := .ref (b + 158)) C hH hin5 rfl kl_157 (mm_e5 kd_157) (j := 0) (by decide) rfl w2 rfl dX5_set_89 ?_
            refine lv_iload_n hx hb dX5_set_92 rfl (lv_at hl 2 rfl) ?_
            refine lv_iload_n hx hb dX5_set_93 rfl (lv_at hl 3 rfl) ?_
            obtain ⟨g6, h⟩ := mm_grn h
            obtain ⟨x8, e15, h⟩ := mm_bnd h
            refine mm_iast (n := 135) (jn := (Int32.toNatClampNeg a1)) C hH kd_158 ln_158 g6 rfl (Option.some.inj e15) dX5_set_94 (fun H locs hH => ?_)
            refine lv_aload_n hx hb dX5_set_95 rfl (lv_at hl 1 rfl) ?_
            refine lv_iload hx hb dX5_set_96 (lv_at hl 0 rfl) ?_
            obtain ⟨x9, v10, e16, h⟩ := mm_bnd2 h
            refine mm_goi hH (va_runV (As := [.int v9]) (rest := []) ⟨hx, hb, C.2.2.1, C.2.2.2.1, C.2.2.2.2.1⟩ (ct_X5_record l G T b z v9 x8 e16) (cwV 1 C.2.2.2.2.1 gX5_set_X5_record rfl rfl rfl df_X5_record ⟨Nat.le_of_ble_eq_true rfl, Nat.le_of_ble_eq_true rfl⟩) ⟨mm_B.blind, mm_recv (q := (RX5, TX5, 14)) C hH kl_157 (mm_e5 kd_157) rfl, mm_pre C hH⟩ rfl rfl hl.1 rfl (lv_room (Nat.le_of_ble_eq_true rfl)) dX5_set_98 ⟨Nat.zero_le _, Nat.zero_le _⟩) (fun H locs hH => ?_)
            exact mm_iret C hH hr hlk rfl h dX5_set_101
          · have h := mm_pos c8 h
            have hl := lv_sub (l' := []) hl [] rfl
            refine lv_bipush (v := (-2)) hx hb dX5_set_73 (by decide) ?_
            exact mm_iret C hH hr hlk rfl h dX5_set_75
      · have h := mm_neg c3 h
        refine lv_sipush (v := 9999) hx hb dX5_set_30 (by decide) ?_
        refine lv_goto (tgt := 60) hx hb dX5_set_33 (by decide) ?_
        refine lv_istore (lv' := [(4, .int 9999), (3, .int 1), (0, .ref (b + 157)), (1, .int a1), (2, .int a2)]) hx hb dX5_set_60 hl (by decide) rfl (fun ls hl => ?_)
        refine lv_iload_n hx hb dX5_set_62 rfl (lv_at hl 4 rfl) ?_
        refine lv_i2l (v := (Int32.toInt64 a2)) hx hb dX5_set_63 rfl ?_
        refine lv_iload_n hx hb dX5_set_64 rfl (lv_at hl 1 rfl) ?_
        refine lv_iload hx hb dX5_set_65 (lv_at hl 0 rfl) ?_
        obtain ⟨v11, e17, h⟩ := mm_bnd h
        refine mm_goi hH (va_runS (As := [.long (Int32.toInt64 a2), .int 1, .int 9999]) (rest := []) ⟨hx, hb, C.2.2.1, C.2.2.2.1, C.2.2.2.2.1⟩ (ct_X5_in l G T b z (Int32.toInt64 a2) 1 9999 x e17) (va_cwS 3 C.2.2.2.2.1 gX5_set_X5_in rfl rfl rfl df_X5_in.2 ⟨Nat.le_of_ble_eq_true rfl, Nat.le_of_ble_eq_true rfl⟩) ⟨mm_B.blind, mm_pre C hH⟩ rfl rfl hl.1 rfl (lv_room (Nat.le_of_ble_eq_true rfl)) dX5_set_67 ⟨Nat.zero_le _, Nat.zero_le _⟩) (fun H locs hH => ?_)
        refine lv_if_ne (tgt := 76) hx hb dX5_set_70 (by decide) (fun c9 => ?_) (fun c9 => ?_)
        · have h := mm_neg c9 h
          have hl := lv_sub (l' := [(0, .ref (b + 157)), (1, .int a1), (2, .int a2)]) hl [2, 3, 4] rfl
          refine lv_aload_n hx hb dX5_set_76 rfl (lv_at hl 0 rfl) ?_
          obtain ⟨x10, e18, h⟩ := mm_bnd h
          refine mm_gov hH (va_runV (As := []) (rest := []) ⟨hx, hb, C.2.2.1, C.2.2.2.1, C.2.2.2.2.1⟩ (ct_X5_remember l G T b z x e18) (cwV 0 C.2.2.2.2.1 gX5_set_X5_remember rfl rfl rfl df_X5_remember ⟨Nat.le_of_ble_eq_true rfl, Nat.le_of_ble_eq_true rfl⟩) ⟨mm_B.blind, mm_recv (q := (RX5, TX5, 14)) C hH kl_157 (mm_e5 kd_157) rfl, mm_pre C hH⟩ rfl rfl hl.1 rfl (lv_room (Nat.le_of_ble_eq_true rfl)) dX5_set_77 ⟨Nat.zero_le _, Nat.zero_le _⟩) (fun H locs hH => ?_)
          refine lv_aload_n hx hb dX5_set_80 rfl (lv_at hl 0 rfl) ?_
          refine mm_get (v := .ref (b + 158)) C hH hin5 rfl kl_157 (mm_e5 kd_157) (j := 0) (by decide) rfl w2 rfl dX5_set_81 ?_
          refine lv_iload_n hx hb dX5_set_84 rfl (lv_at hl 1 rfl) ?_
          obtain ⟨g7, h⟩ := mm_grn h
          refine mm_iald (n := 135) (jn := (Int32.toNatClampNeg a1)) C hH kd_158 ln_158 g7 rfl dX5_set_85 ?_
          obtain ⟨v12, e19, h⟩ := mm_bnd h
          refine mm_nmi e19 ?_
          refine lv_istore (lv' := [(5, .int v12), (0, .ref (b + 157)), (1, .int a1), (2, .int a2)]) hx hb dX5_set_86 hl (by decide) rfl (fun ls hl => ?_)
          refine lv_aload_n hx hb dX5_set_88 rfl (lv_at hl 1 rfl) ?_
          refine mm_get (v := .ref (b + 158)) C hH hin5 rfl kl_157 (mm_e5 kd_157) (j := 0) (by decide) rfl w2 rfl dX5_set_89 ?_
          refine lv_iload_n hx hb dX5_set_92 rfl (lv_at hl 2 rfl) ?_
          refine lv_iload_n hx hb dX5_set_93 rfl (lv_at hl 3 rfl) ?_
          obtain ⟨g8, h⟩ := mm_grn h
          obtain ⟨x11, e20, h⟩ := mm_bnd h
          refine mm_iast (n := 135) (jn := (Int32.toNatClampNeg a1)) C hH kd_158 ln_158 g8 rfl (Option.some.inj e20) dX5_set_94 (fun H locs hH => ?_)
          refine lv_aload_n hx hb dX5_set_95 rfl (lv_at hl 1 rfl) ?_
          refine lv_iload hx hb dX5_set_96 (lv_at hl 0 rfl) ?_
          obtain ⟨x12, v13, e21, h⟩ := mm_bnd2 h
          refine mm_goi hH (va_runV (As := [.int v12]) (rest := []) ⟨hx, hb, C.2.2.1, C.2.2.2.1, C.2.2.2.2.1⟩ (ct_X5_record l G T b z v12 x11 e21) (cwV 1 C.2.2.2.2.1 gX5_set_X5_record rfl rfl rfl df_X5_record ⟨Nat.le_of_ble_eq_true rfl, Nat.le_of_ble_eq_true rfl⟩) ⟨mm_B.blind, mm_recv (q := (RX5, TX5, 14)) C hH kl_157 (mm_e5 kd_157) rfl, mm_pre C hH⟩ rfl rfl hl.1 rfl (lv_room (Nat.le_of_ble_eq_true rfl)) dX5_set_98 ⟨Nat.zero_le _, Nat.zero_le _⟩) (fun H locs hH => ?_)
          exact mm_iret C hH hr hlk rfl h dX5_set_101
        · have h := mm_pos c9 h
          have hl := lv_sub (l' := []) hl [] rfl
          refine lv_bipush (v := (-2)) hx hb dX5_set_73 (by decide) ?_
          exact mm_iret C hH hr hlk rfl h dX5_set_75
    · have h := mm_neg c2 h
      refine lv_iconst (v := 0) hx hb dX5_set_19 (by decide) ?_
      refine lv_goto (tgt := 24) hx hb dX5_set_20 (by decide) ?_
      refine lv_istore_n (lv' := [(3, .int 0), (0, .ref (b + 157)), (1, .int a1), (2, .int a2)]) hx hb dX5_set_24 rfl hl (by decide) rfl (fun ls hl => ?_)
      refine lv_iload_n hx hb dX5_set_25 rfl (lv_at hl 2 rfl) ?_
      refine lv_iconst (v := 3) hx hb dX5_set_26 (by decide) ?_
      refine lv_icmp_ge (tgt := 36) hx hb dX5_set_27 (by decide) (fun c10 => ?_) (fun c10 => ?_)
      · have h := mm_pos c10 h
        refine lv_iload_n hx hb dX5_set_36 rfl (lv_at hl 2 rfl) ?_
        refine lv_iconst (v := 3) hx hb dX5_set_37 (by decide) ?_
        refine lv_icmp_ne (tgt := 46) hx hb dX5_set_38 (by decide) (fun c11 => ?_) (fun c11 => ?_)
        · have h := mm_neg c11 h
          refine lv_iload_n hx hb dX5_set_46 rfl (lv_at hl 2 rfl) ?_
          refine lv_bipush (v := 6) hx hb dX5_set_47 (by decide) ?_
          refine lv_icmp_ne (tgt := 58) hx hb dX5_set_49 (by decide) (fun c12 => ?_) (fun c12 => ?_)
          · have h := mm_neg c12 h
            refine lv_ldc (own := RX5) (v := 99999) hx hb C.2.2.2.1 w1 dX5_set_58 ?_
            refine lv_istore (lv' := [(4, .int 99999), (3, .int 0), (0, .ref (b + 157)), (1, .int a1), (2, .int a2)]) hx hb dX5_set_60 hl (by decide) rfl (fun ls hl => ?_)
            refine lv_iload_n hx hb dX5_set_62 rfl (lv_at hl 4 rfl) ?_
            refine lv_i2l (v := (Int32.toInt64 a2)) hx hb dX5_set_63 rfl ?_
            refine lv_iload_n hx hb dX5_set_64 rfl (lv_at hl 1 rfl) ?_
            refine lv_iload hx hb dX5_set_65 (lv_at hl 0 rfl) ?_
            obtain ⟨v14, e22, h⟩ := mm_bnd h
            refine mm_goi hH (va_runS (As := [.long (Int32.toInt64 a2), .int 0, .int 99999]) (rest := []) ⟨hx, hb, C.2.2.1, C.2.2.2.1, C.2.2.2.2.1⟩ (ct_X5_in l G T b z (Int32.toInt64 a2) 0 99999 x e22) (va_cwS 3 C.2.2.2.2.1 gX5_set_X5_in rfl rfl rfl df_X5_in.2 ⟨Nat.le_of_ble_eq_true rfl, Nat.le_of_ble_eq_true rfl⟩) ⟨mm_B.blind, mm_pre C hH⟩ rfl rfl hl.1 rfl (lv_room (Nat.le_of_ble_eq_true rfl)) dX5_set_67 ⟨Nat.zero_le _, Nat.zero_le _⟩) (fun H locs hH => ?_)
            refine lv_if_ne (tgt := 76) hx hb dX5_set_70 (by decide) (fun c13 => ?_) (fun c13 => ?_)
            · have h := mm_neg c13 h
              have hl := lv_sub (l' := [(0, .ref (b + 157)), (1, .int a1), (2, .int a2)]) hl [2, 3, 4] rfl
              refine lv_aload_n hx hb dX5_set_76 rfl (lv_at hl 0 rfl) ?_
              obtain ⟨x13, e23, h⟩ := mm_bnd h
              refine mm_gov hH (va_runV (As := []) (rest := []) ⟨hx, hb, C.2.2.1, C.2.2.2.1, C.2.2.2.2.1⟩ (ct_X5_remember l G T b z x e23) (cwV 0 C.2.2.2.2.1 gX5_set_X5_remember rfl rfl rfl df_X5_remember ⟨Nat.le_of_ble_eq_true rfl, Nat.le_of_ble_eq_true rfl⟩) ⟨mm_B.blind, mm_recv (q := (RX5, TX5, 14)) C hH kl_157 (mm_e5 kd_157) rfl, mm_pre C hH⟩ rfl rfl hl.1 rfl (lv_room (Nat.le_of_ble_eq_true rfl)) dX5_set_77 ⟨Nat.zero_le _, Nat.zero_le _⟩) (fun H locs hH => ?_)
              refine lv_aload_n hx hb dX5_set_80 rfl (lv_at hl 0 rfl) ?_
              refine mm_get (v := .ref (b + 158)) C hH hin5 rfl kl_157 (mm_e5 kd_157) (j := 0) (by decide) rfl w2 rfl dX5_set_81 ?_
              refine lv_iload_n hx hb dX5_set_84 rfl (lv_at hl 1 rfl) ?_
              obtain ⟨g9, h⟩ := mm_grn h
              refine mm_iald (n := 135) (jn := (Int32.toNatClampNeg a1)) C hH kd_158 ln_158 g9 rfl dX5_set_85 ?_
              obtain ⟨v15, e24, h⟩ := mm_bnd h
              refine mm_nmi e24 ?_
              refine lv_istore (lv' := [(5, .int v15), (0, .ref (b + 157)), (1, .int a1), (2, .int a2)]) hx hb dX5_set_86 hl (by decide) rfl (fun ls hl => ?_)
              refine lv_aload_n hx hb dX5_set_88 rfl (lv_at hl 1 rfl) ?_
              refine mm_get (v := .ref (b + 158)) C hH hin5 rfl kl_157 (mm_e5 kd_157) (j := 0) (by decide) rfl w2 rfl dX5_set_89 ?_
              refine lv_iload_n hx hb dX5_set_92 rfl (lv_at hl 2 rfl) ?_
              refine lv_iload_n hx hb dX5_set_93 rfl (lv_at hl 3 rfl) ?_
              obtain ⟨g10, h⟩ := mm_grn h
              obtain ⟨x14, e25, h⟩ := mm_bnd h
              refine mm_iast (n := 135) (jn := (Int32.toNatClampNeg a1)) C hH kd_158 ln_158 g10 rfl (Option.some.inj e25) dX5_set_94 (fun H locs hH => ?_)
              refine lv_aload_n hx hb dX5_set_95 rfl (lv_at hl 1 rfl) ?_
              refine lv_iload hx hb dX5_set_96 (lv_at hl 0 rfl) ?_
              obtain ⟨x15, v16, e26, h⟩ := mm_bnd2 h
              refine mm_goi hH (va_runV (As := [.int v15]) (rest := []) ⟨hx, hb, C.2.2.1, C.2.2.2.1, C.2.2.2.2.1⟩ (ct_X5_record l G T b z v15 x14 e26) (cwV 1 C.2.2.2.2.1 gX5_set_X5_record rfl rfl rfl df_X5_record ⟨Nat.le_of_ble_eq_true rfl, Nat.le_of_ble_eq_true rfl⟩) ⟨mm_B.blind, mm_recv (q := (RX5, TX5, 14)) C hH kl_157 (mm_e5 kd_157) rfl, mm_pre C hH⟩ rfl rfl hl.1 rfl (lv_room (Nat.le_of_ble_eq_true rfl)) dX5_set_98 ⟨Nat.zero_le _, Nat.zero_le _⟩) (fun H locs hH => ?_)
              exact mm_iret C hH hr hlk rfl h dX5_set_101
            · have h := mm_pos c13 h
              have hl := lv_sub (l' := []) hl [] rfl
              refine lv_bipush (v := (-2)) hx hb dX5_set_73 (by decide) ?_
              exact mm_iret C hH hr hlk rfl h dX5_set_75
          · have h := mm_pos c12 h
            refine lv_sipush (v := 999) hx hb dX5_set_52 (by decide) ?_
            refine lv_goto (tgt := 60) hx hb dX5_set_55 (by decide) ?_
            refine lv_istore (lv' := [(4, .int 999), (3, .int 0), (0, .ref (b + 157)), (1, .int a1), (2, .int a2)]) hx hb dX5_set_60 hl (by decide) rfl (fun ls hl => ?_)
            refine lv_iload_n hx hb dX5_set_62 rfl (lv_at hl 4 rfl) ?_
            refine lv_i2l (v := (Int32.toInt64 a2)) hx hb dX5_set_63 rfl ?_
            refine lv_iload_n hx hb dX5_set_64 rfl (lv_at hl 1 rfl) ?_
            refine lv_iload hx hb dX5_set_65 (lv_at hl 0 rfl) ?_
            obtain ⟨v17, e27, h⟩ := mm_bnd h
            refine mm_goi hH (va_runS (As := [.long (Int32.toInt64 a2), .int 0, .int 999]) (rest := []) ⟨hx, hb, C.2.2.1, C.2.2.2.1, C.2.2.2.2.1⟩ (ct_X5_in l G T b z (Int32.toInt64 a2) 0 999 x e27) (va_cwS 3 C.2.2.2.2.1 gX5_set_X5_in rfl rfl rfl df_X5_in.2 ⟨Nat.le_of_ble_eq_true rfl, Nat.le_of_ble_eq_true rfl⟩) ⟨mm_B.blind, mm_pre C hH⟩ rfl rfl hl.1 rfl (lv_room (Nat.le_of_ble_eq_true rfl)) dX5_set_67 ⟨Nat.zero_le _, Nat.zero_le _⟩) (fun H locs hH => ?_)
            refine lv_if_ne (tgt := 76) hx hb dX5_set_70 (by decide) (fun c14 => ?_) (fun c14 => ?_)
            · have h := mm_neg c14 h
              have hl := lv_sub (l' := [(0, .ref (b + 157)), (1, .int a1), (2, .int a2)]) hl [2, 3, 4] rfl
              refine lv_aload_n hx hb dX5_set_76 rfl (lv_at hl 0 rfl) ?_
              obtain ⟨x16, e28, h⟩ := mm_bnd h
              refine mm_gov hH (va_runV (As := []) (rest := []) ⟨hx, hb, C.2.2.1, C.2.2.2.1, C.2.2.2.2.1⟩ (ct_X5_remember l G T b z x e28) (cwV 0 C.2.2.2.2.1 gX5_set_X5_remember rfl rfl rfl df_X5_remember ⟨Nat.le_of_ble_eq_true rfl, Nat.le_of_ble_eq_true rfl⟩) ⟨mm_B.blind, mm_recv (q := (RX5, TX5, 14)) C hH kl_157 (mm_e5 kd_157) rfl, mm_pre C hH⟩ rfl rfl hl.1 rfl (lv_room (Nat.le_of_ble_eq_true rfl)) dX5_set_77 ⟨Nat.zero_le _, Nat.zero_le _⟩) (fun H locs hH => ?_)
              refine lv_aload_n hx hb dX5_set_80 rfl (lv_at hl 0 rfl) ?_
              refine mm_get (v := .ref (b + 158)) C hH hin5 rfl kl_157 (mm_e5 kd_157) (j := 0) (by decide) rfl w2 rfl dX5_set_81 ?_
              refine lv_iload_n hx hb dX5_set_84 rfl (lv_at hl 1 rfl) ?_
              obtain ⟨g11, h⟩ := mm_grn h
              refine mm_iald (n := 135) (jn := (Int32.toNatClampNeg a1)) C hH kd_158 ln_158 g11 rfl dX5_set_85 ?_
              obtain ⟨v18, e29, h⟩ := mm_bnd h
              refine mm_nmi e29 ?_
              refine lv_istore (lv' := [(5, .int v18), (0, .ref (b + 157)), (1, .int a1), (2, .int a2)]) hx hb dX5_set_86 hl (by decide) rfl (fun ls hl => ?_)
              refine lv_aload_n hx hb dX5_set_88 rfl (lv_at hl 1 rfl) ?_
              refine mm_get (v := .ref (b + 158)) C hH hin5 rfl kl_157 (mm_e5 kd_157) (j := 0) (by decide) rfl w2 rfl dX5_set_89 ?_
              refine lv_iload_n hx hb dX5_set_92 rfl (lv_at hl 2 rfl) ?_
              refine lv_iload_n hx hb dX5_set_93 rfl (lv_at hl 3 rfl) ?_
              obtain ⟨g12, h⟩ := mm_grn h
              obtain ⟨x17, e30, h⟩ := mm_bnd h
              refine mm_iast (n := 135) (jn := (Int32.toNatClampNeg a1)) C hH kd_158 ln_158 g12 rfl (Option.some.inj e30) dX5_set_94 (fun H locs hH => ?_)
              refine lv_aload_n hx hb dX5_set_95 rfl (lv_at hl 1 rfl) ?_
              refine lv_iload hx hb dX5_set_96 (lv_at hl 0 rfl) ?_
              obtain ⟨x18, v19, e31, h⟩ := mm_bnd2 h
              refine mm_goi hH (va_runV (As := [.int v18]) (rest := []) ⟨hx, hb, C.2.2.1, C.2.2.2.1, C.2.2.2.2.1⟩ (ct_X5_record l G T b z v18 x17 e31) (cwV 1 C.2.2.2.2.1 gX5_set_X5_record rfl rfl rfl df_X5_record ⟨Nat.le_of_ble_eq_true rfl, Nat.le_of_ble_eq_true rfl⟩) ⟨mm_B.blind, mm_recv (q := (RX5, TX5, 14)) C hH kl_157 (mm_e5 kd_157) rfl, mm_pre C hH⟩ rfl rfl hl.1 rfl (lv_room (Nat.le_of_ble_eq_true rfl)) dX5_set_98 ⟨Nat.zero_le _, Nat.zero_le _⟩) (fun H locs hH => ?_)
              exact mm_iret C hH hr hlk rfl h dX5_set_101
            · have h := mm_pos c14 h
              have hl := lv_sub (l' := []) hl [] rfl
              refine lv_bipush (v := (-2)) hx hb dX5_set_73 (by decide) ?_
              exact mm_iret C hH hr hlk rfl h dX5_set_75
        · have h := mm_pos c11 h
          refine lv_bipush (v := 99) hx hb dX5_set_41 (by decide) ?_
          refine lv_goto (tgt := 60) hx hb dX5_set_43 (by decide) ?_
          refine lv_istore (lv' := [(4, .int 99), (3, .int 0), (0, .ref (b + 157)), (1, .int a1), (2, .int a2)]) hx hb dX5_set_60 hl (by decide) rfl (fun ls hl => ?_)
          refine lv_iload_n hx hb dX5_set_62 rfl (lv_at hl 4 rfl) ?_
          refine lv_i2l (v := (Int32.toInt64 a2)) hx hb dX5_set_63 rfl ?_
          refine lv_iload_n hx hb dX5_set_64 rfl (lv_at hl 1 rfl) ?_
          refine lv_iload hx hb dX5_set_65 (lv_at hl 0 rfl) ?_
          obtain ⟨v20, e32, h⟩ := mm_bnd h
          refine mm_goi hH (va_runS (As := [.long (Int32.toInt64 a2), .int 0, .int 99]) (rest := []) ⟨hx, hb, C.2.2.1, C.2.2.2.1, C.2.2.2.2.1⟩ (ct_X5_in l G T b z (Int32.toInt64 a2) 0 99 x e32) (va_cwS 3 C.2.2.2.2.1 gX5_set_X5_in rfl rfl rfl df_X5_in.2 ⟨Nat.le_of_ble_eq_true rfl, Nat.le_of_ble_eq_true rfl⟩) ⟨mm_B.blind, mm_pre C hH⟩ rfl rfl hl.1 rfl (lv_room (Nat.le_of_ble_eq_true rfl)) dX5_set_67 ⟨Nat.zero_le _, Nat.zero_le _⟩) (fun H locs hH => ?_)
          refine lv_if_ne (tgt := 76) hx hb dX5_set_70 (by decide) (fun c15 => ?_) (fun c15 => ?_)
          · have h := mm_neg c15 h
            have hl := lv_sub (l' := [(0, .ref (b + 157)), (1, .int a1), (2, .int a2)]) hl [2, 3, 4] rfl
            refine lv_aload_n hx hb dX5_set_76 rfl (lv_at hl 0 rfl) ?_
            obtain ⟨x19, e33, h⟩ := mm_bnd h
            refine mm_gov hH (va_runV (As := []) (rest := []) ⟨hx, hb, C.2.2.1, C.2.2.2.1, C.2.2.2.2.1⟩ (ct_X5_remember l G T b z x e33) (cwV 0 C.2.2.2.2.1 gX5_set_X5_remember rfl rfl rfl df_X5_remember ⟨Nat.le_of_ble_eq_true rfl, Nat.le_of_ble_eq_true rfl⟩) ⟨mm_B.blind, mm_recv (q := (RX5, TX5, 14)) C hH kl_157 (mm_e5 kd_157) rfl, mm_pre C hH⟩ rfl rfl hl.1 rfl (lv_room (Nat.le_of_ble_eq_true rfl)) dX5_set_77 ⟨Nat.zero_le _, Nat.zero_le _⟩) (fun H locs hH => ?_)
            refine lv_aload_n hx hb dX5_set_80 rfl (lv_at hl 0 rfl) ?_
            refine mm_get (v := .ref (b + 158)) C hH hin5 rfl kl_157 (mm_e5 kd_157) (j := 0) (by decide) rfl w2 rfl dX5_set_81 ?_
            refine lv_iload_n hx hb dX5_set_84 rfl (lv_at hl 1 rfl) ?_
            obtain ⟨g13, h⟩ := mm_grn h
            refine mm_iald (n := 135) (jn := (Int32.toNatClampNeg a1)) C hH kd_158 ln_158 g13 rfl dX5_set_85 ?_
            obtain ⟨v21, e34, h⟩ := mm_bnd h
            refine mm_nmi e34 ?_
            refine lv_istore (lv' := [(5, .int v21), (0, .ref (b + 157)), (1, .int a1), (2, .int a2)]) hx hb dX5_set_86 hl (by decide) rfl (fun ls hl => ?_)
            refine lv_aload_n hx hb dX5_set_88 rfl (lv_at hl 1 rfl) ?_
            refine mm_get (v := .ref (b + 158)) C hH hin5 rfl kl_157 (mm_e5 kd_157) (j := 0) (by decide) rfl w2 rfl dX5_set_89 ?_
            refine lv_iload_n hx hb dX5_set_92 rfl (lv_at hl 2 rfl) ?_
            refine lv_iload_n hx hb dX5_set_93 rfl (lv_at hl 3 rfl) ?_
            obtain ⟨g14, h⟩ := mm_grn h
            obtain ⟨x20, e35, h⟩ := mm_bnd h
            refine mm_iast (n := 135) (jn := (Int32.toNatClampNeg a1)) C hH kd_158 ln_158 g14 rfl (Option.some.inj e35) dX5_set_94 (fun H locs hH => ?_)
            refine lv_aload_n hx hb dX5_set_95 rfl (lv_at hl 1 rfl) ?_
            refine lv_iload hx hb dX5_set_96 (lv_at hl 0 rfl) ?_
            obtain ⟨x21, v22, e36, h⟩ := mm_bnd2 h
            refine mm_goi hH (va_runV (As := [.int v21]) (rest := []) ⟨hx, hb, C.2.2.1, C.2.2.2.1, C.2.2.2.2.1⟩ (ct_X5_record l G T b z v21 x20 e36) (cwV 1 C.2.2.2.2.1 gX5_set_X5_record rfl rfl rfl df_X5_record ⟨Nat.le_of_ble_eq_true rfl, Nat.le_of_ble_eq_true rfl⟩) ⟨mm_B.blind, mm_recv (q := (RX5, TX5, 14)) C hH kl_157 (mm_e5 kd_157) rfl, mm_pre C hH⟩ rfl rfl hl.1 rfl (lv_room (Nat.le_of_ble_eq_true rfl)) dX5_set_98 ⟨Nat.zero_le _, Nat.zero_le _⟩) (fun H locs hH => ?_)
            exact mm_iret C hH hr hlk rfl h dX5_set_101
          · have h := mm_pos c15 h
            have hl := lv_sub (l' := []) hl [] rfl
            refine lv_bipush (v := (-2)) hx hb dX5_set_73 (by decide) ?_
            exact mm_iret C hH hr hlk rfl h dX5_set_75
      · have h := mm_neg c10 h
        refine lv_sipush (v := 9999) hx hb dX5_set_30 (by decide) ?_
        refine lv_goto (tgt := 60) hx hb dX5_set_33 (by decide) ?_
        refine lv_istore (lv' := [(4, .int 9999), (3, .int 0), (0, .ref (b + 157)), (1, .int a1), (2, .int a2)]) hx hb dX5_set_60 hl (by decide) rfl (fun ls hl => ?_)
        refine lv_iload_n hx hb dX5_set_62 rfl (lv_at hl 4 rfl) ?_
        refine lv_i2l (v := (Int32.toInt64 a2)) hx hb dX5_set_63 rfl ?_
        refine lv_iload_n hx hb dX5_set_64 rfl (lv_at hl 1 rfl) ?_
        refine lv_iload hx hb dX5_set_65 (lv_at hl 0 rfl) ?_
        obtain ⟨v23, e37, h⟩ := mm_bnd h
        refine mm_goi hH (va_runS (As := [.long (Int32.toInt64 a2), .int 0, .int 9999]) (rest := []) ⟨hx, hb, C.2.2.1, C.2.2.2.1, C.2.2.2.2.1⟩ (ct_X5_in l G T b z (Int32.toInt64 a2) 0 9999 x e37) (va_cwS 3 C.2.2.2.2.1 gX5_set_X5_in rfl rfl rfl df_X5_in.2 ⟨Nat.le_of_ble_eq_true rfl, Nat.le_of_ble_eq_true rfl⟩) ⟨mm_B.blind, mm_pre C hH⟩ rfl rfl hl.1 rfl (lv_room (Nat.le_of_ble_eq_true rfl)) dX5_set_67 ⟨Nat.zero_le _, Nat.zero_le _⟩) (fun H locs hH => ?_)
        refine lv_if_ne (tgt := 76) hx hb dX5_set_70 (by decide) (fun c16 => ?_) (fun c16 => ?_)
        · have h := mm_neg c16 h
          have hl := lv_sub (l' := [(0, .ref (b + 157)), (1, .int a1), (2, .int a2)]) hl [2, 3, 4] rfl
          refine lv_aload_n hx hb dX5_set_76 rfl (lv_at hl 0 rfl) ?_
          obtain ⟨x22, e38, h⟩ := mm_bnd h
          refine mm_gov hH (va_runV (As := []) (rest := []) ⟨hx, hb, C.2.2.1, C.2.2.2.1, C.2.2.2.2.1⟩ (ct_X5_remember l G T b z x e38) (cwV 0 C.2.2.2.2.1 gX5_set_X5_remember rfl rfl rfl df_X5_remember ⟨Nat.le_of_ble_eq_true rfl, Nat.le_of_ble_eq_true rfl⟩) ⟨mm_B.blind, mm_recv (q := (RX5, TX5, 14)) C hH kl_157 (mm_e5 kd_157) rfl, mm_pre C hH⟩ rfl rfl hl.1 rfl (lv_room (Nat.le_of_ble_eq_true rfl)) dX5_set_77 ⟨Nat.zero_le _, Nat.zero_le _⟩) (fun H locs hH => ?_)
          refine lv_aload_n hx hb dX5_set_80 rfl (lv_at hl 0 rfl) ?_
          refine mm_get (v := .ref (b + 158)) C hH hin5 rfl kl_157 (mm_e5 kd_157) (j := 0) (by decide) rfl w2 rfl dX5_set_81 ?_
          refine lv_iload_n hx hb dX5_set_84 rfl (lv_at hl 1 rfl) ?_
          obtain ⟨g15, h⟩ := mm_grn h
          refine mm_iald (n := 135) (jn := (Int32.toNatClampNeg a1)) C hH kd_158 ln_158 g15 rfl dX5_set_85 ?_
          obtain ⟨v24, e39, h⟩ := mm_bnd h
          refine mm_nmi e39 ?_
          refine lv_istore (lv' := [(5, .int v24), (0, .ref (b + 157)), (1, .int a1), (2, .int a2)]) hx hb dX5_set_86 hl (by decide) rfl (fun ls hl => ?_)
          refine lv_aload_n hx hb dX5_set_88 rfl (lv_at hl 1 rfl) ?_
          refine mm_get (v := .ref (b + 158)) C hH hin5 rfl kl_157 (mm_e5 kd_157) (j := 0) (by decide) rfl w2 rfl dX5_set_89 ?_
          refine lv_iload_n hx hb dX5_set_92 rfl (lv_at hl 2 rfl) ?_
          refine lv_iload_n hx hb dX5_set_93 rfl (lv_at hl 3 rfl) ?_
          obtain ⟨g16, h⟩ := mm_grn h
          obtain ⟨x23, e40, h⟩ := mm_bnd h
          refine mm_iast (n := 135) (jn := (Int32.toNatClampNeg a1)) C hH kd_158 ln_158 g16 rfl (Option.some.inj e40) dX5_set_94 (fun H locs hH => ?_)
          refine lv_aload_n hx hb dX5_set_95 rfl (lv_at hl 1 rfl) ?_
          refine lv_iload hx hb dX5_set_96 (lv_at hl 0 rfl) ?_
          obtain ⟨x24, v25, e41, h⟩ := mm_bnd2 h
          refine mm_goi hH (va_runV (As := [.int v24]) (rest := []) ⟨hx, hb, C.2.2.1, C.2.2.2.1, C.2.2.2.2.1⟩ (ct_X5_record l G T b z v24 x23 e41) (cwV 1 C.2.2.2.2.1 gX5_set_X5_record rfl rfl rfl df_X5_record ⟨Nat.le_of_ble_eq_true rfl, Nat.le_of_ble_eq_true rfl⟩) ⟨mm_B.blind, mm_recv (q := (RX5, TX5, 14)) C hH kl_157 (mm_e5 kd_157) rfl, mm_pre C hH⟩ rfl rfl hl.1 rfl (lv_room (Nat.le_of_ble_eq_true rfl)) dX5_set_98 ⟨Nat.zero_le _, Nat.zero_le _⟩) (fun H locs hH => ?_)
          exact mm_iret C hH hr hlk rfl h dX5_set_101
        · have h := mm_pos c16 h
          have hl := lv_sub (l' := []) hl [] rfl
          refine lv_bipush (v := (-2)) hx hb dX5_set_73 (by decide) ?_
          exact mm_iret C hH hr hlk rfl h dX5_set_75
  · have h := mm_pos c1 h
    have hl := lv_sub (l' := []) hl [] rfl
    refine lv_bipush (v := (-2)) hx hb dX5_set_11 (by decide) ?_
    exact mm_iret C hH hr hlk rfl h dX5_set_13
def fn_X5_landing (a1 : Int32) (x : mm_M) : Option (mm_M × Int32) :=
  (fn_X5_remember x).bind fun x1 => mm_b2 (fn_X5_comes a1 x1) fun x2 v1 => mm_b2 (fn_X5_record v1 x2) fun x3 v2 => some (x3, v2)
abbrev rm_X5_landing : Room := { frames := 3, cells := 0, slots := 0, locals := 69 }
theorem df_X5_landing : yX5_landing.cls = RX5 ∧ yX5_landing.cls ≠ "java/lang/invoke/MethodHandle" ∧ yX5_landing.cls ≠ "java/lang/invoke/VarHandle" ∧ (parseMethodDescriptor yX5_landing.desc).map (fun d => d.parameters.length) = some 1 := by decide +kernel
set_option maxRecDepth 100000 in
set_option maxHeartbeats 4000000 in
theorem ct_X5_landing (l : Launch) (G : va_G) (T : Nat → ClassId) (b : Nat) (z : Nat → Nat) (a1 : Int32) (x : mm_M) {x1 : mm_M} {r : Int32} (h : fn_X5_landing a1 x = some (x1, r)) : mm_Ci l yX5_landing wsX5_landing rm_X5_landing G T b z [.ref (b + 157), .int a1] x r x1 := by
  unfold fn_X5_landing at h
  refine mm_start (cc := cX5_landing) (maxL := 2) (ret := (some .int)) (by decide) rfl (Nat.le_of_ble_eq_true rfl) (fun p e s m below meth c ls C hr hlk hH hl => ?_)
  have hl : lv_has ls 2 [(0, .ref (b + 157)), (1, .int a1)] := hl
  have hx := C.1
  have hb := C.2.1
  refine lv_aload_n hx hb dX5_landing_0 rfl (lv_at hl 0 rfl) ?_
  obtain ⟨x1, e1, h⟩ := mm_bnd h
  refine mm_gov hH (va_runV (As := []) (rest := []) ⟨hx, hb, C.2.2.1, C.2.2.2.1, C.2.2.2.2.1⟩ (ct_X5_remember l G T b z x e1) (cwV 0 C.2.2.2.2.1 gX5_landing_X5_remember rfl rfl rfl df_X5_remember ⟨Nat.le_of_ble_eq_true rfl, Nat.le_of_ble_eq_true rfl⟩) ⟨mm_B.blind, mm_recv (q := (RX5, TX5, 14)) C hH kl_157 (mm_e5 kd_157) rfl, mm_pre C hH⟩ rfl rfl hl.1 rfl (lv_room (Nat.le_of_ble_eq_true rfl)) dX5_landing_1 ⟨Nat.zero_le _, Nat.zero_le _⟩) (fun H locs hH => ?_)
  refine lv_aload_n hx hb dX5_landing_4 rfl (lv_at hl 0 rfl) ?_
  refine lv_aload_n hx hb dX5_landing_5 rfl (lv_at hl 0 rfl) ?_
  refine lv_iload_n hx hb dX5_landing_6 rfl (lv_at hl 1 rfl) ?_
  obtain ⟨x2, v1, e2, h⟩ := mm_bnd2 h
  refine mm_goi hH (va_runV (As := [.int a1]) (rest := [.ref (b + 157)]) ⟨hx, hb, C.2.2.1, C.2.2.2.1, C.2.2.2.2.1⟩ (ct_X5_comes l G T b z a1 x1 e2) (cwV 1 C.2.2.2.2.1 gX5_landing_X5_comes rfl rfl rfl df_X5_comes ⟨Nat.le_of_ble_eq_true rfl, Nat.le_of_ble_eq_true rfl⟩) ⟨mm_B.blind, mm_recv (q := (RX5, TX5, 14)) C hH kl_157 (mm_e5 kd_157) rfl, mm_pre C hH⟩ rfl rfl hl.1 rfl (lv_room (Nat.le_of_ble_eq_true rfl)) dX5_landing_7 ⟨Nat.zero_le _, Nat.zero_le _⟩) (fun H locs hH => ?_)
  obtain ⟨x3, v2, e3, h⟩ := mm_bnd2 h
  refine mm_goi hH (va_runV (As := [.int v1]) (rest := []) ⟨hx, hb, C.2.2.1, C.2.2.2.1, C.2.2.2.2.1⟩ (ct_X5_record l G T b z v1 x2 e3) (cwV 1 C.2.2.2.2.1 gX5_landing_X5_record rfl rfl rfl df_X5_record ⟨Nat.le_of_ble_eq_true rfl, Nat.le_of_ble_eq_true rfl⟩) ⟨mm_B.blind, mm_recv (q := (RX5, TX5, 14)) C hH kl_157 (mm_e5 kd_157) rfl, mm_pre C hH⟩ rfl rfl hl.1 rfl (lv_room (Nat.le_of_ble_eq_true rfl)) dX5_landing_10 ⟨Nat.zero_le _, Nat.zero_le _⟩) (fun H locs hH => ?_)
  exact mm_iret C hH hr hlk rfl h dX5_landing_13
def fn_X5_open (a1 : Int32) (x : mm_M) : Option (mm_M × Int32) :=
  (fn_X5_remember x).bind fun x1 => mm_b2 (fn_X5_turns a1 1 x1) fun x2 v1 => mm_b2 (fn_X5_record v1 x2) fun x3 v2 => some (x3, v2)
abbrev rm_X5_open : Room := { frames := 4, cells := 0, slots := 0, locals := 92 }
theorem df_X5_open : yX5_open.cls = RX5 ∧ yX5_open.cls ≠ "java/lang/invoke/MethodHandle" ∧ yX5_open.cls ≠ "java/lang/invoke/VarHandle" ∧ (parseMethodDescriptor yX5_open.desc).map (fun d => d.parameters.length) = some 1 := by decide +kernel
set_option maxRecDepth 100000 in
set_option maxHeartbeats 4000000 in
theorem ct_X5_open (l : Launch) (G : va_G) (T : Nat → ClassId) (b : Nat) (z : Nat → Nat) (a1 : Int32) (x : mm_M) {x1 : mm_M} {r : Int32} (h : fn_X5_open a1 x = some (x1, r)) : mm_Ci l yX5_open wsX5_open rm_X5_open G T b z [.ref (b + 157), .int a1] x r x1 := by
  unfold fn_X5_open at h
  refine mm_start (cc := cX5_open) (maxL := 2) (ret := (some .int)) (by decide) rfl (Nat.le_of_ble_eq_true rfl) (fun p e s m below meth c ls C hr hlk hH hl => ?_)
  have hl : lv_has ls 2 [(0, .ref (b + 157)), (1, .int a1)] := hl
  have hx := C.1
  have hb := C.2.1
  refine lv_aload_n hx hb dX5_open_0 rfl (lv_at hl 0 rfl) ?_
  obtain ⟨x1, e1, h⟩ := mm_bnd h
  refine mm_gov hH (va_runV (As := []) (rest := []) ⟨hx, hb, C.2.2.1, C.2.2.2.1, C.2.2.2.2.1⟩ (ct_X5_remember l G T b z x e1) (cwV 0 C.2.2.2.2.1 gX5_open_X5_remember rfl rfl rfl df_X5_remember ⟨Nat.le_of_ble_eq_true rfl, Nat.le_of_ble_eq_true rfl⟩) ⟨mm_B.blind, mm_recv (q := (RX5, TX5, 14)) C hH kl_157 (mm_e5 kd_157) rfl, mm_pre C hH⟩ rfl rfl hl.1 rfl (lv_room (Nat.le_of_ble_eq_true rfl)) dX5_open_1 ⟨Nat.zero_le _, Nat.zero_le _⟩) (fun H locs hH => ?_)
  refine lv_aload_n hx hb dX5_open_4 rfl (lv_at hl 0 rfl) ?_
  refine lv_aload_n hx hb dX5_open_5 rfl (lv_at hl 0 rfl) ?_
  refine lv_iload_n hx hb dX5_open_6 rfl (lv_at hl 1 rfl) ?_
  refine lv_iconst (v := 1) hx hb dX5_open_7 (by decide) ?_
  obtain ⟨x2, v1, e2, h⟩ := mm_bnd2 h
  refine mm_goi hH (va_runV (As := [.int a1, .int 1]) (rest := [.ref (b + 157)]) ⟨hx, hb, C.2.2.1, C.2.2.2.1, C.2.2.2.2.1⟩ (ct_X5_turns l G T b z a1 1 x1 e2) (cwV 2 C.2.2.2.2.1 gX5_open_X5_turns rfl rfl rfl df_X5_turns ⟨Nat.le_of_ble_eq_true rfl, Nat.le_of_ble_eq_true rfl⟩) ⟨mm_B.blind, mm_recv (q := (RX5, TX5, 14)) C hH kl_157 (mm_e5 kd_157) rfl, mm_pre C hH⟩ rfl rfl hl.1 rfl (lv_room (Nat.le_of_ble_eq_true rfl)) dX5_open_8 ⟨Nat.zero_le _, Nat.zero_le _⟩) (fun H locs hH => ?_)
  obtain ⟨x3, v2, e3, h⟩ := mm_bnd2 h
  refine mm_goi hH (va_runV (As := [.int v1]) (rest := []) ⟨hx, hb, C.2.2.1, C.2.2.2.1, C.2.2.2.2.1⟩ (ct_X5_record l G T b z v1 x2 e3) (cwV 1 C.2.2.2.2.1 gX5_open_X5_record rfl rfl rfl df_X5_record ⟨Nat.le_of_ble_eq_true rfl, Nat.le_of_ble_eq_true rfl⟩) ⟨mm_B.blind, mm_recv (q := (RX5, TX5, 14)) C hH kl_157 (mm_e5 kd_157) rfl, mm_pre C hH⟩ rfl rfl hl.1 rfl (lv_room (Nat.le_of_ble_eq_true rfl)) dX5_open_11 ⟨Nat.zero_le _, Nat.zero_le _⟩) (fun H locs hH => ?_)
  exact mm_iret C hH hr hlk rfl h dX5_open_14
def fn_X5_close (a1 : Int32) (x : mm_M) : Option (mm_M × Int32) :=
  (fn_X5_remember x).bind fun x1 => mm_b2 (fn_X5_turns a1 0 x1) fun x2 v1 => mm_b2 (fn_X5_record v1 x2) fun x3 v2 => some (x3, v2)
abbrev rm_X5_close : Room := { frames := 4, cells := 0, slots := 0, locals := 92 }
theorem df_X5_close : yX5_close.cls = RX5 ∧ yX5_close.cls ≠ "java/lang/invoke/MethodHandle" ∧ yX5_close.cls ≠ "java/lang/invoke/VarHandle" ∧ (parseMethodDescriptor yX5_close.desc).map (fun d => d.parameters.length) = some 1 := by decide +kernel
set_option maxRecDepth 100000 in
set_option maxHeartbeats 4000000 in
theorem ct_X5_close (l : Launch) (G : va_G) (T : Nat → ClassId) (b : Nat) (z : Nat → Nat) (a1 : Int32) (x : mm_M) {x1 : mm_M} {r : Int32} (h : fn_X5_close a1 x = some (x1, r)) : mm_Ci l yX5_close wsX5_close rm_X5_close G T b z [.ref (b + 157), .int a1] x r x1 := by
  unfold fn_X5_close at h
  refine mm_start (cc := cX5_close) (maxL := 2) (ret := (some .int)) (by decide) rfl (Nat.le_of_ble_eq_true rfl) (fun p e s m below meth c ls C hr hlk hH hl => ?_)
  have hl : lv_has ls 2 [(0, .ref (b + 157)), (1, .int a1)] := hl
  have hx := C.1
  have hb := C.2.1
  refine lv_aload_n hx hb dX5_close_0 rfl (lv_at hl 0 rfl) ?_
  obtain ⟨x1, e1, h⟩ := mm_bnd h
  refine mm_gov hH (va_runV (As := []) (rest := []) ⟨hx, hb, C.2.2.1, C.2.2.2.1, C.2.2.2.2.1⟩ (ct_X5_remember l G T b z x e1) (cwV 0 C.2.2.2.2.1 gX5_close_X5_remember rfl rfl rfl df_X5_remember ⟨Nat.le_of_ble_eq_true rfl, Nat.le_of_ble_eq_true rfl⟩) ⟨mm_B.blind, mm_recv (q := (RX5, TX5, 14)) C hH kl_157 (mm_e5 kd_157) rfl, mm_pre C hH⟩ rfl rfl hl.1 rfl (lv_room (Nat.le_of_ble_eq_true rfl)) dX5_close_1 ⟨Nat.zero_le _, Nat.zero_le _⟩) (fun H locs hH => ?_)
  refine lv_aload_n hx hb dX5_close_4 rfl (lv_at hl 0 rfl) ?_
  refine lv_aload_n hx hb dX5_close_5 rfl (lv_at hl 0 rfl) ?_
  refine lv_iload_n hx hb dX5_close_6 rfl (lv_at hl 1 rfl) ?_
  refine lv_iconst (v := 0) hx hb dX5_close_7 (by decide) ?_
  obtain ⟨x2, v1, e2, h⟩ := mm_bnd2 h
  refine mm_goi hH (va_runV (As := [.int a1, .int 0]) (rest := [.ref (b + 157)]) ⟨hx, hb, C.2.2.1, C.2.2.2.1, C.2.2.2.2.1⟩ (ct_X5_turns l G T b z a1 0 x1 e2) (cwV 2 C.2.2.2.2.1 gX5_close_X5_turns rfl rfl rfl df_X5_turns ⟨Nat.le_of_ble_eq_true rfl, Nat.le_of_ble_eq_true rfl⟩) ⟨mm_B.blind, mm_recv (q := (RX5, TX5, 14)) C hH kl_157 (mm_e5 kd_157) rfl, mm_pre C hH⟩ rfl rfl hl.1 rfl (lv_room (Nat.le_of_ble_eq_true rfl)) dX5_close_8 ⟨Nat.zero_le _, Nat.zero_le _⟩) (fun H locs hH => ?_)
  obtain ⟨x3, v2, e3, h⟩ := mm_bnd2 h
  refine mm_goi hH (va_runV (As := [.int v1]) (rest := []) ⟨hx, hb, C.2.2.1, C.2.2.2.1, C.2.2.2.2.1⟩ (ct_X5_record l G T b z v1 x2 e3) (cwV 1 C.2.2.2.2.1 gX5_close_X5_record rfl rfl rfl df_X5_record ⟨Nat.le_of_ble_eq_true rfl, Nat.le_of_ble_eq_true rfl⟩) ⟨mm_B.blind, mm_recv (q := (RX5, TX5, 14)) C hH kl_157 (mm_e5 kd_157) rfl, mm_pre C hH⟩ rfl rfl hl.1 rfl (lv_room (Nat.le_of_ble_eq_true rfl)) dX5_close_11 ⟨Nat.zero_le _, Nat.zero_le _⟩) (fun H locs hH => ?_)
  exact mm_iret C hH hr hlk rfl h dX5_close_14
def fn_X5_price (a1 : Int32) (a2 : Int32) (x : mm_M) : Option (mm_M × Int32) :=
  (fn_X5_remember x).bind fun x1 => mm_b2 (fn_X5_costs a1 a2 x1) fun x2 v1 => mm_b2 (fn_X5_record v1 x2) fun x3 v2 => some (x3, v2)
abbrev rm_X5_price : Room := { frames := 4, cells := 0, slots := 0, locals := 92 }
theorem df_X5_price : yX5_price.cls = RX5 ∧ yX5_price.cls ≠ "java/lang/invoke/MethodHandle" ∧ yX5_price.cls ≠ "java/lang/invoke/VarHandle" ∧ (parseMethodDescriptor yX5_price.desc).map (fun d => d.parameters.length) = some 2 := by decide +kernel
set_option maxRecDepth 100000 in
set_option maxHeartbeats 4000000 in
theorem ct_X5_price (l : Launch) (G : va_G) (T : Nat → ClassId) (b : Nat) (z : Nat → Nat) (a1 : Int32) (a2 : Int32) (x : mm_M) {x1 : mm_M} {r : Int32} (h : fn_X5_price a1 a2 x = some (x1, r)) : mm_Ci l yX5_price wsX5_price rm_X5_price G T b z [.ref (b + 157), .int a1, .int a2] x r x1 := by
  unfold fn_X5_price at h
  refine mm_start (cc := cX5_price) (maxL := 3) (ret := (some .int)) (by decide) rfl (Nat.le_of_ble_eq_true rfl) (fun p e s m below meth c ls C hr hlk hH hl => ?_)
  have hl : lv_has ls 3 [(0, .ref (b + 157)), (1, .int a1), (2, .int a2)] := hl
  have hx := C.1
  have hb := C.2.1
  refine lv_aload_n hx hb dX5_price_0 rfl (lv_at hl 0 rfl) ?_
  obtain ⟨x1, e1, h⟩ := mm_bnd h
  refine mm_gov hH (va_runV (As := []) (rest := []) ⟨hx, hb, C.2.2.1, C.2.2.2.1, C.2.2.2.2.1⟩ (ct_X5_remember l G T b z x e1) (cwV 0 C.2.2.2.2.1 gX5_price_X5_remember rfl rfl rfl df_X5_remember ⟨Nat.le_of_ble_eq_true rfl, Nat.le_of_ble_eq_true rfl⟩) ⟨mm_B.blind, mm_recv (q := (RX5, TX5, 14)) C hH kl_157 (mm_e5 kd_157) rfl, mm_pre C hH⟩ rfl rfl hl.1 rfl (lv_room (Nat.le_of_ble_eq_true rfl)) dX5_price_1 ⟨Nat.zero_le _, Nat.zero_le _⟩) (fun H locs hH => ?_)
  refine lv_aload_n hx hb dX5_price_4 rfl (lv_at hl 0 rfl) ?_
  refine lv_aload_n hx hb dX5_price_5 rfl (lv_at hl 0 rfl) ?_
  refine lv_iload_n hx hb dX5_price_6 rfl (lv_at hl 1 rfl) ?_
  refine lv_iload_n hx hb dX5_price_7 rfl (lv_at hl 2 rfl) ?_
  obtain ⟨x2, v1, e2, h⟩ := mm_bnd2 h
  refine mm_goi hH (va_runV (As := [.int a1, .int a2]) (rest := [.ref (b + 157)]) ⟨hx, hb, C.2.2.1, C.2.2.2.1, C.2.2.2.2.1⟩ (ct_X5_costs l G T b z a1 a2 x1 e2) (cwV 2 C.2.2.2.2.1 gX5_price_X5_costs rfl rfl rfl df_X5_costs ⟨Nat.le_of_ble_eq_true rfl, Nat.le_of_ble_eq_true rfl⟩) ⟨mm_B.blind, mm_recv (q := (RX5, TX5, 14)) C hH kl_157 (mm_e5 kd_157) rfl, mm_pre C hH⟩ rfl rfl hl.1 rfl (lv_room (Nat.le_of_ble_eq_true rfl)) dX5_price_8 ⟨Nat.zero_le _, Nat.zero_le _⟩) (fun H locs hH => ?_)
  obtain ⟨x3, v2, e3, h⟩ := mm_bnd2 h
  refine mm_goi hH (va_runV (As := [.int v1]) (rest := []) ⟨hx, hb, C.2.2.1, C.2.2.2.1, C.2.2.2.2.1⟩ (ct_X5_record l G T b z v1 x2 e3) (cwV 1 C.2.2.2.2.1 gX5_price_X5_record rfl rfl rfl df_X5_record ⟨Nat.le_of_ble_eq_true rfl, Nat.le_of_ble_eq_true rfl⟩) ⟨mm_B.blind, mm_recv (q := (RX5, TX5, 14)) C hH kl_157 (mm_e5 kd_157) rfl, mm_pre C hH⟩ rfl rfl hl.1 rfl (lv_room (Nat.le_of_ble_eq_true rfl)) dX5_price_11 ⟨Nat.zero_le _, Nat.zero_le _⟩) (fun H locs hH => ?_)
  exact mm_iret C hH hr hlk rfl h dX5_price_14
def fn_X5_pass (a1 : Int32) (x : mm_M) : Option (mm_M × Int32) :=
  (fn_X5_remember x).bind fun x1 => mm_b2 (fn_X5_waits a1 x1) fun x2 v1 => mm_b2 (fn_X5_record v1 x2) fun x3 v2 => some (x3, v2)
abbrev rm_X5_pass : Room := { frames := 4, cells := 0, slots := 0, locals := 92 }
theorem df_X5_pass : yX5_pass.cls = RX5 ∧ yX5_pass.cls ≠ "java/lang/invoke/MethodHandle" ∧ yX5_pass.cls ≠ "java/lang/invoke/VarHandle" ∧ (parseMethodDescriptor yX5_pass.desc).map (fun d => d.parameters.length) = some 1 := by decide +kernel
set_option maxRecDepth 100000 in
set_option maxHeartbeats 4000000 in
theorem ct_X5_pass (l : Launch) (G : va_G) (T : Nat → ClassId) (b : Nat) (z : Nat → Nat) (a1 : Int32) (x : mm_M) {x1 : mm_M} {r : Int32} (h : fn_X5_pass a1 x = some (x1, r)) : mm_Ci l yX5_pass wsX5_pass rm_X5_pass G T b z [.ref (b + 157), .int a1] x r x1 := by
  unfold fn_X5_pass at h
  refine mm_start (cc := cX5_pass) (maxL := 2) (ret := (some .int)) (by decide) rfl (Nat.le_of_ble_eq_true rfl) (fun p e s m below meth c ls C hr hlk hH hl => ?_)
  have hl : lv_has ls 2 [(0, .ref (b + 157)), (1, .int a1)] := hl
  have hx := C.1
  have hb := C.2.1
  refine lv_aload_n hx hb dX5_pass_0 rfl (lv_at hl 0 rfl) ?_
  obtain ⟨x1, e1, h⟩ := mm_bnd h
  refine mm_gov hH (va_runV (As := []) (rest := []) ⟨hx, hb, C.2.2.1, C.2.2.2.1, C.2.2.2.2.1⟩ (ct_X5_remember l G T b z x e1) (cwV 0 C.2.2.2.2.1 gX5_pass_X5_remember rfl rfl rfl df_X5_remember ⟨Nat.le_of_ble_eq_true rfl, Nat.le_of_ble_eq_true rfl⟩) ⟨mm_B.blind, mm_recv (q := (RX5, TX5, 14)) C hH kl_157 (mm_e5 kd_157) rfl, mm_pre C hH⟩ rfl rfl hl.1 rfl (lv_room (Nat.le_of_ble_eq_true rfl)) dX5_pass_1 ⟨Nat.zero_le _, Nat.zero_le _⟩) (fun H locs hH => ?_)
  refine lv_aload_n hx hb dX5_pass_4 rfl (lv_at hl 0 rfl) ?_
  refine lv_aload_n hx hb dX5_pass_5 rfl (lv_at hl 0 rfl) ?_
  refine lv_iload_n hx hb dX5_pass_6 rfl (lv_at hl 1 rfl) ?_
  obtain ⟨x2, v1, e2, h⟩ := mm_bnd2 h
  refine mm_goi hH (va_runV (As := [.int a1]) (rest := [.ref (b + 157)]) ⟨hx, hb, C.2.2.1, C.2.2.2.1, C.2.2.2.2.1⟩ (ct_X5_waits l G T b z a1 x1 e2) (cwV 1 C.2.2.2.2.1 gX5_pass_X5_waits rfl rfl rfl df_X5_waits ⟨Nat.le_of_ble_eq_true rfl, Nat.le_of_ble_eq_true rfl⟩) ⟨mm_B.blind, mm_recv (q := (RX5, TX5, 14)) C hH kl_157 (mm_e5 kd_157) rfl, mm_pre C hH⟩ rfl rfl hl.1 rfl (lv_room (Nat.le_of_ble_eq_true rfl)) dX5_pass_7 ⟨Nat.zero_le _, Nat.zero_le _⟩) (fun H locs hH => ?_)
  obtain ⟨x3, v2, e3, h⟩ := mm_bnd2 h
  refine mm_goi hH (va_runV (As := [.int v1]) (rest := []) ⟨hx, hb, C.2.2.1, C.2.2.2.1, C.2.2.2.2.1⟩ (ct_X5_record l G T b z v1 x2 e3) (cwV 1 C.2.2.2.2.1 gX5_pass_X5_record rfl rfl rfl df_X5_record ⟨Nat.le_of_ble_eq_true rfl, Nat.le_of_ble_eq_true rfl⟩) ⟨mm_B.blind, mm_recv (q := (RX5, TX5, 14)) C hH kl_157 (mm_e5 kd_157) rfl, mm_pre C hH⟩ rfl rfl hl.1 rfl (lv_room (Nat.le_of_ble_eq_true rfl)) dX5_pass_10 ⟨Nat.zero_le _, Nat.zero_le _⟩) (fun H locs hH => ?_)
  exact mm_iret C hH hr hlk rfl h dX5_pass_13
def fn_X5_of (a1 : Int32) (a2 : Int32) (x : mm_M) : Option Int32 :=
  (fn_X5_isLanding a1 x).bind fun v1 => if v1 = 0 then some ((-1) : Int32) else (fn_X5_in (Int32.toInt64 a2) 0 7 x).bind fun v2 => if v2 = 0 then some ((-2) : Int32) else (fn_X5_its a1 a2 x).bind fun v3 => some v3
abbrev rm_X5_of : Room := { frames := 2, cells := 0, slots := 0, locals := 44 }
theorem df_X5_of : yX5_of.cls = RX5 ∧ yX5_of.cls ≠ "java/lang/invoke/MethodHandle" ∧ yX5_of.cls ≠ "java/lang/invoke/VarHandle" ∧ (parseMethodDescriptor yX5_of.desc).map (fun d => d.parameters.length) = some 2 := by decide +kernel
set_option maxRecDepth 100000 in
set_option maxHeartbeats 4000000 in
theorem ct_X5_of (l : Launch) (G : va_G) (T : Nat → ClassId) (b : Nat) (z : Nat → Nat) (a1 : Int32) (a2 : Int32) (x : mm_M) {r : Int32} (h : fn_X5_of a1 a2 x = some r) : mm_Ci l yX5_of wsX5_of rm_X5_of G T b z [.ref (b + 157), .int a1, .int a2] x r x := by
  unfold fn_X5_of at h
  refine mm_start (cc := cX5_of) (maxL := 3) (ret := (some .int)) (by decide) rfl (Nat.le_of_ble_eq_true rfl) (fun p e s m below meth c ls C hr hlk hH hl => ?_)
  have hl : lv_has ls 3 [(0, .ref (b + 157)), (1, .int a1), (2, .int a2)] := hl
  have hx := C.1
  have hb := C.2.1
  refine lv_aload_n hx hb dX5_of_0 rfl (lv_at hl 0 rfl) ?_
  refine lv_iload_n hx hb dX5_of_1 rfl (lv_at hl 1 rfl) ?_
  obtain ⟨v1, e1, h⟩ := mm_bnd h
  refine mm_goi hH (va_runV (As := [.int a1]) (rest := []) ⟨hx, hb, C.2.2.1, C.2.2.2.1, C.2.2.2.2.1⟩ (ct_X5_isLanding l G T b z a1 x e1) (cwV 1 C.2.2.2.2.1 gX5_of_X5_isLanding rfl rfl rfl df_X5_isLanding ⟨Nat.le_of_ble_eq_true rfl, Nat.le_of_ble_eq_true rfl⟩) ⟨mm_B.blind, mm_recv (q := (RX5, TX5, 14)) C hH kl_157 (mm_e5 kd_157) rfl, mm_pre C hH⟩ rfl rfl hl.1 rfl (lv_room (Nat.le_of_ble_eq_true rfl)) dX5_of_2 ⟨Nat.zero_le _, Nat.zero_le _⟩) (fun H locs hH => ?_)
  refine lv_if_ne (tgt := 12) hx hb dX5_of_5 (by decide) (fun c1 => ?_) (fun c1 => ?_)
  · have h := mm_neg c1 h
    refine lv_iload_n hx hb dX5_of_12 rfl (lv_at hl 2 rfl) ?_
    refine lv_i2l (v := (Int32.toInt64 a2)) hx hb dX5_of_13 rfl ?_
    refine lv_iconst (v := 0) hx hb dX5_of_14 (by decide) ?_
    refine lv_bipush (v := 7) hx hb dX5_of_15 (by decide) ?_
    obtain ⟨v2, e2, h⟩ := mm_bnd h
    refine mm_goi hH (va_runS (As := [.long (Int32.toInt64 a2), .int 0, .int 7]) (rest := []) ⟨hx, hb, C.2.2.1, C.2.2.2.1, C.2.2.2.2.1⟩ (ct_X5_in l G T b z (Int32.toInt64 a2) 0 7 x e2) (va_cwS 3 C.2.2.2.2.1 gX5_of_X5_in rfl rfl rfl df_X5_in.2 ⟨Nat.le_of_ble_eq_true rfl, Nat.le_of_ble_eq_true rfl⟩) ⟨mm_B.blind, mm_pre C hH⟩ rfl rfl hl.1 rfl (lv_room (Nat.le_of_ble_eq_true rfl)) dX5_of_17 ⟨Nat.zero_le _, Nat.zero_le _⟩) (fun H locs hH => ?_)
    refine lv_if_eq (tgt := 32) hx hb dX5_of_20 (by decide) (fun c2 => ?_) (fun c2 => ?_)
    · have h := mm_pos c2 h
      have hl := lv_sub (l' := []) hl [] rfl
      refine lv_bipush (v := (-2)) hx hb dX5_of_32 (by decide) ?_
      exact mm_iretP C hH hr hlk rfl h dX5_of_34
    · have h := mm_neg c2 h
      refine lv_aload_n hx hb dX5_of_23 rfl (lv_at hl 0 rfl) ?_
      refine lv_iload_n hx hb dX5_of_24 rfl (lv_at hl 1 rfl) ?_
      refine lv_iload_n hx hb dX5_of_25 rfl (lv_at hl 2 rfl) ?_
      obtain ⟨v3, e3, h⟩ := mm_bnd h
      refine mm_goi hH (va_runV (As := [.int a1, .int a2]) (rest := []) ⟨hx, hb, C.2.2.1, C.2.2.2.1, C.2.2.2.2.1⟩ (ct_X5_its l G T b z a1 a2 x e3) (cwV 2 C.2.2.2.2.1 gX5_of_X5_its rfl rfl rfl df_X5_its ⟨Nat.le_of_ble_eq_true rfl, Nat.le_of_ble_eq_true rfl⟩) ⟨mm_B.blind, mm_recv (q := (RX5, TX5, 14)) C hH kl_157 (mm_e5 kd_157) rfl, mm_pre C hH⟩ rfl rfl hl.1 rfl (lv_room (Nat.le_of_ble_eq_true rfl)) dX5_of_26 ⟨Nat.zero_le _, Nat.zero_le _⟩) (fun H locs hH => ?_)
      refine lv_goto (tgt := 34) hx hb dX5_of_29 (by decide) ?_
      have hl := lv_sub (l' := []) hl [] rfl
      exact mm_iretP C hH hr hlk rfl h dX5_of_34
  · have h := mm_pos c1 h
    have hl := lv_sub (l' := []) hl [] rfl
    refine lv_iconst (v := (-1)) hx hb dX5_of_8 (by decide) ?_
    refine lv_goto (tgt := 34) hx hb dX5_of_9 (by decide) ?_
    exact mm_iretP C hH hr hlk rfl h dX5_of_34
def fn_X5_mask_4 : Nat → Int32 → Int32 → Int32 → mm_M → Option Int32
  | 0, _, _, _, _ => none
  | n + 1, a1, i2, i3, x => if (x 158 8) ≤ i3 then some (i2) else (fn_X5_its i3 a1 x).bind fun v1 => (some ((i2 ||| (v1 <<< (i3 &&& 31))) : Int32)).bind fun v2 => (some (i3 + 1)).bind fun v3 => fn_X5_mask_4 n a1 v2 v3 x
def fn_X5_mask (a1 : Int32) (x : mm_M) : Option Int32 :=
  (fn_X5_mask_4 9 a1 0 0 x).bind fun v1 => some v1
abbrev rm_X5_mask : Room := { frames := 1, cells := 0, slots := 0, locals := 22 }
theorem df_X5_mask : yX5_mask.cls = RX5 ∧ yX5_mask.cls ≠ "java/lang/invoke/MethodHandle" ∧ yX5_mask.cls ≠ "java/lang/invoke/VarHandle" ∧ (parseMethodDescriptor yX5_mask.desc).map (fun d => d.parameters.length) = some 1 := by decide +kernel
set_option maxRecDepth 100000 in
set_option maxHeartbeats 4000000 in
theorem lp_X5_mask_4 {p : Program} {l : Launch} {e : Env} {s : State} {m : MethodId} {args : Array Value} {below : List Frame} {meth : Method} {c : Code} {Q : State → Prop} {G : va_G} {T : Nat → ClassId} {b : Nat} {z : Nat → Nat} (C : mm_C p m c cX5_mask 4 s args wsX5_mask RX5 G T b z) (a1 : Int32) : ∀ (n : Nat) (i2 : Int32) (i3 : Int32) (x : mm_M) (H : Heap) (locs : List Loc) (ls : Array Slot) (r2 : Int32), fn_X5_mask_4 n a1 i2 i3 x = some (r2) → mm_H G T b x s H locs → lv_has ls 4 [(0, .ref (b + 157)), (1, .int a1), (2, .int i2), (3, .int i3)] → (∀ (H1 : Heap) (locs1 : List Loc) (ls1 : Array Slot), mm_H G T b x s H1 locs1 → lv_has ls1 4 [(2, .int r2)] → W p l e rm_X5_mask s m args below meth c H1 locs1 0 0 Q (F0 m 32 ls1 [])) → W p l e rm_X5_mask s m args below meth c H locs 0 0 Q (F0 m 4 ls []) := by
  have hx := C.1
  have hb := C.2.1
  have w1 := C.2.2.2.2.1 (.fieldLink RX5 7 "LandingFinesModel" "row" "[I") (by decide +kernel)
  have hin5 : ∀ w ∈ wsX50, w ∈ wsX5_mask := by decide +kernel
  intro n
  induction n with
  | zero => intro _ _ _ _ _ _ _ h; cases (show (none : Option Int32) = some _ from h)
  | succ n ih =>
    intro i2 i3 x H locs ls r2 h hH hl kk
    rw [fn_X5_mask_4] at h
    refine lv_iload_n hx hb dX5_mask_4 rfl (lv_at hl 3 rfl) ?_
    refine lv_aload_n hx hb dX5_mask_5 rfl (lv_at hl 0 rfl) ?_
    refine mm_get (v := .ref (b + 158)) C hH hin5 rfl kl_157 (mm_e5 kd_157) (j := 0) (by decide) rfl w1 rfl dX5_mask_6 ?_
    refine lv_bipush (v := 8) hx hb dX5_mask_9 (by decide) ?_
    refine mm_iald (n := 135) (jn := 8) C hH kd_158 ln_158 (by decide) (by decide) dX5_mask_11 ?_
    refine lv_icmp_ge (tgt := 32) hx hb dX5_mask_12 (by decide) (fun c1 => ?_) (fun c1 => ?_)
    · have h := mm_pos c1 h
      have hl := lv_sub (l' := [(2, .int i2)]) hl [2] rfl
      cases h
      exact kk _ _ _ hH (lv_sub hl [0] rfl)
    · have h := mm_neg c1 h
      refine lv_iload_n hx hb dX5_mask_15 rfl (lv_at hl 2 rfl) ?_
      refine lv_aload_n hx hb dX5_mask_16 rfl (lv_at hl 0 rfl) ?_
      refine lv_iload_n hx hb dX5_mask_17 rfl (lv_at hl 3 rfl) ?_
      refine lv_iload_n hx hb dX5_mask_18 rfl (lv_at hl 1 rfl) ?_
      obtain ⟨v1, e1, h⟩ := mm_bnd h
      refine mm_goi hH (va_runV (As := [.int i3, .int a1]) (rest := [.int i2]) ⟨hx, hb, C.2.2.1, C.2.2.2.1, C.2.2.2.2.1⟩ (ct_X5_its l G T b z i3 a1 x e1) (cwV 2 C.2.2.2.2.1 gX5_mask_X5_its rfl rfl rfl df_X5_its ⟨Nat.le_of_ble_eq_true rfl, Nat.le_of_ble_eq_true rfl⟩) ⟨mm_B.blind, mm_recv (q := (RX5, TX5, 14)) C hH kl_157 (mm_e5 kd_157) rfl, mm_pre C hH⟩ rfl rfl hl.1 rfl (lv_room (Nat.le_of_ble_eq_true rfl)) dX5_mask_19 ⟨Nat.zero_le _, Nat.zero_le _⟩) (fun H locs hH => ?_)
      refine lv_iload_n hx hb dX5_mask_22 rfl (lv_at hl 3 rfl) ?_
      refine lv_ishl hx hb dX5_mask_23 ?_
      refine lv_ior hx hb dX5_mask_24 ?_
      obtain ⟨v2, e2, h⟩ := mm_bnd h
      refine mm_nmi e2 ?_
      refine lv_istore_n (lv' := [(2, .int v2), (0, .ref (b + 157)), (1, .int a1), (3, .int i3)]) hx hb dX5_mask_25 rfl hl (by decide) rfl (fun ls hl => ?_)
      obtain ⟨v3, e3, h⟩ := mm_bnd h
      refine lv_iinc (v := v3) (lv' := [(3, .int v3), (2, .int v2), (0, .ref (b + 157)), (1, .int a1)]) hx hb dX5_mask_26 hl (k := 3) rfl (Option.some.inj e3) (by decide) rfl (fun ls hl => ?_)
      refine lv_goto (tgt := 4) hx hb dX5_mask_29 (by decide) ?_
      exact ih v2 v3 x _ _ _ _ h hH (lv_sub hl [2, 3, 1, 0] rfl) kk
set_option maxRecDepth 100000 in
set_option maxHeartbeats 4000000 in
theorem ct_X5_mask (l : Launch) (G : va_G) (T : Nat → ClassId) (b : Nat) (z : Nat → Nat) (a1 : Int32) (x : mm_M) {r : Int32} (h : fn_X5_mask a1 x = some r) : mm_Ci l yX5_mask wsX5_mask rm_X5_mask G T b z [.ref (b + 157), .int a1] x r x := by
  unfold fn_X5_mask at h
  refine mm_start (cc := cX5_mask) (maxL := 4) (ret := (some .int)) (by decide) rfl (Nat.le_of_ble_eq_true rfl) (fun p e s m below meth c ls C hr hlk hH hl => ?_)
  have hl : lv_has ls 4 [(0, .ref (b + 157)), (1, .int a1)] := hl
  have hx := C.1
  have hb := C.2.1
  refine lv_iconst (v := 0) hx hb dX5_mask_0 (by decide) ?_
  refine lv_istore_n (lv' := [(2, .int 0), (0, .ref (b + 157)), (1, .int a1)]) hx hb dX5_mask_1 rfl hl (by decide) rfl (fun ls hl => ?_)
  refine lv_iconst (v := 0) hx hb dX5_mask_2 (by decide) ?_
  refine lv_istore_n (lv' := [(3, .int 0), (2, .int 0), (0, .ref (b + 157)), (1, .int a1)]) hx hb dX5_mask_3 rfl hl (by decide) rfl (fun ls hl => ?_)
  obtain ⟨v1, e1, h⟩ := mm_bnd h
  refine lp_X5_mask_4 C a1 9 0 0 x _ _ _ _ e1 hH (lv_sub hl [2, 3, 1, 0] rfl) (fun H locs ls hH hl => ?_)
  refine lv_iload_n hx hb dX5_mask_32 rfl (lv_at hl 0 rfl) ?_
  exact mm_iretP C hH hr hlk rfl h dX5_mask_33
def fn_X5_count (a1 : Int32) (x : mm_M) : Option Int32 :=
  (fn_X5_in (Int32.toInt64 a1) 7 13 x).bind fun v1 => if v1 = 0 then if a1 = 0 then some (x 158 7) else if a1 = 1 then some (x 158 8) else if a1 = 2 then (fn_X5_mask 0 x).bind fun v2 => some v2 else if a1 = 3 then (fn_X5_mask 3 x).bind fun v3 => some v3 else if a1 = 4 then (fn_X5_taken x).bind fun v4 => some v4 else if a1 = 5 then some (x 158 9) else if a1 = 6 then some (x 158 10) else if a1 = 14 then some (x 157 7) else if a1 = 15 then some (x 157 5) else some ((-2) : Int32) else if (a1 - 7) < 0 ∨ 135 ≤ Int32.toNatClampNeg (a1 - 7) then none else some (x 158 (Int32.toNatClampNeg (a1 - 7)))
abbrev rm_X5_count : Room := { frames := 2, cells := 0, slots := 0, locals := 45 }
theorem df_X5_count : yX5_count.cls = RX5 ∧ yX5_count.cls ≠ "java/lang/invoke/MethodHandle" ∧ yX5_count.cls ≠ "java/lang/invoke/VarHandle" ∧ (parseMethodDescriptor yX5_count.desc).map (fun d => d.parameters.length) = some 1 := by decide +kernel
set_option maxRecDepth 100000 in
set_option maxHeartbeats 4000000 in
theorem ct_X5_count (l : Launch) (G : va_G) (T : Nat → ClassId) (b : Nat) (z : Nat → Nat) (a1 : Int32) (x : mm_M) {r : Int32} (h : fn_X5_count a1 x = some r) : mm_Ci l yX5_count wsX5_count rm_X5_count G T b z [.ref (b + 157), .int a1] x r x := by
  unfold fn_X5_count at h
  refine mm_start (cc := cX5_count) (maxL := 2) (ret := (some .int)) (by decide) rfl (Nat.le_of_ble_eq_true rfl) (fun p e s m below meth c ls C hr hlk hH hl => ?_)
  have hl : lv_has ls 2 [(0, .ref (b + 157)), (1, .int a1)] := hl
  have hx := C.1
  have hb := C.2.1
  have w1 := C.2.2.2.2.1 (.fieldLink RX5 7 "LandingFinesModel" "row" "[I") (by decide +kernel)
  have w2 := C.2.2.2.2.1 (.fieldLink RX5 114 "LandingFinesModel" "length" "I") (by decide +kernel)
  have w3 := C.2.2.2.2.1 (.fieldLink RX5 36 "LandingFinesModel" "states" "I") (by decide +kernel)
  have hin5 : ∀ w ∈ wsX50, w ∈ wsX5_count := by decide +kernel
  refine lv_iload_n hx hb dX5_count_0 rfl (lv_at hl 1 rfl) ?_
  refine lv_i2l (v := (Int32.toInt64 a1)) hx hb dX5_count_1 rfl ?_
  refine lv_bipush (v := 7) hx hb dX5_count_2 (by decide) ?_
  refine lv_bipush (v := 13) hx hb dX5_count_4 (by decide) ?_
  obtain ⟨v1, e1, h⟩ := mm_bnd h
  refine mm_goi hH (va_runS (As := [.long (Int32.toInt64 a1), .int 7, .int 13]) (rest := []) ⟨hx, hb, C.2.2.1, C.2.2.2.1, C.2.2.2.2.1⟩ (ct_X5_in l G T b z (Int32.toInt64 a1) 7 13 x e1) (va_cwS 3 C.2.2.2.2.1 gX5_count_X5_in rfl rfl rfl df_X5_in.2 ⟨Nat.le_of_ble_eq_true rfl, Nat.le_of_ble_eq_true rfl⟩) ⟨mm_B.blind, mm_pre C hH⟩ rfl rfl hl.1 rfl (lv_room (Nat.le_of_ble_eq_true rfl)) dX5_count_6 ⟨Nat.zero_le _, Nat.zero_le _⟩) (fun H locs hH => ?_)
  refine lv_if_eq (tgt := 22) hx hb dX5_count_9 (by decide) (fun c1 => ?_) (fun c1 => ?_)
  · have h := mm_pos c1 h
    refine lv_iload_n hx hb dX5_count_22 rfl (lv_at hl 1 rfl) ?_
    by_cases c2 : a1 = 0
    · have h := mm_pos c2 h
      refine lv_tableIn (off := 77) (tgt := 100) hx hb dX5_count_23 (by rw [c2]; decide) (by rw [c2]; decide) (by rw [c2]; decide) (by decide) ?_
      have hl := lv_sub (l' := [(0, .ref (b + 157))]) hl [0] rfl
      refine lv_aload_n hx hb dX5_count_100 rfl (lv_at hl 0 rfl) ?_
      refine mm_get (v := .ref (b + 158)) C hH hin5 rfl kl_157 (mm_e5 kd_157) (j := 0) (by decide) rfl w1 rfl dX5_count_101 ?_
      refine lv_bipush (v := 7) hx hb dX5_count_104 (by decide) ?_
      refine mm_iald (n := 135) (jn := 7) C hH kd_158 ln_158 (by decide) (by decide) dX5_count_106 ?_
      exact mm_iretP C hH hr hlk rfl h dX5_count_107
    have h := mm_neg c2 h
    by_cases c3 : a1 = 1
    · have h := mm_pos c3 h
      refine lv_tableIn (off := 85) (tgt := 108) hx hb dX5_count_23 (by rw [c3]; decide) (by rw [c3]; decide) (by rw [c3]; decide) (by decide) ?_
      have hl := lv_sub (l' := [(0, .ref (b + 157))]) hl [0] rfl
      refine lv_aload_n hx hb dX5_count_108 rfl (lv_at hl 0 rfl) ?_
      refine mm_get (v := .ref (b + 158)) C hH hin5 rfl kl_157 (mm_e5 kd_157) (j := 0) (by decide) rfl w1 rfl dX5_count_109 ?_
      refine lv_bipush (v := 8) hx hb dX5_count_112 (by decide) ?_
      refine mm_iald (n := 135) (jn := 8) C hH kd_158 ln_158 (by decide) (by decide) dX5_count_114 ?_
      exact mm_iretP C hH hr hlk rfl h dX5_count_115
    have h := mm_neg c3 h
    by_cases c4 : a1 = 2
    · have h := mm_pos c4 h
      refine lv_tableIn (off := 93) (tgt := 116) hx hb dX5_count_23 (by rw [c4]; decide) (by rw [c4]; decide) (by rw [c4]; decide) (by decide) ?_
      have hl := lv_sub (l' := [(0, .ref (b + 157))]) hl [0] rfl
      refine lv_aload_n hx hb dX5_count_116 rfl (lv_at hl 0 rfl) ?_
      refine lv_iconst (v := 0) hx hb dX5_count_117 (by decide) ?_
      obtain ⟨v2, e2, h⟩ := mm_bnd h
      refine mm_goi hH (va_runV (As := [.int 0]) (rest := []) ⟨hx, hb, C.2.2.1, C.2.2.2.1, C.2.2.2.2.1⟩ (ct_X5_mask l G T b z 0 x e2) (cwV 1 C.2.2.2.2.1 gX5_count_X5_mask rfl rfl rfl df_X5_mask ⟨Nat.le_of_ble_eq_true rfl, Nat.le_of_ble_eq_true rfl⟩) ⟨mm_B.blind, mm_recv (q := (RX5, TX5, 14)) C hH kl_157 (mm_e5 kd_157) rfl, mm_pre C hH⟩ rfl rfl hl.1 rfl (lv_room (Nat.le_of_ble_eq_true rfl)) dX5_count_118 ⟨Nat.zero_le _, Nat.zero_le _⟩) (fun H locs hH => ?_)
      exact mm_iretP C hH hr hlk rfl h dX5_count_121
    have h := mm_neg c4 h
    by_cases c5 : a1 = 3
    · have h := mm_pos c5 h
      refine lv_tableIn (off := 99) (tgt := 122) hx hb dX5_count_23 (by rw [c5]; decide) (by rw [c5]; decide) (by rw [c5]; decide) (by decide) ?_
      have hl := lv_sub (l' := [(0, .ref (b + 157))]) hl [0] rfl
      refine lv_aload_n hx hb dX5_count_122 rfl (lv_at hl 0 rfl) ?_
      refine lv_iconst (v := 3) hx hb dX5_count_123 (by decide) ?_
      obtain ⟨v3, e3, h⟩ := mm_bnd h
      refine mm_goi hH (va_runV (As := [.int 3]) (rest := []) ⟨hx, hb, C.2.2.1, C.2.2.2.1, C.2.2.2.2.1⟩ (ct_X5_mask l G T b z 3 x e3) (cwV 1 C.2.2.2.2.1 gX5_count_X5_mask rfl rfl rfl df_X5_mask ⟨Nat.le_of_ble_eq_true rfl, Nat.le_of_ble_eq_true rfl⟩) ⟨mm_B.blind, mm_recv (q := (RX5, TX5, 14)) C hH kl_157 (mm_e5 kd_157) rfl, mm_pre C hH⟩ rfl rfl hl.1 rfl (lv_room (Nat.le_of_ble_eq_true rfl)) dX5_count_124 ⟨Nat.zero_le _, Nat.zero_le _⟩) (fun H locs hH => ?_)
      exact mm_iretP C hH hr hlk rfl h dX5_count_127
    have h := mm_neg c5 h
    by_cases c6 : a1 = 4
    · have h := mm_pos c6 h
      refine lv_tableIn (off := 105) (tgt := 128) hx hb dX5_count_23 (by rw [c6]; decide) (by rw [c6]; decide) (by rw [c6]; decide) (by decide) ?_
      have hl := lv_sub (l' := [(0, .ref (b + 157))]) hl [0] rfl
      refine lv_aload_n hx hb dX5_count_128 rfl (lv_at hl 0 rfl) ?_
      obtain ⟨v4, e4, h⟩ := mm_bnd h
      refine mm_goi hH (va_runV (As := []) (rest := []) ⟨hx, hb, C.2.2.1, C.2.2.2.1, C.2.2.2.2.1⟩ (ct_X5_taken l G T b z x e4) (cwV 0 C.2.2.2.2.1 gX5_count_X5_taken rfl rfl rfl df_X5_taken ⟨Nat.le_of_ble_eq_true rfl, Nat.le_of_ble_eq_true rfl⟩) ⟨mm_B.blind, mm_recv (q := (RX5, TX5, 14)) C hH kl_157 (mm_e5 kd_157) rfl, mm_pre C hH⟩ rfl rfl hl.1 rfl (lv_room (Nat.le_of_ble_eq_true rfl)) dX5_count_129 ⟨Nat.zero_le _, Nat.zero_le _⟩) (fun H locs hH => ?_)
      exact mm_iretP C hH hr hlk rfl h dX5_count_132
    have h := mm_neg c6 h
    by_cases c7 : a1 = 5
    · have h := mm_pos c7 h
      refine lv_tableIn (off := 110) (tgt := 133) hx hb dX5_count_23 (by rw [c7]; decide) (by rw [c7]; decide) (by rw [c7]; decide) (by decide) ?_
      have hl := lv_sub (l' := [(0, .ref (b + 157))]) hl [0] rfl
      refine lv_aload_n hx hb dX5_count_133 rfl (lv_at hl 0 rfl) ?_
      refine mm_get (v := .ref (b + 158)) C hH hin5 rfl kl_157 (mm_e5 kd_157) (j := 0) (by decide) rfl w1 rfl dX5_count_134 ?_
      refine lv_bipush (v := 9) hx hb dX5_count_137 (by decide) ?_
      refine mm_iald (n := 135) (jn := 9) C hH kd_158 ln_158 (by decide) (by decide) dX5_count_139 ?_
      exact mm_iretP C hH hr hlk rfl h dX5_count_140
    have h := mm_neg c7 h
    by_cases c8 : a1 = 6
    · have h := mm_pos c8 h
      refine lv_tableIn (off := 118) (tgt := 141) hx hb dX5_count_23 (by rw [c8]; decide) (by rw [c8]; decide) (by rw [c8]; decide) (by decide) ?_
      have hl := lv_sub (l' := [(0, .ref (b + 157))]) hl [0] rfl
      refine lv_aload_n hx hb dX5_count_141 rfl (lv_at hl 0 rfl) ?_
      refine mm_get (v := .ref (b + 158)) C hH hin5 rfl kl_157 (mm_e5 kd_157) (j := 0) (by decide) rfl w1 rfl dX5_count_142 ?_
      refine lv_bipush (v := 10) hx hb dX5_count_145 (by decide) ?_
      refine mm_iald (n := 135) (jn := 10) C hH kd_158 ln_158 (by decide) (by decide) dX5_count_147 ?_
      exact mm_iretP C hH hr hlk rfl h dX5_count_148
    have h := mm_neg c8 h
    by_cases c9 : a1 = 14
    · have h := mm_pos c9 h
      refine lv_tableIn (off := 126) (tgt := 149) hx hb dX5_count_23 (by rw [c9]; decide) (by rw [c9]; decide) (by rw [c9]; decide) (by decide) ?_
      have hl := lv_sub (l' := [(0, .ref (b + 157))]) hl [0] rfl
      refine lv_aload_n hx hb dX5_count_149 rfl (lv_at hl 0 rfl) ?_
      refine mm_get (v := .int (x 157 7)) C hH hin5 rfl kl_157 (mm_e5 kd_157) (j := 7) (by decide) rfl w2 rfl dX5_count_150 ?_
      exact mm_iretP C hH hr hlk rfl h dX5_count_153
    have h := mm_neg c9 h
    by_cases c10 : a1 = 15
    · have h := mm_pos c10 h
      refine lv_tableIn (off := 131) (tgt := 154) hx hb dX5_count_23 (by rw [c10]; decide) (by rw [c10]; decide) (by rw [c10]; decide) (by decide) ?_
      have hl := lv_sub (l' := [(0, .ref (b + 157))]) hl [0] rfl
      refine lv_aload_n hx hb dX5_count_154 rfl (lv_at hl 0 rfl) ?_
      refine mm_get (v := .int (x 157 5)) C hH hin5 rfl kl_157 (mm_e5 kd_157) (j := 5) (by decide) rfl w3 rfl dX5_count_155 ?_
      exact mm_iretP C hH hr hlk rfl h dX5_count_158
    have h := mm_neg c10 h
    have nc2 := mm_tn (a := 0) c2 (by decide)
    have nc3 := mm_tn (a := 1) c3 (by decide)
    have nc4 := mm_tn (a := 2) c4 (by decide)
    have nc5 := mm_tn (a := 3) c5 (by decide)
    have nc6 := mm_tn (a := 4) c6 (by decide)
    have nc7 := mm_tn (a := 5) c7 (by decide)
    have nc8 := mm_tn (a := 6) c8 (by decide)
    have nc9 := mm_tn (a := 14) c9 (by decide)
    have nc10 := mm_tn (a := 15) c10 (by decide)
    refine mm_tabD (tgt := 159) hx hb dX5_count_23 (fun h1 h2 => by
      have q1 : (Int32.toInt a1 - 0).toNat = 7 ∨ (Int32.toInt a1 - 0).toNat = 8 ∨ (Int32.toInt a1 - 0).toNat = 9 ∨ (Int32.toInt a1 - 0).toNat = 10 ∨ (Int32.toInt a1 - 0).toNat = 11 ∨ (Int32.toInt a1 - 0).toNat = 12 ∨ (Int32.toInt a1 - 0).toNat = 13 := by omega
      rcases q1 with q1 | q1 | q1 | q1 | q1 | q1 | q1 <;> (rw [q1]; rfl)) (by decide) ?_
    have hl := lv_sub (l' := []) hl [] rfl
    refine lv_bipush (v := (-2)) hx hb dX5_count_159 (by decide) ?_
    exact mm_iretP C hH hr hlk rfl h dX5_count_161
  · have h := mm_neg c1 h
    refine lv_aload_n hx hb dX5_count_12 rfl (lv_at hl 0 rfl) ?_
    refine mm_get (v := .ref (b + 158)) C hH hin5 rfl kl_157 (mm_e5 kd_157) (j := 0) (by decide) rfl w1 rfl dX5_count_13 ?_
    refine lv_iload_n hx hb dX5_count_16 rfl (lv_at hl 1 rfl) ?_
    refine lv_bipush (v := 7) hx hb dX5_count_17 (by decide) ?_
    refine lv_isub hx hb dX5_count_19 ?_
    obtain ⟨g1, h⟩ := mm_grn h
    refine mm_iald (n := 135) (jn := (Int32.toNatClampNeg (a1 - 7))) C hH kd_158 ln_158 g1 rfl dX5_count_20 ?_
    exact mm_iretP C hH hr hlk rfl h dX5_count_21
def fn_X5_rank_4 : Nat → Int32 → Int32 → Int32 → mm_M → Option Int32
  | 0, _, _, _, _ => none
  | n + 1, a1, i2, i3, x => if (x 158 8) ≤ i3 then some (i2) else (fn_X5_its i3 0 x).bind fun v1 => if v1 = 1 then (fn_X5_its i3 3 x).bind fun v4 => if v4 = 0 then (fn_X5_its i3 1 x).bind fun v7 => (fn_X5_its a1 1 x).bind fun v8 => if v7 < v8 then (some ((i2 + 1) : Int32)).bind fun v9 => (some (i3 + 1)).bind fun v10 => fn_X5_rank_4 n a1 v9 v10 x else (fn_X5_its i3 1 x).bind fun v11 => (fn_X5_its a1 1 x).bind fun v12 => if v11 = v12 then if a1 ≤ i3 then (some ((i2 + 0) : Int32)).bind fun v15 => (some (i3 + 1)).bind fun v16 => fn_X5_rank_4 n a1 v15 v16 x else (some ((i2 + 1) : Int32)).bind fun v17 => (some (i3 + 1)).bind fun v18 => fn_X5_rank_4 n a1 v17 v18 x else (some ((i2 + 0) : Int32)).bind fun v13 => (some (i3 + 1)).bind fun v14 => fn_X5_rank_4 n a1 v13 v14 x else (some ((i2 + 0) : Int32)).bind fun v5 => (some (i3 + 1)).bind fun v6 => fn_X5_rank_4 n a1 v5 v6 x else (some ((i2 + 0) : Int32)).bind fun v2 => (some (i3 + 1)).bind fun v3 => fn_X5_rank_4 n a1 v2 v3 x
def fn_X5_rank (a1 : Int32) (x : mm_M) : Option Int32 :=
  (fn_X5_rank_4 9 a1 0 0 x).bind fun v1 => some v1
abbrev rm_X5_rank : Room := { frames := 1, cells := 0, slots := 0, locals := 22 }
theorem df_X5_rank : yX5_rank.cls = RX5 ∧ yX5_rank.cls ≠ "java/lang/invoke/MethodHandle" ∧ yX5_rank.cls ≠ "java/lang/invoke/VarHandle" ∧ (parseMethodDescriptor yX5_rank.desc).map (fun d => d.parameters.length) = some 1 := by decide +kernel
set_option maxRecDepth 100000 in
set_option maxHeartbeats 4000000 in
theorem lp_X5_rank_4 {p : Program} {l : Launch} {e : Env} {s : State} {m : MethodId} {args : Array Value} {below : List Frame} {meth : Method} {c : Code} {Q : State → Prop} {G : va_G} {T : Nat → ClassId} {b : Nat} {z : Nat → Nat} (C : mm_C p m c cX5_rank 5 s args wsX5_rank RX5 G T b z) (a1 : Int32) : ∀ (n : Nat) (i2 : Int32) (i3 : Int32) (x : mm_M) (H : Heap) (locs : List Loc) (ls : Array Slot) (r2 : Int32), fn_X5_rank_4 n a1 i2 i3 x = some (r2) → mm_H G T b x s H locs → lv_has ls 5 [(0, .ref (b + 157)), (1, .int a1), (2, .int i2), (3, .int i3)] → (∀ (H1 : Heap) (locs1 : List Loc) (ls1 : Array Slot), mm_H G T b x s H1 locs1 → lv_has ls1 5 [(2, .int r2)] → W p l e rm_X5_rank s m args below meth c H1 locs1 0 0 Q (F0 m 95 ls1 [])) → W p l e rm_X5_rank s m args below meth c H locs 0 0 Q (F0 m 4 ls []) := by
  have hx := C.1
  have hb := C.2.1
  have w1 := C.2.2.2.2.1 (.fieldLink RX5 7 "LandingFinesModel" "row" "[I") (by decide +kernel)
  have hin5 : ∀ w ∈ wsX50, w ∈ wsX5_rank := by decide +kernel
  intro n
  induction n with
  | zero => intro _ _ _ _ _ _ _ h; cases (show (none : Option Int32) = some _ from h)
  | succ n ih =>
    intro i2 i3 x H locs ls r2 h hH hl kk
    rw [fn_X5_rank_4] at h
    refine lv_iload_n hx hb dX5_rank_4 rfl (lv_at hl 3 rfl) ?_
    refine lv_aload_n hx hb dX5_rank_5 rfl (lv_at hl 0 rfl) ?_
    refine mm_get (v := .ref (b + 158)) C hH hin5 rfl kl_157 (mm_e5 kd_157) (j := 0) (by decide) rfl w1 rfl dX5_rank_6 ?_
    refine lv_bipush (v := 8) hx hb dX5_rank_9 (by decide) ?_
    refine mm_iald (n := 135) (jn := 8) C hH kd_158 ln_158 (by decide) (by decide) dX5_rank_11 ?_
    refine lv_icmp_ge (tgt := 95) hx hb dX5_rank_12 (by decide) (fun c1 => ?_) (fun c1 => ?_)
    · have h := mm_pos c1 h
      have hl := lv_sub (l' := [(2, .int i2)]) hl [2] rfl
      cases h
      exact kk _ _ _ hH (lv_sub hl [0] rfl)
    · have h := mm_neg c1 h
      refine lv_aload_n hx hb dX5_rank_15 rfl (lv_at hl 0 rfl) ?_
      refine lv_iload_n hx hb dX5_rank_16 rfl (lv_at hl 3 rfl) ?_
      refine lv_iconst (v := 0) hx hb dX5_rank_17 (by decide) ?_
      obtain ⟨v1, e1, h⟩ := mm_bnd h
      refine mm_goi hH (va_runV (As := [.int i3, .int 0]) (rest := []) ⟨hx, hb, C.2.2.1, C.2.2.2.1, C.2.2.2.2.1⟩ (ct_X5_its l G T b z i3 0 x e1) (cwV 2 C.2.2.2.2.1 gX5_rank_X5_its rfl rfl rfl df_X5_its ⟨Nat.le_of_ble_eq_true rfl, Nat.le_of_ble_eq_true rfl⟩) ⟨mm_B.blind, mm_recv (q := (RX5, TX5, 14)) C hH kl_157 (mm_e5 kd_157) rfl, mm_pre C hH⟩ rfl rfl hl.1 rfl (lv_room (Nat.le_of_ble_eq_true rfl)) dX5_rank_18 ⟨Nat.zero_le _, Nat.zero_le _⟩) (fun H locs hH => ?_)
      refine lv_iconst (v := 1) hx hb dX5_rank_21 (by decide) ?_
      refine lv_icmp_ne (tgt := 38) hx hb dX5_rank_22 (by decide) (fun c2 => ?_) (fun c2 => ?_)
      · have h := mm_neg c2 h
        refine lv_iconst (v := 0) hx hb dX5_rank_38 (by decide) ?_
        refine lv_istore (lv' := [(4, .int 0), (0, .ref (b + 157)), (1, .int a1), (2, .int i2), (3, .int i3)]) hx hb dX5_rank_39 hl (by decide) rfl (fun ls hl => ?_)
        refine lv_iload_n hx hb dX5_rank_41 rfl (lv_at hl 3 rfl) ?_
        refine lv_iload hx hb dX5_rank_42 (lv_at hl 0 rfl) ?_
        refine lv_if_eq (tgt := 86) hx hb dX5_rank_44 (by decide) (fun _ => ?_) (fun c => absurd (by decide) c)
        have hl := lv_sub (l' := [(0, .ref (b + 157)), (1, .int a1), (3, .int i3)]) hl [1, 2, 4] rfl
        refine lv_iconst (v := 0) hx hb dX5_rank_86 (by decide) ?_
        refine lv_iadd hx hb dX5_rank_87 ?_
        obtain ⟨v2, e2, h⟩ := mm_bnd h
        refine mm_nmi e2 ?_
        refine lv_istore_n (lv' := [(2, .int v2), (0, .ref (b + 157)), (1, .int a1), (3, .int i3)]) hx hb dX5_rank_88 rfl hl (by decide) rfl (fun ls hl => ?_)
        obtain ⟨v3, e3, h⟩ := mm_bnd h
        refine lv_iinc (v := v3) (lv' := [(3, .int v3), (2, .int v2), (0, .ref (b + 157)), (1, .int a1)]) hx hb dX5_rank_89 hl (k := 3) rfl (Option.some.inj e3) (by decide) rfl (fun ls hl => ?_)
        refine lv_goto (tgt := 4) hx hb dX5_rank_92 (by decide) ?_
        exact ih v2 v3 x _ _ _ _ h hH (lv_sub hl [2, 3, 1, 0] rfl) kk
      · have h := mm_pos c2 h
        refine lv_aload_n hx hb dX5_rank_25 rfl (lv_at hl 0 rfl) ?_
        refine lv_iload_n hx hb dX5_rank_26 rfl (lv_at hl 3 rfl) ?_
        refine lv_iconst (v := 3) hx hb dX5_rank_27 (by decide) ?_
        obtain ⟨v4, e4, h⟩ := mm_bnd h
        refine mm_goi hH (va_runV (As := [.int i3, .int 3]) (rest := []) ⟨hx, hb, C.2.2.1, C.2.2.2.1, C.2.2.2.2.1⟩ (ct_X5_its l G T b z i3 3 x e4) (cwV 2 C.2.2.2.2.1 gX5_rank_X5_its rfl rfl rfl df_X5_its ⟨Nat.le_of_ble_eq_true rfl, Nat.le_of_ble_eq_true rfl⟩) ⟨mm_B.blind, mm_recv (q := (RX5, TX5, 14)) C hH kl_157 (mm_e5 kd_157) rfl, mm_pre C hH⟩ rfl rfl hl.1 rfl (lv_room (Nat.le_of_ble_eq_true rfl)) dX5_rank_28 ⟨Nat.zero_le _, Nat.zero_le _⟩) (fun H locs hH => ?_)
        refine lv_if_ne (tgt := 38) hx hb dX5_rank_31 (by decide) (fun c3 => ?_) (fun c3 => ?_)
        · have h := mm_neg c3 h
          refine lv_iconst (v := 0) hx hb dX5_rank_38 (by decide) ?_
          refine lv_istore (lv' := [(4, .int 0), (0, .ref (b + 157)), (1, .int a1), (2, .int i2), (3, .int i3)]) hx hb dX5_rank_39 hl (by decide) rfl (fun ls hl => ?_)
          refine lv_iload_n hx hb dX5_rank_41 rfl (lv_at hl 3 rfl) ?_
          refine lv_iload hx hb dX5_rank_42 (lv_at hl 0 rfl) ?_
          refine lv_if_eq (tgt := 86) hx hb dX5_rank_44 (by decide) (fun _ => ?_) (fun c => absurd (by decide) c)
          have hl := lv_sub (l' := [(0, .ref (b + 157)), (1, .int a1), (3, .int i3)]) hl [1, 2, 4] rfl
          refine lv_iconst (v := 0) hx hb dX5_rank_86 (by decide) ?_
          refine lv_iadd hx hb dX5_rank_87 ?_
          obtain ⟨v5, e5, h⟩ := mm_bnd h
          refine mm_nmi e5 ?_
          refine lv_istore_n (lv' := [(2, .int v5), (0, .ref (b + 157)), (1, .int a1), (3, .int i3)]) hx hb dX5_rank_88 rfl hl (by decide) rfl (fun ls hl => ?_)
          obtain ⟨v6, e6, h⟩ := mm_bnd h
          refine lv_iinc (v := v6) (lv' := [(3, .int v6), (2, .int v5), (0, .ref (b + 157)), (1, .int a1)]) hx hb dX5_rank_89 hl (k := 3) rfl (Option.some.inj e6) (by decide) rfl (fun ls hl => ?_)
          refine lv_goto (tgt := 4) hx hb dX5_rank_92 (by decide) ?_
          exact ih v5 v6 x _ _ _ _ h hH (lv_sub hl [2, 3, 1, 0] rfl) kk
        · have h := mm_pos c3 h
          refine lv_iconst (v := 1) hx hb dX5_rank_34 (by decide) ?_
          refine lv_goto (tgt := 39) hx hb dX5_rank_35 (by decide) ?_
          refine lv_istore (lv' := [(4, .int 1), (0, .ref (b + 157)), (1, .int a1), (2, .int i2), (3, .int i3)]) hx hb dX5_rank_39 hl (by decide) rfl (fun ls hl => ?_)
          refine lv_iload_n hx hb dX5_rank_41 rfl (lv_at hl 3 rfl) ?_
          refine lv_iload hx hb dX5_rank_42 (lv_at hl 0 rfl) ?_
          refine lv_if_eq (tgt := 86) hx hb dX5_rank_44 (by decide) (fun c => absurd c (by decide)) (fun _ => ?_)
          have hl := lv_sub (l' := [(0, .ref (b + 157)), (1, .int a1), (3, .int i3)]) hl [1, 2, 4] rfl
          refine lv_aload_n hx hb dX5_rank_47 rfl (lv_at hl 0 rfl) ?_
          refine lv_iload_n hx hb dX5_rank_48 rfl (lv_at hl 2 rfl) ?_
          refine lv_iconst (v := 1) hx hb dX5_rank_49 (by decide) ?_
          obtain ⟨v7, e7, h⟩ := mm_bnd h
          refine mm_goi hH (va_runV (As := [.int i3, .int 1]) (rest := [.int i2]) ⟨hx, hb, C.2.2.1, C.2.2.2.1, C.2.2.2.2.1⟩ (ct_X5_its l G T b z i3 1 x e7) (cwV 2 C.2.2.2.2.1 gX5_rank_X5_its rfl rfl rfl df_X5_its ⟨Nat.le_of_ble_eq_true rfl, Nat.le_of_ble_eq_true rfl⟩) ⟨mm_B.blind, mm_recv (q := (RX5, TX5, 14)) C hH kl_157 (mm_e5 kd_157) rfl, mm_pre C hH⟩ rfl rfl hl.1 rfl (lv_room (Nat.le_of_ble_eq_true rfl)) dX5_rank_50 ⟨Nat.zero_le _, Nat.zero_le _⟩) (fun H locs hH => ?_)
          refine lv_aload_n hx hb dX5_rank_53 rfl (lv_at hl 0 rfl) ?_
          refine lv_iload_n hx hb dX5_rank_54 rfl (lv_at hl 1 rfl) ?_
          refine lv_iconst (v := 1) hx hb dX5_rank_55 (by decide) ?_
          obtain ⟨v8, e8, h⟩ := mm_bnd h
          refine mm_goi hH (va_runV (As := [.int a1, .int 1]) (rest := [.int v7, .int i2]) ⟨hx, hb, C.2.2.1, C.2.2.2.1, C.2.2.2.2.1⟩ (ct_X5_its l G T b z a1 1 x e8) (cwV 2 C.2.2.2.2.1 gX5_rank_X5_its rfl rfl rfl df_X5_its ⟨Nat.le_of_ble_eq_true rfl, Nat.le_of_ble_eq_true rfl⟩) ⟨mm_B.blind, mm_recv (q := (RX5, TX5, 14)) C hH kl_157 (mm_e5 kd_157) rfl, mm_pre C hH⟩ rfl rfl hl.1 rfl (lv_room (Nat.le_of_ble_eq_true rfl)) dX5_rank_56 ⟨Nat.zero_le _, Nat.zero_le _⟩) (fun H locs hH => ?_)
          refine lv_icmp_lt (tgt := 82) hx hb dX5_rank_59 (by decide) (fun c4 => ?_) (fun c4 => ?_)
          · have h := mm_pos c4 h
            refine lv_iconst (v := 1) hx hb dX5_rank_82 (by decide) ?_
            refine lv_goto (tgt := 87) hx hb dX5_rank_83 (by decide) ?_
            refine lv_iadd hx hb dX5_rank_87 ?_
            obtain ⟨v9, e9, h⟩ := mm_bnd h
            refine mm_nmi e9 ?_
            refine lv_istore_n (lv' := [(2, .int v9), (0, .ref (b + 157)), (1, .int a1), (3, .int i3)]) hx hb dX5_rank_88 rfl hl (by decide) rfl (fun ls hl => ?_)
            obtain ⟨v10, e10, h⟩ := mm_bnd h
            refine lv_iinc (v := v10) (lv' := [(3, .int v10), (2, .int v9), (0, .ref (b + 157)), (1, .int a1)]) hx hb dX5_rank_89 hl (k := 3) rfl (Option.some.inj e10) (by decide) rfl (fun ls hl => ?_)
            refine lv_goto (tgt := 4) hx hb dX5_rank_92 (by decide) ?_
            exact ih v9 v10 x _ _ _ _ h hH (lv_sub hl [2, 3, 1, 0] rfl) kk
          · have h := mm_neg c4 h
            refine lv_aload_n hx hb dX5_rank_62 rfl (lv_at hl 0 rfl) ?_
            refine lv_iload_n hx hb dX5_rank_63 rfl (lv_at hl 2 rfl) ?_
            refine lv_iconst (v := 1) hx hb dX5_rank_64 (by decide) ?_
            obtain ⟨v11, e11, h⟩ := mm_bnd h
            refine mm_goi hH (va_runV (As := [.int i3, .int 1]) (rest := [.int i2]) ⟨hx, hb, C.2.2.1, C.2.2.2.1, C.2.2.2.2.1⟩ (ct_X5_its l G T b z i3 1 x e11) (cwV 2 C.2.2.2.2.1 gX5_rank_X5_its rfl rfl rfl df_X5_its ⟨Nat.le_of_ble_eq_true rfl, Nat.le_of_ble_eq_true rfl⟩) ⟨mm_B.blind, mm_recv (q := (RX5, TX5, 14)) C hH kl_157 (mm_e5 kd_157) rfl, mm_pre C hH⟩ rfl rfl hl.1 rfl (lv_room (Nat.le_of_ble_eq_true rfl)) dX5_rank_65 ⟨Nat.zero_le _, Nat.zero_le _⟩) (fun H locs hH => ?_)
            refine lv_aload_n hx hb dX5_rank_68 rfl (lv_at hl 0 rfl) ?_
            refine lv_iload_n hx hb dX5_rank_69 rfl (lv_at hl 1 rfl) ?_
            refine lv_iconst (v := 1) hx hb dX5_rank_70 (by decide) ?_
            obtain ⟨v12, e12, h⟩ := mm_bnd h
            refine mm_goi hH (va_runV (As := [.int a1, .int 1]) (rest := [.int v11, .int i2]) ⟨hx, hb, C.2.2.1, C.2.2.2.1, C.2.2.2.2.1⟩ (ct_X5_its l G T b z a1 1 x e12) (cwV 2 C.2.2.2.2.1 gX5_rank_X5_its rfl rfl rfl df_X5_its ⟨Nat.le_of_ble_eq_true rfl, Nat.le_of_ble_eq_true rfl⟩) ⟨mm_B.blind, mm_recv (q := (RX5, TX5, 14)) C hH kl_157 (mm_e5 kd_157) rfl, mm_pre C hH⟩ rfl rfl hl.1 rfl (lv_room (Nat.le_of_ble_eq_true rfl)) dX5_rank_71 ⟨Nat.zero_le _, Nat.zero_le _⟩) (fun H locs hH => ?_)
            refine lv_icmp_ne (tgt := 86) hx hb dX5_rank_74 (by decide) (fun c5 => ?_) (fun c5 => ?_)
            · have h := mm_neg c5 h
              refine lv_iconst (v := 0) hx hb dX5_rank_86 (by decide) ?_
              refine lv_iadd hx hb dX5_rank_87 ?_
              obtain ⟨v13, e13, h⟩ := mm_bnd h
              refine mm_nmi e13 ?_
              refine lv_istore_n (lv' := [(2, .int v13), (0, .ref (b + 157)), (1, .int a1), (3, .int i3)]) hx hb dX5_rank_88 rfl hl (by decide) rfl (fun ls hl => ?_)
              obtain ⟨v14, e14, h⟩ := mm_bnd h
              refine lv_iinc (v := v14) (lv' := [(3, .int v14), (2, .int v13), (0, .ref (b + 157)), (1, .int a1)]) hx hb dX5_rank_89 hl (k := 3) rfl (Option.some.inj e14) (by decide) rfl (fun ls hl => ?_)
              refine lv_goto (tgt := 4) hx hb dX5_rank_92 (by decide) ?_
              exact ih v13 v14 x _ _ _ _ h hH (lv_sub hl [2, 3, 1, 0] rfl) kk
            · have h := mm_pos c5 h
              refine lv_iload_n hx hb dX5_rank_77 rfl (lv_at hl 2 rfl) ?_
              refine lv_iload_n hx hb dX5_rank_78 rfl (lv_at hl 1 rfl) ?_
              refine lv_icmp_ge (tgt := 86) hx hb dX5_rank_79 (by decide) (fun c6 => ?_) (fun c6 => ?_)
              · have h := mm_pos c6 h
                refine lv_iconst (v := 0) hx hb dX5_rank_86 (by decide) ?_
                refine lv_iadd hx hb dX5_rank_87 ?_
                obtain ⟨v15, e15, h⟩ := mm_bnd h
                refine mm_nmi e15 ?_
                refine lv_istore_n (lv' := [(2, .int v15), (0, .ref (b + 157)), (1, .int a1), (3, .int i3)]) hx hb dX5_rank_88 rfl hl (by decide) rfl (fun ls hl => ?_)
                obtain ⟨v16, e16, h⟩ := mm_bnd h
                refine lv_iinc (v := v16) (lv' := [(3, .int v16), (2, .int v15), (0, .ref (b + 157)), (1, .int a1)]) hx hb dX5_rank_89 hl (k := 3) rfl (Option.some.inj e16) (by decide) rfl (fun ls hl => ?_)
                refine lv_goto (tgt := 4) hx hb dX5_rank_92 (by decide) ?_
                exact ih v15 v16 x _ _ _ _ h hH (lv_sub hl [2, 3, 1, 0] rfl) kk
              · have h := mm_neg c6 h
                refine lv_iconst (v := 1) hx hb dX5_rank_82 (by decide) ?_
                refine lv_goto (tgt := 87) hx hb dX5_rank_83 (by decide) ?_
                refine lv_iadd hx hb dX5_rank_87 ?_
                obtain ⟨v17, e17, h⟩ := mm_bnd h
                refine mm_nmi e17 ?_
                refine lv_istore_n (lv' := [(2, .int v17), (0, .ref (b + 157)), (1, .int a1), (3, .int i3)]) hx hb dX5_rank_88 rfl hl (by decide) rfl (fun ls hl => ?_)
                obtain ⟨v18, e18, h⟩ := mm_bnd h
                refine lv_iinc (v := v18) (lv' := [(3, .int v18), (2, .int v17), (0, .ref (b + 157)), (1, .int a1)]) hx hb dX5_rank_89 hl (k := 3) rfl (Option.some.inj e18) (by decide) rfl (fun ls hl => ?_)
                refine lv_goto (tgt := 4) hx hb dX5_rank_92 (by decide) ?_
                exact ih v17 v18 x _ _ _ _ h hH (lv_sub hl [2, 3, 1, 0] rfl) kk
set_option maxRecDepth 100000 in
set_option maxHeartbeats 4000000 in
theorem ct_X5_rank (l : Launch) (G : va_G) (T : Nat → ClassId) (b : Nat) (z : Nat → Nat) (a1 : Int32) (x : mm_M) {r : Int32} (h : fn_X5_rank a1 x = some r) : mm_Ci l yX5_rank wsX5_rank rm_X5_rank G T b z [.ref (b + 157), .int a1] x r x := by
  unfold fn_X5_rank at h
  refine mm_start (cc := cX5_rank) (maxL := 5) (ret := (some .int)) (by decide) rfl (Nat.le_of_ble_eq_true rfl) (fun p e s m below meth c ls C hr hlk hH hl => ?_)
  have hl : lv_has ls 5 [(0, .ref (b + 157)), (1, .int a1)] := hl
  have hx := C.1
  have hb := C.2.1
  refine lv_iconst (v := 0) hx hb dX5_rank_0 (by decide) ?_
  refine lv_istore_n (lv' := [(2, .int 0), (0, .ref (b + 157)), (1, .int a1)]) hx hb dX5_rank_1 rfl hl (by decide) rfl (fun ls hl => ?_)
  refine lv_iconst (v := 0) hx hb dX5_rank_2 (by decide) ?_
  refine lv_istore_n (lv' := [(3, .int 0), (2, .int 0), (0, .ref (b + 157)), (1, .int a1)]) hx hb dX5_rank_3 rfl hl (by decide) rfl (fun ls hl => ?_)
  obtain ⟨v1, e1, h⟩ := mm_bnd h
  refine lp_X5_rank_4 C a1 9 0 0 x _ _ _ _ e1 hH (lv_sub hl [2, 3, 1, 0] rfl) (fun H locs ls hH hl => ?_)
  refine lv_iload_n hx hb dX5_rank_95 rfl (lv_at hl 0 rfl) ?_
  exact mm_iretP C hH hr hlk rfl h dX5_rank_96
def fn_X5_choice_2 : Nat → Int32 → Int32 → mm_M → Option Int32
  | 0, _, _, _ => none
  | n + 1, a1, i2, x => if (x 158 8) ≤ i2 then some ((-1) : Int32) else (fn_X5_its i2 0 x).bind fun v1 => if v1 = 1 then (fn_X5_its i2 3 x).bind fun v3 => if v3 = 0 then (fn_X5_rank i2 x).bind fun v5 => if v5 = a1 then some i2 else (some (i2 + 1)).bind fun v6 => fn_X5_choice_2 n a1 v6 x else (some (i2 + 1)).bind fun v4 => fn_X5_choice_2 n a1 v4 x else (some (i2 + 1)).bind fun v2 => fn_X5_choice_2 n a1 v2 x
def fn_X5_choice (a1 : Int32) (x : mm_M) : Option Int32 :=
  fn_X5_choice_2 9 a1 0 x
abbrev rm_X5_choice : Room := { frames := 2, cells := 0, slots := 0, locals := 46 }
theorem df_X5_choice : yX5_choice.cls = RX5 ∧ yX5_choice.cls ≠ "java/lang/invoke/MethodHandle" ∧ yX5_choice.cls ≠ "java/lang/invoke/VarHandle" ∧ (parseMethodDescriptor yX5_choice.desc).map (fun d => d.parameters.length) = some 1 := by decide +kernel
set_option maxRecDepth 100000 in
set_option maxHeartbeats 4000000 in
theorem lp_X5_choice_2 {p : Program} {l : Launch} {e : Env} {s : State} {m : MethodId} {args : Array Value} {below : List Frame} {meth : Method} {c : Code} {G : va_G} {T : Nat → ClassId} {b : Nat} {z : Nat → Nat} (C : mm_C p m c cX5_choice 3 s args wsX5_choice RX5 G T b z) (a1 : Int32) (hr : meth.sig.returnType = (some .int)) (hlk : meth.locks = false) : ∀ (n : Nat) (i2 : Int32) (x : mm_M) (H : Heap) (locs : List Loc) (ls : Array Slot) (r : Int32), fn_X5_choice_2 n a1 i2 x = some r → mm_H G T b x s H locs → lv_has ls 3 [(0, .ref (b + 157)), (1, .int a1), (2, .int i2)] → W p l e rm_X5_choice s m args below meth c H locs 0 0 (MQ below (mm_Qi G T b r x) args s 0 0 (fun q => b ≤ q)) (F0 m 2 ls []) := by
  have hx := C.1
  have hb := C.2.1
  have w1 := C.2.2.2.2.1 (.fieldLink RX5 7 "LandingFinesModel" "row" "[I") (by decide +kernel)
  have hin5 : ∀ w ∈ wsX50, w ∈ wsX5_choice := by decide +kernel
  intro n
  induction n with
  | zero => intro _ _ _ _ _ _ h; cases (show (none : Option Int32) = some _ from h)
  | succ n ih =>
    intro i2 x H locs ls r h hH hl
    rw [fn_X5_choice_2] at h
    refine lv_iload_n hx hb dX5_choice_2 rfl (lv_at hl 2 rfl) ?_
    refine lv_aload_n hx hb dX5_choice_3 rfl (lv_at hl 0 rfl) ?_
    refine mm_get (v := .ref (b + 158)) C hH hin5 rfl kl_157 (mm_e5 kd_157) (j := 0) (by decide) rfl w1 rfl dX5_choice_4 ?_
    refine lv_bipush (v := 8) hx hb dX5_choice_7 (by decide) ?_
    refine mm_iald (n := 135) (jn := 8) C hH kd_158 ln_158 (by decide) (by decide) dX5_choice_9 ?_
    refine lv_icmp_ge (tgt := 49) hx hb dX5_choice_10 (by decide) (fun c1 => ?_) (fun c1 => ?_)
    · have h := mm_pos c1 h
      have hl := lv_sub (l' := []) hl [] rfl
      refine lv_iconst (v := (-1)) hx hb dX5_choice_49 (by decide) ?_
      exact mm_iretP C hH hr hlk rfl h dX5_choice_50
    · have h := mm_neg c1 h
      refine lv_aload_n hx hb dX5_choice_13 rfl (lv_at hl 0 rfl) ?_
      refine lv_iload_n hx hb dX5_choice_14 rfl (lv_at hl 2 rfl) ?_
      refine lv_iconst (v := 0) hx hb dX5_choice_15 (by decide) ?_
      obtain ⟨v1, e1, h⟩ := mm_bnd h
      refine mm_goi hH (va_runV (As := [.int i2, .int 0]) (rest := []) ⟨hx, hb, C.2.2.1, C.2.2.2.1, C.2.2.2.2.1⟩ (ct_X5_its l G T b z i2 0 x e1) (cwV 2 C.2.2.2.2.1 gX5_choice_X5_its rfl rfl rfl df_X5_its ⟨Nat.le_of_ble_eq_true rfl, Nat.le_of_ble_eq_true rfl⟩) ⟨mm_B.blind, mm_recv (q := (RX5, TX5, 14)) C hH kl_157 (mm_e5 kd_157) rfl, mm_pre C hH⟩ rfl rfl hl.1 rfl (lv_room (Nat.le_of_ble_eq_true rfl)) dX5_choice_16 ⟨Nat.zero_le _, Nat.zero_le _⟩) (fun H locs hH => ?_)
      refine lv_iconst (v := 1) hx hb dX5_choice_19 (by decide) ?_
      refine lv_icmp_ne (tgt := 43) hx hb dX5_choice_20 (by decide) (fun c2 => ?_) (fun c2 => ?_)
      · have h := mm_neg c2 h
        obtain ⟨v2, e2, h⟩ := mm_bnd h
        refine lv_iinc (v := v2) (lv' := [(2, .int v2), (0, .ref (b + 157)), (1, .int a1)]) hx hb dX5_choice_43 hl (k := 2) rfl (Option.some.inj e2) (by decide) rfl (fun ls hl => ?_)
        refine lv_goto (tgt := 2) hx hb dX5_choice_46 (by decide) ?_
        exact ih v2 x _ _ _ _ h hH (lv_sub hl [1, 2, 0] rfl)
      · have h := mm_pos c2 h
        refine lv_aload_n hx hb dX5_choice_23 rfl (lv_at hl 0 rfl) ?_
        refine lv_iload_n hx hb dX5_choice_24 rfl (lv_at hl 2 rfl) ?_
        refine lv_iconst (v := 3) hx hb dX5_choice_25 (by decide) ?_
        obtain ⟨v3, e3, h⟩ := mm_bnd h
        refine mm_goi hH (va_runV (As := [.int i2, .int 3]) (rest := []) ⟨hx, hb, C.2.2.1, C.2.2.2.1, C.2.2.2.2.1⟩ (ct_X5_its l G T b z i2 3 x e3) (cwV 2 C.2.2.2.2.1 gX5_choice_X5_its rfl rfl rfl df_X5_its ⟨Nat.le_of_ble_eq_true rfl, Nat.le_of_ble_eq_true rfl⟩) ⟨mm_B.blind, mm_recv (q := (RX5, TX5, 14)) C hH kl_157 (mm_e5 kd_157) rfl, mm_pre C hH⟩ rfl rfl hl.1 rfl (lv_room (Nat.le_of_ble_eq_true rfl)) dX5_choice_26 ⟨Nat.zero_le _, Nat.zero_le _⟩) (fun H locs hH => ?_)
        refine lv_if_ne (tgt := 43) hx hb dX5_choice_29 (by decide) (fun c3 => ?_) (fun c3 => ?_)
        · have h := mm_neg c3 h
          obtain ⟨v4, e4, h⟩ := mm_bnd h
          refine lv_iinc (v := v4) (lv' := [(2, .int v4), (0, .ref (b + 157)), (1, .int a1)]) hx hb dX5_choice_43 hl (k := 2) rfl (Option.some.inj e4) (by decide) rfl (fun ls hl => ?_)
          refine lv_goto (tgt := 2) hx hb dX5_choice_46 (by decide) ?_
          exact ih v4 x _ _ _ _ h hH (lv_sub hl [1, 2, 0] rfl)
        · have h := mm_pos c3 h
          refine lv_aload_n hx hb dX5_choice_32 rfl (lv_at hl 0 rfl) ?_
          refine lv_iload_n hx hb dX5_choice_33 rfl (lv_at hl 2 rfl) ?_
          obtain ⟨v5, e5, h⟩ := mm_bnd h
          refine mm_goi hH (va_runV (As := [.int i2]) (rest := []) ⟨hx, hb, C.2.2.1, C.2.2.2.1, C.2.2.2.2.1⟩ (ct_X5_rank l G T b z i2 x e5) (cwV 1 C.2.2.2.2.1 gX5_choice_X5_rank rfl rfl rfl df_X5_rank ⟨Nat.le_of_ble_eq_true rfl, Nat.le_of_ble_eq_true rfl⟩) ⟨mm_B.blind, mm_recv (q := (RX5, TX5, 14)) C hH kl_157 (mm_e5 kd_157) rfl, mm_pre C hH⟩ rfl rfl hl.1 rfl (lv_room (Nat.le_of_ble_eq_true rfl)) dX5_choice_34 ⟨Nat.zero_le _, Nat.zero_le _⟩) (fun H locs hH => ?_)
          refine lv_iload_n hx hb dX5_choice_37 rfl (lv_at hl 1 rfl) ?_
          refine lv_icmp_ne (tgt := 43) hx hb dX5_choice_38 (by decide) (fun c4 => ?_) (fun c4 => ?_)
          · have h := mm_neg c4 h
            obtain ⟨v6, e6, h⟩ := mm_bnd h
            refine lv_iinc (v := v6) (lv' := [(2, .int v6), (0, .ref (b + 157)), (1, .int a1)]) hx hb dX5_choice_43 hl (k := 2) rfl (Option.some.inj e6) (by decide) rfl (fun ls hl => ?_)
            refine lv_goto (tgt := 2) hx hb dX5_choice_46 (by decide) ?_
            exact ih v6 x _ _ _ _ h hH (lv_sub hl [1, 2, 0] rfl)
          · have h := mm_pos c4 h
            have hl := lv_sub (l' := [(2, .int i2)]) hl [2] rfl
            refine lv_iload_n hx hb dX5_choice_41 rfl (lv_at hl 0 rfl) ?_
            exact mm_iretP C hH hr hlk rfl h dX5_choice_42
set_option maxRecDepth 100000 in
set_option maxHeartbeats 4000000 in
theorem ct_X5_choice (l : Launch) (G : va_G) (T : Nat → ClassId) (b : Nat) (z : Nat → Nat) (a1 : Int32) (x : mm_M) {r : Int32} (h : fn_X5_choice a1 x = some r) : mm_Ci l yX5_choice wsX5_choice rm_X5_choice G T b z [.ref (b + 157), .int a1] x r x := by
  unfold fn_X5_choice at h
  refine mm_start (cc := cX5_choice) (maxL := 3) (ret := (some .int)) (by decide) rfl (Nat.le_of_ble_eq_true rfl) (fun p e s m below meth c ls C hr hlk hH hl => ?_)
  have hl : lv_has ls 3 [(0, .ref (b + 157)), (1, .int a1)] := hl
  have hx := C.1
  have hb := C.2.1
  refine lv_iconst (v := 0) hx hb dX5_choice_0 (by decide) ?_
  refine lv_istore_n (lv' := [(2, .int 0), (0, .ref (b + 157)), (1, .int a1)]) hx hb dX5_choice_1 rfl hl (by decide) rfl (fun ls hl => ?_)
  exact lp_X5_choice_2 C a1  hr hlk 9 0 x _ _ _ _ h hH (lv_sub hl [1, 2, 0] rfl)
def fn_X5_log (a1 : Int32) (a2 : Int32) (x : mm_M) : Option Int32 :=
  (fn_X5_in (Int32.toInt64 a1) 0 ((x 158 10) - 1) x).bind fun v1 => if v1 = 0 then some ((-1) : Int32) else (fn_X5_in (Int32.toInt64 a2) 0 2 x).bind fun v2 => if v2 = 0 then some ((-2) : Int32) else if (((11 : Int32) + ((3 : Int32) * a1)) + a2) < 0 ∨ 135 ≤ Int32.toNatClampNeg (((11 : Int32) + ((3 : Int32) * a1)) + a2) then none else some (x 158 (Int32.toNatClampNeg (((11 : Int32) + ((3 : Int32) * a1)) + a2)))
abbrev rm_X5_log : Room := { frames := 1, cells := 0, slots := 0, locals := 23 }
theorem df_X5_log : yX5_log.cls = RX5 ∧ yX5_log.cls ≠ "java/lang/invoke/MethodHandle" ∧ yX5_log.cls ≠ "java/lang/invoke/VarHandle" ∧ (parseMethodDescriptor yX5_log.desc).map (fun d => d.parameters.length) = some 2 := by decide +kernel
set_option maxRecDepth 100000 in
set_option maxHeartbeats 4000000 in
theorem ct_X5_log (l : Launch) (G : va_G) (T : Nat → ClassId) (b : Nat) (z : Nat → Nat) (a1 : Int32) (a2 : Int32) (x : mm_M) {r : Int32} (h : fn_X5_log a1 a2 x = some r) : mm_Ci l yX5_log wsX5_log rm_X5_log G T b z [.ref (b + 157), .int a1, .int a2] x r x := by
  unfold fn_X5_log at h
  refine mm_start (cc := cX5_log) (maxL := 3) (ret := (some .int)) (by decide) rfl (Nat.le_of_ble_eq_true rfl) (fun p e s m below meth c ls C hr hlk hH hl => ?_)
  have hl : lv_has ls 3 [(0, .ref (b + 157)), (1, .int a1), (2, .int a2)] := hl
  have hx := C.1
  have hb := C.2.1
  have w1 := C.2.2.2.2.1 (.fieldLink RX5 7 "LandingFinesModel" "row" "[I") (by decide +kernel)
  have hin5 : ∀ w ∈ wsX50, w ∈ wsX5_log := by decide +kernel
  refine lv_iload_n hx hb dX5_log_0 rfl (lv_at hl 1 rfl) ?_
  refine lv_i2l (v := (Int32.toInt64 a1)) hx hb dX5_log_1 rfl ?_
  refine lv_iconst (v := 0) hx hb dX5_log_2 (by decide) ?_
  refine lv_aload_n hx hb dX5_log_3 rfl (lv_at hl 0 rfl) ?_
  refine mm_get (v := .ref (b + 158)) C hH hin5 rfl kl_157 (mm_e5 kd_157) (j := 0) (by decide) rfl w1 rfl dX5_log_4 ?_
  refine lv_bipush (v := 10) hx hb dX5_log_7 (by decide) ?_
  refine mm_iald (n := 135) (jn := 10) C hH kd_158 ln_158 (by decide) (by decide) dX5_log_9 ?_
  refine lv_iconst (v := 1) hx hb dX5_log_10 (by decide) ?_
  refine lv_isub hx hb dX5_log_11 ?_
  obtain ⟨v1, e1, h⟩ := mm_bnd h
  refine mm_goi hH (va_runS (As := [.long (Int32.toInt64 a1), .int 0, .int ((x 158 10) - 1)]) (rest := []) ⟨hx, hb, C.2.2.1, C.2.2.2.1, C.2.2.2.2.1⟩ (ct_X5_in l G T b z (Int32.toInt64 a1) 0 ((x 158 10) - 1) x e1) (va_cwS 3 C.2.2.2.2.1 gX5_log_X5_in rfl rfl rfl df_X5_in.2 ⟨Nat.le_of_ble_eq_true rfl, Nat.le_of_ble_eq_true rfl⟩) ⟨mm_B.blind, mm_pre C hH⟩ rfl rfl hl.1 rfl (lv_room (Nat.le_of_ble_eq_true rfl)) dX5_log_12 ⟨Nat.zero_le _, Nat.zero_le _⟩) (fun H locs hH => ?_)
  refine lv_if_ne (tgt := 22) hx hb dX5_log_15 (by decide) (fun c1 => ?_) (fun c1 => ?_)
  · have h := mm_neg c1 h
    refine lv_iload_n hx hb dX5_log_22 rfl (lv_at hl 2 rfl) ?_
    refine lv_i2l (v := (Int32.toInt64 a2)) hx hb dX5_log_23 rfl ?_
    refine lv_iconst (v := 0) hx hb dX5_log_24 (by decide) ?_
    refine lv_iconst (v := 2) hx hb dX5_log_25 (by decide) ?_
    obtain ⟨v2, e2, h⟩ := mm_bnd h
    refine mm_goi hH (va_runS (As := [.long (Int32.toInt64 a2), .int 0, .int 2]) (rest := []) ⟨hx, hb, C.2.2.1, C.2.2.2.1, C.2.2.2.2.1⟩ (ct_X5_in l G T b z (Int32.toInt64 a2) 0 2 x e2) (va_cwS 3 C.2.2.2.2.1 gX5_log_X5_in rfl rfl rfl df_X5_in.2 ⟨Nat.le_of_ble_eq_true rfl, Nat.le_of_ble_eq_true rfl⟩) ⟨mm_B.blind, mm_pre C hH⟩ rfl rfl hl.1 rfl (lv_room (Nat.le_of_ble_eq_true rfl)) dX5_log_26 ⟨Nat.zero_le _, Nat.zero_le _⟩) (fun H locs hH => ?_)
    refine lv_if_eq (tgt := 48) hx hb dX5_log_29 (by decide) (fun c2 => ?_) (fun c2 => ?_)
    · have h := mm_pos c2 h
      have hl := lv_sub (l' := []) hl [] rfl
      refine lv_bipush (v := (-2)) hx hb dX5_log_48 (by decide) ?_
      exact mm_iretP C hH hr hlk rfl h dX5_log_50
    · have h := mm_neg c2 h
      refine lv_aload_n hx hb dX5_log_32 rfl (lv_at hl 0 rfl) ?_
      refine mm_get (v := .ref (b + 158)) C hH hin5 rfl kl_157 (mm_e5 kd_157) (j := 0) (by decide) rfl w1 rfl dX5_log_33 ?_
      refine lv_bipush (v := 11) hx hb dX5_log_36 (by decide) ?_
      refine lv_iconst (v := 3) hx hb dX5_log_38 (by decide) ?_
      refine lv_iload_n hx hb dX5_log_39 rfl (lv_at hl 1 rfl) ?_
      refine lv_imul hx hb dX5_log_40 ?_
      refine lv_iadd hx hb dX5_log_41 ?_
      refine lv_iload_n hx hb dX5_log_42 rfl (lv_at hl 2 rfl) ?_
      refine lv_iadd hx hb dX5_log_43 ?_
      obtain ⟨g1, h⟩ := mm_grn h
      refine mm_iald (n := 135) (jn := (Int32.toNatClampNeg (((11 : Int32) + ((3 : Int32) * a1)) + a2))) C hH kd_158 ln_158 g1 rfl dX5_log_44 ?_
      refine lv_goto (tgt := 50) hx hb dX5_log_45 (by decide) ?_
      have hl := lv_sub (l' := []) hl [] rfl
      exact mm_iretP C hH hr hlk rfl h dX5_log_50
  · have h := mm_pos c1 h
    have hl := lv_sub (l' := []) hl [] rfl
    refine lv_iconst (v := (-1)) hx hb dX5_log_18 (by decide) ?_
    refine lv_goto (tgt := 50) hx hb dX5_log_19 (by decide) ?_
    exact mm_iretP C hH hr hlk rfl h dX5_log_50
def fn_X5_why (a1 : Int32) (x : mm_M) : Option Int32 :=
  (fn_X5_isLanding a1 x).bind fun v1 => if v1 = 0 then some ((-1) : Int32) else (fn_X5_its a1 0 x).bind fun v2 => if v2 = 0 then some (1 : Int32) else (fn_X5_its a1 3 x).bind fun v3 => if v3 = 1 then some (2 : Int32) else (fn_X5_taken x).bind fun v4 => if v4 = a1 then some (0 : Int32) else some (3 : Int32)
abbrev rm_X5_why : Room := { frames := 2, cells := 0, slots := 0, locals := 45 }
theorem df_X5_why : yX5_why.cls = RX5 ∧ yX5_why.cls ≠ "java/lang/invoke/MethodHandle" ∧ yX5_why.cls ≠ "java/lang/invoke/VarHandle" ∧ (parseMethodDescriptor yX5_why.desc).map (fun d => d.parameters.length) = some 1 := by decide +kernel
set_option maxRecDepth 100000 in
set_option maxHeartbeats 4000000 in
theorem ct_X5_why (l : Launch) (G : va_G) (T : Nat → ClassId) (b : Nat) (z : Nat → Nat) (a1 : Int32) (x : mm_M) {r : Int32} (h : fn_X5_why a1 x = some r) : mm_Ci l yX5_why wsX5_why rm_X5_why G T b z [.ref (b + 157), .int a1] x r x := by
  unfold fn_X5_why at h
  refine mm_start (cc := cX5_why) (maxL := 2) (ret := (some .int)) (by decide) rfl (Nat.le_of_ble_eq_true rfl) (fun p e s m below meth c ls C hr hlk hH hl => ?_)
  have hl : lv_has ls 2 [(0, .ref (b + 157)), (1, .int a1)] := hl
  have hx := C.1
  have hb := C.2.1
  refine lv_aload_n hx hb dX5_why_0 rfl (lv_at hl 0 rfl) ?_
  refine lv_iload_n hx hb dX5_why_1 rfl (lv_at hl 1 rfl) ?_
  obtain ⟨v1, e1, h⟩ := mm_bnd h
  refine mm_goi hH (va_runV (As := [.int a1]) (rest := []) ⟨hx, hb, C.2.2.1, C.2.2.2.1, C.2.2.2.2.1⟩ (ct_X5_isLanding l G T b z a1 x e1) (cwV 1 C.2.2.2.2.1 gX5_why_X5_isLanding rfl rfl rfl df_X5_isLanding ⟨Nat.le_of_ble_eq_true rfl, Nat.le_of_ble_eq_true rfl⟩) ⟨mm_B.blind, mm_recv (q := (RX5, TX5, 14)) C hH kl_157 (mm_e5 kd_157) rfl, mm_pre C hH⟩ rfl rfl hl.1 rfl (lv_room (Nat.le_of_ble_eq_true rfl)) dX5_why_2 ⟨Nat.zero_le _, Nat.zero_le _⟩) (fun H locs hH => ?_)
  refine lv_if_ne (tgt := 10) hx hb dX5_why_5 (by decide) (fun c1 => ?_) (fun c1 => ?_)
  · have h := mm_neg c1 h
    refine lv_aload_n hx hb dX5_why_10 rfl (lv_at hl 0 rfl) ?_
    refine lv_iload_n hx hb dX5_why_11 rfl (lv_at hl 1 rfl) ?_
    refine lv_iconst (v := 0) hx hb dX5_why_12 (by decide) ?_
    obtain ⟨v2, e2, h⟩ := mm_bnd h
    refine mm_goi hH (va_runV (As := [.int a1, .int 0]) (rest := []) ⟨hx, hb, C.2.2.1, C.2.2.2.1, C.2.2.2.2.1⟩ (ct_X5_its l G T b z a1 0 x e2) (cwV 2 C.2.2.2.2.1 gX5_why_X5_its rfl rfl rfl df_X5_its ⟨Nat.le_of_ble_eq_true rfl, Nat.le_of_ble_eq_true rfl⟩) ⟨mm_B.blind, mm_recv (q := (RX5, TX5, 14)) C hH kl_157 (mm_e5 kd_157) rfl, mm_pre C hH⟩ rfl rfl hl.1 rfl (lv_room (Nat.le_of_ble_eq_true rfl)) dX5_why_13 ⟨Nat.zero_le _, Nat.zero_le _⟩) (fun H locs hH => ?_)
    refine lv_if_ne (tgt := 23) hx hb dX5_why_16 (by decide) (fun c2 => ?_) (fun c2 => ?_)
    · have h := mm_neg c2 h
      refine lv_aload_n hx hb dX5_why_23 rfl (lv_at hl 0 rfl) ?_
      refine lv_iload_n hx hb dX5_why_24 rfl (lv_at hl 1 rfl) ?_
      refine lv_iconst (v := 3) hx hb dX5_why_25 (by decide) ?_
      obtain ⟨v3, e3, h⟩ := mm_bnd h
      refine mm_goi hH (va_runV (As := [.int a1, .int 3]) (rest := []) ⟨hx, hb, C.2.2.1, C.2.2.2.1, C.2.2.2.2.1⟩ (ct_X5_its l G T b z a1 3 x e3) (cwV 2 C.2.2.2.2.1 gX5_why_X5_its rfl rfl rfl df_X5_its ⟨Nat.le_of_ble_eq_true rfl, Nat.le_of_ble_eq_true rfl⟩) ⟨mm_B.blind, mm_recv (q := (RX5, TX5, 14)) C hH kl_157 (mm_e5 kd_157) rfl, mm_pre C hH⟩ rfl rfl hl.1 rfl (lv_room (Nat.le_of_ble_eq_true rfl)) dX5_why_26 ⟨Nat.zero_le _, Nat.zero_le _⟩) (fun H locs hH => ?_)
      refine lv_iconst (v := 1) hx hb dX5_why_29 (by decide) ?_
      refine lv_icmp_ne (tgt := 37) hx hb dX5_why_30 (by decide) (fun c3 => ?_) (fun c3 => ?_)
      · have h := mm_neg c3 h
        refine lv_aload_n hx hb dX5_why_37 rfl (lv_at hl 0 rfl) ?_
        obtain ⟨v4, e4, h⟩ := mm_bnd h
        refine mm_goi hH (va_runV (As := []) (rest := []) ⟨hx, hb, C.2.2.1, C.2.2.2.1, C.2.2.2.2.1⟩ (ct_X5_taken l G T b z x e4) (cwV 0 C.2.2.2.2.1 gX5_why_X5_taken rfl rfl rfl df_X5_taken ⟨Nat.le_of_ble_eq_true rfl, Nat.le_of_ble_eq_true rfl⟩) ⟨mm_B.blind, mm_recv (q := (RX5, TX5, 14)) C hH kl_157 (mm_e5 kd_157) rfl, mm_pre C hH⟩ rfl rfl hl.1 rfl (lv_room (Nat.le_of_ble_eq_true rfl)) dX5_why_38 ⟨Nat.zero_le _, Nat.zero_le _⟩) (fun H locs hH => ?_)
        refine lv_iload_n hx hb dX5_why_41 rfl (lv_at hl 1 rfl) ?_
        refine lv_icmp_ne (tgt := 49) hx hb dX5_why_42 (by decide) (fun c4 => ?_) (fun c4 => ?_)
        · have h := mm_neg c4 h
          have hl := lv_sub (l' := []) hl [] rfl
          refine lv_iconst (v := 3) hx hb dX5_why_49 (by decide) ?_
          exact mm_iretP C hH hr hlk rfl h dX5_why_50
        · have h := mm_pos c4 h
          have hl := lv_sub (l' := []) hl [] rfl
          refine lv_iconst (v := 0) hx hb dX5_why_45 (by decide) ?_
          refine lv_goto (tgt := 50) hx hb dX5_why_46 (by decide) ?_
          exact mm_iretP C hH hr hlk rfl h dX5_why_50
      · have h := mm_pos c3 h
        have hl := lv_sub (l' := []) hl [] rfl
        refine lv_iconst (v := 2) hx hb dX5_why_33 (by decide) ?_
        refine lv_goto (tgt := 50) hx hb dX5_why_34 (by decide) ?_
        exact mm_iretP C hH hr hlk rfl h dX5_why_50
    · have h := mm_pos c2 h
      have hl := lv_sub (l' := []) hl [] rfl
      refine lv_iconst (v := 1) hx hb dX5_why_19 (by decide) ?_
      refine lv_goto (tgt := 50) hx hb dX5_why_20 (by decide) ?_
      exact mm_iretP C hH hr hlk rfl h dX5_why_50
  · have h := mm_pos c1 h
    have hl := lv_sub (l' := []) hl [] rfl
    refine lv_iconst (v := (-1)) hx hb dX5_why_8 (by decide) ?_
    exact mm_iretP C hH hr hlk rfl h dX5_why_9
def fn_X5_welcomeIn_17 : Nat → Int32 → mm_M → Option (mm_M × Int32)
  | 0, _, _ => none
  | n + 1, i2, x => if (x 157 12) = 0 then some (x, i2) else if (1000 : Int32) ≤ i2 then some (x, i2) else mm_b2 (fn_X5_passes x) fun x1 v1 => (some (i2 + 1)).bind fun v2 => fn_X5_welcomeIn_17 n  v2 x1
def fn_X5_welcomeIn (a1 : Int32) (x : mm_M) : Option (mm_M × Int32) :=
  (fn_X5_isLanding a1 x).bind fun v1 => if v1 = 0 then some (x, (-1)) else (fn_X5_tries a1 x).bind fun x1 => mm_b2 (fn_X5_welcomeIn_17 1001 0 x1) fun x2 v2 => some (x2, v2)
abbrev rm_X5_welcomeIn : Room := { frames := 2, cells := 0, slots := 0, locals := 44 }
theorem df_X5_welcomeIn : yX5_welcomeIn.cls = RX5 ∧ yX5_welcomeIn.cls ≠ "java/lang/invoke/MethodHandle" ∧ yX5_welcomeIn.cls ≠ "java/lang/invoke/VarHandle" ∧ (parseMethodDescriptor yX5_welcomeIn.desc).map (fun d => d.parameters.length) = some 1 := by decide +kernel
set_option maxRecDepth 100000 in
set_option maxHeartbeats 4000000 in
theorem lp_X5_welcomeIn_17 {p : Program} {l : Launch} {e : Env} {s : State} {m : MethodId} {args : Array Value} {below : List Frame} {meth : Method} {c : Code} {Q : State → Prop} {G : va_G} {T : Nat → ClassId} {b : Nat} {z : Nat → Nat} (C : mm_C p m c cX5_welcomeIn 4 s args wsX5_welcomeIn RX5 G T b z)  : ∀ (n : Nat) (i2 : Int32) (x : mm_M) (H : Heap) (locs : List Loc) (ls : Array Slot) (x1 : mm_M) (r2 : Int32), fn_X5_welcomeIn_17 n i2 x = some (x1, r2) → mm_H G T b x s H locs → lv_has ls 4 [(0, .ref (b + 157)), (2, .int i2)] → (∀ (H1 : Heap) (locs1 : List Loc) (ls1 : Array Slot), mm_H G T b x1 s H1 locs1 → lv_has ls1 4 [(2, .int r2)] → W p l e rm_X5_welcomeIn s m args below meth c H1 locs1 0 0 Q (F0 m 42 ls1 [])) → W p l e rm_X5_welcomeIn s m args below meth c H locs 0 0 Q (F0 m 17 ls []) := by
  have hx := C.1
  have hb := C.2.1
  have w1 := C.2.2.2.2.1 (.fieldLink RX5 73 "LandingFinesModel" "isShunned" "Z") (by decide +kernel)
  have hin5 : ∀ w ∈ wsX50, w ∈ wsX5_welcomeIn := by decide +kernel
  intro n
  induction n with
  | zero => intro _ _ _ _ _ _ _ h; cases (show (none : Option (mm_M × Int32)) = some _ from h)
  | succ n ih =>
    intro i2 x H locs ls x1 r2 h hH hl kk
    rw [fn_X5_welcomeIn_17] at h
    refine lv_aload_n hx hb dX5_welcomeIn_17 rfl (lv_at hl 0 rfl) ?_
    refine mm_get (v := .int (x 157 12)) C hH hin5 rfl kl_157 (mm_e5 kd_157) (j := 12) (by decide) rfl w1 rfl dX5_welcomeIn_18 ?_
    refine lv_if_eq (tgt := 42) hx hb dX5_welcomeIn_21 (by decide) (fun c1 => ?_) (fun c1 => ?_)
    · have h := mm_pos c1 h
      have hl := lv_sub (l' := [(2, .int i2)]) hl [1] rfl
      cases h
      exact kk _ _ _ hH (lv_sub hl [0] rfl)
    · have h := mm_neg c1 h
      refine lv_iload_n hx hb dX5_welcomeIn_24 rfl (lv_at hl 1 rfl) ?_
      refine lv_sipush (v := 1000) hx hb dX5_welcomeIn_25 (by decide) ?_
      refine lv_icmp_ge (tgt := 42) hx hb dX5_welcomeIn_28 (by decide) (fun c2 => ?_) (fun c2 => ?_)
      · have h := mm_pos c2 h
        have hl := lv_sub (l' := [(2, .int i2)]) hl [1] rfl
        cases h
        exact kk _ _ _ hH (lv_sub hl [0] rfl)
      · have h := mm_neg c2 h
        refine lv_aload_n hx hb dX5_welcomeIn_31 rfl (lv_at hl 0 rfl) ?_
        obtain ⟨x1, v1, e1, h⟩ := mm_bnd2 h
        refine mm_goi hH (va_runV (As := []) (rest := []) ⟨hx, hb, C.2.2.1, C.2.2.2.1, C.2.2.2.2.1⟩ (ct_X5_passes l G T b z x e1) (cwV 0 C.2.2.2.2.1 gX5_welcomeIn_X5_passes rfl rfl rfl df_X5_passes ⟨Nat.le_of_ble_eq_true rfl, Nat.le_of_ble_eq_true rfl⟩) ⟨mm_B.blind, mm_recv (q := (RX5, TX5, 14)) C hH kl_157 (mm_e5 kd_157) rfl, mm_pre C hH⟩ rfl rfl hl.1 rfl (lv_room (Nat.le_of_ble_eq_true rfl)) dX5_welcomeIn_32 ⟨Nat.zero_le _, Nat.zero_le _⟩) (fun H locs hH => ?_)
        refine lv_istore_n (lv' := [(3, .int v1), (0, .ref (b + 157)), (2, .int i2)]) hx hb dX5_welcomeIn_35 rfl hl (by decide) rfl (fun ls hl => ?_)
        have hl := lv_sub (l' := [(0, .ref (b + 157)), (2, .int i2)]) hl [1, 2] rfl
        obtain ⟨v2, e2, h⟩ := mm_bnd h
        refine lv_iinc (v := v2) (lv' := [(2, .int v2), (0, .ref (b + 157))]) hx hb dX5_welcomeIn_36 hl (k := 1) rfl (Option.some.inj e2) (by decide) rfl (fun ls hl => ?_)
        refine lv_goto (tgt := 17) hx hb dX5_welcomeIn_39 (by decide) ?_
        exact ih v2 x1 _ _ _ _ _ h hH (lv_sub hl [1, 0] rfl) kk
set_option maxRecDepth 100000 in
set_option maxHeartbeats 4000000 in
theorem ct_X5_welcomeIn (l : Launch) (G : va_G) (T : Nat → ClassId) (b : Nat) (z : Nat → Nat) (a1 : Int32) (x : mm_M) {x1 : mm_M} {r : Int32} (h : fn_X5_welcomeIn a1 x = some (x1, r)) : mm_Ci l yX5_welcomeIn wsX5_welcomeIn rm_X5_welcomeIn G T b z [.ref (b + 157), .int a1] x r x1 := by
  unfold fn_X5_welcomeIn at h
  refine mm_start (cc := cX5_welcomeIn) (maxL := 4) (ret := (some .int)) (by decide) rfl (Nat.le_of_ble_eq_true rfl) (fun p e s m below meth c ls C hr hlk hH hl => ?_)
  have hl : lv_has ls 4 [(0, .ref (b + 157)), (1, .int a1)] := hl
  have hx := C.1
  have hb := C.2.1
  refine lv_aload_n hx hb dX5_welcomeIn_0 rfl (lv_at hl 0 rfl) ?_
  refine lv_iload_n hx hb dX5_welcomeIn_1 rfl (lv_at hl 1 rfl) ?_
  obtain ⟨v1, e1, h⟩ := mm_bnd h
  refine mm_goi hH (va_runV (As := [.int a1]) (rest := []) ⟨hx, hb, C.2.2.1, C.2.2.2.1, C.2.2.2.2.1⟩ (ct_X5_isLanding l G T b z a1 x e1) (cwV 1 C.2.2.2.2.1 gX5_welcomeIn_X5_isLanding rfl rfl rfl df_X5_isLanding ⟨Nat.le_of_ble_eq_true rfl, Nat.le_of_ble_eq_true rfl⟩) ⟨mm_B.blind, mm_recv (q := (RX5, TX5, 14)) C hH kl_157 (mm_e5 kd_157) rfl, mm_pre C hH⟩ rfl rfl hl.1 rfl (lv_room (Nat.le_of_ble_eq_true rfl)) dX5_welcomeIn_2 ⟨Nat.zero_le _, Nat.zero_le _⟩) (fun H locs hH => ?_)
  refine lv_if_ne (tgt := 10) hx hb dX5_welcomeIn_5 (by decide) (fun c1 => ?_) (fun c1 => ?_)
  · have h := mm_neg c1 h
    refine lv_aload_n hx hb dX5_welcomeIn_10 rfl (lv_at hl 0 rfl) ?_
    refine lv_iload_n hx hb dX5_welcomeIn_11 rfl (lv_at hl 1 rfl) ?_
    obtain ⟨x1, e2, h⟩ := mm_bnd h
    refine mm_gov hH (va_runV (As := [.int a1]) (rest := []) ⟨hx, hb, C.2.2.1, C.2.2.2.1, C.2.2.2.2.1⟩ (ct_X5_tries l G T b z a1 x e2) (cwV 1 C.2.2.2.2.1 gX5_welcomeIn_X5_tries rfl rfl rfl df_X5_tries ⟨Nat.le_of_ble_eq_true rfl, Nat.le_of_ble_eq_true rfl⟩) ⟨mm_B.blind, mm_recv (q := (RX5, TX5, 14)) C hH kl_157 (mm_e5 kd_157) rfl, mm_pre C hH⟩ rfl rfl hl.1 rfl (lv_room (Nat.le_of_ble_eq_true rfl)) dX5_welcomeIn_12 ⟨Nat.zero_le _, Nat.zero_le _⟩) (fun H locs hH => ?_)
    refine lv_iconst (v := 0) hx hb dX5_welcomeIn_15 (by decide) ?_
    refine lv_istore_n (lv' := [(2, .int 0), (0, .ref (b + 157)), (1, .int a1)]) hx hb dX5_welcomeIn_16 rfl hl (by decide) rfl (fun ls hl => ?_)
    have hl := lv_sub (l' := [(2, .int 0), (0, .ref (b + 157))]) hl [0, 1] rfl
    obtain ⟨x2, v2, e3, h⟩ := mm_bnd2 h
    refine lp_X5_welcomeIn_17 C 1001 0 x1 _ _ _ _ _ e3 hH (lv_sub hl [1, 0] rfl) (fun H locs ls hH hl => ?_)
    refine lv_iload_n hx hb dX5_welcomeIn_42 rfl (lv_at hl 0 rfl) ?_
    exact mm_iret C hH hr hlk rfl h dX5_welcomeIn_43
  · have h := mm_pos c1 h
    have hl := lv_sub (l' := []) hl [] rfl
    refine lv_iconst (v := (-1)) hx hb dX5_welcomeIn_8 (by decide) ?_
    exact mm_iret C hH hr hlk rfl h dX5_welcomeIn_9
def fn_X5_mayChange_31 : Nat → Int32 → Int32 → Int32 → mm_M → Option Int32
  | 0, _, _, _, _ => none
  | n + 1, a1, i2, i3, x => if (100 : Int32) < i3 then some ((-6) : Int32) else (fn_X5_its a1 0 x).bind fun v1 => if v1 = 1 then if (i3 - i3 / 2 * 2) = 1 then (fn_X5_held (i2 + (x 158 0)) x).bind fun v8 => if v8 ≤ (x 158 4) then (some (i3 + 1)).bind fun v9 => fn_X5_mayChange_31 n a1 v8 v9 x else some i3 else (fn_X5_held (i2 + (x 158 1)) x).bind fun v6 => if v6 ≤ (x 158 4) then (some (i3 + 1)).bind fun v7 => fn_X5_mayChange_31 n a1 v6 v7 x else some i3 else if (i3 - i3 / 2 * 2) = 1 then (fn_X5_held (i2 + (x 158 1)) x).bind fun v4 => if v4 ≤ (x 158 4) then (some (i3 + 1)).bind fun v5 => fn_X5_mayChange_31 n a1 v4 v5 x else some i3 else (fn_X5_held (i2 + (x 158 0)) x).bind fun v2 => if v2 ≤ (x 158 4) then (some (i3 + 1)).bind fun v3 => fn_X5_mayChange_31 n a1 v2 v3 x else some i3
def fn_X5_mayChange (a1 : Int32) (x : mm_M) : Option Int32 :=
  (fn_X5_isLanding a1 x).bind fun v1 => if v1 = 0 then some ((-1) : Int32) else (fn_X5_its a1 3 x).bind fun v2 => if v2 = 1 then some (0 : Int32) else (fn_X5_its a1 2 x).bind fun v3 => fn_X5_mayChange_31 101 a1 v3 1 x
abbrev rm_X5_mayChange : Room := { frames := 2, cells := 0, slots := 0, locals := 44 }
theorem df_X5_mayChange : yX5_mayChange.cls = RX5 ∧ yX5_mayChange.cls ≠ "java/lang/invoke/MethodHandle" ∧ yX5_mayChange.cls ≠ "java/lang/invoke/VarHandle" ∧ (parseMethodDescriptor yX5_mayChange.desc).map (fun d => d.parameters.length) = some 1 := by decide +kernel
set_option maxRecDepth 100000 in
set_option maxHeartbeats 4000000 in
theorem lp_X5_mayChange_31 {p : Program} {l : Launch} {e : Env} {s : State} {m : MethodId} {args : Array Value} {below : List Frame} {meth : Method} {c : Code} {G : va_G} {T : Nat → ClassId} {b : Nat} {z : Nat → Nat} (C : mm_C p m c cX5_mayChange 5 s args wsX5_mayChange RX5 G T b z) (a1 : Int32) (hr : meth.sig.returnType = (some .int)) (hlk : meth.locks = false) : ∀ (n : Nat) (i2 : Int32) (i3 : Int32) (x : mm_M) (H : Heap) (locs : List Loc) (ls : Array Slot) (r : Int32), fn_X5_mayChange_31 n a1 i2 i3 x = some r → mm_H G T b x s H locs → lv_has ls 5 [(0, .ref (b + 157)), (1, .int a1), (2, .int i2), (3, .int i3)] → W p l e rm_X5_mayChange s m args below meth c H locs 0 0 (MQ below (mm_Qi G T b r x) args s 0 0 (fun q => b ≤ q)) (F0 m 31 ls []) := by
  have hx := C.1
  have hb := C.2.1
  have w1 := C.2.2.2.2.1 (.fieldLink RX5 7 "LandingFinesModel" "row" "[I") (by decide +kernel)
  have hin5 : ∀ w ∈ wsX50, w ∈ wsX5_mayChange := by decide +kernel
  intro n
  induction n with
  | zero => intro _ _ _ _ _ _ _ h; cases (show (none : Option Int32) = some _ from h)
  | succ n ih =>
    intro i2 i3 x H locs ls r h hH hl
    rw [fn_X5_mayChange_31] at h
    refine lv_iload_n hx hb dX5_mayChange_31 rfl (lv_at hl 3 rfl) ?_
    refine lv_bipush (v := 100) hx hb dX5_mayChange_32 (by decide) ?_
    refine lv_icmp_gt (tgt := 113) hx hb dX5_mayChange_34 (by decide) (fun c1 => ?_) (fun c1 => ?_)
    · have h := mm_pos c1 h
      have hl := lv_sub (l' := []) hl [] rfl
      refine lv_bipush (v := (-6)) hx hb dX5_mayChange_113 (by decide) ?_
      exact mm_iretP C hH hr hlk rfl h dX5_mayChange_115
    · have h := mm_neg c1 h
      refine lv_aload_n hx hb dX5_mayChange_37 rfl (lv_at hl 0 rfl) ?_
      refine lv_iload_n hx hb dX5_mayChange_38 rfl (lv_at hl 1 rfl) ?_
      refine lv_iconst (v := 0) hx hb dX5_mayChange_39 (by decide) ?_
      obtain ⟨v1, e1, h⟩ := mm_bnd h
      refine mm_goi hH (va_runV (As := [.int a1, .int 0]) (rest := []) ⟨hx, hb, C.2.2.1, C.2.2.2.1, C.2.2.2.2.1⟩ (ct_X5_its l G T b z a1 0 x e1) (cwV 2 C.2.2.2.2.1 gX5_mayChange_X5_its rfl rfl rfl df_X5_its ⟨Nat.le_of_ble_eq_true rfl, Nat.le_of_ble_eq_true rfl⟩) ⟨mm_B.blind, mm_recv (q := (RX5, TX5, 14)) C hH kl_157 (mm_e5 kd_157) rfl, mm_pre C hH⟩ rfl rfl hl.1 rfl (lv_room (Nat.le_of_ble_eq_true rfl)) dX5_mayChange_40 ⟨Nat.zero_le _, Nat.zero_le _⟩) (fun H locs hH => ?_)
      refine lv_iconst (v := 1) hx hb dX5_mayChange_43 (by decide) ?_
      refine lv_icmp_ne (tgt := 51) hx hb dX5_mayChange_44 (by decide) (fun c2 => ?_) (fun c2 => ?_)
      · have h := mm_neg c2 h
        refine lv_iconst (v := 0) hx hb dX5_mayChange_51 (by decide) ?_
        refine lv_iload_n hx hb dX5_mayChange_52 rfl (lv_at hl 3 rfl) ?_
        refine lv_iconst (v := 2) hx hb dX5_mayChange_53 (by decide) ?_
        refine lv_irem hx hb dX5_mayChange_54 (by decide) ?_
        refine lv_iconst (v := 1) hx hb dX5_mayChange_55 (by decide) ?_
        refine lv_icmp_ne (tgt := 63) hx hb dX5_mayChange_56 (by decide) (fun c3 => ?_) (fun c3 => ?_)
        · have h := mm_neg c3 h
          refine lv_iconst (v := 0) hx hb dX5_mayChange_63 (by decide) ?_
          refine lv_icmp_ne (tgt := 71) hx hb dX5_mayChange_64 (by decide) (fun c => absurd (by decide) c) (fun _ => ?_)
          refine lv_iconst (v := 1) hx hb dX5_mayChange_67 (by decide) ?_
          refine lv_goto (tgt := 72) hx hb dX5_mayChange_68 (by decide) ?_
          refine lv_istore (lv' := [(4, .int 1), (0, .ref (b + 157)), (1, .int a1), (2, .int i2), (3, .int i3)]) hx hb dX5_mayChange_72 hl (by decide) rfl (fun ls hl => ?_)
          refine lv_iload_n hx hb dX5_mayChange_74 rfl (lv_at hl 3 rfl) ?_
          refine lv_aload_n hx hb dX5_mayChange_75 rfl (lv_at hl 1 rfl) ?_
          refine mm_get (v := .ref (b + 158)) C hH hin5 rfl kl_157 (mm_e5 kd_157) (j := 0) (by decide) rfl w1 rfl dX5_mayChange_76 ?_
          refine lv_iload hx hb dX5_mayChange_79 (lv_at hl 0 rfl) ?_
          refine lv_if_eq (tgt := 88) hx hb dX5_mayChange_81 (by decide) (fun c => absurd c (by decide)) (fun _ => ?_)
          have hl := lv_sub (l' := [(0, .ref (b + 157)), (1, .int a1), (3, .int i3)]) hl [1, 2, 4] rfl
          refine lv_iconst (v := 0) hx hb dX5_mayChange_84 (by decide) ?_
          refine lv_goto (tgt := 89) hx hb dX5_mayChange_85 (by decide) ?_
          refine mm_iald (n := 135) (jn := 0) C hH kd_158 ln_158 (by decide) (by decide) dX5_mayChange_89 ?_
          refine lv_iadd hx hb dX5_mayChange_90 ?_
          obtain ⟨v2, e2, h⟩ := mm_bnd h
          refine mm_goi hH (va_runS (As := [.int (i2 + (x 158 0))]) (rest := []) ⟨hx, hb, C.2.2.1, C.2.2.2.1, C.2.2.2.2.1⟩ (ct_X5_held l G T b z (i2 + (x 158 0)) x e2) (va_cwS 1 C.2.2.2.2.1 gX5_mayChange_X5_held rfl rfl rfl df_X5_held.2 ⟨Nat.le_of_ble_eq_true rfl, Nat.le_of_ble_eq_true rfl⟩) ⟨mm_B.blind, mm_pre C hH⟩ rfl rfl hl.1 rfl (lv_room (Nat.le_of_ble_eq_true rfl)) dX5_mayChange_91 ⟨Nat.zero_le _, Nat.zero_le _⟩) (fun H locs hH => ?_)
          refine lv_istore_n (lv' := [(2, .int v2), (0, .ref (b + 157)), (1, .int a1), (3, .int i3)]) hx hb dX5_mayChange_94 rfl hl (by decide) rfl (fun ls hl => ?_)
          refine lv_iload_n hx hb dX5_mayChange_95 rfl (lv_at hl 0 rfl) ?_
          refine lv_aload_n hx hb dX5_mayChange_96 rfl (lv_at hl 1 rfl) ?_
          refine mm_get (v := .ref (b + 158)) C hH hin5 rfl kl_157 (mm_e5 kd_157) (j := 0) (by decide) rfl w1 rfl dX5_mayChange_97 ?_
          refine lv_iconst (v := 4) hx hb dX5_mayChange_100 (by decide) ?_
          refine mm_iald (n := 135) (jn := 4) C hH kd_158 ln_158 (by decide) (by decide) dX5_mayChange_101 ?_
          refine lv_icmp_le (tgt := 107) hx hb dX5_mayChange_102 (by decide) (fun c4 => ?_) (fun c4 => ?_)
          · have h := mm_pos c4 h
            obtain ⟨v3, e3, h⟩ := mm_bnd h
            refine lv_iinc (v := v3) (lv' := [(3, .int v3), (2, .int v2), (0, .ref (b + 157)), (1, .int a1)]) hx hb dX5_mayChange_107 hl (k := 3) rfl (Option.some.inj e3) (by decide) rfl (fun ls hl => ?_)
            refine lv_goto (tgt := 31) hx hb dX5_mayChange_110 (by decide) ?_
            exact ih v2 v3 x _ _ _ _ h hH (lv_sub hl [2, 3, 1, 0] rfl)
          · have h := mm_neg c4 h
            have hl := lv_sub (l' := [(3, .int i3)]) hl [3] rfl
            refine lv_iload_n hx hb dX5_mayChange_105 rfl (lv_at hl 0 rfl) ?_
            exact mm_iretP C hH hr hlk rfl h dX5_mayChange_106
        · have h := mm_pos c3 h
          refine lv_iconst (v := 1) hx hb dX5_mayChange_59 (by decide) ?_
          refine lv_goto (tgt := 64) hx hb dX5_mayChange_60 (by decide) ?_
          refine lv_icmp_ne (tgt := 71) hx hb dX5_mayChange_64 (by decide) (fun _ => ?_) (fun c => absurd c (by decide))
          refine lv_iconst (v := 0) hx hb dX5_mayChange_71 (by decide) ?_
          refine lv_istore (lv' := [(4, .int 0), (0, .ref (b + 157)), (1, .int a1), (2, .int i2), (3, .int i3)]) hx hb dX5_mayChange_72 hl (by decide) rfl (fun ls hl => ?_)
          refine lv_iload_n hx hb dX5_mayChange_74 rfl (lv_at hl 3 rfl) ?_
          refine lv_aload_n hx hb dX5_mayChange_75 rfl (lv_at hl 1 rfl) ?_
          refine mm_get (v := .ref (b + 158)) C hH hin5 rfl kl_157 (mm_e5 kd_157) (j := 0) (by decide) rfl w1 rfl dX5_mayChange_76 ?_
          refine lv_iload hx hb dX5_mayChange_79 (lv_at hl 0 rfl) ?_
          refine lv_if_eq (tgt := 88) hx hb dX5_mayChange_81 (by decide) (fun _ => ?_) (fun c => absurd (by decide) c)
          have hl := lv_sub (l' := [(0, .ref (b + 157)), (1, .int a1), (3, .int i3)]) hl [1, 2, 4] rfl
          refine lv_iconst (v := 1) hx hb dX5_mayChange_88 (by decide) ?_
          refine mm_iald (n := 135) (jn := 1) C hH kd_158 ln_158 (by decide) (by decide) dX5_mayChange_89 ?_
          refine lv_iadd hx hb dX5_mayChange_90 ?_
          obtain ⟨v4, e4, h⟩ := mm_bnd h
          refine mm_goi hH (va_runS (As := [.int (i2 + (x 158 1))]) (rest := []) ⟨hx, hb, C.2.2.1, C.2.2.2.1, C.2.2.2.2.1⟩ (ct_X5_held l G T b z (i2 + (x 158 1)) x e4) (va_cwS 1 C.2.2.2.2.1 gX5_mayChange_X5_held rfl rfl rfl df_X5_held.2 ⟨Nat.le_of_ble_eq_true rfl, Nat.le_of_ble_eq_true rfl⟩) ⟨mm_B.blind, mm_pre C hH⟩ rfl rfl hl.1 rfl (lv_room (Nat.le_of_ble_eq_true rfl)) dX5_mayChange_91 ⟨Nat.zero_le _, Nat.zero_le _⟩) (fun H locs hH => ?_)
          refine lv_istore_n (lv' := [(2, .int v4), (0, .ref (b + 157)), (1, .int a1), (3, .int i3)]) hx hb dX5_mayChange_94 rfl hl (by decide) rfl (fun ls hl => ?_)
          refine lv_iload_n hx hb dX5_mayChange_95 rfl (lv_at hl 0 rfl) ?_
          refine lv_aload_n hx hb dX5_mayChange_96 rfl (lv_at hl 1 rfl) ?_
          refine mm_get (v := .ref (b + 158)) C hH hin5 rfl kl_157 (mm_e5 kd_157) (j := 0) (by decide) rfl w1 rfl dX5_mayChange_97 ?_
          refine lv_iconst (v := 4) hx hb dX5_mayChange_100 (by decide) ?_
          refine mm_iald (n := 135) (jn := 4) C hH kd_158 ln_158 (by decide) (by decide) dX5_mayChange_101 ?_
          refine lv_icmp_le (tgt := 107) hx hb dX5_mayChange_102 (by decide) (fun c5 => ?_) (fun c5 => ?_)
          · have h := mm_pos c5 h
            obtain ⟨v5, e5, h⟩ := mm_bnd h
            refine lv_iinc (v := v5) (lv' := [(3, .int v5), (2, .int v4), (0, .ref (b + 157)), (1, .int a1)]) hx hb dX5_mayChange_107 hl (k := 3) rfl (Option.some.inj e5) (by decide) rfl (fun ls hl => ?_)
            refine lv_goto (tgt := 31) hx hb dX5_mayChange_110 (by decide) ?_
            exact ih v4 v5 x _ _ _ _ h hH (lv_sub hl [2, 3, 1, 0] rfl)
          · have h := mm_neg c5 h
            have hl := lv_sub (l' := [(3, .int i3)]) hl [3] rfl
            refine lv_iload_n hx hb dX5_mayChange_105 rfl (lv_at hl 0 rfl) ?_
            exact mm_iretP C hH hr hlk rfl h dX5_mayChange_106
      · have h := mm_pos c2 h
        refine lv_iconst (v := 1) hx hb dX5_mayChange_47 (by decide) ?_
        refine lv_goto (tgt := 52) hx hb dX5_mayChange_48 (by decide) ?_
        refine lv_iload_n hx hb dX5_mayChange_52 rfl (lv_at hl 3 rfl) ?_
        refine lv_iconst (v := 2) hx hb dX5_mayChange_53 (by decide) ?_
        refine lv_irem hx hb dX5_mayChange_54 (by decide) ?_
        refine lv_iconst (v := 1) hx hb dX5_mayChange_55 (by decide) ?_
        refine lv_icmp_ne (tgt := 63) hx hb dX5_mayChange_56 (by decide) (fun c6 => ?_) (fun c6 => ?_)
        · have h := mm_neg c6 h
          refine lv_iconst (v := 0) hx hb dX5_mayChange_63 (by decide) ?_
          refine lv_icmp_ne (tgt := 71) hx hb dX5_mayChange_64 (by decide) (fun _ => ?_) (fun c => absurd c (by decide))
          refine lv_iconst (v := 0) hx hb dX5_mayChange_71 (by decide) ?_
          refine lv_istore (lv' := [(4, .int 0), (0, .ref (b + 157)), (1, .int a1), (2, .int i2), (3, .int i3)]) hx hb dX5_mayChange_72 hl (by decide) rfl (fun ls hl => ?_)
          refine lv_iload_n hx hb dX5_mayChange_74 rfl (lv_at hl 3 rfl) ?_
          refine lv_aload_n hx hb dX5_mayChange_75 rfl (lv_at hl 1 rfl) ?_
          refine mm_get (v := .ref (b + 158)) C hH hin5 rfl kl_157 (mm_e5 kd_157) (j := 0) (by decide) rfl w1 rfl dX5_mayChange_76 ?_
          refine lv_iload hx hb dX5_mayChange_79 (lv_at hl 0 rfl) ?_
          refine lv_if_eq (tgt := 88) hx hb dX5_mayChange_81 (by decide) (fun _ => ?_) (fun c => absurd (by decide) c)
          have hl := lv_sub (l' := [(0, .ref (b + 157)), (1, .int a1), (3, .int i3)]) hl [1, 2, 4] rfl
          refine lv_iconst (v := 1) hx hb dX5_mayChange_88 (by decide) ?_
          refine mm_iald (n := 135) (jn := 1) C hH kd_158 ln_158 (by decide) (by decide) dX5_mayChange_89 ?_
          refine lv_iadd hx hb dX5_mayChange_90 ?_
          obtain ⟨v6, e6, h⟩ := mm_bnd h
          refine mm_goi hH (va_runS (As := [.int (i2 + (x 158 1))]) (rest := []) ⟨hx, hb, C.2.2.1, C.2.2.2.1, C.2.2.2.2.1⟩ (ct_X5_held l G T b z (i2 + (x 158 1)) x e6) (va_cwS 1 C.2.2.2.2.1 gX5_mayChange_X5_held rfl rfl rfl df_X5_held.2 ⟨Nat.le_of_ble_eq_true rfl, Nat.le_of_ble_eq_true rfl⟩) ⟨mm_B.blind, mm_pre C hH⟩ rfl rfl hl.1 rfl (lv_room (Nat.le_of_ble_eq_true rfl)) dX5_mayChange_91 ⟨Nat.zero_le _, Nat.zero_le _⟩) (fun H locs hH => ?_)
          refine lv_istore_n (lv' := [(2, .int v6), (0, .ref (b + 157)), (1, .int a1), (3, .int i3)]) hx hb dX5_mayChange_94 rfl hl (by decide) rfl (fun ls hl => ?_)
          refine lv_iload_n hx hb dX5_mayChange_95 rfl (lv_at hl 0 rfl) ?_
          refine lv_aload_n hx hb dX5_mayChange_96 rfl (lv_at hl 1 rfl) ?_
          refine mm_get (v := .ref (b + 158)) C hH hin5 rfl kl_157 (mm_e5 kd_157) (j := 0) (by decide) rfl w1 rfl dX5_mayChange_97 ?_
          refine lv_iconst (v := 4) hx hb dX5_mayChange_100 (by decide) ?_
          refine mm_iald (n := 135) (jn := 4) C hH kd_158 ln_158 (by decide) (by decide) dX5_mayChange_101 ?_
          refine lv_icmp_le (tgt := 107) hx hb dX5_mayChange_102 (by decide) (fun c7 => ?_) (fun c7 => ?_)
          · have h := mm_pos c7 h
            obtain ⟨v7, e7, h⟩ := mm_bnd h
            refine lv_iinc (v := v7) (lv' := [(3, .int v7), (2, .int v6), (0, .ref (b + 157)), (1, .int a1)]) hx hb dX5_mayChange_107 hl (k := 3) rfl (Option.some.inj e7) (by decide) rfl (fun ls hl => ?_)
            refine lv_goto (tgt := 31) hx hb dX5_mayChange_110 (by decide) ?_
            exact ih v6 v7 x _ _ _ _ h hH (lv_sub hl [2, 3, 1, 0] rfl)
          · have h := mm_neg c7 h
            have hl := lv_sub (l' := [(3, .int i3)]) hl [3] rfl
            refine lv_iload_n hx hb dX5_mayChange_105 rfl (lv_at hl 0 rfl) ?_
            exact mm_iretP C hH hr hlk rfl h dX5_mayChange_106
        · have h := mm_pos c6 h
          refine lv_iconst (v := 1) hx hb dX5_mayChange_59 (by decide) ?_
          refine lv_goto (tgt := 64) hx hb dX5_mayChange_60 (by decide) ?_
          refine lv_icmp_ne (tgt := 71) hx hb dX5_mayChange_64 (by decide) (fun c => absurd (by decide) c) (fun _ => ?_)
          refine lv_iconst (v := 1) hx hb dX5_mayChange_67 (by decide) ?_
          refine lv_goto (tgt := 72) hx hb dX5_mayChange_68 (by decide) ?_
          refine lv_istore (lv' := [(4, .int 1), (0, .ref (b + 157)), (1, .int a1), (2, .int i2), (3, .int i3)]) hx hb dX5_mayChange_72 hl (by decide) rfl (fun ls hl => ?_)
          refine lv_iload_n hx hb dX5_mayChange_74 rfl (lv_at hl 3 rfl) ?_
          refine lv_aload_n hx hb dX5_mayChange_75 rfl (lv_at hl 1 rfl) ?_
          refine mm_get (v := .ref (b + 158)) C hH hin5 rfl kl_157 (mm_e5 kd_157) (j := 0) (by decide) rfl w1 rfl dX5_mayChange_76 ?_
          refine lv_iload hx hb dX5_mayChange_79 (lv_at hl 0 rfl) ?_
          refine lv_if_eq (tgt := 88) hx hb dX5_mayChange_81 (by decide) (fun c => absurd c (by decide)) (fun _ => ?_)
          have hl := lv_sub (l' := [(0, .ref (b + 157)), (1, .int a1), (3, .int i3)]) hl [1, 2, 4] rfl
          refine lv_iconst (v := 0) hx hb dX5_mayChange_84 (by decide) ?_
          refine lv_goto (tgt := 89) hx hb dX5_mayChange_85 (by decide) ?_
          refine mm_iald (n := 135) (jn := 0) C hH kd_158 ln_158 (by decide) (by decide) dX5_mayChange_89 ?_
          refine lv_iadd hx hb dX5_mayChange_90 ?_
          obtain ⟨v8, e8, h⟩ := mm_bnd h
          refine mm_goi hH (va_runS (As := [.int (i2 + (x 158 0))]) (rest := []) ⟨hx, hb, C.2.2.1, C.2.2.2.1, C.2.2.2.2.1⟩ (ct_X5_held l G T b z (i2 + (x 158 0)) x e8) (va_cwS 1 C.2.2.2.2.1 gX5_mayChange_X5_held rfl rfl rfl df_X5_held.2 ⟨Nat.le_of_ble_eq_true rfl, Nat.le_of_ble_eq_true rfl⟩) ⟨mm_B.blind, mm_pre C hH⟩ rfl rfl hl.1 rfl (lv_room (Nat.le_of_ble_eq_true rfl)) dX5_mayChange_91 ⟨Nat.zero_le _, Nat.zero_le _⟩) (fun H locs hH => ?_)
          refine lv_istore_n (lv' := [(2, .int v8), (0, .ref (b + 157)), (1, .int a1), (3, .int i3)]) hx hb dX5_mayChange_94 rfl hl (by decide) rfl (fun ls hl => ?_)
          refine lv_iload_n hx hb dX5_mayChange_95 rfl (lv_at hl 0 rfl) ?_
          refine lv_aload_n hx hb dX5_mayChange_96 rfl (lv_at hl 1 rfl) ?_
          refine mm_get (v := .ref (b + 158)) C hH hin5 rfl kl_157 (mm_e5 kd_157) (j := 0) (by decide) rfl w1 rfl dX5_mayChange_97 ?_
          refine lv_iconst (v := 4) hx hb dX5_mayChange_100 (by decide) ?_
          refine mm_iald (n := 135) (jn := 4) C hH kd_158 ln_158 (by decide) (by decide) dX5_mayChange_101 ?_
          refine lv_icmp_le (tgt := 107) hx hb dX5_mayChange_102 (by decide) (fun c8 => ?_) (fun c8 => ?_)
          · have h := mm_pos c8 h
            obtain ⟨v9, e9, h⟩ := mm_bnd h
            refine lv_iinc (v := v9) (lv' := [(3, .int v9), (2, .int v8), (0, .ref (b + 157)), (1, .int a1)]) hx hb dX5_mayChange_107 hl (k := 3) rfl (Option.some.inj e9) (by decide) rfl (fun ls hl => ?_)
            refine lv_goto (tgt := 31) hx hb dX5_mayChange_110 (by decide) ?_
            exact ih v8 v9 x _ _ _ _ h hH (lv_sub hl [2, 3, 1, 0] rfl)
          · have h := mm_neg c8 h
            have hl := lv_sub (l' := [(3, .int i3)]) hl [3] rfl
            refine lv_iload_n hx hb dX5_mayChange_105 rfl (lv_at hl 0 rfl) ?_
            exact mm_iretP C hH hr hlk rfl h dX5_mayChange_106
set_option maxRecDepth 100000 in
set_option maxHeartbeats 4000000 in
theorem ct_X5_mayChange (l : Launch) (G : va_G) (T : Nat → ClassId) (b : Nat) (z : Nat → Nat) (a1 : Int32) (x : mm_M) {r : Int32} (h : fn_X5_mayChange a1 x = some r) : mm_Ci l yX5_mayChange wsX5_mayChange rm_X5_mayChange G T b z [.ref (b + 157), .int a1] x r x := by
  unfold fn_X5_mayChange at h
  refine mm_start (cc := cX5_mayChange) (maxL := 5) (ret := (some .int)) (by decide) rfl (Nat.le_of_ble_eq_true rfl) (fun p e s m below meth c ls C hr hlk hH hl => ?_)
  have hl : lv_has ls 5 [(0, .ref (b + 157)), (1, .int a1)] := hl
  have hx := C.1
  have hb := C.2.1
  refine lv_aload_n hx hb dX5_mayChange_0 rfl (lv_at hl 0 rfl) ?_
  refine lv_iload_n hx hb dX5_mayChange_1 rfl (lv_at hl 1 rfl) ?_
  obtain ⟨v1, e1, h⟩ := mm_bnd h
  refine mm_goi hH (va_runV (As := [.int a1]) (rest := []) ⟨hx, hb, C.2.2.1, C.2.2.2.1, C.2.2.2.2.1⟩ (ct_X5_isLanding l G T b z a1 x e1) (cwV 1 C.2.2.2.2.1 gX5_mayChange_X5_isLanding rfl rfl rfl df_X5_isLanding ⟨Nat.le_of_ble_eq_true rfl, Nat.le_of_ble_eq_true rfl⟩) ⟨mm_B.blind, mm_recv (q := (RX5, TX5, 14)) C hH kl_157 (mm_e5 kd_157) rfl, mm_pre C hH⟩ rfl rfl hl.1 rfl (lv_room (Nat.le_of_ble_eq_true rfl)) dX5_mayChange_2 ⟨Nat.zero_le _, Nat.zero_le _⟩) (fun H locs hH => ?_)
  refine lv_if_ne (tgt := 10) hx hb dX5_mayChange_5 (by decide) (fun c1 => ?_) (fun c1 => ?_)
  · have h := mm_neg c1 h
    refine lv_aload_n hx hb dX5_mayChange_10 rfl (lv_at hl 0 rfl) ?_
    refine lv_iload_n hx hb dX5_mayChange_11 rfl (lv_at hl 1 rfl) ?_
    refine lv_iconst (v := 3) hx hb dX5_mayChange_12 (by decide) ?_
    obtain ⟨v2, e2, h⟩ := mm_bnd h
    refine mm_goi hH (va_runV (As := [.int a1, .int 3]) (rest := []) ⟨hx, hb, C.2.2.1, C.2.2.2.1, C.2.2.2.2.1⟩ (ct_X5_its l G T b z a1 3 x e2) (cwV 2 C.2.2.2.2.1 gX5_mayChange_X5_its rfl rfl rfl df_X5_its ⟨Nat.le_of_ble_eq_true rfl, Nat.le_of_ble_eq_true rfl⟩) ⟨mm_B.blind, mm_recv (q := (RX5, TX5, 14)) C hH kl_157 (mm_e5 kd_157) rfl, mm_pre C hH⟩ rfl rfl hl.1 rfl (lv_room (Nat.le_of_ble_eq_true rfl)) dX5_mayChange_13 ⟨Nat.zero_le _, Nat.zero_le _⟩) (fun H locs hH => ?_)
    refine lv_iconst (v := 1) hx hb dX5_mayChange_16 (by decide) ?_
    refine lv_icmp_ne (tgt := 22) hx hb dX5_mayChange_17 (by decide) (fun c2 => ?_) (fun c2 => ?_)
    · have h := mm_neg c2 h
      refine lv_aload_n hx hb dX5_mayChange_22 rfl (lv_at hl 0 rfl) ?_
      refine lv_iload_n hx hb dX5_mayChange_23 rfl (lv_at hl 1 rfl) ?_
      refine lv_iconst (v := 2) hx hb dX5_mayChange_24 (by decide) ?_
      obtain ⟨v3, e3, h⟩ := mm_bnd h
      refine mm_goi hH (va_runV (As := [.int a1, .int 2]) (rest := []) ⟨hx, hb, C.2.2.1, C.2.2.2.1, C.2.2.2.2.1⟩ (ct_X5_its l G T b z a1 2 x e3) (cwV 2 C.2.2.2.2.1 gX5_mayChange_X5_its rfl rfl rfl df_X5_its ⟨Nat.le_of_ble_eq_true rfl, Nat.le_of_ble_eq_true rfl⟩) ⟨mm_B.blind, mm_recv (q := (RX5, TX5, 14)) C hH kl_157 (mm_e5 kd_157) rfl, mm_pre C hH⟩ rfl rfl hl.1 rfl (lv_room (Nat.le_of_ble_eq_true rfl)) dX5_mayChange_25 ⟨Nat.zero_le _, Nat.zero_le _⟩) (fun H locs hH => ?_)
      refine lv_istore_n (lv' := [(2, .int v3), (0, .ref (b + 157)), (1, .int a1)]) hx hb dX5_mayChange_28 rfl hl (by decide) rfl (fun ls hl => ?_)
      refine lv_iconst (v := 1) hx hb dX5_mayChange_29 (by decide) ?_
      refine lv_istore_n (lv' := [(3, .int 1), (2, .int v3), (0, .ref (b + 157)), (1, .int a1)]) hx hb dX5_mayChange_30 rfl hl (by decide) rfl (fun ls hl => ?_)
      exact lp_X5_mayChange_31 C a1  hr hlk 101 v3 1 x _ _ _ _ h hH (lv_sub hl [2, 3, 1, 0] rfl)
    · have h := mm_pos c2 h
      have hl := lv_sub (l' := []) hl [] rfl
      refine lv_iconst (v := 0) hx hb dX5_mayChange_20 (by decide) ?_
      exact mm_iretP C hH hr hlk rfl h dX5_mayChange_21
  · have h := mm_pos c1 h
    have hl := lv_sub (l' := []) hl [] rfl
    refine lv_iconst (v := (-1)) hx hb dX5_mayChange_8 (by decide) ?_
    exact mm_iretP C hH hr hlk rfl h dX5_mayChange_9
def fn_X5_fineIn_32 : Nat → Int32 → Int32 → mm_M → Option mm_M
  | 0, _, _, _ => none
  | n + 1, a2, i3, x => if a2 ≤ i3 then some (x) else mm_b2 (fn_X5_passes x) fun x1 v1 => (some (i3 + 1)).bind fun v2 => fn_X5_fineIn_32 n a2 v2 x1
def fn_X5_fineIn (a1 : Int32) (a2 : Int32) (x : mm_M) : Option (mm_M × Int32) :=
  (fn_X5_isLanding a1 x).bind fun v1 => if v1 = 0 then some (x, (-1)) else (fn_X5_in (Int32.toInt64 a2) 0 999 x).bind fun v2 => if v2 = 0 then some (x, (-2)) else (fn_X5_tries a1 x).bind fun x1 => (fn_X5_fineIn_32 1000 a2 0 x1).bind fun x2 => some (x2, (x2 157 10))
abbrev rm_X5_fineIn : Room := { frames := 2, cells := 0, slots := 0, locals := 44 }
theorem df_X5_fineIn : yX5_fineIn.cls = RX5 ∧ yX5_fineIn.cls ≠ "java/lang/invoke/MethodHandle" ∧ yX5_fineIn.cls ≠ "java/lang/invoke/VarHandle" ∧ (parseMethodDescriptor yX5_fineIn.desc).map (fun d => d.parameters.length) = some 2 := by decide +kernel
set_option maxRecDepth 100000 in
set_option maxHeartbeats 4000000 in
theorem lp_X5_fineIn_32 {p : Program} {l : Launch} {e : Env} {s : State} {m : MethodId} {args : Array Value} {below : List Frame} {meth : Method} {c : Code} {Q : State → Prop} {G : va_G} {T : Nat → ClassId} {b : Nat} {z : Nat → Nat} (C : mm_C p m c cX5_fineIn 5 s args wsX5_fineIn RX5 G T b z) (a2 : Int32) : ∀ (n : Nat) (i3 : Int32) (x : mm_M) (H : Heap) (locs : List Loc) (ls : Array Slot) (x1 : mm_M), fn_X5_fineIn_32 n a2 i3 x = some (x1) → mm_H G T b x s H locs → lv_has ls 5 [(0, .ref (b + 157)), (2, .int a2), (3, .int i3)] → (∀ (H1 : Heap) (locs1 : List Loc) (ls1 : Array Slot), mm_H G T b x1 s H1 locs1 → lv_has ls1 5 [(0, .ref (b + 157))] → W p l e rm_X5_fineIn s m args below meth c H1 locs1 0 0 Q (F0 m 49 ls1 [])) → W p l e rm_X5_fineIn s m args below meth c H locs 0 0 Q (F0 m 32 ls []) := by
  have hx := C.1
  have hb := C.2.1
  intro n
  induction n with
  | zero => intro _ _ _ _ _ _ h; cases (show (none : Option mm_M) = some _ from h)
  | succ n ih =>
    intro i3 x H locs ls x1 h hH hl kk
    rw [fn_X5_fineIn_32] at h
    refine lv_iload_n hx hb dX5_fineIn_32 rfl (lv_at hl 2 rfl) ?_
    refine lv_iload_n hx hb dX5_fineIn_33 rfl (lv_at hl 1 rfl) ?_
    refine lv_icmp_ge (tgt := 49) hx hb dX5_fineIn_34 (by decide) (fun c1 => ?_) (fun c1 => ?_)
    · have h := mm_pos c1 h
      have hl := lv_sub (l' := [(0, .ref (b + 157))]) hl [0] rfl
      cases h
      exact kk _ _ _ hH (lv_sub hl [0] rfl)
    · have h := mm_neg c1 h
      refine lv_aload_n hx hb dX5_fineIn_37 rfl (lv_at hl 0 rfl) ?_
      obtain ⟨x1, v1, e1, h⟩ := mm_bnd2 h
      refine mm_goi hH (va_runV (As := []) (rest := []) ⟨hx, hb, C.2.2.1, C.2.2.2.1, C.2.2.2.2.1⟩ (ct_X5_passes l G T b z x e1) (cwV 0 C.2.2.2.2.1 gX5_fineIn_X5_passes rfl rfl rfl df_X5_passes ⟨Nat.le_of_ble_eq_true rfl, Nat.le_of_ble_eq_true rfl⟩) ⟨mm_B.blind, mm_recv (q := (RX5, TX5, 14)) C hH kl_157 (mm_e5 kd_157) rfl, mm_pre C hH⟩ rfl rfl hl.1 rfl (lv_room (Nat.le_of_ble_eq_true rfl)) dX5_fineIn_38 ⟨Nat.zero_le _, Nat.zero_le _⟩) (fun H locs hH => ?_)
      refine lv_istore (lv' := [(4, .int v1), (0, .ref (b + 157)), (2, .int a2), (3, .int i3)]) hx hb dX5_fineIn_41 hl (by decide) rfl (fun ls hl => ?_)
      have hl := lv_sub (l' := [(0, .ref (b + 157)), (2, .int a2), (3, .int i3)]) hl [1, 2, 3] rfl
      obtain ⟨v2, e2, h⟩ := mm_bnd h
      refine lv_iinc (v := v2) (lv' := [(3, .int v2), (0, .ref (b + 157)), (2, .int a2)]) hx hb dX5_fineIn_43 hl (k := 2) rfl (Option.some.inj e2) (by decide) rfl (fun ls hl => ?_)
      refine lv_goto (tgt := 32) hx hb dX5_fineIn_46 (by decide) ?_
      exact ih v2 x1 _ _ _ _ h hH (lv_sub hl [1, 2, 0] rfl) kk
set_option maxRecDepth 100000 in
set_option maxHeartbeats 4000000 in
theorem ct_X5_fineIn (l : Launch) (G : va_G) (T : Nat → ClassId) (b : Nat) (z : Nat → Nat) (a1 : Int32) (a2 : Int32) (x : mm_M) {x1 : mm_M} {r : Int32} (h : fn_X5_fineIn a1 a2 x = some (x1, r)) : mm_Ci l yX5_fineIn wsX5_fineIn rm_X5_fineIn G T b z [.ref (b + 157), .int a1, .int a2] x r x1 := by
  unfold fn_X5_fineIn at h
  refine mm_start (cc := cX5_fineIn) (maxL := 5) (ret := (some .int)) (by decide) rfl (Nat.le_of_ble_eq_true rfl) (fun p e s m below meth c ls C hr hlk hH hl => ?_)
  have hl : lv_has ls 5 [(0, .ref (b + 157)), (1, .int a1), (2, .int a2)] := hl
  have hx := C.1
  have hb := C.2.1
  have w1 := C.2.2.2.2.1 (.fieldLink RX5 70 "LandingFinesModel" "fine" "I") (by decide +kernel)
  have hin5 : ∀ w ∈ wsX50, w ∈ wsX5_fineIn := by decide +kernel
  refine lv_aload_n hx hb dX5_fineIn_0 rfl (lv_at hl 0 rfl) ?_
  refine lv_iload_n hx hb dX5_fineIn_1 rfl (lv_at hl 1 rfl) ?_
  obtain ⟨v1, e1, h⟩ := mm_bnd h
  refine mm_goi hH (va_runV (As := [.int a1]) (rest := []) ⟨hx, hb, C.2.2.1, C.2.2.2.1, C.2.2.2.2.1⟩ (ct_X5_isLanding l G T b z a1 x e1) (cwV 1 C.2.2.2.2.1 gX5_fineIn_X5_isLanding rfl rfl rfl df_X5_isLanding ⟨Nat.le_of_ble_eq_true rfl, Nat.le_of_ble_eq_true rfl⟩) ⟨mm_B.blind, mm_recv (q := (RX5, TX5, 14)) C hH kl_157 (mm_e5 kd_157) rfl, mm_pre C hH⟩ rfl rfl hl.1 rfl (lv_room (Nat.le_of_ble_eq_true rfl)) dX5_fineIn_2 ⟨Nat.zero_le _, Nat.zero_le _⟩) (fun H locs hH => ?_)
  refine lv_if_ne (tgt := 10) hx hb dX5_fineIn_5 (by decide) (fun c1 => ?_) (fun c1 => ?_)
  · have h := mm_neg c1 h
    refine lv_iload_n hx hb dX5_fineIn_10 rfl (lv_at hl 2 rfl) ?_
    refine lv_i2l (v := (Int32.toInt64 a2)) hx hb dX5_fineIn_11 rfl ?_
    refine lv_iconst (v := 0) hx hb dX5_fineIn_12 (by decide) ?_
    refine lv_sipush (v := 999) hx hb dX5_fineIn_13 (by decide) ?_
    obtain ⟨v2, e2, h⟩ := mm_bnd h
    refine mm_goi hH (va_runS (As := [.long (Int32.toInt64 a2), .int 0, .int 999]) (rest := []) ⟨hx, hb, C.2.2.1, C.2.2.2.1, C.2.2.2.2.1⟩ (ct_X5_in l G T b z (Int32.toInt64 a2) 0 999 x e2) (va_cwS 3 C.2.2.2.2.1 gX5_fineIn_X5_in rfl rfl rfl df_X5_in.2 ⟨Nat.le_of_ble_eq_true rfl, Nat.le_of_ble_eq_true rfl⟩) ⟨mm_B.blind, mm_pre C hH⟩ rfl rfl hl.1 rfl (lv_room (Nat.le_of_ble_eq_true rfl)) dX5_fineIn_16 ⟨Nat.zero_le _, Nat.zero_le _⟩) (fun H locs hH => ?_)
    refine lv_if_ne (tgt := 25) hx hb dX5_fineIn_19 (by decide) (fun c2 => ?_) (fun c2 => ?_)
    · have h := mm_neg c2 h
      refine lv_aload_n hx hb dX5_fineIn_25 rfl (lv_at hl 0 rfl) ?_
      refine lv_iload_n hx hb dX5_fineIn_26 rfl (lv_at hl 1 rfl) ?_
      obtain ⟨x1, e3, h⟩ := mm_bnd h
      refine mm_gov hH (va_runV (As := [.int a1]) (rest := []) ⟨hx, hb, C.2.2.1, C.2.2.2.1, C.2.2.2.2.1⟩ (ct_X5_tries l G T b z a1 x e3) (cwV 1 C.2.2.2.2.1 gX5_fineIn_X5_tries rfl rfl rfl df_X5_tries ⟨Nat.le_of_ble_eq_true rfl, Nat.le_of_ble_eq_true rfl⟩) ⟨mm_B.blind, mm_recv (q := (RX5, TX5, 14)) C hH kl_157 (mm_e5 kd_157) rfl, mm_pre C hH⟩ rfl rfl hl.1 rfl (lv_room (Nat.le_of_ble_eq_true rfl)) dX5_fineIn_27 ⟨Nat.zero_le _, Nat.zero_le _⟩) (fun H locs hH => ?_)
      refine lv_iconst (v := 0) hx hb dX5_fineIn_30 (by decide) ?_
      refine lv_istore_n (lv' := [(3, .int 0), (0, .ref (b + 157)), (1, .int a1), (2, .int a2)]) hx hb dX5_fineIn_31 rfl hl (by decide) rfl (fun ls hl => ?_)
      have hl := lv_sub (l' := [(3, .int 0), (0, .ref (b + 157)), (2, .int a2)]) hl [0, 1, 3] rfl
      obtain ⟨x2, e4, h⟩ := mm_bnd h
      refine lp_X5_fineIn_32 C a2 1000 0 x1 _ _ _ _ e4 hH (lv_sub hl [1, 2, 0] rfl) (fun H locs ls hH hl => ?_)
      refine lv_aload_n hx hb dX5_fineIn_49 rfl (lv_at hl 0 rfl) ?_
      refine mm_get (v := .int (x2 157 10)) C hH hin5 rfl kl_157 (mm_e5 kd_157) (j := 10) (by decide) rfl w1 rfl dX5_fineIn_50 ?_
      exact mm_iret C hH hr hlk rfl h dX5_fineIn_53
    · have h := mm_pos c2 h
      have hl := lv_sub (l' := []) hl [] rfl
      refine lv_bipush (v := (-2)) hx hb dX5_fineIn_22 (by decide) ?_
      exact mm_iret C hH hr hlk rfl h dX5_fineIn_24
  · have h := mm_pos c1 h
    have hl := lv_sub (l' := []) hl [] rfl
    refine lv_iconst (v := (-1)) hx hb dX5_fineIn_8 (by decide) ?_
    exact mm_iret C hH hr hlk rfl h dX5_fineIn_9
def fn_X5_isSteady_68 : Nat → Int32 → Int32 → Int32 → mm_M → Option mm_M
  | 0, _, _, _, _ => none
  | n + 1, a1, a2, i3, x => if a1 ≤ i3 then some (x) else mm_b2 (fn_X5_passes x) fun x1 v1 => (some (i3 + 1)).bind fun v2 => fn_X5_isSteady_68 n a1 a2 v2 x1
def fn_X5_isSteady_17 : Nat → Int32 → Int32 → mm_M → Option (mm_M × Int32)
  | 0, _, _, _ => none
  | n + 1, a1, i2, x => if (80 : Int32) ≤ i2 then some (x, 1) else if (i2 - i2 / 2 * 2) = 0 then (fn_X5_held ((x 157 10) + (x 158 0)) x).bind fun v3 => (some (mm_up x 157 10 v3)).bind fun x3 => if (x3 157 10) ≤ (x3 158 4) then (fn_X5_isSteady_68 201 a1 i2 0 x3).bind fun x4 => (some (i2 + 1)).bind fun v4 => fn_X5_isSteady_17 n a1 v4 x4 else some (x3, 0) else (fn_X5_held ((x 157 10) + (x 158 1)) x).bind fun v1 => (some (mm_up x 157 10 v1)).bind fun x1 => if (x1 157 10) ≤ (x1 158 4) then (fn_X5_isSteady_68 201 a1 i2 0 x1).bind fun x2 => (some (i2 + 1)).bind fun v2 => fn_X5_isSteady_17 n a1 v2 x2 else some (x1, 0)
def fn_X5_isSteady (a1 : Int32) (x : mm_M) : Option (mm_M × Int32) :=
  (some (mm_up x 157 10 0)).bind fun x1 => (some (mm_up x1 157 11 0)).bind fun x2 => (some (mm_up x2 157 12 0)).bind fun x3 => fn_X5_isSteady_17 81 a1 0 x3
abbrev rm_X5_isSteady : Room := { frames := 1, cells := 0, slots := 0, locals := 21 }
theorem df_X5_isSteady : yX5_isSteady.cls = RX5 ∧ yX5_isSteady.cls ≠ "java/lang/invoke/MethodHandle" ∧ yX5_isSteady.cls ≠ "java/lang/invoke/VarHandle" ∧ (parseMethodDescriptor yX5_isSteady.desc).map (fun d => d.parameters.length) = some 1 := by decide +kernel
set_option maxRecDepth 100000 in
set_option maxHeartbeats 4000000 in
theorem lp_X5_isSteady_68 {p : Program} {l : Launch} {e : Env} {s : State} {m : MethodId} {args : Array Value} {below : List Frame} {meth : Method} {c : Code} {Q : State → Prop} {G : va_G} {T : Nat → ClassId} {b : Nat} {z : Nat → Nat} (C : mm_C p m c cX5_isSteady 5 s args wsX5_isSteady RX5 G T b z) (a1 : Int32) (a2 : Int32) : ∀ (n : Nat) (i3 : Int32) (x : mm_M) (H : Heap) (locs : List Loc) (ls : Array Slot) (x1 : mm_M), fn_X5_isSteady_68 n a1 a2 i3 x = some (x1) → mm_H G T b x s H locs → lv_has ls 5 [(0, .ref (b + 157)), (1, .int a1), (2, .int a2), (3, .int i3)] → (∀ (H1 : Heap) (locs1 : List Loc) (ls1 : Array Slot), mm_H G T b x1 s H1 locs1 → lv_has ls1 5 [(0, .ref (b + 157)), (1, .int a1), (2, .int a2)] → W p l e rm_X5_isSteady s m args below meth c H1 locs1 0 0 Q (F0 m 85 ls1 [])) → W p l e rm_X5_isSteady s m args below meth c H locs 0 0 Q (F0 m 68 ls []) := by
  have hx := C.1
  have hb := C.2.1
  intro n
  induction n with
  | zero => intro _ _ _ _ _ _ h; cases (show (none : Option mm_M) = some _ from h)
  | succ n ih =>
    intro i3 x H locs ls x1 h hH hl kk
    rw [fn_X5_isSteady_68] at h
    refine lv_iload_n hx hb dX5_isSteady_68 rfl (lv_at hl 3 rfl) ?_
    refine lv_iload_n hx hb dX5_isSteady_69 rfl (lv_at hl 1 rfl) ?_
    refine lv_icmp_ge (tgt := 85) hx hb dX5_isSteady_70 (by decide) (fun c1 => ?_) (fun c1 => ?_)
    · have h := mm_pos c1 h
      have hl := lv_sub (l' := [(0, .ref (b + 157)), (1, .int a1), (2, .int a2)]) hl [0, 1, 2] rfl
      cases h
      exact kk _ _ _ hH (lv_sub hl [0, 1, 2] rfl)
    · have h := mm_neg c1 h
      refine lv_aload_n hx hb dX5_isSteady_73 rfl (lv_at hl 0 rfl) ?_
      obtain ⟨x1, v1, e1, h⟩ := mm_bnd2 h
      refine mm_goi hH (va_runV (As := []) (rest := []) ⟨hx, hb, C.2.2.1, C.2.2.2.1, C.2.2.2.2.1⟩ (ct_X5_passes l G T b z x e1) (cwV 0 C.2.2.2.2.1 gX5_isSteady_X5_passes rfl rfl rfl df_X5_passes ⟨Nat.le_of_ble_eq_true rfl, Nat.le_of_ble_eq_true rfl⟩) ⟨mm_B.blind, mm_recv (q := (RX5, TX5, 14)) C hH kl_157 (mm_e5 kd_157) rfl, mm_pre C hH⟩ rfl rfl hl.1 rfl (lv_room (Nat.le_of_ble_eq_true rfl)) dX5_isSteady_74 ⟨Nat.zero_le _, Nat.zero_le _⟩) (fun H locs hH => ?_)
      refine lv_istore (lv' := [(4, .int v1), (0, .ref (b + 157)), (1, .int a1), (2, .int a2), (3, .int i3)]) hx hb dX5_isSteady_77 hl (by decide) rfl (fun ls hl => ?_)
      have hl := lv_sub (l' := [(0, .ref (b + 157)), (1, .int a1), (2, .int a2), (3, .int i3)]) hl [1, 2, 3, 4] rfl
      obtain ⟨v2, e2, h⟩ := mm_bnd h
      refine lv_iinc (v := v2) (lv' := [(3, .int v2), (0, .ref (b + 157)), (1, .int a1), (2, .int a2)]) hx hb dX5_isSteady_79 hl (k := 3) rfl (Option.some.inj e2) (by decide) rfl (fun ls hl => ?_)
      refine lv_goto (tgt := 68) hx hb dX5_isSteady_82 (by decide) ?_
      exact ih v2 x1 _ _ _ _ h hH (lv_sub hl [1, 2, 3, 0] rfl) kk
set_option maxRecDepth 100000 in
set_option maxHeartbeats 4000000 in
theorem lp_X5_isSteady_17 {p : Program} {l : Launch} {e : Env} {s : State} {m : MethodId} {args : Array Value} {below : List Frame} {meth : Method} {c : Code} {G : va_G} {T : Nat → ClassId} {b : Nat} {z : Nat → Nat} (C : mm_C p m c cX5_isSteady 5 s args wsX5_isSteady RX5 G T b z) (a1 : Int32) (hr : meth.sig.returnType = (some .boolean)) (hlk : meth.locks = false) : ∀ (n : Nat) (i2 : Int32) (x : mm_M) (H : Heap) (locs : List Loc) (ls : Array Slot) (x1 : mm_M) (r : Int32), fn_X5_isSteady_17 n a1 i2 x = some (x1, r) → mm_H G T b x s H locs → lv_has ls 5 [(0, .ref (b + 157)), (1, .int a1), (2, .int i2)] → W p l e rm_X5_isSteady s m args below meth c H locs 0 0 (MQ below (mm_Qi G T b r x1) args s 0 0 (fun q => b ≤ q)) (F0 m 17 ls []) := by
  have hx := C.1
  have hb := C.2.1
  have w1 := C.2.2.2.2.1 (.fieldLink RX5 70 "LandingFinesModel" "fine" "I") (by decide +kernel)
  have w2 := C.2.2.2.2.1 (.fieldLink RX5 7 "LandingFinesModel" "row" "[I") (by decide +kernel)
  have hin5 : ∀ w ∈ wsX50, w ∈ wsX5_isSteady := by decide +kernel
  intro n
  induction n with
  | zero => intro _ _ _ _ _ _ _ h; cases (show (none : Option (mm_M × Int32)) = some _ from h)
  | succ n ih =>
    intro i2 x H locs ls x1 r h hH hl
    rw [fn_X5_isSteady_17] at h
    refine lv_iload_n hx hb dX5_isSteady_17 rfl (lv_at hl 2 rfl) ?_
    refine lv_bipush (v := 80) hx hb dX5_isSteady_18 (by decide) ?_
    refine lv_icmp_ge (tgt := 91) hx hb dX5_isSteady_20 (by decide) (fun c1 => ?_) (fun c1 => ?_)
    · have h := mm_pos c1 h
      have hl := lv_sub (l' := []) hl [] rfl
      refine lv_iconst (v := 1) hx hb dX5_isSteady_91 (by decide) ?_
      exact mm_iret C hH hr hlk rfl h dX5_isSteady_92
    · have h := mm_neg c1 h
      refine lv_aload_n hx hb dX5_isSteady_23 rfl (lv_at hl 0 rfl) ?_
      refine lv_aload_n hx hb dX5_isSteady_24 rfl (lv_at hl 0 rfl) ?_
      refine mm_get (v := .int (x 157 10)) C hH hin5 rfl kl_157 (mm_e5 kd_157) (j := 10) (by decide) rfl w1 rfl dX5_isSteady_25 ?_
      refine lv_aload_n hx hb dX5_isSteady_28 rfl (lv_at hl 0 rfl) ?_
      refine mm_get (v := .ref (b + 158)) C hH hin5 rfl kl_157 (mm_e5 kd_157) (j := 0) (by decide) rfl w2 rfl dX5_isSteady_29 ?_
      refine lv_iload_n hx hb dX5_isSteady_32 rfl (lv_at hl 2 rfl) ?_
      refine lv_iconst (v := 2) hx hb dX5_isSteady_33 (by decide) ?_
      refine lv_irem hx hb dX5_isSteady_34 (by decide) ?_
      refine lv_if_ne (tgt := 42) hx hb dX5_isSteady_35 (by decide) (fun c2 => ?_) (fun c2 => ?_)
      · have h := mm_neg c2 h
        refine lv_iconst (v := 1) hx hb dX5_isSteady_42 (by decide) ?_
        refine mm_iald (n := 135) (jn := 1) C hH kd_158 ln_158 (by decide) (by decide) dX5_isSteady_43 ?_
        refine lv_iadd hx hb dX5_isSteady_44 ?_
        obtain ⟨v1, e1, h⟩ := mm_bnd h
        refine mm_goi hH (va_runS (As := [.int ((x 157 10) + (x 158 1))]) (rest := [.ref (b + 157)]) ⟨hx, hb, C.2.2.1, C.2.2.2.1, C.2.2.2.2.1⟩ (ct_X5_held l G T b z ((x 157 10) + (x 158 1)) x e1) (va_cwS 1 C.2.2.2.2.1 gX5_isSteady_X5_held rfl rfl rfl df_X5_held.2 ⟨Nat.le_of_ble_eq_true rfl, Nat.le_of_ble_eq_true rfl⟩) ⟨mm_B.blind, mm_pre C hH⟩ rfl rfl hl.1 rfl (lv_room (Nat.le_of_ble_eq_true rfl)) dX5_isSteady_45 ⟨Nat.zero_le _, Nat.zero_le _⟩) (fun H locs hH => ?_)
        obtain ⟨x1, e2, h⟩ := mm_bnd h
        refine mm_put (ty := .int) C hH hin5 tyX5_ok nmX5 rfl kl_157 (mm_e5 kd_157) (j := 10) (by decide) rfl w1 pd_I rfl rfl (Nat.le_of_ble_eq_true rfl) (sp_5_10 kd_157) (Option.some.inj e2) dX5_isSteady_48 (fun H locs hH => ?_)
        refine lv_aload_n hx hb dX5_isSteady_51 rfl (lv_at hl 0 rfl) ?_
        refine mm_get (v := .int (x1 157 10)) C hH hin5 rfl kl_157 (mm_e5 kd_157) (j := 10) (by decide) rfl w1 rfl dX5_isSteady_52 ?_
        refine lv_aload_n hx hb dX5_isSteady_55 rfl (lv_at hl 0 rfl) ?_
        refine mm_get (v := .ref (b + 158)) C hH hin5 rfl kl_157 (mm_e5 kd_157) (j := 0) (by decide) rfl w2 rfl dX5_isSteady_56 ?_
        refine lv_iconst (v := 4) hx hb dX5_isSteady_59 (by decide) ?_
        refine mm_iald (n := 135) (jn := 4) C hH kd_158 ln_158 (by decide) (by decide) dX5_isSteady_60 ?_
        refine lv_icmp_le (tgt := 66) hx hb dX5_isSteady_61 (by decide) (fun c3 => ?_) (fun c3 => ?_)
        · have h := mm_pos c3 h
          refine lv_iconst (v := 0) hx hb dX5_isSteady_66 (by decide) ?_
          refine lv_istore_n (lv' := [(3, .int 0), (0, .ref (b + 157)), (1, .int a1), (2, .int i2)]) hx hb dX5_isSteady_67 rfl hl (by decide) rfl (fun ls hl => ?_)
          obtain ⟨x2, e3, h⟩ := mm_bnd h
          refine lp_X5_isSteady_68 C a1 i2 201 0 x1 _ _ _ _ e3 hH (lv_sub hl [1, 2, 3, 0] rfl) (fun H locs ls hH hl => ?_)
          obtain ⟨v2, e4, h⟩ := mm_bnd h
          refine lv_iinc (v := v2) (lv' := [(2, .int v2), (0, .ref (b + 157)), (1, .int a1)]) hx hb dX5_isSteady_85 hl (k := 2) rfl (Option.some.inj e4) (by decide) rfl (fun ls hl => ?_)
          refine lv_goto (tgt := 17) hx hb dX5_isSteady_88 (by decide) ?_
          exact ih v2 x2 _ _ _ _ _ h hH (lv_sub hl [1, 2, 0] rfl)
        · have h := mm_neg c3 h
          have hl := lv_sub (l' := []) hl [] rfl
          refine lv_iconst (v := 0) hx hb dX5_isSteady_64 (by decide) ?_
          exact mm_iret C hH hr hlk rfl h dX5_isSteady_65
      · have h := mm_pos c2 h
        refine lv_iconst (v := 0) hx hb dX5_isSteady_38 (by decide) ?_
        refine lv_goto (tgt := 43) hx hb dX5_isSteady_39 (by decide) ?_
        refine mm_iald (n := 135) (jn := 0) C hH kd_158 ln_158 (by decide) (by decide) dX5_isSteady_43 ?_
        refine lv_iadd hx hb dX5_isSteady_44 ?_
        obtain ⟨v3, e5, h⟩ := mm_bnd h
        refine mm_goi hH (va_runS (As := [.int ((x 157 10) + (x 158 0))]) (rest := [.ref (b + 157)]) ⟨hx, hb, C.2.2.1, C.2.2.2.1, C.2.2.2.2.1⟩ (ct_X5_held l G T b z ((x 157 10) + (x 158 0)) x e5) (va_cwS 1 C.2.2.2.2.1 gX5_isSteady_X5_held rfl rfl rfl df_X5_held.2 ⟨Nat.le_of_ble_eq_true rfl, Nat.le_of_ble_eq_true rfl⟩) ⟨mm_B.blind, mm_pre C hH⟩ rfl rfl hl.1 rfl (lv_room (Nat.le_of_ble_eq_true rfl)) dX5_isSteady_45 ⟨Nat.zero_le _, Nat.zero_le _⟩) (fun H locs hH => ?_)
        obtain ⟨x3, e6, h⟩ := mm_bnd h
        refine mm_put (ty := .int) C hH hin5 tyX5_ok nmX5 rfl kl_157 (mm_e5 kd_157) (j := 10) (by decide) rfl w1 pd_I rfl rfl (Nat.le_of_ble_eq_true rfl) (sp_5_10 kd_157) (Option.some.inj e6) dX5_isSteady_48 (fun H locs hH => ?_)
        refine lv_aload_n hx hb dX5_isSteady_51 rfl (lv_at hl 0 rfl) ?_
        refine mm_get (v := .int (x3 157 10)) C hH hin5 rfl kl_157 (mm_e5 kd_157) (j := 10) (by decide) rfl w1 rfl dX5_isSteady_52 ?_
        refine lv_aload_n hx hb dX5_isSteady_55 rfl (lv_at hl 0 rfl) ?_
        refine mm_get (v := .ref (b + 158)) C hH hin5 rfl kl_157 (mm_e5 kd_157) (j := 0) (by decide) rfl w2 rfl dX5_isSteady_56 ?_
        refine lv_iconst (v := 4) hx hb dX5_isSteady_59 (by decide) ?_
        refine mm_iald (n := 135) (jn := 4) C hH kd_158 ln_158 (by decide) (by decide) dX5_isSteady_60 ?_
        refine lv_icmp_le (tgt := 66) hx hb dX5_isSteady_61 (by decide) (fun c4 => ?_) (fun c4 => ?_)
        · have h := mm_pos c4 h
          refine lv_iconst (v := 0) hx hb dX5_isSteady_66 (by decide) ?_
          refine lv_istore_n (lv' := [(3, .int 0), (0, .ref (b + 157)), (1, .int a1), (2, .int i2)]) hx hb dX5_isSteady_67 rfl hl (by decide) rfl (fun ls hl => ?_)
          obtain ⟨x4, e7, h⟩ := mm_bnd h
          refine lp_X5_isSteady_68 C a1 i2 201 0 x3 _ _ _ _ e7 hH (lv_sub hl [1, 2, 3, 0] rfl) (fun H locs ls hH hl => ?_)
          obtain ⟨v4, e8, h⟩ := mm_bnd h
          refine lv_iinc (v := v4) (lv' := [(2, .int v4), (0, .ref (b + 157)), (1, .int a1)]) hx hb dX5_isSteady_85 hl (k := 2) rfl (Option.some.inj e8) (by decide) rfl (fun ls hl => ?_)
          refine lv_goto (tgt := 17) hx hb dX5_isSteady_88 (by decide) ?_
          exact ih v4 x4 _ _ _ _ _ h hH (lv_sub hl [1, 2, 0] rfl)
        · have h := mm_neg c4 h
          have hl := lv_sub (l' := []) hl [] rfl
          refine lv_iconst (v := 0) hx hb dX5_isSteady_64 (by decide) ?_
          exact mm_iret C hH hr hlk rfl h dX5_isSteady_65
set_option maxRecDepth 100000 in
set_option maxHeartbeats 4000000 in
theorem ct_X5_isSteady (l : Launch) (G : va_G) (T : Nat → ClassId) (b : Nat) (z : Nat → Nat) (a1 : Int32) (x : mm_M) {x1 : mm_M} {r : Int32} (h : fn_X5_isSteady a1 x = some (x1, r)) : mm_Ci l yX5_isSteady wsX5_isSteady rm_X5_isSteady G T b z [.ref (b + 157), .int a1] x r x1 := by
  unfold fn_X5_isSteady at h
  refine mm_start (cc := cX5_isSteady) (maxL := 5) (ret := (some .boolean)) (by decide) rfl (Nat.le_of_ble_eq_true rfl) (fun p e s m below meth c ls C hr hlk hH hl => ?_)
  have hl : lv_has ls 5 [(0, .ref (b + 157)), (1, .int a1)] := hl
  have hx := C.1
  have hb := C.2.1
  have w1 := C.2.2.2.2.1 (.fieldLink RX5 70 "LandingFinesModel" "fine" "I") (by decide +kernel)
  have w2 := C.2.2.2.2.1 (.fieldLink RX5 67 "LandingFinesModel" "since" "I") (by decide +kernel)
  have w3 := C.2.2.2.2.1 (.fieldLink RX5 73 "LandingFinesModel" "isShunned" "Z") (by decide +kernel)
  have hin5 : ∀ w ∈ wsX50, w ∈ wsX5_isSteady := by decide +kernel
  refine lv_aload_n hx hb dX5_isSteady_0 rfl (lv_at hl 0 rfl) ?_
  refine lv_iconst (v := 0) hx hb dX5_isSteady_1 (by decide) ?_
  obtain ⟨x1, e1, h⟩ := mm_bnd h
  refine mm_put (ty := .int) C hH hin5 tyX5_ok nmX5 rfl kl_157 (mm_e5 kd_157) (j := 10) (by decide) rfl w1 pd_I rfl rfl (Nat.le_of_ble_eq_true rfl) (sp_5_10 kd_157) (Option.some.inj e1) dX5_isSteady_2 (fun H locs hH => ?_)
  refine lv_aload_n hx hb dX5_isSteady_5 rfl (lv_at hl 0 rfl) ?_
  refine lv_iconst (v := 0) hx hb dX5_isSteady_6 (by decide) ?_
  obtain ⟨x2, e2, h⟩ := mm_bnd h
  refine mm_put (ty := .int) C hH hin5 tyX5_ok nmX5 rfl kl_157 (mm_e5 kd_157) (j := 11) (by decide) rfl w2 pd_I rfl rfl (Nat.le_of_ble_eq_true rfl) (sp_5_11 kd_157) (Option.some.inj e2) dX5_isSteady_7 (fun H locs hH => ?_)
  refine lv_aload_n hx hb dX5_isSteady_10 rfl (lv_at hl 0 rfl) ?_
  refine lv_iconst (v := 0) hx hb dX5_isSteady_11 (by decide) ?_
  obtain ⟨x3, e3, h⟩ := mm_bnd h
  refine mm_put (ty := .boolean) C hH hin5 tyX5_ok nmX5 rfl kl_157 (mm_e5 kd_157) (j := 12) (by decide) rfl w3 pd_Z rfl rfl (Nat.le_of_ble_eq_true rfl) (sp_5_12 kd_157) (Option.some.inj e3) dX5_isSteady_12 (fun H locs hH => ?_)
  refine lv_iconst (v := 0) hx hb dX5_isSteady_15 (by decide) ?_
  refine lv_istore_n (lv' := [(2, .int 0), (0, .ref (b + 157)), (1, .int a1)]) hx hb dX5_isSteady_16 rfl hl (by decide) rfl (fun ls hl => ?_)
  exact lp_X5_isSteady_17 C a1  hr hlk 81 0 x3 _ _ _ _ _ h hH (lv_sub hl [1, 2, 0] rfl)
def fn_X5_steady_2 : Nat → Int32 → mm_M → Option (mm_M × Int32)
  | 0, _, _ => none
  | n + 1, i1, x => if (200 : Int32) < i1 then some (x, (-6)) else mm_b2 (fn_X5_isSteady i1 x) fun x1 v1 => if v1 = 0 then (some (i1 + 1)).bind fun v2 => fn_X5_steady_2 n  v2 x1 else some (x1, i1)
def fn_X5_steady  (x : mm_M) : Option (mm_M × Int32) :=
  fn_X5_steady_2 202 0 x
abbrev rm_X5_steady : Room := { frames := 2, cells := 0, slots := 0, locals := 45 }
theorem df_X5_steady : yX5_steady.cls = RX5 ∧ yX5_steady.cls ≠ "java/lang/invoke/MethodHandle" ∧ yX5_steady.cls ≠ "java/lang/invoke/VarHandle" ∧ (parseMethodDescriptor yX5_steady.desc).map (fun d => d.parameters.length) = some 0 := by decide +kernel
set_option maxRecDepth 100000 in
set_option maxHeartbeats 4000000 in
theorem lp_X5_steady_2 {p : Program} {l : Launch} {e : Env} {s : State} {m : MethodId} {args : Array Value} {below : List Frame} {meth : Method} {c : Code} {G : va_G} {T : Nat → ClassId} {b : Nat} {z : Nat → Nat} (C : mm_C p m c cX5_steady 2 s args wsX5_steady RX5 G T b z)  (hr : meth.sig.returnType = (some .int)) (hlk : meth.locks = false) : ∀ (n : Nat) (i1 : Int32) (x : mm_M) (H : Heap) (locs : List Loc) (ls : Array Slot) (x1 : mm_M) (r : Int32), fn_X5_steady_2 n i1 x = some (x1, r) → mm_H G T b x s H locs → lv_has ls 2 [(0, .ref (b + 157)), (1, .int i1)] → W p l e rm_X5_steady s m args below meth c H locs 0 0 (MQ below (mm_Qi G T b r x1) args s 0 0 (fun q => b ≤ q)) (F0 m 2 ls []) := by
  have hx := C.1
  have hb := C.2.1
  intro n
  induction n with
  | zero => intro _ _ _ _ _ _ _ h; cases (show (none : Option (mm_M × Int32)) = some _ from h)
  | succ n ih =>
    intro i1 x H locs ls x1 r h hH hl
    rw [fn_X5_steady_2] at h
    refine lv_iload_n hx hb dX5_steady_2 rfl (lv_at hl 1 rfl) ?_
    refine lv_sipush (v := 200) hx hb dX5_steady_3 (by decide) ?_
    refine lv_icmp_gt (tgt := 25) hx hb dX5_steady_6 (by decide) (fun c1 => ?_) (fun c1 => ?_)
    · have h := mm_pos c1 h
      have hl := lv_sub (l' := []) hl [] rfl
      refine lv_bipush (v := (-6)) hx hb dX5_steady_25 (by decide) ?_
      exact mm_iret C hH hr hlk rfl h dX5_steady_27
    · have h := mm_neg c1 h
      refine lv_aload_n hx hb dX5_steady_9 rfl (lv_at hl 0 rfl) ?_
      refine lv_iload_n hx hb dX5_steady_10 rfl (lv_at hl 1 rfl) ?_
      obtain ⟨x1, v1, e1, h⟩ := mm_bnd2 h
      refine mm_goi hH (va_runV (As := [.int i1]) (rest := []) ⟨hx, hb, C.2.2.1, C.2.2.2.1, C.2.2.2.2.1⟩ (ct_X5_isSteady l G T b z i1 x e1) (cwV 1 C.2.2.2.2.1 gX5_steady_X5_isSteady rfl rfl rfl df_X5_isSteady ⟨Nat.le_of_ble_eq_true rfl, Nat.le_of_ble_eq_true rfl⟩) ⟨mm_B.blind, mm_recv (q := (RX5, TX5, 14)) C hH kl_157 (mm_e5 kd_157) rfl, mm_pre C hH⟩ rfl rfl hl.1 rfl (lv_room (Nat.le_of_ble_eq_true rfl)) dX5_steady_11 ⟨Nat.zero_le _, Nat.zero_le _⟩) (fun H locs hH => ?_)
      refine lv_if_eq (tgt := 19) hx hb dX5_steady_14 (by decide) (fun c2 => ?_) (fun c2 => ?_)
      · have h := mm_pos c2 h
        obtain ⟨v2, e2, h⟩ := mm_bnd h
        refine lv_iinc (v := v2) (lv' := [(1, .int v2), (0, .ref (b + 157))]) hx hb dX5_steady_19 hl (k := 1) rfl (Option.some.inj e2) (by decide) rfl (fun ls hl => ?_)
        refine lv_goto (tgt := 2) hx hb dX5_steady_22 (by decide) ?_
        exact ih v2 x1 _ _ _ _ _ h hH (lv_sub hl [1, 0] rfl)
      · have h := mm_neg c2 h
        have hl := lv_sub (l' := [(1, .int i1)]) hl [1] rfl
        refine lv_iload_n hx hb dX5_steady_17 rfl (lv_at hl 0 rfl) ?_
        exact mm_iret C hH hr hlk rfl h dX5_steady_18
set_option maxRecDepth 100000 in
set_option maxHeartbeats 4000000 in
theorem ct_X5_steady (l : Launch) (G : va_G) (T : Nat → ClassId) (b : Nat) (z : Nat → Nat)  (x : mm_M) {x1 : mm_M} {r : Int32} (h : fn_X5_steady  x = some (x1, r)) : mm_Ci l yX5_steady wsX5_steady rm_X5_steady G T b z [.ref (b + 157)] x r x1 := by
  unfold fn_X5_steady at h
  refine mm_start (cc := cX5_steady) (maxL := 2) (ret := (some .int)) (by decide) rfl (Nat.le_of_ble_eq_true rfl) (fun p e s m below meth c ls C hr hlk hH hl => ?_)
  have hl : lv_has ls 2 [(0, .ref (b + 157))] := hl
  have hx := C.1
  have hb := C.2.1
  refine lv_iconst (v := 0) hx hb dX5_steady_0 (by decide) ?_
  refine lv_istore_n (lv' := [(1, .int 0), (0, .ref (b + 157))]) hx hb dX5_steady_1 rfl hl (by decide) rfl (fun ls hl => ?_)
  exact lp_X5_steady_2 C   hr hlk 202 0 x _ _ _ _ _ h hH (lv_sub hl [1, 0] rfl)
