def fn_L_changed (dd : Nat → Int32) (a2 : Int32) (a3 : Int32) (a4 : Int32) (x : mm_M) : Option Int32 :=
  (some (((8 : Int32) * a2) : Int32)).bind fun v1 => if (v1 + 2) < 0 ∨ 64 ≤ Int32.toNatClampNeg (v1 + 2) then none else (fn_X4_count ((7 : Int32) + a3) x).bind fun v2 => (some (((dd (Int32.toNatClampNeg (v1 + 2))) + v2) : Int32)).bind fun v3 => if v3 ≤ 99999 then (fn_X4_count 11 x).bind fun v4 => if v3 ≤ v4 then if a4 = v3 then (fn_X4_of a2 2 x).bind fun v5 => if v5 = v3 then (fn_X4_of a2 3 x).bind fun v6 => if (v1 + 3) < 0 ∨ 64 ≤ Int32.toNatClampNeg (v1 + 3) then none else if v6 = (dd (Int32.toNatClampNeg (v1 + 3))) then (fn_X4_of a2 4 x).bind fun v7 => if (v1 + 4) < 0 ∨ 64 ≤ Int32.toNatClampNeg (v1 + 4) then none else if v7 = (dd (Int32.toNatClampNeg (v1 + 4))) then (fn_X4_of a2 5 x).bind fun v8 => if (v1 + 5) < 0 ∨ 64 ≤ Int32.toNatClampNeg (v1 + 5) then none else if v8 = (dd (Int32.toNatClampNeg (v1 + 5))) then (fn_X4_of a2 6 x).bind fun v9 => if (v1 + 6) < 0 ∨ 64 ≤ Int32.toNatClampNeg (v1 + 6) then none else if v9 = ((dd (Int32.toNatClampNeg (v1 + 6))) + 1) then (fn_X4_of a2 7 x).bind fun v10 => if (v1 + 7) < 0 ∨ 64 ≤ Int32.toNatClampNeg (v1 + 7) then none else if v10 = ((dd (Int32.toNatClampNeg (v1 + 7))) + 0) then (fn_X4_log 0 0 x).bind fun v11 => if v11 = a3 then (fn_X4_log 0 1 x).bind fun v12 => if v12 = a2 then (fn_X4_log 0 2 x).bind fun v13 => (fn_X4_count 0 x).bind fun v14 => if v13 = v14 then some (1 : Int32) else none else none else none else none else none else none else none else none else none else none else if (v1 + 3) < 0 ∨ 64 ≤ Int32.toNatClampNeg (v1 + 3) then none else if (dd (Int32.toNatClampNeg (v1 + 3))) = 0 then if a4 = v3 then (fn_X4_of a2 2 x).bind fun v25 => if v25 = v3 then (fn_X4_of a2 3 x).bind fun v26 => if v26 = 1 then (fn_X4_of a2 4 x).bind fun v27 => if (v1 + 4) < 0 ∨ 64 ≤ Int32.toNatClampNeg (v1 + 4) then none else if v27 = (dd (Int32.toNatClampNeg (v1 + 4))) then (fn_X4_of a2 5 x).bind fun v28 => if (v1 + 5) < 0 ∨ 64 ≤ Int32.toNatClampNeg (v1 + 5) then none else if v28 = (dd (Int32.toNatClampNeg (v1 + 5))) then (fn_X4_of a2 6 x).bind fun v29 => if (v1 + 6) < 0 ∨ 64 ≤ Int32.toNatClampNeg (v1 + 6) then none else if v29 = ((dd (Int32.toNatClampNeg (v1 + 6))) + 1) then (fn_X4_of a2 7 x).bind fun v30 => if (v1 + 7) < 0 ∨ 64 ≤ Int32.toNatClampNeg (v1 + 7) then none else if v30 = ((dd (Int32.toNatClampNeg (v1 + 7))) + 1) then (fn_X4_log 1 0 x).bind fun v31 => if v31 = a3 then (fn_X4_log 1 1 x).bind fun v32 => if v32 = a2 then (fn_X4_log 1 2 x).bind fun v33 => (fn_X4_count 0 x).bind fun v34 => if v33 = v34 then (fn_X4_log 0 0 x).bind fun v35 => if v35 = 3 then (fn_X4_log 0 1 x).bind fun v36 => if v36 = a2 then some (1 : Int32) else none else none else none else none else none else none else none else none else none else none else none else none else if a4 = v3 then (fn_X4_of a2 2 x).bind fun v15 => if v15 = v3 then (fn_X4_of a2 3 x).bind fun v16 => if (v1 + 3) < 0 ∨ 64 ≤ Int32.toNatClampNeg (v1 + 3) then none else if v16 = (dd (Int32.toNatClampNeg (v1 + 3))) then (fn_X4_of a2 4 x).bind fun v17 => if (v1 + 4) < 0 ∨ 64 ≤ Int32.toNatClampNeg (v1 + 4) then none else if v17 = (dd (Int32.toNatClampNeg (v1 + 4))) then (fn_X4_of a2 5 x).bind fun v18 => if (v1 + 5) < 0 ∨ 64 ≤ Int32.toNatClampNeg (v1 + 5) then none else if v18 = (dd (Int32.toNatClampNeg (v1 + 5))) then (fn_X4_of a2 6 x).bind fun v19 => if (v1 + 6) < 0 ∨ 64 ≤ Int32.toNatClampNeg (v1 + 6) then none else if v19 = ((dd (Int32.toNatClampNeg (v1 + 6))) + 1) then (fn_X4_of a2 7 x).bind fun v20 => if (v1 + 7) < 0 ∨ 64 ≤ Int32.toNatClampNeg (v1 + 7) then none else if v20 = ((dd (Int32.toNatClampNeg (v1 + 7))) + 0) then (fn_X4_log 0 0 x).bind fun v21 => if v21 = a3 then (fn_X4_log 0 1 x).bind fun v22 => if v22 = a2 then (fn_X4_log 0 2 x).bind fun v23 => (fn_X4_count 0 x).bind fun v24 => if v23 = v24 then some (1 : Int32) else none else none else none else none else none else none else none else none else none else none else (fn_X4_count 11 x).bind fun v37 => if (99999 : Int32) ≤ v37 then if a4 = 99999 then (fn_X4_of a2 2 x).bind fun v38 => if v38 = 99999 then (fn_X4_of a2 3 x).bind fun v39 => if (v1 + 3) < 0 ∨ 64 ≤ Int32.toNatClampNeg (v1 + 3) then none else if v39 = (dd (Int32.toNatClampNeg (v1 + 3))) then (fn_X4_of a2 4 x).bind fun v40 => if (v1 + 4) < 0 ∨ 64 ≤ Int32.toNatClampNeg (v1 + 4) then none else if v40 = (dd (Int32.toNatClampNeg (v1 + 4))) then (fn_X4_of a2 5 x).bind fun v41 => if (v1 + 5) < 0 ∨ 64 ≤ Int32.toNatClampNeg (v1 + 5) then none else if v41 = (dd (Int32.toNatClampNeg (v1 + 5))) then (fn_X4_of a2 6 x).bind fun v42 => if (v1 + 6) < 0 ∨ 64 ≤ Int32.toNatClampNeg (v1 + 6) then none else if v42 = ((dd (Int32.toNatClampNeg (v1 + 6))) + 1) then (fn_X4_of a2 7 x).bind fun v43 => if (v1 + 7) < 0 ∨ 64 ≤ Int32.toNatClampNeg (v1 + 7) then none else if v43 = ((dd (Int32.toNatClampNeg (v1 + 7))) + 0) then (fn_X4_log 0 0 x).bind fun v44 => if v44 = a3 then (fn_X4_log 0 1 x).bind fun v45 => if v45 = a2 then (fn_X4_log 0 2 x).bind fun v46 => (fn_X4_count 0 x).bind fun v47 => if v46 = v47 then some (1 : Int32) else none else none else none else none else none else none else none else none else none else none else if (v1 + 3) < 0 ∨ 64 ≤ Int32.toNatClampNeg (v1 + 3) then none else if (dd (Int32.toNatClampNeg (v1 + 3))) = 0 then if a4 = 99999 then (fn_X4_of a2 2 x).bind fun v58 => if v58 = 99999 then (fn_X4_of a2 3 x).bind fun v59 => if v59 = 1 then (fn_X4_of a2 4 x).bind fun v60 => if (v1 + 4) < 0 ∨ 64 ≤ Int32.toNatClampNeg (v1 + 4) then none else if v60 = (dd (Int32.toNatClampNeg (v1 + 4))) then (fn_X4_of a2 5 x).bind fun v61 => if (v1 + 5) < 0 ∨ 64 ≤ Int32.toNatClampNeg (v1 + 5) then none else if v61 = (dd (Int32.toNatClampNeg (v1 + 5))) then (fn_X4_of a2 6 x).bind fun v62 => if (v1 + 6) < 0 ∨ 64 ≤ Int32.toNatClampNeg (v1 + 6) then none else if v62 = ((dd (Int32.toNatClampNeg (v1 + 6))) + 1) then (fn_X4_of a2 7 x).bind fun v63 => if (v1 + 7) < 0 ∨ 64 ≤ Int32.toNatClampNeg (v1 + 7) then none else if v63 = ((dd (Int32.toNatClampNeg (v1 + 7))) + 1) then (fn_X4_log 1 0 x).bind fun v64 => if v64 = a3 then (fn_X4_log 1 1 x).bind fun v65 => if v65 = a2 then (fn_X4_log 1 2 x).bind fun v66 => (fn_X4_count 0 x).bind fun v67 => if v66 = v67 then (fn_X4_log 0 0 x).bind fun v68 => if v68 = 3 then (fn_X4_log 0 1 x).bind fun v69 => if v69 = a2 then some (1 : Int32) else none else none else none else none else none else none else none else none else none else none else none else none else if a4 = 99999 then (fn_X4_of a2 2 x).bind fun v48 => if v48 = 99999 then (fn_X4_of a2 3 x).bind fun v49 => if (v1 + 3) < 0 ∨ 64 ≤ Int32.toNatClampNeg (v1 + 3) then none else if v49 = (dd (Int32.toNatClampNeg (v1 + 3))) then (fn_X4_of a2 4 x).bind fun v50 => if (v1 + 4) < 0 ∨ 64 ≤ Int32.toNatClampNeg (v1 + 4) then none else if v50 = (dd (Int32.toNatClampNeg (v1 + 4))) then (fn_X4_of a2 5 x).bind fun v51 => if (v1 + 5) < 0 ∨ 64 ≤ Int32.toNatClampNeg (v1 + 5) then none else if v51 = (dd (Int32.toNatClampNeg (v1 + 5))) then (fn_X4_of a2 6 x).bind fun v52 => if (v1 + 6) < 0 ∨ 64 ≤ Int32.toNatClampNeg (v1 + 6) then none else if v52 = ((dd (Int32.toNatClampNeg (v1 + 6))) + 1) then (fn_X4_of a2 7 x).bind fun v53 => if (v1 + 7) < 0 ∨ 64 ≤ Int32.toNatClampNeg (v1 + 7) then none else if v53 = ((dd (Int32.toNatClampNeg (v1 + 7))) + 0) then (fn_X4_log 0 0 x).bind fun v54 => if v54 = a3 then (fn_X4_log 0 1 x).bind fun v55 => if v55 = a2 then (fn_X4_log 0 2 x).bind fun v56 => (fn_X4_count 0 x).bind fun v57 => if v56 = v57 then some (1 : Int32) else none else none else none else none else none else none else none else none else none else none
abbrev rm_L_changed : Room := { frames := 3, cells := 0, slots := 0, locals := 64 }
theorem df_L_changed : yL_changed.cls = RL ∧ yL_changed.cls ≠ "java/lang/invoke/MethodHandle" ∧ yL_changed.cls ≠ "java/lang/invoke/VarHandle" ∧ (parseMethodDescriptor yL_changed.desc).map (fun d => d.parameters.length) = some 5 := by decide +kernel
set_option maxRecDepth 100000 in
set_option maxHeartbeats 4000000 in
theorem ct_L_changed (l : Launch) (G : va_G) (T : Nat → ClassId) (b : Nat) (z : Nat → Nat) (ad : Nat) (dd : Nat → Int32) (a2 : Int32) (a3 : Int32) (a4 : Int32) (x : mm_M) {r : Int32} (h : fn_L_changed dd a2 a3 a4 x = some r) : mm_CiD l yL_changed wsL_changed rm_L_changed G T b z ad dd [.ref (b + 0), .ref ad, .int a2, .int a3, .int a4] x r x := by
  unfold fn_L_changed at h
  refine md_start (cc := cL_changed) (maxL := 13) (ret := (some .boolean)) (by decide) rfl (Nat.le_of_ble_eq_true rfl) (fun p e s m below meth c ls C hr hlk hH hl => ?_)
  have hl : lv_has ls 13 [(0, .ref (b + 0)), (1, .ref ad), (2, .int a2), (3, .int a3), (4, .int a4)] := hl
  have hx := C.1
  have hb := C.2.1
  have hA := mm_AAr (b := b)
  have w1 := C.2.2.2.2.1 (.constant RL 34 (99999)) (by decide +kernel)
  refine lv_bipush (v := 8) hx hb dL_changed_0 (by decide) ?_
  refine lv_iload_n hx hb dL_changed_2 rfl (lv_at hl 2 rfl) ?_
  refine lv_imul hx hb dL_changed_3 ?_
  obtain ⟨v1, e1, h⟩ := mm_bnd h
  refine mm_nmi e1 ?_
  refine lv_istore (lv' := [(5, .int v1), (0, .ref (b + 0)), (1, .ref ad), (2, .int a2), (3, .int a3), (4, .int a4)]) hx hb dL_changed_4 hl (by decide) rfl (fun ls hl => ?_)
  refine lv_aload_n hx hb dL_changed_6 rfl (lv_at hl 2 rfl) ?_
  refine lv_iload hx hb dL_changed_7 (lv_at hl 0 rfl) ?_
  refine lv_iconst (v := 2) hx hb dL_changed_9 (by decide) ?_
  refine lv_iadd hx hb dL_changed_10 ?_
  obtain ⟨g1, h⟩ := mm_grn h
  refine md_dld C hH g1 dL_changed_11 ?_
  refine lv_aload_n hx hb dL_changed_12 rfl (lv_at hl 1 rfl) ?_
  refine lv_bipush (v := 7) hx hb dL_changed_13 (by decide) ?_
  refine lv_iload_n hx hb dL_changed_15 rfl (lv_at hl 4 rfl) ?_
  refine lv_iadd hx hb dL_changed_16 ?_
  obtain ⟨v2, e2, h⟩ := mm_bnd h
  refine md_goi hH hA (va_runV (As := [.int ((7 : Int32) + a3)]) (rest := [.int (dd (Int32.toNatClampNeg (v1 + 2)))]) ⟨hx, hb, C.2.2.1, C.2.2.2.1, C.2.2.2.2.1⟩ (ct_X4_count l G T b z ((7 : Int32) + a3) x e2) (cwV 1 C.2.2.2.2.1 gL_changed_X4_count rfl rfl rfl df_X4_count ⟨Nat.le_of_ble_eq_true rfl, Nat.le_of_ble_eq_true rfl⟩) ⟨mm_B.blind, mm_recvL (q := (RX4, TX4, 7)) C hH.1 kl_0 (mm_e4 kd_0) rfl, mm_preL C hH.1 hA⟩ rfl rfl hl.1 rfl (lv_room (Nat.le_of_ble_eq_true rfl)) dL_changed_17 ⟨Nat.zero_le _, Nat.zero_le _⟩) (fun H locs hH => ?_)
  refine lv_iadd hx hb dL_changed_20 ?_
  obtain ⟨v3, e3, h⟩ := mm_bnd h
  refine mm_nmi e3 ?_
  refine lv_istore (lv' := [(6, .int v3), (5, .int v1), (0, .ref (b + 0)), (1, .ref ad), (2, .int a2), (3, .int a3), (4, .int a4)]) hx hb dL_changed_21 hl (by decide) rfl (fun ls hl => ?_)
  refine lv_iload hx hb dL_changed_23 (lv_at hl 0 rfl) ?_
  refine lv_ldc (own := RL) (v := 99999) hx hb C.2.2.2.1 w1 dL_changed_25 ?_
  refine lv_icmp_le (tgt := 35) hx hb dL_changed_27 (by decide) (fun c1 => ?_) (fun c1 => ?_)
  · have h := mm_pos c1 h
    refine lv_iload hx hb dL_changed_35 (lv_at hl 0 rfl) ?_
    refine lv_istore (lv' := [(7, .int v3), (6, .int v3), (5, .int v1), (0, .ref (b + 0)), (1, .ref ad), (2, .int a2), (3, .int a3), (4, .int a4)]) hx hb dL_changed_37 hl (by decide) rfl (fun ls hl => ?_)
    have hl := lv_sub (l' := [(7, .int v3), (5, .int v1), (0, .ref (b + 0)), (1, .ref ad), (2, .int a2), (3, .int a3), (4, .int a4)]) hl [0, 2, 3, 4, 5, 6, 7] rfl
    refine lv_iload hx hb dL_changed_39 (lv_at hl 0 rfl) ?_
    refine lv_aload_n hx hb dL_changed_41 rfl (lv_at hl 2 rfl) ?_
    refine lv_bipush (v := 11) hx hb dL_changed_42 (by decide) ?_
    obtain ⟨v4, e4, h⟩ := mm_bnd h
    refine md_goi hH hA (va_runV (As := [.int 11]) (rest := [.int v3]) ⟨hx, hb, C.2.2.1, C.2.2.2.1, C.2.2.2.2.1⟩ (ct_X4_count l G T b z 11 x e4) (cwV 1 C.2.2.2.2.1 gL_changed_X4_count rfl rfl rfl df_X4_count ⟨Nat.le_of_ble_eq_true rfl, Nat.le_of_ble_eq_true rfl⟩) ⟨mm_B.blind, mm_recvL (q := (RX4, TX4, 7)) C hH.1 kl_0 (mm_e4 kd_0) rfl, mm_preL C hH.1 hA⟩ rfl rfl hl.1 rfl (lv_room (Nat.le_of_ble_eq_true rfl)) dL_changed_44 ⟨Nat.zero_le _, Nat.zero_le _⟩) (fun H locs hH => ?_)
    refine lv_icmp_le (tgt := 63) hx hb dL_changed_47 (by decide) (fun c2 => ?_) (fun c2 => ?_)
    · have h := mm_pos c2 h
      refine lv_iconst (v := 0) hx hb dL_changed_63 (by decide) ?_
      refine lv_istore (lv' := [(8, .int 0), (7, .int v3), (5, .int v1), (0, .ref (b + 0)), (1, .ref ad), (2, .int a2), (3, .int a3), (4, .int a4)]) hx hb dL_changed_64 hl (by decide) rfl (fun ls hl => ?_)
      refine lv_iload hx hb dL_changed_66 (lv_at hl 7 rfl) ?_
      refine lv_iload hx hb dL_changed_68 (lv_at hl 1 rfl) ?_
      refine lv_icmp_ne (tgt := 142) hx hb dL_changed_70 (by decide) (fun c3 => ?_) (fun c3 => ?_)
      · have h := mm_neg c3 h
        have hl := lv_sub (l' := [(8, .int 0), (5, .int v1), (0, .ref (b + 0)), (1, .ref ad), (2, .int a2), (3, .int a3)]) hl [0, 2, 3, 4, 5, 6] rfl
        cases h
      · have h := mm_pos c3 h
        have hl := lv_sub (l' := [(8, .int 0), (7, .int v3), (5, .int v1), (0, .ref (b + 0)), (1, .ref ad), (2, .int a2), (3, .int a3)]) hl [0, 1, 2, 3, 4, 5, 6] rfl
        refine lv_aload_n hx hb dL_changed_73 rfl (lv_at hl 3 rfl) ?_
        refine lv_iload_n hx hb dL_changed_74 rfl (lv_at hl 5 rfl) ?_
        refine lv_iconst (v := 2) hx hb dL_changed_75 (by decide) ?_
        obtain ⟨v5, e5, h⟩ := mm_bnd h
        refine md_goi hH hA (va_runV (As := [.int a2, .int 2]) (rest := []) ⟨hx, hb, C.2.2.1, C.2.2.2.1, C.2.2.2.2.1⟩ (ct_X4_of l G T b z a2 2 x e5) (cwV 2 C.2.2.2.2.1 gL_changed_X4_of rfl rfl rfl df_X4_of ⟨Nat.le_of_ble_eq_true rfl, Nat.le_of_ble_eq_true rfl⟩) ⟨mm_B.blind, mm_recvL (q := (RX4, TX4, 7)) C hH.1 kl_0 (mm_e4 kd_0) rfl, mm_preL C hH.1 hA⟩ rfl rfl hl.1 rfl (lv_room (Nat.le_of_ble_eq_true rfl)) dL_changed_76 ⟨Nat.zero_le _, Nat.zero_le _⟩) (fun H locs hH => ?_)
        refine lv_iload hx hb dL_changed_79 (lv_at hl 1 rfl) ?_
        refine lv_icmp_ne (tgt := 142) hx hb dL_changed_81 (by decide) (fun c4 => ?_) (fun c4 => ?_)
        · have h := mm_neg c4 h
          have hl := lv_sub (l' := [(8, .int 0), (5, .int v1), (0, .ref (b + 0)), (1, .ref ad), (2, .int a2), (3, .int a3)]) hl [0, 2, 3, 4, 5, 6] rfl
          cases h
        · have h := mm_pos c4 h
          have hl := lv_sub (l' := [(8, .int 0), (5, .int v1), (0, .ref (b + 0)), (1, .ref ad), (2, .int a2), (3, .int a3)]) hl [0, 2, 3, 4, 5, 6] rfl
          refine lv_aload_n hx hb dL_changed_84 rfl (lv_at hl 2 rfl) ?_
          refine lv_iload_n hx hb dL_changed_85 rfl (lv_at hl 4 rfl) ?_
          refine lv_iconst (v := 3) hx hb dL_changed_86 (by decide) ?_
          obtain ⟨v6, e6, h⟩ := mm_bnd h
          refine md_goi hH hA (va_runV (As := [.int a2, .int 3]) (rest := []) ⟨hx, hb, C.2.2.1, C.2.2.2.1, C.2.2.2.2.1⟩ (ct_X4_of l G T b z a2 3 x e6) (cwV 2 C.2.2.2.2.1 gL_changed_X4_of rfl rfl rfl df_X4_of ⟨Nat.le_of_ble_eq_true rfl, Nat.le_of_ble_eq_true rfl⟩) ⟨mm_B.blind, mm_recvL (q := (RX4, TX4, 7)) C hH.1 kl_0 (mm_e4 kd_0) rfl, mm_preL C hH.1 hA⟩ rfl rfl hl.1 rfl (lv_room (Nat.le_of_ble_eq_true rfl)) dL_changed_87 ⟨Nat.zero_le _, Nat.zero_le _⟩) (fun H locs hH => ?_)
          refine lv_iload hx hb dL_changed_90 (lv_at hl 0 rfl) ?_
          refine lv_if_eq (tgt := 99) hx hb dL_changed_92 (by decide) (fun _ => ?_) (fun c => absurd (by decide) c)
          refine lv_aload_n hx hb dL_changed_99 rfl (lv_at hl 3 rfl) ?_
          refine lv_iload hx hb dL_changed_100 (lv_at hl 1 rfl) ?_
          refine lv_iconst (v := 3) hx hb dL_changed_102 (by decide) ?_
          refine lv_iadd hx hb dL_changed_103 ?_
          obtain ⟨g2, h⟩ := mm_grn h
          refine md_dld C hH g2 dL_changed_104 ?_
          refine lv_icmp_ne (tgt := 142) hx hb dL_changed_105 (by decide) (fun c5 => ?_) (fun c5 => ?_)
          · have h := mm_neg c5 h
            cases h
          · have h := mm_pos c5 h
            refine lv_aload_n hx hb dL_changed_108 rfl (lv_at hl 2 rfl) ?_
            refine lv_iload_n hx hb dL_changed_109 rfl (lv_at hl 4 rfl) ?_
            refine lv_iconst (v := 4) hx hb dL_changed_110 (by decide) ?_
            obtain ⟨v7, e7, h⟩ := mm_bnd h
            refine md_goi hH hA (va_runV (As := [.int a2, .int 4]) (rest := []) ⟨hx, hb, C.2.2.1, C.2.2.2.1, C.2.2.2.2.1⟩ (ct_X4_of l G T b z a2 4 x e7) (cwV 2 C.2.2.2.2.1 gL_changed_X4_of rfl rfl rfl df_X4_of ⟨Nat.le_of_ble_eq_true rfl, Nat.le_of_ble_eq_true rfl⟩) ⟨mm_B.blind, mm_recvL (q := (RX4, TX4, 7)) C hH.1 kl_0 (mm_e4 kd_0) rfl, mm_preL C hH.1 hA⟩ rfl rfl hl.1 rfl (lv_room (Nat.le_of_ble_eq_true rfl)) dL_changed_111 ⟨Nat.zero_le _, Nat.zero_le _⟩) (fun H locs hH => ?_)
            refine lv_aload_n hx hb dL_changed_114 rfl (lv_at hl 3 rfl) ?_
            refine lv_iload hx hb dL_changed_115 (lv_at hl 1 rfl) ?_
            refine lv_iconst (v := 4) hx hb dL_changed_117 (by decide) ?_
            refine lv_iadd hx hb dL_changed_118 ?_
            obtain ⟨g3, h⟩ := mm_grn h
            refine md_dld C hH g3 dL_changed_119 ?_
            refine lv_icmp_ne (tgt := 142) hx hb dL_changed_120 (by decide) (fun c6 => ?_) (fun c6 => ?_)
            · have h := mm_neg c6 h
              cases h
            · have h := mm_pos c6 h
              refine lv_aload_n hx hb dL_changed_123 rfl (lv_at hl 2 rfl) ?_
              refine lv_iload_n hx hb dL_changed_124 rfl (lv_at hl 4 rfl) ?_
              refine lv_iconst (v := 5) hx hb dL_changed_125 (by decide) ?_
              obtain ⟨v8, e8, h⟩ := mm_bnd h
              refine md_goi hH hA (va_runV (As := [.int a2, .int 5]) (rest := []) ⟨hx, hb, C.2.2.1, C.2.2.2.1, C.2.2.2.2.1⟩ (ct_X4_of l G T b z a2 5 x e8) (cwV 2 C.2.2.2.2.1 gL_changed_X4_of rfl rfl rfl df_X4_of ⟨Nat.le_of_ble_eq_true rfl, Nat.le_of_ble_eq_true rfl⟩) ⟨mm_B.blind, mm_recvL (q := (RX4, TX4, 7)) C hH.1 kl_0 (mm_e4 kd_0) rfl, mm_preL C hH.1 hA⟩ rfl rfl hl.1 rfl (lv_room (Nat.le_of_ble_eq_true rfl)) dL_changed_126 ⟨Nat.zero_le _, Nat.zero_le _⟩) (fun H locs hH => ?_)
              refine lv_aload_n hx hb dL_changed_129 rfl (lv_at hl 3 rfl) ?_
              refine lv_iload hx hb dL_changed_130 (lv_at hl 1 rfl) ?_
              refine lv_iconst (v := 5) hx hb dL_changed_132 (by decide) ?_
              refine lv_iadd hx hb dL_changed_133 ?_
              obtain ⟨g4, h⟩ := mm_grn h
              refine md_dld C hH g4 dL_changed_134 ?_
              refine lv_icmp_ne (tgt := 142) hx hb dL_changed_135 (by decide) (fun c7 => ?_) (fun c7 => ?_)
              · have h := mm_neg c7 h
                cases h
              · have h := mm_pos c7 h
                refine lv_iconst (v := 1) hx hb dL_changed_138 (by decide) ?_
                refine lv_goto (tgt := 143) hx hb dL_changed_139 (by decide) ?_
                refine lv_istore (lv' := [(9, .int 1), (8, .int 0), (5, .int v1), (0, .ref (b + 0)), (1, .ref ad), (2, .int a2), (3, .int a3)]) hx hb dL_changed_143 hl (by decide) rfl (fun ls hl => ?_)
                refine lv_aload_n hx hb dL_changed_145 rfl (lv_at hl 3 rfl) ?_
                refine lv_iload_n hx hb dL_changed_146 rfl (lv_at hl 5 rfl) ?_
                refine lv_bipush (v := 6) hx hb dL_changed_147 (by decide) ?_
                obtain ⟨v9, e9, h⟩ := mm_bnd h
                refine md_goi hH hA (va_runV (As := [.int a2, .int 6]) (rest := []) ⟨hx, hb, C.2.2.1, C.2.2.2.1, C.2.2.2.2.1⟩ (ct_X4_of l G T b z a2 6 x e9) (cwV 2 C.2.2.2.2.1 gL_changed_X4_of rfl rfl rfl df_X4_of ⟨Nat.le_of_ble_eq_true rfl, Nat.le_of_ble_eq_true rfl⟩) ⟨mm_B.blind, mm_recvL (q := (RX4, TX4, 7)) C hH.1 kl_0 (mm_e4 kd_0) rfl, mm_preL C hH.1 hA⟩ rfl rfl hl.1 rfl (lv_room (Nat.le_of_ble_eq_true rfl)) dL_changed_149 ⟨Nat.zero_le _, Nat.zero_le _⟩) (fun H locs hH => ?_)
                refine lv_aload_n hx hb dL_changed_152 rfl (lv_at hl 4 rfl) ?_
                refine lv_iload hx hb dL_changed_153 (lv_at hl 2 rfl) ?_
                refine lv_bipush (v := 6) hx hb dL_changed_155 (by decide) ?_
                refine lv_iadd hx hb dL_changed_157 ?_
                obtain ⟨g5, h⟩ := mm_grn h
                refine md_dld C hH g5 dL_changed_158 ?_
                refine lv_iconst (v := 1) hx hb dL_changed_159 (by decide) ?_
                refine lv_iadd hx hb dL_changed_160 ?_
                refine lv_icmp_ne (tgt := 196) hx hb dL_changed_161 (by decide) (fun c8 => ?_) (fun c8 => ?_)
                · have h := mm_neg c8 h
                  have hl := lv_sub (l' := [(9, .int 1), (8, .int 0), (0, .ref (b + 0)), (2, .int a2), (3, .int a3)]) hl [0, 1, 3, 5, 6] rfl
                  cases h
                · have h := mm_pos c8 h
                  refine lv_aload_n hx hb dL_changed_164 rfl (lv_at hl 3 rfl) ?_
                  refine lv_iload_n hx hb dL_changed_165 rfl (lv_at hl 5 rfl) ?_
                  refine lv_bipush (v := 7) hx hb dL_changed_166 (by decide) ?_
                  obtain ⟨v10, e10, h⟩ := mm_bnd h
                  refine md_goi hH hA (va_runV (As := [.int a2, .int 7]) (rest := []) ⟨hx, hb, C.2.2.1, C.2.2.2.1, C.2.2.2.2.1⟩ (ct_X4_of l G T b z a2 7 x e10) (cwV 2 C.2.2.2.2.1 gL_changed_X4_of rfl rfl rfl df_X4_of ⟨Nat.le_of_ble_eq_true rfl, Nat.le_of_ble_eq_true rfl⟩) ⟨mm_B.blind, mm_recvL (q := (RX4, TX4, 7)) C hH.1 kl_0 (mm_e4 kd_0) rfl, mm_preL C hH.1 hA⟩ rfl rfl hl.1 rfl (lv_room (Nat.le_of_ble_eq_true rfl)) dL_changed_168 ⟨Nat.zero_le _, Nat.zero_le _⟩) (fun H locs hH => ?_)
                  refine lv_aload_n hx hb dL_changed_171 rfl (lv_at hl 4 rfl) ?_
                  refine lv_iload hx hb dL_changed_172 (lv_at hl 2 rfl) ?_
                  refine lv_bipush (v := 7) hx hb dL_changed_174 (by decide) ?_
                  refine lv_iadd hx hb dL_changed_176 ?_
                  obtain ⟨g6, h⟩ := mm_grn h
                  refine md_dld C hH g6 dL_changed_177 ?_
                  refine lv_iload hx hb dL_changed_178 (lv_at hl 1 rfl) ?_
                  refine lv_if_eq (tgt := 187) hx hb dL_changed_180 (by decide) (fun _ => ?_) (fun c => absurd (by decide) c)
                  have hl := lv_sub (l' := [(9, .int 1), (8, .int 0), (0, .ref (b + 0)), (2, .int a2), (3, .int a3)]) hl [0, 1, 3, 5, 6] rfl
                  refine lv_iconst (v := 0) hx hb dL_changed_187 (by decide) ?_
                  refine lv_iadd hx hb dL_changed_188 ?_
                  refine lv_icmp_ne (tgt := 196) hx hb dL_changed_189 (by decide) (fun c9 => ?_) (fun c9 => ?_)
                  · have h := mm_neg c9 h
                    cases h
                  · have h := mm_pos c9 h
                    refine lv_iconst (v := 1) hx hb dL_changed_192 (by decide) ?_
                    refine lv_goto (tgt := 197) hx hb dL_changed_193 (by decide) ?_
                    refine lv_istore (lv' := [(10, .int 1), (9, .int 1), (8, .int 0), (0, .ref (b + 0)), (2, .int a2), (3, .int a3)]) hx hb dL_changed_197 hl (by decide) rfl (fun ls hl => ?_)
                    refine lv_iload hx hb dL_changed_199 (lv_at hl 2 rfl) ?_
                    refine lv_if_eq (tgt := 208) hx hb dL_changed_201 (by decide) (fun _ => ?_) (fun c => absurd (by decide) c)
                    refine lv_iconst (v := 0) hx hb dL_changed_208 (by decide) ?_
                    refine lv_istore (lv' := [(11, .int 0), (10, .int 1), (9, .int 1), (8, .int 0), (0, .ref (b + 0)), (2, .int a2), (3, .int a3)]) hx hb dL_changed_209 hl (by decide) rfl (fun ls hl => ?_)
                    refine lv_aload_n hx hb dL_changed_211 rfl (lv_at hl 4 rfl) ?_
                    refine lv_iload hx hb dL_changed_212 (lv_at hl 0 rfl) ?_
                    refine lv_iconst (v := 0) hx hb dL_changed_214 (by decide) ?_
                    obtain ⟨v11, e11, h⟩ := mm_bnd h
                    refine md_goi hH hA (va_runV (As := [.int 0, .int 0]) (rest := []) ⟨hx, hb, C.2.2.1, C.2.2.2.1, C.2.2.2.2.1⟩ (ct_X4_log l G T b z 0 0 x e11) (cwV 2 C.2.2.2.2.1 gL_changed_X4_log rfl rfl rfl df_X4_log ⟨Nat.le_of_ble_eq_true rfl, Nat.le_of_ble_eq_true rfl⟩) ⟨mm_B.blind, mm_recvL (q := (RX4, TX4, 7)) C hH.1 kl_0 (mm_e4 kd_0) rfl, mm_preL C hH.1 hA⟩ rfl rfl hl.1 rfl (lv_room (Nat.le_of_ble_eq_true rfl)) dL_changed_215 ⟨Nat.zero_le _, Nat.zero_le _⟩) (fun H locs hH => ?_)
                    refine lv_iload_n hx hb dL_changed_218 rfl (lv_at hl 6 rfl) ?_
                    refine lv_icmp_ne (tgt := 277) hx hb dL_changed_219 (by decide) (fun c10 => ?_) (fun c10 => ?_)
                    · have h := mm_neg c10 h
                      have hl := lv_sub (l' := [(10, .int 1), (9, .int 1)]) hl [1, 2] rfl
                      cases h
                    · have h := mm_pos c10 h
                      have hl := lv_sub (l' := [(11, .int 0), (10, .int 1), (9, .int 1), (8, .int 0), (0, .ref (b + 0)), (2, .int a2)]) hl [0, 1, 2, 3, 4, 5] rfl
                      refine lv_aload_n hx hb dL_changed_222 rfl (lv_at hl 4 rfl) ?_
                      refine lv_iload hx hb dL_changed_223 (lv_at hl 0 rfl) ?_
                      refine lv_iconst (v := 1) hx hb dL_changed_225 (by decide) ?_
                      obtain ⟨v12, e12, h⟩ := mm_bnd h
                      refine md_goi hH hA (va_runV (As := [.int 0, .int 1]) (rest := []) ⟨hx, hb, C.2.2.1, C.2.2.2.1, C.2.2.2.2.1⟩ (ct_X4_log l G T b z 0 1 x e12) (cwV 2 C.2.2.2.2.1 gL_changed_X4_log rfl rfl rfl df_X4_log ⟨Nat.le_of_ble_eq_true rfl, Nat.le_of_ble_eq_true rfl⟩) ⟨mm_B.blind, mm_recvL (q := (RX4, TX4, 7)) C hH.1 kl_0 (mm_e4 kd_0) rfl, mm_preL C hH.1 hA⟩ rfl rfl hl.1 rfl (lv_room (Nat.le_of_ble_eq_true rfl)) dL_changed_226 ⟨Nat.zero_le _, Nat.zero_le _⟩) (fun H locs hH => ?_)
                      refine lv_iload_n hx hb dL_changed_229 rfl (lv_at hl 5 rfl) ?_
                      refine lv_icmp_ne (tgt := 277) hx hb dL_changed_230 (by decide) (fun c11 => ?_) (fun c11 => ?_)
                      · have h := mm_neg c11 h
                        have hl := lv_sub (l' := [(10, .int 1), (9, .int 1)]) hl [1, 2] rfl
                        cases h
                      · have h := mm_pos c11 h
                        refine lv_aload_n hx hb dL_changed_233 rfl (lv_at hl 4 rfl) ?_
                        refine lv_iload hx hb dL_changed_234 (lv_at hl 0 rfl) ?_
                        refine lv_iconst (v := 2) hx hb dL_changed_236 (by decide) ?_
                        obtain ⟨v13, e13, h⟩ := mm_bnd h
                        refine md_goi hH hA (va_runV (As := [.int 0, .int 2]) (rest := []) ⟨hx, hb, C.2.2.1, C.2.2.2.1, C.2.2.2.2.1⟩ (ct_X4_log l G T b z 0 2 x e13) (cwV 2 C.2.2.2.2.1 gL_changed_X4_log rfl rfl rfl df_X4_log ⟨Nat.le_of_ble_eq_true rfl, Nat.le_of_ble_eq_true rfl⟩) ⟨mm_B.blind, mm_recvL (q := (RX4, TX4, 7)) C hH.1 kl_0 (mm_e4 kd_0) rfl, mm_preL C hH.1 hA⟩ rfl rfl hl.1 rfl (lv_room (Nat.le_of_ble_eq_true rfl)) dL_changed_237 ⟨Nat.zero_le _, Nat.zero_le _⟩) (fun H locs hH => ?_)
                        refine lv_aload_n hx hb dL_changed_240 rfl (lv_at hl 4 rfl) ?_
                        refine lv_iconst (v := 0) hx hb dL_changed_241 (by decide) ?_
                        obtain ⟨v14, e14, h⟩ := mm_bnd h
                        refine md_goi hH hA (va_runV (As := [.int 0]) (rest := [.int v13]) ⟨hx, hb, C.2.2.1, C.2.2.2.1, C.2.2.2.2.1⟩ (ct_X4_count l G T b z 0 x e14) (cwV 1 C.2.2.2.2.1 gL_changed_X4_count rfl rfl rfl df_X4_count ⟨Nat.le_of_ble_eq_true rfl, Nat.le_of_ble_eq_true rfl⟩) ⟨mm_B.blind, mm_recvL (q := (RX4, TX4, 7)) C hH.1 kl_0 (mm_e4 kd_0) rfl, mm_preL C hH.1 hA⟩ rfl rfl hl.1 rfl (lv_room (Nat.le_of_ble_eq_true rfl)) dL_changed_242 ⟨Nat.zero_le _, Nat.zero_le _⟩) (fun H locs hH => ?_)
                        refine lv_icmp_ne (tgt := 277) hx hb dL_changed_245 (by decide) (fun c12 => ?_) (fun c12 => ?_)
                        · have h := mm_neg c12 h
                          have hl := lv_sub (l' := [(10, .int 1), (9, .int 1)]) hl [1, 2] rfl
                          cases h
                        · have h := mm_pos c12 h
                          have hl := lv_sub (l' := [(10, .int 1), (9, .int 1), (8, .int 0), (0, .ref (b + 0)), (2, .int a2)]) hl [1, 2, 3, 4, 5] rfl
                          refine lv_iload hx hb dL_changed_248 (lv_at hl 2 rfl) ?_
                          refine lv_if_eq (tgt := 273) hx hb dL_changed_250 (by decide) (fun _ => ?_) (fun c => absurd (by decide) c)
                          have hl := lv_sub (l' := [(10, .int 1), (9, .int 1)]) hl [0, 1] rfl
                          refine lv_iconst (v := 1) hx hb dL_changed_273 (by decide) ?_
                          refine lv_goto (tgt := 278) hx hb dL_changed_274 (by decide) ?_
                          refine lv_istore (lv' := [(12, .int 1), (10, .int 1), (9, .int 1)]) hx hb dL_changed_278 hl (by decide) rfl (fun ls hl => ?_)
                          refine lv_iload hx hb dL_changed_280 (lv_at hl 2 rfl) ?_
                          refine lv_if_eq (tgt := 299) hx hb dL_changed_282 (by decide) (fun c => absurd c (by decide)) (fun _ => ?_)
                          have hl := lv_sub (l' := [(12, .int 1), (10, .int 1)]) hl [0, 1] rfl
                          refine lv_iload hx hb dL_changed_285 (lv_at hl 1 rfl) ?_
                          refine lv_if_eq (tgt := 299) hx hb dL_changed_287 (by decide) (fun c => absurd c (by decide)) (fun _ => ?_)
                          have hl := lv_sub (l' := [(12, .int 1)]) hl [0] rfl
                          refine lv_iload hx hb dL_changed_290 (lv_at hl 0 rfl) ?_
                          refine lv_if_eq (tgt := 299) hx hb dL_changed_292 (by decide) (fun c => absurd c (by decide)) (fun _ => ?_)
                          have hl := lv_sub (l' := []) hl [] rfl
                          refine lv_iconst (v := 1) hx hb dL_changed_295 (by decide) ?_
                          refine lv_goto (tgt := 300) hx hb dL_changed_296 (by decide) ?_
                          exact mm_iretP C hH.1 hr hlk rfl h dL_changed_300
    · have h := mm_neg c2 h
      refine lv_aload_n hx hb dL_changed_50 rfl (lv_at hl 3 rfl) ?_
      refine lv_iload hx hb dL_changed_51 (lv_at hl 1 rfl) ?_
      refine lv_iconst (v := 3) hx hb dL_changed_53 (by decide) ?_
      refine lv_iadd hx hb dL_changed_54 ?_
      obtain ⟨g7, h⟩ := mm_grn h
      refine md_dld C hH g7 dL_changed_55 ?_
      refine lv_if_ne (tgt := 63) hx hb dL_changed_56 (by decide) (fun c13 => ?_) (fun c13 => ?_)
      · have h := mm_neg c13 h
        refine lv_iconst (v := 0) hx hb dL_changed_63 (by decide) ?_
        refine lv_istore (lv' := [(8, .int 0), (7, .int v3), (5, .int v1), (0, .ref (b + 0)), (1, .ref ad), (2, .int a2), (3, .int a3), (4, .int a4)]) hx hb dL_changed_64 hl (by decide) rfl (fun ls hl => ?_)
        refine lv_iload hx hb dL_changed_66 (lv_at hl 7 rfl) ?_
        refine lv_iload hx hb dL_changed_68 (lv_at hl 1 rfl) ?_
        refine lv_icmp_ne (tgt := 142) hx hb dL_changed_70 (by decide) (fun c14 => ?_) (fun c14 => ?_)
        · have h := mm_neg c14 h
          have hl := lv_sub (l' := [(8, .int 0), (5, .int v1), (0, .ref (b + 0)), (1, .ref ad), (2, .int a2), (3, .int a3)]) hl [0, 2, 3, 4, 5, 6] rfl
          cases h
        · have h := mm_pos c14 h
          have hl := lv_sub (l' := [(8, .int 0), (7, .int v3), (5, .int v1), (0, .ref (b + 0)), (1, .ref ad), (2, .int a2), (3, .int a3)]) hl [0, 1, 2, 3, 4, 5, 6] rfl
          refine lv_aload_n hx hb dL_changed_73 rfl (lv_at hl 3 rfl) ?_
          refine lv_iload_n hx hb dL_changed_74 rfl (lv_at hl 5 rfl) ?_
          refine lv_iconst (v := 2) hx hb dL_changed_75 (by decide) ?_
          obtain ⟨v15, e15, h⟩ := mm_bnd h
          refine md_goi hH hA (va_runV (As := [.int a2, .int 2]) (rest := []) ⟨hx, hb, C.2.2.1, C.2.2.2.1, C.2.2.2.2.1⟩ (ct_X4_of l G T b z a2 2 x e15) (cwV 2 C.2.2.2.2.1 gL_changed_X4_of rfl rfl rfl df_X4_of ⟨Nat.le_of_ble_eq_true rfl, Nat.le_of_ble_eq_true rfl⟩) ⟨mm_B.blind, mm_recvL (q := (RX4, TX4, 7)) C hH.1 kl_0 (mm_e4 kd_0) rfl, mm_preL C hH.1 hA⟩ rfl rfl hl.1 rfl (lv_room (Nat.le_of_ble_eq_true rfl)) dL_changed_76 ⟨Nat.zero_le _, Nat.zero_le _⟩) (fun H locs hH => ?_)
          refine lv_iload hx hb dL_changed_79 (lv_at hl 1 rfl) ?_
          refine lv_icmp_ne (tgt := 142) hx hb dL_changed_81 (by decide) (fun c15 => ?_) (fun c15 => ?_)
          · have h := mm_neg c15 h
            have hl := lv_sub (l' := [(8, .int 0), (5, .int v1), (0, .ref (b + 0)), (1, .ref ad), (2, .int a2), (3, .int a3)]) hl [0, 2, 3, 4, 5, 6] rfl
            cases h
          · have h := mm_pos c15 h
            have hl := lv_sub (l' := [(8, .int 0), (5, .int v1), (0, .ref (b + 0)), (1, .ref ad), (2, .int a2), (3, .int a3)]) hl [0, 2, 3, 4, 5, 6] rfl
            refine lv_aload_n hx hb dL_changed_84 rfl (lv_at hl 2 rfl) ?_
            refine lv_iload_n hx hb dL_changed_85 rfl (lv_at hl 4 rfl) ?_
            refine lv_iconst (v := 3) hx hb dL_changed_86 (by decide) ?_
            obtain ⟨v16, e16, h⟩ := mm_bnd h
            refine md_goi hH hA (va_runV (As := [.int a2, .int 3]) (rest := []) ⟨hx, hb, C.2.2.1, C.2.2.2.1, C.2.2.2.2.1⟩ (ct_X4_of l G T b z a2 3 x e16) (cwV 2 C.2.2.2.2.1 gL_changed_X4_of rfl rfl rfl df_X4_of ⟨Nat.le_of_ble_eq_true rfl, Nat.le_of_ble_eq_true rfl⟩) ⟨mm_B.blind, mm_recvL (q := (RX4, TX4, 7)) C hH.1 kl_0 (mm_e4 kd_0) rfl, mm_preL C hH.1 hA⟩ rfl rfl hl.1 rfl (lv_room (Nat.le_of_ble_eq_true rfl)) dL_changed_87 ⟨Nat.zero_le _, Nat.zero_le _⟩) (fun H locs hH => ?_)
            refine lv_iload hx hb dL_changed_90 (lv_at hl 0 rfl) ?_
            refine lv_if_eq (tgt := 99) hx hb dL_changed_92 (by decide) (fun _ => ?_) (fun c => absurd (by decide) c)
            refine lv_aload_n hx hb dL_changed_99 rfl (lv_at hl 3 rfl) ?_
            refine lv_iload hx hb dL_changed_100 (lv_at hl 1 rfl) ?_
            refine lv_iconst (v := 3) hx hb dL_changed_102 (by decide) ?_
            refine lv_iadd hx hb dL_changed_103 ?_
            obtain ⟨g8, h⟩ := mm_grn h
            refine md_dld C hH g8 dL_changed_104 ?_
            refine lv_icmp_ne (tgt := 142) hx hb dL_changed_105 (by decide) (fun c16 => ?_) (fun c16 => ?_)
            · have h := mm_neg c16 h
              cases h
            · have h := mm_pos c16 h
              refine lv_aload_n hx hb dL_changed_108 rfl (lv_at hl 2 rfl) ?_
              refine lv_iload_n hx hb dL_changed_109 rfl (lv_at hl 4 rfl) ?_
              refine lv_iconst (v := 4) hx hb dL_changed_110 (by decide) ?_
              obtain ⟨v17, e17, h⟩ := mm_bnd h
              refine md_goi hH hA (va_runV (As := [.int a2, .int 4]) (rest := []) ⟨hx, hb, C.2.2.1, C.2.2.2.1, C.2.2.2.2.1⟩ (ct_X4_of l G T b z a2 4 x e17) (cwV 2 C.2.2.2.2.1 gL_changed_X4_of rfl rfl rfl df_X4_of ⟨Nat.le_of_ble_eq_true rfl, Nat.le_of_ble_eq_true rfl⟩) ⟨mm_B.blind, mm_recvL (q := (RX4, TX4, 7)) C hH.1 kl_0 (mm_e4 kd_0) rfl, mm_preL C hH.1 hA⟩ rfl rfl hl.1 rfl (lv_room (Nat.le_of_ble_eq_true rfl)) dL_changed_111 ⟨Nat.zero_le _, Nat.zero_le _⟩) (fun H locs hH => ?_)
              refine lv_aload_n hx hb dL_changed_114 rfl (lv_at hl 3 rfl) ?_
              refine lv_iload hx hb dL_changed_115 (lv_at hl 1 rfl) ?_
              refine lv_iconst (v := 4) hx hb dL_changed_117 (by decide) ?_
              refine lv_iadd hx hb dL_changed_118 ?_
              obtain ⟨g9, h⟩ := mm_grn h
              refine md_dld C hH g9 dL_changed_119 ?_
              refine lv_icmp_ne (tgt := 142) hx hb dL_changed_120 (by decide) (fun c17 => ?_) (fun c17 => ?_)
              · have h := mm_neg c17 h
                cases h
              · have h := mm_pos c17 h
                refine lv_aload_n hx hb dL_changed_123 rfl (lv_at hl 2 rfl) ?_
                refine lv_iload_n hx hb dL_changed_124 rfl (lv_at hl 4 rfl) ?_
                refine lv_iconst (v := 5) hx hb dL_changed_125 (by decide) ?_
                obtain ⟨v18, e18, h⟩ := mm_bnd h
                refine md_goi hH hA (va_runV (As := [.int a2, .int 5]) (rest := []) ⟨hx, hb, C.2.2.1, C.2.2.2.1, C.2.2.2.2.1⟩ (ct_X4_of l G T b z a2 5 x e18) (cwV 2 C.2.2.2.2.1 gL_changed_X4_of rfl rfl rfl df_X4_of ⟨Nat.le_of_ble_eq_true rfl, Nat.le_of_ble_eq_true rfl⟩) ⟨mm_B.blind, mm_recvL (q := (RX4, TX4, 7)) C hH.1 kl_0 (mm_e4 kd_0) rfl, mm_preL C hH.1 hA⟩ rfl rfl hl.1 rfl (lv_room (Nat.le_of_ble_eq_true rfl)) dL_changed_126 ⟨Nat.zero_le _, Nat.zero_le _⟩) (fun H locs hH => ?_)
                refine lv_aload_n hx hb dL_changed_129 rfl (lv_at hl 3 rfl) ?_
                refine lv_iload hx hb dL_changed_130 (lv_at hl 1 rfl) ?_
                refine lv_iconst (v := 5) hx hb dL_changed_132 (by decide) ?_
                refine lv_iadd hx hb dL_changed_133 ?_
                obtain ⟨g10, h⟩ := mm_grn h
                refine md_dld C hH g10 dL_changed_134 ?_
                refine lv_icmp_ne (tgt := 142) hx hb dL_changed_135 (by decide) (fun c18 => ?_) (fun c18 => ?_)
                · have h := mm_neg c18 h
                  cases h
                · have h := mm_pos c18 h
                  refine lv_iconst (v := 1) hx hb dL_changed_138 (by decide) ?_
                  refine lv_goto (tgt := 143) hx hb dL_changed_139 (by decide) ?_
                  refine lv_istore (lv' := [(9, .int 1), (8, .int 0), (5, .int v1), (0, .ref (b + 0)), (1, .ref ad), (2, .int a2), (3, .int a3)]) hx hb dL_changed_143 hl (by decide) rfl (fun ls hl => ?_)
                  refine lv_aload_n hx hb dL_changed_145 rfl (lv_at hl 3 rfl) ?_
                  refine lv_iload_n hx hb dL_changed_146 rfl (lv_at hl 5 rfl) ?_
                  refine lv_bipush (v := 6) hx hb dL_changed_147 (by decide) ?_
                  obtain ⟨v19, e19, h⟩ := mm_bnd h
                  refine md_goi hH hA (va_runV (As := [.int a2, .int 6]) (rest := []) ⟨hx, hb, C.2.2.1, C.2.2.2.1, C.2.2.2.2.1⟩ (ct_X4_of l G T b z a2 6 x e19) (cwV 2 C.2.2.2.2.1 gL_changed_X4_of rfl rfl rfl df_X4_of ⟨Nat.le_of_ble_eq_true rfl, Nat.le_of_ble_eq_true rfl⟩) ⟨mm_B.blind, mm_recvL (q := (RX4, TX4, 7)) C hH.1 kl_0 (mm_e4 kd_0) rfl, mm_preL C hH.1 hA⟩ rfl rfl hl.1 rfl (lv_room (Nat.le_of_ble_eq_true rfl)) dL_changed_149 ⟨Nat.zero_le _, Nat.zero_le _⟩) (fun H locs hH => ?_)
                  refine lv_aload_n hx hb dL_changed_152 rfl (lv_at hl 4 rfl) ?_
                  refine lv_iload hx hb dL_changed_153 (lv_at hl 2 rfl) ?_
                  refine lv_bipush (v := 6) hx hb dL_changed_155 (by decide) ?_
                  refine lv_iadd hx hb dL_changed_157 ?_
                  obtain ⟨g11, h⟩ := mm_grn h
                  refine md_dld C hH g11 dL_changed_158 ?_
                  refine lv_iconst (v := 1) hx hb dL_changed_159 (by decide) ?_
                  refine lv_iadd hx hb dL_changed_160 ?_
                  refine lv_icmp_ne (tgt := 196) hx hb dL_changed_161 (by decide) (fun c19 => ?_) (fun c19 => ?_)
                  · have h := mm_neg c19 h
                    have hl := lv_sub (l' := [(9, .int 1), (8, .int 0), (0, .ref (b + 0)), (2, .int a2), (3, .int a3)]) hl [0, 1, 3, 5, 6] rfl
                    cases h
                  · have h := mm_pos c19 h
                    refine lv_aload_n hx hb dL_changed_164 rfl (lv_at hl 3 rfl) ?_
                    refine lv_iload_n hx hb dL_changed_165 rfl (lv_at hl 5 rfl) ?_
                    refine lv_bipush (v := 7) hx hb dL_changed_166 (by decide) ?_
                    obtain ⟨v20, e20, h⟩ := mm_bnd h
                    refine md_goi hH hA (va_runV (As := [.int a2, .int 7]) (rest := []) ⟨hx, hb, C.2.2.1, C.2.2.2.1, C.2.2.2.2.1⟩ (ct_X4_of l G T b z a2 7 x e20) (cwV 2 C.2.2.2.2.1 gL_changed_X4_of rfl rfl rfl df_X4_of ⟨Nat.le_of_ble_eq_true rfl, Nat.le_of_ble_eq_true rfl⟩) ⟨mm_B.blind, mm_recvL (q := (RX4, TX4, 7)) C hH.1 kl_0 (mm_e4 kd_0) rfl, mm_preL C hH.1 hA⟩ rfl rfl hl.1 rfl (lv_room (Nat.le_of_ble_eq_true rfl)) dL_changed_168 ⟨Nat.zero_le _, Nat.zero_le _⟩) (fun H locs hH => ?_)
                    refine lv_aload_n hx hb dL_changed_171 rfl (lv_at hl 4 rfl) ?_
                    refine lv_iload hx hb dL_changed_172 (lv_at hl 2 rfl) ?_
                    refine lv_bipush (v := 7) hx hb dL_changed_174 (by decide) ?_
                    refine lv_iadd hx hb dL_changed_176 ?_
                    obtain ⟨g12, h⟩ := mm_grn h
                    refine md_dld C hH g12 dL_changed_177 ?_
                    refine lv_iload hx hb dL_changed_178 (lv_at hl 1 rfl) ?_
                    refine lv_if_eq (tgt := 187) hx hb dL_changed_180 (by decide) (fun _ => ?_) (fun c => absurd (by decide) c)
                    have hl := lv_sub (l' := [(9, .int 1), (8, .int 0), (0, .ref (b + 0)), (2, .int a2), (3, .int a3)]) hl [0, 1, 3, 5, 6] rfl
                    refine lv_iconst (v := 0) hx hb dL_changed_187 (by decide) ?_
                    refine lv_iadd hx hb dL_changed_188 ?_
                    refine lv_icmp_ne (tgt := 196) hx hb dL_changed_189 (by decide) (fun c20 => ?_) (fun c20 => ?_)
                    · have h := mm_neg c20 h
                      cases h
                    · have h := mm_pos c20 h
                      refine lv_iconst (v := 1) hx hb dL_changed_192 (by decide) ?_
                      refine lv_goto (tgt := 197) hx hb dL_changed_193 (by decide) ?_
                      refine lv_istore (lv' := [(10, .int 1), (9, .int 1), (8, .int 0), (0, .ref (b + 0)), (2, .int a2), (3, .int a3)]) hx hb dL_changed_197 hl (by decide) rfl (fun ls hl => ?_)
                      refine lv_iload hx hb dL_changed_199 (lv_at hl 2 rfl) ?_
                      refine lv_if_eq (tgt := 208) hx hb dL_changed_201 (by decide) (fun _ => ?_) (fun c => absurd (by decide) c)
                      refine lv_iconst (v := 0) hx hb dL_changed_208 (by decide) ?_
                      refine lv_istore (lv' := [(11, .int 0), (10, .int 1), (9, .int 1), (8, .int 0), (0, .ref (b + 0)), (2, .int a2), (3, .int a3)]) hx hb dL_changed_209 hl (by decide) rfl (fun ls hl => ?_)
                      refine lv_aload_n hx hb dL_changed_211 rfl (lv_at hl 4 rfl) ?_
                      refine lv_iload hx hb dL_changed_212 (lv_at hl 0 rfl) ?_
                      refine lv_iconst (v := 0) hx hb dL_changed_214 (by decide) ?_
                      obtain ⟨v21, e21, h⟩ := mm_bnd h
                      refine md_goi hH hA (va_runV (As := [.int 0, .int 0]) (rest := []) ⟨hx, hb, C.2.2.1, C.2.2.2.1, C.2.2.2.2.1⟩ (ct_X4_log l G T b z 0 0 x e21) (cwV 2 C.2.2.2.2.1 gL_changed_X4_log rfl rfl rfl df_X4_log ⟨Nat.le_of_ble_eq_true rfl, Nat.le_of_ble_eq_true rfl⟩) ⟨mm_B.blind, mm_recvL (q := (RX4, TX4, 7)) C hH.1 kl_0 (mm_e4 kd_0) rfl, mm_preL C hH.1 hA⟩ rfl rfl hl.1 rfl (lv_room (Nat.le_of_ble_eq_true rfl)) dL_changed_215 ⟨Nat.zero_le _, Nat.zero_le _⟩) (fun H locs hH => ?_)
                      refine lv_iload_n hx hb dL_changed_218 rfl (lv_at hl 6 rfl) ?_
                      refine lv_icmp_ne (tgt := 277) hx hb dL_changed_219 (by decide) (fun c21 => ?_) (fun c21 => ?_)
                      · have h := mm_neg c21 h
                        have hl := lv_sub (l' := [(10, .int 1), (9, .int 1)]) hl [1, 2] rfl
                        cases h
                      · have h := mm_pos c21 h
                        have hl := lv_sub (l' := [(11, .int 0), (10, .int 1), (9, .int 1), (8, .int 0), (0, .ref (b + 0)), (2, .int a2)]) hl [0, 1, 2, 3, 4, 5] rfl
                        refine lv_aload_n hx hb dL_changed_222 rfl (lv_at hl 4 rfl) ?_
                        refine lv_iload hx hb dL_changed_223 (lv_at hl 0 rfl) ?_
                        refine lv_iconst (v := 1) hx hb dL_changed_225 (by decide) ?_
                        obtain ⟨v22, e22, h⟩ := mm_bnd h
                        refine md_goi hH hA (va_runV (As := [.int 0, .int 1]) (rest := []) ⟨hx, hb, C.2.2.1, C.2.2.2.1, C.2.2.2.2.1⟩ (ct_X4_log l G T b z 0 1 x e22) (cwV 2 C.2.2.2.2.1 gL_changed_X4_log rfl rfl rfl df_X4_log ⟨Nat.le_of_ble_eq_true rfl, Nat.le_of_ble_eq_true rfl⟩) ⟨mm_B.blind, mm_recvL (q := (RX4, TX4, 7)) C hH.1 kl_0 (mm_e4 kd_0) rfl, mm_preL C hH.1 hA⟩ rfl rfl hl.1 rfl (lv_room (Nat.le_of_ble_eq_true rfl)) dL_changed_226 ⟨Nat.zero_le _, Nat.zero_le _⟩) (fun H locs hH => ?_)
                        refine lv_iload_n hx hb dL_changed_229 rfl (lv_at hl 5 rfl) ?_
                        refine lv_icmp_ne (tgt := 277) hx hb dL_changed_230 (by decide) (fun c22 => ?_) (fun c22 => ?_)
                        · have h := mm_neg c22 h
                          have hl := lv_sub (l' := [(10, .int 1), (9, .int 1)]) hl [1, 2] rfl
                          cases h
                        · have h := mm_pos c22 h
                          refine lv_aload_n hx hb dL_changed_233 rfl (lv_at hl 4 rfl) ?_
                          refine lv_iload hx hb dL_changed_234 (lv_at hl 0 rfl) ?_
                          refine lv_iconst (v := 2) hx hb dL_changed_236 (by decide) ?_
                          obtain ⟨v23, e23, h⟩ := mm_bnd h
                          refine md_goi hH hA (va_runV (As := [.int 0, .int 2]) (rest := []) ⟨hx, hb, C.2.2.1, C.2.2.2.1, C.2.2.2.2.1⟩ (ct_X4_log l G T b z 0 2 x e23) (cwV 2 C.2.2.2.2.1 gL_changed_X4_log rfl rfl rfl df_X4_log ⟨Nat.le_of_ble_eq_true rfl, Nat.le_of_ble_eq_true rfl⟩) ⟨mm_B.blind, mm_recvL (q := (RX4, TX4, 7)) C hH.1 kl_0 (mm_e4 kd_0) rfl, mm_preL C hH.1 hA⟩ rfl rfl hl.1 rfl (lv_room (Nat.le_of_ble_eq_true rfl)) dL_changed_237 ⟨Nat.zero_le _, Nat.zero_le _⟩) (fun H locs hH => ?_)
                          refine lv_aload_n hx hb dL_changed_240 rfl (lv_at hl 4 rfl) ?_
                          refine lv_iconst (v := 0) hx hb dL_changed_241 (by decide) ?_
                          obtain ⟨v24, e24, h⟩ := mm_bnd h
                          refine md_goi hH hA (va_runV (As := [.int 0]) (rest := [.int v23]) ⟨hx, hb, C.2.2.1, C.2.2.2.1, C.2.2.2.2.1⟩ (ct_X4_count l G T b z 0 x e24) (cwV 1 C.2.2.2.2.1 gL_changed_X4_count rfl rfl rfl df_X4_count ⟨Nat.le_of_ble_eq_true rfl, Nat.le_of_ble_eq_true rfl⟩) ⟨mm_B.blind, mm_recvL (q := (RX4, TX4, 7)) C hH.1 kl_0 (mm_e4 kd_0) rfl, mm_preL C hH.1 hA⟩ rfl rfl hl.1 rfl (lv_room (Nat.le_of_ble_eq_true rfl)) dL_changed_242 ⟨Nat.zero_le _, Nat.zero_le _⟩) (fun H locs hH => ?_)
                          refine lv_icmp_ne (tgt := 277) hx hb dL_changed_245 (by decide) (fun c23 => ?_) (fun c23 => ?_)
                          · have h := mm_neg c23 h
                            have hl := lv_sub (l' := [(10, .int 1), (9, .int 1)]) hl [1, 2] rfl
                            cases h
                          · have h := mm_pos c23 h
                            have hl := lv_sub (l' := [(10, .int 1), (9, .int 1), (8, .int 0), (0, .ref (b + 0)), (2, .int a2)]) hl [1, 2, 3, 4, 5] rfl
                            refine lv_iload hx hb dL_changed_248 (lv_at hl 2 rfl) ?_
                            refine lv_if_eq (tgt := 273) hx hb dL_changed_250 (by decide) (fun _ => ?_) (fun c => absurd (by decide) c)
                            have hl := lv_sub (l' := [(10, .int 1), (9, .int 1)]) hl [0, 1] rfl
                            refine lv_iconst (v := 1) hx hb dL_changed_273 (by decide) ?_
                            refine lv_goto (tgt := 278) hx hb dL_changed_274 (by decide) ?_
                            refine lv_istore (lv' := [(12, .int 1), (10, .int 1), (9, .int 1)]) hx hb dL_changed_278 hl (by decide) rfl (fun ls hl => ?_)
                            refine lv_iload hx hb dL_changed_280 (lv_at hl 2 rfl) ?_
                            refine lv_if_eq (tgt := 299) hx hb dL_changed_282 (by decide) (fun c => absurd c (by decide)) (fun _ => ?_)
                            have hl := lv_sub (l' := [(12, .int 1), (10, .int 1)]) hl [0, 1] rfl
                            refine lv_iload hx hb dL_changed_285 (lv_at hl 1 rfl) ?_
                            refine lv_if_eq (tgt := 299) hx hb dL_changed_287 (by decide) (fun c => absurd c (by decide)) (fun _ => ?_)
                            have hl := lv_sub (l' := [(12, .int 1)]) hl [0] rfl
                            refine lv_iload hx hb dL_changed_290 (lv_at hl 0 rfl) ?_
                            refine lv_if_eq (tgt := 299) hx hb dL_changed_292 (by decide) (fun c => absurd c (by decide)) (fun _ => ?_)
                            have hl := lv_sub (l' := []) hl [] rfl
                            refine lv_iconst (v := 1) hx hb dL_changed_295 (by decide) ?_
                            refine lv_goto (tgt := 300) hx hb dL_changed_296 (by decide) ?_
                            exact mm_iretP C hH.1 hr hlk rfl h dL_changed_300
      · have h := mm_pos c13 h
        refine lv_iconst (v := 1) hx hb dL_changed_59 (by decide) ?_
        refine lv_goto (tgt := 64) hx hb dL_changed_60 (by decide) ?_
        refine lv_istore (lv' := [(8, .int 1), (7, .int v3), (5, .int v1), (0, .ref (b + 0)), (1, .ref ad), (2, .int a2), (3, .int a3), (4, .int a4)]) hx hb dL_changed_64 hl (by decide) rfl (fun ls hl => ?_)
        refine lv_iload hx hb dL_changed_66 (lv_at hl 7 rfl) ?_
        refine lv_iload hx hb dL_changed_68 (lv_at hl 1 rfl) ?_
        refine lv_icmp_ne (tgt := 142) hx hb dL_changed_70 (by decide) (fun c24 => ?_) (fun c24 => ?_)
        · have h := mm_neg c24 h
          have hl := lv_sub (l' := [(8, .int 1), (5, .int v1), (0, .ref (b + 0)), (1, .ref ad), (2, .int a2), (3, .int a3)]) hl [0, 2, 3, 4, 5, 6] rfl
          cases h
        · have h := mm_pos c24 h
          have hl := lv_sub (l' := [(8, .int 1), (7, .int v3), (5, .int v1), (0, .ref (b + 0)), (1, .ref ad), (2, .int a2), (3, .int a3)]) hl [0, 1, 2, 3, 4, 5, 6] rfl
          refine lv_aload_n hx hb dL_changed_73 rfl (lv_at hl 3 rfl) ?_
          refine lv_iload_n hx hb dL_changed_74 rfl (lv_at hl 5 rfl) ?_
          refine lv_iconst (v := 2) hx hb dL_changed_75 (by decide) ?_
          obtain ⟨v25, e25, h⟩ := mm_bnd h
          refine md_goi hH hA (va_runV (As := [.int a2, .int 2]) (rest := []) ⟨hx, hb, C.2.2.1, C.2.2.2.1, C.2.2.2.2.1⟩ (ct_X4_of l G T b z a2 2 x e25) (cwV 2 C.2.2.2.2.1 gL_changed_X4_of rfl rfl rfl df_X4_of ⟨Nat.le_of_ble_eq_true rfl, Nat.le_of_ble_eq_true rfl⟩) ⟨mm_B.blind, mm_recvL (q := (RX4, TX4, 7)) C hH.1 kl_0 (mm_e4 kd_0) rfl, mm_preL C hH.1 hA⟩ rfl rfl hl.1 rfl (lv_room (Nat.le_of_ble_eq_true rfl)) dL_changed_76 ⟨Nat.zero_le _, Nat.zero_le _⟩) (fun H locs hH => ?_)
          refine lv_iload hx hb dL_changed_79 (lv_at hl 1 rfl) ?_
          refine lv_icmp_ne (tgt := 142) hx hb dL_changed_81 (by decide) (fun c25 => ?_) (fun c25 => ?_)
          · have h := mm_neg c25 h
            have hl := lv_sub (l' := [(8, .int 1), (5, .int v1), (0, .ref (b + 0)), (1, .ref ad), (2, .int a2), (3, .int a3)]) hl [0, 2, 3, 4, 5, 6] rfl
            cases h
          · have h := mm_pos c25 h
            have hl := lv_sub (l' := [(8, .int 1), (5, .int v1), (0, .ref (b + 0)), (1, .ref ad), (2, .int a2), (3, .int a3)]) hl [0, 2, 3, 4, 5, 6] rfl
            refine lv_aload_n hx hb dL_changed_84 rfl (lv_at hl 2 rfl) ?_
            refine lv_iload_n hx hb dL_changed_85 rfl (lv_at hl 4 rfl) ?_
            refine lv_iconst (v := 3) hx hb dL_changed_86 (by decide) ?_
            obtain ⟨v26, e26, h⟩ := mm_bnd h
            refine md_goi hH hA (va_runV (As := [.int a2, .int 3]) (rest := []) ⟨hx, hb, C.2.2.1, C.2.2.2.1, C.2.2.2.2.1⟩ (ct_X4_of l G T b z a2 3 x e26) (cwV 2 C.2.2.2.2.1 gL_changed_X4_of rfl rfl rfl df_X4_of ⟨Nat.le_of_ble_eq_true rfl, Nat.le_of_ble_eq_true rfl⟩) ⟨mm_B.blind, mm_recvL (q := (RX4, TX4, 7)) C hH.1 kl_0 (mm_e4 kd_0) rfl, mm_preL C hH.1 hA⟩ rfl rfl hl.1 rfl (lv_room (Nat.le_of_ble_eq_true rfl)) dL_changed_87 ⟨Nat.zero_le _, Nat.zero_le _⟩) (fun H locs hH => ?_)
            refine lv_iload hx hb dL_changed_90 (lv_at hl 0 rfl) ?_
            refine lv_if_eq (tgt := 99) hx hb dL_changed_92 (by decide) (fun c => absurd c (by decide)) (fun _ => ?_)
            refine lv_iconst (v := 1) hx hb dL_changed_95 (by decide) ?_
            refine lv_goto (tgt := 105) hx hb dL_changed_96 (by decide) ?_
            refine lv_icmp_ne (tgt := 142) hx hb dL_changed_105 (by decide) (fun c26 => ?_) (fun c26 => ?_)
            · have h := mm_neg c26 h
              cases h
            · have h := mm_pos c26 h
              refine lv_aload_n hx hb dL_changed_108 rfl (lv_at hl 2 rfl) ?_
              refine lv_iload_n hx hb dL_changed_109 rfl (lv_at hl 4 rfl) ?_
              refine lv_iconst (v := 4) hx hb dL_changed_110 (by decide) ?_
              obtain ⟨v27, e27, h⟩ := mm_bnd h
              refine md_goi hH hA (va_runV (As := [.int a2, .int 4]) (rest := []) ⟨hx, hb, C.2.2.1, C.2.2.2.1, C.2.2.2.2.1⟩ (ct_X4_of l G T b z a2 4 x e27) (cwV 2 C.2.2.2.2.1 gL_changed_X4_of rfl rfl rfl df_X4_of ⟨Nat.le_of_ble_eq_true rfl, Nat.le_of_ble_eq_true rfl⟩) ⟨mm_B.blind, mm_recvL (q := (RX4, TX4, 7)) C hH.1 kl_0 (mm_e4 kd_0) rfl, mm_preL C hH.1 hA⟩ rfl rfl hl.1 rfl (lv_room (Nat.le_of_ble_eq_true rfl)) dL_changed_111 ⟨Nat.zero_le _, Nat.zero_le _⟩) (fun H locs hH => ?_)
              refine lv_aload_n hx hb dL_changed_114 rfl (lv_at hl 3 rfl) ?_
              refine lv_iload hx hb dL_changed_115 (lv_at hl 1 rfl) ?_
              refine lv_iconst (v := 4) hx hb dL_changed_117 (by decide) ?_
              refine lv_iadd hx hb dL_changed_118 ?_
              obtain ⟨g13, h⟩ := mm_grn h
              refine md_dld C hH g13 dL_changed_119 ?_
              refine lv_icmp_ne (tgt := 142) hx hb dL_changed_120 (by decide) (fun c27 => ?_) (fun c27 => ?_)
              · have h := mm_neg c27 h
                cases h
              · have h := mm_pos c27 h
                refine lv_aload_n hx hb dL_changed_123 rfl (lv_at hl 2 rfl) ?_
                refine lv_iload_n hx hb dL_changed_124 rfl (lv_at hl 4 rfl) ?_
                refine lv_iconst (v := 5) hx hb dL_changed_125 (by decide) ?_
                obtain ⟨v28, e28, h⟩ := mm_bnd h
                refine md_goi hH hA (va_runV (As := [.int a2, .int 5]) (rest := []) ⟨hx, hb, C.2.2.1, C.2.2.2.1, C.2.2.2.2.1⟩ (ct_X4_of l G T b z a2 5 x e28) (cwV 2 C.2.2.2.2.1 gL_changed_X4_of rfl rfl rfl df_X4_of ⟨Nat.le_of_ble_eq_true rfl, Nat.le_of_ble_eq_true rfl⟩) ⟨mm_B.blind, mm_recvL (q := (RX4, TX4, 7)) C hH.1 kl_0 (mm_e4 kd_0) rfl, mm_preL C hH.1 hA⟩ rfl rfl hl.1 rfl (lv_room (Nat.le_of_ble_eq_true rfl)) dL_changed_126 ⟨Nat.zero_le _, Nat.zero_le _⟩) (fun H locs hH => ?_)
                refine lv_aload_n hx hb dL_changed_129 rfl (lv_at hl 3 rfl) ?_
                refine lv_iload hx hb dL_changed_130 (lv_at hl 1 rfl) ?_
                refine lv_iconst (v := 5) hx hb dL_changed_132 (by decide) ?_
                refine lv_iadd hx hb dL_changed_133 ?_
                obtain ⟨g14, h⟩ := mm_grn h
                refine md_dld C hH g14 dL_changed_134 ?_
                refine lv_icmp_ne (tgt := 142) hx hb dL_changed_135 (by decide) (fun c28 => ?_) (fun c28 => ?_)
                · have h := mm_neg c28 h
                  cases h
                · have h := mm_pos c28 h
                  refine lv_iconst (v := 1) hx hb dL_changed_138 (by decide) ?_
                  refine lv_goto (tgt := 143) hx hb dL_changed_139 (by decide) ?_
                  refine lv_istore (lv' := [(9, .int 1), (8, .int 1), (5, .int v1), (0, .ref (b + 0)), (1, .ref ad), (2, .int a2), (3, .int a3)]) hx hb dL_changed_143 hl (by decide) rfl (fun ls hl => ?_)
                  refine lv_aload_n hx hb dL_changed_145 rfl (lv_at hl 3 rfl) ?_
                  refine lv_iload_n hx hb dL_changed_146 rfl (lv_at hl 5 rfl) ?_
                  refine lv_bipush (v := 6) hx hb dL_changed_147 (by decide) ?_
                  obtain ⟨v29, e29, h⟩ := mm_bnd h
                  refine md_goi hH hA (va_runV (As := [.int a2, .int 6]) (rest := []) ⟨hx, hb, C.2.2.1, C.2.2.2.1, C.2.2.2.2.1⟩ (ct_X4_of l G T b z a2 6 x e29) (cwV 2 C.2.2.2.2.1 gL_changed_X4_of rfl rfl rfl df_X4_of ⟨Nat.le_of_ble_eq_true rfl, Nat.le_of_ble_eq_true rfl⟩) ⟨mm_B.blind, mm_recvL (q := (RX4, TX4, 7)) C hH.1 kl_0 (mm_e4 kd_0) rfl, mm_preL C hH.1 hA⟩ rfl rfl hl.1 rfl (lv_room (Nat.le_of_ble_eq_true rfl)) dL_changed_149 ⟨Nat.zero_le _, Nat.zero_le _⟩) (fun H locs hH => ?_)
                  refine lv_aload_n hx hb dL_changed_152 rfl (lv_at hl 4 rfl) ?_
                  refine lv_iload hx hb dL_changed_153 (lv_at hl 2 rfl) ?_
                  refine lv_bipush (v := 6) hx hb dL_changed_155 (by decide) ?_
                  refine lv_iadd hx hb dL_changed_157 ?_
                  obtain ⟨g15, h⟩ := mm_grn h
                  refine md_dld C hH g15 dL_changed_158 ?_
                  refine lv_iconst (v := 1) hx hb dL_changed_159 (by decide) ?_
                  refine lv_iadd hx hb dL_changed_160 ?_
                  refine lv_icmp_ne (tgt := 196) hx hb dL_changed_161 (by decide) (fun c29 => ?_) (fun c29 => ?_)
                  · have h := mm_neg c29 h
                    have hl := lv_sub (l' := [(9, .int 1), (8, .int 1), (0, .ref (b + 0)), (2, .int a2), (3, .int a3)]) hl [0, 1, 3, 5, 6] rfl
                    cases h
                  · have h := mm_pos c29 h
                    refine lv_aload_n hx hb dL_changed_164 rfl (lv_at hl 3 rfl) ?_
                    refine lv_iload_n hx hb dL_changed_165 rfl (lv_at hl 5 rfl) ?_
                    refine lv_bipush (v := 7) hx hb dL_changed_166 (by decide) ?_
                    obtain ⟨v30, e30, h⟩ := mm_bnd h
                    refine md_goi hH hA (va_runV (As := [.int a2, .int 7]) (rest := []) ⟨hx, hb, C.2.2.1, C.2.2.2.1, C.2.2.2.2.1⟩ (ct_X4_of l G T b z a2 7 x e30) (cwV 2 C.2.2.2.2.1 gL_changed_X4_of rfl rfl rfl df_X4_of ⟨Nat.le_of_ble_eq_true rfl, Nat.le_of_ble_eq_true rfl⟩) ⟨mm_B.blind, mm_recvL (q := (RX4, TX4, 7)) C hH.1 kl_0 (mm_e4 kd_0) rfl, mm_preL C hH.1 hA⟩ rfl rfl hl.1 rfl (lv_room (Nat.le_of_ble_eq_true rfl)) dL_changed_168 ⟨Nat.zero_le _, Nat.zero_le _⟩) (fun H locs hH => ?_)
                    refine lv_aload_n hx hb dL_changed_171 rfl (lv_at hl 4 rfl) ?_
                    refine lv_iload hx hb dL_changed_172 (lv_at hl 2 rfl) ?_
                    refine lv_bipush (v := 7) hx hb dL_changed_174 (by decide) ?_
                    refine lv_iadd hx hb dL_changed_176 ?_
                    obtain ⟨g16, h⟩ := mm_grn h
                    refine md_dld C hH g16 dL_changed_177 ?_
                    refine lv_iload hx hb dL_changed_178 (lv_at hl 1 rfl) ?_
                    refine lv_if_eq (tgt := 187) hx hb dL_changed_180 (by decide) (fun c => absurd c (by decide)) (fun _ => ?_)
                    have hl := lv_sub (l' := [(9, .int 1), (8, .int 1), (0, .ref (b + 0)), (2, .int a2), (3, .int a3)]) hl [0, 1, 3, 5, 6] rfl
                    refine lv_iconst (v := 1) hx hb dL_changed_183 (by decide) ?_
                    refine lv_goto (tgt := 188) hx hb dL_changed_184 (by decide) ?_
                    refine lv_iadd hx hb dL_changed_188 ?_
                    refine lv_icmp_ne (tgt := 196) hx hb dL_changed_189 (by decide) (fun c30 => ?_) (fun c30 => ?_)
                    · have h := mm_neg c30 h
                      cases h
                    · have h := mm_pos c30 h
                      refine lv_iconst (v := 1) hx hb dL_changed_192 (by decide) ?_
                      refine lv_goto (tgt := 197) hx hb dL_changed_193 (by decide) ?_
                      refine lv_istore (lv' := [(10, .int 1), (9, .int 1), (8, .int 1), (0, .ref (b + 0)), (2, .int a2), (3, .int a3)]) hx hb dL_changed_197 hl (by decide) rfl (fun ls hl => ?_)
                      refine lv_iload hx hb dL_changed_199 (lv_at hl 2 rfl) ?_
                      refine lv_if_eq (tgt := 208) hx hb dL_changed_201 (by decide) (fun c => absurd c (by decide)) (fun _ => ?_)
                      refine lv_iconst (v := 1) hx hb dL_changed_204 (by decide) ?_
                      refine lv_goto (tgt := 209) hx hb dL_changed_205 (by decide) ?_
                      refine lv_istore (lv' := [(11, .int 1), (10, .int 1), (9, .int 1), (8, .int 1), (0, .ref (b + 0)), (2, .int a2), (3, .int a3)]) hx hb dL_changed_209 hl (by decide) rfl (fun ls hl => ?_)
                      refine lv_aload_n hx hb dL_changed_211 rfl (lv_at hl 4 rfl) ?_
                      refine lv_iload hx hb dL_changed_212 (lv_at hl 0 rfl) ?_
                      refine lv_iconst (v := 0) hx hb dL_changed_214 (by decide) ?_
                      obtain ⟨v31, e31, h⟩ := mm_bnd h
                      refine md_goi hH hA (va_runV (As := [.int 1, .int 0]) (rest := []) ⟨hx, hb, C.2.2.1, C.2.2.2.1, C.2.2.2.2.1⟩ (ct_X4_log l G T b z 1 0 x e31) (cwV 2 C.2.2.2.2.1 gL_changed_X4_log rfl rfl rfl df_X4_log ⟨Nat.le_of_ble_eq_true rfl, Nat.le_of_ble_eq_true rfl⟩) ⟨mm_B.blind, mm_recvL (q := (RX4, TX4, 7)) C hH.1 kl_0 (mm_e4 kd_0) rfl, mm_preL C hH.1 hA⟩ rfl rfl hl.1 rfl (lv_room (Nat.le_of_ble_eq_true rfl)) dL_changed_215 ⟨Nat.zero_le _, Nat.zero_le _⟩) (fun H locs hH => ?_)
                      refine lv_iload_n hx hb dL_changed_218 rfl (lv_at hl 6 rfl) ?_
                      refine lv_icmp_ne (tgt := 277) hx hb dL_changed_219 (by decide) (fun c31 => ?_) (fun c31 => ?_)
                      · have h := mm_neg c31 h
                        have hl := lv_sub (l' := [(10, .int 1), (9, .int 1)]) hl [1, 2] rfl
                        cases h
                      · have h := mm_pos c31 h
                        have hl := lv_sub (l' := [(11, .int 1), (10, .int 1), (9, .int 1), (8, .int 1), (0, .ref (b + 0)), (2, .int a2)]) hl [0, 1, 2, 3, 4, 5] rfl
                        refine lv_aload_n hx hb dL_changed_222 rfl (lv_at hl 4 rfl) ?_
                        refine lv_iload hx hb dL_changed_223 (lv_at hl 0 rfl) ?_
                        refine lv_iconst (v := 1) hx hb dL_changed_225 (by decide) ?_
                        obtain ⟨v32, e32, h⟩ := mm_bnd h
                        refine md_goi hH hA (va_runV (As := [.int 1, .int 1]) (rest := []) ⟨hx, hb, C.2.2.1, C.2.2.2.1, C.2.2.2.2.1⟩ (ct_X4_log l G T b z 1 1 x e32) (cwV 2 C.2.2.2.2.1 gL_changed_X4_log rfl rfl rfl df_X4_log ⟨Nat.le_of_ble_eq_true rfl, Nat.le_of_ble_eq_true rfl⟩) ⟨mm_B.blind, mm_recvL (q := (RX4, TX4, 7)) C hH.1 kl_0 (mm_e4 kd_0) rfl, mm_preL C hH.1 hA⟩ rfl rfl hl.1 rfl (lv_room (Nat.le_of_ble_eq_true rfl)) dL_changed_226 ⟨Nat.zero_le _, Nat.zero_le _⟩) (fun H locs hH => ?_)
                        refine lv_iload_n hx hb dL_changed_229 rfl (lv_at hl 5 rfl) ?_
                        refine lv_icmp_ne (tgt := 277) hx hb dL_changed_230 (by decide) (fun c32 => ?_) (fun c32 => ?_)
                        · have h := mm_neg c32 h
                          have hl := lv_sub (l' := [(10, .int 1), (9, .int 1)]) hl [1, 2] rfl
                          cases h
                        · have h := mm_pos c32 h
                          refine lv_aload_n hx hb dL_changed_233 rfl (lv_at hl 4 rfl) ?_
                          refine lv_iload hx hb dL_changed_234 (lv_at hl 0 rfl) ?_
                          refine lv_iconst (v := 2) hx hb dL_changed_236 (by decide) ?_
                          obtain ⟨v33, e33, h⟩ := mm_bnd h
                          refine md_goi hH hA (va_runV (As := [.int 1, .int 2]) (rest := []) ⟨hx, hb, C.2.2.1, C.2.2.2.1, C.2.2.2.2.1⟩ (ct_X4_log l G T b z 1 2 x e33) (cwV 2 C.2.2.2.2.1 gL_changed_X4_log rfl rfl rfl df_X4_log ⟨Nat.le_of_ble_eq_true rfl, Nat.le_of_ble_eq_true rfl⟩) ⟨mm_B.blind, mm_recvL (q := (RX4, TX4, 7)) C hH.1 kl_0 (mm_e4 kd_0) rfl, mm_preL C hH.1 hA⟩ rfl rfl hl.1 rfl (lv_room (Nat.le_of_ble_eq_true rfl)) dL_changed_237 ⟨Nat.zero_le _, Nat.zero_le _⟩) (fun H locs hH => ?_)
                          refine lv_aload_n hx hb dL_changed_240 rfl (lv_at hl 4 rfl) ?_
                          refine lv_iconst (v := 0) hx hb dL_changed_241 (by decide) ?_
                          obtain ⟨v34, e34, h⟩ := mm_bnd h
                          refine md_goi hH hA (va_runV (As := [.int 0]) (rest := [.int v33]) ⟨hx, hb, C.2.2.1, C.2.2.2.1, C.2.2.2.2.1⟩ (ct_X4_count l G T b z 0 x e34) (cwV 1 C.2.2.2.2.1 gL_changed_X4_count rfl rfl rfl df_X4_count ⟨Nat.le_of_ble_eq_true rfl, Nat.le_of_ble_eq_true rfl⟩) ⟨mm_B.blind, mm_recvL (q := (RX4, TX4, 7)) C hH.1 kl_0 (mm_e4 kd_0) rfl, mm_preL C hH.1 hA⟩ rfl rfl hl.1 rfl (lv_room (Nat.le_of_ble_eq_true rfl)) dL_changed_242 ⟨Nat.zero_le _, Nat.zero_le _⟩) (fun H locs hH => ?_)
                          refine lv_icmp_ne (tgt := 277) hx hb dL_changed_245 (by decide) (fun c33 => ?_) (fun c33 => ?_)
                          · have h := mm_neg c33 h
                            have hl := lv_sub (l' := [(10, .int 1), (9, .int 1)]) hl [1, 2] rfl
                            cases h
                          · have h := mm_pos c33 h
                            have hl := lv_sub (l' := [(10, .int 1), (9, .int 1), (8, .int 1), (0, .ref (b + 0)), (2, .int a2)]) hl [1, 2, 3, 4, 5] rfl
                            refine lv_iload hx hb dL_changed_248 (lv_at hl 2 rfl) ?_
                            refine lv_if_eq (tgt := 273) hx hb dL_changed_250 (by decide) (fun c => absurd c (by decide)) (fun _ => ?_)
                            have hl := lv_sub (l' := [(10, .int 1), (9, .int 1), (0, .ref (b + 0)), (2, .int a2)]) hl [0, 1, 3, 4] rfl
                            refine lv_aload_n hx hb dL_changed_253 rfl (lv_at hl 2 rfl) ?_
                            refine lv_iconst (v := 0) hx hb dL_changed_254 (by decide) ?_
                            refine lv_iconst (v := 0) hx hb dL_changed_255 (by decide) ?_
                            obtain ⟨v35, e35, h⟩ := mm_bnd h
                            refine md_goi hH hA (va_runV (As := [.int 0, .int 0]) (rest := []) ⟨hx, hb, C.2.2.1, C.2.2.2.1, C.2.2.2.2.1⟩ (ct_X4_log l G T b z 0 0 x e35) (cwV 2 C.2.2.2.2.1 gL_changed_X4_log rfl rfl rfl df_X4_log ⟨Nat.le_of_ble_eq_true rfl, Nat.le_of_ble_eq_true rfl⟩) ⟨mm_B.blind, mm_recvL (q := (RX4, TX4, 7)) C hH.1 kl_0 (mm_e4 kd_0) rfl, mm_preL C hH.1 hA⟩ rfl rfl hl.1 rfl (lv_room (Nat.le_of_ble_eq_true rfl)) dL_changed_256 ⟨Nat.zero_le _, Nat.zero_le _⟩) (fun H locs hH => ?_)
                            refine lv_iconst (v := 3) hx hb dL_changed_259 (by decide) ?_
                            refine lv_icmp_ne (tgt := 277) hx hb dL_changed_260 (by decide) (fun c34 => ?_) (fun c34 => ?_)
                            · have h := mm_neg c34 h
                              have hl := lv_sub (l' := [(10, .int 1), (9, .int 1)]) hl [0, 1] rfl
                              cases h
                            · have h := mm_pos c34 h
                              refine lv_aload_n hx hb dL_changed_263 rfl (lv_at hl 2 rfl) ?_
                              refine lv_iconst (v := 0) hx hb dL_changed_264 (by decide) ?_
                              refine lv_iconst (v := 1) hx hb dL_changed_265 (by decide) ?_
                              obtain ⟨v36, e36, h⟩ := mm_bnd h
                              refine md_goi hH hA (va_runV (As := [.int 0, .int 1]) (rest := []) ⟨hx, hb, C.2.2.1, C.2.2.2.1, C.2.2.2.2.1⟩ (ct_X4_log l G T b z 0 1 x e36) (cwV 2 C.2.2.2.2.1 gL_changed_X4_log rfl rfl rfl df_X4_log ⟨Nat.le_of_ble_eq_true rfl, Nat.le_of_ble_eq_true rfl⟩) ⟨mm_B.blind, mm_recvL (q := (RX4, TX4, 7)) C hH.1 kl_0 (mm_e4 kd_0) rfl, mm_preL C hH.1 hA⟩ rfl rfl hl.1 rfl (lv_room (Nat.le_of_ble_eq_true rfl)) dL_changed_266 ⟨Nat.zero_le _, Nat.zero_le _⟩) (fun H locs hH => ?_)
                              refine lv_iload_n hx hb dL_changed_269 rfl (lv_at hl 3 rfl) ?_
                              refine lv_icmp_ne (tgt := 277) hx hb dL_changed_270 (by decide) (fun c35 => ?_) (fun c35 => ?_)
                              · have h := mm_neg c35 h
                                have hl := lv_sub (l' := [(10, .int 1), (9, .int 1)]) hl [0, 1] rfl
                                cases h
                              · have h := mm_pos c35 h
                                have hl := lv_sub (l' := [(10, .int 1), (9, .int 1)]) hl [0, 1] rfl
                                refine lv_iconst (v := 1) hx hb dL_changed_273 (by decide) ?_
                                refine lv_goto (tgt := 278) hx hb dL_changed_274 (by decide) ?_
                                refine lv_istore (lv' := [(12, .int 1), (10, .int 1), (9, .int 1)]) hx hb dL_changed_278 hl (by decide) rfl (fun ls hl => ?_)
                                refine lv_iload hx hb dL_changed_280 (lv_at hl 2 rfl) ?_
                                refine lv_if_eq (tgt := 299) hx hb dL_changed_282 (by decide) (fun c => absurd c (by decide)) (fun _ => ?_)
                                have hl := lv_sub (l' := [(12, .int 1), (10, .int 1)]) hl [0, 1] rfl
                                refine lv_iload hx hb dL_changed_285 (lv_at hl 1 rfl) ?_
                                refine lv_if_eq (tgt := 299) hx hb dL_changed_287 (by decide) (fun c => absurd c (by decide)) (fun _ => ?_)
                                have hl := lv_sub (l' := [(12, .int 1)]) hl [0] rfl
                                refine lv_iload hx hb dL_changed_290 (lv_at hl 0 rfl) ?_
                                refine lv_if_eq (tgt := 299) hx hb dL_changed_292 (by decide) (fun c => absurd c (by decide)) (fun _ => ?_)
                                have hl := lv_sub (l' := []) hl [] rfl
                                refine lv_iconst (v := 1) hx hb dL_changed_295 (by decide) ?_
                                refine lv_goto (tgt := 300) hx hb dL_changed_296 (by decide) ?_
                                exact mm_iretP C hH.1 hr hlk rfl h dL_changed_300
  · have h := mm_neg c1 h
    have hl := lv_sub (l' := [(5, .int v1), (0, .ref (b + 0)), (1, .ref ad), (2, .int a2), (3, .int a3), (4, .int a4)]) hl [1, 2, 3, 4, 5, 6] rfl
    refine lv_ldc (own := RL) (v := 99999) hx hb C.2.2.2.1 w1 dL_changed_30 ?_
    refine lv_goto (tgt := 37) hx hb dL_changed_32 (by decide) ?_
    refine lv_istore (lv' := [(7, .int 99999), (5, .int v1), (0, .ref (b + 0)), (1, .ref ad), (2, .int a2), (3, .int a3), (4, .int a4)]) hx hb dL_changed_37 hl (by decide) rfl (fun ls hl => ?_)
    refine lv_iload hx hb dL_changed_39 (lv_at hl 0 rfl) ?_
    refine lv_aload_n hx hb dL_changed_41 rfl (lv_at hl 2 rfl) ?_
    refine lv_bipush (v := 11) hx hb dL_changed_42 (by decide) ?_
    obtain ⟨v37, e37, h⟩ := mm_bnd h
    refine md_goi hH hA (va_runV (As := [.int 11]) (rest := [.int 99999]) ⟨hx, hb, C.2.2.1, C.2.2.2.1, C.2.2.2.2.1⟩ (ct_X4_count l G T b z 11 x e37) (cwV 1 C.2.2.2.2.1 gL_changed_X4_count rfl rfl rfl df_X4_count ⟨Nat.le_of_ble_eq_true rfl, Nat.le_of_ble_eq_true rfl⟩) ⟨mm_B.blind, mm_recvL (q := (RX4, TX4, 7)) C hH.1 kl_0 (mm_e4 kd_0) rfl, mm_preL C hH.1 hA⟩ rfl rfl hl.1 rfl (lv_room (Nat.le_of_ble_eq_true rfl)) dL_changed_44 ⟨Nat.zero_le _, Nat.zero_le _⟩) (fun H locs hH => ?_)
    refine lv_icmp_le (tgt := 63) hx hb dL_changed_47 (by decide) (fun c36 => ?_) (fun c36 => ?_)
    · have h := mm_pos c36 h
      refine lv_iconst (v := 0) hx hb dL_changed_63 (by decide) ?_
      refine lv_istore (lv' := [(8, .int 0), (7, .int 99999), (5, .int v1), (0, .ref (b + 0)), (1, .ref ad), (2, .int a2), (3, .int a3), (4, .int a4)]) hx hb dL_changed_64 hl (by decide) rfl (fun ls hl => ?_)
      refine lv_iload hx hb dL_changed_66 (lv_at hl 7 rfl) ?_
      refine lv_iload hx hb dL_changed_68 (lv_at hl 1 rfl) ?_
      refine lv_icmp_ne (tgt := 142) hx hb dL_changed_70 (by decide) (fun c37 => ?_) (fun c37 => ?_)
      · have h := mm_neg c37 h
        have hl := lv_sub (l' := [(8, .int 0), (5, .int v1), (0, .ref (b + 0)), (1, .ref ad), (2, .int a2), (3, .int a3)]) hl [0, 2, 3, 4, 5, 6] rfl
        cases h
      · have h := mm_pos c37 h
        have hl := lv_sub (l' := [(8, .int 0), (7, .int 99999), (5, .int v1), (0, .ref (b + 0)), (1, .ref ad), (2, .int a2), (3, .int a3)]) hl [0, 1, 2, 3, 4, 5, 6] rfl
        refine lv_aload_n hx hb dL_changed_73 rfl (lv_at hl 3 rfl) ?_
        refine lv_iload_n hx hb dL_changed_74 rfl (lv_at hl 5 rfl) ?_
        refine lv_iconst (v := 2) hx hb dL_changed_75 (by decide) ?_
        obtain ⟨v38, e38, h⟩ := mm_bnd h
        refine md_goi hH hA (va_runV (As := [.int a2, .int 2]) (rest := []) ⟨hx, hb, C.2.2.1, C.2.2.2.1, C.2.2.2.2.1⟩ (ct_X4_of l G T b z a2 2 x e38) (cwV 2 C.2.2.2.2.1 gL_changed_X4_of rfl rfl rfl df_X4_of ⟨Nat.le_of_ble_eq_true rfl, Nat.le_of_ble_eq_true rfl⟩) ⟨mm_B.blind, mm_recvL (q := (RX4, TX4, 7)) C hH.1 kl_0 (mm_e4 kd_0) rfl, mm_preL C hH.1 hA⟩ rfl rfl hl.1 rfl (lv_room (Nat.le_of_ble_eq_true rfl)) dL_changed_76 ⟨Nat.zero_le _, Nat.zero_le _⟩) (fun H locs hH => ?_)
        refine lv_iload hx hb dL_changed_79 (lv_at hl 1 rfl) ?_
        refine lv_icmp_ne (tgt := 142) hx hb dL_changed_81 (by decide) (fun c38 => ?_) (fun c38 => ?_)
        · have h := mm_neg c38 h
          have hl := lv_sub (l' := [(8, .int 0), (5, .int v1), (0, .ref (b + 0)), (1, .ref ad), (2, .int a2), (3, .int a3)]) hl [0, 2, 3, 4, 5, 6] rfl
          cases h
        · have h := mm_pos c38 h
          have hl := lv_sub (l' := [(8, .int 0), (5, .int v1), (0, .ref (b + 0)), (1, .ref ad), (2, .int a2), (3, .int a3)]) hl [0, 2, 3, 4, 5, 6] rfl
          refine lv_aload_n hx hb dL_changed_84 rfl (lv_at hl 2 rfl) ?_
          refine lv_iload_n hx hb dL_changed_85 rfl (lv_at hl 4 rfl) ?_
          refine lv_iconst (v := 3) hx hb dL_changed_86 (by decide) ?_
          obtain ⟨v39, e39, h⟩ := mm_bnd h
          refine md_goi hH hA (va_runV (As := [.int a2, .int 3]) (rest := []) ⟨hx, hb, C.2.2.1, C.2.2.2.1, C.2.2.2.2.1⟩ (ct_X4_of l G T b z a2 3 x e39) (cwV 2 C.2.2.2.2.1 gL_changed_X4_of rfl rfl rfl df_X4_of ⟨Nat.le_of_ble_eq_true rfl, Nat.le_of_ble_eq_true rfl⟩) ⟨mm_B.blind, mm_recvL (q := (RX4, TX4, 7)) C hH.1 kl_0 (mm_e4 kd_0) rfl, mm_preL C hH.1 hA⟩ rfl rfl hl.1 rfl (lv_room (Nat.le_of_ble_eq_true rfl)) dL_changed_87 ⟨Nat.zero_le _, Nat.zero_le _⟩) (fun H locs hH => ?_)
          refine lv_iload hx hb dL_changed_90 (lv_at hl 0 rfl) ?_
          refine lv_if_eq (tgt := 99) hx hb dL_changed_92 (by decide) (fun _ => ?_) (fun c => absurd (by decide) c)
          refine lv_aload_n hx hb dL_changed_99 rfl (lv_at hl 3 rfl) ?_
          refine lv_iload hx hb dL_changed_100 (lv_at hl 1 rfl) ?_
          refine lv_iconst (v := 3) hx hb dL_changed_102 (by decide) ?_
          refine lv_iadd hx hb dL_changed_103 ?_
          obtain ⟨g17, h⟩ := mm_grn h
          refine md_dld C hH g17 dL_changed_104 ?_
          refine lv_icmp_ne (tgt := 142) hx hb dL_changed_105 (by decide) (fun c39 => ?_) (fun c39 => ?_)
          · have h := mm_neg c39 h
            cases h
          · have h := mm_pos c39 h
            refine lv_aload_n hx hb dL_changed_108 rfl (lv_at hl 2 rfl) ?_
            refine lv_iload_n hx hb dL_changed_109 rfl (lv_at hl 4 rfl) ?_
            refine lv_iconst (v := 4) hx hb dL_changed_110 (by decide) ?_
            obtain ⟨v40, e40, h⟩ := mm_bnd h
            refine md_goi hH hA (va_runV (As := [.int a2, .int 4]) (rest := []) ⟨hx, hb, C.2.2.1, C.2.2.2.1, C.2.2.2.2.1⟩ (ct_X4_of l G T b z a2 4 x e40) (cwV 2 C.2.2.2.2.1 gL_changed_X4_of rfl rfl rfl df_X4_of ⟨Nat.le_of_ble_eq_true rfl, Nat.le_of_ble_eq_true rfl⟩) ⟨mm_B.blind, mm_recvL (q := (RX4, TX4, 7)) C hH.1 kl_0 (mm_e4 kd_0) rfl, mm_preL C hH.1 hA⟩ rfl rfl hl.1 rfl (lv_room (Nat.le_of_ble_eq_true rfl)) dL_changed_111 ⟨Nat.zero_le _, Nat.zero_le _⟩) (fun H locs hH => ?_)
            refine lv_aload_n hx hb dL_changed_114 rfl (lv_at hl 3 rfl) ?_
            refine lv_iload hx hb dL_changed_115 (lv_at hl 1 rfl) ?_
            refine lv_iconst (v := 4) hx hb dL_changed_117 (by decide) ?_
            refine lv_iadd hx hb dL_changed_118 ?_
            obtain ⟨g18, h⟩ := mm_grn h
            refine md_dld C hH g18 dL_changed_119 ?_
            refine lv_icmp_ne (tgt := 142) hx hb dL_changed_120 (by decide) (fun c40 => ?_) (fun c40 => ?_)
            · have h := mm_neg c40 h
              cases h
            · have h := mm_pos c40 h
              refine lv_aload_n hx hb dL_changed_123 rfl (lv_at hl 2 rfl) ?_
              refine lv_iload_n hx hb dL_changed_124 rfl (lv_at hl 4 rfl) ?_
              refine lv_iconst (v := 5) hx hb dL_changed_125 (by decide) ?_
              obtain ⟨v41, e41, h⟩ := mm_bnd h
              refine md_goi hH hA (va_runV (As := [.int a2, .int 5]) (rest := []) ⟨hx, hb, C.2.2.1, C.2.2.2.1, C.2.2.2.2.1⟩ (ct_X4_of l G T b z a2 5 x e41) (cwV 2 C.2.2.2.2.1 gL_changed_X4_of rfl rfl rfl df_X4_of ⟨Nat.le_of_ble_eq_true rfl, Nat.le_of_ble_eq_true rfl⟩) ⟨mm_B.blind, mm_recvL (q := (RX4, TX4, 7)) C hH.1 kl_0 (mm_e4 kd_0) rfl, mm_preL C hH.1 hA⟩ rfl rfl hl.1 rfl (lv_room (Nat.le_of_ble_eq_true rfl)) dL_changed_126 ⟨Nat.zero_le _, Nat.zero_le _⟩) (fun H locs hH => ?_)
              refine lv_aload_n hx hb dL_changed_129 rfl (lv_at hl 3 rfl) ?_
              refine lv_iload hx hb dL_changed_130 (lv_at hl 1 rfl) ?_
              refine lv_iconst (v := 5) hx hb dL_changed_132 (by decide) ?_
              refine lv_iadd hx hb dL_changed_133 ?_
              obtain ⟨g19, h⟩ := mm_grn h
              refine md_dld C hH g19 dL_changed_134 ?_
              refine lv_icmp_ne (tgt := 142) hx hb dL_changed_135 (by decide) (fun c41 => ?_) (fun c41 => ?_)
              · have h := mm_neg c41 h
                cases h
              · have h := mm_pos c41 h
                refine lv_iconst (v := 1) hx hb dL_changed_138 (by decide) ?_
                refine lv_goto (tgt := 143) hx hb dL_changed_139 (by decide) ?_
                refine lv_istore (lv' := [(9, .int 1), (8, .int 0), (5, .int v1), (0, .ref (b + 0)), (1, .ref ad), (2, .int a2), (3, .int a3)]) hx hb dL_changed_143 hl (by decide) rfl (fun ls hl => ?_)
                refine lv_aload_n hx hb dL_changed_145 rfl (lv_at hl 3 rfl) ?_
                refine lv_iload_n hx hb dL_changed_146 rfl (lv_at hl 5 rfl) ?_
                refine lv_bipush (v := 6) hx hb dL_changed_147 (by decide) ?_
                obtain ⟨v42, e42, h⟩ := mm_bnd h
                refine md_goi hH hA (va_runV (As := [.int a2, .int 6]) (rest := []) ⟨hx, hb, C.2.2.1, C.2.2.2.1, C.2.2.2.2.1⟩ (ct_X4_of l G T b z a2 6 x e42) (cwV 2 C.2.2.2.2.1 gL_changed_X4_of rfl rfl rfl df_X4_of ⟨Nat.le_of_ble_eq_true rfl, Nat.le_of_ble_eq_true rfl⟩) ⟨mm_B.blind, mm_recvL (q := (RX4, TX4, 7)) C hH.1 kl_0 (mm_e4 kd_0) rfl, mm_preL C hH.1 hA⟩ rfl rfl hl.1 rfl (lv_room (Nat.le_of_ble_eq_true rfl)) dL_changed_149 ⟨Nat.zero_le _, Nat.zero_le _⟩) (fun H locs hH => ?_)
                refine lv_aload_n hx hb dL_changed_152 rfl (lv_at hl 4 rfl) ?_
                refine lv_iload hx hb dL_changed_153 (lv_at hl 2 rfl) ?_
                refine lv_bipush (v := 6) hx hb dL_changed_155 (by decide) ?_
                refine lv_iadd hx hb dL_changed_157 ?_
                obtain ⟨g20, h⟩ := mm_grn h
                refine md_dld C hH g20 dL_changed_158 ?_
                refine lv_iconst (v := 1) hx hb dL_changed_159 (by decide) ?_
                refine lv_iadd hx hb dL_changed_160 ?_
                refine lv_icmp_ne (tgt := 196) hx hb dL_changed_161 (by decide) (fun c42 => ?_) (fun c42 => ?_)
                · have h := mm_neg c42 h
                  have hl := lv_sub (l' := [(9, .int 1), (8, .int 0), (0, .ref (b + 0)), (2, .int a2), (3, .int a3)]) hl [0, 1, 3, 5, 6] rfl
                  cases h
                · have h := mm_pos c42 h
                  refine lv_aload_n hx hb dL_changed_164 rfl (lv_at hl 3 rfl) ?_
                  refine lv_iload_n hx hb dL_changed_165 rfl (lv_at hl 5 rfl) ?_
                  refine lv_bipush (v := 7) hx hb dL_changed_166 (by decide) ?_
                  obtain ⟨v43, e43, h⟩ := mm_bnd h
                  refine md_goi hH hA (va_runV (As := [.int a2, .int 7]) (rest := []) ⟨hx, hb, C.2.2.1, C.2.2.2.1, C.2.2.2.2.1⟩ (ct_X4_of l G T b z a2 7 x e43) (cwV 2 C.2.2.2.2.1 gL_changed_X4_of rfl rfl rfl df_X4_of ⟨Nat.le_of_ble_eq_true rfl, Nat.le_of_ble_eq_true rfl⟩) ⟨mm_B.blind, mm_recvL (q := (RX4, TX4, 7)) C hH.1 kl_0 (mm_e4 kd_0) rfl, mm_preL C hH.1 hA⟩ rfl rfl hl.1 rfl (lv_room (Nat.le_of_ble_eq_true rfl)) dL_changed_168 ⟨Nat.zero_le _, Nat.zero_le _⟩) (fun H locs hH => ?_)
                  refine lv_aload_n hx hb dL_changed_171 rfl (lv_at hl 4 rfl) ?_
                  refine lv_iload hx hb dL_changed_172 (lv_at hl 2 rfl) ?_
                  refine lv_bipush (v := 7) hx hb dL_changed_174 (by decide) ?_
                  refine lv_iadd hx hb dL_changed_176 ?_
                  obtain ⟨g21, h⟩ := mm_grn h
                  refine md_dld C hH g21 dL_changed_177 ?_
                  refine lv_iload hx hb dL_changed_178 (lv_at hl 1 rfl) ?_
                  refine lv_if_eq (tgt := 187) hx hb dL_changed_180 (by decide) (fun _ => ?_) (fun c => absurd (by decide) c)
                  have hl := lv_sub (l' := [(9, .int 1), (8, .int 0), (0, .ref (b + 0)), (2, .int a2), (3, .int a3)]) hl [0, 1, 3, 5, 6] rfl
                  refine lv_iconst (v := 0) hx hb dL_changed_187 (by decide) ?_
                  refine lv_iadd hx hb dL_changed_188 ?_
                  refine lv_icmp_ne (tgt := 196) hx hb dL_changed_189 (by decide) (fun c43 => ?_) (fun c43 => ?_)
                  · have h := mm_neg c43 h
                    cases h
                  · have h := mm_pos c43 h
                    refine lv_iconst (v := 1) hx hb dL_changed_192 (by decide) ?_
                    refine lv_goto (tgt := 197) hx hb dL_changed_193 (by decide) ?_
                    refine lv_istore (lv' := [(10, .int 1), (9, .int 1), (8, .int 0), (0, .ref (b + 0)), (2, .int a2), (3, .int a3)]) hx hb dL_changed_197 hl (by decide) rfl (fun ls hl => ?_)
                    refine lv_iload hx hb dL_changed_199 (lv_at hl 2 rfl) ?_
                    refine lv_if_eq (tgt := 208) hx hb dL_changed_201 (by decide) (fun _ => ?_) (fun c => absurd (by decide) c)
                    refine lv_iconst (v := 0) hx hb dL_changed_208 (by decide) ?_
                    refine lv_istore (lv' := [(11, .int 0), (10, .int 1), (9, .int 1), (8, .int 0), (0, .ref (b + 0)), (2, .int a2), (3, .int a3)]) hx hb dL_changed_209 hl (by decide) rfl (fun ls hl => ?_)
                    refine lv_aload_n hx hb dL_changed_211 rfl (lv_at hl 4 rfl) ?_
                    refine lv_iload hx hb dL_changed_212 (lv_at hl 0 rfl) ?_
                    refine lv_iconst (v := 0) hx hb dL_changed_214 (by decide) ?_
                    obtain ⟨v44, e44, h⟩ := mm_bnd h
                    refine md_goi hH hA (va_runV (As := [.int 0, .int 0]) (rest := []) ⟨hx, hb, C.2.2.1, C.2.2.2.1, C.2.2.2.2.1⟩ (ct_X4_log l G T b z 0 0 x e44) (cwV 2 C.2.2.2.2.1 gL_changed_X4_log rfl rfl rfl df_X4_log ⟨Nat.le_of_ble_eq_true rfl, Nat.le_of_ble_eq_true rfl⟩) ⟨mm_B.blind, mm_recvL (q := (RX4, TX4, 7)) C hH.1 kl_0 (mm_e4 kd_0) rfl, mm_preL C hH.1 hA⟩ rfl rfl hl.1 rfl (lv_room (Nat.le_of_ble_eq_true rfl)) dL_changed_215 ⟨Nat.zero_le _, Nat.zero_le _⟩) (fun H locs hH => ?_)
                    refine lv_iload_n hx hb dL_changed_218 rfl (lv_at hl 6 rfl) ?_
                    refine lv_icmp_ne (tgt := 277) hx hb dL_changed_219 (by decide) (fun c44 => ?_) (fun c44 => ?_)
                    · have h := mm_neg c44 h
                      have hl := lv_sub (l' := [(10, .int 1), (9, .int 1)]) hl [1, 2] rfl
                      cases h
                    · have h := mm_pos c44 h
                      have hl := lv_sub (l' := [(11, .int 0), (10, .int 1), (9, .int 1), (8, .int 0), (0, .ref (b + 0)), (2, .int a2)]) hl [0, 1, 2, 3, 4, 5] rfl
                      refine lv_aload_n hx hb dL_changed_222 rfl (lv_at hl 4 rfl) ?_
                      refine lv_iload hx hb dL_changed_223 (lv_at hl 0 rfl) ?_
                      refine lv_iconst (v := 1) hx hb dL_changed_225 (by decide) ?_
                      obtain ⟨v45, e45, h⟩ := mm_bnd h
                      refine md_goi hH hA (va_runV (As := [.int 0, .int 1]) (rest := []) ⟨hx, hb, C.2.2.1, C.2.2.2.1, C.2.2.2.2.1⟩ (ct_X4_log l G T b z 0 1 x e45) (cwV 2 C.2.2.2.2.1 gL_changed_X4_log rfl rfl rfl df_X4_log ⟨Nat.le_of_ble_eq_true rfl, Nat.le_of_ble_eq_true rfl⟩) ⟨mm_B.blind, mm_recvL (q := (RX4, TX4, 7)) C hH.1 kl_0 (mm_e4 kd_0) rfl, mm_preL C hH.1 hA⟩ rfl rfl hl.1 rfl (lv_room (Nat.le_of_ble_eq_true rfl)) dL_changed_226 ⟨Nat.zero_le _, Nat.zero_le _⟩) (fun H locs hH => ?_)
                      refine lv_iload_n hx hb dL_changed_229 rfl (lv_at hl 5 rfl) ?_
                      refine lv_icmp_ne (tgt := 277) hx hb dL_changed_230 (by decide) (fun c45 => ?_) (fun c45 => ?_)
                      · have h := mm_neg c45 h
                        have hl := lv_sub (l' := [(10, .int 1), (9, .int 1)]) hl [1, 2] rfl
                        cases h
                      · have h := mm_pos c45 h
                        refine lv_aload_n hx hb dL_changed_233 rfl (lv_at hl 4 rfl) ?_
                        refine lv_iload hx hb dL_changed_234 (lv_at hl 0 rfl) ?_
                        refine lv_iconst (v := 2) hx hb dL_changed_236 (by decide) ?_
                        obtain ⟨v46, e46, h⟩ := mm_bnd h
                        refine md_goi hH hA (va_runV (As := [.int 0, .int 2]) (rest := []) ⟨hx, hb, C.2.2.1, C.2.2.2.1, C.2.2.2.2.1⟩ (ct_X4_log l G T b z 0 2 x e46) (cwV 2 C.2.2.2.2.1 gL_changed_X4_log rfl rfl rfl df_X4_log ⟨Nat.le_of_ble_eq_true rfl, Nat.le_of_ble_eq_true rfl⟩) ⟨mm_B.blind, mm_recvL (q := (RX4, TX4, 7)) C hH.1 kl_0 (mm_e4 kd_0) rfl, mm_preL C hH.1 hA⟩ rfl rfl hl.1 rfl (lv_room (Nat.le_of_ble_eq_true rfl)) dL_changed_237 ⟨Nat.zero_le _, Nat.zero_le _⟩) (fun H locs hH => ?_)
                        refine lv_aload_n hx hb dL_changed_240 rfl (lv_at hl 4 rfl) ?_
                        refine lv_iconst (v := 0) hx hb dL_changed_241 (by decide) ?_
                        obtain ⟨v47, e47, h⟩ := mm_bnd h
                        refine md_goi hH hA (va_runV (As := [.int 0]) (rest := [.int v46]) ⟨hx, hb, C.2.2.1, C.2.2.2.1, C.2.2.2.2.1⟩ (ct_X4_count l G T b z 0 x e47) (cwV 1 C.2.2.2.2.1 gL_changed_X4_count rfl rfl rfl df_X4_count ⟨Nat.le_of_ble_eq_true rfl, Nat.le_of_ble_eq_true rfl⟩) ⟨mm_B.blind, mm_recvL (q := (RX4, TX4, 7)) C hH.1 kl_0 (mm_e4 kd_0) rfl, mm_preL C hH.1 hA⟩ rfl rfl hl.1 rfl (lv_room (Nat.le_of_ble_eq_true rfl)) dL_changed_242 ⟨Nat.zero_le _, Nat.zero_le _⟩) (fun H locs hH => ?_)
                        refine lv_icmp_ne (tgt := 277) hx hb dL_changed_245 (by decide) (fun c46 => ?_) (fun c46 => ?_)
                        · have h := mm_neg c46 h
                          have hl := lv_sub (l' := [(10, .int 1), (9, .int 1)]) hl [1, 2] rfl
                          cases h
                        · have h := mm_pos c46 h
                          have hl := lv_sub (l' := [(10, .int 1), (9, .int 1), (8, .int 0), (0, .ref (b + 0)), (2, .int a2)]) hl [1, 2, 3, 4, 5] rfl
                          refine lv_iload hx hb dL_changed_248 (lv_at hl 2 rfl) ?_
                          refine lv_if_eq (tgt := 273) hx hb dL_changed_250 (by decide) (fun _ => ?_) (fun c => absurd (by decide) c)
                          have hl := lv_sub (l' := [(10, .int 1), (9, .int 1)]) hl [0, 1] rfl
                          refine lv_iconst (v := 1) hx hb dL_changed_273 (by decide) ?_
                          refine lv_goto (tgt := 278) hx hb dL_changed_274 (by decide) ?_
                          refine lv_istore (lv' := [(12, .int 1), (10, .int 1), (9, .int 1)]) hx hb dL_changed_278 hl (by decide) rfl (fun ls hl => ?_)
                          refine lv_iload hx hb dL_changed_280 (lv_at hl 2 rfl) ?_
                          refine lv_if_eq (tgt := 299) hx hb dL_changed_282 (by decide) (fun c => absurd c (by decide)) (fun _ => ?_)
                          have hl := lv_sub (l' := [(12, .int 1), (10, .int 1)]) hl [0, 1] rfl
                          refine lv_iload hx hb dL_changed_285 (lv_at hl 1 rfl) ?_
                          refine lv_if_eq (tgt := 299) hx hb dL_changed_287 (by decide) (fun c => absurd c (by decide)) (fun _ => ?_)
                          have hl := lv_sub (l' := [(12, .int 1)]) hl [0] rfl
                          refine lv_iload hx hb dL_changed_290 (lv_at hl 0 rfl) ?_
                          refine lv_if_eq (tgt := 299) hx hb dL_changed_292 (by decide) (fun c => absurd c (by decide)) (fun _ => ?_)
                          have hl := lv_sub (l' := []) hl [] rfl
                          refine lv_iconst (v := 1) hx hb dL_changed_295 (by decide) ?_
                          refine lv_goto (tgt := 300) hx hb dL_changed_296 (by decide) ?_
                          exact mm_iretP C hH.1 hr hlk rfl h dL_changed_300
    · have h := mm_neg c36 h
      refine lv_aload_n hx hb dL_changed_50 rfl (lv_at hl 3 rfl) ?_
      refine lv_iload hx hb dL_changed_51 (lv_at hl 1 rfl) ?_
      refine lv_iconst (v := 3) hx hb dL_changed_53 (by decide) ?_
      refine lv_iadd hx hb dL_changed_54 ?_
      obtain ⟨g22, h⟩ := mm_grn h
      refine md_dld C hH g22 dL_changed_55 ?_
      refine lv_if_ne (tgt := 63) hx hb dL_changed_56 (by decide) (fun c47 => ?_) (fun c47 => ?_)
      · have h := mm_neg c47 h
        refine lv_iconst (v := 0) hx hb dL_changed_63 (by decide) ?_
        refine lv_istore (lv' := [(8, .int 0), (7, .int 99999), (5, .int v1), (0, .ref (b + 0)), (1, .ref ad), (2, .int a2), (3, .int a3), (4, .int a4)]) hx hb dL_changed_64 hl (by decide) rfl (fun ls hl => ?_)
        refine lv_iload hx hb dL_changed_66 (lv_at hl 7 rfl) ?_
        refine lv_iload hx hb dL_changed_68 (lv_at hl 1 rfl) ?_
        refine lv_icmp_ne (tgt := 142) hx hb dL_changed_70 (by decide) (fun c48 => ?_) (fun c48 => ?_)
        · have h := mm_neg c48 h
          have hl := lv_sub (l' := [(8, .int 0), (5, .int v1), (0, .ref (b + 0)), (1, .ref ad), (2, .int a2), (3, .int a3)]) hl [0, 2, 3, 4, 5, 6] rfl
          cases h
        · have h := mm_pos c48 h
          have hl := lv_sub (l' := [(8, .int 0), (7, .int 99999), (5, .int v1), (0, .ref (b + 0)), (1, .ref ad), (2, .int a2), (3, .int a3)]) hl [0, 1, 2, 3, 4, 5, 6] rfl
          refine lv_aload_n hx hb dL_changed_73 rfl (lv_at hl 3 rfl) ?_
          refine lv_iload_n hx hb dL_changed_74 rfl (lv_at hl 5 rfl) ?_
          refine lv_iconst (v := 2) hx hb dL_changed_75 (by decide) ?_
          obtain ⟨v48, e48, h⟩ := mm_bnd h
          refine md_goi hH hA (va_runV (As := [.int a2, .int 2]) (rest := []) ⟨hx, hb, C.2.2.1, C.2.2.2.1, C.2.2.2.2.1⟩ (ct_X4_of l G T b z a2 2 x e48) (cwV 2 C.2.2.2.2.1 gL_changed_X4_of rfl rfl rfl df_X4_of ⟨Nat.le_of_ble_eq_true rfl, Nat.le_of_ble_eq_true rfl⟩) ⟨mm_B.blind, mm_recvL (q := (RX4, TX4, 7)) C hH.1 kl_0 (mm_e4 kd_0) rfl, mm_preL C hH.1 hA⟩ rfl rfl hl.1 rfl (lv_room (Nat.le_of_ble_eq_true rfl)) dL_changed_76 ⟨Nat.zero_le _, Nat.zero_le _⟩) (fun H locs hH => ?_)
          refine lv_iload hx hb dL_changed_79 (lv_at hl 1 rfl) ?_
          refine lv_icmp_ne (tgt := 142) hx hb dL_changed_81 (by decide) (fun c49 => ?_) (fun c49 => ?_)
          · have h := mm_neg c49 h
            have hl := lv_sub (l' := [(8, .int 0), (5, .int v1), (0, .ref (b + 0)), (1, .ref ad), (2, .int a2), (3, .int a3)]) hl [0, 2, 3, 4, 5, 6] rfl
            cases h
          · have h := mm_pos c49 h
            have hl := lv_sub (l' := [(8, .int 0), (5, .int v1), (0, .ref (b + 0)), (1, .ref ad), (2, .int a2), (3, .int a3)]) hl [0, 2, 3, 4, 5, 6] rfl
            refine lv_aload_n hx hb dL_changed_84 rfl (lv_at hl 2 rfl) ?_
            refine lv_iload_n hx hb dL_changed_85 rfl (lv_at hl 4 rfl) ?_
            refine lv_iconst (v := 3) hx hb dL_changed_86 (by decide) ?_
            obtain ⟨v49, e49, h⟩ := mm_bnd h
            refine md_goi hH hA (va_runV (As := [.int a2, .int 3]) (rest := []) ⟨hx, hb, C.2.2.1, C.2.2.2.1, C.2.2.2.2.1⟩ (ct_X4_of l G T b z a2 3 x e49) (cwV 2 C.2.2.2.2.1 gL_changed_X4_of rfl rfl rfl df_X4_of ⟨Nat.le_of_ble_eq_true rfl, Nat.le_of_ble_eq_true rfl⟩) ⟨mm_B.blind, mm_recvL (q := (RX4, TX4, 7)) C hH.1 kl_0 (mm_e4 kd_0) rfl, mm_preL C hH.1 hA⟩ rfl rfl hl.1 rfl (lv_room (Nat.le_of_ble_eq_true rfl)) dL_changed_87 ⟨Nat.zero_le _, Nat.zero_le _⟩) (fun H locs hH => ?_)
            refine lv_iload hx hb dL_changed_90 (lv_at hl 0 rfl) ?_
            refine lv_if_eq (tgt := 99) hx hb dL_changed_92 (by decide) (fun _ => ?_) (fun c => absurd (by decide) c)
            refine lv_aload_n hx hb dL_changed_99 rfl (lv_at hl 3 rfl) ?_
            refine lv_iload hx hb dL_changed_100 (lv_at hl 1 rfl) ?_
            refine lv_iconst (v := 3) hx hb dL_changed_102 (by decide) ?_
            refine lv_iadd hx hb dL_changed_103 ?_
            obtain ⟨g23, h⟩ := mm_grn h
            refine md_dld C hH g23 dL_changed_104 ?_
            refine lv_icmp_ne (tgt := 142) hx hb dL_changed_105 (by decide) (fun c50 => ?_) (fun c50 => ?_)
            · have h := mm_neg c50 h
              cases h
            · have h := mm_pos c50 h
              refine lv_aload_n hx hb dL_changed_108 rfl (lv_at hl 2 rfl) ?_
              refine lv_iload_n hx hb dL_changed_109 rfl (lv_at hl 4 rfl) ?_
              refine lv_iconst (v := 4) hx hb dL_changed_110 (by decide) ?_
              obtain ⟨v50, e50, h⟩ := mm_bnd h
              refine md_goi hH hA (va_runV (As := [.int a2, .int 4]) (rest := []) ⟨hx, hb, C.2.2.1, C.2.2.2.1, C.2.2.2.2.1⟩ (ct_X4_of l G T b z a2 4 x e50) (cwV 2 C.2.2.2.2.1 gL_changed_X4_of rfl rfl rfl df_X4_of ⟨Nat.le_of_ble_eq_true rfl, Nat.le_of_ble_eq_true rfl⟩) ⟨mm_B.blind, mm_recvL (q := (RX4, TX4, 7)) C hH.1 kl_0 (mm_e4 kd_0) rfl, mm_preL C hH.1 hA⟩ rfl rfl hl.1 rfl (lv_room (Nat.le_of_ble_eq_true rfl)) dL_changed_111 ⟨Nat.zero_le _, Nat.zero_le _⟩) (fun H locs hH => ?_)
              refine lv_aload_n hx hb dL_changed_114 rfl (lv_at hl 3 rfl) ?_
              refine lv_iload hx hb dL_changed_115 (lv_at hl 1 rfl) ?_
              refine lv_iconst (v := 4) hx hb dL_changed_117 (by decide) ?_
              refine lv_iadd hx hb dL_changed_118 ?_
              obtain ⟨g24, h⟩ := mm_grn h
              refine md_dld C hH g24 dL_changed_119 ?_
              refine lv_icmp_ne (tgt := 142) hx hb dL_changed_120 (by decide) (fun c51 => ?_) (fun c51 => ?_)
              · have h := mm_neg c51 h
                cases h
              · have h := mm_pos c51 h
                refine lv_aload_n hx hb dL_changed_123 rfl (lv_at hl 2 rfl) ?_
                refine lv_iload_n hx hb dL_changed_124 rfl (lv_at hl 4 rfl) ?_
                refine lv_iconst (v := 5) hx hb dL_changed_125 (by decide) ?_
                obtain ⟨v51, e51, h⟩ := mm_bnd h
                refine md_goi hH hA (va_runV (As := [.int a2, .int 5]) (rest := []) ⟨hx, hb, C.2.2.1, C.2.2.2.1, C.2.2.2.2.1⟩ (ct_X4_of l G T b z a2 5 x e51) (cwV 2 C.2.2.2.2.1 gL_changed_X4_of rfl rfl rfl df_X4_of ⟨Nat.le_of_ble_eq_true rfl, Nat.le_of_ble_eq_true rfl⟩) ⟨mm_B.blind, mm_recvL (q := (RX4, TX4, 7)) C hH.1 kl_0 (mm_e4 kd_0) rfl, mm_preL C hH.1 hA⟩ rfl rfl hl.1 rfl (lv_room (Nat.le_of_ble_eq_true rfl)) dL_changed_126 ⟨Nat.zero_le _, Nat.zero_le _⟩) (fun H locs hH => ?_)
                refine lv_aload_n hx hb dL_changed_129 rfl (lv_at hl 3 rfl) ?_
                refine lv_iload hx hb dL_changed_130 (lv_at hl 1 rfl) ?_
                refine lv_iconst (v := 5) hx hb dL_changed_132 (by decide) ?_
                refine lv_iadd hx hb dL_changed_133 ?_
                obtain ⟨g25, h⟩ := mm_grn h
                refine md_dld C hH g25 dL_changed_134 ?_
                refine lv_icmp_ne (tgt := 142) hx hb dL_changed_135 (by decide) (fun c52 => ?_) (fun c52 => ?_)
                · have h := mm_neg c52 h
                  cases h
                · have h := mm_pos c52 h
                  refine lv_iconst (v := 1) hx hb dL_changed_138 (by decide) ?_
                  refine lv_goto (tgt := 143) hx hb dL_changed_139 (by decide) ?_
                  refine lv_istore (lv' := [(9, .int 1), (8, .int 0), (5, .int v1), (0, .ref (b + 0)), (1, .ref ad), (2, .int a2), (3, .int a3)]) hx hb dL_changed_143 hl (by decide) rfl (fun ls hl => ?_)
                  refine lv_aload_n hx hb dL_changed_145 rfl (lv_at hl 3 rfl) ?_
                  refine lv_iload_n hx hb dL_changed_146 rfl (lv_at hl 5 rfl) ?_
                  refine lv_bipush (v := 6) hx hb dL_changed_147 (by decide) ?_
                  obtain ⟨v52, e52, h⟩ := mm_bnd h
                  refine md_goi hH hA (va_runV (As := [.int a2, .int 6]) (rest := []) ⟨hx, hb, C.2.2.1, C.2.2.2.1, C.2.2.2.2.1⟩ (ct_X4_of l G T b z a2 6 x e52) (cwV 2 C.2.2.2.2.1 gL_changed_X4_of rfl rfl rfl df_X4_of ⟨Nat.le_of_ble_eq_true rfl, Nat.le_of_ble_eq_true rfl⟩) ⟨mm_B.blind, mm_recvL (q := (RX4, TX4, 7)) C hH.1 kl_0 (mm_e4 kd_0) rfl, mm_preL C hH.1 hA⟩ rfl rfl hl.1 rfl (lv_room (Nat.le_of_ble_eq_true rfl)) dL_changed_149 ⟨Nat.zero_le _, Nat.zero_le _⟩) (fun H locs hH => ?_)
                  refine lv_aload_n hx hb dL_changed_152 rfl (lv_at hl 4 rfl) ?_
                  refine lv_iload hx hb dL_changed_153 (lv_at hl 2 rfl) ?_
                  refine lv_bipush (v := 6) hx hb dL_changed_155 (by decide) ?_
                  refine lv_iadd hx hb dL_changed_157 ?_
                  obtain ⟨g26, h⟩ := mm_grn h
                  refine md_dld C hH g26 dL_changed_158 ?_
                  refine lv_iconst (v := 1) hx hb dL_changed_159 (by decide) ?_
                  refine lv_iadd hx hb dL_changed_160 ?_
                  refine lv_icmp_ne (tgt := 196) hx hb dL_changed_161 (by decide) (fun c53 => ?_) (fun c53 => ?_)
                  · have h := mm_neg c53 h
                    have hl := lv_sub (l' := [(9, .int 1), (8, .int 0), (0, .ref (b + 0)), (2, .int a2), (3, .int a3)]) hl [0, 1, 3, 5, 6] rfl
                    cases h
                  · have h := mm_pos c53 h
                    refine lv_aload_n hx hb dL_changed_164 rfl (lv_at hl 3 rfl) ?_
                    refine lv_iload_n hx hb dL_changed_165 rfl (lv_at hl 5 rfl) ?_
                    refine lv_bipush (v := 7) hx hb dL_changed_166 (by decide) ?_
                    obtain ⟨v53, e53, h⟩ := mm_bnd h
                    refine md_goi hH hA (va_runV (As := [.int a2, .int 7]) (rest := []) ⟨hx, hb, C.2.2.1, C.2.2.2.1, C.2.2.2.2.1⟩ (ct_X4_of l G T b z a2 7 x e53) (cwV 2 C.2.2.2.2.1 gL_changed_X4_of rfl rfl rfl df_X4_of ⟨Nat.le_of_ble_eq_true rfl, Nat.le_of_ble_eq_true rfl⟩) ⟨mm_B.blind, mm_recvL (q := (RX4, TX4, 7)) C hH.1 kl_0 (mm_e4 kd_0) rfl, mm_preL C hH.1 hA⟩ rfl rfl hl.1 rfl (lv_room (Nat.le_of_ble_eq_true rfl)) dL_changed_168 ⟨Nat.zero_le _, Nat.zero_le _⟩) (fun H locs hH => ?_)
                    refine lv_aload_n hx hb dL_changed_171 rfl (lv_at hl 4 rfl) ?_
                    refine lv_iload hx hb dL_changed_172 (lv_at hl 2 rfl) ?_
                    refine lv_bipush (v := 7) hx hb dL_changed_174 (by decide) ?_
                    refine lv_iadd hx hb dL_changed_176 ?_
                    obtain ⟨g27, h⟩ := mm_grn h
                    refine md_dld C hH g27 dL_changed_177 ?_
                    refine lv_iload hx hb dL_changed_178 (lv_at hl 1 rfl) ?_
                    refine lv_if_eq (tgt := 187) hx hb dL_changed_180 (by decide) (fun _ => ?_) (fun c => absurd (by decide) c)
                    have hl := lv_sub (l' := [(9, .int 1), (8, .int 0), (0, .ref (b + 0)), (2, .int a2), (3, .int a3)]) hl [0, 1, 3, 5, 6] rfl
                    refine lv_iconst (v := 0) hx hb dL_changed_187 (by decide) ?_
                    refine lv_iadd hx hb dL_changed_188 ?_
                    refine lv_icmp_ne (tgt := 196) hx hb dL_changed_189 (by decide) (fun c54 => ?_) (fun c54 => ?_)
                    · have h := mm_neg c54 h
                      cases h
                    · have h := mm_pos c54 h
                      refine lv_iconst (v := 1) hx hb dL_changed_192 (by decide) ?_
                      refine lv_goto (tgt := 197) hx hb dL_changed_193 (by decide) ?_
                      refine lv_istore (lv' := [(10, .int 1), (9, .int 1), (8, .int 0), (0, .ref (b + 0)), (2, .int a2), (3, .int a3)]) hx hb dL_changed_197 hl (by decide) rfl (fun ls hl => ?_)
                      refine lv_iload hx hb dL_changed_199 (lv_at hl 2 rfl) ?_
                      refine lv_if_eq (tgt := 208) hx hb dL_changed_201 (by decide) (fun _ => ?_) (fun c => absurd (by decide) c)
                      refine lv_iconst (v := 0) hx hb dL_changed_208 (by decide) ?_
                      refine lv_istore (lv' := [(11, .int 0), (10, .int 1), (9, .int 1), (8, .int 0), (0, .ref (b + 0)), (2, .int a2), (3, .int a3)]) hx hb dL_changed_209 hl (by decide) rfl (fun ls hl => ?_)
                      refine lv_aload_n hx hb dL_changed_211 rfl (lv_at hl 4 rfl) ?_
                      refine lv_iload hx hb dL_changed_212 (lv_at hl 0 rfl) ?_
                      refine lv_iconst (v := 0) hx hb dL_changed_214 (by decide) ?_
                      obtain ⟨v54, e54, h⟩ := mm_bnd h
                      refine md_goi hH hA (va_runV (As := [.int 0, .int 0]) (rest := []) ⟨hx, hb, C.2.2.1, C.2.2.2.1, C.2.2.2.2.1⟩ (ct_X4_log l G T b z 0 0 x e54) (cwV 2 C.2.2.2.2.1 gL_changed_X4_log rfl rfl rfl df_X4_log ⟨Nat.le_of_ble_eq_true rfl, Nat.le_of_ble_eq_true rfl⟩) ⟨mm_B.blind, mm_recvL (q := (RX4, TX4, 7)) C hH.1 kl_0 (mm_e4 kd_0) rfl, mm_preL C hH.1 hA⟩ rfl rfl hl.1 rfl (lv_room (Nat.le_of_ble_eq_true rfl)) dL_changed_215 ⟨Nat.zero_le _, Nat.zero_le _⟩) (fun H locs hH => ?_)
                      refine lv_iload_n hx hb dL_changed_218 rfl (lv_at hl 6 rfl) ?_
                      refine lv_icmp_ne (tgt := 277) hx hb dL_changed_219 (by decide) (fun c55 => ?_) (fun c55 => ?_)
                      · have h := mm_neg c55 h
                        have hl := lv_sub (l' := [(10, .int 1), (9, .int 1)]) hl [1, 2] rfl
                        cases h
                      · have h := mm_pos c55 h
                        have hl := lv_sub (l' := [(11, .int 0), (10, .int 1), (9, .int 1), (8, .int 0), (0, .ref (b + 0)), (2, .int a2)]) hl [0, 1, 2, 3, 4, 5] rfl
                        refine lv_aload_n hx hb dL_changed_222 rfl (lv_at hl 4 rfl) ?_
                        refine lv_iload hx hb dL_changed_223 (lv_at hl 0 rfl) ?_
                        refine lv_iconst (v := 1) hx hb dL_changed_225 (by decide) ?_
                        obtain ⟨v55, e55, h⟩ := mm_bnd h
                        refine md_goi hH hA (va_runV (As := [.int 0, .int 1]) (rest := []) ⟨hx, hb, C.2.2.1, C.2.2.2.1, C.2.2.2.2.1⟩ (ct_X4_log l G T b z 0 1 x e55) (cwV 2 C.2.2.2.2.1 gL_changed_X4_log rfl rfl rfl df_X4_log ⟨Nat.le_of_ble_eq_true rfl, Nat.le_of_ble_eq_true rfl⟩) ⟨mm_B.blind, mm_recvL (q := (RX4, TX4, 7)) C hH.1 kl_0 (mm_e4 kd_0) rfl, mm_preL C hH.1 hA⟩ rfl rfl hl.1 rfl (lv_room (Nat.le_of_ble_eq_true rfl)) dL_changed_226 ⟨Nat.zero_le _, Nat.zero_le _⟩) (fun H locs hH => ?_)
                        refine lv_iload_n hx hb dL_changed_229 rfl (lv_at hl 5 rfl) ?_
                        refine lv_icmp_ne (tgt := 277) hx hb dL_changed_230 (by decide) (fun c56 => ?_) (fun c56 => ?_)
                        · have h := mm_neg c56 h
                          have hl := lv_sub (l' := [(10, .int 1), (9, .int 1)]) hl [1, 2] rfl
                          cases h
                        · have h := mm_pos c56 h
                          refine lv_aload_n hx hb dL_changed_233 rfl (lv_at hl 4 rfl) ?_
                          refine lv_iload hx hb dL_changed_234 (lv_at hl 0 rfl) ?_
                          refine lv_iconst (v := 2) hx hb dL_changed_236 (by decide) ?_
                          obtain ⟨v56, e56, h⟩ := mm_bnd h
                          refine md_goi hH hA (va_runV (As := [.int 0, .int 2]) (rest := []) ⟨hx, hb, C.2.2.1, C.2.2.2.1, C.2.2.2.2.1⟩ (ct_X4_log l G T b z 0 2 x e56) (cwV 2 C.2.2.2.2.1 gL_changed_X4_log rfl rfl rfl df_X4_log ⟨Nat.le_of_ble_eq_true rfl, Nat.le_of_ble_eq_true rfl⟩) ⟨mm_B.blind, mm_recvL (q := (RX4, TX4, 7)) C hH.1 kl_0 (mm_e4 kd_0) rfl, mm_preL C hH.1 hA⟩ rfl rfl hl.1 rfl (lv_room (Nat.le_of_ble_eq_true rfl)) dL_changed_237 ⟨Nat.zero_le _, Nat.zero_le _⟩) (fun H locs hH => ?_)
                          refine lv_aload_n hx hb dL_changed_240 rfl (lv_at hl 4 rfl) ?_
                          refine lv_iconst (v := 0) hx hb dL_changed_241 (by decide) ?_
                          obtain ⟨v57, e57, h⟩ := mm_bnd h
                          refine md_goi hH hA (va_runV (As := [.int 0]) (rest := [.int v56]) ⟨hx, hb, C.2.2.1, C.2.2.2.1, C.2.2.2.2.1⟩ (ct_X4_count l G T b z 0 x e57) (cwV 1 C.2.2.2.2.1 gL_changed_X4_count rfl rfl rfl df_X4_count ⟨Nat.le_of_ble_eq_true rfl, Nat.le_of_ble_eq_true rfl⟩) ⟨mm_B.blind, mm_recvL (q := (RX4, TX4, 7)) C hH.1 kl_0 (mm_e4 kd_0) rfl, mm_preL C hH.1 hA⟩ rfl rfl hl.1 rfl (lv_room (Nat.le_of_ble_eq_true rfl)) dL_changed_242 ⟨Nat.zero_le _, Nat.zero_le _⟩) (fun H locs hH => ?_)
                          refine lv_icmp_ne (tgt := 277) hx hb dL_changed_245 (by decide) (fun c57 => ?_) (fun c57 => ?_)
                          · have h := mm_neg c57 h
                            have hl := lv_sub (l' := [(10, .int 1), (9, .int 1)]) hl [1, 2] rfl
                            cases h
                          · have h := mm_pos c57 h
                            have hl := lv_sub (l' := [(10, .int 1), (9, .int 1), (8, .int 0), (0, .ref (b + 0)), (2, .int a2)]) hl [1, 2, 3, 4, 5] rfl
                            refine lv_iload hx hb dL_changed_248 (lv_at hl 2 rfl) ?_
                            refine lv_if_eq (tgt := 273) hx hb dL_changed_250 (by decide) (fun _ => ?_) (fun c => absurd (by decide) c)
                            have hl := lv_sub (l' := [(10, .int 1), (9, .int 1)]) hl [0, 1] rfl
                            refine lv_iconst (v := 1) hx hb dL_changed_273 (by decide) ?_
                            refine lv_goto (tgt := 278) hx hb dL_changed_274 (by decide) ?_
                            refine lv_istore (lv' := [(12, .int 1), (10, .int 1), (9, .int 1)]) hx hb dL_changed_278 hl (by decide) rfl (fun ls hl => ?_)
                            refine lv_iload hx hb dL_changed_280 (lv_at hl 2 rfl) ?_
                            refine lv_if_eq (tgt := 299) hx hb dL_changed_282 (by decide) (fun c => absurd c (by decide)) (fun _ => ?_)
                            have hl := lv_sub (l' := [(12, .int 1), (10, .int 1)]) hl [0, 1] rfl
                            refine lv_iload hx hb dL_changed_285 (lv_at hl 1 rfl) ?_
                            refine lv_if_eq (tgt := 299) hx hb dL_changed_287 (by decide) (fun c => absurd c (by decide)) (fun _ => ?_)
                            have hl := lv_sub (l' := [(12, .int 1)]) hl [0] rfl
                            refine lv_iload hx hb dL_changed_290 (lv_at hl 0 rfl) ?_
                            refine lv_if_eq (tgt := 299) hx hb dL_changed_292 (by decide) (fun c => absurd c (by decide)) (fun _ => ?_)
                            have hl := lv_sub (l' := []) hl [] rfl
                            refine lv_iconst (v := 1) hx hb dL_changed_295 (by decide) ?_
                            refine lv_goto (tgt := 300) hx hb dL_changed_296 (by decide) ?_
                            exact mm_iretP C hH.1 hr hlk rfl h dL_changed_300
      · have h := mm_pos c47 h
        refine lv_iconst (v := 1) hx hb dL_changed_59 (by decide) ?_
        refine lv_goto (tgt := 64) hx hb dL_changed_60 (by decide) ?_
        refine lv_istore (lv' := [(8, .int 1), (7, .int 99999), (5, .int v1), (0, .ref (b + 0)), (1, .ref ad), (2, .int a2), (3, .int a3), (4, .int a4)]) hx hb dL_changed_64 hl (by decide) rfl (fun ls hl => ?_)
        refine lv_iload hx hb dL_changed_66 (lv_at hl 7 rfl) ?_
        refine lv_iload hx hb dL_changed_68 (lv_at hl 1 rfl) ?_
        refine lv_icmp_ne (tgt := 142) hx hb dL_changed_70 (by decide) (fun c58 => ?_) (fun c58 => ?_)
        · have h := mm_neg c58 h
          have hl := lv_sub (l' := [(8, .int 1), (5, .int v1), (0, .ref (b + 0)), (1, .ref ad), (2, .int a2), (3, .int a3)]) hl [0, 2, 3, 4, 5, 6] rfl
          cases h
        · have h := mm_pos c58 h
          have hl := lv_sub (l' := [(8, .int 1), (7, .int 99999), (5, .int v1), (0, .ref (b + 0)), (1, .ref ad), (2, .int a2), (3, .int a3)]) hl [0, 1, 2, 3, 4, 5, 6] rfl
          refine lv_aload_n hx hb dL_changed_73 rfl (lv_at hl 3 rfl) ?_
          refine lv_iload_n hx hb dL_changed_74 rfl (lv_at hl 5 rfl) ?_
          refine lv_iconst (v := 2) hx hb dL_changed_75 (by decide) ?_
          obtain ⟨v58, e58, h⟩ := mm_bnd h
          refine md_goi hH hA (va_runV (As := [.int a2, .int 2]) (rest := []) ⟨hx, hb, C.2.2.1, C.2.2.2.1, C.2.2.2.2.1⟩ (ct_X4_of l G T b z a2 2 x e58) (cwV 2 C.2.2.2.2.1 gL_changed_X4_of rfl rfl rfl df_X4_of ⟨Nat.le_of_ble_eq_true rfl, Nat.le_of_ble_eq_true rfl⟩) ⟨mm_B.blind, mm_recvL (q := (RX4, TX4, 7)) C hH.1 kl_0 (mm_e4 kd_0) rfl, mm_preL C hH.1 hA⟩ rfl rfl hl.1 rfl (lv_room (Nat.le_of_ble_eq_true rfl)) dL_changed_76 ⟨Nat.zero_le _, Nat.zero_le _⟩) (fun H locs hH => ?_)
          refine lv_iload hx hb dL_changed_79 (lv_at hl 1 rfl) ?_
          refine lv_icmp_ne (tgt := 142) hx hb dL_changed_81 (by decide) (fun c59 => ?_) (fun c59 => ?_)
          · have h := mm_neg c59 h
            have hl := lv_sub (l' := [(8, .int 1), (5, .int v1), (0, .ref (b + 0)), (1, .ref ad), (2, .int a2), (3, .int a3)]) hl [0, 2, 3, 4, 5, 6] rfl
            cases h
          · have h := mm_pos c59 h
            have hl := lv_sub (l' := [(8, .int 1), (5, .int v1), (0, .ref (b + 0)), (1, .ref ad), (2, .int a2), (3, .int a3)]) hl [0, 2, 3, 4, 5, 6] rfl
            refine lv_aload_n hx hb dL_changed_84 rfl (lv_at hl 2 rfl) ?_
            refine lv_iload_n hx hb dL_changed_85 rfl (lv_at hl 4 rfl) ?_
            refine lv_iconst (v := 3) hx hb dL_changed_86 (by decide) ?_
            obtain ⟨v59, e59, h⟩ := mm_bnd h
            refine md_goi hH hA (va_runV (As := [.int a2, .int 3]) (rest := []) ⟨hx, hb, C.2.2.1, C.2.2.2.1, C.2.2.2.2.1⟩ (ct_X4_of l G T b z a2 3 x e59) (cwV 2 C.2.2.2.2.1 gL_changed_X4_of rfl rfl rfl df_X4_of ⟨Nat.le_of_ble_eq_true rfl, Nat.le_of_ble_eq_true rfl⟩) ⟨mm_B.blind, mm_recvL (q := (RX4, TX4, 7)) C hH.1 kl_0 (mm_e4 kd_0) rfl, mm_preL C hH.1 hA⟩ rfl rfl hl.1 rfl (lv_room (Nat.le_of_ble_eq_true rfl)) dL_changed_87 ⟨Nat.zero_le _, Nat.zero_le _⟩) (fun H locs hH => ?_)
            refine lv_iload hx hb dL_changed_90 (lv_at hl 0 rfl) ?_
            refine lv_if_eq (tgt := 99) hx hb dL_changed_92 (by decide) (fun c => absurd c (by decide)) (fun _ => ?_)
            refine lv_iconst (v := 1) hx hb dL_changed_95 (by decide) ?_
            refine lv_goto (tgt := 105) hx hb dL_changed_96 (by decide) ?_
            refine lv_icmp_ne (tgt := 142) hx hb dL_changed_105 (by decide) (fun c60 => ?_) (fun c60 => ?_)
            · have h := mm_neg c60 h
              cases h
            · have h := mm_pos c60 h
              refine lv_aload_n hx hb dL_changed_108 rfl (lv_at hl 2 rfl) ?_
              refine lv_iload_n hx hb dL_changed_109 rfl (lv_at hl 4 rfl) ?_
              refine lv_iconst (v := 4) hx hb dL_changed_110 (by decide) ?_
              obtain ⟨v60, e60, h⟩ := mm_bnd h
              refine md_goi hH hA (va_runV (As := [.int a2, .int 4]) (rest := []) ⟨hx, hb, C.2.2.1, C.2.2.2.1, C.2.2.2.2.1⟩ (ct_X4_of l G T b z a2 4 x e60) (cwV 2 C.2.2.2.2.1 gL_changed_X4_of rfl rfl rfl df_X4_of ⟨Nat.le_of_ble_eq_true rfl, Nat.le_of_ble_eq_true rfl⟩) ⟨mm_B.blind, mm_recvL (q := (RX4, TX4, 7)) C hH.1 kl_0 (mm_e4 kd_0) rfl, mm_preL C hH.1 hA⟩ rfl rfl hl.1 rfl (lv_room (Nat.le_of_ble_eq_true rfl)) dL_changed_111 ⟨Nat.zero_le _, Nat.zero_le _⟩) (fun H locs hH => ?_)
              refine lv_aload_n hx hb dL_changed_114 rfl (lv_at hl 3 rfl) ?_
              refine lv_iload hx hb dL_changed_115 (lv_at hl 1 rfl) ?_
              refine lv_iconst (v := 4) hx hb dL_changed_117 (by decide) ?_
              refine lv_iadd hx hb dL_changed_118 ?_
              obtain ⟨g28, h⟩ := mm_grn h
              refine md_dld C hH g28 dL_changed_119 ?_
              refine lv_icmp_ne (tgt := 142) hx hb dL_changed_120 (by decide) (fun c61 => ?_) (fun c61 => ?_)
              · have h := mm_neg c61 h
                cases h
              · have h := mm_pos c61 h
                refine lv_aload_n hx hb dL_changed_123 rfl (lv_at hl 2 rfl) ?_
                refine lv_iload_n hx hb dL_changed_124 rfl (lv_at hl 4 rfl) ?_
                refine lv_iconst (v := 5) hx hb dL_changed_125 (by decide) ?_
                obtain ⟨v61, e61, h⟩ := mm_bnd h
                refine md_goi hH hA (va_runV (As := [.int a2, .int 5]) (rest := []) ⟨hx, hb, C.2.2.1, C.2.2.2.1, C.2.2.2.2.1⟩ (ct_X4_of l G T b z a2 5 x e61) (cwV 2 C.2.2.2.2.1 gL_changed_X4_of rfl rfl rfl df_X4_of ⟨Nat.le_of_ble_eq_true rfl, Nat.le_of_ble_eq_true rfl⟩) ⟨mm_B.blind, mm_recvL (q := (RX4, TX4, 7)) C hH.1 kl_0 (mm_e4 kd_0) rfl, mm_preL C hH.1 hA⟩ rfl rfl hl.1 rfl (lv_room (Nat.le_of_ble_eq_true rfl)) dL_changed_126 ⟨Nat.zero_le _, Nat.zero_le _⟩) (fun H locs hH => ?_)
                refine lv_aload_n hx hb dL_changed_129 rfl (lv_at hl 3 rfl) ?_
                refine lv_iload hx hb dL_changed_130 (lv_at hl 1 rfl) ?_
                refine lv_iconst (v := 5) hx hb dL_changed_132 (by decide) ?_
                refine lv_iadd hx hb dL_changed_133 ?_
                obtain ⟨g29, h⟩ := mm_grn h
                refine md_dld C hH g29 dL_changed_134 ?_
                refine lv_icmp_ne (tgt := 142) hx hb dL_changed_135 (by decide) (fun c62 => ?_) (fun c62 => ?_)
                · have h := mm_neg c62 h
                  cases h
                · have h := mm_pos c62 h
                  refine lv_iconst (v := 1) hx hb dL_changed_138 (by decide) ?_
                  refine lv_goto (tgt := 143) hx hb dL_changed_139 (by decide) ?_
                  refine lv_istore (lv' := [(9, .int 1), (8, .int 1), (5, .int v1), (0, .ref (b + 0)), (1, .ref ad), (2, .int a2), (3, .int a3)]) hx hb dL_changed_143 hl (by decide) rfl (fun ls hl => ?_)
                  refine lv_aload_n hx hb dL_changed_145 rfl (lv_at hl 3 rfl) ?_
                  refine lv_iload_n hx hb dL_changed_146 rfl (lv_at hl 5 rfl) ?_
                  refine lv_bipush (v := 6) hx hb dL_changed_147 (by decide) ?_
                  obtain ⟨v62, e62, h⟩ := mm_bnd h
                  refine md_goi hH hA (va_runV (As := [.int a2, .int 6]) (rest := []) ⟨hx, hb, C.2.2.1, C.2.2.2.1, C.2.2.2.2.1⟩ (ct_X4_of l G T b z a2 6 x e62) (cwV 2 C.2.2.2.2.1 gL_changed_X4_of rfl rfl rfl df_X4_of ⟨Nat.le_of_ble_eq_true rfl, Nat.le_of_ble_eq_true rfl⟩) ⟨mm_B.blind, mm_recvL (q := (RX4, TX4, 7)) C hH.1 kl_0 (mm_e4 kd_0) rfl, mm_preL C hH.1 hA⟩ rfl rfl hl.1 rfl (lv_room (Nat.le_of_ble_eq_true rfl)) dL_changed_149 ⟨Nat.zero_le _, Nat.zero_le _⟩) (fun H locs hH => ?_)
                  refine lv_aload_n hx hb dL_changed_152 rfl (lv_at hl 4 rfl) ?_
                  refine lv_iload hx hb dL_changed_153 (lv_at hl 2 rfl) ?_
                  refine lv_bipush (v := 6) hx hb dL_changed_155 (by decide) ?_
                  refine lv_iadd hx hb dL_changed_157 ?_
                  obtain ⟨g30, h⟩ := mm_grn h
                  refine md_dld C hH g30 dL_changed_158 ?_
                  refine lv_iconst (v := 1) hx hb dL_changed_159 (by decide) ?_
                  refine lv_iadd hx hb dL_changed_160 ?_
                  refine lv_icmp_ne (tgt := 196) hx hb dL_changed_161 (by decide) (fun c63 => ?_) (fun c63 => ?_)
                  · have h := mm_neg c63 h
                    have hl := lv_sub (l' := [(9, .int 1), (8, .int 1), (0, .ref (b + 0)), (2, .int a2), (3, .int a3)]) hl [0, 1, 3, 5, 6] rfl
                    cases h
                  · have h := mm_pos c63 h
                    refine lv_aload_n hx hb dL_changed_164 rfl (lv_at hl 3 rfl) ?_
                    refine lv_iload_n hx hb dL_changed_165 rfl (lv_at hl 5 rfl) ?_
                    refine lv_bipush (v := 7) hx hb dL_changed_166 (by decide) ?_
                    obtain ⟨v63, e63, h⟩ := mm_bnd h
                    refine md_goi hH hA (va_runV (As := [.int a2, .int 7]) (rest := []) ⟨hx, hb, C.2.2.1, C.2.2.2.1, C.2.2.2.2.1⟩ (ct_X4_of l G T b z a2 7 x e63) (cwV 2 C.2.2.2.2.1 gL_changed_X4_of rfl rfl rfl df_X4_of ⟨Nat.le_of_ble_eq_true rfl, Nat.le_of_ble_eq_true rfl⟩) ⟨mm_B.blind, mm_recvL (q := (RX4, TX4, 7)) C hH.1 kl_0 (mm_e4 kd_0) rfl, mm_preL C hH.1 hA⟩ rfl rfl hl.1 rfl (lv_room (Nat.le_of_ble_eq_true rfl)) dL_changed_168 ⟨Nat.zero_le _, Nat.zero_le _⟩) (fun H locs hH => ?_)
                    refine lv_aload_n hx hb dL_changed_171 rfl (lv_at hl 4 rfl) ?_
                    refine lv_iload hx hb dL_changed_172 (lv_at hl 2 rfl) ?_
                    refine lv_bipush (v := 7) hx hb dL_changed_174 (by decide) ?_
                    refine lv_iadd hx hb dL_changed_176 ?_
                    obtain ⟨g31, h⟩ := mm_grn h
                    refine md_dld C hH g31 dL_changed_177 ?_
                    refine lv_iload hx hb dL_changed_178 (lv_at hl 1 rfl) ?_
                    refine lv_if_eq (tgt := 187) hx hb dL_changed_180 (by decide) (fun c => absurd c (by decide)) (fun _ => ?_)
                    have hl := lv_sub (l' := [(9, .int 1), (8, .int 1), (0, .ref (b + 0)), (2, .int a2), (3, .int a3)]) hl [0, 1, 3, 5, 6] rfl
                    refine lv_iconst (v := 1) hx hb dL_changed_183 (by decide) ?_
                    refine lv_goto (tgt := 188) hx hb dL_changed_184 (by decide) ?_
                    refine lv_iadd hx hb dL_changed_188 ?_
                    refine lv_icmp_ne (tgt := 196) hx hb dL_changed_189 (by decide) (fun c64 => ?_) (fun c64 => ?_)
                    · have h := mm_neg c64 h
                      cases h
                    · have h := mm_pos c64 h
                      refine lv_iconst (v := 1) hx hb dL_changed_192 (by decide) ?_
                      refine lv_goto (tgt := 197) hx hb dL_changed_193 (by decide) ?_
                      refine lv_istore (lv' := [(10, .int 1), (9, .int 1), (8, .int 1), (0, .ref (b + 0)), (2, .int a2), (3, .int a3)]) hx hb dL_changed_197 hl (by decide) rfl (fun ls hl => ?_)
                      refine lv_iload hx hb dL_changed_199 (lv_at hl 2 rfl) ?_
                      refine lv_if_eq (tgt := 208) hx hb dL_changed_201 (by decide) (fun c => absurd c (by decide)) (fun _ => ?_)
                      refine lv_iconst (v := 1) hx hb dL_changed_204 (by decide) ?_
                      refine lv_goto (tgt := 209) hx hb dL_changed_205 (by decide) ?_
                      refine lv_istore (lv' := [(11, .int 1), (10, .int 1), (9, .int 1), (8, .int 1), (0, .ref (b + 0)), (2, .int a2), (3, .int a3)]) hx hb dL_changed_209 hl (by decide) rfl (fun ls hl => ?_)
                      refine lv_aload_n hx hb dL_changed_211 rfl (lv_at hl 4 rfl) ?_
                      refine lv_iload hx hb dL_changed_212 (lv_at hl 0 rfl) ?_
                      refine lv_iconst (v := 0) hx hb dL_changed_214 (by decide) ?_
                      obtain ⟨v64, e64, h⟩ := mm_bnd h
                      refine md_goi hH hA (va_runV (As := [.int 1, .int 0]) (rest := []) ⟨hx, hb, C.2.2.1, C.2.2.2.1, C.2.2.2.2.1⟩ (ct_X4_log l G T b z 1 0 x e64) (cwV 2 C.2.2.2.2.1 gL_changed_X4_log rfl rfl rfl df_X4_log ⟨Nat.le_of_ble_eq_true rfl, Nat.le_of_ble_eq_true rfl⟩) ⟨mm_B.blind, mm_recvL (q := (RX4, TX4, 7)) C hH.1 kl_0 (mm_e4 kd_0) rfl, mm_preL C hH.1 hA⟩ rfl rfl hl.1 rfl (lv_room (Nat.le_of_ble_eq_true rfl)) dL_changed_215 ⟨Nat.zero_le _, Nat.zero_le _⟩) (fun H locs hH => ?_)
                      refine lv_iload_n hx hb dL_changed_218 rfl (lv_at hl 6 rfl) ?_
                      refine lv_icmp_ne (tgt := 277) hx hb dL_changed_219 (by decide) (fun c65 => ?_) (fun c65 => ?_)
                      · have h := mm_neg c65 h
                        have hl := lv_sub (l' := [(10, .int 1), (9, .int 1)]) hl [1, 2] rfl
                        cases h
                      · have h := mm_pos c65 h
                        have hl := lv_sub (l' := [(11, .int 1), (10, .int 1), (9, .int 1), (8, .int 1), (0, .ref (b + 0)), (2, .int a2)]) hl [0, 1, 2, 3, 4, 5] rfl
                        refine lv_aload_n hx hb dL_changed_222 rfl (lv_at hl 4 rfl) ?_
                        refine lv_iload hx hb dL_changed_223 (lv_at hl 0 rfl) ?_
                        refine lv_iconst (v := 1) hx hb dL_changed_225 (by decide) ?_
                        obtain ⟨v65, e65, h⟩ := mm_bnd h
                        refine md_goi hH hA (va_runV (As := [.int 1, .int 1]) (rest := []) ⟨hx, hb, C.2.2.1, C.2.2.2.1, C.2.2.2.2.1⟩ (ct_X4_log l G T b z 1 1 x e65) (cwV 2 C.2.2.2.2.1 gL_changed_X4_log rfl rfl rfl df_X4_log ⟨Nat.le_of_ble_eq_true rfl, Nat.le_of_ble_eq_true rfl⟩) ⟨mm_B.blind, mm_recvL (q := (RX4, TX4, 7)) C hH.1 kl_0 (mm_e4 kd_0) rfl, mm_preL C hH.1 hA⟩ rfl rfl hl.1 rfl (lv_room (Nat.le_of_ble_eq_true rfl)) dL_changed_226 ⟨Nat.zero_le _, Nat.zero_le _⟩) (fun H locs hH => ?_)
                        refine lv_iload_n hx hb dL_changed_229 rfl (lv_at hl 5 rfl) ?_
                        refine lv_icmp_ne (tgt := 277) hx hb dL_changed_230 (by decide) (fun c66 => ?_) (fun c66 => ?_)
                        · have h := mm_neg c66 h
                          have hl := lv_sub (l' := [(10, .int 1), (9, .int 1)]) hl [1, 2] rfl
                          cases h
                        · have h := mm_pos c66 h
                          refine lv_aload_n hx hb dL_changed_233 rfl (lv_at hl 4 rfl) ?_
                          refine lv_iload hx hb dL_changed_234 (lv_at hl 0 rfl) ?_
                          refine lv_iconst (v := 2) hx hb dL_changed_236 (by decide) ?_
                          obtain ⟨v66, e66, h⟩ := mm_bnd h
                          refine md_goi hH hA (va_runV (As := [.int 1, .int 2]) (rest := []) ⟨hx, hb, C.2.2.1, C.2.2.2.1, C.2.2.2.2.1⟩ (ct_X4_log l G T b z 1 2 x e66) (cwV 2 C.2.2.2.2.1 gL_changed_X4_log rfl rfl rfl df_X4_log ⟨Nat.le_of_ble_eq_true rfl, Nat.le_of_ble_eq_true rfl⟩) ⟨mm_B.blind, mm_recvL (q := (RX4, TX4, 7)) C hH.1 kl_0 (mm_e4 kd_0) rfl, mm_preL C hH.1 hA⟩ rfl rfl hl.1 rfl (lv_room (Nat.le_of_ble_eq_true rfl)) dL_changed_237 ⟨Nat.zero_le _, Nat.zero_le _⟩) (fun H locs hH => ?_)
                          refine lv_aload_n hx hb dL_changed_240 rfl (lv_at hl 4 rfl) ?_
                          refine lv_iconst (v := 0) hx hb dL_changed_241 (by decide) ?_
                          obtain ⟨v67, e67, h⟩ := mm_bnd h
                          refine md_goi hH hA (va_runV (As := [.int 0]) (rest := [.int v66]) ⟨hx, hb, C.2.2.1, C.2.2.2.1, C.2.2.2.2.1⟩ (ct_X4_count l G T b z 0 x e67) (cwV 1 C.2.2.2.2.1 gL_changed_X4_count rfl rfl rfl df_X4_count ⟨Nat.le_of_ble_eq_true rfl, Nat.le_of_ble_eq_true rfl⟩) ⟨mm_B.blind, mm_recvL (q := (RX4, TX4, 7)) C hH.1 kl_0 (mm_e4 kd_0) rfl, mm_preL C hH.1 hA⟩ rfl rfl hl.1 rfl (lv_room (Nat.le_of_ble_eq_true rfl)) dL_changed_242 ⟨Nat.zero_le _, Nat.zero_le _⟩) (fun H locs hH => ?_)
                          refine lv_icmp_ne (tgt := 277) hx hb dL_changed_245 (by decide) (fun c67 => ?_) (fun c67 => ?_)
                          · have h := mm_neg c67 h
                            have hl := lv_sub (l' := [(10, .int 1), (9, .int 1)]) hl [1, 2] rfl
                            cases h
                          · have h := mm_pos c67 h
                            have hl := lv_sub (l' := [(10, .int 1), (9, .int 1), (8, .int 1), (0, .ref (b + 0)), (2, .int a2)]) hl [1, 2, 3, 4, 5] rfl
                            refine lv_iload hx hb dL_changed_248 (lv_at hl 2 rfl) ?_
                            refine lv_if_eq (tgt := 273) hx hb dL_changed_250 (by decide) (fun c => absurd c (by decide)) (fun _ => ?_)
                            have hl := lv_sub (l' := [(10, .int 1), (9, .int 1), (0, .ref (b + 0)), (2, .int a2)]) hl [0, 1, 3, 4] rfl
                            refine lv_aload_n hx hb dL_changed_253 rfl (lv_at hl 2 rfl) ?_
                            refine lv_iconst (v := 0) hx hb dL_changed_254 (by decide) ?_
                            refine lv_iconst (v := 0) hx hb dL_changed_255 (by decide) ?_
                            obtain ⟨v68, e68, h⟩ := mm_bnd h
                            refine md_goi hH hA (va_runV (As := [.int 0, .int 0]) (rest := []) ⟨hx, hb, C.2.2.1, C.2.2.2.1, C.2.2.2.2.1⟩ (ct_X4_log l G T b z 0 0 x e68) (cwV 2 C.2.2.2.2.1 gL_changed_X4_log rfl rfl rfl df_X4_log ⟨Nat.le_of_ble_eq_true rfl, Nat.le_of_ble_eq_true rfl⟩) ⟨mm_B.blind, mm_recvL (q := (RX4, TX4, 7)) C hH.1 kl_0 (mm_e4 kd_0) rfl, mm_preL C hH.1 hA⟩ rfl rfl hl.1 rfl (lv_room (Nat.le_of_ble_eq_true rfl)) dL_changed_256 ⟨Nat.zero_le _, Nat.zero_le _⟩) (fun H locs hH => ?_)
                            refine lv_iconst (v := 3) hx hb dL_changed_259 (by decide) ?_
                            refine lv_icmp_ne (tgt := 277) hx hb dL_changed_260 (by decide) (fun c68 => ?_) (fun c68 => ?_)
                            · have h := mm_neg c68 h
                              have hl := lv_sub (l' := [(10, .int 1), (9, .int 1)]) hl [0, 1] rfl
                              cases h
                            · have h := mm_pos c68 h
                              refine lv_aload_n hx hb dL_changed_263 rfl (lv_at hl 2 rfl) ?_
                              refine lv_iconst (v := 0) hx hb dL_changed_264 (by decide) ?_
                              refine lv_iconst (v := 1) hx hb dL_changed_265 (by decide) ?_
                              obtain ⟨v69, e69, h⟩ := mm_bnd h
                              refine md_goi hH hA (va_runV (As := [.int 0, .int 1]) (rest := []) ⟨hx, hb, C.2.2.1, C.2.2.2.1, C.2.2.2.2.1⟩ (ct_X4_log l G T b z 0 1 x e69) (cwV 2 C.2.2.2.2.1 gL_changed_X4_log rfl rfl rfl df_X4_log ⟨Nat.le_of_ble_eq_true rfl, Nat.le_of_ble_eq_true rfl⟩) ⟨mm_B.blind, mm_recvL (q := (RX4, TX4, 7)) C hH.1 kl_0 (mm_e4 kd_0) rfl, mm_preL C hH.1 hA⟩ rfl rfl hl.1 rfl (lv_room (Nat.le_of_ble_eq_true rfl)) dL_changed_266 ⟨Nat.zero_le _, Nat.zero_le _⟩) (fun H locs hH => ?_)
                              refine lv_iload_n hx hb dL_changed_269 rfl (lv_at hl 3 rfl) ?_
                              refine lv_icmp_ne (tgt := 277) hx hb dL_changed_270 (by decide) (fun c69 => ?_) (fun c69 => ?_)
                              · have h := mm_neg c69 h
                                have hl := lv_sub (l' := [(10, .int 1), (9, .int 1)]) hl [0, 1] rfl
                                cases h
                              · have h := mm_pos c69 h
                                have hl := lv_sub (l' := [(10, .int 1), (9, .int 1)]) hl [0, 1] rfl
                                refine lv_iconst (v := 1) hx hb dL_changed_273 (by decide) ?_
                                refine lv_goto (tgt := 278) hx hb dL_changed_274 (by decide) ?_
                                refine lv_istore (lv' := [(12, .int 1), (10, .int 1), (9, .int 1)]) hx hb dL_changed_278 hl (by decide) rfl (fun ls hl => ?_)
                                refine lv_iload hx hb dL_changed_280 (lv_at hl 2 rfl) ?_
                                refine lv_if_eq (tgt := 299) hx hb dL_changed_282 (by decide) (fun c => absurd c (by decide)) (fun _ => ?_)
                                have hl := lv_sub (l' := [(12, .int 1), (10, .int 1)]) hl [0, 1] rfl
                                refine lv_iload hx hb dL_changed_285 (lv_at hl 1 rfl) ?_
                                refine lv_if_eq (tgt := 299) hx hb dL_changed_287 (by decide) (fun c => absurd c (by decide)) (fun _ => ?_)
                                have hl := lv_sub (l' := [(12, .int 1)]) hl [0] rfl
                                refine lv_iload hx hb dL_changed_290 (lv_at hl 0 rfl) ?_
                                refine lv_if_eq (tgt := 299) hx hb dL_changed_292 (by decide) (fun c => absurd c (by decide)) (fun _ => ?_)
                                have hl := lv_sub (l' := []) hl [] rfl
                                refine lv_iconst (v := 1) hx hb dL_changed_295 (by decide) ?_
                                refine lv_goto (tgt := 300) hx hb dL_changed_296 (by decide) ?_
                                exact mm_iretP C hH.1 hr hlk rfl h dL_changed_300
