def fn_L_act (a1 : Int32) (a2 : Int32) (x : mm_M) : Option (mm_M × Int32) :=
  (fn_L_told x).bind fun dd => (fn_X4_count 1 x).bind fun v1 => (fn_L_low (a1 >>> ((4 : Int32) &&& 31)) v1 x).bind fun v2 => (fn_X4_count 4 x).bind fun v3 => (fn_X4_count 5 x).bind fun v4 => (fn_L_low a1 9 x).bind fun v5 => if v5 = 0 then if (8 : Int32) ≤ v1 then if (4 : Int32) ≤ v5 then if (6 : Int32) ≤ v5 then mm_b2 (fn_L_passed dd x) fun x10 v45 => if v45 = 0 then none else (fn_X4_count 5 x10).bind fun v46 => (fn_X4_count 4 x10).bind fun v47 => if v47 = v3 then if v46 = (v4 + 0) then (fn_L_chosen x10).bind fun v48 => if v48 = 0 then none else some (x10, 1) else none else if v46 = (v4 + 1) then (fn_L_chosen x10).bind fun v49 => if v49 = 0 then none else some (x10, 1) else none else if (((8 : Int32) * v2) + 1) < 0 ∨ 64 ≤ Int32.toNatClampNeg (((8 : Int32) * v2) + 1) then none else (fn_L_low a2 1000 x).bind fun v50 => if (dd (Int32.toNatClampNeg (((8 : Int32) * v2) + 1))) = v50 then (fn_L_low a2 1000 x).bind fun v60 => (some (((v60 + 1) - (v60 + 1) / 1000 * 1000) : Int32)).bind fun v61 => if (((8 : Int32) * v2) + 1) < 0 ∨ 64 ≤ Int32.toNatClampNeg (((8 : Int32) * v2) + 1) then none else mm_b2 (fn_X4_price v2 (dd (Int32.toNatClampNeg (((8 : Int32) * v2) + 1))) x) fun x13 v62 => if v62 = (-5) then mm_b2 (fn_X4_price v2 v61 x13) fun x14 v63 => (fn_L_changed dd v2 2 v63 x14).bind fun v64 => if v64 = 0 then none else (fn_X4_of v2 1 x14).bind fun v65 => if v65 = v61 then (fn_X4_count 5 x14).bind fun v66 => (fn_X4_count 4 x14).bind fun v67 => if v67 = v3 then if v66 = (v4 + 0) then (fn_L_chosen x14).bind fun v68 => if v68 = 0 then none else some (x14, 1) else none else if v66 = (v4 + 1) then (fn_L_chosen x14).bind fun v69 => if v69 = 0 then none else some (x14, 1) else none else none else none else (fn_L_low a2 1000 x).bind fun v51 => if (((8 : Int32) * v2) + 1) < 0 ∨ 64 ≤ Int32.toNatClampNeg (((8 : Int32) * v2) + 1) then none else mm_b2 (fn_X4_price v2 (dd (Int32.toNatClampNeg (((8 : Int32) * v2) + 1))) x) fun x11 v52 => if v52 = (-5) then mm_b2 (fn_X4_price v2 v51 x11) fun x12 v53 => (fn_L_changed dd v2 2 v53 x12).bind fun v54 => if v54 = 0 then none else (fn_X4_of v2 1 x12).bind fun v55 => if v55 = v51 then (fn_X4_count 5 x12).bind fun v56 => (fn_X4_count 4 x12).bind fun v57 => if v57 = v3 then if v56 = (v4 + 0) then (fn_L_chosen x12).bind fun v58 => if v58 = 0 then none else some (x12, 1) else none else if v56 = (v4 + 1) then (fn_L_chosen x12).bind fun v59 => if v59 = 0 then none else some (x12, 1) else none else none else none else if ((8 : Int32) * v2) < 0 ∨ 64 ≤ Int32.toNatClampNeg ((8 : Int32) * v2) then none else if (dd (Int32.toNatClampNeg ((8 : Int32) * v2))) = 0 then mm_b2 (fn_X4_close v2 x) fun x17 v77 => if v77 = (-5) then mm_b2 (fn_X4_open v2 x17) fun x18 v78 => (fn_L_changed dd v2 1 v78 x18).bind fun v79 => if v79 = 0 then none else (fn_X4_count 5 x18).bind fun v80 => (fn_X4_count 4 x18).bind fun v81 => if v81 = v3 then if v80 = (v4 + 0) then (fn_L_chosen x18).bind fun v82 => if v82 = 0 then none else some (x18, 1) else none else if v80 = (v4 + 1) then (fn_L_chosen x18).bind fun v83 => if v83 = 0 then none else some (x18, 1) else none else none else mm_b2 (fn_X4_open v2 x) fun x15 v70 => if v70 = (-5) then mm_b2 (fn_X4_close v2 x15) fun x16 v71 => (fn_L_changed dd v2 0 v71 x16).bind fun v72 => if v72 = 0 then none else (fn_X4_count 5 x16).bind fun v73 => (fn_X4_count 4 x16).bind fun v74 => if v74 = v3 then if v73 = (v4 + 0) then (fn_L_chosen x16).bind fun v75 => if v75 = 0 then none else some (x16, 1) else none else if v73 = (v4 + 1) then (fn_L_chosen x16).bind fun v76 => if v76 = 0 then none else some (x16, 1) else none else none else (fn_L_low a2 1000 x).bind fun v84 => mm_b2 (fn_X4_landing v84 x) fun x19 v85 => if v85 = v1 then (fn_X4_of v1 0 x19).bind fun v86 => if v86 = 1 then (fn_X4_of v1 2 x19).bind fun v87 => if v87 = 0 then (fn_X4_of v1 3 x19).bind fun v88 => if v88 = 0 then (fn_X4_count 5 x19).bind fun v89 => (fn_X4_count 4 x19).bind fun v90 => if v90 = v3 then if v89 = (v4 + 0) then (fn_L_chosen x19).bind fun v91 => if v91 = 0 then none else some (x19, 1) else none else if v89 = (v4 + 1) then (fn_L_chosen x19).bind fun v92 => if v92 = 0 then none else some (x19, 1) else none else none else none else none else none else if (4 : Int32) ≤ v5 then if (6 : Int32) ≤ v5 then mm_b2 (fn_L_passed dd x) fun x1 v6 => if v6 = 0 then none else (fn_X4_count 5 x1).bind fun v7 => (fn_X4_count 4 x1).bind fun v8 => if v8 = v3 then if v7 = (v4 + 0) then (fn_L_chosen x1).bind fun v9 => if v9 = 0 then none else some (x1, 1) else none else if v7 = (v4 + 1) then (fn_L_chosen x1).bind fun v10 => if v10 = 0 then none else some (x1, 1) else none else if (((8 : Int32) * v2) + 1) < 0 ∨ 64 ≤ Int32.toNatClampNeg (((8 : Int32) * v2) + 1) then none else (fn_L_low a2 1000 x).bind fun v11 => if (dd (Int32.toNatClampNeg (((8 : Int32) * v2) + 1))) = v11 then (fn_L_low a2 1000 x).bind fun v21 => (some (((v21 + 1) - (v21 + 1) / 1000 * 1000) : Int32)).bind fun v22 => if (((8 : Int32) * v2) + 1) < 0 ∨ 64 ≤ Int32.toNatClampNeg (((8 : Int32) * v2) + 1) then none else mm_b2 (fn_X4_price v2 (dd (Int32.toNatClampNeg (((8 : Int32) * v2) + 1))) x) fun x4 v23 => if v23 = (-5) then mm_b2 (fn_X4_price v2 v22 x4) fun x5 v24 => (fn_L_changed dd v2 2 v24 x5).bind fun v25 => if v25 = 0 then none else (fn_X4_of v2 1 x5).bind fun v26 => if v26 = v22 then (fn_X4_count 5 x5).bind fun v27 => (fn_X4_count 4 x5).bind fun v28 => if v28 = v3 then if v27 = (v4 + 0) then (fn_L_chosen x5).bind fun v29 => if v29 = 0 then none else some (x5, 1) else none else if v27 = (v4 + 1) then (fn_L_chosen x5).bind fun v30 => if v30 = 0 then none else some (x5, 1) else none else none else none else (fn_L_low a2 1000 x).bind fun v12 => if (((8 : Int32) * v2) + 1) < 0 ∨ 64 ≤ Int32.toNatClampNeg (((8 : Int32) * v2) + 1) then none else mm_b2 (fn_X4_price v2 (dd (Int32.toNatClampNeg (((8 : Int32) * v2) + 1))) x) fun x2 v13 => if v13 = (-5) then mm_b2 (fn_X4_price v2 v12 x2) fun x3 v14 => (fn_L_changed dd v2 2 v14 x3).bind fun v15 => if v15 = 0 then none else (fn_X4_of v2 1 x3).bind fun v16 => if v16 = v12 then (fn_X4_count 5 x3).bind fun v17 => (fn_X4_count 4 x3).bind fun v18 => if v18 = v3 then if v17 = (v4 + 0) then (fn_L_chosen x3).bind fun v19 => if v19 = 0 then none else some (x3, 1) else none else if v17 = (v4 + 1) then (fn_L_chosen x3).bind fun v20 => if v20 = 0 then none else some (x3, 1) else none else none else none else if ((8 : Int32) * v2) < 0 ∨ 64 ≤ Int32.toNatClampNeg ((8 : Int32) * v2) then none else if (dd (Int32.toNatClampNeg ((8 : Int32) * v2))) = 0 then mm_b2 (fn_X4_close v2 x) fun x8 v38 => if v38 = (-5) then mm_b2 (fn_X4_open v2 x8) fun x9 v39 => (fn_L_changed dd v2 1 v39 x9).bind fun v40 => if v40 = 0 then none else (fn_X4_count 5 x9).bind fun v41 => (fn_X4_count 4 x9).bind fun v42 => if v42 = v3 then if v41 = (v4 + 0) then (fn_L_chosen x9).bind fun v43 => if v43 = 0 then none else some (x9, 1) else none else if v41 = (v4 + 1) then (fn_L_chosen x9).bind fun v44 => if v44 = 0 then none else some (x9, 1) else none else none else mm_b2 (fn_X4_open v2 x) fun x6 v31 => if v31 = (-5) then mm_b2 (fn_X4_close v2 x6) fun x7 v32 => (fn_L_changed dd v2 0 v32 x7).bind fun v33 => if v33 = 0 then none else (fn_X4_count 5 x7).bind fun v34 => (fn_X4_count 4 x7).bind fun v35 => if v35 = v3 then if v34 = (v4 + 0) then (fn_L_chosen x7).bind fun v36 => if v36 = 0 then none else some (x7, 1) else none else if v34 = (v4 + 1) then (fn_L_chosen x7).bind fun v37 => if v37 = 0 then none else some (x7, 1) else none else none
abbrev rm_L_act : Room := { frames := 7, cells := 1, slots := 64, locals := 156 }
theorem df_L_act : yL_act.cls = RL ∧ yL_act.cls ≠ "java/lang/invoke/MethodHandle" ∧ yL_act.cls ≠ "java/lang/invoke/VarHandle" ∧ (parseMethodDescriptor yL_act.desc).map (fun d => d.parameters.length) = some 3 := by decide +kernel
set_option maxRecDepth 100000 in
set_option maxHeartbeats 8000000 in
theorem ct_L_act (l : Launch) (G : va_G) (T : Nat → ClassId) (b : Nat) (z : Nat → Nat) (nn : Nat) (a1 a2 : Int32) (x : mm_M) {x1 : mm_M} {r : Int32} (h : fn_L_act a1 a2 x = some (x1, r)) : mm_CiN l yL_act wsL_act rm_L_act G T b z nn [.ref (b + 0), .int a1, .int a2] x r x1 := by
  unfold fn_L_act at h
  refine mn_start (cc := cL_act) (maxL := 11) (ret := (some .boolean)) (by decide) rfl (Nat.le_of_ble_eq_true rfl) (fun p e s m below meth c ls C hr hlk hs hbn hH hl => ?_)
  have hl : lv_has ls 11 [(0, .ref (b + 0)), (1, .int a1), (2, .int a2)] := hl
  have hx := C.1
  have hb := C.2.1
  have hA := mm_AA2 hbn
  refine lv_aload_n hx hb dL_act_0 rfl (lv_at hl 0 rfl) ?_
  obtain ⟨dd, e0, h⟩ := mm_bnd h
  refine ml_god hH hA (fun q h => Or.inr (hs ▸ h)) (va_runS (As := [.ref (b + 0)]) (rest := []) ⟨hx, hb, C.2.2.1, C.2.2.2.1, C.2.2.2.2.1⟩ (ct_L_told l G T b z s.heap.size x e0) (va_cwS 1 C.2.2.2.2.1 gL_act_L_told rfl rfl rfl df_L_told.2 ⟨Nat.le_of_ble_eq_true rfl, Nat.le_of_ble_eq_true rfl⟩) ⟨mm_Bn.blind, mm_preN C hH hA⟩ rfl rfl hl.1 rfl (lv_room (Nat.le_of_ble_eq_true rfl)) dL_act_1 ⟨Nat.le_of_ble_eq_true rfl, Nat.le_of_ble_eq_true rfl⟩) (fun ad H locs hH => ?_)
  refine lv_astore_n (lv' := [(3, .ref ad), (0, .ref (b + 0)), (1, .int a1), (2, .int a2)]) hx hb dL_act_4 rfl hl (by decide) rfl (fun ls hl => ?_)
  refine lv_aload_n hx hb dL_act_5 rfl (lv_at hl 1 rfl) ?_
  refine lv_iconst (v := 1) hx hb dL_act_6 (by decide) ?_
  obtain ⟨v1, e1, h⟩ := mm_bnd h
  refine md_goi hH hA (va_runV (As := [.int 1]) (rest := []) ⟨hx, hb, C.2.2.1, C.2.2.2.1, C.2.2.2.2.1⟩ (ct_X4_count l G T b z 1 x e1) (cwV 1 C.2.2.2.2.1 gL_act_X4_count rfl rfl rfl df_X4_count ⟨Nat.le_of_ble_eq_true rfl, Nat.le_of_ble_eq_true rfl⟩) ⟨mm_B.blind, mm_recvL (q := (RX4, TX4, 7)) C hH.1 kl_0 (mm_e4 kd_0) rfl, mm_preL C hH.1 hA⟩ rfl rfl hl.1 rfl (lv_room (Nat.le_of_ble_eq_true rfl)) dL_act_7 ⟨Nat.le_of_ble_eq_true rfl, Nat.le_of_ble_eq_true rfl⟩) (fun H locs hH => ?_)
  refine lv_istore (lv' := [(4, .int v1), (3, .ref ad), (0, .ref (b + 0)), (1, .int a1), (2, .int a2)]) hx hb dL_act_10 hl (by decide) rfl (fun ls hl => ?_)
  refine lv_iload_n hx hb dL_act_12 rfl (lv_at hl 3 rfl) ?_
  refine lv_iconst (v := 4) hx hb dL_act_13 (by decide) ?_
  refine lv_ishr hx hb dL_act_14 ?_
  refine lv_iload hx hb dL_act_15 (lv_at hl 0 rfl) ?_
  obtain ⟨v2, e2, h⟩ := mm_bnd h
  refine md_goi hH hA (va_runS (As := [.int (a1 >>> ((4 : Int32) &&& 31)), .int v1]) (rest := []) ⟨hx, hb, C.2.2.1, C.2.2.2.1, C.2.2.2.2.1⟩ (ct_L_low l G T b z (a1 >>> ((4 : Int32) &&& 31)) v1 x e2) (va_cwS 2 C.2.2.2.2.1 gL_act_L_low rfl rfl rfl df_L_low.2 ⟨Nat.le_of_ble_eq_true rfl, Nat.le_of_ble_eq_true rfl⟩) ⟨mm_B.blind, mm_preL C hH.1 hA⟩ rfl rfl hl.1 rfl (lv_room (Nat.le_of_ble_eq_true rfl)) dL_act_17 ⟨Nat.le_of_ble_eq_true rfl, Nat.le_of_ble_eq_true rfl⟩) (fun H locs hH => ?_)
  refine lv_istore (lv' := [(5, .int v2), (4, .int v1), (3, .ref ad), (0, .ref (b + 0)), (1, .int a1), (2, .int a2)]) hx hb dL_act_20 hl (by decide) rfl (fun ls hl => ?_)
  refine lv_aload_n hx hb dL_act_22 rfl (lv_at hl 3 rfl) ?_
  refine lv_iconst (v := 4) hx hb dL_act_23 (by decide) ?_
  obtain ⟨v3, e3, h⟩ := mm_bnd h
  refine md_goi hH hA (va_runV (As := [.int 4]) (rest := []) ⟨hx, hb, C.2.2.1, C.2.2.2.1, C.2.2.2.2.1⟩ (ct_X4_count l G T b z 4 x e3) (cwV 1 C.2.2.2.2.1 gL_act_X4_count rfl rfl rfl df_X4_count ⟨Nat.le_of_ble_eq_true rfl, Nat.le_of_ble_eq_true rfl⟩) ⟨mm_B.blind, mm_recvL (q := (RX4, TX4, 7)) C hH.1 kl_0 (mm_e4 kd_0) rfl, mm_preL C hH.1 hA⟩ rfl rfl hl.1 rfl (lv_room (Nat.le_of_ble_eq_true rfl)) dL_act_24 ⟨Nat.le_of_ble_eq_true rfl, Nat.le_of_ble_eq_true rfl⟩) (fun H locs hH => ?_)
  refine lv_istore (lv' := [(6, .int v3), (5, .int v2), (4, .int v1), (3, .ref ad), (0, .ref (b + 0)), (1, .int a1), (2, .int a2)]) hx hb dL_act_27 hl (by decide) rfl (fun ls hl => ?_)
  refine lv_aload_n hx hb dL_act_29 rfl (lv_at hl 4 rfl) ?_
  refine lv_iconst (v := 5) hx hb dL_act_30 (by decide) ?_
  obtain ⟨v4, e4, h⟩ := mm_bnd h
  refine md_goi hH hA (va_runV (As := [.int 5]) (rest := []) ⟨hx, hb, C.2.2.1, C.2.2.2.1, C.2.2.2.2.1⟩ (ct_X4_count l G T b z 5 x e4) (cwV 1 C.2.2.2.2.1 gL_act_X4_count rfl rfl rfl df_X4_count ⟨Nat.le_of_ble_eq_true rfl, Nat.le_of_ble_eq_true rfl⟩) ⟨mm_B.blind, mm_recvL (q := (RX4, TX4, 7)) C hH.1 kl_0 (mm_e4 kd_0) rfl, mm_preL C hH.1 hA⟩ rfl rfl hl.1 rfl (lv_room (Nat.le_of_ble_eq_true rfl)) dL_act_31 ⟨Nat.le_of_ble_eq_true rfl, Nat.le_of_ble_eq_true rfl⟩) (fun H locs hH => ?_)
  refine lv_istore (lv' := [(7, .int v4), (6, .int v3), (5, .int v2), (4, .int v1), (3, .ref ad), (0, .ref (b + 0)), (1, .int a1), (2, .int a2)]) hx hb dL_act_34 hl (by decide) rfl (fun ls hl => ?_)
  refine lv_iload_n hx hb dL_act_36 rfl (lv_at hl 6 rfl) ?_
  refine lv_bipush (v := 9) hx hb dL_act_37 (by decide) ?_
  obtain ⟨v5, e5, h⟩ := mm_bnd h
  refine md_goi hH hA (va_runS (As := [.int a1, .int 9]) (rest := []) ⟨hx, hb, C.2.2.1, C.2.2.2.1, C.2.2.2.2.1⟩ (ct_L_low l G T b z a1 9 x e5) (va_cwS 2 C.2.2.2.2.1 gL_act_L_low rfl rfl rfl df_L_low.2 ⟨Nat.le_of_ble_eq_true rfl, Nat.le_of_ble_eq_true rfl⟩) ⟨mm_B.blind, mm_preL C hH.1 hA⟩ rfl rfl hl.1 rfl (lv_room (Nat.le_of_ble_eq_true rfl)) dL_act_39 ⟨Nat.le_of_ble_eq_true rfl, Nat.le_of_ble_eq_true rfl⟩) (fun H locs hH => ?_)
  refine lv_istore (lv' := [(8, .int v5), (7, .int v4), (6, .int v3), (5, .int v2), (4, .int v1), (3, .ref ad), (0, .ref (b + 0)), (1, .int a1), (2, .int a2)]) hx hb dL_act_42 hl (by decide) rfl (fun ls hl => ?_)
  have hl := lv_sub (l' := [(8, .int v5), (7, .int v4), (6, .int v3), (5, .int v2), (4, .int v1), (3, .ref ad), (0, .ref (b + 0)), (2, .int a2)]) hl [0, 1, 2, 3, 4, 5, 6, 8] rfl
  refine lv_iconst (v := 1) hx hb dL_act_44 (by decide) ?_
  refine lv_istore (lv' := [(9, .int 1), (8, .int v5), (7, .int v4), (6, .int v3), (5, .int v2), (4, .int v1), (3, .ref ad), (0, .ref (b + 0)), (2, .int a2)]) hx hb dL_act_45 hl (by decide) rfl (fun ls hl => ?_)
  have hl := lv_sub (l' := [(8, .int v5), (7, .int v4), (6, .int v3), (5, .int v2), (4, .int v1), (3, .ref ad), (0, .ref (b + 0)), (2, .int a2)]) hl [1, 2, 3, 4, 5, 6, 7, 8] rfl
  refine lv_iload hx hb dL_act_47 (lv_at hl 0 rfl) ?_
  refine lv_if_ne (tgt := 116) hx hb dL_act_49 (by decide) (fun c1 => ?_) (fun c1 => ?_)
  · have h := mm_neg c1 h
    have hl := lv_sub (l' := [(8, .int v5), (7, .int v4), (6, .int v3), (5, .int v2), (3, .ref ad), (0, .ref (b + 0)), (2, .int a2)]) hl [0, 1, 2, 3, 5, 6, 7] rfl
    refine lv_iload hx hb dL_act_116 (lv_at hl 0 rfl) ?_
    refine lv_iconst (v := 4) hx hb dL_act_118 (by decide) ?_
    refine lv_icmp_ge (tgt := 226) hx hb dL_act_119 (by decide) (fun c2 => ?_) (fun c2 => ?_)
    · have h := mm_pos c2 h
      refine lv_iload hx hb dL_act_226 (lv_at hl 0 rfl) ?_
      refine lv_bipush (v := 6) hx hb dL_act_228 (by decide) ?_
      refine lv_icmp_ge (tgt := 338) hx hb dL_act_230 (by decide) (fun c3 => ?_) (fun c3 => ?_)
      · have h := mm_pos c3 h
        have hl := lv_sub (l' := [(7, .int v4), (6, .int v3), (3, .ref ad), (0, .ref (b + 0))]) hl [1, 2, 4, 5] rfl
        refine lv_aload_n hx hb dL_act_338 rfl (lv_at hl 3 rfl) ?_
        refine lv_aload_n hx hb dL_act_339 rfl (lv_at hl 2 rfl) ?_
        obtain ⟨x1, v6, e6, h⟩ := mm_bnd2 h
        refine md_goi hH hA (va_runS (As := [.ref (b + 0), .ref ad]) (rest := []) ⟨hx, hb, C.2.2.1, C.2.2.2.1, C.2.2.2.2.1⟩ (ct_L_passed l G T b z ad dd x e6) (va_cwS 2 C.2.2.2.2.1 gL_act_L_passed rfl rfl rfl df_L_passed.2 ⟨Nat.le_of_ble_eq_true rfl, Nat.le_of_ble_eq_true rfl⟩) ⟨mm_BD.blind, mm_preD C hH hA⟩ rfl rfl hl.1 rfl (lv_room (Nat.le_of_ble_eq_true rfl)) dL_act_340 ⟨Nat.le_of_ble_eq_true rfl, Nat.le_of_ble_eq_true rfl⟩) (fun H locs hH => ?_)
        refine lv_istore (lv' := [(9, .int v6), (7, .int v4), (6, .int v3), (3, .ref ad), (0, .ref (b + 0))]) hx hb dL_act_343 hl (by decide) rfl (fun ls hl => ?_)
        have hl := lv_sub (l' := [(9, .int v6), (7, .int v4), (6, .int v3), (0, .ref (b + 0))]) hl [0, 1, 2, 4] rfl
        refine lv_iload hx hb dL_act_345 (lv_at hl 0 rfl) ?_
        refine lv_if_eq (tgt := 387) hx hb dL_act_347 (by decide) (fun c4 => ?_) (fun c4 => ?_)
        · have h := mm_pos c4 h
          have hl := lv_sub (l' := []) hl [] rfl
          cases h
        · have h := mm_neg c4 h
          have hl := lv_sub (l' := [(7, .int v4), (6, .int v3), (0, .ref (b + 0))]) hl [1, 2, 3] rfl
          refine lv_aload_n hx hb dL_act_350 rfl (lv_at hl 2 rfl) ?_
          refine lv_iconst (v := 5) hx hb dL_act_351 (by decide) ?_
          obtain ⟨v7, e7, h⟩ := mm_bnd h
          refine md_goi hH hA (va_runV (As := [.int 5]) (rest := []) ⟨hx, hb, C.2.2.1, C.2.2.2.1, C.2.2.2.2.1⟩ (ct_X4_count l G T b z 5 x1 e7) (cwV 1 C.2.2.2.2.1 gL_act_X4_count rfl rfl rfl df_X4_count ⟨Nat.le_of_ble_eq_true rfl, Nat.le_of_ble_eq_true rfl⟩) ⟨mm_B.blind, mm_recvL (q := (RX4, TX4, 7)) C hH.1 kl_0 (mm_e4 kd_0) rfl, mm_preL C hH.1 hA⟩ rfl rfl hl.1 rfl (lv_room (Nat.le_of_ble_eq_true rfl)) dL_act_352 ⟨Nat.le_of_ble_eq_true rfl, Nat.le_of_ble_eq_true rfl⟩) (fun H locs hH => ?_)
          refine lv_iload hx hb dL_act_355 (lv_at hl 0 rfl) ?_
          refine lv_aload_n hx hb dL_act_357 rfl (lv_at hl 2 rfl) ?_
          refine lv_iconst (v := 4) hx hb dL_act_358 (by decide) ?_
          obtain ⟨v8, e8, h⟩ := mm_bnd h
          refine md_goi hH hA (va_runV (As := [.int 4]) (rest := [.int v4, .int v7]) ⟨hx, hb, C.2.2.1, C.2.2.2.1, C.2.2.2.2.1⟩ (ct_X4_count l G T b z 4 x1 e8) (cwV 1 C.2.2.2.2.1 gL_act_X4_count rfl rfl rfl df_X4_count ⟨Nat.le_of_ble_eq_true rfl, Nat.le_of_ble_eq_true rfl⟩) ⟨mm_B.blind, mm_recvL (q := (RX4, TX4, 7)) C hH.1 kl_0 (mm_e4 kd_0) rfl, mm_preL C hH.1 hA⟩ rfl rfl hl.1 rfl (lv_room (Nat.le_of_ble_eq_true rfl)) dL_act_359 ⟨Nat.le_of_ble_eq_true rfl, Nat.le_of_ble_eq_true rfl⟩) (fun H locs hH => ?_)
          refine lv_iload hx hb dL_act_362 (lv_at hl 1 rfl) ?_
          refine lv_icmp_eq (tgt := 371) hx hb dL_act_364 (by decide) (fun c5 => ?_) (fun c5 => ?_)
          · have h := mm_pos c5 h
            have hl := lv_sub (l' := [(0, .ref (b + 0))]) hl [2] rfl
            refine lv_iconst (v := 0) hx hb dL_act_371 (by decide) ?_
            refine lv_iadd hx hb dL_act_372 ?_
            refine lv_icmp_ne (tgt := 387) hx hb dL_act_373 (by decide) (fun c6 => ?_) (fun c6 => ?_)
            · have h := mm_neg c6 h
              have hl := lv_sub (l' := []) hl [] rfl
              cases h
            · have h := mm_pos c6 h
              refine lv_aload_n hx hb dL_act_376 rfl (lv_at hl 0 rfl) ?_
              obtain ⟨v9, e9, h⟩ := mm_bnd h
              refine md_goi hH hA (va_runS (As := [.ref (b + 0)]) (rest := []) ⟨hx, hb, C.2.2.1, C.2.2.2.1, C.2.2.2.2.1⟩ (ct_L_chosen l G T b z x1 e9) (va_cwS 1 C.2.2.2.2.1 gL_act_L_chosen rfl rfl rfl df_L_chosen.2 ⟨Nat.le_of_ble_eq_true rfl, Nat.le_of_ble_eq_true rfl⟩) ⟨mm_B.blind, mm_preL C hH.1 hA⟩ rfl rfl hl.1 rfl (lv_room (Nat.le_of_ble_eq_true rfl)) dL_act_377 ⟨Nat.le_of_ble_eq_true rfl, Nat.le_of_ble_eq_true rfl⟩) (fun H locs hH => ?_)
              refine lv_if_eq (tgt := 387) hx hb dL_act_380 (by decide) (fun c7 => ?_) (fun c7 => ?_)
              · have h := mm_pos c7 h
                have hl := lv_sub (l' := []) hl [] rfl
                cases h
              · have h := mm_neg c7 h
                have hl := lv_sub (l' := []) hl [] rfl
                refine lv_iconst (v := 1) hx hb dL_act_383 (by decide) ?_
                refine lv_goto (tgt := 388) hx hb dL_act_384 (by decide) ?_
                exact md_iret C hH.1 hr hlk rfl h dL_act_388
          · have h := mm_neg c5 h
            have hl := lv_sub (l' := [(0, .ref (b + 0))]) hl [2] rfl
            refine lv_iconst (v := 1) hx hb dL_act_367 (by decide) ?_
            refine lv_goto (tgt := 372) hx hb dL_act_368 (by decide) ?_
            refine lv_iadd hx hb dL_act_372 ?_
            refine lv_icmp_ne (tgt := 387) hx hb dL_act_373 (by decide) (fun c8 => ?_) (fun c8 => ?_)
            · have h := mm_neg c8 h
              have hl := lv_sub (l' := []) hl [] rfl
              cases h
            · have h := mm_pos c8 h
              refine lv_aload_n hx hb dL_act_376 rfl (lv_at hl 0 rfl) ?_
              obtain ⟨v10, e10, h⟩ := mm_bnd h
              refine md_goi hH hA (va_runS (As := [.ref (b + 0)]) (rest := []) ⟨hx, hb, C.2.2.1, C.2.2.2.1, C.2.2.2.2.1⟩ (ct_L_chosen l G T b z x1 e10) (va_cwS 1 C.2.2.2.2.1 gL_act_L_chosen rfl rfl rfl df_L_chosen.2 ⟨Nat.le_of_ble_eq_true rfl, Nat.le_of_ble_eq_true rfl⟩) ⟨mm_B.blind, mm_preL C hH.1 hA⟩ rfl rfl hl.1 rfl (lv_room (Nat.le_of_ble_eq_true rfl)) dL_act_377 ⟨Nat.le_of_ble_eq_true rfl, Nat.le_of_ble_eq_true rfl⟩) (fun H locs hH => ?_)
              refine lv_if_eq (tgt := 387) hx hb dL_act_380 (by decide) (fun c9 => ?_) (fun c9 => ?_)
              · have h := mm_pos c9 h
                have hl := lv_sub (l' := []) hl [] rfl
                cases h
              · have h := mm_neg c9 h
                have hl := lv_sub (l' := []) hl [] rfl
                refine lv_iconst (v := 1) hx hb dL_act_383 (by decide) ?_
                refine lv_goto (tgt := 388) hx hb dL_act_384 (by decide) ?_
                exact md_iret C hH.1 hr hlk rfl h dL_act_388
      · have h := mm_neg c3 h
        have hl := lv_sub (l' := [(7, .int v4), (6, .int v3), (5, .int v2), (3, .ref ad), (0, .ref (b + 0)), (2, .int a2)]) hl [1, 2, 3, 4, 5, 6] rfl
        refine lv_aload_n hx hb dL_act_233 rfl (lv_at hl 3 rfl) ?_
        refine lv_bipush (v := 8) hx hb dL_act_234 (by decide) ?_
        refine lv_iload hx hb dL_act_236 (lv_at hl 2 rfl) ?_
        refine lv_imul hx hb dL_act_238 ?_
        refine lv_iconst (v := 1) hx hb dL_act_239 (by decide) ?_
        refine lv_iadd hx hb dL_act_240 ?_
        obtain ⟨g1, h⟩ := mm_grn h
        refine md_dld C hH g1 dL_act_241 ?_
        refine lv_iload_n hx hb dL_act_242 rfl (lv_at hl 5 rfl) ?_
        refine lv_sipush (v := 1000) hx hb dL_act_243 (by decide) ?_
        obtain ⟨v11, e11, h⟩ := mm_bnd h
        refine md_goi hH hA (va_runS (As := [.int a2, .int 1000]) (rest := [.int (dd (Int32.toNatClampNeg (((8 : Int32) * v2) + 1)))]) ⟨hx, hb, C.2.2.1, C.2.2.2.1, C.2.2.2.2.1⟩ (ct_L_low l G T b z a2 1000 x e11) (va_cwS 2 C.2.2.2.2.1 gL_act_L_low rfl rfl rfl df_L_low.2 ⟨Nat.le_of_ble_eq_true rfl, Nat.le_of_ble_eq_true rfl⟩) ⟨mm_B.blind, mm_preL C hH.1 hA⟩ rfl rfl hl.1 rfl (lv_room (Nat.le_of_ble_eq_true rfl)) dL_act_246 ⟨Nat.le_of_ble_eq_true rfl, Nat.le_of_ble_eq_true rfl⟩) (fun H locs hH => ?_)
        refine lv_icmp_ne (tgt := 268) hx hb dL_act_249 (by decide) (fun c10 => ?_) (fun c10 => ?_)
        · have h := mm_neg c10 h
          refine lv_iload_n hx hb dL_act_268 rfl (lv_at hl 5 rfl) ?_
          refine lv_sipush (v := 1000) hx hb dL_act_269 (by decide) ?_
          obtain ⟨v12, e12, h⟩ := mm_bnd h
          refine md_goi hH hA (va_runS (As := [.int a2, .int 1000]) (rest := []) ⟨hx, hb, C.2.2.1, C.2.2.2.1, C.2.2.2.2.1⟩ (ct_L_low l G T b z a2 1000 x e12) (va_cwS 2 C.2.2.2.2.1 gL_act_L_low rfl rfl rfl df_L_low.2 ⟨Nat.le_of_ble_eq_true rfl, Nat.le_of_ble_eq_true rfl⟩) ⟨mm_B.blind, mm_preL C hH.1 hA⟩ rfl rfl hl.1 rfl (lv_room (Nat.le_of_ble_eq_true rfl)) dL_act_272 ⟨Nat.le_of_ble_eq_true rfl, Nat.le_of_ble_eq_true rfl⟩) (fun H locs hH => ?_)
          refine lv_istore (lv' := [(10, .int v12), (7, .int v4), (6, .int v3), (5, .int v2), (3, .ref ad), (0, .ref (b + 0)), (2, .int a2)]) hx hb dL_act_275 hl (by decide) rfl (fun ls hl => ?_)
          have hl := lv_sub (l' := [(10, .int v12), (7, .int v4), (6, .int v3), (5, .int v2), (3, .ref ad), (0, .ref (b + 0))]) hl [0, 1, 2, 3, 4, 5] rfl
          refine lv_aload_n hx hb dL_act_277 rfl (lv_at hl 5 rfl) ?_
          refine lv_iload hx hb dL_act_278 (lv_at hl 3 rfl) ?_
          refine lv_aload_n hx hb dL_act_280 rfl (lv_at hl 4 rfl) ?_
          refine lv_bipush (v := 8) hx hb dL_act_281 (by decide) ?_
          refine lv_iload hx hb dL_act_283 (lv_at hl 3 rfl) ?_
          refine lv_imul hx hb dL_act_285 ?_
          refine lv_iconst (v := 1) hx hb dL_act_286 (by decide) ?_
          refine lv_iadd hx hb dL_act_287 ?_
          obtain ⟨g2, h⟩ := mm_grn h
          refine md_dld C hH g2 dL_act_288 ?_
          obtain ⟨x2, v13, e13, h⟩ := mm_bnd2 h
          refine md_goi hH hA (va_runV (As := [.int v2, .int (dd (Int32.toNatClampNeg (((8 : Int32) * v2) + 1)))]) (rest := []) ⟨hx, hb, C.2.2.1, C.2.2.2.1, C.2.2.2.2.1⟩ (ct_X4_price l G T b z v2 (dd (Int32.toNatClampNeg (((8 : Int32) * v2) + 1))) x e13) (cwV 2 C.2.2.2.2.1 gL_act_X4_price rfl rfl rfl df_X4_price ⟨Nat.le_of_ble_eq_true rfl, Nat.le_of_ble_eq_true rfl⟩) ⟨mm_B.blind, mm_recvL (q := (RX4, TX4, 7)) C hH.1 kl_0 (mm_e4 kd_0) rfl, mm_preL C hH.1 hA⟩ rfl rfl hl.1 rfl (lv_room (Nat.le_of_ble_eq_true rfl)) dL_act_289 ⟨Nat.le_of_ble_eq_true rfl, Nat.le_of_ble_eq_true rfl⟩) (fun H locs hH => ?_)
          refine lv_bipush (v := (-5)) hx hb dL_act_292 (by decide) ?_
          refine lv_icmp_ne (tgt := 332) hx hb dL_act_294 (by decide) (fun c11 => ?_) (fun c11 => ?_)
          · have h := mm_neg c11 h
            have hl := lv_sub (l' := [(7, .int v4), (6, .int v3), (0, .ref (b + 0))]) hl [1, 2, 5] rfl
            cases h
          · have h := mm_pos c11 h
            refine lv_aload_n hx hb dL_act_297 rfl (lv_at hl 5 rfl) ?_
            refine lv_aload_n hx hb dL_act_298 rfl (lv_at hl 4 rfl) ?_
            refine lv_iload hx hb dL_act_299 (lv_at hl 3 rfl) ?_
            refine lv_iconst (v := 2) hx hb dL_act_301 (by decide) ?_
            refine lv_aload_n hx hb dL_act_302 rfl (lv_at hl 5 rfl) ?_
            refine lv_iload hx hb dL_act_303 (lv_at hl 3 rfl) ?_
            refine lv_iload hx hb dL_act_305 (lv_at hl 0 rfl) ?_
            obtain ⟨x3, v14, e14, h⟩ := mm_bnd2 h
            refine md_goi hH hA (va_runV (As := [.int v2, .int v12]) (rest := [.int 2, .int v2, .ref ad, .ref (b + 0)]) ⟨hx, hb, C.2.2.1, C.2.2.2.1, C.2.2.2.2.1⟩ (ct_X4_price l G T b z v2 v12 x2 e14) (cwV 2 C.2.2.2.2.1 gL_act_X4_price rfl rfl rfl df_X4_price ⟨Nat.le_of_ble_eq_true rfl, Nat.le_of_ble_eq_true rfl⟩) ⟨mm_B.blind, mm_recvL (q := (RX4, TX4, 7)) C hH.1 kl_0 (mm_e4 kd_0) rfl, mm_preL C hH.1 hA⟩ rfl rfl hl.1 rfl (lv_room (Nat.le_of_ble_eq_true rfl)) dL_act_307 ⟨Nat.le_of_ble_eq_true rfl, Nat.le_of_ble_eq_true rfl⟩) (fun H locs hH => ?_)
            obtain ⟨v15, e15, h⟩ := mm_bnd h
            refine md_goi hH hA (va_runS (As := [.ref (b + 0), .ref ad, .int v2, .int 2, .int v14]) (rest := []) ⟨hx, hb, C.2.2.1, C.2.2.2.1, C.2.2.2.2.1⟩ (ct_L_changed l G T b z ad dd v2 2 v14 x3 e15) (va_cwS 5 C.2.2.2.2.1 gL_act_L_changed rfl rfl rfl df_L_changed.2 ⟨Nat.le_of_ble_eq_true rfl, Nat.le_of_ble_eq_true rfl⟩) ⟨mm_BD.blind, mm_preD C hH hA⟩ rfl rfl hl.1 rfl (lv_room (Nat.le_of_ble_eq_true rfl)) dL_act_310 ⟨Nat.le_of_ble_eq_true rfl, Nat.le_of_ble_eq_true rfl⟩) (fun H locs hH => ?_)
            refine lv_if_eq (tgt := 332) hx hb dL_act_313 (by decide) (fun c12 => ?_) (fun c12 => ?_)
            · have h := mm_pos c12 h
              have hl := lv_sub (l' := [(7, .int v4), (6, .int v3), (0, .ref (b + 0))]) hl [1, 2, 5] rfl
              cases h
            · have h := mm_neg c12 h
              have hl := lv_sub (l' := [(10, .int v12), (7, .int v4), (6, .int v3), (5, .int v2), (0, .ref (b + 0))]) hl [0, 1, 2, 3, 5] rfl
              refine lv_aload_n hx hb dL_act_316 rfl (lv_at hl 4 rfl) ?_
              refine lv_iload hx hb dL_act_317 (lv_at hl 3 rfl) ?_
              refine lv_iconst (v := 1) hx hb dL_act_319 (by decide) ?_
              obtain ⟨v16, e16, h⟩ := mm_bnd h
              refine md_goi hH hA (va_runV (As := [.int v2, .int 1]) (rest := []) ⟨hx, hb, C.2.2.1, C.2.2.2.1, C.2.2.2.2.1⟩ (ct_X4_of l G T b z v2 1 x3 e16) (cwV 2 C.2.2.2.2.1 gL_act_X4_of rfl rfl rfl df_X4_of ⟨Nat.le_of_ble_eq_true rfl, Nat.le_of_ble_eq_true rfl⟩) ⟨mm_B.blind, mm_recvL (q := (RX4, TX4, 7)) C hH.1 kl_0 (mm_e4 kd_0) rfl, mm_preL C hH.1 hA⟩ rfl rfl hl.1 rfl (lv_room (Nat.le_of_ble_eq_true rfl)) dL_act_320 ⟨Nat.le_of_ble_eq_true rfl, Nat.le_of_ble_eq_true rfl⟩) (fun H locs hH => ?_)
              refine lv_iload hx hb dL_act_323 (lv_at hl 0 rfl) ?_
              refine lv_icmp_ne (tgt := 332) hx hb dL_act_325 (by decide) (fun c13 => ?_) (fun c13 => ?_)
              · have h := mm_neg c13 h
                have hl := lv_sub (l' := [(7, .int v4), (6, .int v3), (0, .ref (b + 0))]) hl [1, 2, 4] rfl
                cases h
              · have h := mm_pos c13 h
                have hl := lv_sub (l' := [(7, .int v4), (6, .int v3), (0, .ref (b + 0))]) hl [1, 2, 4] rfl
                refine lv_iconst (v := 1) hx hb dL_act_328 (by decide) ?_
                refine lv_goto (tgt := 333) hx hb dL_act_329 (by decide) ?_
                refine lv_istore (lv' := [(9, .int 1), (7, .int v4), (6, .int v3), (0, .ref (b + 0))]) hx hb dL_act_333 hl (by decide) rfl (fun ls hl => ?_)
                refine lv_goto (tgt := 345) hx hb dL_act_335 (by decide) ?_
                refine lv_iload hx hb dL_act_345 (lv_at hl 0 rfl) ?_
                refine lv_if_eq (tgt := 387) hx hb dL_act_347 (by decide) (fun c => absurd c (by decide)) (fun _ => ?_)
                have hl := lv_sub (l' := [(7, .int v4), (6, .int v3), (0, .ref (b + 0))]) hl [1, 2, 3] rfl
                refine lv_aload_n hx hb dL_act_350 rfl (lv_at hl 2 rfl) ?_
                refine lv_iconst (v := 5) hx hb dL_act_351 (by decide) ?_
                obtain ⟨v17, e17, h⟩ := mm_bnd h
                refine md_goi hH hA (va_runV (As := [.int 5]) (rest := []) ⟨hx, hb, C.2.2.1, C.2.2.2.1, C.2.2.2.2.1⟩ (ct_X4_count l G T b z 5 x3 e17) (cwV 1 C.2.2.2.2.1 gL_act_X4_count rfl rfl rfl df_X4_count ⟨Nat.le_of_ble_eq_true rfl, Nat.le_of_ble_eq_true rfl⟩) ⟨mm_B.blind, mm_recvL (q := (RX4, TX4, 7)) C hH.1 kl_0 (mm_e4 kd_0) rfl, mm_preL C hH.1 hA⟩ rfl rfl hl.1 rfl (lv_room (Nat.le_of_ble_eq_true rfl)) dL_act_352 ⟨Nat.le_of_ble_eq_true rfl, Nat.le_of_ble_eq_true rfl⟩) (fun H locs hH => ?_)
                refine lv_iload hx hb dL_act_355 (lv_at hl 0 rfl) ?_
                refine lv_aload_n hx hb dL_act_357 rfl (lv_at hl 2 rfl) ?_
                refine lv_iconst (v := 4) hx hb dL_act_358 (by decide) ?_
                obtain ⟨v18, e18, h⟩ := mm_bnd h
                refine md_goi hH hA (va_runV (As := [.int 4]) (rest := [.int v4, .int v17]) ⟨hx, hb, C.2.2.1, C.2.2.2.1, C.2.2.2.2.1⟩ (ct_X4_count l G T b z 4 x3 e18) (cwV 1 C.2.2.2.2.1 gL_act_X4_count rfl rfl rfl df_X4_count ⟨Nat.le_of_ble_eq_true rfl, Nat.le_of_ble_eq_true rfl⟩) ⟨mm_B.blind, mm_recvL (q := (RX4, TX4, 7)) C hH.1 kl_0 (mm_e4 kd_0) rfl, mm_preL C hH.1 hA⟩ rfl rfl hl.1 rfl (lv_room (Nat.le_of_ble_eq_true rfl)) dL_act_359 ⟨Nat.le_of_ble_eq_true rfl, Nat.le_of_ble_eq_true rfl⟩) (fun H locs hH => ?_)
                refine lv_iload hx hb dL_act_362 (lv_at hl 1 rfl) ?_
                refine lv_icmp_eq (tgt := 371) hx hb dL_act_364 (by decide) (fun c14 => ?_) (fun c14 => ?_)
                · have h := mm_pos c14 h
                  have hl := lv_sub (l' := [(0, .ref (b + 0))]) hl [2] rfl
                  refine lv_iconst (v := 0) hx hb dL_act_371 (by decide) ?_
                  refine lv_iadd hx hb dL_act_372 ?_
                  refine lv_icmp_ne (tgt := 387) hx hb dL_act_373 (by decide) (fun c15 => ?_) (fun c15 => ?_)
                  · have h := mm_neg c15 h
                    have hl := lv_sub (l' := []) hl [] rfl
                    cases h
                  · have h := mm_pos c15 h
                    refine lv_aload_n hx hb dL_act_376 rfl (lv_at hl 0 rfl) ?_
                    obtain ⟨v19, e19, h⟩ := mm_bnd h
                    refine md_goi hH hA (va_runS (As := [.ref (b + 0)]) (rest := []) ⟨hx, hb, C.2.2.1, C.2.2.2.1, C.2.2.2.2.1⟩ (ct_L_chosen l G T b z x3 e19) (va_cwS 1 C.2.2.2.2.1 gL_act_L_chosen rfl rfl rfl df_L_chosen.2 ⟨Nat.le_of_ble_eq_true rfl, Nat.le_of_ble_eq_true rfl⟩) ⟨mm_B.blind, mm_preL C hH.1 hA⟩ rfl rfl hl.1 rfl (lv_room (Nat.le_of_ble_eq_true rfl)) dL_act_377 ⟨Nat.le_of_ble_eq_true rfl, Nat.le_of_ble_eq_true rfl⟩) (fun H locs hH => ?_)
                    refine lv_if_eq (tgt := 387) hx hb dL_act_380 (by decide) (fun c16 => ?_) (fun c16 => ?_)
                    · have h := mm_pos c16 h
                      have hl := lv_sub (l' := []) hl [] rfl
                      cases h
                    · have h := mm_neg c16 h
                      have hl := lv_sub (l' := []) hl [] rfl
                      refine lv_iconst (v := 1) hx hb dL_act_383 (by decide) ?_
                      refine lv_goto (tgt := 388) hx hb dL_act_384 (by decide) ?_
                      exact md_iret C hH.1 hr hlk rfl h dL_act_388
                · have h := mm_neg c14 h
                  have hl := lv_sub (l' := [(0, .ref (b + 0))]) hl [2] rfl
                  refine lv_iconst (v := 1) hx hb dL_act_367 (by decide) ?_
                  refine lv_goto (tgt := 372) hx hb dL_act_368 (by decide) ?_
                  refine lv_iadd hx hb dL_act_372 ?_
                  refine lv_icmp_ne (tgt := 387) hx hb dL_act_373 (by decide) (fun c17 => ?_) (fun c17 => ?_)
                  · have h := mm_neg c17 h
                    have hl := lv_sub (l' := []) hl [] rfl
                    cases h
                  · have h := mm_pos c17 h
                    refine lv_aload_n hx hb dL_act_376 rfl (lv_at hl 0 rfl) ?_
                    obtain ⟨v20, e20, h⟩ := mm_bnd h
                    refine md_goi hH hA (va_runS (As := [.ref (b + 0)]) (rest := []) ⟨hx, hb, C.2.2.1, C.2.2.2.1, C.2.2.2.2.1⟩ (ct_L_chosen l G T b z x3 e20) (va_cwS 1 C.2.2.2.2.1 gL_act_L_chosen rfl rfl rfl df_L_chosen.2 ⟨Nat.le_of_ble_eq_true rfl, Nat.le_of_ble_eq_true rfl⟩) ⟨mm_B.blind, mm_preL C hH.1 hA⟩ rfl rfl hl.1 rfl (lv_room (Nat.le_of_ble_eq_true rfl)) dL_act_377 ⟨Nat.le_of_ble_eq_true rfl, Nat.le_of_ble_eq_true rfl⟩) (fun H locs hH => ?_)
                    refine lv_if_eq (tgt := 387) hx hb dL_act_380 (by decide) (fun c18 => ?_) (fun c18 => ?_)
                    · have h := mm_pos c18 h
                      have hl := lv_sub (l' := []) hl [] rfl
                      cases h
                    · have h := mm_neg c18 h
                      have hl := lv_sub (l' := []) hl [] rfl
                      refine lv_iconst (v := 1) hx hb dL_act_383 (by decide) ?_
                      refine lv_goto (tgt := 388) hx hb dL_act_384 (by decide) ?_
                      exact md_iret C hH.1 hr hlk rfl h dL_act_388
        · have h := mm_pos c10 h
          refine lv_iload_n hx hb dL_act_252 rfl (lv_at hl 5 rfl) ?_
          refine lv_sipush (v := 1000) hx hb dL_act_253 (by decide) ?_
          obtain ⟨v21, e21, h⟩ := mm_bnd h
          refine md_goi hH hA (va_runS (As := [.int a2, .int 1000]) (rest := []) ⟨hx, hb, C.2.2.1, C.2.2.2.1, C.2.2.2.2.1⟩ (ct_L_low l G T b z a2 1000 x e21) (va_cwS 2 C.2.2.2.2.1 gL_act_L_low rfl rfl rfl df_L_low.2 ⟨Nat.le_of_ble_eq_true rfl, Nat.le_of_ble_eq_true rfl⟩) ⟨mm_B.blind, mm_preL C hH.1 hA⟩ rfl rfl hl.1 rfl (lv_room (Nat.le_of_ble_eq_true rfl)) dL_act_256 ⟨Nat.le_of_ble_eq_true rfl, Nat.le_of_ble_eq_true rfl⟩) (fun H locs hH => ?_)
          refine lv_iconst (v := 1) hx hb dL_act_259 (by decide) ?_
          refine lv_iadd hx hb dL_act_260 ?_
          refine lv_sipush (v := 1000) hx hb dL_act_261 (by decide) ?_
          refine lv_irem hx hb dL_act_264 (by decide) ?_
          refine lv_goto (tgt := 275) hx hb dL_act_265 (by decide) ?_
          have hl := lv_sub (l' := [(7, .int v4), (6, .int v3), (5, .int v2), (3, .ref ad), (0, .ref (b + 0))]) hl [0, 1, 2, 3, 4] rfl
          obtain ⟨v22, e22, h⟩ := mm_bnd h
          refine mm_nmi e22 ?_
          refine lv_istore (lv' := [(10, .int v22), (7, .int v4), (6, .int v3), (5, .int v2), (3, .ref ad), (0, .ref (b + 0))]) hx hb dL_act_275 hl (by decide) rfl (fun ls hl => ?_)
          refine lv_aload_n hx hb dL_act_277 rfl (lv_at hl 5 rfl) ?_
          refine lv_iload hx hb dL_act_278 (lv_at hl 3 rfl) ?_
          refine lv_aload_n hx hb dL_act_280 rfl (lv_at hl 4 rfl) ?_
          refine lv_bipush (v := 8) hx hb dL_act_281 (by decide) ?_
          refine lv_iload hx hb dL_act_283 (lv_at hl 3 rfl) ?_
          refine lv_imul hx hb dL_act_285 ?_
          refine lv_iconst (v := 1) hx hb dL_act_286 (by decide) ?_
          refine lv_iadd hx hb dL_act_287 ?_
          obtain ⟨g3, h⟩ := mm_grn h
          refine md_dld C hH g3 dL_act_288 ?_
          obtain ⟨x4, v23, e23, h⟩ := mm_bnd2 h
          refine md_goi hH hA (va_runV (As := [.int v2, .int (dd (Int32.toNatClampNeg (((8 : Int32) * v2) + 1)))]) (rest := []) ⟨hx, hb, C.2.2.1, C.2.2.2.1, C.2.2.2.2.1⟩ (ct_X4_price l G T b z v2 (dd (Int32.toNatClampNeg (((8 : Int32) * v2) + 1))) x e23) (cwV 2 C.2.2.2.2.1 gL_act_X4_price rfl rfl rfl df_X4_price ⟨Nat.le_of_ble_eq_true rfl, Nat.le_of_ble_eq_true rfl⟩) ⟨mm_B.blind, mm_recvL (q := (RX4, TX4, 7)) C hH.1 kl_0 (mm_e4 kd_0) rfl, mm_preL C hH.1 hA⟩ rfl rfl hl.1 rfl (lv_room (Nat.le_of_ble_eq_true rfl)) dL_act_289 ⟨Nat.le_of_ble_eq_true rfl, Nat.le_of_ble_eq_true rfl⟩) (fun H locs hH => ?_)
          refine lv_bipush (v := (-5)) hx hb dL_act_292 (by decide) ?_
          refine lv_icmp_ne (tgt := 332) hx hb dL_act_294 (by decide) (fun c19 => ?_) (fun c19 => ?_)
          · have h := mm_neg c19 h
            have hl := lv_sub (l' := [(7, .int v4), (6, .int v3), (0, .ref (b + 0))]) hl [1, 2, 5] rfl
            cases h
          · have h := mm_pos c19 h
            refine lv_aload_n hx hb dL_act_297 rfl (lv_at hl 5 rfl) ?_
            refine lv_aload_n hx hb dL_act_298 rfl (lv_at hl 4 rfl) ?_
            refine lv_iload hx hb dL_act_299 (lv_at hl 3 rfl) ?_
            refine lv_iconst (v := 2) hx hb dL_act_301 (by decide) ?_
            refine lv_aload_n hx hb dL_act_302 rfl (lv_at hl 5 rfl) ?_
            refine lv_iload hx hb dL_act_303 (lv_at hl 3 rfl) ?_
            refine lv_iload hx hb dL_act_305 (lv_at hl 0 rfl) ?_
            obtain ⟨x5, v24, e24, h⟩ := mm_bnd2 h
            refine md_goi hH hA (va_runV (As := [.int v2, .int v22]) (rest := [.int 2, .int v2, .ref ad, .ref (b + 0)]) ⟨hx, hb, C.2.2.1, C.2.2.2.1, C.2.2.2.2.1⟩ (ct_X4_price l G T b z v2 v22 x4 e24) (cwV 2 C.2.2.2.2.1 gL_act_X4_price rfl rfl rfl df_X4_price ⟨Nat.le_of_ble_eq_true rfl, Nat.le_of_ble_eq_true rfl⟩) ⟨mm_B.blind, mm_recvL (q := (RX4, TX4, 7)) C hH.1 kl_0 (mm_e4 kd_0) rfl, mm_preL C hH.1 hA⟩ rfl rfl hl.1 rfl (lv_room (Nat.le_of_ble_eq_true rfl)) dL_act_307 ⟨Nat.le_of_ble_eq_true rfl, Nat.le_of_ble_eq_true rfl⟩) (fun H locs hH => ?_)
            obtain ⟨v25, e25, h⟩ := mm_bnd h
            refine md_goi hH hA (va_runS (As := [.ref (b + 0), .ref ad, .int v2, .int 2, .int v24]) (rest := []) ⟨hx, hb, C.2.2.1, C.2.2.2.1, C.2.2.2.2.1⟩ (ct_L_changed l G T b z ad dd v2 2 v24 x5 e25) (va_cwS 5 C.2.2.2.2.1 gL_act_L_changed rfl rfl rfl df_L_changed.2 ⟨Nat.le_of_ble_eq_true rfl, Nat.le_of_ble_eq_true rfl⟩) ⟨mm_BD.blind, mm_preD C hH hA⟩ rfl rfl hl.1 rfl (lv_room (Nat.le_of_ble_eq_true rfl)) dL_act_310 ⟨Nat.le_of_ble_eq_true rfl, Nat.le_of_ble_eq_true rfl⟩) (fun H locs hH => ?_)
            refine lv_if_eq (tgt := 332) hx hb dL_act_313 (by decide) (fun c20 => ?_) (fun c20 => ?_)
            · have h := mm_pos c20 h
              have hl := lv_sub (l' := [(7, .int v4), (6, .int v3), (0, .ref (b + 0))]) hl [1, 2, 5] rfl
              cases h
            · have h := mm_neg c20 h
              have hl := lv_sub (l' := [(10, .int v22), (7, .int v4), (6, .int v3), (5, .int v2), (0, .ref (b + 0))]) hl [0, 1, 2, 3, 5] rfl
              refine lv_aload_n hx hb dL_act_316 rfl (lv_at hl 4 rfl) ?_
              refine lv_iload hx hb dL_act_317 (lv_at hl 3 rfl) ?_
              refine lv_iconst (v := 1) hx hb dL_act_319 (by decide) ?_
              obtain ⟨v26, e26, h⟩ := mm_bnd h
              refine md_goi hH hA (va_runV (As := [.int v2, .int 1]) (rest := []) ⟨hx, hb, C.2.2.1, C.2.2.2.1, C.2.2.2.2.1⟩ (ct_X4_of l G T b z v2 1 x5 e26) (cwV 2 C.2.2.2.2.1 gL_act_X4_of rfl rfl rfl df_X4_of ⟨Nat.le_of_ble_eq_true rfl, Nat.le_of_ble_eq_true rfl⟩) ⟨mm_B.blind, mm_recvL (q := (RX4, TX4, 7)) C hH.1 kl_0 (mm_e4 kd_0) rfl, mm_preL C hH.1 hA⟩ rfl rfl hl.1 rfl (lv_room (Nat.le_of_ble_eq_true rfl)) dL_act_320 ⟨Nat.le_of_ble_eq_true rfl, Nat.le_of_ble_eq_true rfl⟩) (fun H locs hH => ?_)
              refine lv_iload hx hb dL_act_323 (lv_at hl 0 rfl) ?_
              refine lv_icmp_ne (tgt := 332) hx hb dL_act_325 (by decide) (fun c21 => ?_) (fun c21 => ?_)
              · have h := mm_neg c21 h
                have hl := lv_sub (l' := [(7, .int v4), (6, .int v3), (0, .ref (b + 0))]) hl [1, 2, 4] rfl
                cases h
              · have h := mm_pos c21 h
                have hl := lv_sub (l' := [(7, .int v4), (6, .int v3), (0, .ref (b + 0))]) hl [1, 2, 4] rfl
                refine lv_iconst (v := 1) hx hb dL_act_328 (by decide) ?_
                refine lv_goto (tgt := 333) hx hb dL_act_329 (by decide) ?_
                refine lv_istore (lv' := [(9, .int 1), (7, .int v4), (6, .int v3), (0, .ref (b + 0))]) hx hb dL_act_333 hl (by decide) rfl (fun ls hl => ?_)
                refine lv_goto (tgt := 345) hx hb dL_act_335 (by decide) ?_
                refine lv_iload hx hb dL_act_345 (lv_at hl 0 rfl) ?_
                refine lv_if_eq (tgt := 387) hx hb dL_act_347 (by decide) (fun c => absurd c (by decide)) (fun _ => ?_)
                have hl := lv_sub (l' := [(7, .int v4), (6, .int v3), (0, .ref (b + 0))]) hl [1, 2, 3] rfl
                refine lv_aload_n hx hb dL_act_350 rfl (lv_at hl 2 rfl) ?_
                refine lv_iconst (v := 5) hx hb dL_act_351 (by decide) ?_
                obtain ⟨v27, e27, h⟩ := mm_bnd h
                refine md_goi hH hA (va_runV (As := [.int 5]) (rest := []) ⟨hx, hb, C.2.2.1, C.2.2.2.1, C.2.2.2.2.1⟩ (ct_X4_count l G T b z 5 x5 e27) (cwV 1 C.2.2.2.2.1 gL_act_X4_count rfl rfl rfl df_X4_count ⟨Nat.le_of_ble_eq_true rfl, Nat.le_of_ble_eq_true rfl⟩) ⟨mm_B.blind, mm_recvL (q := (RX4, TX4, 7)) C hH.1 kl_0 (mm_e4 kd_0) rfl, mm_preL C hH.1 hA⟩ rfl rfl hl.1 rfl (lv_room (Nat.le_of_ble_eq_true rfl)) dL_act_352 ⟨Nat.le_of_ble_eq_true rfl, Nat.le_of_ble_eq_true rfl⟩) (fun H locs hH => ?_)
                refine lv_iload hx hb dL_act_355 (lv_at hl 0 rfl) ?_
                refine lv_aload_n hx hb dL_act_357 rfl (lv_at hl 2 rfl) ?_
                refine lv_iconst (v := 4) hx hb dL_act_358 (by decide) ?_
                obtain ⟨v28, e28, h⟩ := mm_bnd h
                refine md_goi hH hA (va_runV (As := [.int 4]) (rest := [.int v4, .int v27]) ⟨hx, hb, C.2.2.1, C.2.2.2.1, C.2.2.2.2.1⟩ (ct_X4_count l G T b z 4 x5 e28) (cwV 1 C.2.2.2.2.1 gL_act_X4_count rfl rfl rfl df_X4_count ⟨Nat.le_of_ble_eq_true rfl, Nat.le_of_ble_eq_true rfl⟩) ⟨mm_B.blind, mm_recvL (q := (RX4, TX4, 7)) C hH.1 kl_0 (mm_e4 kd_0) rfl, mm_preL C hH.1 hA⟩ rfl rfl hl.1 rfl (lv_room (Nat.le_of_ble_eq_true rfl)) dL_act_359 ⟨Nat.le_of_ble_eq_true rfl, Nat.le_of_ble_eq_true rfl⟩) (fun H locs hH => ?_)
                refine lv_iload hx hb dL_act_362 (lv_at hl 1 rfl) ?_
                refine lv_icmp_eq (tgt := 371) hx hb dL_act_364 (by decide) (fun c22 => ?_) (fun c22 => ?_)
                · have h := mm_pos c22 h
                  have hl := lv_sub (l' := [(0, .ref (b + 0))]) hl [2] rfl
                  refine lv_iconst (v := 0) hx hb dL_act_371 (by decide) ?_
                  refine lv_iadd hx hb dL_act_372 ?_
                  refine lv_icmp_ne (tgt := 387) hx hb dL_act_373 (by decide) (fun c23 => ?_) (fun c23 => ?_)
                  · have h := mm_neg c23 h
                    have hl := lv_sub (l' := []) hl [] rfl
                    cases h
                  · have h := mm_pos c23 h
                    refine lv_aload_n hx hb dL_act_376 rfl (lv_at hl 0 rfl) ?_
                    obtain ⟨v29, e29, h⟩ := mm_bnd h
                    refine md_goi hH hA (va_runS (As := [.ref (b + 0)]) (rest := []) ⟨hx, hb, C.2.2.1, C.2.2.2.1, C.2.2.2.2.1⟩ (ct_L_chosen l G T b z x5 e29) (va_cwS 1 C.2.2.2.2.1 gL_act_L_chosen rfl rfl rfl df_L_chosen.2 ⟨Nat.le_of_ble_eq_true rfl, Nat.le_of_ble_eq_true rfl⟩) ⟨mm_B.blind, mm_preL C hH.1 hA⟩ rfl rfl hl.1 rfl (lv_room (Nat.le_of_ble_eq_true rfl)) dL_act_377 ⟨Nat.le_of_ble_eq_true rfl, Nat.le_of_ble_eq_true rfl⟩) (fun H locs hH => ?_)
                    refine lv_if_eq (tgt := 387) hx hb dL_act_380 (by decide) (fun c24 => ?_) (fun c24 => ?_)
                    · have h := mm_pos c24 h
                      have hl := lv_sub (l' := []) hl [] rfl
                      cases h
                    · have h := mm_neg c24 h
                      have hl := lv_sub (l' := []) hl [] rfl
                      refine lv_iconst (v := 1) hx hb dL_act_383 (by decide) ?_
                      refine lv_goto (tgt := 388) hx hb dL_act_384 (by decide) ?_
                      exact md_iret C hH.1 hr hlk rfl h dL_act_388
                · have h := mm_neg c22 h
                  have hl := lv_sub (l' := [(0, .ref (b + 0))]) hl [2] rfl
                  refine lv_iconst (v := 1) hx hb dL_act_367 (by decide) ?_
                  refine lv_goto (tgt := 372) hx hb dL_act_368 (by decide) ?_
                  refine lv_iadd hx hb dL_act_372 ?_
                  refine lv_icmp_ne (tgt := 387) hx hb dL_act_373 (by decide) (fun c25 => ?_) (fun c25 => ?_)
                  · have h := mm_neg c25 h
                    have hl := lv_sub (l' := []) hl [] rfl
                    cases h
                  · have h := mm_pos c25 h
                    refine lv_aload_n hx hb dL_act_376 rfl (lv_at hl 0 rfl) ?_
                    obtain ⟨v30, e30, h⟩ := mm_bnd h
                    refine md_goi hH hA (va_runS (As := [.ref (b + 0)]) (rest := []) ⟨hx, hb, C.2.2.1, C.2.2.2.1, C.2.2.2.2.1⟩ (ct_L_chosen l G T b z x5 e30) (va_cwS 1 C.2.2.2.2.1 gL_act_L_chosen rfl rfl rfl df_L_chosen.2 ⟨Nat.le_of_ble_eq_true rfl, Nat.le_of_ble_eq_true rfl⟩) ⟨mm_B.blind, mm_preL C hH.1 hA⟩ rfl rfl hl.1 rfl (lv_room (Nat.le_of_ble_eq_true rfl)) dL_act_377 ⟨Nat.le_of_ble_eq_true rfl, Nat.le_of_ble_eq_true rfl⟩) (fun H locs hH => ?_)
                    refine lv_if_eq (tgt := 387) hx hb dL_act_380 (by decide) (fun c26 => ?_) (fun c26 => ?_)
                    · have h := mm_pos c26 h
                      have hl := lv_sub (l' := []) hl [] rfl
                      cases h
                    · have h := mm_neg c26 h
                      have hl := lv_sub (l' := []) hl [] rfl
                      refine lv_iconst (v := 1) hx hb dL_act_383 (by decide) ?_
                      refine lv_goto (tgt := 388) hx hb dL_act_384 (by decide) ?_
                      exact md_iret C hH.1 hr hlk rfl h dL_act_388
    · have h := mm_neg c2 h
      have hl := lv_sub (l' := [(7, .int v4), (6, .int v3), (5, .int v2), (3, .ref ad), (0, .ref (b + 0))]) hl [1, 2, 3, 4, 5] rfl
      refine lv_aload_n hx hb dL_act_122 rfl (lv_at hl 3 rfl) ?_
      refine lv_bipush (v := 8) hx hb dL_act_123 (by decide) ?_
      refine lv_iload hx hb dL_act_125 (lv_at hl 2 rfl) ?_
      refine lv_imul hx hb dL_act_127 ?_
      obtain ⟨g4, h⟩ := mm_grn h
      refine md_dld C hH g4 dL_act_128 ?_
      refine lv_if_ne (tgt := 136) hx hb dL_act_129 (by decide) (fun c27 => ?_) (fun c27 => ?_)
      · have h := mm_neg c27 h
        refine lv_iconst (v := 0) hx hb dL_act_136 (by decide) ?_
        refine lv_istore (lv' := [(10, .int 0), (7, .int v4), (6, .int v3), (5, .int v2), (3, .ref ad), (0, .ref (b + 0))]) hx hb dL_act_137 hl (by decide) rfl (fun ls hl => ?_)
        refine lv_iload hx hb dL_act_139 (lv_at hl 0 rfl) ?_
        refine lv_if_eq (tgt := 153) hx hb dL_act_141 (by decide) (fun _ => ?_) (fun c => absurd (by decide) c)
        refine lv_aload_n hx hb dL_act_153 rfl (lv_at hl 5 rfl) ?_
        refine lv_iload hx hb dL_act_154 (lv_at hl 3 rfl) ?_
        obtain ⟨x6, v31, e31, h⟩ := mm_bnd2 h
        refine md_goi hH hA (va_runV (As := [.int v2]) (rest := []) ⟨hx, hb, C.2.2.1, C.2.2.2.1, C.2.2.2.2.1⟩ (ct_X4_open l G T b z v2 x e31) (cwV 1 C.2.2.2.2.1 gL_act_X4_open rfl rfl rfl df_X4_open ⟨Nat.le_of_ble_eq_true rfl, Nat.le_of_ble_eq_true rfl⟩) ⟨mm_B.blind, mm_recvL (q := (RX4, TX4, 7)) C hH.1 kl_0 (mm_e4 kd_0) rfl, mm_preL C hH.1 hA⟩ rfl rfl hl.1 rfl (lv_room (Nat.le_of_ble_eq_true rfl)) dL_act_156 ⟨Nat.le_of_ble_eq_true rfl, Nat.le_of_ble_eq_true rfl⟩) (fun H locs hH => ?_)
        refine lv_bipush (v := (-5)) hx hb dL_act_159 (by decide) ?_
        refine lv_icmp_ne (tgt := 168) hx hb dL_act_161 (by decide) (fun c28 => ?_) (fun c28 => ?_)
        · have h := mm_neg c28 h
          cases h
        · have h := mm_pos c28 h
          refine lv_iconst (v := 1) hx hb dL_act_164 (by decide) ?_
          refine lv_goto (tgt := 169) hx hb dL_act_165 (by decide) ?_
          refine lv_istore (lv' := [(9, .int 1), (10, .int 0), (7, .int v4), (6, .int v3), (5, .int v2), (3, .ref ad), (0, .ref (b + 0))]) hx hb dL_act_169 hl (by decide) rfl (fun ls hl => ?_)
          refine lv_iload hx hb dL_act_171 (lv_at hl 0 rfl) ?_
          refine lv_if_eq (tgt := 220) hx hb dL_act_173 (by decide) (fun c => absurd c (by decide)) (fun _ => ?_)
          have hl := lv_sub (l' := [(10, .int 0), (7, .int v4), (6, .int v3), (5, .int v2), (3, .ref ad), (0, .ref (b + 0))]) hl [1, 2, 3, 4, 5, 6] rfl
          refine lv_aload_n hx hb dL_act_176 rfl (lv_at hl 5 rfl) ?_
          refine lv_aload_n hx hb dL_act_177 rfl (lv_at hl 4 rfl) ?_
          refine lv_iload hx hb dL_act_178 (lv_at hl 3 rfl) ?_
          refine lv_iload hx hb dL_act_180 (lv_at hl 0 rfl) ?_
          refine lv_if_eq (tgt := 189) hx hb dL_act_182 (by decide) (fun _ => ?_) (fun c => absurd (by decide) c)
          have hl := lv_sub (l' := [(10, .int 0), (7, .int v4), (6, .int v3), (5, .int v2), (0, .ref (b + 0))]) hl [0, 1, 2, 3, 5] rfl
          refine lv_iconst (v := 0) hx hb dL_act_189 (by decide) ?_
          refine lv_iload hx hb dL_act_190 (lv_at hl 0 rfl) ?_
          refine lv_if_eq (tgt := 204) hx hb dL_act_192 (by decide) (fun _ => ?_) (fun c => absurd (by decide) c)
          have hl := lv_sub (l' := [(7, .int v4), (6, .int v3), (5, .int v2), (0, .ref (b + 0))]) hl [1, 2, 3, 4] rfl
          refine lv_aload_n hx hb dL_act_204 rfl (lv_at hl 3 rfl) ?_
          refine lv_iload hx hb dL_act_205 (lv_at hl 2 rfl) ?_
          obtain ⟨x7, v32, e32, h⟩ := mm_bnd2 h
          refine md_goi hH hA (va_runV (As := [.int v2]) (rest := [.int 0, .int v2, .ref ad, .ref (b + 0)]) ⟨hx, hb, C.2.2.1, C.2.2.2.1, C.2.2.2.2.1⟩ (ct_X4_close l G T b z v2 x6 e32) (cwV 1 C.2.2.2.2.1 gL_act_X4_close rfl rfl rfl df_X4_close ⟨Nat.le_of_ble_eq_true rfl, Nat.le_of_ble_eq_true rfl⟩) ⟨mm_B.blind, mm_recvL (q := (RX4, TX4, 7)) C hH.1 kl_0 (mm_e4 kd_0) rfl, mm_preL C hH.1 hA⟩ rfl rfl hl.1 rfl (lv_room (Nat.le_of_ble_eq_true rfl)) dL_act_207 ⟨Nat.le_of_ble_eq_true rfl, Nat.le_of_ble_eq_true rfl⟩) (fun H locs hH => ?_)
          obtain ⟨v33, e33, h⟩ := mm_bnd h
          refine md_goi hH hA (va_runS (As := [.ref (b + 0), .ref ad, .int v2, .int 0, .int v32]) (rest := []) ⟨hx, hb, C.2.2.1, C.2.2.2.1, C.2.2.2.2.1⟩ (ct_L_changed l G T b z ad dd v2 0 v32 x7 e33) (va_cwS 5 C.2.2.2.2.1 gL_act_L_changed rfl rfl rfl df_L_changed.2 ⟨Nat.le_of_ble_eq_true rfl, Nat.le_of_ble_eq_true rfl⟩) ⟨mm_BD.blind, mm_preD C hH hA⟩ rfl rfl hl.1 rfl (lv_room (Nat.le_of_ble_eq_true rfl)) dL_act_210 ⟨Nat.le_of_ble_eq_true rfl, Nat.le_of_ble_eq_true rfl⟩) (fun H locs hH => ?_)
          refine lv_if_eq (tgt := 220) hx hb dL_act_213 (by decide) (fun c29 => ?_) (fun c29 => ?_)
          · have h := mm_pos c29 h
            have hl := lv_sub (l' := [(7, .int v4), (6, .int v3), (0, .ref (b + 0))]) hl [0, 1, 3] rfl
            cases h
          · have h := mm_neg c29 h
            have hl := lv_sub (l' := [(7, .int v4), (6, .int v3), (0, .ref (b + 0))]) hl [0, 1, 3] rfl
            refine lv_iconst (v := 1) hx hb dL_act_216 (by decide) ?_
            refine lv_goto (tgt := 221) hx hb dL_act_217 (by decide) ?_
            refine lv_istore (lv' := [(9, .int 1), (7, .int v4), (6, .int v3), (0, .ref (b + 0))]) hx hb dL_act_221 hl (by decide) rfl (fun ls hl => ?_)
            refine lv_goto (tgt := 345) hx hb dL_act_223 (by decide) ?_
            refine lv_iload hx hb dL_act_345 (lv_at hl 0 rfl) ?_
            refine lv_if_eq (tgt := 387) hx hb dL_act_347 (by decide) (fun c => absurd c (by decide)) (fun _ => ?_)
            have hl := lv_sub (l' := [(7, .int v4), (6, .int v3), (0, .ref (b + 0))]) hl [1, 2, 3] rfl
            refine lv_aload_n hx hb dL_act_350 rfl (lv_at hl 2 rfl) ?_
            refine lv_iconst (v := 5) hx hb dL_act_351 (by decide) ?_
            obtain ⟨v34, e34, h⟩ := mm_bnd h
            refine md_goi hH hA (va_runV (As := [.int 5]) (rest := []) ⟨hx, hb, C.2.2.1, C.2.2.2.1, C.2.2.2.2.1⟩ (ct_X4_count l G T b z 5 x7 e34) (cwV 1 C.2.2.2.2.1 gL_act_X4_count rfl rfl rfl df_X4_count ⟨Nat.le_of_ble_eq_true rfl, Nat.le_of_ble_eq_true rfl⟩) ⟨mm_B.blind, mm_recvL (q := (RX4, TX4, 7)) C hH.1 kl_0 (mm_e4 kd_0) rfl, mm_preL C hH.1 hA⟩ rfl rfl hl.1 rfl (lv_room (Nat.le_of_ble_eq_true rfl)) dL_act_352 ⟨Nat.le_of_ble_eq_true rfl, Nat.le_of_ble_eq_true rfl⟩) (fun H locs hH => ?_)
            refine lv_iload hx hb dL_act_355 (lv_at hl 0 rfl) ?_
            refine lv_aload_n hx hb dL_act_357 rfl (lv_at hl 2 rfl) ?_
            refine lv_iconst (v := 4) hx hb dL_act_358 (by decide) ?_
            obtain ⟨v35, e35, h⟩ := mm_bnd h
            refine md_goi hH hA (va_runV (As := [.int 4]) (rest := [.int v4, .int v34]) ⟨hx, hb, C.2.2.1, C.2.2.2.1, C.2.2.2.2.1⟩ (ct_X4_count l G T b z 4 x7 e35) (cwV 1 C.2.2.2.2.1 gL_act_X4_count rfl rfl rfl df_X4_count ⟨Nat.le_of_ble_eq_true rfl, Nat.le_of_ble_eq_true rfl⟩) ⟨mm_B.blind, mm_recvL (q := (RX4, TX4, 7)) C hH.1 kl_0 (mm_e4 kd_0) rfl, mm_preL C hH.1 hA⟩ rfl rfl hl.1 rfl (lv_room (Nat.le_of_ble_eq_true rfl)) dL_act_359 ⟨Nat.le_of_ble_eq_true rfl, Nat.le_of_ble_eq_true rfl⟩) (fun H locs hH => ?_)
            refine lv_iload hx hb dL_act_362 (lv_at hl 1 rfl) ?_
            refine lv_icmp_eq (tgt := 371) hx hb dL_act_364 (by decide) (fun c30 => ?_) (fun c30 => ?_)
            · have h := mm_pos c30 h
              have hl := lv_sub (l' := [(0, .ref (b + 0))]) hl [2] rfl
              refine lv_iconst (v := 0) hx hb dL_act_371 (by decide) ?_
              refine lv_iadd hx hb dL_act_372 ?_
              refine lv_icmp_ne (tgt := 387) hx hb dL_act_373 (by decide) (fun c31 => ?_) (fun c31 => ?_)
              · have h := mm_neg c31 h
                have hl := lv_sub (l' := []) hl [] rfl
                cases h
              · have h := mm_pos c31 h
                refine lv_aload_n hx hb dL_act_376 rfl (lv_at hl 0 rfl) ?_
                obtain ⟨v36, e36, h⟩ := mm_bnd h
                refine md_goi hH hA (va_runS (As := [.ref (b + 0)]) (rest := []) ⟨hx, hb, C.2.2.1, C.2.2.2.1, C.2.2.2.2.1⟩ (ct_L_chosen l G T b z x7 e36) (va_cwS 1 C.2.2.2.2.1 gL_act_L_chosen rfl rfl rfl df_L_chosen.2 ⟨Nat.le_of_ble_eq_true rfl, Nat.le_of_ble_eq_true rfl⟩) ⟨mm_B.blind, mm_preL C hH.1 hA⟩ rfl rfl hl.1 rfl (lv_room (Nat.le_of_ble_eq_true rfl)) dL_act_377 ⟨Nat.le_of_ble_eq_true rfl, Nat.le_of_ble_eq_true rfl⟩) (fun H locs hH => ?_)
                refine lv_if_eq (tgt := 387) hx hb dL_act_380 (by decide) (fun c32 => ?_) (fun c32 => ?_)
                · have h := mm_pos c32 h
                  have hl := lv_sub (l' := []) hl [] rfl
                  cases h
                · have h := mm_neg c32 h
                  have hl := lv_sub (l' := []) hl [] rfl
                  refine lv_iconst (v := 1) hx hb dL_act_383 (by decide) ?_
                  refine lv_goto (tgt := 388) hx hb dL_act_384 (by decide) ?_
                  exact md_iret C hH.1 hr hlk rfl h dL_act_388
            · have h := mm_neg c30 h
              have hl := lv_sub (l' := [(0, .ref (b + 0))]) hl [2] rfl
              refine lv_iconst (v := 1) hx hb dL_act_367 (by decide) ?_
              refine lv_goto (tgt := 372) hx hb dL_act_368 (by decide) ?_
              refine lv_iadd hx hb dL_act_372 ?_
              refine lv_icmp_ne (tgt := 387) hx hb dL_act_373 (by decide) (fun c33 => ?_) (fun c33 => ?_)
              · have h := mm_neg c33 h
                have hl := lv_sub (l' := []) hl [] rfl
                cases h
              · have h := mm_pos c33 h
                refine lv_aload_n hx hb dL_act_376 rfl (lv_at hl 0 rfl) ?_
                obtain ⟨v37, e37, h⟩ := mm_bnd h
                refine md_goi hH hA (va_runS (As := [.ref (b + 0)]) (rest := []) ⟨hx, hb, C.2.2.1, C.2.2.2.1, C.2.2.2.2.1⟩ (ct_L_chosen l G T b z x7 e37) (va_cwS 1 C.2.2.2.2.1 gL_act_L_chosen rfl rfl rfl df_L_chosen.2 ⟨Nat.le_of_ble_eq_true rfl, Nat.le_of_ble_eq_true rfl⟩) ⟨mm_B.blind, mm_preL C hH.1 hA⟩ rfl rfl hl.1 rfl (lv_room (Nat.le_of_ble_eq_true rfl)) dL_act_377 ⟨Nat.le_of_ble_eq_true rfl, Nat.le_of_ble_eq_true rfl⟩) (fun H locs hH => ?_)
                refine lv_if_eq (tgt := 387) hx hb dL_act_380 (by decide) (fun c34 => ?_) (fun c34 => ?_)
                · have h := mm_pos c34 h
                  have hl := lv_sub (l' := []) hl [] rfl
                  cases h
                · have h := mm_neg c34 h
                  have hl := lv_sub (l' := []) hl [] rfl
                  refine lv_iconst (v := 1) hx hb dL_act_383 (by decide) ?_
                  refine lv_goto (tgt := 388) hx hb dL_act_384 (by decide) ?_
                  exact md_iret C hH.1 hr hlk rfl h dL_act_388
      · have h := mm_pos c27 h
        refine lv_iconst (v := 1) hx hb dL_act_132 (by decide) ?_
        refine lv_goto (tgt := 137) hx hb dL_act_133 (by decide) ?_
        refine lv_istore (lv' := [(10, .int 1), (7, .int v4), (6, .int v3), (5, .int v2), (3, .ref ad), (0, .ref (b + 0))]) hx hb dL_act_137 hl (by decide) rfl (fun ls hl => ?_)
        refine lv_iload hx hb dL_act_139 (lv_at hl 0 rfl) ?_
        refine lv_if_eq (tgt := 153) hx hb dL_act_141 (by decide) (fun c => absurd c (by decide)) (fun _ => ?_)
        refine lv_aload_n hx hb dL_act_144 rfl (lv_at hl 5 rfl) ?_
        refine lv_iload hx hb dL_act_145 (lv_at hl 3 rfl) ?_
        obtain ⟨x8, v38, e38, h⟩ := mm_bnd2 h
        refine md_goi hH hA (va_runV (As := [.int v2]) (rest := []) ⟨hx, hb, C.2.2.1, C.2.2.2.1, C.2.2.2.2.1⟩ (ct_X4_close l G T b z v2 x e38) (cwV 1 C.2.2.2.2.1 gL_act_X4_close rfl rfl rfl df_X4_close ⟨Nat.le_of_ble_eq_true rfl, Nat.le_of_ble_eq_true rfl⟩) ⟨mm_B.blind, mm_recvL (q := (RX4, TX4, 7)) C hH.1 kl_0 (mm_e4 kd_0) rfl, mm_preL C hH.1 hA⟩ rfl rfl hl.1 rfl (lv_room (Nat.le_of_ble_eq_true rfl)) dL_act_147 ⟨Nat.le_of_ble_eq_true rfl, Nat.le_of_ble_eq_true rfl⟩) (fun H locs hH => ?_)
        refine lv_goto (tgt := 159) hx hb dL_act_150 (by decide) ?_
        refine lv_bipush (v := (-5)) hx hb dL_act_159 (by decide) ?_
        refine lv_icmp_ne (tgt := 168) hx hb dL_act_161 (by decide) (fun c35 => ?_) (fun c35 => ?_)
        · have h := mm_neg c35 h
          cases h
        · have h := mm_pos c35 h
          refine lv_iconst (v := 1) hx hb dL_act_164 (by decide) ?_
          refine lv_goto (tgt := 169) hx hb dL_act_165 (by decide) ?_
          refine lv_istore (lv' := [(9, .int 1), (10, .int 1), (7, .int v4), (6, .int v3), (5, .int v2), (3, .ref ad), (0, .ref (b + 0))]) hx hb dL_act_169 hl (by decide) rfl (fun ls hl => ?_)
          refine lv_iload hx hb dL_act_171 (lv_at hl 0 rfl) ?_
          refine lv_if_eq (tgt := 220) hx hb dL_act_173 (by decide) (fun c => absurd c (by decide)) (fun _ => ?_)
          have hl := lv_sub (l' := [(10, .int 1), (7, .int v4), (6, .int v3), (5, .int v2), (3, .ref ad), (0, .ref (b + 0))]) hl [1, 2, 3, 4, 5, 6] rfl
          refine lv_aload_n hx hb dL_act_176 rfl (lv_at hl 5 rfl) ?_
          refine lv_aload_n hx hb dL_act_177 rfl (lv_at hl 4 rfl) ?_
          refine lv_iload hx hb dL_act_178 (lv_at hl 3 rfl) ?_
          refine lv_iload hx hb dL_act_180 (lv_at hl 0 rfl) ?_
          refine lv_if_eq (tgt := 189) hx hb dL_act_182 (by decide) (fun c => absurd c (by decide)) (fun _ => ?_)
          have hl := lv_sub (l' := [(10, .int 1), (7, .int v4), (6, .int v3), (5, .int v2), (0, .ref (b + 0))]) hl [0, 1, 2, 3, 5] rfl
          refine lv_iconst (v := 1) hx hb dL_act_185 (by decide) ?_
          refine lv_goto (tgt := 190) hx hb dL_act_186 (by decide) ?_
          refine lv_iload hx hb dL_act_190 (lv_at hl 0 rfl) ?_
          refine lv_if_eq (tgt := 204) hx hb dL_act_192 (by decide) (fun c => absurd c (by decide)) (fun _ => ?_)
          have hl := lv_sub (l' := [(7, .int v4), (6, .int v3), (5, .int v2), (0, .ref (b + 0))]) hl [1, 2, 3, 4] rfl
          refine lv_aload_n hx hb dL_act_195 rfl (lv_at hl 3 rfl) ?_
          refine lv_iload hx hb dL_act_196 (lv_at hl 2 rfl) ?_
          obtain ⟨x9, v39, e39, h⟩ := mm_bnd2 h
          refine md_goi hH hA (va_runV (As := [.int v2]) (rest := [.int 1, .int v2, .ref ad, .ref (b + 0)]) ⟨hx, hb, C.2.2.1, C.2.2.2.1, C.2.2.2.2.1⟩ (ct_X4_open l G T b z v2 x8 e39) (cwV 1 C.2.2.2.2.1 gL_act_X4_open rfl rfl rfl df_X4_open ⟨Nat.le_of_ble_eq_true rfl, Nat.le_of_ble_eq_true rfl⟩) ⟨mm_B.blind, mm_recvL (q := (RX4, TX4, 7)) C hH.1 kl_0 (mm_e4 kd_0) rfl, mm_preL C hH.1 hA⟩ rfl rfl hl.1 rfl (lv_room (Nat.le_of_ble_eq_true rfl)) dL_act_198 ⟨Nat.le_of_ble_eq_true rfl, Nat.le_of_ble_eq_true rfl⟩) (fun H locs hH => ?_)
          refine lv_goto (tgt := 210) hx hb dL_act_201 (by decide) ?_
          have hl := lv_sub (l' := [(7, .int v4), (6, .int v3), (0, .ref (b + 0))]) hl [0, 1, 3] rfl
          obtain ⟨v40, e40, h⟩ := mm_bnd h
          refine md_goi hH hA (va_runS (As := [.ref (b + 0), .ref ad, .int v2, .int 1, .int v39]) (rest := []) ⟨hx, hb, C.2.2.1, C.2.2.2.1, C.2.2.2.2.1⟩ (ct_L_changed l G T b z ad dd v2 1 v39 x9 e40) (va_cwS 5 C.2.2.2.2.1 gL_act_L_changed rfl rfl rfl df_L_changed.2 ⟨Nat.le_of_ble_eq_true rfl, Nat.le_of_ble_eq_true rfl⟩) ⟨mm_BD.blind, mm_preD C hH hA⟩ rfl rfl hl.1 rfl (lv_room (Nat.le_of_ble_eq_true rfl)) dL_act_210 ⟨Nat.le_of_ble_eq_true rfl, Nat.le_of_ble_eq_true rfl⟩) (fun H locs hH => ?_)
          refine lv_if_eq (tgt := 220) hx hb dL_act_213 (by decide) (fun c36 => ?_) (fun c36 => ?_)
          · have h := mm_pos c36 h
            cases h
          · have h := mm_neg c36 h
            refine lv_iconst (v := 1) hx hb dL_act_216 (by decide) ?_
            refine lv_goto (tgt := 221) hx hb dL_act_217 (by decide) ?_
            refine lv_istore (lv' := [(9, .int 1), (7, .int v4), (6, .int v3), (0, .ref (b + 0))]) hx hb dL_act_221 hl (by decide) rfl (fun ls hl => ?_)
            refine lv_goto (tgt := 345) hx hb dL_act_223 (by decide) ?_
            refine lv_iload hx hb dL_act_345 (lv_at hl 0 rfl) ?_
            refine lv_if_eq (tgt := 387) hx hb dL_act_347 (by decide) (fun c => absurd c (by decide)) (fun _ => ?_)
            have hl := lv_sub (l' := [(7, .int v4), (6, .int v3), (0, .ref (b + 0))]) hl [1, 2, 3] rfl
            refine lv_aload_n hx hb dL_act_350 rfl (lv_at hl 2 rfl) ?_
            refine lv_iconst (v := 5) hx hb dL_act_351 (by decide) ?_
            obtain ⟨v41, e41, h⟩ := mm_bnd h
            refine md_goi hH hA (va_runV (As := [.int 5]) (rest := []) ⟨hx, hb, C.2.2.1, C.2.2.2.1, C.2.2.2.2.1⟩ (ct_X4_count l G T b z 5 x9 e41) (cwV 1 C.2.2.2.2.1 gL_act_X4_count rfl rfl rfl df_X4_count ⟨Nat.le_of_ble_eq_true rfl, Nat.le_of_ble_eq_true rfl⟩) ⟨mm_B.blind, mm_recvL (q := (RX4, TX4, 7)) C hH.1 kl_0 (mm_e4 kd_0) rfl, mm_preL C hH.1 hA⟩ rfl rfl hl.1 rfl (lv_room (Nat.le_of_ble_eq_true rfl)) dL_act_352 ⟨Nat.le_of_ble_eq_true rfl, Nat.le_of_ble_eq_true rfl⟩) (fun H locs hH => ?_)
            refine lv_iload hx hb dL_act_355 (lv_at hl 0 rfl) ?_
            refine lv_aload_n hx hb dL_act_357 rfl (lv_at hl 2 rfl) ?_
            refine lv_iconst (v := 4) hx hb dL_act_358 (by decide) ?_
            obtain ⟨v42, e42, h⟩ := mm_bnd h
            refine md_goi hH hA (va_runV (As := [.int 4]) (rest := [.int v4, .int v41]) ⟨hx, hb, C.2.2.1, C.2.2.2.1, C.2.2.2.2.1⟩ (ct_X4_count l G T b z 4 x9 e42) (cwV 1 C.2.2.2.2.1 gL_act_X4_count rfl rfl rfl df_X4_count ⟨Nat.le_of_ble_eq_true rfl, Nat.le_of_ble_eq_true rfl⟩) ⟨mm_B.blind, mm_recvL (q := (RX4, TX4, 7)) C hH.1 kl_0 (mm_e4 kd_0) rfl, mm_preL C hH.1 hA⟩ rfl rfl hl.1 rfl (lv_room (Nat.le_of_ble_eq_true rfl)) dL_act_359 ⟨Nat.le_of_ble_eq_true rfl, Nat.le_of_ble_eq_true rfl⟩) (fun H locs hH => ?_)
            refine lv_iload hx hb dL_act_362 (lv_at hl 1 rfl) ?_
            refine lv_icmp_eq (tgt := 371) hx hb dL_act_364 (by decide) (fun c37 => ?_) (fun c37 => ?_)
            · have h := mm_pos c37 h
              have hl := lv_sub (l' := [(0, .ref (b + 0))]) hl [2] rfl
              refine lv_iconst (v := 0) hx hb dL_act_371 (by decide) ?_
              refine lv_iadd hx hb dL_act_372 ?_
              refine lv_icmp_ne (tgt := 387) hx hb dL_act_373 (by decide) (fun c38 => ?_) (fun c38 => ?_)
              · have h := mm_neg c38 h
                have hl := lv_sub (l' := []) hl [] rfl
                cases h
              · have h := mm_pos c38 h
                refine lv_aload_n hx hb dL_act_376 rfl (lv_at hl 0 rfl) ?_
                obtain ⟨v43, e43, h⟩ := mm_bnd h
                refine md_goi hH hA (va_runS (As := [.ref (b + 0)]) (rest := []) ⟨hx, hb, C.2.2.1, C.2.2.2.1, C.2.2.2.2.1⟩ (ct_L_chosen l G T b z x9 e43) (va_cwS 1 C.2.2.2.2.1 gL_act_L_chosen rfl rfl rfl df_L_chosen.2 ⟨Nat.le_of_ble_eq_true rfl, Nat.le_of_ble_eq_true rfl⟩) ⟨mm_B.blind, mm_preL C hH.1 hA⟩ rfl rfl hl.1 rfl (lv_room (Nat.le_of_ble_eq_true rfl)) dL_act_377 ⟨Nat.le_of_ble_eq_true rfl, Nat.le_of_ble_eq_true rfl⟩) (fun H locs hH => ?_)
                refine lv_if_eq (tgt := 387) hx hb dL_act_380 (by decide) (fun c39 => ?_) (fun c39 => ?_)
                · have h := mm_pos c39 h
                  have hl := lv_sub (l' := []) hl [] rfl
                  cases h
                · have h := mm_neg c39 h
                  have hl := lv_sub (l' := []) hl [] rfl
                  refine lv_iconst (v := 1) hx hb dL_act_383 (by decide) ?_
                  refine lv_goto (tgt := 388) hx hb dL_act_384 (by decide) ?_
                  exact md_iret C hH.1 hr hlk rfl h dL_act_388
            · have h := mm_neg c37 h
              have hl := lv_sub (l' := [(0, .ref (b + 0))]) hl [2] rfl
              refine lv_iconst (v := 1) hx hb dL_act_367 (by decide) ?_
              refine lv_goto (tgt := 372) hx hb dL_act_368 (by decide) ?_
              refine lv_iadd hx hb dL_act_372 ?_
              refine lv_icmp_ne (tgt := 387) hx hb dL_act_373 (by decide) (fun c40 => ?_) (fun c40 => ?_)
              · have h := mm_neg c40 h
                have hl := lv_sub (l' := []) hl [] rfl
                cases h
              · have h := mm_pos c40 h
                refine lv_aload_n hx hb dL_act_376 rfl (lv_at hl 0 rfl) ?_
                obtain ⟨v44, e44, h⟩ := mm_bnd h
                refine md_goi hH hA (va_runS (As := [.ref (b + 0)]) (rest := []) ⟨hx, hb, C.2.2.1, C.2.2.2.1, C.2.2.2.2.1⟩ (ct_L_chosen l G T b z x9 e44) (va_cwS 1 C.2.2.2.2.1 gL_act_L_chosen rfl rfl rfl df_L_chosen.2 ⟨Nat.le_of_ble_eq_true rfl, Nat.le_of_ble_eq_true rfl⟩) ⟨mm_B.blind, mm_preL C hH.1 hA⟩ rfl rfl hl.1 rfl (lv_room (Nat.le_of_ble_eq_true rfl)) dL_act_377 ⟨Nat.le_of_ble_eq_true rfl, Nat.le_of_ble_eq_true rfl⟩) (fun H locs hH => ?_)
                refine lv_if_eq (tgt := 387) hx hb dL_act_380 (by decide) (fun c41 => ?_) (fun c41 => ?_)
                · have h := mm_pos c41 h
                  have hl := lv_sub (l' := []) hl [] rfl
                  cases h
                · have h := mm_neg c41 h
                  have hl := lv_sub (l' := []) hl [] rfl
                  refine lv_iconst (v := 1) hx hb dL_act_383 (by decide) ?_
                  refine lv_goto (tgt := 388) hx hb dL_act_384 (by decide) ?_
                  exact md_iret C hH.1 hr hlk rfl h dL_act_388
  · have h := mm_pos c1 h
    refine lv_iload hx hb dL_act_52 (lv_at hl 4 rfl) ?_
    refine lv_bipush (v := 8) hx hb dL_act_54 (by decide) ?_
    refine lv_icmp_ge (tgt := 116) hx hb dL_act_56 (by decide) (fun c42 => ?_) (fun c42 => ?_)
    · have h := mm_pos c42 h
      have hl := lv_sub (l' := [(8, .int v5), (7, .int v4), (6, .int v3), (5, .int v2), (3, .ref ad), (0, .ref (b + 0)), (2, .int a2)]) hl [0, 1, 2, 3, 5, 6, 7] rfl
      refine lv_iload hx hb dL_act_116 (lv_at hl 0 rfl) ?_
      refine lv_iconst (v := 4) hx hb dL_act_118 (by decide) ?_
      refine lv_icmp_ge (tgt := 226) hx hb dL_act_119 (by decide) (fun c43 => ?_) (fun c43 => ?_)
      · have h := mm_pos c43 h
        refine lv_iload hx hb dL_act_226 (lv_at hl 0 rfl) ?_
        refine lv_bipush (v := 6) hx hb dL_act_228 (by decide) ?_
        refine lv_icmp_ge (tgt := 338) hx hb dL_act_230 (by decide) (fun c44 => ?_) (fun c44 => ?_)
        · have h := mm_pos c44 h
          have hl := lv_sub (l' := [(7, .int v4), (6, .int v3), (3, .ref ad), (0, .ref (b + 0))]) hl [1, 2, 4, 5] rfl
          refine lv_aload_n hx hb dL_act_338 rfl (lv_at hl 3 rfl) ?_
          refine lv_aload_n hx hb dL_act_339 rfl (lv_at hl 2 rfl) ?_
          obtain ⟨x10, v45, e45, h⟩ := mm_bnd2 h
          refine md_goi hH hA (va_runS (As := [.ref (b + 0), .ref ad]) (rest := []) ⟨hx, hb, C.2.2.1, C.2.2.2.1, C.2.2.2.2.1⟩ (ct_L_passed l G T b z ad dd x e45) (va_cwS 2 C.2.2.2.2.1 gL_act_L_passed rfl rfl rfl df_L_passed.2 ⟨Nat.le_of_ble_eq_true rfl, Nat.le_of_ble_eq_true rfl⟩) ⟨mm_BD.blind, mm_preD C hH hA⟩ rfl rfl hl.1 rfl (lv_room (Nat.le_of_ble_eq_true rfl)) dL_act_340 ⟨Nat.le_of_ble_eq_true rfl, Nat.le_of_ble_eq_true rfl⟩) (fun H locs hH => ?_)
          refine lv_istore (lv' := [(9, .int v45), (7, .int v4), (6, .int v3), (3, .ref ad), (0, .ref (b + 0))]) hx hb dL_act_343 hl (by decide) rfl (fun ls hl => ?_)
          have hl := lv_sub (l' := [(9, .int v45), (7, .int v4), (6, .int v3), (0, .ref (b + 0))]) hl [0, 1, 2, 4] rfl
          refine lv_iload hx hb dL_act_345 (lv_at hl 0 rfl) ?_
          refine lv_if_eq (tgt := 387) hx hb dL_act_347 (by decide) (fun c45 => ?_) (fun c45 => ?_)
          · have h := mm_pos c45 h
            have hl := lv_sub (l' := []) hl [] rfl
            cases h
          · have h := mm_neg c45 h
            have hl := lv_sub (l' := [(7, .int v4), (6, .int v3), (0, .ref (b + 0))]) hl [1, 2, 3] rfl
            refine lv_aload_n hx hb dL_act_350 rfl (lv_at hl 2 rfl) ?_
            refine lv_iconst (v := 5) hx hb dL_act_351 (by decide) ?_
            obtain ⟨v46, e46, h⟩ := mm_bnd h
            refine md_goi hH hA (va_runV (As := [.int 5]) (rest := []) ⟨hx, hb, C.2.2.1, C.2.2.2.1, C.2.2.2.2.1⟩ (ct_X4_count l G T b z 5 x10 e46) (cwV 1 C.2.2.2.2.1 gL_act_X4_count rfl rfl rfl df_X4_count ⟨Nat.le_of_ble_eq_true rfl, Nat.le_of_ble_eq_true rfl⟩) ⟨mm_B.blind, mm_recvL (q := (RX4, TX4, 7)) C hH.1 kl_0 (mm_e4 kd_0) rfl, mm_preL C hH.1 hA⟩ rfl rfl hl.1 rfl (lv_room (Nat.le_of_ble_eq_true rfl)) dL_act_352 ⟨Nat.le_of_ble_eq_true rfl, Nat.le_of_ble_eq_true rfl⟩) (fun H locs hH => ?_)
            refine lv_iload hx hb dL_act_355 (lv_at hl 0 rfl) ?_
            refine lv_aload_n hx hb dL_act_357 rfl (lv_at hl 2 rfl) ?_
            refine lv_iconst (v := 4) hx hb dL_act_358 (by decide) ?_
            obtain ⟨v47, e47, h⟩ := mm_bnd h
            refine md_goi hH hA (va_runV (As := [.int 4]) (rest := [.int v4, .int v46]) ⟨hx, hb, C.2.2.1, C.2.2.2.1, C.2.2.2.2.1⟩ (ct_X4_count l G T b z 4 x10 e47) (cwV 1 C.2.2.2.2.1 gL_act_X4_count rfl rfl rfl df_X4_count ⟨Nat.le_of_ble_eq_true rfl, Nat.le_of_ble_eq_true rfl⟩) ⟨mm_B.blind, mm_recvL (q := (RX4, TX4, 7)) C hH.1 kl_0 (mm_e4 kd_0) rfl, mm_preL C hH.1 hA⟩ rfl rfl hl.1 rfl (lv_room (Nat.le_of_ble_eq_true rfl)) dL_act_359 ⟨Nat.le_of_ble_eq_true rfl, Nat.le_of_ble_eq_true rfl⟩) (fun H locs hH => ?_)
            refine lv_iload hx hb dL_act_362 (lv_at hl 1 rfl) ?_
            refine lv_icmp_eq (tgt := 371) hx hb dL_act_364 (by decide) (fun c46 => ?_) (fun c46 => ?_)
            · have h := mm_pos c46 h
              have hl := lv_sub (l' := [(0, .ref (b + 0))]) hl [2] rfl
              refine lv_iconst (v := 0) hx hb dL_act_371 (by decide) ?_
              refine lv_iadd hx hb dL_act_372 ?_
              refine lv_icmp_ne (tgt := 387) hx hb dL_act_373 (by decide) (fun c47 => ?_) (fun c47 => ?_)
              · have h := mm_neg c47 h
                have hl := lv_sub (l' := []) hl [] rfl
                cases h
              · have h := mm_pos c47 h
                refine lv_aload_n hx hb dL_act_376 rfl (lv_at hl 0 rfl) ?_
                obtain ⟨v48, e48, h⟩ := mm_bnd h
                refine md_goi hH hA (va_runS (As := [.ref (b + 0)]) (rest := []) ⟨hx, hb, C.2.2.1, C.2.2.2.1, C.2.2.2.2.1⟩ (ct_L_chosen l G T b z x10 e48) (va_cwS 1 C.2.2.2.2.1 gL_act_L_chosen rfl rfl rfl df_L_chosen.2 ⟨Nat.le_of_ble_eq_true rfl, Nat.le_of_ble_eq_true rfl⟩) ⟨mm_B.blind, mm_preL C hH.1 hA⟩ rfl rfl hl.1 rfl (lv_room (Nat.le_of_ble_eq_true rfl)) dL_act_377 ⟨Nat.le_of_ble_eq_true rfl, Nat.le_of_ble_eq_true rfl⟩) (fun H locs hH => ?_)
                refine lv_if_eq (tgt := 387) hx hb dL_act_380 (by decide) (fun c48 => ?_) (fun c48 => ?_)
                · have h := mm_pos c48 h
                  have hl := lv_sub (l' := []) hl [] rfl
                  cases h
                · have h := mm_neg c48 h
                  have hl := lv_sub (l' := []) hl [] rfl
                  refine lv_iconst (v := 1) hx hb dL_act_383 (by decide) ?_
                  refine lv_goto (tgt := 388) hx hb dL_act_384 (by decide) ?_
                  exact md_iret C hH.1 hr hlk rfl h dL_act_388
            · have h := mm_neg c46 h
              have hl := lv_sub (l' := [(0, .ref (b + 0))]) hl [2] rfl
              refine lv_iconst (v := 1) hx hb dL_act_367 (by decide) ?_
              refine lv_goto (tgt := 372) hx hb dL_act_368 (by decide) ?_
              refine lv_iadd hx hb dL_act_372 ?_
              refine lv_icmp_ne (tgt := 387) hx hb dL_act_373 (by decide) (fun c49 => ?_) (fun c49 => ?_)
              · have h := mm_neg c49 h
                have hl := lv_sub (l' := []) hl [] rfl
                cases h
              · have h := mm_pos c49 h
                refine lv_aload_n hx hb dL_act_376 rfl (lv_at hl 0 rfl) ?_
                obtain ⟨v49, e49, h⟩ := mm_bnd h
                refine md_goi hH hA (va_runS (As := [.ref (b + 0)]) (rest := []) ⟨hx, hb, C.2.2.1, C.2.2.2.1, C.2.2.2.2.1⟩ (ct_L_chosen l G T b z x10 e49) (va_cwS 1 C.2.2.2.2.1 gL_act_L_chosen rfl rfl rfl df_L_chosen.2 ⟨Nat.le_of_ble_eq_true rfl, Nat.le_of_ble_eq_true rfl⟩) ⟨mm_B.blind, mm_preL C hH.1 hA⟩ rfl rfl hl.1 rfl (lv_room (Nat.le_of_ble_eq_true rfl)) dL_act_377 ⟨Nat.le_of_ble_eq_true rfl, Nat.le_of_ble_eq_true rfl⟩) (fun H locs hH => ?_)
                refine lv_if_eq (tgt := 387) hx hb dL_act_380 (by decide) (fun c50 => ?_) (fun c50 => ?_)
                · have h := mm_pos c50 h
                  have hl := lv_sub (l' := []) hl [] rfl
                  cases h
                · have h := mm_neg c50 h
                  have hl := lv_sub (l' := []) hl [] rfl
                  refine lv_iconst (v := 1) hx hb dL_act_383 (by decide) ?_
                  refine lv_goto (tgt := 388) hx hb dL_act_384 (by decide) ?_
                  exact md_iret C hH.1 hr hlk rfl h dL_act_388
        · have h := mm_neg c44 h
          have hl := lv_sub (l' := [(7, .int v4), (6, .int v3), (5, .int v2), (3, .ref ad), (0, .ref (b + 0)), (2, .int a2)]) hl [1, 2, 3, 4, 5, 6] rfl
          refine lv_aload_n hx hb dL_act_233 rfl (lv_at hl 3 rfl) ?_
          refine lv_bipush (v := 8) hx hb dL_act_234 (by decide) ?_
          refine lv_iload hx hb dL_act_236 (lv_at hl 2 rfl) ?_
          refine lv_imul hx hb dL_act_238 ?_
          refine lv_iconst (v := 1) hx hb dL_act_239 (by decide) ?_
          refine lv_iadd hx hb dL_act_240 ?_
          obtain ⟨g5, h⟩ := mm_grn h
          refine md_dld C hH g5 dL_act_241 ?_
          refine lv_iload_n hx hb dL_act_242 rfl (lv_at hl 5 rfl) ?_
          refine lv_sipush (v := 1000) hx hb dL_act_243 (by decide) ?_
          obtain ⟨v50, e50, h⟩ := mm_bnd h
          refine md_goi hH hA (va_runS (As := [.int a2, .int 1000]) (rest := [.int (dd (Int32.toNatClampNeg (((8 : Int32) * v2) + 1)))]) ⟨hx, hb, C.2.2.1, C.2.2.2.1, C.2.2.2.2.1⟩ (ct_L_low l G T b z a2 1000 x e50) (va_cwS 2 C.2.2.2.2.1 gL_act_L_low rfl rfl rfl df_L_low.2 ⟨Nat.le_of_ble_eq_true rfl, Nat.le_of_ble_eq_true rfl⟩) ⟨mm_B.blind, mm_preL C hH.1 hA⟩ rfl rfl hl.1 rfl (lv_room (Nat.le_of_ble_eq_true rfl)) dL_act_246 ⟨Nat.le_of_ble_eq_true rfl, Nat.le_of_ble_eq_true rfl⟩) (fun H locs hH => ?_)
          refine lv_icmp_ne (tgt := 268) hx hb dL_act_249 (by decide) (fun c51 => ?_) (fun c51 => ?_)
          · have h := mm_neg c51 h
            refine lv_iload_n hx hb dL_act_268 rfl (lv_at hl 5 rfl) ?_
            refine lv_sipush (v := 1000) hx hb dL_act_269 (by decide) ?_
            obtain ⟨v51, e51, h⟩ := mm_bnd h
            refine md_goi hH hA (va_runS (As := [.int a2, .int 1000]) (rest := []) ⟨hx, hb, C.2.2.1, C.2.2.2.1, C.2.2.2.2.1⟩ (ct_L_low l G T b z a2 1000 x e51) (va_cwS 2 C.2.2.2.2.1 gL_act_L_low rfl rfl rfl df_L_low.2 ⟨Nat.le_of_ble_eq_true rfl, Nat.le_of_ble_eq_true rfl⟩) ⟨mm_B.blind, mm_preL C hH.1 hA⟩ rfl rfl hl.1 rfl (lv_room (Nat.le_of_ble_eq_true rfl)) dL_act_272 ⟨Nat.le_of_ble_eq_true rfl, Nat.le_of_ble_eq_true rfl⟩) (fun H locs hH => ?_)
            refine lv_istore (lv' := [(10, .int v51), (7, .int v4), (6, .int v3), (5, .int v2), (3, .ref ad), (0, .ref (b + 0)), (2, .int a2)]) hx hb dL_act_275 hl (by decide) rfl (fun ls hl => ?_)
            have hl := lv_sub (l' := [(10, .int v51), (7, .int v4), (6, .int v3), (5, .int v2), (3, .ref ad), (0, .ref (b + 0))]) hl [0, 1, 2, 3, 4, 5] rfl
            refine lv_aload_n hx hb dL_act_277 rfl (lv_at hl 5 rfl) ?_
            refine lv_iload hx hb dL_act_278 (lv_at hl 3 rfl) ?_
            refine lv_aload_n hx hb dL_act_280 rfl (lv_at hl 4 rfl) ?_
            refine lv_bipush (v := 8) hx hb dL_act_281 (by decide) ?_
            refine lv_iload hx hb dL_act_283 (lv_at hl 3 rfl) ?_
            refine lv_imul hx hb dL_act_285 ?_
            refine lv_iconst (v := 1) hx hb dL_act_286 (by decide) ?_
            refine lv_iadd hx hb dL_act_287 ?_
            obtain ⟨g6, h⟩ := mm_grn h
            refine md_dld C hH g6 dL_act_288 ?_
            obtain ⟨x11, v52, e52, h⟩ := mm_bnd2 h
            refine md_goi hH hA (va_runV (As := [.int v2, .int (dd (Int32.toNatClampNeg (((8 : Int32) * v2) + 1)))]) (rest := []) ⟨hx, hb, C.2.2.1, C.2.2.2.1, C.2.2.2.2.1⟩ (ct_X4_price l G T b z v2 (dd (Int32.toNatClampNeg (((8 : Int32) * v2) + 1))) x e52) (cwV 2 C.2.2.2.2.1 gL_act_X4_price rfl rfl rfl df_X4_price ⟨Nat.le_of_ble_eq_true rfl, Nat.le_of_ble_eq_true rfl⟩) ⟨mm_B.blind, mm_recvL (q := (RX4, TX4, 7)) C hH.1 kl_0 (mm_e4 kd_0) rfl, mm_preL C hH.1 hA⟩ rfl rfl hl.1 rfl (lv_room (Nat.le_of_ble_eq_true rfl)) dL_act_289 ⟨Nat.le_of_ble_eq_true rfl, Nat.le_of_ble_eq_true rfl⟩) (fun H locs hH => ?_)
            refine lv_bipush (v := (-5)) hx hb dL_act_292 (by decide) ?_
            refine lv_icmp_ne (tgt := 332) hx hb dL_act_294 (by decide) (fun c52 => ?_) (fun c52 => ?_)
            · have h := mm_neg c52 h
              have hl := lv_sub (l' := [(7, .int v4), (6, .int v3), (0, .ref (b + 0))]) hl [1, 2, 5] rfl
              cases h
            · have h := mm_pos c52 h
              refine lv_aload_n hx hb dL_act_297 rfl (lv_at hl 5 rfl) ?_
              refine lv_aload_n hx hb dL_act_298 rfl (lv_at hl 4 rfl) ?_
              refine lv_iload hx hb dL_act_299 (lv_at hl 3 rfl) ?_
              refine lv_iconst (v := 2) hx hb dL_act_301 (by decide) ?_
              refine lv_aload_n hx hb dL_act_302 rfl (lv_at hl 5 rfl) ?_
              refine lv_iload hx hb dL_act_303 (lv_at hl 3 rfl) ?_
              refine lv_iload hx hb dL_act_305 (lv_at hl 0 rfl) ?_
              obtain ⟨x12, v53, e53, h⟩ := mm_bnd2 h
              refine md_goi hH hA (va_runV (As := [.int v2, .int v51]) (rest := [.int 2, .int v2, .ref ad, .ref (b + 0)]) ⟨hx, hb, C.2.2.1, C.2.2.2.1, C.2.2.2.2.1⟩ (ct_X4_price l G T b z v2 v51 x11 e53) (cwV 2 C.2.2.2.2.1 gL_act_X4_price rfl rfl rfl df_X4_price ⟨Nat.le_of_ble_eq_true rfl, Nat.le_of_ble_eq_true rfl⟩) ⟨mm_B.blind, mm_recvL (q := (RX4, TX4, 7)) C hH.1 kl_0 (mm_e4 kd_0) rfl, mm_preL C hH.1 hA⟩ rfl rfl hl.1 rfl (lv_room (Nat.le_of_ble_eq_true rfl)) dL_act_307 ⟨Nat.le_of_ble_eq_true rfl, Nat.le_of_ble_eq_true rfl⟩) (fun H locs hH => ?_)
              obtain ⟨v54, e54, h⟩ := mm_bnd h
              refine md_goi hH hA (va_runS (As := [.ref (b + 0), .ref ad, .int v2, .int 2, .int v53]) (rest := []) ⟨hx, hb, C.2.2.1, C.2.2.2.1, C.2.2.2.2.1⟩ (ct_L_changed l G T b z ad dd v2 2 v53 x12 e54) (va_cwS 5 C.2.2.2.2.1 gL_act_L_changed rfl rfl rfl df_L_changed.2 ⟨Nat.le_of_ble_eq_true rfl, Nat.le_of_ble_eq_true rfl⟩) ⟨mm_BD.blind, mm_preD C hH hA⟩ rfl rfl hl.1 rfl (lv_room (Nat.le_of_ble_eq_true rfl)) dL_act_310 ⟨Nat.le_of_ble_eq_true rfl, Nat.le_of_ble_eq_true rfl⟩) (fun H locs hH => ?_)
              refine lv_if_eq (tgt := 332) hx hb dL_act_313 (by decide) (fun c53 => ?_) (fun c53 => ?_)
              · have h := mm_pos c53 h
                have hl := lv_sub (l' := [(7, .int v4), (6, .int v3), (0, .ref (b + 0))]) hl [1, 2, 5] rfl
                cases h
              · have h := mm_neg c53 h
                have hl := lv_sub (l' := [(10, .int v51), (7, .int v4), (6, .int v3), (5, .int v2), (0, .ref (b + 0))]) hl [0, 1, 2, 3, 5] rfl
                refine lv_aload_n hx hb dL_act_316 rfl (lv_at hl 4 rfl) ?_
                refine lv_iload hx hb dL_act_317 (lv_at hl 3 rfl) ?_
                refine lv_iconst (v := 1) hx hb dL_act_319 (by decide) ?_
                obtain ⟨v55, e55, h⟩ := mm_bnd h
                refine md_goi hH hA (va_runV (As := [.int v2, .int 1]) (rest := []) ⟨hx, hb, C.2.2.1, C.2.2.2.1, C.2.2.2.2.1⟩ (ct_X4_of l G T b z v2 1 x12 e55) (cwV 2 C.2.2.2.2.1 gL_act_X4_of rfl rfl rfl df_X4_of ⟨Nat.le_of_ble_eq_true rfl, Nat.le_of_ble_eq_true rfl⟩) ⟨mm_B.blind, mm_recvL (q := (RX4, TX4, 7)) C hH.1 kl_0 (mm_e4 kd_0) rfl, mm_preL C hH.1 hA⟩ rfl rfl hl.1 rfl (lv_room (Nat.le_of_ble_eq_true rfl)) dL_act_320 ⟨Nat.le_of_ble_eq_true rfl, Nat.le_of_ble_eq_true rfl⟩) (fun H locs hH => ?_)
                refine lv_iload hx hb dL_act_323 (lv_at hl 0 rfl) ?_
                refine lv_icmp_ne (tgt := 332) hx hb dL_act_325 (by decide) (fun c54 => ?_) (fun c54 => ?_)
                · have h := mm_neg c54 h
                  have hl := lv_sub (l' := [(7, .int v4), (6, .int v3), (0, .ref (b + 0))]) hl [1, 2, 4] rfl
                  cases h
                · have h := mm_pos c54 h
                  have hl := lv_sub (l' := [(7, .int v4), (6, .int v3), (0, .ref (b + 0))]) hl [1, 2, 4] rfl
                  refine lv_iconst (v := 1) hx hb dL_act_328 (by decide) ?_
                  refine lv_goto (tgt := 333) hx hb dL_act_329 (by decide) ?_
                  refine lv_istore (lv' := [(9, .int 1), (7, .int v4), (6, .int v3), (0, .ref (b + 0))]) hx hb dL_act_333 hl (by decide) rfl (fun ls hl => ?_)
                  refine lv_goto (tgt := 345) hx hb dL_act_335 (by decide) ?_
                  refine lv_iload hx hb dL_act_345 (lv_at hl 0 rfl) ?_
                  refine lv_if_eq (tgt := 387) hx hb dL_act_347 (by decide) (fun c => absurd c (by decide)) (fun _ => ?_)
                  have hl := lv_sub (l' := [(7, .int v4), (6, .int v3), (0, .ref (b + 0))]) hl [1, 2, 3] rfl
                  refine lv_aload_n hx hb dL_act_350 rfl (lv_at hl 2 rfl) ?_
                  refine lv_iconst (v := 5) hx hb dL_act_351 (by decide) ?_
                  obtain ⟨v56, e56, h⟩ := mm_bnd h
                  refine md_goi hH hA (va_runV (As := [.int 5]) (rest := []) ⟨hx, hb, C.2.2.1, C.2.2.2.1, C.2.2.2.2.1⟩ (ct_X4_count l G T b z 5 x12 e56) (cwV 1 C.2.2.2.2.1 gL_act_X4_count rfl rfl rfl df_X4_count ⟨Nat.le_of_ble_eq_true rfl, Nat.le_of_ble_eq_true rfl⟩) ⟨mm_B.blind, mm_recvL (q := (RX4, TX4, 7)) C hH.1 kl_0 (mm_e4 kd_0) rfl, mm_preL C hH.1 hA⟩ rfl rfl hl.1 rfl (lv_room (Nat.le_of_ble_eq_true rfl)) dL_act_352 ⟨Nat.le_of_ble_eq_true rfl, Nat.le_of_ble_eq_true rfl⟩) (fun H locs hH => ?_)
                  refine lv_iload hx hb dL_act_355 (lv_at hl 0 rfl) ?_
                  refine lv_aload_n hx hb dL_act_357 rfl (lv_at hl 2 rfl) ?_
                  refine lv_iconst (v := 4) hx hb dL_act_358 (by decide) ?_
                  obtain ⟨v57, e57, h⟩ := mm_bnd h
                  refine md_goi hH hA (va_runV (As := [.int 4]) (rest := [.int v4, .int v56]) ⟨hx, hb, C.2.2.1, C.2.2.2.1, C.2.2.2.2.1⟩ (ct_X4_count l G T b z 4 x12 e57) (cwV 1 C.2.2.2.2.1 gL_act_X4_count rfl rfl rfl df_X4_count ⟨Nat.le_of_ble_eq_true rfl, Nat.le_of_ble_eq_true rfl⟩) ⟨mm_B.blind, mm_recvL (q := (RX4, TX4, 7)) C hH.1 kl_0 (mm_e4 kd_0) rfl, mm_preL C hH.1 hA⟩ rfl rfl hl.1 rfl (lv_room (Nat.le_of_ble_eq_true rfl)) dL_act_359 ⟨Nat.le_of_ble_eq_true rfl, Nat.le_of_ble_eq_true rfl⟩) (fun H locs hH => ?_)
                  refine lv_iload hx hb dL_act_362 (lv_at hl 1 rfl) ?_
                  refine lv_icmp_eq (tgt := 371) hx hb dL_act_364 (by decide) (fun c55 => ?_) (fun c55 => ?_)
                  · have h := mm_pos c55 h
                    have hl := lv_sub (l' := [(0, .ref (b + 0))]) hl [2] rfl
                    refine lv_iconst (v := 0) hx hb dL_act_371 (by decide) ?_
                    refine lv_iadd hx hb dL_act_372 ?_
                    refine lv_icmp_ne (tgt := 387) hx hb dL_act_373 (by decide) (fun c56 => ?_) (fun c56 => ?_)
                    · have h := mm_neg c56 h
                      have hl := lv_sub (l' := []) hl [] rfl
                      cases h
                    · have h := mm_pos c56 h
                      refine lv_aload_n hx hb dL_act_376 rfl (lv_at hl 0 rfl) ?_
                      obtain ⟨v58, e58, h⟩ := mm_bnd h
                      refine md_goi hH hA (va_runS (As := [.ref (b + 0)]) (rest := []) ⟨hx, hb, C.2.2.1, C.2.2.2.1, C.2.2.2.2.1⟩ (ct_L_chosen l G T b z x12 e58) (va_cwS 1 C.2.2.2.2.1 gL_act_L_chosen rfl rfl rfl df_L_chosen.2 ⟨Nat.le_of_ble_eq_true rfl, Nat.le_of_ble_eq_true rfl⟩) ⟨mm_B.blind, mm_preL C hH.1 hA⟩ rfl rfl hl.1 rfl (lv_room (Nat.le_of_ble_eq_true rfl)) dL_act_377 ⟨Nat.le_of_ble_eq_true rfl, Nat.le_of_ble_eq_true rfl⟩) (fun H locs hH => ?_)
                      refine lv_if_eq (tgt := 387) hx hb dL_act_380 (by decide) (fun c57 => ?_) (fun c57 => ?_)
                      · have h := mm_pos c57 h
                        have hl := lv_sub (l' := []) hl [] rfl
                        cases h
                      · have h := mm_neg c57 h
                        have hl := lv_sub (l' := []) hl [] rfl
                        refine lv_iconst (v := 1) hx hb dL_act_383 (by decide) ?_
                        refine lv_goto (tgt := 388) hx hb dL_act_384 (by decide) ?_
                        exact md_iret C hH.1 hr hlk rfl h dL_act_388
                  · have h := mm_neg c55 h
                    have hl := lv_sub (l' := [(0, .ref (b + 0))]) hl [2] rfl
                    refine lv_iconst (v := 1) hx hb dL_act_367 (by decide) ?_
                    refine lv_goto (tgt := 372) hx hb dL_act_368 (by decide) ?_
                    refine lv_iadd hx hb dL_act_372 ?_
                    refine lv_icmp_ne (tgt := 387) hx hb dL_act_373 (by decide) (fun c58 => ?_) (fun c58 => ?_)
                    · have h := mm_neg c58 h
                      have hl := lv_sub (l' := []) hl [] rfl
                      cases h
                    · have h := mm_pos c58 h
                      refine lv_aload_n hx hb dL_act_376 rfl (lv_at hl 0 rfl) ?_
                      obtain ⟨v59, e59, h⟩ := mm_bnd h
                      refine md_goi hH hA (va_runS (As := [.ref (b + 0)]) (rest := []) ⟨hx, hb, C.2.2.1, C.2.2.2.1, C.2.2.2.2.1⟩ (ct_L_chosen l G T b z x12 e59) (va_cwS 1 C.2.2.2.2.1 gL_act_L_chosen rfl rfl rfl df_L_chosen.2 ⟨Nat.le_of_ble_eq_true rfl, Nat.le_of_ble_eq_true rfl⟩) ⟨mm_B.blind, mm_preL C hH.1 hA⟩ rfl rfl hl.1 rfl (lv_room (Nat.le_of_ble_eq_true rfl)) dL_act_377 ⟨Nat.le_of_ble_eq_true rfl, Nat.le_of_ble_eq_true rfl⟩) (fun H locs hH => ?_)
                      refine lv_if_eq (tgt := 387) hx hb dL_act_380 (by decide) (fun c59 => ?_) (fun c59 => ?_)
                      · have h := mm_pos c59 h
                        have hl := lv_sub (l' := []) hl [] rfl
                        cases h
                      · have h := mm_neg c59 h
                        have hl := lv_sub (l' := []) hl [] rfl
                        refine lv_iconst (v := 1) hx hb dL_act_383 (by decide) ?_
                        refine lv_goto (tgt := 388) hx hb dL_act_384 (by decide) ?_
                        exact md_iret C hH.1 hr hlk rfl h dL_act_388
          · have h := mm_pos c51 h
            refine lv_iload_n hx hb dL_act_252 rfl (lv_at hl 5 rfl) ?_
            refine lv_sipush (v := 1000) hx hb dL_act_253 (by decide) ?_
            obtain ⟨v60, e60, h⟩ := mm_bnd h
            refine md_goi hH hA (va_runS (As := [.int a2, .int 1000]) (rest := []) ⟨hx, hb, C.2.2.1, C.2.2.2.1, C.2.2.2.2.1⟩ (ct_L_low l G T b z a2 1000 x e60) (va_cwS 2 C.2.2.2.2.1 gL_act_L_low rfl rfl rfl df_L_low.2 ⟨Nat.le_of_ble_eq_true rfl, Nat.le_of_ble_eq_true rfl⟩) ⟨mm_B.blind, mm_preL C hH.1 hA⟩ rfl rfl hl.1 rfl (lv_room (Nat.le_of_ble_eq_true rfl)) dL_act_256 ⟨Nat.le_of_ble_eq_true rfl, Nat.le_of_ble_eq_true rfl⟩) (fun H locs hH => ?_)
            refine lv_iconst (v := 1) hx hb dL_act_259 (by decide) ?_
            refine lv_iadd hx hb dL_act_260 ?_
            refine lv_sipush (v := 1000) hx hb dL_act_261 (by decide) ?_
            refine lv_irem hx hb dL_act_264 (by decide) ?_
            refine lv_goto (tgt := 275) hx hb dL_act_265 (by decide) ?_
            have hl := lv_sub (l' := [(7, .int v4), (6, .int v3), (5, .int v2), (3, .ref ad), (0, .ref (b + 0))]) hl [0, 1, 2, 3, 4] rfl
            obtain ⟨v61, e61, h⟩ := mm_bnd h
            refine mm_nmi e61 ?_
            refine lv_istore (lv' := [(10, .int v61), (7, .int v4), (6, .int v3), (5, .int v2), (3, .ref ad), (0, .ref (b + 0))]) hx hb dL_act_275 hl (by decide) rfl (fun ls hl => ?_)
            refine lv_aload_n hx hb dL_act_277 rfl (lv_at hl 5 rfl) ?_
            refine lv_iload hx hb dL_act_278 (lv_at hl 3 rfl) ?_
            refine lv_aload_n hx hb dL_act_280 rfl (lv_at hl 4 rfl) ?_
            refine lv_bipush (v := 8) hx hb dL_act_281 (by decide) ?_
            refine lv_iload hx hb dL_act_283 (lv_at hl 3 rfl) ?_
            refine lv_imul hx hb dL_act_285 ?_
            refine lv_iconst (v := 1) hx hb dL_act_286 (by decide) ?_
            refine lv_iadd hx hb dL_act_287 ?_
            obtain ⟨g7, h⟩ := mm_grn h
            refine md_dld C hH g7 dL_act_288 ?_
            obtain ⟨x13, v62, e62, h⟩ := mm_bnd2 h
            refine md_goi hH hA (va_runV (As := [.int v2, .int (dd (Int32.toNatClampNeg (((8 : Int32) * v2) + 1)))]) (rest := []) ⟨hx, hb, C.2.2.1, C.2.2.2.1, C.2.2.2.2.1⟩ (ct_X4_price l G T b z v2 (dd (Int32.toNatClampNeg (((8 : Int32) * v2) + 1))) x e62) (cwV 2 C.2.2.2.2.1 gL_act_X4_price rfl rfl rfl df_X4_price ⟨Nat.le_of_ble_eq_true rfl, Nat.le_of_ble_eq_true rfl⟩) ⟨mm_B.blind, mm_recvL (q := (RX4, TX4, 7)) C hH.1 kl_0 (mm_e4 kd_0) rfl, mm_preL C hH.1 hA⟩ rfl rfl hl.1 rfl (lv_room (Nat.le_of_ble_eq_true rfl)) dL_act_289 ⟨Nat.le_of_ble_eq_true rfl, Nat.le_of_ble_eq_true rfl⟩) (fun H locs hH => ?_)
            refine lv_bipush (v := (-5)) hx hb dL_act_292 (by decide) ?_
            refine lv_icmp_ne (tgt := 332) hx hb dL_act_294 (by decide) (fun c60 => ?_) (fun c60 => ?_)
            · have h := mm_neg c60 h
              have hl := lv_sub (l' := [(7, .int v4), (6, .int v3), (0, .ref (b + 0))]) hl [1, 2, 5] rfl
              cases h
            · have h := mm_pos c60 h
              refine lv_aload_n hx hb dL_act_297 rfl (lv_at hl 5 rfl) ?_
              refine lv_aload_n hx hb dL_act_298 rfl (lv_at hl 4 rfl) ?_
              refine lv_iload hx hb dL_act_299 (lv_at hl 3 rfl) ?_
              refine lv_iconst (v := 2) hx hb dL_act_301 (by decide) ?_
              refine lv_aload_n hx hb dL_act_302 rfl (lv_at hl 5 rfl) ?_
              refine lv_iload hx hb dL_act_303 (lv_at hl 3 rfl) ?_
              refine lv_iload hx hb dL_act_305 (lv_at hl 0 rfl) ?_
              obtain ⟨x14, v63, e63, h⟩ := mm_bnd2 h
              refine md_goi hH hA (va_runV (As := [.int v2, .int v61]) (rest := [.int 2, .int v2, .ref ad, .ref (b + 0)]) ⟨hx, hb, C.2.2.1, C.2.2.2.1, C.2.2.2.2.1⟩ (ct_X4_price l G T b z v2 v61 x13 e63) (cwV 2 C.2.2.2.2.1 gL_act_X4_price rfl rfl rfl df_X4_price ⟨Nat.le_of_ble_eq_true rfl, Nat.le_of_ble_eq_true rfl⟩) ⟨mm_B.blind, mm_recvL (q := (RX4, TX4, 7)) C hH.1 kl_0 (mm_e4 kd_0) rfl, mm_preL C hH.1 hA⟩ rfl rfl hl.1 rfl (lv_room (Nat.le_of_ble_eq_true rfl)) dL_act_307 ⟨Nat.le_of_ble_eq_true rfl, Nat.le_of_ble_eq_true rfl⟩) (fun H locs hH => ?_)
              obtain ⟨v64, e64, h⟩ := mm_bnd h
              refine md_goi hH hA (va_runS (As := [.ref (b + 0), .ref ad, .int v2, .int 2, .int v63]) (rest := []) ⟨hx, hb, C.2.2.1, C.2.2.2.1, C.2.2.2.2.1⟩ (ct_L_changed l G T b z ad dd v2 2 v63 x14 e64) (va_cwS 5 C.2.2.2.2.1 gL_act_L_changed rfl rfl rfl df_L_changed.2 ⟨Nat.le_of_ble_eq_true rfl, Nat.le_of_ble_eq_true rfl⟩) ⟨mm_BD.blind, mm_preD C hH hA⟩ rfl rfl hl.1 rfl (lv_room (Nat.le_of_ble_eq_true rfl)) dL_act_310 ⟨Nat.le_of_ble_eq_true rfl, Nat.le_of_ble_eq_true rfl⟩) (fun H locs hH => ?_)
              refine lv_if_eq (tgt := 332) hx hb dL_act_313 (by decide) (fun c61 => ?_) (fun c61 => ?_)
              · have h := mm_pos c61 h
                have hl := lv_sub (l' := [(7, .int v4), (6, .int v3), (0, .ref (b + 0))]) hl [1, 2, 5] rfl
                cases h
              · have h := mm_neg c61 h
                have hl := lv_sub (l' := [(10, .int v61), (7, .int v4), (6, .int v3), (5, .int v2), (0, .ref (b + 0))]) hl [0, 1, 2, 3, 5] rfl
                refine lv_aload_n hx hb dL_act_316 rfl (lv_at hl 4 rfl) ?_
                refine lv_iload hx hb dL_act_317 (lv_at hl 3 rfl) ?_
                refine lv_iconst (v := 1) hx hb dL_act_319 (by decide) ?_
                obtain ⟨v65, e65, h⟩ := mm_bnd h
                refine md_goi hH hA (va_runV (As := [.int v2, .int 1]) (rest := []) ⟨hx, hb, C.2.2.1, C.2.2.2.1, C.2.2.2.2.1⟩ (ct_X4_of l G T b z v2 1 x14 e65) (cwV 2 C.2.2.2.2.1 gL_act_X4_of rfl rfl rfl df_X4_of ⟨Nat.le_of_ble_eq_true rfl, Nat.le_of_ble_eq_true rfl⟩) ⟨mm_B.blind, mm_recvL (q := (RX4, TX4, 7)) C hH.1 kl_0 (mm_e4 kd_0) rfl, mm_preL C hH.1 hA⟩ rfl rfl hl.1 rfl (lv_room (Nat.le_of_ble_eq_true rfl)) dL_act_320 ⟨Nat.le_of_ble_eq_true rfl, Nat.le_of_ble_eq_true rfl⟩) (fun H locs hH => ?_)
                refine lv_iload hx hb dL_act_323 (lv_at hl 0 rfl) ?_
                refine lv_icmp_ne (tgt := 332) hx hb dL_act_325 (by decide) (fun c62 => ?_) (fun c62 => ?_)
                · have h := mm_neg c62 h
                  have hl := lv_sub (l' := [(7, .int v4), (6, .int v3), (0, .ref (b + 0))]) hl [1, 2, 4] rfl
                  cases h
                · have h := mm_pos c62 h
                  have hl := lv_sub (l' := [(7, .int v4), (6, .int v3), (0, .ref (b + 0))]) hl [1, 2, 4] rfl
                  refine lv_iconst (v := 1) hx hb dL_act_328 (by decide) ?_
                  refine lv_goto (tgt := 333) hx hb dL_act_329 (by decide) ?_
                  refine lv_istore (lv' := [(9, .int 1), (7, .int v4), (6, .int v3), (0, .ref (b + 0))]) hx hb dL_act_333 hl (by decide) rfl (fun ls hl => ?_)
                  refine lv_goto (tgt := 345) hx hb dL_act_335 (by decide) ?_
                  refine lv_iload hx hb dL_act_345 (lv_at hl 0 rfl) ?_
                  refine lv_if_eq (tgt := 387) hx hb dL_act_347 (by decide) (fun c => absurd c (by decide)) (fun _ => ?_)
                  have hl := lv_sub (l' := [(7, .int v4), (6, .int v3), (0, .ref (b + 0))]) hl [1, 2, 3] rfl
                  refine lv_aload_n hx hb dL_act_350 rfl (lv_at hl 2 rfl) ?_
                  refine lv_iconst (v := 5) hx hb dL_act_351 (by decide) ?_
                  obtain ⟨v66, e66, h⟩ := mm_bnd h
                  refine md_goi hH hA (va_runV (As := [.int 5]) (rest := []) ⟨hx, hb, C.2.2.1, C.2.2.2.1, C.2.2.2.2.1⟩ (ct_X4_count l G T b z 5 x14 e66) (cwV 1 C.2.2.2.2.1 gL_act_X4_count rfl rfl rfl df_X4_count ⟨Nat.le_of_ble_eq_true rfl, Nat.le_of_ble_eq_true rfl⟩) ⟨mm_B.blind, mm_recvL (q := (RX4, TX4, 7)) C hH.1 kl_0 (mm_e4 kd_0) rfl, mm_preL C hH.1 hA⟩ rfl rfl hl.1 rfl (lv_room (Nat.le_of_ble_eq_true rfl)) dL_act_352 ⟨Nat.le_of_ble_eq_true rfl, Nat.le_of_ble_eq_true rfl⟩) (fun H locs hH => ?_)
                  refine lv_iload hx hb dL_act_355 (lv_at hl 0 rfl) ?_
                  refine lv_aload_n hx hb dL_act_357 rfl (lv_at hl 2 rfl) ?_
                  refine lv_iconst (v := 4) hx hb dL_act_358 (by decide) ?_
                  obtain ⟨v67, e67, h⟩ := mm_bnd h
                  refine md_goi hH hA (va_runV (As := [.int 4]) (rest := [.int v4, .int v66]) ⟨hx, hb, C.2.2.1, C.2.2.2.1, C.2.2.2.2.1⟩ (ct_X4_count l G T b z 4 x14 e67) (cwV 1 C.2.2.2.2.1 gL_act_X4_count rfl rfl rfl df_X4_count ⟨Nat.le_of_ble_eq_true rfl, Nat.le_of_ble_eq_true rfl⟩) ⟨mm_B.blind, mm_recvL (q := (RX4, TX4, 7)) C hH.1 kl_0 (mm_e4 kd_0) rfl, mm_preL C hH.1 hA⟩ rfl rfl hl.1 rfl (lv_room (Nat.le_of_ble_eq_true rfl)) dL_act_359 ⟨Nat.le_of_ble_eq_true rfl, Nat.le_of_ble_eq_true rfl⟩) (fun H locs hH => ?_)
                  refine lv_iload hx hb dL_act_362 (lv_at hl 1 rfl) ?_
                  refine lv_icmp_eq (tgt := 371) hx hb dL_act_364 (by decide) (fun c63 => ?_) (fun c63 => ?_)
                  · have h := mm_pos c63 h
                    have hl := lv_sub (l' := [(0, .ref (b + 0))]) hl [2] rfl
                    refine lv_iconst (v := 0) hx hb dL_act_371 (by decide) ?_
                    refine lv_iadd hx hb dL_act_372 ?_
                    refine lv_icmp_ne (tgt := 387) hx hb dL_act_373 (by decide) (fun c64 => ?_) (fun c64 => ?_)
                    · have h := mm_neg c64 h
                      have hl := lv_sub (l' := []) hl [] rfl
                      cases h
                    · have h := mm_pos c64 h
                      refine lv_aload_n hx hb dL_act_376 rfl (lv_at hl 0 rfl) ?_
                      obtain ⟨v68, e68, h⟩ := mm_bnd h
                      refine md_goi hH hA (va_runS (As := [.ref (b + 0)]) (rest := []) ⟨hx, hb, C.2.2.1, C.2.2.2.1, C.2.2.2.2.1⟩ (ct_L_chosen l G T b z x14 e68) (va_cwS 1 C.2.2.2.2.1 gL_act_L_chosen rfl rfl rfl df_L_chosen.2 ⟨Nat.le_of_ble_eq_true rfl, Nat.le_of_ble_eq_true rfl⟩) ⟨mm_B.blind, mm_preL C hH.1 hA⟩ rfl rfl hl.1 rfl (lv_room (Nat.le_of_ble_eq_true rfl)) dL_act_377 ⟨Nat.le_of_ble_eq_true rfl, Nat.le_of_ble_eq_true rfl⟩) (fun H locs hH => ?_)
                      refine lv_if_eq (tgt := 387) hx hb dL_act_380 (by decide) (fun c65 => ?_) (fun c65 => ?_)
                      · have h := mm_pos c65 h
                        have hl := lv_sub (l' := []) hl [] rfl
                        cases h
                      · have h := mm_neg c65 h
                        have hl := lv_sub (l' := []) hl [] rfl
                        refine lv_iconst (v := 1) hx hb dL_act_383 (by decide) ?_
                        refine lv_goto (tgt := 388) hx hb dL_act_384 (by decide) ?_
                        exact md_iret C hH.1 hr hlk rfl h dL_act_388
                  · have h := mm_neg c63 h
                    have hl := lv_sub (l' := [(0, .ref (b + 0))]) hl [2] rfl
                    refine lv_iconst (v := 1) hx hb dL_act_367 (by decide) ?_
                    refine lv_goto (tgt := 372) hx hb dL_act_368 (by decide) ?_
                    refine lv_iadd hx hb dL_act_372 ?_
                    refine lv_icmp_ne (tgt := 387) hx hb dL_act_373 (by decide) (fun c66 => ?_) (fun c66 => ?_)
                    · have h := mm_neg c66 h
                      have hl := lv_sub (l' := []) hl [] rfl
                      cases h
                    · have h := mm_pos c66 h
                      refine lv_aload_n hx hb dL_act_376 rfl (lv_at hl 0 rfl) ?_
                      obtain ⟨v69, e69, h⟩ := mm_bnd h
                      refine md_goi hH hA (va_runS (As := [.ref (b + 0)]) (rest := []) ⟨hx, hb, C.2.2.1, C.2.2.2.1, C.2.2.2.2.1⟩ (ct_L_chosen l G T b z x14 e69) (va_cwS 1 C.2.2.2.2.1 gL_act_L_chosen rfl rfl rfl df_L_chosen.2 ⟨Nat.le_of_ble_eq_true rfl, Nat.le_of_ble_eq_true rfl⟩) ⟨mm_B.blind, mm_preL C hH.1 hA⟩ rfl rfl hl.1 rfl (lv_room (Nat.le_of_ble_eq_true rfl)) dL_act_377 ⟨Nat.le_of_ble_eq_true rfl, Nat.le_of_ble_eq_true rfl⟩) (fun H locs hH => ?_)
                      refine lv_if_eq (tgt := 387) hx hb dL_act_380 (by decide) (fun c67 => ?_) (fun c67 => ?_)
                      · have h := mm_pos c67 h
                        have hl := lv_sub (l' := []) hl [] rfl
                        cases h
                      · have h := mm_neg c67 h
                        have hl := lv_sub (l' := []) hl [] rfl
                        refine lv_iconst (v := 1) hx hb dL_act_383 (by decide) ?_
                        refine lv_goto (tgt := 388) hx hb dL_act_384 (by decide) ?_
                        exact md_iret C hH.1 hr hlk rfl h dL_act_388
      · have h := mm_neg c43 h
        have hl := lv_sub (l' := [(7, .int v4), (6, .int v3), (5, .int v2), (3, .ref ad), (0, .ref (b + 0))]) hl [1, 2, 3, 4, 5] rfl
        refine lv_aload_n hx hb dL_act_122 rfl (lv_at hl 3 rfl) ?_
        refine lv_bipush (v := 8) hx hb dL_act_123 (by decide) ?_
        refine lv_iload hx hb dL_act_125 (lv_at hl 2 rfl) ?_
        refine lv_imul hx hb dL_act_127 ?_
        obtain ⟨g8, h⟩ := mm_grn h
        refine md_dld C hH g8 dL_act_128 ?_
        refine lv_if_ne (tgt := 136) hx hb dL_act_129 (by decide) (fun c68 => ?_) (fun c68 => ?_)
        · have h := mm_neg c68 h
          refine lv_iconst (v := 0) hx hb dL_act_136 (by decide) ?_
          refine lv_istore (lv' := [(10, .int 0), (7, .int v4), (6, .int v3), (5, .int v2), (3, .ref ad), (0, .ref (b + 0))]) hx hb dL_act_137 hl (by decide) rfl (fun ls hl => ?_)
          refine lv_iload hx hb dL_act_139 (lv_at hl 0 rfl) ?_
          refine lv_if_eq (tgt := 153) hx hb dL_act_141 (by decide) (fun _ => ?_) (fun c => absurd (by decide) c)
          refine lv_aload_n hx hb dL_act_153 rfl (lv_at hl 5 rfl) ?_
          refine lv_iload hx hb dL_act_154 (lv_at hl 3 rfl) ?_
          obtain ⟨x15, v70, e70, h⟩ := mm_bnd2 h
          refine md_goi hH hA (va_runV (As := [.int v2]) (rest := []) ⟨hx, hb, C.2.2.1, C.2.2.2.1, C.2.2.2.2.1⟩ (ct_X4_open l G T b z v2 x e70) (cwV 1 C.2.2.2.2.1 gL_act_X4_open rfl rfl rfl df_X4_open ⟨Nat.le_of_ble_eq_true rfl, Nat.le_of_ble_eq_true rfl⟩) ⟨mm_B.blind, mm_recvL (q := (RX4, TX4, 7)) C hH.1 kl_0 (mm_e4 kd_0) rfl, mm_preL C hH.1 hA⟩ rfl rfl hl.1 rfl (lv_room (Nat.le_of_ble_eq_true rfl)) dL_act_156 ⟨Nat.le_of_ble_eq_true rfl, Nat.le_of_ble_eq_true rfl⟩) (fun H locs hH => ?_)
          refine lv_bipush (v := (-5)) hx hb dL_act_159 (by decide) ?_
          refine lv_icmp_ne (tgt := 168) hx hb dL_act_161 (by decide) (fun c69 => ?_) (fun c69 => ?_)
          · have h := mm_neg c69 h
            cases h
          · have h := mm_pos c69 h
            refine lv_iconst (v := 1) hx hb dL_act_164 (by decide) ?_
            refine lv_goto (tgt := 169) hx hb dL_act_165 (by decide) ?_
            refine lv_istore (lv' := [(9, .int 1), (10, .int 0), (7, .int v4), (6, .int v3), (5, .int v2), (3, .ref ad), (0, .ref (b + 0))]) hx hb dL_act_169 hl (by decide) rfl (fun ls hl => ?_)
            refine lv_iload hx hb dL_act_171 (lv_at hl 0 rfl) ?_
            refine lv_if_eq (tgt := 220) hx hb dL_act_173 (by decide) (fun c => absurd c (by decide)) (fun _ => ?_)
            have hl := lv_sub (l' := [(10, .int 0), (7, .int v4), (6, .int v3), (5, .int v2), (3, .ref ad), (0, .ref (b + 0))]) hl [1, 2, 3, 4, 5, 6] rfl
            refine lv_aload_n hx hb dL_act_176 rfl (lv_at hl 5 rfl) ?_
            refine lv_aload_n hx hb dL_act_177 rfl (lv_at hl 4 rfl) ?_
            refine lv_iload hx hb dL_act_178 (lv_at hl 3 rfl) ?_
            refine lv_iload hx hb dL_act_180 (lv_at hl 0 rfl) ?_
            refine lv_if_eq (tgt := 189) hx hb dL_act_182 (by decide) (fun _ => ?_) (fun c => absurd (by decide) c)
            have hl := lv_sub (l' := [(10, .int 0), (7, .int v4), (6, .int v3), (5, .int v2), (0, .ref (b + 0))]) hl [0, 1, 2, 3, 5] rfl
            refine lv_iconst (v := 0) hx hb dL_act_189 (by decide) ?_
            refine lv_iload hx hb dL_act_190 (lv_at hl 0 rfl) ?_
            refine lv_if_eq (tgt := 204) hx hb dL_act_192 (by decide) (fun _ => ?_) (fun c => absurd (by decide) c)
            have hl := lv_sub (l' := [(7, .int v4), (6, .int v3), (5, .int v2), (0, .ref (b + 0))]) hl [1, 2, 3, 4] rfl
            refine lv_aload_n hx hb dL_act_204 rfl (lv_at hl 3 rfl) ?_
            refine lv_iload hx hb dL_act_205 (lv_at hl 2 rfl) ?_
            obtain ⟨x16, v71, e71, h⟩ := mm_bnd2 h
            refine md_goi hH hA (va_runV (As := [.int v2]) (rest := [.int 0, .int v2, .ref ad, .ref (b + 0)]) ⟨hx, hb, C.2.2.1, C.2.2.2.1, C.2.2.2.2.1⟩ (ct_X4_close l G T b z v2 x15 e71) (cwV 1 C.2.2.2.2.1 gL_act_X4_close rfl rfl rfl df_X4_close ⟨Nat.le_of_ble_eq_true rfl, Nat.le_of_ble_eq_true rfl⟩) ⟨mm_B.blind, mm_recvL (q := (RX4, TX4, 7)) C hH.1 kl_0 (mm_e4 kd_0) rfl, mm_preL C hH.1 hA⟩ rfl rfl hl.1 rfl (lv_room (Nat.le_of_ble_eq_true rfl)) dL_act_207 ⟨Nat.le_of_ble_eq_true rfl, Nat.le_of_ble_eq_true rfl⟩) (fun H locs hH => ?_)
            obtain ⟨v72, e72, h⟩ := mm_bnd h
            refine md_goi hH hA (va_runS (As := [.ref (b + 0), .ref ad, .int v2, .int 0, .int v71]) (rest := []) ⟨hx, hb, C.2.2.1, C.2.2.2.1, C.2.2.2.2.1⟩ (ct_L_changed l G T b z ad dd v2 0 v71 x16 e72) (va_cwS 5 C.2.2.2.2.1 gL_act_L_changed rfl rfl rfl df_L_changed.2 ⟨Nat.le_of_ble_eq_true rfl, Nat.le_of_ble_eq_true rfl⟩) ⟨mm_BD.blind, mm_preD C hH hA⟩ rfl rfl hl.1 rfl (lv_room (Nat.le_of_ble_eq_true rfl)) dL_act_210 ⟨Nat.le_of_ble_eq_true rfl, Nat.le_of_ble_eq_true rfl⟩) (fun H locs hH => ?_)
            refine lv_if_eq (tgt := 220) hx hb dL_act_213 (by decide) (fun c70 => ?_) (fun c70 => ?_)
            · have h := mm_pos c70 h
              have hl := lv_sub (l' := [(7, .int v4), (6, .int v3), (0, .ref (b + 0))]) hl [0, 1, 3] rfl
              cases h
            · have h := mm_neg c70 h
              have hl := lv_sub (l' := [(7, .int v4), (6, .int v3), (0, .ref (b + 0))]) hl [0, 1, 3] rfl
              refine lv_iconst (v := 1) hx hb dL_act_216 (by decide) ?_
              refine lv_goto (tgt := 221) hx hb dL_act_217 (by decide) ?_
              refine lv_istore (lv' := [(9, .int 1), (7, .int v4), (6, .int v3), (0, .ref (b + 0))]) hx hb dL_act_221 hl (by decide) rfl (fun ls hl => ?_)
              refine lv_goto (tgt := 345) hx hb dL_act_223 (by decide) ?_
              refine lv_iload hx hb dL_act_345 (lv_at hl 0 rfl) ?_
              refine lv_if_eq (tgt := 387) hx hb dL_act_347 (by decide) (fun c => absurd c (by decide)) (fun _ => ?_)
              have hl := lv_sub (l' := [(7, .int v4), (6, .int v3), (0, .ref (b + 0))]) hl [1, 2, 3] rfl
              refine lv_aload_n hx hb dL_act_350 rfl (lv_at hl 2 rfl) ?_
              refine lv_iconst (v := 5) hx hb dL_act_351 (by decide) ?_
              obtain ⟨v73, e73, h⟩ := mm_bnd h
              refine md_goi hH hA (va_runV (As := [.int 5]) (rest := []) ⟨hx, hb, C.2.2.1, C.2.2.2.1, C.2.2.2.2.1⟩ (ct_X4_count l G T b z 5 x16 e73) (cwV 1 C.2.2.2.2.1 gL_act_X4_count rfl rfl rfl df_X4_count ⟨Nat.le_of_ble_eq_true rfl, Nat.le_of_ble_eq_true rfl⟩) ⟨mm_B.blind, mm_recvL (q := (RX4, TX4, 7)) C hH.1 kl_0 (mm_e4 kd_0) rfl, mm_preL C hH.1 hA⟩ rfl rfl hl.1 rfl (lv_room (Nat.le_of_ble_eq_true rfl)) dL_act_352 ⟨Nat.le_of_ble_eq_true rfl, Nat.le_of_ble_eq_true rfl⟩) (fun H locs hH => ?_)
              refine lv_iload hx hb dL_act_355 (lv_at hl 0 rfl) ?_
              refine lv_aload_n hx hb dL_act_357 rfl (lv_at hl 2 rfl) ?_
              refine lv_iconst (v := 4) hx hb dL_act_358 (by decide) ?_
              obtain ⟨v74, e74, h⟩ := mm_bnd h
              refine md_goi hH hA (va_runV (As := [.int 4]) (rest := [.int v4, .int v73]) ⟨hx, hb, C.2.2.1, C.2.2.2.1, C.2.2.2.2.1⟩ (ct_X4_count l G T b z 4 x16 e74) (cwV 1 C.2.2.2.2.1 gL_act_X4_count rfl rfl rfl df_X4_count ⟨Nat.le_of_ble_eq_true rfl, Nat.le_of_ble_eq_true rfl⟩) ⟨mm_B.blind, mm_recvL (q := (RX4, TX4, 7)) C hH.1 kl_0 (mm_e4 kd_0) rfl, mm_preL C hH.1 hA⟩ rfl rfl hl.1 rfl (lv_room (Nat.le_of_ble_eq_true rfl)) dL_act_359 ⟨Nat.le_of_ble_eq_true rfl, Nat.le_of_ble_eq_true rfl⟩) (fun H locs hH => ?_)
              refine lv_iload hx hb dL_act_362 (lv_at hl 1 rfl) ?_
              refine lv_icmp_eq (tgt := 371) hx hb dL_act_364 (by decide) (fun c71 => ?_) (fun c71 => ?_)
              · have h := mm_pos c71 h
                have hl := lv_sub (l' := [(0, .ref (b + 0))]) hl [2] rfl
                refine lv_iconst (v := 0) hx hb dL_act_371 (by decide) ?_
                refine lv_iadd hx hb dL_act_372 ?_
                refine lv_icmp_ne (tgt := 387) hx hb dL_act_373 (by decide) (fun c72 => ?_) (fun c72 => ?_)
                · have h := mm_neg c72 h
                  have hl := lv_sub (l' := []) hl [] rfl
                  cases h
                · have h := mm_pos c72 h
                  refine lv_aload_n hx hb dL_act_376 rfl (lv_at hl 0 rfl) ?_
                  obtain ⟨v75, e75, h⟩ := mm_bnd h
                  refine md_goi hH hA (va_runS (As := [.ref (b + 0)]) (rest := []) ⟨hx, hb, C.2.2.1, C.2.2.2.1, C.2.2.2.2.1⟩ (ct_L_chosen l G T b z x16 e75) (va_cwS 1 C.2.2.2.2.1 gL_act_L_chosen rfl rfl rfl df_L_chosen.2 ⟨Nat.le_of_ble_eq_true rfl, Nat.le_of_ble_eq_true rfl⟩) ⟨mm_B.blind, mm_preL C hH.1 hA⟩ rfl rfl hl.1 rfl (lv_room (Nat.le_of_ble_eq_true rfl)) dL_act_377 ⟨Nat.le_of_ble_eq_true rfl, Nat.le_of_ble_eq_true rfl⟩) (fun H locs hH => ?_)
                  refine lv_if_eq (tgt := 387) hx hb dL_act_380 (by decide) (fun c73 => ?_) (fun c73 => ?_)
                  · have h := mm_pos c73 h
                    have hl := lv_sub (l' := []) hl [] rfl
                    cases h
                  · have h := mm_neg c73 h
                    have hl := lv_sub (l' := []) hl [] rfl
                    refine lv_iconst (v := 1) hx hb dL_act_383 (by decide) ?_
                    refine lv_goto (tgt := 388) hx hb dL_act_384 (by decide) ?_
                    exact md_iret C hH.1 hr hlk rfl h dL_act_388
              · have h := mm_neg c71 h
                have hl := lv_sub (l' := [(0, .ref (b + 0))]) hl [2] rfl
                refine lv_iconst (v := 1) hx hb dL_act_367 (by decide) ?_
                refine lv_goto (tgt := 372) hx hb dL_act_368 (by decide) ?_
                refine lv_iadd hx hb dL_act_372 ?_
                refine lv_icmp_ne (tgt := 387) hx hb dL_act_373 (by decide) (fun c74 => ?_) (fun c74 => ?_)
                · have h := mm_neg c74 h
                  have hl := lv_sub (l' := []) hl [] rfl
                  cases h
                · have h := mm_pos c74 h
                  refine lv_aload_n hx hb dL_act_376 rfl (lv_at hl 0 rfl) ?_
                  obtain ⟨v76, e76, h⟩ := mm_bnd h
                  refine md_goi hH hA (va_runS (As := [.ref (b + 0)]) (rest := []) ⟨hx, hb, C.2.2.1, C.2.2.2.1, C.2.2.2.2.1⟩ (ct_L_chosen l G T b z x16 e76) (va_cwS 1 C.2.2.2.2.1 gL_act_L_chosen rfl rfl rfl df_L_chosen.2 ⟨Nat.le_of_ble_eq_true rfl, Nat.le_of_ble_eq_true rfl⟩) ⟨mm_B.blind, mm_preL C hH.1 hA⟩ rfl rfl hl.1 rfl (lv_room (Nat.le_of_ble_eq_true rfl)) dL_act_377 ⟨Nat.le_of_ble_eq_true rfl, Nat.le_of_ble_eq_true rfl⟩) (fun H locs hH => ?_)
                  refine lv_if_eq (tgt := 387) hx hb dL_act_380 (by decide) (fun c75 => ?_) (fun c75 => ?_)
                  · have h := mm_pos c75 h
                    have hl := lv_sub (l' := []) hl [] rfl
                    cases h
                  · have h := mm_neg c75 h
                    have hl := lv_sub (l' := []) hl [] rfl
                    refine lv_iconst (v := 1) hx hb dL_act_383 (by decide) ?_
                    refine lv_goto (tgt := 388) hx hb dL_act_384 (by decide) ?_
                    exact md_iret C hH.1 hr hlk rfl h dL_act_388
        · have h := mm_pos c68 h
          refine lv_iconst (v := 1) hx hb dL_act_132 (by decide) ?_
          refine lv_goto (tgt := 137) hx hb dL_act_133 (by decide) ?_
          refine lv_istore (lv' := [(10, .int 1), (7, .int v4), (6, .int v3), (5, .int v2), (3, .ref ad), (0, .ref (b + 0))]) hx hb dL_act_137 hl (by decide) rfl (fun ls hl => ?_)
          refine lv_iload hx hb dL_act_139 (lv_at hl 0 rfl) ?_
          refine lv_if_eq (tgt := 153) hx hb dL_act_141 (by decide) (fun c => absurd c (by decide)) (fun _ => ?_)
          refine lv_aload_n hx hb dL_act_144 rfl (lv_at hl 5 rfl) ?_
          refine lv_iload hx hb dL_act_145 (lv_at hl 3 rfl) ?_
          obtain ⟨x17, v77, e77, h⟩ := mm_bnd2 h
          refine md_goi hH hA (va_runV (As := [.int v2]) (rest := []) ⟨hx, hb, C.2.2.1, C.2.2.2.1, C.2.2.2.2.1⟩ (ct_X4_close l G T b z v2 x e77) (cwV 1 C.2.2.2.2.1 gL_act_X4_close rfl rfl rfl df_X4_close ⟨Nat.le_of_ble_eq_true rfl, Nat.le_of_ble_eq_true rfl⟩) ⟨mm_B.blind, mm_recvL (q := (RX4, TX4, 7)) C hH.1 kl_0 (mm_e4 kd_0) rfl, mm_preL C hH.1 hA⟩ rfl rfl hl.1 rfl (lv_room (Nat.le_of_ble_eq_true rfl)) dL_act_147 ⟨Nat.le_of_ble_eq_true rfl, Nat.le_of_ble_eq_true rfl⟩) (fun H locs hH => ?_)
          refine lv_goto (tgt := 159) hx hb dL_act_150 (by decide) ?_
          refine lv_bipush (v := (-5)) hx hb dL_act_159 (by decide) ?_
          refine lv_icmp_ne (tgt := 168) hx hb dL_act_161 (by decide) (fun c76 => ?_) (fun c76 => ?_)
          · have h := mm_neg c76 h
            cases h
          · have h := mm_pos c76 h
            refine lv_iconst (v := 1) hx hb dL_act_164 (by decide) ?_
            refine lv_goto (tgt := 169) hx hb dL_act_165 (by decide) ?_
            refine lv_istore (lv' := [(9, .int 1), (10, .int 1), (7, .int v4), (6, .int v3), (5, .int v2), (3, .ref ad), (0, .ref (b + 0))]) hx hb dL_act_169 hl (by decide) rfl (fun ls hl => ?_)
            refine lv_iload hx hb dL_act_171 (lv_at hl 0 rfl) ?_
            refine lv_if_eq (tgt := 220) hx hb dL_act_173 (by decide) (fun c => absurd c (by decide)) (fun _ => ?_)
            have hl := lv_sub (l' := [(10, .int 1), (7, .int v4), (6, .int v3), (5, .int v2), (3, .ref ad), (0, .ref (b + 0))]) hl [1, 2, 3, 4, 5, 6] rfl
            refine lv_aload_n hx hb dL_act_176 rfl (lv_at hl 5 rfl) ?_
            refine lv_aload_n hx hb dL_act_177 rfl (lv_at hl 4 rfl) ?_
            refine lv_iload hx hb dL_act_178 (lv_at hl 3 rfl) ?_
            refine lv_iload hx hb dL_act_180 (lv_at hl 0 rfl) ?_
            refine lv_if_eq (tgt := 189) hx hb dL_act_182 (by decide) (fun c => absurd c (by decide)) (fun _ => ?_)
            have hl := lv_sub (l' := [(10, .int 1), (7, .int v4), (6, .int v3), (5, .int v2), (0, .ref (b + 0))]) hl [0, 1, 2, 3, 5] rfl
            refine lv_iconst (v := 1) hx hb dL_act_185 (by decide) ?_
            refine lv_goto (tgt := 190) hx hb dL_act_186 (by decide) ?_
            refine lv_iload hx hb dL_act_190 (lv_at hl 0 rfl) ?_
            refine lv_if_eq (tgt := 204) hx hb dL_act_192 (by decide) (fun c => absurd c (by decide)) (fun _ => ?_)
            have hl := lv_sub (l' := [(7, .int v4), (6, .int v3), (5, .int v2), (0, .ref (b + 0))]) hl [1, 2, 3, 4] rfl
            refine lv_aload_n hx hb dL_act_195 rfl (lv_at hl 3 rfl) ?_
            refine lv_iload hx hb dL_act_196 (lv_at hl 2 rfl) ?_
            obtain ⟨x18, v78, e78, h⟩ := mm_bnd2 h
            refine md_goi hH hA (va_runV (As := [.int v2]) (rest := [.int 1, .int v2, .ref ad, .ref (b + 0)]) ⟨hx, hb, C.2.2.1, C.2.2.2.1, C.2.2.2.2.1⟩ (ct_X4_open l G T b z v2 x17 e78) (cwV 1 C.2.2.2.2.1 gL_act_X4_open rfl rfl rfl df_X4_open ⟨Nat.le_of_ble_eq_true rfl, Nat.le_of_ble_eq_true rfl⟩) ⟨mm_B.blind, mm_recvL (q := (RX4, TX4, 7)) C hH.1 kl_0 (mm_e4 kd_0) rfl, mm_preL C hH.1 hA⟩ rfl rfl hl.1 rfl (lv_room (Nat.le_of_ble_eq_true rfl)) dL_act_198 ⟨Nat.le_of_ble_eq_true rfl, Nat.le_of_ble_eq_true rfl⟩) (fun H locs hH => ?_)
            refine lv_goto (tgt := 210) hx hb dL_act_201 (by decide) ?_
            have hl := lv_sub (l' := [(7, .int v4), (6, .int v3), (0, .ref (b + 0))]) hl [0, 1, 3] rfl
            obtain ⟨v79, e79, h⟩ := mm_bnd h
            refine md_goi hH hA (va_runS (As := [.ref (b + 0), .ref ad, .int v2, .int 1, .int v78]) (rest := []) ⟨hx, hb, C.2.2.1, C.2.2.2.1, C.2.2.2.2.1⟩ (ct_L_changed l G T b z ad dd v2 1 v78 x18 e79) (va_cwS 5 C.2.2.2.2.1 gL_act_L_changed rfl rfl rfl df_L_changed.2 ⟨Nat.le_of_ble_eq_true rfl, Nat.le_of_ble_eq_true rfl⟩) ⟨mm_BD.blind, mm_preD C hH hA⟩ rfl rfl hl.1 rfl (lv_room (Nat.le_of_ble_eq_true rfl)) dL_act_210 ⟨Nat.le_of_ble_eq_true rfl, Nat.le_of_ble_eq_true rfl⟩) (fun H locs hH => ?_)
            refine lv_if_eq (tgt := 220) hx hb dL_act_213 (by decide) (fun c77 => ?_) (fun c77 => ?_)
            · have h := mm_pos c77 h
              cases h
            · have h := mm_neg c77 h
              refine lv_iconst (v := 1) hx hb dL_act_216 (by decide) ?_
              refine lv_goto (tgt := 221) hx hb dL_act_217 (by decide) ?_
              refine lv_istore (lv' := [(9, .int 1), (7, .int v4), (6, .int v3), (0, .ref (b + 0))]) hx hb dL_act_221 hl (by decide) rfl (fun ls hl => ?_)
              refine lv_goto (tgt := 345) hx hb dL_act_223 (by decide) ?_
              refine lv_iload hx hb dL_act_345 (lv_at hl 0 rfl) ?_
              refine lv_if_eq (tgt := 387) hx hb dL_act_347 (by decide) (fun c => absurd c (by decide)) (fun _ => ?_)
              have hl := lv_sub (l' := [(7, .int v4), (6, .int v3), (0, .ref (b + 0))]) hl [1, 2, 3] rfl
              refine lv_aload_n hx hb dL_act_350 rfl (lv_at hl 2 rfl) ?_
              refine lv_iconst (v := 5) hx hb dL_act_351 (by decide) ?_
              obtain ⟨v80, e80, h⟩ := mm_bnd h
              refine md_goi hH hA (va_runV (As := [.int 5]) (rest := []) ⟨hx, hb, C.2.2.1, C.2.2.2.1, C.2.2.2.2.1⟩ (ct_X4_count l G T b z 5 x18 e80) (cwV 1 C.2.2.2.2.1 gL_act_X4_count rfl rfl rfl df_X4_count ⟨Nat.le_of_ble_eq_true rfl, Nat.le_of_ble_eq_true rfl⟩) ⟨mm_B.blind, mm_recvL (q := (RX4, TX4, 7)) C hH.1 kl_0 (mm_e4 kd_0) rfl, mm_preL C hH.1 hA⟩ rfl rfl hl.1 rfl (lv_room (Nat.le_of_ble_eq_true rfl)) dL_act_352 ⟨Nat.le_of_ble_eq_true rfl, Nat.le_of_ble_eq_true rfl⟩) (fun H locs hH => ?_)
              refine lv_iload hx hb dL_act_355 (lv_at hl 0 rfl) ?_
              refine lv_aload_n hx hb dL_act_357 rfl (lv_at hl 2 rfl) ?_
              refine lv_iconst (v := 4) hx hb dL_act_358 (by decide) ?_
              obtain ⟨v81, e81, h⟩ := mm_bnd h
              refine md_goi hH hA (va_runV (As := [.int 4]) (rest := [.int v4, .int v80]) ⟨hx, hb, C.2.2.1, C.2.2.2.1, C.2.2.2.2.1⟩ (ct_X4_count l G T b z 4 x18 e81) (cwV 1 C.2.2.2.2.1 gL_act_X4_count rfl rfl rfl df_X4_count ⟨Nat.le_of_ble_eq_true rfl, Nat.le_of_ble_eq_true rfl⟩) ⟨mm_B.blind, mm_recvL (q := (RX4, TX4, 7)) C hH.1 kl_0 (mm_e4 kd_0) rfl, mm_preL C hH.1 hA⟩ rfl rfl hl.1 rfl (lv_room (Nat.le_of_ble_eq_true rfl)) dL_act_359 ⟨Nat.le_of_ble_eq_true rfl, Nat.le_of_ble_eq_true rfl⟩) (fun H locs hH => ?_)
              refine lv_iload hx hb dL_act_362 (lv_at hl 1 rfl) ?_
              refine lv_icmp_eq (tgt := 371) hx hb dL_act_364 (by decide) (fun c78 => ?_) (fun c78 => ?_)
              · have h := mm_pos c78 h
                have hl := lv_sub (l' := [(0, .ref (b + 0))]) hl [2] rfl
                refine lv_iconst (v := 0) hx hb dL_act_371 (by decide) ?_
                refine lv_iadd hx hb dL_act_372 ?_
                refine lv_icmp_ne (tgt := 387) hx hb dL_act_373 (by decide) (fun c79 => ?_) (fun c79 => ?_)
                · have h := mm_neg c79 h
                  have hl := lv_sub (l' := []) hl [] rfl
                  cases h
                · have h := mm_pos c79 h
                  refine lv_aload_n hx hb dL_act_376 rfl (lv_at hl 0 rfl) ?_
                  obtain ⟨v82, e82, h⟩ := mm_bnd h
                  refine md_goi hH hA (va_runS (As := [.ref (b + 0)]) (rest := []) ⟨hx, hb, C.2.2.1, C.2.2.2.1, C.2.2.2.2.1⟩ (ct_L_chosen l G T b z x18 e82) (va_cwS 1 C.2.2.2.2.1 gL_act_L_chosen rfl rfl rfl df_L_chosen.2 ⟨Nat.le_of_ble_eq_true rfl, Nat.le_of_ble_eq_true rfl⟩) ⟨mm_B.blind, mm_preL C hH.1 hA⟩ rfl rfl hl.1 rfl (lv_room (Nat.le_of_ble_eq_true rfl)) dL_act_377 ⟨Nat.le_of_ble_eq_true rfl, Nat.le_of_ble_eq_true rfl⟩) (fun H locs hH => ?_)
                  refine lv_if_eq (tgt := 387) hx hb dL_act_380 (by decide) (fun c80 => ?_) (fun c80 => ?_)
                  · have h := mm_pos c80 h
                    have hl := lv_sub (l' := []) hl [] rfl
                    cases h
                  · have h := mm_neg c80 h
                    have hl := lv_sub (l' := []) hl [] rfl
                    refine lv_iconst (v := 1) hx hb dL_act_383 (by decide) ?_
                    refine lv_goto (tgt := 388) hx hb dL_act_384 (by decide) ?_
                    exact md_iret C hH.1 hr hlk rfl h dL_act_388
              · have h := mm_neg c78 h
                have hl := lv_sub (l' := [(0, .ref (b + 0))]) hl [2] rfl
                refine lv_iconst (v := 1) hx hb dL_act_367 (by decide) ?_
                refine lv_goto (tgt := 372) hx hb dL_act_368 (by decide) ?_
                refine lv_iadd hx hb dL_act_372 ?_
                refine lv_icmp_ne (tgt := 387) hx hb dL_act_373 (by decide) (fun c81 => ?_) (fun c81 => ?_)
                · have h := mm_neg c81 h
                  have hl := lv_sub (l' := []) hl [] rfl
                  cases h
                · have h := mm_pos c81 h
                  refine lv_aload_n hx hb dL_act_376 rfl (lv_at hl 0 rfl) ?_
                  obtain ⟨v83, e83, h⟩ := mm_bnd h
                  refine md_goi hH hA (va_runS (As := [.ref (b + 0)]) (rest := []) ⟨hx, hb, C.2.2.1, C.2.2.2.1, C.2.2.2.2.1⟩ (ct_L_chosen l G T b z x18 e83) (va_cwS 1 C.2.2.2.2.1 gL_act_L_chosen rfl rfl rfl df_L_chosen.2 ⟨Nat.le_of_ble_eq_true rfl, Nat.le_of_ble_eq_true rfl⟩) ⟨mm_B.blind, mm_preL C hH.1 hA⟩ rfl rfl hl.1 rfl (lv_room (Nat.le_of_ble_eq_true rfl)) dL_act_377 ⟨Nat.le_of_ble_eq_true rfl, Nat.le_of_ble_eq_true rfl⟩) (fun H locs hH => ?_)
                  refine lv_if_eq (tgt := 387) hx hb dL_act_380 (by decide) (fun c82 => ?_) (fun c82 => ?_)
                  · have h := mm_pos c82 h
                    have hl := lv_sub (l' := []) hl [] rfl
                    cases h
                  · have h := mm_neg c82 h
                    have hl := lv_sub (l' := []) hl [] rfl
                    refine lv_iconst (v := 1) hx hb dL_act_383 (by decide) ?_
                    refine lv_goto (tgt := 388) hx hb dL_act_384 (by decide) ?_
                    exact md_iret C hH.1 hr hlk rfl h dL_act_388
    · have h := mm_neg c42 h
      have hl := lv_sub (l' := [(7, .int v4), (6, .int v3), (4, .int v1), (0, .ref (b + 0)), (2, .int a2)]) hl [1, 2, 4, 6, 7] rfl
      refine lv_aload_n hx hb dL_act_59 rfl (lv_at hl 3 rfl) ?_
      refine lv_iload_n hx hb dL_act_60 rfl (lv_at hl 4 rfl) ?_
      refine lv_sipush (v := 1000) hx hb dL_act_61 (by decide) ?_
      obtain ⟨v84, e84, h⟩ := mm_bnd h
      refine md_goi hH hA (va_runS (As := [.int a2, .int 1000]) (rest := [.ref (b + 0)]) ⟨hx, hb, C.2.2.1, C.2.2.2.1, C.2.2.2.2.1⟩ (ct_L_low l G T b z a2 1000 x e84) (va_cwS 2 C.2.2.2.2.1 gL_act_L_low rfl rfl rfl df_L_low.2 ⟨Nat.le_of_ble_eq_true rfl, Nat.le_of_ble_eq_true rfl⟩) ⟨mm_B.blind, mm_preL C hH.1 hA⟩ rfl rfl hl.1 rfl (lv_room (Nat.le_of_ble_eq_true rfl)) dL_act_64 ⟨Nat.le_of_ble_eq_true rfl, Nat.le_of_ble_eq_true rfl⟩) (fun H locs hH => ?_)
      obtain ⟨x19, v85, e85, h⟩ := mm_bnd2 h
      refine md_goi hH hA (va_runV (As := [.int v84]) (rest := []) ⟨hx, hb, C.2.2.1, C.2.2.2.1, C.2.2.2.2.1⟩ (ct_X4_landing l G T b z v84 x e85) (cwV 1 C.2.2.2.2.1 gL_act_X4_landing rfl rfl rfl df_X4_landing ⟨Nat.le_of_ble_eq_true rfl, Nat.le_of_ble_eq_true rfl⟩) ⟨mm_B.blind, mm_recvL (q := (RX4, TX4, 7)) C hH.1 kl_0 (mm_e4 kd_0) rfl, mm_preL C hH.1 hA⟩ rfl rfl hl.1 rfl (lv_room (Nat.le_of_ble_eq_true rfl)) dL_act_67 ⟨Nat.le_of_ble_eq_true rfl, Nat.le_of_ble_eq_true rfl⟩) (fun H locs hH => ?_)
      refine lv_iload hx hb dL_act_70 (lv_at hl 2 rfl) ?_
      refine lv_icmp_ne (tgt := 110) hx hb dL_act_72 (by decide) (fun c83 => ?_) (fun c83 => ?_)
      · have h := mm_neg c83 h
        have hl := lv_sub (l' := [(7, .int v4), (6, .int v3), (0, .ref (b + 0))]) hl [0, 1, 3] rfl
        cases h
      · have h := mm_pos c83 h
        have hl := lv_sub (l' := [(7, .int v4), (6, .int v3), (4, .int v1), (0, .ref (b + 0))]) hl [0, 1, 2, 3] rfl
        refine lv_aload_n hx hb dL_act_75 rfl (lv_at hl 3 rfl) ?_
        refine lv_iload hx hb dL_act_76 (lv_at hl 2 rfl) ?_
        refine lv_iconst (v := 0) hx hb dL_act_78 (by decide) ?_
        obtain ⟨v86, e86, h⟩ := mm_bnd h
        refine md_goi hH hA (va_runV (As := [.int v1, .int 0]) (rest := []) ⟨hx, hb, C.2.2.1, C.2.2.2.1, C.2.2.2.2.1⟩ (ct_X4_of l G T b z v1 0 x19 e86) (cwV 2 C.2.2.2.2.1 gL_act_X4_of rfl rfl rfl df_X4_of ⟨Nat.le_of_ble_eq_true rfl, Nat.le_of_ble_eq_true rfl⟩) ⟨mm_B.blind, mm_recvL (q := (RX4, TX4, 7)) C hH.1 kl_0 (mm_e4 kd_0) rfl, mm_preL C hH.1 hA⟩ rfl rfl hl.1 rfl (lv_room (Nat.le_of_ble_eq_true rfl)) dL_act_79 ⟨Nat.le_of_ble_eq_true rfl, Nat.le_of_ble_eq_true rfl⟩) (fun H locs hH => ?_)
        refine lv_iconst (v := 1) hx hb dL_act_82 (by decide) ?_
        refine lv_icmp_ne (tgt := 110) hx hb dL_act_83 (by decide) (fun c84 => ?_) (fun c84 => ?_)
        · have h := mm_neg c84 h
          have hl := lv_sub (l' := [(7, .int v4), (6, .int v3), (0, .ref (b + 0))]) hl [0, 1, 3] rfl
          cases h
        · have h := mm_pos c84 h
          refine lv_aload_n hx hb dL_act_86 rfl (lv_at hl 3 rfl) ?_
          refine lv_iload hx hb dL_act_87 (lv_at hl 2 rfl) ?_
          refine lv_iconst (v := 2) hx hb dL_act_89 (by decide) ?_
          obtain ⟨v87, e87, h⟩ := mm_bnd h
          refine md_goi hH hA (va_runV (As := [.int v1, .int 2]) (rest := []) ⟨hx, hb, C.2.2.1, C.2.2.2.1, C.2.2.2.2.1⟩ (ct_X4_of l G T b z v1 2 x19 e87) (cwV 2 C.2.2.2.2.1 gL_act_X4_of rfl rfl rfl df_X4_of ⟨Nat.le_of_ble_eq_true rfl, Nat.le_of_ble_eq_true rfl⟩) ⟨mm_B.blind, mm_recvL (q := (RX4, TX4, 7)) C hH.1 kl_0 (mm_e4 kd_0) rfl, mm_preL C hH.1 hA⟩ rfl rfl hl.1 rfl (lv_room (Nat.le_of_ble_eq_true rfl)) dL_act_90 ⟨Nat.le_of_ble_eq_true rfl, Nat.le_of_ble_eq_true rfl⟩) (fun H locs hH => ?_)
          refine lv_if_ne (tgt := 110) hx hb dL_act_93 (by decide) (fun c85 => ?_) (fun c85 => ?_)
          · have h := mm_neg c85 h
            have hl := lv_sub (l' := [(7, .int v4), (6, .int v3), (0, .ref (b + 0))]) hl [0, 1, 3] rfl
            cases h
          · have h := mm_pos c85 h
            refine lv_aload_n hx hb dL_act_96 rfl (lv_at hl 3 rfl) ?_
            refine lv_iload hx hb dL_act_97 (lv_at hl 2 rfl) ?_
            refine lv_iconst (v := 3) hx hb dL_act_99 (by decide) ?_
            obtain ⟨v88, e88, h⟩ := mm_bnd h
            refine md_goi hH hA (va_runV (As := [.int v1, .int 3]) (rest := []) ⟨hx, hb, C.2.2.1, C.2.2.2.1, C.2.2.2.2.1⟩ (ct_X4_of l G T b z v1 3 x19 e88) (cwV 2 C.2.2.2.2.1 gL_act_X4_of rfl rfl rfl df_X4_of ⟨Nat.le_of_ble_eq_true rfl, Nat.le_of_ble_eq_true rfl⟩) ⟨mm_B.blind, mm_recvL (q := (RX4, TX4, 7)) C hH.1 kl_0 (mm_e4 kd_0) rfl, mm_preL C hH.1 hA⟩ rfl rfl hl.1 rfl (lv_room (Nat.le_of_ble_eq_true rfl)) dL_act_100 ⟨Nat.le_of_ble_eq_true rfl, Nat.le_of_ble_eq_true rfl⟩) (fun H locs hH => ?_)
            refine lv_if_ne (tgt := 110) hx hb dL_act_103 (by decide) (fun c86 => ?_) (fun c86 => ?_)
            · have h := mm_neg c86 h
              have hl := lv_sub (l' := [(7, .int v4), (6, .int v3), (0, .ref (b + 0))]) hl [0, 1, 3] rfl
              cases h
            · have h := mm_pos c86 h
              have hl := lv_sub (l' := [(7, .int v4), (6, .int v3), (0, .ref (b + 0))]) hl [0, 1, 3] rfl
              refine lv_iconst (v := 1) hx hb dL_act_106 (by decide) ?_
              refine lv_goto (tgt := 111) hx hb dL_act_107 (by decide) ?_
              refine lv_istore (lv' := [(9, .int 1), (7, .int v4), (6, .int v3), (0, .ref (b + 0))]) hx hb dL_act_111 hl (by decide) rfl (fun ls hl => ?_)
              refine lv_goto (tgt := 345) hx hb dL_act_113 (by decide) ?_
              refine lv_iload hx hb dL_act_345 (lv_at hl 0 rfl) ?_
              refine lv_if_eq (tgt := 387) hx hb dL_act_347 (by decide) (fun c => absurd c (by decide)) (fun _ => ?_)
              have hl := lv_sub (l' := [(7, .int v4), (6, .int v3), (0, .ref (b + 0))]) hl [1, 2, 3] rfl
              refine lv_aload_n hx hb dL_act_350 rfl (lv_at hl 2 rfl) ?_
              refine lv_iconst (v := 5) hx hb dL_act_351 (by decide) ?_
              obtain ⟨v89, e89, h⟩ := mm_bnd h
              refine md_goi hH hA (va_runV (As := [.int 5]) (rest := []) ⟨hx, hb, C.2.2.1, C.2.2.2.1, C.2.2.2.2.1⟩ (ct_X4_count l G T b z 5 x19 e89) (cwV 1 C.2.2.2.2.1 gL_act_X4_count rfl rfl rfl df_X4_count ⟨Nat.le_of_ble_eq_true rfl, Nat.le_of_ble_eq_true rfl⟩) ⟨mm_B.blind, mm_recvL (q := (RX4, TX4, 7)) C hH.1 kl_0 (mm_e4 kd_0) rfl, mm_preL C hH.1 hA⟩ rfl rfl hl.1 rfl (lv_room (Nat.le_of_ble_eq_true rfl)) dL_act_352 ⟨Nat.le_of_ble_eq_true rfl, Nat.le_of_ble_eq_true rfl⟩) (fun H locs hH => ?_)
              refine lv_iload hx hb dL_act_355 (lv_at hl 0 rfl) ?_
              refine lv_aload_n hx hb dL_act_357 rfl (lv_at hl 2 rfl) ?_
              refine lv_iconst (v := 4) hx hb dL_act_358 (by decide) ?_
              obtain ⟨v90, e90, h⟩ := mm_bnd h
              refine md_goi hH hA (va_runV (As := [.int 4]) (rest := [.int v4, .int v89]) ⟨hx, hb, C.2.2.1, C.2.2.2.1, C.2.2.2.2.1⟩ (ct_X4_count l G T b z 4 x19 e90) (cwV 1 C.2.2.2.2.1 gL_act_X4_count rfl rfl rfl df_X4_count ⟨Nat.le_of_ble_eq_true rfl, Nat.le_of_ble_eq_true rfl⟩) ⟨mm_B.blind, mm_recvL (q := (RX4, TX4, 7)) C hH.1 kl_0 (mm_e4 kd_0) rfl, mm_preL C hH.1 hA⟩ rfl rfl hl.1 rfl (lv_room (Nat.le_of_ble_eq_true rfl)) dL_act_359 ⟨Nat.le_of_ble_eq_true rfl, Nat.le_of_ble_eq_true rfl⟩) (fun H locs hH => ?_)
              refine lv_iload hx hb dL_act_362 (lv_at hl 1 rfl) ?_
              refine lv_icmp_eq (tgt := 371) hx hb dL_act_364 (by decide) (fun c87 => ?_) (fun c87 => ?_)
              · have h := mm_pos c87 h
                have hl := lv_sub (l' := [(0, .ref (b + 0))]) hl [2] rfl
                refine lv_iconst (v := 0) hx hb dL_act_371 (by decide) ?_
                refine lv_iadd hx hb dL_act_372 ?_
                refine lv_icmp_ne (tgt := 387) hx hb dL_act_373 (by decide) (fun c88 => ?_) (fun c88 => ?_)
                · have h := mm_neg c88 h
                  have hl := lv_sub (l' := []) hl [] rfl
                  cases h
                · have h := mm_pos c88 h
                  refine lv_aload_n hx hb dL_act_376 rfl (lv_at hl 0 rfl) ?_
                  obtain ⟨v91, e91, h⟩ := mm_bnd h
                  refine md_goi hH hA (va_runS (As := [.ref (b + 0)]) (rest := []) ⟨hx, hb, C.2.2.1, C.2.2.2.1, C.2.2.2.2.1⟩ (ct_L_chosen l G T b z x19 e91) (va_cwS 1 C.2.2.2.2.1 gL_act_L_chosen rfl rfl rfl df_L_chosen.2 ⟨Nat.le_of_ble_eq_true rfl, Nat.le_of_ble_eq_true rfl⟩) ⟨mm_B.blind, mm_preL C hH.1 hA⟩ rfl rfl hl.1 rfl (lv_room (Nat.le_of_ble_eq_true rfl)) dL_act_377 ⟨Nat.le_of_ble_eq_true rfl, Nat.le_of_ble_eq_true rfl⟩) (fun H locs hH => ?_)
                  refine lv_if_eq (tgt := 387) hx hb dL_act_380 (by decide) (fun c89 => ?_) (fun c89 => ?_)
                  · have h := mm_pos c89 h
                    have hl := lv_sub (l' := []) hl [] rfl
                    cases h
                  · have h := mm_neg c89 h
                    have hl := lv_sub (l' := []) hl [] rfl
                    refine lv_iconst (v := 1) hx hb dL_act_383 (by decide) ?_
                    refine lv_goto (tgt := 388) hx hb dL_act_384 (by decide) ?_
                    exact md_iret C hH.1 hr hlk rfl h dL_act_388
              · have h := mm_neg c87 h
                have hl := lv_sub (l' := [(0, .ref (b + 0))]) hl [2] rfl
                refine lv_iconst (v := 1) hx hb dL_act_367 (by decide) ?_
                refine lv_goto (tgt := 372) hx hb dL_act_368 (by decide) ?_
                refine lv_iadd hx hb dL_act_372 ?_
                refine lv_icmp_ne (tgt := 387) hx hb dL_act_373 (by decide) (fun c90 => ?_) (fun c90 => ?_)
                · have h := mm_neg c90 h
                  have hl := lv_sub (l' := []) hl [] rfl
                  cases h
                · have h := mm_pos c90 h
                  refine lv_aload_n hx hb dL_act_376 rfl (lv_at hl 0 rfl) ?_
                  obtain ⟨v92, e92, h⟩ := mm_bnd h
                  refine md_goi hH hA (va_runS (As := [.ref (b + 0)]) (rest := []) ⟨hx, hb, C.2.2.1, C.2.2.2.1, C.2.2.2.2.1⟩ (ct_L_chosen l G T b z x19 e92) (va_cwS 1 C.2.2.2.2.1 gL_act_L_chosen rfl rfl rfl df_L_chosen.2 ⟨Nat.le_of_ble_eq_true rfl, Nat.le_of_ble_eq_true rfl⟩) ⟨mm_B.blind, mm_preL C hH.1 hA⟩ rfl rfl hl.1 rfl (lv_room (Nat.le_of_ble_eq_true rfl)) dL_act_377 ⟨Nat.le_of_ble_eq_true rfl, Nat.le_of_ble_eq_true rfl⟩) (fun H locs hH => ?_)
                  refine lv_if_eq (tgt := 387) hx hb dL_act_380 (by decide) (fun c91 => ?_) (fun c91 => ?_)
                  · have h := mm_pos c91 h
                    have hl := lv_sub (l' := []) hl [] rfl
                    cases h
                  · have h := mm_neg c91 h
                    have hl := lv_sub (l' := []) hl [] rfl
                    refine lv_iconst (v := 1) hx hb dL_act_383 (by decide) ?_
                    refine lv_goto (tgt := 388) hx hb dL_act_384 (by decide) ?_
                    exact md_iret C hH.1 hr hlk rfl h dL_act_388
