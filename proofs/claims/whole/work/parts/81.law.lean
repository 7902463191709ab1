theorem lw_fin {p : Program} {l : Launch} {e : Env} {s : State} {m : MethodId} {b0 : Nat} {below : List Frame} {meth : Method} {c : Code} {H : Heap} {locs : List Loc} {G : va_G} {T : Nat → ClassId} {z : Nat → Nat} {x : mm_M} {pc : Nat} {ls : Array Slot} (C : mm_C p m c cL_law 4 s #[.ref b0] wsL_law RL G T s.heap.size z) (hH : mm_H G T s.heap.size x s H locs) (hr : meth.sig.returnType = ret) (hlk : meth.locks = false) (hdg : decode code pc = .ok (.ireturn, 1)) : W p l e room_1 s m #[Value.ref b0] below meth c H locs 165 3076 (lw_Z below #[Value.ref b0] s) (F0 m pc ls [.int 1]) := by
  refine W.widen (k := 600000) (n := 7302250) (Nat.le_of_ble_eq_true rfl) (Nat.le_of_ble_eq_true rfl) (va_forget (fun q hq => hH.2.2.2 q hq) ?_)
  exact lw_ret C.1 C.2.1 hr hlk hdg
def fn_L_law_18 : Nat → Nat → (Nat → Int32) → Int32 → mm_M → Option Int32
  | 0, _, _, _, _ => none
  | n + 1, L, xs, i3, x => if ((Int32.ofNat L) - 3) < i3 then some (1 : Int32) else if i3 < 0 ∨ L ≤ Int32.toNatClampNeg i3 then none else (some (((xs (Int32.toNatClampNeg i3)) &&& 31) : Int32)).bind fun v1 => if v1 = 0 then if (i3 + 1) < 0 ∨ L ≤ Int32.toNatClampNeg (i3 + 1) then none else if (i3 + 2) < 0 ∨ L ≤ Int32.toNatClampNeg (i3 + 2) then none else mm_b2 (fn_X4_set (xs (Int32.toNatClampNeg (i3 + 1))) (xs (Int32.toNatClampNeg (i3 + 2))) x) fun x1 v2 => if (i3 + 1) < 0 ∨ L ≤ Int32.toNatClampNeg (i3 + 1) then none else if (i3 + 2) < 0 ∨ L ≤ Int32.toNatClampNeg (i3 + 2) then none else mm_b2 (fn_X5_set (xs (Int32.toNatClampNeg (i3 + 1))) (xs (Int32.toNatClampNeg (i3 + 2))) x1) fun x2 v3 => if v2 = v3 then (some (i3 + 3)).bind fun v4 => fn_L_law_18 n L xs v4 x2 else some (0 : Int32) else if v1 = 1 then if (i3 + 1) < 0 ∨ L ≤ Int32.toNatClampNeg (i3 + 1) then none else mm_b2 (fn_X4_landing (xs (Int32.toNatClampNeg (i3 + 1))) x) fun x3 v5 => if (i3 + 1) < 0 ∨ L ≤ Int32.toNatClampNeg (i3 + 1) then none else mm_b2 (fn_X5_landing (xs (Int32.toNatClampNeg (i3 + 1))) x3) fun x4 v6 => if v5 = v6 then (some (i3 + 3)).bind fun v7 => fn_L_law_18 n L xs v7 x4 else some (0 : Int32) else if v1 = 2 then if (i3 + 1) < 0 ∨ L ≤ Int32.toNatClampNeg (i3 + 1) then none else mm_b2 (fn_X4_open (xs (Int32.toNatClampNeg (i3 + 1))) x) fun x5 v8 => if (i3 + 1) < 0 ∨ L ≤ Int32.toNatClampNeg (i3 + 1) then none else mm_b2 (fn_X5_open (xs (Int32.toNatClampNeg (i3 + 1))) x5) fun x6 v9 => if v8 = v9 then (some (i3 + 3)).bind fun v10 => fn_L_law_18 n L xs v10 x6 else some (0 : Int32) else if v1 = 3 then if (i3 + 1) < 0 ∨ L ≤ Int32.toNatClampNeg (i3 + 1) then none else mm_b2 (fn_X4_close (xs (Int32.toNatClampNeg (i3 + 1))) x) fun x7 v11 => if (i3 + 1) < 0 ∨ L ≤ Int32.toNatClampNeg (i3 + 1) then none else mm_b2 (fn_X5_close (xs (Int32.toNatClampNeg (i3 + 1))) x7) fun x8 v12 => if v11 = v12 then (some (i3 + 3)).bind fun v13 => fn_L_law_18 n L xs v13 x8 else some (0 : Int32) else if v1 = 4 then if (i3 + 1) < 0 ∨ L ≤ Int32.toNatClampNeg (i3 + 1) then none else if (i3 + 2) < 0 ∨ L ≤ Int32.toNatClampNeg (i3 + 2) then none else mm_b2 (fn_X4_price (xs (Int32.toNatClampNeg (i3 + 1))) (xs (Int32.toNatClampNeg (i3 + 2))) x) fun x9 v14 => if (i3 + 1) < 0 ∨ L ≤ Int32.toNatClampNeg (i3 + 1) then none else if (i3 + 2) < 0 ∨ L ≤ Int32.toNatClampNeg (i3 + 2) then none else mm_b2 (fn_X5_price (xs (Int32.toNatClampNeg (i3 + 1))) (xs (Int32.toNatClampNeg (i3 + 2))) x9) fun x10 v15 => if v14 = v15 then (some (i3 + 3)).bind fun v16 => fn_L_law_18 n L xs v16 x10 else some (0 : Int32) else if v1 = 5 then if (i3 + 1) < 0 ∨ L ≤ Int32.toNatClampNeg (i3 + 1) then none else mm_b2 (fn_X4_pass (xs (Int32.toNatClampNeg (i3 + 1))) x) fun x11 v17 => if (i3 + 1) < 0 ∨ L ≤ Int32.toNatClampNeg (i3 + 1) then none else mm_b2 (fn_X5_pass (xs (Int32.toNatClampNeg (i3 + 1))) x11) fun x12 v18 => if v17 = v18 then (some (i3 + 3)).bind fun v19 => fn_L_law_18 n L xs v19 x12 else some (0 : Int32) else if v1 = 6 then if (i3 + 1) < 0 ∨ L ≤ Int32.toNatClampNeg (i3 + 1) then none else if (i3 + 2) < 0 ∨ L ≤ Int32.toNatClampNeg (i3 + 2) then none else (fn_X4_of (xs (Int32.toNatClampNeg (i3 + 1))) (xs (Int32.toNatClampNeg (i3 + 2))) x).bind fun v20 => if (i3 + 1) < 0 ∨ L ≤ Int32.toNatClampNeg (i3 + 1) then none else if (i3 + 2) < 0 ∨ L ≤ Int32.toNatClampNeg (i3 + 2) then none else (fn_X5_of (xs (Int32.toNatClampNeg (i3 + 1))) (xs (Int32.toNatClampNeg (i3 + 2))) x).bind fun v21 => if v20 = v21 then (some (i3 + 3)).bind fun v22 => fn_L_law_18 n L xs v22 x else some (0 : Int32) else if v1 = 7 then if (i3 + 1) < 0 ∨ L ≤ Int32.toNatClampNeg (i3 + 1) then none else (fn_X4_count (xs (Int32.toNatClampNeg (i3 + 1))) x).bind fun v23 => if (i3 + 1) < 0 ∨ L ≤ Int32.toNatClampNeg (i3 + 1) then none else (fn_X5_count (xs (Int32.toNatClampNeg (i3 + 1))) x).bind fun v24 => if v23 = v24 then (some (i3 + 3)).bind fun v25 => fn_L_law_18 n L xs v25 x else some (0 : Int32) else if v1 = 8 then if (i3 + 1) < 0 ∨ L ≤ Int32.toNatClampNeg (i3 + 1) then none else (fn_X4_choice (xs (Int32.toNatClampNeg (i3 + 1))) x).bind fun v26 => if (i3 + 1) < 0 ∨ L ≤ Int32.toNatClampNeg (i3 + 1) then none else (fn_X5_choice (xs (Int32.toNatClampNeg (i3 + 1))) x).bind fun v27 => if v26 = v27 then (some (i3 + 3)).bind fun v28 => fn_L_law_18 n L xs v28 x else some (0 : Int32) else if v1 = 9 then if (i3 + 1) < 0 ∨ L ≤ Int32.toNatClampNeg (i3 + 1) then none else if (i3 + 2) < 0 ∨ L ≤ Int32.toNatClampNeg (i3 + 2) then none else (fn_X4_log (xs (Int32.toNatClampNeg (i3 + 1))) (xs (Int32.toNatClampNeg (i3 + 2))) x).bind fun v29 => if (i3 + 1) < 0 ∨ L ≤ Int32.toNatClampNeg (i3 + 1) then none else if (i3 + 2) < 0 ∨ L ≤ Int32.toNatClampNeg (i3 + 2) then none else (fn_X5_log (xs (Int32.toNatClampNeg (i3 + 1))) (xs (Int32.toNatClampNeg (i3 + 2))) x).bind fun v30 => if v29 = v30 then (some (i3 + 3)).bind fun v31 => fn_L_law_18 n L xs v31 x else some (0 : Int32) else if v1 = 10 then if (i3 + 1) < 0 ∨ L ≤ Int32.toNatClampNeg (i3 + 1) then none else (fn_X4_why (xs (Int32.toNatClampNeg (i3 + 1))) x).bind fun v32 => if (i3 + 1) < 0 ∨ L ≤ Int32.toNatClampNeg (i3 + 1) then none else (fn_X5_why (xs (Int32.toNatClampNeg (i3 + 1))) x).bind fun v33 => if v32 = v33 then (some (i3 + 3)).bind fun v34 => fn_L_law_18 n L xs v34 x else some (0 : Int32) else if v1 = 11 then if (i3 + 1) < 0 ∨ L ≤ Int32.toNatClampNeg (i3 + 1) then none else mm_b2 (fn_X4_welcomeIn (xs (Int32.toNatClampNeg (i3 + 1))) x) fun x13 v35 => if (i3 + 1) < 0 ∨ L ≤ Int32.toNatClampNeg (i3 + 1) then none else mm_b2 (fn_X5_welcomeIn (xs (Int32.toNatClampNeg (i3 + 1))) x13) fun x14 v36 => if v35 = v36 then (some (i3 + 3)).bind fun v37 => fn_L_law_18 n L xs v37 x14 else some (0 : Int32) else if v1 = 12 then if (i3 + 1) < 0 ∨ L ≤ Int32.toNatClampNeg (i3 + 1) then none else mm_b2 (fn_X4_mayChange (xs (Int32.toNatClampNeg (i3 + 1))) x) fun x15 v38 => if (i3 + 1) < 0 ∨ L ≤ Int32.toNatClampNeg (i3 + 1) then none else (fn_X5_mayChange (xs (Int32.toNatClampNeg (i3 + 1))) x15).bind fun v39 => if v38 = v39 then (some (i3 + 3)).bind fun v40 => fn_L_law_18 n L xs v40 x15 else some (0 : Int32) else if v1 = 13 then if (i3 + 1) < 0 ∨ L ≤ Int32.toNatClampNeg (i3 + 1) then none else if (i3 + 2) < 0 ∨ L ≤ Int32.toNatClampNeg (i3 + 2) then none else mm_b2 (fn_X4_fineIn (xs (Int32.toNatClampNeg (i3 + 1))) (xs (Int32.toNatClampNeg (i3 + 2))) x) fun x16 v41 => if (i3 + 1) < 0 ∨ L ≤ Int32.toNatClampNeg (i3 + 1) then none else if (i3 + 2) < 0 ∨ L ≤ Int32.toNatClampNeg (i3 + 2) then none else mm_b2 (fn_X5_fineIn (xs (Int32.toNatClampNeg (i3 + 1))) (xs (Int32.toNatClampNeg (i3 + 2))) x16) fun x17 v42 => if v41 = v42 then (some (i3 + 3)).bind fun v43 => fn_L_law_18 n L xs v43 x17 else some (0 : Int32) else if v1 = 14 then mm_b2 (fn_X4_steady x) fun x18 v44 => mm_b2 (fn_X5_steady x18) fun x19 v45 => if v44 = v45 then (some (i3 + 3)).bind fun v46 => fn_L_law_18 n L xs v46 x19 else some (0 : Int32) else if v1 = 15 then if (i3 + 1) < 0 ∨ L ≤ Int32.toNatClampNeg (i3 + 1) then none else if (i3 + 2) < 0 ∨ L ≤ Int32.toNatClampNeg (i3 + 2) then none else mm_b2 (fn_X4_put (((Int32.toInt64 (xs (Int32.toNatClampNeg (i3 + 1)))) <<< (Int32.toInt64 (32 : Int32) &&& 63)) ||| ((Int32.toInt64 (xs (Int32.toNatClampNeg (i3 + 2)))) &&& 4294967295)) x) fun x20 v47 => if (i3 + 1) < 0 ∨ L ≤ Int32.toNatClampNeg (i3 + 1) then none else if (i3 + 2) < 0 ∨ L ≤ Int32.toNatClampNeg (i3 + 2) then none else mm_b2 (fn_X5_put (((Int32.toInt64 (xs (Int32.toNatClampNeg (i3 + 1)))) <<< (Int32.toInt64 (32 : Int32) &&& 63)) ||| ((Int32.toInt64 (xs (Int32.toNatClampNeg (i3 + 2)))) &&& 4294967295)) x20) fun x21 v48 => if v47 = v48 then (some (i3 + 3)).bind fun v49 => fn_L_law_18 n L xs v49 x21 else some (0 : Int32) else if v1 = 16 then mm_b2 (fn_X4_wipe x) fun x22 v50 => mm_b2 (fn_X5_wipe x22) fun x23 v51 => if v50 = v51 then (some (i3 + 3)).bind fun v52 => fn_L_law_18 n L xs v52 x23 else some (0 : Int32) else if v1 = 17 then mm_b2 (fn_X4_fault x) fun x24 v53 => mm_b2 (fn_X5_fault x24) fun x25 v54 => if v53 = v54 then (some (i3 + 3)).bind fun v55 => fn_L_law_18 n L xs v55 x25 else some (0 : Int32) else if v1 = 18 then mm_b2 (fn_X4_carryOut x) fun x26 v56 => mm_b2 (fn_X5_carryOut x26) fun x27 v57 => if v56 = v57 then (some (i3 + 3)).bind fun v58 => fn_L_law_18 n L xs v58 x27 else some (0 : Int32) else if v1 = 19 then mm_b2 (fn_X4_undo x) fun x28 v59 => mm_b2 (fn_X5_undo x28) fun x29 v60 => if v59 = v60 then (some (i3 + 3)).bind fun v61 => fn_L_law_18 n L xs v61 x29 else some (0 : Int32) else if v1 = 20 then if (i3 + 1) < 0 ∨ L ≤ Int32.toNatClampNeg (i3 + 1) then none else mm_b2 (fn_X4_save (xs (Int32.toNatClampNeg (i3 + 1))) x) fun x30 v62 => if (i3 + 1) < 0 ∨ L ≤ Int32.toNatClampNeg (i3 + 1) then none else mm_b2 (fn_X5_save (xs (Int32.toNatClampNeg (i3 + 1))) x30) fun x31 v63 => if v62 = v63 then (some (i3 + 3)).bind fun v64 => fn_L_law_18 n L xs v64 x31 else some (0 : Int32) else if v1 = 21 then if (i3 + 1) < 0 ∨ L ≤ Int32.toNatClampNeg (i3 + 1) then none else mm_b2 (fn_X4_restore (xs (Int32.toNatClampNeg (i3 + 1))) x) fun x32 v65 => if (i3 + 1) < 0 ∨ L ≤ Int32.toNatClampNeg (i3 + 1) then none else mm_b2 (fn_X5_restore (xs (Int32.toNatClampNeg (i3 + 1))) x32) fun x33 v66 => if v65 = v66 then (some (i3 + 3)).bind fun v67 => fn_L_law_18 n L xs v67 x33 else some (0 : Int32) else (some (i3 + 3)).bind fun v68 => fn_L_law_18 n L xs v68 x
set_option maxRecDepth 100000 in
set_option maxHeartbeats 8000000 in
theorem lp_L_law_18 {p : Program} {l : Launch} {e : Env} {s : State} {m : MethodId} {b0 : Nat} {below : List Frame} {meth : Method} {c : Code} {G : va_G} {T : Nat → ClassId} {b : Nat} {z : Nat → Nat} (hbs : b = s.heap.size) (C : mm_C p m c cL_law 4 s #[.ref b0] wsL_law RL G T b z) {L : Nat} {xs : Nat → Int32} (hX : va_X b0 L xs s s.heap) (hbl : b0 < s.heap.size) (hr : meth.sig.returnType = ret) (hlk : meth.locks = false) : ∀ (n : Nat) (i3 : Int32) (x : mm_M) (H : Heap) (locs : List Loc) (ls : Array Slot), fn_L_law_18 n L xs i3 x = some 1 → mm_H G T b x s H locs → lv_has ls 4 [(0, .ref b0), (1, .ref (b + 0)), (2, .ref (b + 157)), (3, .int i3)] → W p l e room_1 s m #[Value.ref b0] below meth c H locs 165 3076 (lw_Z below #[Value.ref b0] s) (F0 m 18 ls []) := by
  have hx := C.1
  have hb := C.2.1
  have w1 := C.2.2.2.2.1 (.constantLong RL 76 (4294967295)) (by decide +kernel)
  have hbA : ¬ (fun q : Nat => b ≤ q) b0 := by show ¬ b ≤ b0; omega
  intro n
  induction n with
  | zero => intro _ _ _ _ _ h; cases (show (none : Option Int32) = some _ from h)
  | succ n ih =>
    intro i3 x H locs ls h hH hl
    rw [fn_L_law_18] at h
    refine lv_iload_n hx hb dL_law_18 rfl (lv_at hl 3 rfl) ?_
    refine lv_aload_n hx hb dL_law_19 rfl (lv_at hl 0 rfl) ?_
    refine va_slen hx hb hX hbl hbA hH.2 dL_law_20 ?_
    refine lv_iconst (v := 3) hx hb dL_law_21 (by decide) ?_
    refine lv_isub hx hb dL_law_22 ?_
    refine lv_icmp_gt (tgt := 678) hx hb dL_law_23 (by decide) (fun c1 => ?_) (fun c1 => ?_)
    · have h := mm_pos c1 h
      have hl := lv_sub (l' := []) hl [] rfl
      refine lv_iconst (v := 1) hx hb dL_law_678 (by decide) ?_
      subst hbs
      exact lw_fin C hH hr hlk dL_law_679
    · have h := mm_neg c1 h
      refine lv_aload_n hx hb dL_law_26 rfl (lv_at hl 0 rfl) ?_
      refine lv_iload_n hx hb dL_law_27 rfl (lv_at hl 3 rfl) ?_
      obtain ⟨g1, h⟩ := mm_grn h
      refine va_sld hx hb hX hbl hbA hH.2 g1 dL_law_28 ?_
      refine lv_bipush (v := 31) hx hb dL_law_29 (by decide) ?_
      refine lv_iand hx hb dL_law_31 ?_
      obtain ⟨v1, e1, h⟩ := mm_bnd h
      refine mm_nmi e1 ?_
      by_cases c2 : v1 = 0
      · have h := mm_pos c2 h
        refine lv_tableIn (off := 104) (tgt := 136) hx hb dL_law_32 (by rw [c2]; decide) (by rw [c2]; decide) (by rw [c2]; decide) (by decide) ?_
        refine lv_aload_n hx hb dL_law_136 rfl (lv_at hl 1 rfl) ?_
        refine lv_aload_n hx hb dL_law_137 rfl (lv_at hl 0 rfl) ?_
        refine lv_iload_n hx hb dL_law_138 rfl (lv_at hl 3 rfl) ?_
        refine lv_iconst (v := 1) hx hb dL_law_139 (by decide) ?_
        refine lv_iadd hx hb dL_law_140 ?_
        obtain ⟨g2, h⟩ := mm_grn h
        refine va_sld hx hb hX hbl hbA hH.2 g2 dL_law_141 ?_
        refine lv_aload_n hx hb dL_law_142 rfl (lv_at hl 0 rfl) ?_
        refine lv_iload_n hx hb dL_law_143 rfl (lv_at hl 3 rfl) ?_
        refine lv_iconst (v := 2) hx hb dL_law_144 (by decide) ?_
        refine lv_iadd hx hb dL_law_145 ?_
        obtain ⟨g3, h⟩ := mm_grn h
        refine va_sld hx hb hX hbl hbA hH.2 g3 dL_law_146 ?_
        obtain ⟨x1, v2, e2, h⟩ := mm_bnd2 h
        refine mm_goi hH (va_runV (As := [.int (xs (Int32.toNatClampNeg (i3 + 1))), .int (xs (Int32.toNatClampNeg (i3 + 2)))]) (rest := []) ⟨hx, hb, C.2.2.1, C.2.2.2.1, C.2.2.2.2.1⟩ (ct_X4_set l G T b z (xs (Int32.toNatClampNeg (i3 + 1))) (xs (Int32.toNatClampNeg (i3 + 2))) x e2) (cwV 2 C.2.2.2.2.1 gL_law_X4_set rfl rfl rfl df_X4_set ⟨Nat.le_of_ble_eq_true rfl, Nat.le_of_ble_eq_true rfl⟩) ⟨mm_B.blind, mm_recv (q := (RX4, TX4, 7)) C hH kl_0 (mm_e4 kd_0) rfl, mm_pre C hH⟩ rfl rfl hl.1 rfl (lv_room (Nat.le_of_ble_eq_true rfl)) dL_law_147 ⟨Nat.le_of_ble_eq_true rfl, Nat.le_of_ble_eq_true rfl⟩) (fun H locs hH => ?_)
        refine lv_aload_n hx hb dL_law_150 rfl (lv_at hl 2 rfl) ?_
        refine lv_aload_n hx hb dL_law_151 rfl (lv_at hl 0 rfl) ?_
        refine lv_iload_n hx hb dL_law_152 rfl (lv_at hl 3 rfl) ?_
        refine lv_iconst (v := 1) hx hb dL_law_153 (by decide) ?_
        refine lv_iadd hx hb dL_law_154 ?_
        obtain ⟨g4, h⟩ := mm_grn h
        refine va_sld hx hb hX hbl hbA hH.2 g4 dL_law_155 ?_
        refine lv_aload_n hx hb dL_law_156 rfl (lv_at hl 0 rfl) ?_
        refine lv_iload_n hx hb dL_law_157 rfl (lv_at hl 3 rfl) ?_
        refine lv_iconst (v := 2) hx hb dL_law_158 (by decide) ?_
        refine lv_iadd hx hb dL_law_159 ?_
        obtain ⟨g5, h⟩ := mm_grn h
        refine va_sld hx hb hX hbl hbA hH.2 g5 dL_law_160 ?_
        obtain ⟨x2, v3, e3, h⟩ := mm_bnd2 h
        refine mm_goi hH (va_runV (As := [.int (xs (Int32.toNatClampNeg (i3 + 1))), .int (xs (Int32.toNatClampNeg (i3 + 2)))]) (rest := [.int v2]) ⟨hx, hb, C.2.2.1, C.2.2.2.1, C.2.2.2.2.1⟩ (ct_X5_set l G T b z (xs (Int32.toNatClampNeg (i3 + 1))) (xs (Int32.toNatClampNeg (i3 + 2))) x1 e3) (cwV 2 C.2.2.2.2.1 gL_law_X5_set rfl rfl rfl df_X5_set ⟨Nat.le_of_ble_eq_true rfl, Nat.le_of_ble_eq_true rfl⟩) ⟨mm_B.blind, mm_recv (q := (RX5, TX5, 14)) C hH kl_157 (mm_e5 kd_157) rfl, mm_pre C hH⟩ rfl rfl hl.1 rfl (lv_room (Nat.le_of_ble_eq_true rfl)) dL_law_161 ⟨Nat.le_of_ble_eq_true rfl, Nat.le_of_ble_eq_true rfl⟩) (fun H locs hH => ?_)
        refine lv_icmp_eq (tgt := 672) hx hb dL_law_164 (by decide) (fun c3 => ?_) (fun c3 => ?_)
        · have h := mm_pos c3 h
          obtain ⟨v4, e4, h⟩ := mm_bnd h
          refine lv_iinc (v := v4) (lv' := [(3, .int v4), (0, .ref b0), (1, .ref (b + 0)), (2, .ref (b + 157))]) hx hb dL_law_672 hl (k := 3) rfl (Option.some.inj e4) (by decide) rfl (fun ls hl => ?_)
          refine lv_goto (tgt := 18) hx hb dL_law_675 (by decide) ?_
          exact ih v4 x2 _ _ _  h hH (lv_sub hl [1, 2, 3, 0] rfl)
        · have h := mm_neg c3 h
          have hl := lv_sub (l' := []) hl [] rfl
          refine lv_iconst (v := 0) hx hb dL_law_167 (by decide) ?_
          exact absurd (Option.some.inj h) (by decide)
      have h := mm_neg c2 h
      by_cases c4 : v1 = 1
      · have h := mm_pos c4 h
        refine lv_tableIn (off := 137) (tgt := 169) hx hb dL_law_32 (by rw [c4]; decide) (by rw [c4]; decide) (by rw [c4]; decide) (by decide) ?_
        refine lv_aload_n hx hb dL_law_169 rfl (lv_at hl 1 rfl) ?_
        refine lv_aload_n hx hb dL_law_170 rfl (lv_at hl 0 rfl) ?_
        refine lv_iload_n hx hb dL_law_171 rfl (lv_at hl 3 rfl) ?_
        refine lv_iconst (v := 1) hx hb dL_law_172 (by decide) ?_
        refine lv_iadd hx hb dL_law_173 ?_
        obtain ⟨g6, h⟩ := mm_grn h
        refine va_sld hx hb hX hbl hbA hH.2 g6 dL_law_174 ?_
        obtain ⟨x3, v5, e5, h⟩ := mm_bnd2 h
        refine mm_goi hH (va_runV (As := [.int (xs (Int32.toNatClampNeg (i3 + 1)))]) (rest := []) ⟨hx, hb, C.2.2.1, C.2.2.2.1, C.2.2.2.2.1⟩ (ct_X4_landing l G T b z (xs (Int32.toNatClampNeg (i3 + 1))) x e5) (cwV 1 C.2.2.2.2.1 gL_law_X4_landing rfl rfl rfl df_X4_landing ⟨Nat.le_of_ble_eq_true rfl, Nat.le_of_ble_eq_true rfl⟩) ⟨mm_B.blind, mm_recv (q := (RX4, TX4, 7)) C hH kl_0 (mm_e4 kd_0) rfl, mm_pre C hH⟩ rfl rfl hl.1 rfl (lv_room (Nat.le_of_ble_eq_true rfl)) dL_law_175 ⟨Nat.le_of_ble_eq_true rfl, Nat.le_of_ble_eq_true rfl⟩) (fun H locs hH => ?_)
        refine lv_aload_n hx hb dL_law_178 rfl (lv_at hl 2 rfl) ?_
        refine lv_aload_n hx hb dL_law_179 rfl (lv_at hl 0 rfl) ?_
        refine lv_iload_n hx hb dL_law_180 rfl (lv_at hl 3 rfl) ?_
        refine lv_iconst (v := 1) hx hb dL_law_181 (by decide) ?_
        refine lv_iadd hx hb dL_law_182 ?_
        obtain ⟨g7, h⟩ := mm_grn h
        refine va_sld hx hb hX hbl hbA hH.2 g7 dL_law_183 ?_
        obtain ⟨x4, v6, e6, h⟩ := mm_bnd2 h
        refine mm_goi hH (va_runV (As := [.int (xs (Int32.toNatClampNeg (i3 + 1)))]) (rest := [.int v5]) ⟨hx, hb, C.2.2.1, C.2.2.2.1, C.2.2.2.2.1⟩ (ct_X5_landing l G T b z (xs (Int32.toNatClampNeg (i3 + 1))) x3 e6) (cwV 1 C.2.2.2.2.1 gL_law_X5_landing rfl rfl rfl df_X5_landing ⟨Nat.le_of_ble_eq_true rfl, Nat.le_of_ble_eq_true rfl⟩) ⟨mm_B.blind, mm_recv (q := (RX5, TX5, 14)) C hH kl_157 (mm_e5 kd_157) rfl, mm_pre C hH⟩ rfl rfl hl.1 rfl (lv_room (Nat.le_of_ble_eq_true rfl)) dL_law_184 ⟨Nat.le_of_ble_eq_true rfl, Nat.le_of_ble_eq_true rfl⟩) (fun H locs hH => ?_)
        refine lv_icmp_eq (tgt := 672) hx hb dL_law_187 (by decide) (fun c5 => ?_) (fun c5 => ?_)
        · have h := mm_pos c5 h
          obtain ⟨v7, e7, h⟩ := mm_bnd h
          refine lv_iinc (v := v7) (lv' := [(3, .int v7), (0, .ref b0), (1, .ref (b + 0)), (2, .ref (b + 157))]) hx hb dL_law_672 hl (k := 3) rfl (Option.some.inj e7) (by decide) rfl (fun ls hl => ?_)
          refine lv_goto (tgt := 18) hx hb dL_law_675 (by decide) ?_
          exact ih v7 x4 _ _ _  h hH (lv_sub hl [1, 2, 3, 0] rfl)
        · have h := mm_neg c5 h
          have hl := lv_sub (l' := []) hl [] rfl
          refine lv_iconst (v := 0) hx hb dL_law_190 (by decide) ?_
          exact absurd (Option.some.inj h) (by decide)
      have h := mm_neg c4 h
      by_cases c6 : v1 = 2
      · have h := mm_pos c6 h
        refine lv_tableIn (off := 160) (tgt := 192) hx hb dL_law_32 (by rw [c6]; decide) (by rw [c6]; decide) (by rw [c6]; decide) (by decide) ?_
        refine lv_aload_n hx hb dL_law_192 rfl (lv_at hl 1 rfl) ?_
        refine lv_aload_n hx hb dL_law_193 rfl (lv_at hl 0 rfl) ?_
        refine lv_iload_n hx hb dL_law_194 rfl (lv_at hl 3 rfl) ?_
        refine lv_iconst (v := 1) hx hb dL_law_195 (by decide) ?_
        refine lv_iadd hx hb dL_law_196 ?_
        obtain ⟨g8, h⟩ := mm_grn h
        refine va_sld hx hb hX hbl hbA hH.2 g8 dL_law_197 ?_
        obtain ⟨x5, v8, e8, h⟩ := mm_bnd2 h
        refine mm_goi hH (va_runV (As := [.int (xs (Int32.toNatClampNeg (i3 + 1)))]) (rest := []) ⟨hx, hb, C.2.2.1, C.2.2.2.1, C.2.2.2.2.1⟩ (ct_X4_open l G T b z (xs (Int32.toNatClampNeg (i3 + 1))) x e8) (cwV 1 C.2.2.2.2.1 gL_law_X4_open rfl rfl rfl df_X4_open ⟨Nat.le_of_ble_eq_true rfl, Nat.le_of_ble_eq_true rfl⟩) ⟨mm_B.blind, mm_recv (q := (RX4, TX4, 7)) C hH kl_0 (mm_e4 kd_0) rfl, mm_pre C hH⟩ rfl rfl hl.1 rfl (lv_room (Nat.le_of_ble_eq_true rfl)) dL_law_198 ⟨Nat.le_of_ble_eq_true rfl, Nat.le_of_ble_eq_true rfl⟩) (fun H locs hH => ?_)
        refine lv_aload_n hx hb dL_law_201 rfl (lv_at hl 2 rfl) ?_
        refine lv_aload_n hx hb dL_law_202 rfl (lv_at hl 0 rfl) ?_
        refine lv_iload_n hx hb dL_law_203 rfl (lv_at hl 3 rfl) ?_
        refine lv_iconst (v := 1) hx hb dL_law_204 (by decide) ?_
        refine lv_iadd hx hb dL_law_205 ?_
        obtain ⟨g9, h⟩ := mm_grn h
        refine va_sld hx hb hX hbl hbA hH.2 g9 dL_law_206 ?_
        obtain ⟨x6, v9, e9, h⟩ := mm_bnd2 h
        refine mm_goi hH (va_runV (As := [.int (xs (Int32.toNatClampNeg (i3 + 1)))]) (rest := [.int v8]) ⟨hx, hb, C.2.2.1, C.2.2.2.1, C.2.2.2.2.1⟩ (ct_X5_open l G T b z (xs (Int32.toNatClampNeg (i3 + 1))) x5 e9) (cwV 1 C.2.2.2.2.1 gL_law_X5_open rfl rfl rfl df_X5_open ⟨Nat.le_of_ble_eq_true rfl, Nat.le_of_ble_eq_true rfl⟩) ⟨mm_B.blind, mm_recv (q := (RX5, TX5, 14)) C hH kl_157 (mm_e5 kd_157) rfl, mm_pre C hH⟩ rfl rfl hl.1 rfl (lv_room (Nat.le_of_ble_eq_true rfl)) dL_law_207 ⟨Nat.le_of_ble_eq_true rfl, Nat.le_of_ble_eq_true rfl⟩) (fun H locs hH => ?_)
        refine lv_icmp_eq (tgt := 672) hx hb dL_law_210 (by decide) (fun c7 => ?_) (fun c7 => ?_)
        · have h := mm_pos c7 h
          obtain ⟨v10, e10, h⟩ := mm_bnd h
          refine lv_iinc (v := v10) (lv' := [(3, .int v10), (0, .ref b0), (1, .ref (b + 0)), (2, .ref (b + 157))]) hx hb dL_law_672 hl (k := 3) rfl (Option.some.inj e10) (by decide) rfl (fun ls hl => ?_)
          refine lv_goto (tgt := 18) hx hb dL_law_675 (by decide) ?_
          exact ih v10 x6 _ _ _  h hH (lv_sub hl [1, 2, 3, 0] rfl)
        · have h := mm_neg c7 h
          have hl := lv_sub (l' := []) hl [] rfl
          refine lv_iconst (v := 0) hx hb dL_law_213 (by decide) ?_
          exact absurd (Option.some.inj h) (by decide)
      have h := mm_neg c6 h
      by_cases c8 : v1 = 3
      · have h := mm_pos c8 h
        refine lv_tableIn (off := 183) (tgt := 215) hx hb dL_law_32 (by rw [c8]; decide) (by rw [c8]; decide) (by rw [c8]; decide) (by decide) ?_
        refine lv_aload_n hx hb dL_law_215 rfl (lv_at hl 1 rfl) ?_
        refine lv_aload_n hx hb dL_law_216 rfl (lv_at hl 0 rfl) ?_
        refine lv_iload_n hx hb dL_law_217 rfl (lv_at hl 3 rfl) ?_
        refine lv_iconst (v := 1) hx hb dL_law_218 (by decide) ?_
        refine lv_iadd hx hb dL_law_219 ?_
        obtain ⟨g10, h⟩ := mm_grn h
        refine va_sld hx hb hX hbl hbA hH.2 g10 dL_law_220 ?_
        obtain ⟨x7, v11, e11, h⟩ := mm_bnd2 h
        refine mm_goi hH (va_runV (As := [.int (xs (Int32.toNatClampNeg (i3 + 1)))]) (rest := []) ⟨hx, hb, C.2.2.1, C.2.2.2.1, C.2.2.2.2.1⟩ (ct_X4_close l G T b z (xs (Int32.toNatClampNeg (i3 + 1))) x e11) (cwV 1 C.2.2.2.2.1 gL_law_X4_close rfl rfl rfl df_X4_close ⟨Nat.le_of_ble_eq_true rfl, Nat.le_of_ble_eq_true rfl⟩) ⟨mm_B.blind, mm_recv (q := (RX4, TX4, 7)) C hH kl_0 (mm_e4 kd_0) rfl, mm_pre C hH⟩ rfl rfl hl.1 rfl (lv_room (Nat.le_of_ble_eq_true rfl)) dL_law_221 ⟨Nat.le_of_ble_eq_true rfl, Nat.le_of_ble_eq_true rfl⟩) (fun H locs hH => ?_)
        refine lv_aload_n hx hb dL_law_224 rfl (lv_at hl 2 rfl) ?_
        refine lv_aload_n hx hb dL_law_225 rfl (lv_at hl 0 rfl) ?_
        refine lv_iload_n hx hb dL_law_226 rfl (lv_at hl 3 rfl) ?_
        refine lv_iconst (v := 1) hx hb dL_law_227 (by decide) ?_
        refine lv_iadd hx hb dL_law_228 ?_
        obtain ⟨g11, h⟩ := mm_grn h
        refine va_sld hx hb hX hbl hbA hH.2 g11 dL_law_229 ?_
        obtain ⟨x8, v12, e12, h⟩ := mm_bnd2 h
        refine mm_goi hH (va_runV (As := [.int (xs (Int32.toNatClampNeg (i3 + 1)))]) (rest := [.int v11]) ⟨hx, hb, C.2.2.1, C.2.2.2.1, C.2.2.2.2.1⟩ (ct_X5_close l G T b z (xs (Int32.toNatClampNeg (i3 + 1))) x7 e12) (cwV 1 C.2.2.2.2.1 gL_law_X5_close rfl rfl rfl df_X5_close ⟨Nat.le_of_ble_eq_true rfl, Nat.le_of_ble_eq_true rfl⟩) ⟨mm_B.blind, mm_recv (q := (RX5, TX5, 14)) C hH kl_157 (mm_e5 kd_157) rfl, mm_pre C hH⟩ rfl rfl hl.1 rfl (lv_room (Nat.le_of_ble_eq_true rfl)) dL_law_230 ⟨Nat.le_of_ble_eq_true rfl, Nat.le_of_ble_eq_true rfl⟩) (fun H locs hH => ?_)
        refine lv_icmp_eq (tgt := 672) hx hb dL_law_233 (by decide) (fun c9 => ?_) (fun c9 => ?_)
        · have h := mm_pos c9 h
          obtain ⟨v13, e13, h⟩ := mm_bnd h
          refine lv_iinc (v := v13) (lv' := [(3, .int v13), (0, .ref b0), (1, .ref (b + 0)), (2, .ref (b + 157))]) hx hb dL_law_672 hl (k := 3) rfl (Option.some.inj e13) (by decide) rfl (fun ls hl => ?_)
          refine lv_goto (tgt := 18) hx hb dL_law_675 (by decide) ?_
          exact ih v13 x8 _ _ _  h hH (lv_sub hl [1, 2, 3, 0] rfl)
        · have h := mm_neg c9 h
          have hl := lv_sub (l' := []) hl [] rfl
          refine lv_iconst (v := 0) hx hb dL_law_236 (by decide) ?_
          exact absurd (Option.some.inj h) (by decide)
      have h := mm_neg c8 h
      by_cases c10 : v1 = 4
      · have h := mm_pos c10 h
        refine lv_tableIn (off := 206) (tgt := 238) hx hb dL_law_32 (by rw [c10]; decide) (by rw [c10]; decide) (by rw [c10]; decide) (by decide) ?_
        refine lv_aload_n hx hb dL_law_238 rfl (lv_at hl 1 rfl) ?_
        refine lv_aload_n hx hb dL_law_239 rfl (lv_at hl 0 rfl) ?_
        refine lv_iload_n hx hb dL_law_240 rfl (lv_at hl 3 rfl) ?_
        refine lv_iconst (v := 1) hx hb dL_law_241 (by decide) ?_
        refine lv_iadd hx hb dL_law_242 ?_
        obtain ⟨g12, h⟩ := mm_grn h
        refine va_sld hx hb hX hbl hbA hH.2 g12 dL_law_243 ?_
        refine lv_aload_n hx hb dL_law_244 rfl (lv_at hl 0 rfl) ?_
        refine lv_iload_n hx hb dL_law_245 rfl (lv_at hl 3 rfl) ?_
        refine lv_iconst (v := 2) hx hb dL_law_246 (by decide) ?_
        refine lv_iadd hx hb dL_law_247 ?_
        obtain ⟨g13, h⟩ := mm_grn h
        refine va_sld hx hb hX hbl hbA hH.2 g13 dL_law_248 ?_
        obtain ⟨x9, v14, e14, h⟩ := mm_bnd2 h
        refine mm_goi hH (va_runV (As := [.int (xs (Int32.toNatClampNeg (i3 + 1))), .int (xs (Int32.toNatClampNeg (i3 + 2)))]) (rest := []) ⟨hx, hb, C.2.2.1, C.2.2.2.1, C.2.2.2.2.1⟩ (ct_X4_price l G T b z (xs (Int32.toNatClampNeg (i3 + 1))) (xs (Int32.toNatClampNeg (i3 + 2))) x e14) (cwV 2 C.2.2.2.2.1 gL_law_X4_price rfl rfl rfl df_X4_price ⟨Nat.le_of_ble_eq_true rfl, Nat.le_of_ble_eq_true rfl⟩) ⟨mm_B.blind, mm_recv (q := (RX4, TX4, 7)) C hH kl_0 (mm_e4 kd_0) rfl, mm_pre C hH⟩ rfl rfl hl.1 rfl (lv_room (Nat.le_of_ble_eq_true rfl)) dL_law_249 ⟨Nat.le_of_ble_eq_true rfl, Nat.le_of_ble_eq_true rfl⟩) (fun H locs hH => ?_)
        refine lv_aload_n hx hb dL_law_252 rfl (lv_at hl 2 rfl) ?_
        refine lv_aload_n hx hb dL_law_253 rfl (lv_at hl 0 rfl) ?_
        refine lv_iload_n hx hb dL_law_254 rfl (lv_at hl 3 rfl) ?_
        refine lv_iconst (v := 1) hx hb dL_law_255 (by decide) ?_
        refine lv_iadd hx hb dL_law_256 ?_
        obtain ⟨g14, h⟩ := mm_grn h
        refine va_sld hx hb hX hbl hbA hH.2 g14 dL_law_257 ?_
        refine lv_aload_n hx hb dL_law_258 rfl (lv_at hl 0 rfl) ?_
        refine lv_iload_n hx hb dL_law_259 rfl (lv_at hl 3 rfl) ?_
        refine lv_iconst (v := 2) hx hb dL_law_260 (by decide) ?_
        refine lv_iadd hx hb dL_law_261 ?_
        obtain ⟨g15, h⟩ := mm_grn h
        refine va_sld hx hb hX hbl hbA hH.2 g15 dL_law_262 ?_
        obtain ⟨x10, v15, e15, h⟩ := mm_bnd2 h
        refine mm_goi hH (va_runV (As := [.int (xs (Int32.toNatClampNeg (i3 + 1))), .int (xs (Int32.toNatClampNeg (i3 + 2)))]) (rest := [.int v14]) ⟨hx, hb, C.2.2.1, C.2.2.2.1, C.2.2.2.2.1⟩ (ct_X5_price l G T b z (xs (Int32.toNatClampNeg (i3 + 1))) (xs (Int32.toNatClampNeg (i3 + 2))) x9 e15) (cwV 2 C.2.2.2.2.1 gL_law_X5_price rfl rfl rfl df_X5_price ⟨Nat.le_of_ble_eq_true rfl, Nat.le_of_ble_eq_true rfl⟩) ⟨mm_B.blind, mm_recv (q := (RX5, TX5, 14)) C hH kl_157 (mm_e5 kd_157) rfl, mm_pre C hH⟩ rfl rfl hl.1 rfl (lv_room (Nat.le_of_ble_eq_true rfl)) dL_law_263 ⟨Nat.le_of_ble_eq_true rfl, Nat.le_of_ble_eq_true rfl⟩) (fun H locs hH => ?_)
        refine lv_icmp_eq (tgt := 672) hx hb dL_law_266 (by decide) (fun c11 => ?_) (fun c11 => ?_)
        · have h := mm_pos c11 h
          obtain ⟨v16, e16, h⟩ := mm_bnd h
          refine lv_iinc (v := v16) (lv' := [(3, .int v16), (0, .ref b0), (1, .ref (b + 0)), (2, .ref (b + 157))]) hx hb dL_law_672 hl (k := 3) rfl (Option.some.inj e16) (by decide) rfl (fun ls hl => ?_)
          refine lv_goto (tgt := 18) hx hb dL_law_675 (by decide) ?_
          exact ih v16 x10 _ _ _  h hH (lv_sub hl [1, 2, 3, 0] rfl)
        · have h := mm_neg c11 h
          have hl := lv_sub (l' := []) hl [] rfl
          refine lv_iconst (v := 0) hx hb dL_law_269 (by decide) ?_
          exact absurd (Option.some.inj h) (by decide)
      have h := mm_neg c10 h
      by_cases c12 : v1 = 5
      · have h := mm_pos c12 h
        refine lv_tableIn (off := 239) (tgt := 271) hx hb dL_law_32 (by rw [c12]; decide) (by rw [c12]; decide) (by rw [c12]; decide) (by decide) ?_
        refine lv_aload_n hx hb dL_law_271 rfl (lv_at hl 1 rfl) ?_
        refine lv_aload_n hx hb dL_law_272 rfl (lv_at hl 0 rfl) ?_
        refine lv_iload_n hx hb dL_law_273 rfl (lv_at hl 3 rfl) ?_
        refine lv_iconst (v := 1) hx hb dL_law_274 (by decide) ?_
        refine lv_iadd hx hb dL_law_275 ?_
        obtain ⟨g16, h⟩ := mm_grn h
        refine va_sld hx hb hX hbl hbA hH.2 g16 dL_law_276 ?_
        obtain ⟨x11, v17, e17, h⟩ := mm_bnd2 h
        refine mm_goi hH (va_runV (As := [.int (xs (Int32.toNatClampNeg (i3 + 1)))]) (rest := []) ⟨hx, hb, C.2.2.1, C.2.2.2.1, C.2.2.2.2.1⟩ (ct_X4_pass l G T b z (xs (Int32.toNatClampNeg (i3 + 1))) x e17) (cwV 1 C.2.2.2.2.1 gL_law_X4_pass rfl rfl rfl df_X4_pass ⟨Nat.le_of_ble_eq_true rfl, Nat.le_of_ble_eq_true rfl⟩) ⟨mm_B.blind, mm_recv (q := (RX4, TX4, 7)) C hH kl_0 (mm_e4 kd_0) rfl, mm_pre C hH⟩ rfl rfl hl.1 rfl (lv_room (Nat.le_of_ble_eq_true rfl)) dL_law_277 ⟨Nat.le_of_ble_eq_true rfl, Nat.le_of_ble_eq_true rfl⟩) (fun H locs hH => ?_)
        refine lv_aload_n hx hb dL_law_280 rfl (lv_at hl 2 rfl) ?_
        refine lv_aload_n hx hb dL_law_281 rfl (lv_at hl 0 rfl) ?_
        refine lv_iload_n hx hb dL_law_282 rfl (lv_at hl 3 rfl) ?_
        refine lv_iconst (v := 1) hx hb dL_law_283 (by decide) ?_
        refine lv_iadd hx hb dL_law_284 ?_
        obtain ⟨g17, h⟩ := mm_grn h
        refine va_sld hx hb hX hbl hbA hH.2 g17 dL_law_285 ?_
        obtain ⟨x12, v18, e18, h⟩ := mm_bnd2 h
        refine mm_goi hH (va_runV (As := [.int (xs (Int32.toNatClampNeg (i3 + 1)))]) (rest := [.int v17]) ⟨hx, hb, C.2.2.1, C.2.2.2.1, C.2.2.2.2.1⟩ (ct_X5_pass l G T b z (xs (Int32.toNatClampNeg (i3 + 1))) x11 e18) (cwV 1 C.2.2.2.2.1 gL_law_X5_pass rfl rfl rfl df_X5_pass ⟨Nat.le_of_ble_eq_true rfl, Nat.le_of_ble_eq_true rfl⟩) ⟨mm_B.blind, mm_recv (q := (RX5, TX5, 14)) C hH kl_157 (mm_e5 kd_157) rfl, mm_pre C hH⟩ rfl rfl hl.1 rfl (lv_room (Nat.le_of_ble_eq_true rfl)) dL_law_286 ⟨Nat.le_of_ble_eq_true rfl, Nat.le_of_ble_eq_true rfl⟩) (fun H locs hH => ?_)
        refine lv_icmp_eq (tgt := 672) hx hb dL_law_289 (by decide) (fun c13 => ?_) (fun c13 => ?_)
        · have h := mm_pos c13 h
          obtain ⟨v19, e19, h⟩ := mm_bnd h
          refine lv_iinc (v := v19) (lv' := [(3, .int v19), (0, .ref b0), (1, .ref (b + 0)), (2, .ref (b + 157))]) hx hb dL_law_672 hl (k := 3) rfl (Option.some.inj e19) (by decide) rfl (fun ls hl => ?_)
          refine lv_goto (tgt := 18) hx hb dL_law_675 (by decide) ?_
          exact ih v19 x12 _ _ _  h hH (lv_sub hl [1, 2, 3, 0] rfl)
        · have h := mm_neg c13 h
          have hl := lv_sub (l' := []) hl [] rfl
          refine lv_iconst (v := 0) hx hb dL_law_292 (by decide) ?_
          exact absurd (Option.some.inj h) (by decide)
      have h := mm_neg c12 h
      by_cases c14 : v1 = 6
      · have h := mm_pos c14 h
        refine lv_tableIn (off := 262) (tgt := 294) hx hb dL_law_32 (by rw [c14]; decide) (by rw [c14]; decide) (by rw [c14]; decide) (by decide) ?_
        refine lv_aload_n hx hb dL_law_294 rfl (lv_at hl 1 rfl) ?_
        refine lv_aload_n hx hb dL_law_295 rfl (lv_at hl 0 rfl) ?_
        refine lv_iload_n hx hb dL_law_296 rfl (lv_at hl 3 rfl) ?_
        refine lv_iconst (v := 1) hx hb dL_law_297 (by decide) ?_
        refine lv_iadd hx hb dL_law_298 ?_
        obtain ⟨g18, h⟩ := mm_grn h
        refine va_sld hx hb hX hbl hbA hH.2 g18 dL_law_299 ?_
        refine lv_aload_n hx hb dL_law_300 rfl (lv_at hl 0 rfl) ?_
        refine lv_iload_n hx hb dL_law_301 rfl (lv_at hl 3 rfl) ?_
        refine lv_iconst (v := 2) hx hb dL_law_302 (by decide) ?_
        refine lv_iadd hx hb dL_law_303 ?_
        obtain ⟨g19, h⟩ := mm_grn h
        refine va_sld hx hb hX hbl hbA hH.2 g19 dL_law_304 ?_
        obtain ⟨v20, e20, h⟩ := mm_bnd h
        refine mm_goi hH (va_runV (As := [.int (xs (Int32.toNatClampNeg (i3 + 1))), .int (xs (Int32.toNatClampNeg (i3 + 2)))]) (rest := []) ⟨hx, hb, C.2.2.1, C.2.2.2.1, C.2.2.2.2.1⟩ (ct_X4_of l G T b z (xs (Int32.toNatClampNeg (i3 + 1))) (xs (Int32.toNatClampNeg (i3 + 2))) x e20) (cwV 2 C.2.2.2.2.1 gL_law_X4_of rfl rfl rfl df_X4_of ⟨Nat.le_of_ble_eq_true rfl, Nat.le_of_ble_eq_true rfl⟩) ⟨mm_B.blind, mm_recv (q := (RX4, TX4, 7)) C hH kl_0 (mm_e4 kd_0) rfl, mm_pre C hH⟩ rfl rfl hl.1 rfl (lv_room (Nat.le_of_ble_eq_true rfl)) dL_law_305 ⟨Nat.le_of_ble_eq_true rfl, Nat.le_of_ble_eq_true rfl⟩) (fun H locs hH => ?_)
        refine lv_aload_n hx hb dL_law_308 rfl (lv_at hl 2 rfl) ?_
        refine lv_aload_n hx hb dL_law_309 rfl (lv_at hl 0 rfl) ?_
        refine lv_iload_n hx hb dL_law_310 rfl (lv_at hl 3 rfl) ?_
        refine lv_iconst (v := 1) hx hb dL_law_311 (by decide) ?_
        refine lv_iadd hx hb dL_law_312 ?_
        obtain ⟨g20, h⟩ := mm_grn h
        refine va_sld hx hb hX hbl hbA hH.2 g20 dL_law_313 ?_
        refine lv_aload_n hx hb dL_law_314 rfl (lv_at hl 0 rfl) ?_
        refine lv_iload_n hx hb dL_law_315 rfl (lv_at hl 3 rfl) ?_
        refine lv_iconst (v := 2) hx hb dL_law_316 (by decide) ?_
        refine lv_iadd hx hb dL_law_317 ?_
        obtain ⟨g21, h⟩ := mm_grn h
        refine va_sld hx hb hX hbl hbA hH.2 g21 dL_law_318 ?_
        obtain ⟨v21, e21, h⟩ := mm_bnd h
        refine mm_goi hH (va_runV (As := [.int (xs (Int32.toNatClampNeg (i3 + 1))), .int (xs (Int32.toNatClampNeg (i3 + 2)))]) (rest := [.int v20]) ⟨hx, hb, C.2.2.1, C.2.2.2.1, C.2.2.2.2.1⟩ (ct_X5_of l G T b z (xs (Int32.toNatClampNeg (i3 + 1))) (xs (Int32.toNatClampNeg (i3 + 2))) x e21) (cwV 2 C.2.2.2.2.1 gL_law_X5_of rfl rfl rfl df_X5_of ⟨Nat.le_of_ble_eq_true rfl, Nat.le_of_ble_eq_true rfl⟩) ⟨mm_B.blind, mm_recv (q := (RX5, TX5, 14)) C hH kl_157 (mm_e5 kd_157) rfl, mm_pre C hH⟩ rfl rfl hl.1 rfl (lv_room (Nat.le_of_ble_eq_true rfl)) dL_law_319 ⟨Nat.le_of_ble_eq_true rfl, Nat.le_of_ble_eq_true rfl⟩) (fun H locs hH => ?_)
        refine lv_icmp_eq (tgt := 672) hx hb dL_law_322 (by decide) (fun c15 => ?_) (fun c15 => ?_)
        · have h := mm_pos c15 h
          obtain ⟨v22, e22, h⟩ := mm_bnd h
          refine lv_iinc (v := v22) (lv' := [(3, .int v22), (0, .ref b0), (1, .ref (b + 0)), (2, .ref (b + 157))]) hx hb dL_law_672 hl (k := 3) rfl (Option.some.inj e22) (by decide) rfl (fun ls hl => ?_)
          refine lv_goto (tgt := 18) hx hb dL_law_675 (by decide) ?_
          exact ih v22 x _ _ _  h hH (lv_sub hl [1, 2, 3, 0] rfl)
        · have h := mm_neg c15 h
          have hl := lv_sub (l' := []) hl [] rfl
          refine lv_iconst (v := 0) hx hb dL_law_325 (by decide) ?_
          exact absurd (Option.some.inj h) (by decide)
      have h := mm_neg c14 h
      by_cases c16 : v1 = 7
      · have h := mm_pos c16 h
        refine lv_tableIn (off := 295) (tgt := 327) hx hb dL_law_32 (by rw [c16]; decide) (by rw [c16]; decide) (by rw [c16]; decide) (by decide) ?_
        refine lv_aload_n hx hb dL_law_327 rfl (lv_at hl 1 rfl) ?_
        refine lv_aload_n hx hb dL_law_328 rfl (lv_at hl 0 rfl) ?_
        refine lv_iload_n hx hb dL_law_329 rfl (lv_at hl 3 rfl) ?_
        refine lv_iconst (v := 1) hx hb dL_law_330 (by decide) ?_
        refine lv_iadd hx hb dL_law_331 ?_
        obtain ⟨g22, h⟩ := mm_grn h
        refine va_sld hx hb hX hbl hbA hH.2 g22 dL_law_332 ?_
        obtain ⟨v23, e23, h⟩ := mm_bnd h
        refine mm_goi hH (va_runV (As := [.int (xs (Int32.toNatClampNeg (i3 + 1)))]) (rest := []) ⟨hx, hb, C.2.2.1, C.2.2.2.1, C.2.2.2.2.1⟩ (ct_X4_count l G T b z (xs (Int32.toNatClampNeg (i3 + 1))) x e23) (cwV 1 C.2.2.2.2.1 gL_law_X4_count rfl rfl rfl df_X4_count ⟨Nat.le_of_ble_eq_true rfl, Nat.le_of_ble_eq_true rfl⟩) ⟨mm_B.blind, mm_recv (q := (RX4, TX4, 7)) C hH kl_0 (mm_e4 kd_0) rfl, mm_pre C hH⟩ rfl rfl hl.1 rfl (lv_room (Nat.le_of_ble_eq_true rfl)) dL_law_333 ⟨Nat.le_of_ble_eq_true rfl, Nat.le_of_ble_eq_true rfl⟩) (fun H locs hH => ?_)
        refine lv_aload_n hx hb dL_law_336 rfl (lv_at hl 2 rfl) ?_
        refine lv_aload_n hx hb dL_law_337 rfl (lv_at hl 0 rfl) ?_
        refine lv_iload_n hx hb dL_law_338 rfl (lv_at hl 3 rfl) ?_
        refine lv_iconst (v := 1) hx hb dL_law_339 (by decide) ?_
        refine lv_iadd hx hb dL_law_340 ?_
        obtain ⟨g23, h⟩ := mm_grn h
        refine va_sld hx hb hX hbl hbA hH.2 g23 dL_law_341 ?_
        obtain ⟨v24, e24, h⟩ := mm_bnd h
        refine mm_goi hH (va_runV (As := [.int (xs (Int32.toNatClampNeg (i3 + 1)))]) (rest := [.int v23]) ⟨hx, hb, C.2.2.1, C.2.2.2.1, C.2.2.2.2.1⟩ (ct_X5_count l G T b z (xs (Int32.toNatClampNeg (i3 + 1))) x e24) (cwV 1 C.2.2.2.2.1 gL_law_X5_count rfl rfl rfl df_X5_count ⟨Nat.le_of_ble_eq_true rfl, Nat.le_of_ble_eq_true rfl⟩) ⟨mm_B.blind, mm_recv (q := (RX5, TX5, 14)) C hH kl_157 (mm_e5 kd_157) rfl, mm_pre C hH⟩ rfl rfl hl.1 rfl (lv_room (Nat.le_of_ble_eq_true rfl)) dL_law_342 ⟨Nat.le_of_ble_eq_true rfl, Nat.le_of_ble_eq_true rfl⟩) (fun H locs hH => ?_)
        refine lv_icmp_eq (tgt := 672) hx hb dL_law_345 (by decide) (fun c17 => ?_) (fun c17 => ?_)
        · have h := mm_pos c17 h
          obtain ⟨v25, e25, h⟩ := mm_bnd h
          refine lv_iinc (v := v25) (lv' := [(3, .int v25), (0, .ref b0), (1, .ref (b + 0)), (2, .ref (b + 157))]) hx hb dL_law_672 hl (k := 3) rfl (Option.some.inj e25) (by decide) rfl (fun ls hl => ?_)
          refine lv_goto (tgt := 18) hx hb dL_law_675 (by decide) ?_
          exact ih v25 x _ _ _  h hH (lv_sub hl [1, 2, 3, 0] rfl)
        · have h := mm_neg c17 h
          have hl := lv_sub (l' := []) hl [] rfl
          refine lv_iconst (v := 0) hx hb dL_law_348 (by decide) ?_
          exact absurd (Option.some.inj h) (by decide)
      have h := mm_neg c16 h
      by_cases c18 : v1 = 8
      · have h := mm_pos c18 h
        refine lv_tableIn (off := 318) (tgt := 350) hx hb dL_law_32 (by rw [c18]; decide) (by rw [c18]; decide) (by rw [c18]; decide) (by decide) ?_
        refine lv_aload_n hx hb dL_law_350 rfl (lv_at hl 1 rfl) ?_
        refine lv_aload_n hx hb dL_law_351 rfl (lv_at hl 0 rfl) ?_
        refine lv_iload_n hx hb dL_law_352 rfl (lv_at hl 3 rfl) ?_
        refine lv_iconst (v := 1) hx hb dL_law_353 (by decide) ?_
        refine lv_iadd hx hb dL_law_354 ?_
        obtain ⟨g24, h⟩ := mm_grn h
        refine va_sld hx hb hX hbl hbA hH.2 g24 dL_law_355 ?_
        obtain ⟨v26, e26, h⟩ := mm_bnd h
        refine mm_goi hH (va_runV (As := [.int (xs (Int32.toNatClampNeg (i3 + 1)))]) (rest := []) ⟨hx, hb, C.2.2.1, C.2.2.2.1, C.2.2.2.2.1⟩ (ct_X4_choice l G T b z (xs (Int32.toNatClampNeg (i3 + 1))) x e26) (cwV 1 C.2.2.2.2.1 gL_law_X4_choice rfl rfl rfl df_X4_choice ⟨Nat.le_of_ble_eq_true rfl, Nat.le_of_ble_eq_true rfl⟩) ⟨mm_B.blind, mm_recv (q := (RX4, TX4, 7)) C hH kl_0 (mm_e4 kd_0) rfl, mm_pre C hH⟩ rfl rfl hl.1 rfl (lv_room (Nat.le_of_ble_eq_true rfl)) dL_law_356 ⟨Nat.le_of_ble_eq_true rfl, Nat.le_of_ble_eq_true rfl⟩) (fun H locs hH => ?_)
        refine lv_aload_n hx hb dL_law_359 rfl (lv_at hl 2 rfl) ?_
        refine lv_aload_n hx hb dL_law_360 rfl (lv_at hl 0 rfl) ?_
        refine lv_iload_n hx hb dL_law_361 rfl (lv_at hl 3 rfl) ?_
        refine lv_iconst (v := 1) hx hb dL_law_362 (by decide) ?_
        refine lv_iadd hx hb dL_law_363 ?_
        obtain ⟨g25, h⟩ := mm_grn h
        refine va_sld hx hb hX hbl hbA hH.2 g25 dL_law_364 ?_
        obtain ⟨v27, e27, h⟩ := mm_bnd h
        refine mm_goi hH (va_runV (As := [.int (xs (Int32.toNatClampNeg (i3 + 1)))]) (rest := [.int v26]) ⟨hx, hb, C.2.2.1, C.2.2.2.1, C.2.2.2.2.1⟩ (ct_X5_choice l G T b z (xs (Int32.toNatClampNeg (i3 + 1))) x e27) (cwV 1 C.2.2.2.2.1 gL_law_X5_choice rfl rfl rfl df_X5_choice ⟨Nat.le_of_ble_eq_true rfl, Nat.le_of_ble_eq_true rfl⟩) ⟨mm_B.blind, mm_recv (q := (RX5, TX5, 14)) C hH kl_157 (mm_e5 kd_157) rfl, mm_pre C hH⟩ rfl rfl hl.1 rfl (lv_room (Nat.le_of_ble_eq_true rfl)) dL_law_365 ⟨Nat.le_of_ble_eq_true rfl, Nat.le_of_ble_eq_true rfl⟩) (fun H locs hH => ?_)
        refine lv_icmp_eq (tgt := 672) hx hb dL_law_368 (by decide) (fun c19 => ?_) (fun c19 => ?_)
        · have h := mm_pos c19 h
          obtain ⟨v28, e28, h⟩ := mm_bnd h
          refine lv_iinc (v := v28) (lv' := [(3, .int v28), (0, .ref b0), (1, .ref (b + 0)), (2, .ref (b + 157))]) hx hb dL_law_672 hl (k := 3) rfl (Option.some.inj e28) (by decide) rfl (fun ls hl => ?_)
          refine lv_goto (tgt := 18) hx hb dL_law_675 (by decide) ?_
          exact ih v28 x _ _ _  h hH (lv_sub hl [1, 2, 3, 0] rfl)
        · have h := mm_neg c19 h
          have hl := lv_sub (l' := []) hl [] rfl
          refine lv_iconst (v := 0) hx hb dL_law_371 (by decide) ?_
          exact absurd (Option.some.inj h) (by decide)
      have h := mm_neg c18 h
      by_cases c20 : v1 = 9
      · have h := mm_pos c20 h
        refine lv_tableIn (off := 341) (tgt := 373) hx hb dL_law_32 (by rw [c20]; decide) (by rw [c20]; decide) (by rw [c20]; decide) (by decide) ?_
        refine lv_aload_n hx hb dL_law_373 rfl (lv_at hl 1 rfl) ?_
        refine lv_aload_n hx hb dL_law_374 rfl (lv_at hl 0 rfl) ?_
        refine lv_iload_n hx hb dL_law_375 rfl (lv_at hl 3 rfl) ?_
        refine lv_iconst (v := 1) hx hb dL_law_376 (by decide) ?_
        refine lv_iadd hx hb dL_law_377 ?_
        obtain ⟨g26, h⟩ := mm_grn h
        refine va_sld hx hb hX hbl hbA hH.2 g26 dL_law_378 ?_
        refine lv_aload_n hx hb dL_law_379 rfl (lv_at hl 0 rfl) ?_
        refine lv_iload_n hx hb dL_law_380 rfl (lv_at hl 3 rfl) ?_
        refine lv_iconst (v := 2) hx hb dL_law_381 (by decide) ?_
        refine lv_iadd hx hb dL_law_382 ?_
        obtain ⟨g27, h⟩ := mm_grn h
        refine va_sld hx hb hX hbl hbA hH.2 g27 dL_law_383 ?_
        obtain ⟨v29, e29, h⟩ := mm_bnd h
        refine mm_goi hH (va_runV (As := [.int (xs (Int32.toNatClampNeg (i3 + 1))), .int (xs (Int32.toNatClampNeg (i3 + 2)))]) (rest := []) ⟨hx, hb, C.2.2.1, C.2.2.2.1, C.2.2.2.2.1⟩ (ct_X4_log l G T b z (xs (Int32.toNatClampNeg (i3 + 1))) (xs (Int32.toNatClampNeg (i3 + 2))) x e29) (cwV 2 C.2.2.2.2.1 gL_law_X4_log rfl rfl rfl df_X4_log ⟨Nat.le_of_ble_eq_true rfl, Nat.le_of_ble_eq_true rfl⟩) ⟨mm_B.blind, mm_recv (q := (RX4, TX4, 7)) C hH kl_0 (mm_e4 kd_0) rfl, mm_pre C hH⟩ rfl rfl hl.1 rfl (lv_room (Nat.le_of_ble_eq_true rfl)) dL_law_384 ⟨Nat.le_of_ble_eq_true rfl, Nat.le_of_ble_eq_true rfl⟩) (fun H locs hH => ?_)
        refine lv_aload_n hx hb dL_law_387 rfl (lv_at hl 2 rfl) ?_
        refine lv_aload_n hx hb dL_law_388 rfl (lv_at hl 0 rfl) ?_
        refine lv_iload_n hx hb dL_law_389 rfl (lv_at hl 3 rfl) ?_
        refine lv_iconst (v := 1) hx hb dL_law_390 (by decide) ?_
        refine lv_iadd hx hb dL_law_391 ?_
        obtain ⟨g28, h⟩ := mm_grn h
        refine va_sld hx hb hX hbl hbA hH.2 g28 dL_law_392 ?_
        refine lv_aload_n hx hb dL_law_393 rfl (lv_at hl 0 rfl) ?_
        refine lv_iload_n hx hb dL_law_394 rfl (lv_at hl 3 rfl) ?_
        refine lv_iconst (v := 2) hx hb dL_law_395 (by decide) ?_
        refine lv_iadd hx hb dL_law_396 ?_
        obtain ⟨g29, h⟩ := mm_grn h
        refine va_sld hx hb hX hbl hbA hH.2 g29 dL_law_397 ?_
        obtain ⟨v30, e30, h⟩ := mm_bnd h
        refine mm_goi hH (va_runV (As := [.int (xs (Int32.toNatClampNeg (i3 + 1))), .int (xs (Int32.toNatClampNeg (i3 + 2)))]) (rest := [.int v29]) ⟨hx, hb, C.2.2.1, C.2.2.2.1, C.2.2.2.2.1⟩ (ct_X5_log l G T b z (xs (Int32.toNatClampNeg (i3 + 1))) (xs (Int32.toNatClampNeg (i3 + 2))) x e30) (cwV 2 C.2.2.2.2.1 gL_law_X5_log rfl rfl rfl df_X5_log ⟨Nat.le_of_ble_eq_true rfl, Nat.le_of_ble_eq_true rfl⟩) ⟨mm_B.blind, mm_recv (q := (RX5, TX5, 14)) C hH kl_157 (mm_e5 kd_157) rfl, mm_pre C hH⟩ rfl rfl hl.1 rfl (lv_room (Nat.le_of_ble_eq_true rfl)) dL_law_398 ⟨Nat.le_of_ble_eq_true rfl, Nat.le_of_ble_eq_true rfl⟩) (fun H locs hH => ?_)
        refine lv_icmp_eq (tgt := 672) hx hb dL_law_401 (by decide) (fun c21 => ?_) (fun c21 => ?_)
        · have h := mm_pos c21 h
          obtain ⟨v31, e31, h⟩ := mm_bnd h
          refine lv_iinc (v := v31) (lv' := [(3, .int v31), (0, .ref b0), (1, .ref (b + 0)), (2, .ref (b + 157))]) hx hb dL_law_672 hl (k := 3) rfl (Option.some.inj e31) (by decide) rfl (fun ls hl => ?_)
          refine lv_goto (tgt := 18) hx hb dL_law_675 (by decide) ?_
          exact ih v31 x _ _ _  h hH (lv_sub hl [1, 2, 3, 0] rfl)
        · have h := mm_neg c21 h
          have hl := lv_sub (l' := []) hl [] rfl
          refine lv_iconst (v := 0) hx hb dL_law_404 (by decide) ?_
          exact absurd (Option.some.inj h) (by decide)
      have h := mm_neg c20 h
      by_cases c22 : v1 = 10
      · have h := mm_pos c22 h
        refine lv_tableIn (off := 374) (tgt := 406) hx hb dL_law_32 (by rw [c22]; decide) (by rw [c22]; decide) (by rw [c22]; decide) (by decide) ?_
        refine lv_aload_n hx hb dL_law_406 rfl (lv_at hl 1 rfl) ?_
        refine lv_aload_n hx hb dL_law_407 rfl (lv_at hl 0 rfl) ?_
        refine lv_iload_n hx hb dL_law_408 rfl (lv_at hl 3 rfl) ?_
        refine lv_iconst (v := 1) hx hb dL_law_409 (by decide) ?_
        refine lv_iadd hx hb dL_law_410 ?_
        obtain ⟨g30, h⟩ := mm_grn h
        refine va_sld hx hb hX hbl hbA hH.2 g30 dL_law_411 ?_
        obtain ⟨v32, e32, h⟩ := mm_bnd h
        refine mm_goi hH (va_runV (As := [.int (xs (Int32.toNatClampNeg (i3 + 1)))]) (rest := []) ⟨hx, hb, C.2.2.1, C.2.2.2.1, C.2.2.2.2.1⟩ (ct_X4_why l G T b z (xs (Int32.toNatClampNeg (i3 + 1))) x e32) (cwV 1 C.2.2.2.2.1 gL_law_X4_why rfl rfl rfl df_X4_why ⟨Nat.le_of_ble_eq_true rfl, Nat.le_of_ble_eq_true rfl⟩) ⟨mm_B.blind, mm_recv (q := (RX4, TX4, 7)) C hH kl_0 (mm_e4 kd_0) rfl, mm_pre C hH⟩ rfl rfl hl.1 rfl (lv_room (Nat.le_of_ble_eq_true rfl)) dL_law_412 ⟨Nat.le_of_ble_eq_true rfl, Nat.le_of_ble_eq_true rfl⟩) (fun H locs hH => ?_)
        refine lv_aload_n hx hb dL_law_415 rfl (lv_at hl 2 rfl) ?_
        refine lv_aload_n hx hb dL_law_416 rfl (lv_at hl 0 rfl) ?_
        refine lv_iload_n hx hb dL_law_417 rfl (lv_at hl 3 rfl) ?_
        refine lv_iconst (v := 1) hx hb dL_law_418 (by decide) ?_
        refine lv_iadd hx hb dL_law_419 ?_
        obtain ⟨g31, h⟩ := mm_grn h
        refine va_sld hx hb hX hbl hbA hH.2 g31 dL_law_420 ?_
        obtain ⟨v33, e33, h⟩ := mm_bnd h
        refine mm_goi hH (va_runV (As := [.int (xs (Int32.toNatClampNeg (i3 + 1)))]) (rest := [.int v32]) ⟨hx, hb, C.2.2.1, C.2.2.2.1, C.2.2.2.2.1⟩ (ct_X5_why l G T b z (xs (Int32.toNatClampNeg (i3 + 1))) x e33) (cwV 1 C.2.2.2.2.1 gL_law_X5_why rfl rfl rfl df_X5_why ⟨Nat.le_of_ble_eq_true rfl, Nat.le_of_ble_eq_true rfl⟩) ⟨mm_B.blind, mm_recv (q := (RX5, TX5, 14)) C hH kl_157 (mm_e5 kd_157) rfl, mm_pre C hH⟩ rfl rfl hl.1 rfl (lv_room (Nat.le_of_ble_eq_true rfl)) dL_law_421 ⟨Nat.le_of_ble_eq_true rfl, Nat.le_of_ble_eq_true rfl⟩) (fun H locs hH => ?_)
        refine lv_icmp_eq (tgt := 672) hx hb dL_law_424 (by decide) (fun c23 => ?_) (fun c23 => ?_)
        · have h := mm_pos c23 h
          obtain ⟨v34, e34, h⟩ := mm_bnd h
          refine lv_iinc (v := v34) (lv' := [(3, .int v34), (0, .ref b0), (1, .ref (b + 0)), (2, .ref (b + 157))]) hx hb dL_law_672 hl (k := 3) rfl (Option.some.inj e34) (by decide) rfl (fun ls hl => ?_)
          refine lv_goto (tgt := 18) hx hb dL_law_675 (by decide) ?_
          exact ih v34 x _ _ _  h hH (lv_sub hl [1, 2, 3, 0] rfl)
        · have h := mm_neg c23 h
          have hl := lv_sub (l' := []) hl [] rfl
          refine lv_iconst (v := 0) hx hb dL_law_427 (by decide) ?_
          exact absurd (Option.some.inj h) (by decide)
      have h := mm_neg c22 h
      by_cases c24 : v1 = 11
      · have h := mm_pos c24 h
        refine lv_tableIn (off := 397) (tgt := 429) hx hb dL_law_32 (by rw [c24]; decide) (by rw [c24]; decide) (by rw [c24]; decide) (by decide) ?_
        refine lv_aload_n hx hb dL_law_429 rfl (lv_at hl 1 rfl) ?_
        refine lv_aload_n hx hb dL_law_430 rfl (lv_at hl 0 rfl) ?_
        refine lv_iload_n hx hb dL_law_431 rfl (lv_at hl 3 rfl) ?_
        refine lv_iconst (v := 1) hx hb dL_law_432 (by decide) ?_
        refine lv_iadd hx hb dL_law_433 ?_
        obtain ⟨g32, h⟩ := mm_grn h
        refine va_sld hx hb hX hbl hbA hH.2 g32 dL_law_434 ?_
        obtain ⟨x13, v35, e35, h⟩ := mm_bnd2 h
        refine mm_goi hH (va_runV (As := [.int (xs (Int32.toNatClampNeg (i3 + 1)))]) (rest := []) ⟨hx, hb, C.2.2.1, C.2.2.2.1, C.2.2.2.2.1⟩ (ct_X4_welcomeIn l G T b z (xs (Int32.toNatClampNeg (i3 + 1))) x e35) (cwV 1 C.2.2.2.2.1 gL_law_X4_welcomeIn rfl rfl rfl df_X4_welcomeIn ⟨Nat.le_of_ble_eq_true rfl, Nat.le_of_ble_eq_true rfl⟩) ⟨mm_B.blind, mm_recv (q := (RX4, TX4, 7)) C hH kl_0 (mm_e4 kd_0) rfl, mm_pre C hH⟩ rfl rfl hl.1 rfl (lv_room (Nat.le_of_ble_eq_true rfl)) dL_law_435 ⟨Nat.le_of_ble_eq_true rfl, Nat.le_of_ble_eq_true rfl⟩) (fun H locs hH => ?_)
        refine lv_aload_n hx hb dL_law_438 rfl (lv_at hl 2 rfl) ?_
        refine lv_aload_n hx hb dL_law_439 rfl (lv_at hl 0 rfl) ?_
        refine lv_iload_n hx hb dL_law_440 rfl (lv_at hl 3 rfl) ?_
        refine lv_iconst (v := 1) hx hb dL_law_441 (by decide) ?_
        refine lv_iadd hx hb dL_law_442 ?_
        obtain ⟨g33, h⟩ := mm_grn h
        refine va_sld hx hb hX hbl hbA hH.2 g33 dL_law_443 ?_
        obtain ⟨x14, v36, e36, h⟩ := mm_bnd2 h
        refine mm_goi hH (va_runV (As := [.int (xs (Int32.toNatClampNeg (i3 + 1)))]) (rest := [.int v35]) ⟨hx, hb, C.2.2.1, C.2.2.2.1, C.2.2.2.2.1⟩ (ct_X5_welcomeIn l G T b z (xs (Int32.toNatClampNeg (i3 + 1))) x13 e36) (cwV 1 C.2.2.2.2.1 gL_law_X5_welcomeIn rfl rfl rfl df_X5_welcomeIn ⟨Nat.le_of_ble_eq_true rfl, Nat.le_of_ble_eq_true rfl⟩) ⟨mm_B.blind, mm_recv (q := (RX5, TX5, 14)) C hH kl_157 (mm_e5 kd_157) rfl, mm_pre C hH⟩ rfl rfl hl.1 rfl (lv_room (Nat.le_of_ble_eq_true rfl)) dL_law_444 ⟨Nat.le_of_ble_eq_true rfl, Nat.le_of_ble_eq_true rfl⟩) (fun H locs hH => ?_)
        refine lv_icmp_eq (tgt := 672) hx hb dL_law_447 (by decide) (fun c25 => ?_) (fun c25 => ?_)
        · have h := mm_pos c25 h
          obtain ⟨v37, e37, h⟩ := mm_bnd h
          refine lv_iinc (v := v37) (lv' := [(3, .int v37), (0, .ref b0), (1, .ref (b + 0)), (2, .ref (b + 157))]) hx hb dL_law_672 hl (k := 3) rfl (Option.some.inj e37) (by decide) rfl (fun ls hl => ?_)
          refine lv_goto (tgt := 18) hx hb dL_law_675 (by decide) ?_
          exact ih v37 x14 _ _ _  h hH (lv_sub hl [1, 2, 3, 0] rfl)
        · have h := mm_neg c25 h
          have hl := lv_sub (l' := []) hl [] rfl
          refine lv_iconst (v := 0) hx hb dL_law_450 (by decide) ?_
          exact absurd (Option.some.inj h) (by decide)
      have h := mm_neg c24 h
      by_cases c26 : v1 = 12
      · have h := mm_pos c26 h
        refine lv_tableIn (off := 420) (tgt := 452) hx hb dL_law_32 (by rw [c26]; decide) (by rw [c26]; decide) (by rw [c26]; decide) (by decide) ?_
        refine lv_aload_n hx hb dL_law_452 rfl (lv_at hl 1 rfl) ?_
        refine lv_aload_n hx hb dL_law_453 rfl (lv_at hl 0 rfl) ?_
        refine lv_iload_n hx hb dL_law_454 rfl (lv_at hl 3 rfl) ?_
        refine lv_iconst (v := 1) hx hb dL_law_455 (by decide) ?_
        refine lv_iadd hx hb dL_law_456 ?_
        obtain ⟨g34, h⟩ := mm_grn h
        refine va_sld hx hb hX hbl hbA hH.2 g34 dL_law_457 ?_
        obtain ⟨x15, v38, e38, h⟩ := mm_bnd2 h
        refine mm_goi hH (va_runV (As := [.int (xs (Int32.toNatClampNeg (i3 + 1)))]) (rest := []) ⟨hx, hb, C.2.2.1, C.2.2.2.1, C.2.2.2.2.1⟩ (ct_X4_mayChange l G T b z (xs (Int32.toNatClampNeg (i3 + 1))) x e38) (cwV 1 C.2.2.2.2.1 gL_law_X4_mayChange rfl rfl rfl df_X4_mayChange ⟨Nat.le_of_ble_eq_true rfl, Nat.le_of_ble_eq_true rfl⟩) ⟨mm_B.blind, mm_recv (q := (RX4, TX4, 7)) C hH kl_0 (mm_e4 kd_0) rfl, mm_pre C hH⟩ rfl rfl hl.1 rfl (lv_room (Nat.le_of_ble_eq_true rfl)) dL_law_458 ⟨Nat.le_of_ble_eq_true rfl, Nat.le_of_ble_eq_true rfl⟩) (fun H locs hH => ?_)
        refine lv_aload_n hx hb dL_law_461 rfl (lv_at hl 2 rfl) ?_
        refine lv_aload_n hx hb dL_law_462 rfl (lv_at hl 0 rfl) ?_
        refine lv_iload_n hx hb dL_law_463 rfl (lv_at hl 3 rfl) ?_
        refine lv_iconst (v := 1) hx hb dL_law_464 (by decide) ?_
        refine lv_iadd hx hb dL_law_465 ?_
        obtain ⟨g35, h⟩ := mm_grn h
        refine va_sld hx hb hX hbl hbA hH.2 g35 dL_law_466 ?_
        obtain ⟨v39, e39, h⟩ := mm_bnd h
        refine mm_goi hH (va_runV (As := [.int (xs (Int32.toNatClampNeg (i3 + 1)))]) (rest := [.int v38]) ⟨hx, hb, C.2.2.1, C.2.2.2.1, C.2.2.2.2.1⟩ (ct_X5_mayChange l G T b z (xs (Int32.toNatClampNeg (i3 + 1))) x15 e39) (cwV 1 C.2.2.2.2.1 gL_law_X5_mayChange rfl rfl rfl df_X5_mayChange ⟨Nat.le_of_ble_eq_true rfl, Nat.le_of_ble_eq_true rfl⟩) ⟨mm_B.blind, mm_recv (q := (RX5, TX5, 14)) C hH kl_157 (mm_e5 kd_157) rfl, mm_pre C hH⟩ rfl rfl hl.1 rfl (lv_room (Nat.le_of_ble_eq_true rfl)) dL_law_467 ⟨Nat.le_of_ble_eq_true rfl, Nat.le_of_ble_eq_true rfl⟩) (fun H locs hH => ?_)
        refine lv_icmp_eq (tgt := 672) hx hb dL_law_470 (by decide) (fun c27 => ?_) (fun c27 => ?_)
        · have h := mm_pos c27 h
          obtain ⟨v40, e40, h⟩ := mm_bnd h
          refine lv_iinc (v := v40) (lv' := [(3, .int v40), (0, .ref b0), (1, .ref (b + 0)), (2, .ref (b + 157))]) hx hb dL_law_672 hl (k := 3) rfl (Option.some.inj e40) (by decide) rfl (fun ls hl => ?_)
          refine lv_goto (tgt := 18) hx hb dL_law_675 (by decide) ?_
          exact ih v40 x15 _ _ _  h hH (lv_sub hl [1, 2, 3, 0] rfl)
        · have h := mm_neg c27 h
          have hl := lv_sub (l' := []) hl [] rfl
          refine lv_iconst (v := 0) hx hb dL_law_473 (by decide) ?_
          exact absurd (Option.some.inj h) (by decide)
      have h := mm_neg c26 h
      by_cases c28 : v1 = 13
      · have h := mm_pos c28 h
        refine lv_tableIn (off := 443) (tgt := 475) hx hb dL_law_32 (by rw [c28]; decide) (by rw [c28]; decide) (by rw [c28]; decide) (by decide) ?_
        refine lv_aload_n hx hb dL_law_475 rfl (lv_at hl 1 rfl) ?_
        refine lv_aload_n hx hb dL_law_476 rfl (lv_at hl 0 rfl) ?_
        refine lv_iload_n hx hb dL_law_477 rfl (lv_at hl 3 rfl) ?_
        refine lv_iconst (v := 1) hx hb dL_law_478 (by decide) ?_
        refine lv_iadd hx hb dL_law_479 ?_
        obtain ⟨g36, h⟩ := mm_grn h
        refine va_sld hx hb hX hbl hbA hH.2 g36 dL_law_480 ?_
        refine lv_aload_n hx hb dL_law_481 rfl (lv_at hl 0 rfl) ?_
        refine lv_iload_n hx hb dL_law_482 rfl (lv_at hl 3 rfl) ?_
        refine lv_iconst (v := 2) hx hb dL_law_483 (by decide) ?_
        refine lv_iadd hx hb dL_law_484 ?_
        obtain ⟨g37, h⟩ := mm_grn h
        refine va_sld hx hb hX hbl hbA hH.2 g37 dL_law_485 ?_
        obtain ⟨x16, v41, e41, h⟩ := mm_bnd2 h
        refine mm_goi hH (va_runV (As := [.int (xs (Int32.toNatClampNeg (i3 + 1))), .int (xs (Int32.toNatClampNeg (i3 + 2)))]) (rest := []) ⟨hx, hb, C.2.2.1, C.2.2.2.1, C.2.2.2.2.1⟩ (ct_X4_fineIn l G T b z (xs (Int32.toNatClampNeg (i3 + 1))) (xs (Int32.toNatClampNeg (i3 + 2))) x e41) (cwV 2 C.2.2.2.2.1 gL_law_X4_fineIn rfl rfl rfl df_X4_fineIn ⟨Nat.le_of_ble_eq_true rfl, Nat.le_of_ble_eq_true rfl⟩) ⟨mm_B.blind, mm_recv (q := (RX4, TX4, 7)) C hH kl_0 (mm_e4 kd_0) rfl, mm_pre C hH⟩ rfl rfl hl.1 rfl (lv_room (Nat.le_of_ble_eq_true rfl)) dL_law_486 ⟨Nat.le_of_ble_eq_true rfl, Nat.le_of_ble_eq_true rfl⟩) (fun H locs hH => ?_)
        refine lv_aload_n hx hb dL_law_489 rfl (lv_at hl 2 rfl) ?_
        refine lv_aload_n hx hb dL_law_490 rfl (lv_at hl 0 rfl) ?_
        refine lv_iload_n hx hb dL_law_491 rfl (lv_at hl 3 rfl) ?_
        refine lv_iconst (v := 1) hx hb dL_law_492 (by decide) ?_
        refine lv_iadd hx hb dL_law_493 ?_
        obtain ⟨g38, h⟩ := mm_grn h
        refine va_sld hx hb hX hbl hbA hH.2 g38 dL_law_494 ?_
        refine lv_aload_n hx hb dL_law_495 rfl (lv_at hl 0 rfl) ?_
        refine lv_iload_n hx hb dL_law_496 rfl (lv_at hl 3 rfl) ?_
        refine lv_iconst (v := 2) hx hb dL_law_497 (by decide) ?_
        refine lv_iadd hx hb dL_law_498 ?_
        obtain ⟨g39, h⟩ := mm_grn h
        refine va_sld hx hb hX hbl hbA hH.2 g39 dL_law_499 ?_
        obtain ⟨x17, v42, e42, h⟩ := mm_bnd2 h
        refine mm_goi hH (va_runV (As := [.int (xs (Int32.toNatClampNeg (i3 + 1))), .int (xs (Int32.toNatClampNeg (i3 + 2)))]) (rest := [.int v41]) ⟨hx, hb, C.2.2.1, C.2.2.2.1, C.2.2.2.2.1⟩ (ct_X5_fineIn l G T b z (xs (Int32.toNatClampNeg (i3 + 1))) (xs (Int32.toNatClampNeg (i3 + 2))) x16 e42) (cwV 2 C.2.2.2.2.1 gL_law_X5_fineIn rfl rfl rfl df_X5_fineIn ⟨Nat.le_of_ble_eq_true rfl, Nat.le_of_ble_eq_true rfl⟩) ⟨mm_B.blind, mm_recv (q := (RX5, TX5, 14)) C hH kl_157 (mm_e5 kd_157) rfl, mm_pre C hH⟩ rfl rfl hl.1 rfl (lv_room (Nat.le_of_ble_eq_true rfl)) dL_law_500 ⟨Nat.le_of_ble_eq_true rfl, Nat.le_of_ble_eq_true rfl⟩) (fun H locs hH => ?_)
        refine lv_icmp_eq (tgt := 672) hx hb dL_law_503 (by decide) (fun c29 => ?_) (fun c29 => ?_)
        · have h := mm_pos c29 h
          obtain ⟨v43, e43, h⟩ := mm_bnd h
          refine lv_iinc (v := v43) (lv' := [(3, .int v43), (0, .ref b0), (1, .ref (b + 0)), (2, .ref (b + 157))]) hx hb dL_law_672 hl (k := 3) rfl (Option.some.inj e43) (by decide) rfl (fun ls hl => ?_)
          refine lv_goto (tgt := 18) hx hb dL_law_675 (by decide) ?_
          exact ih v43 x17 _ _ _  h hH (lv_sub hl [1, 2, 3, 0] rfl)
        · have h := mm_neg c29 h
          have hl := lv_sub (l' := []) hl [] rfl
          refine lv_iconst (v := 0) hx hb dL_law_506 (by decide) ?_
          exact absurd (Option.some.inj h) (by decide)
      have h := mm_neg c28 h
      by_cases c30 : v1 = 14
      · have h := mm_pos c30 h
        refine lv_tableIn (off := 476) (tgt := 508) hx hb dL_law_32 (by rw [c30]; decide) (by rw [c30]; decide) (by rw [c30]; decide) (by decide) ?_
        refine lv_aload_n hx hb dL_law_508 rfl (lv_at hl 1 rfl) ?_
        obtain ⟨x18, v44, e44, h⟩ := mm_bnd2 h
        refine mm_goi hH (va_runV (As := []) (rest := []) ⟨hx, hb, C.2.2.1, C.2.2.2.1, C.2.2.2.2.1⟩ (ct_X4_steady l G T b z x e44) (cwV 0 C.2.2.2.2.1 gL_law_X4_steady rfl rfl rfl df_X4_steady ⟨Nat.le_of_ble_eq_true rfl, Nat.le_of_ble_eq_true rfl⟩) ⟨mm_B.blind, mm_recv (q := (RX4, TX4, 7)) C hH kl_0 (mm_e4 kd_0) rfl, mm_pre C hH⟩ rfl rfl hl.1 rfl (lv_room (Nat.le_of_ble_eq_true rfl)) dL_law_509 ⟨Nat.le_of_ble_eq_true rfl, Nat.le_of_ble_eq_true rfl⟩) (fun H locs hH => ?_)
        refine lv_aload_n hx hb dL_law_512 rfl (lv_at hl 2 rfl) ?_
        obtain ⟨x19, v45, e45, h⟩ := mm_bnd2 h
        refine mm_goi hH (va_runV (As := []) (rest := [.int v44]) ⟨hx, hb, C.2.2.1, C.2.2.2.1, C.2.2.2.2.1⟩ (ct_X5_steady l G T b z x18 e45) (cwV 0 C.2.2.2.2.1 gL_law_X5_steady rfl rfl rfl df_X5_steady ⟨Nat.le_of_ble_eq_true rfl, Nat.le_of_ble_eq_true rfl⟩) ⟨mm_B.blind, mm_recv (q := (RX5, TX5, 14)) C hH kl_157 (mm_e5 kd_157) rfl, mm_pre C hH⟩ rfl rfl hl.1 rfl (lv_room (Nat.le_of_ble_eq_true rfl)) dL_law_513 ⟨Nat.le_of_ble_eq_true rfl, Nat.le_of_ble_eq_true rfl⟩) (fun H locs hH => ?_)
        refine lv_icmp_eq (tgt := 672) hx hb dL_law_516 (by decide) (fun c31 => ?_) (fun c31 => ?_)
        · have h := mm_pos c31 h
          obtain ⟨v46, e46, h⟩ := mm_bnd h
          refine lv_iinc (v := v46) (lv' := [(3, .int v46), (0, .ref b0), (1, .ref (b + 0)), (2, .ref (b + 157))]) hx hb dL_law_672 hl (k := 3) rfl (Option.some.inj e46) (by decide) rfl (fun ls hl => ?_)
          refine lv_goto (tgt := 18) hx hb dL_law_675 (by decide) ?_
          exact ih v46 x19 _ _ _  h hH (lv_sub hl [1, 2, 3, 0] rfl)
        · have h := mm_neg c31 h
          have hl := lv_sub (l' := []) hl [] rfl
          refine lv_iconst (v := 0) hx hb dL_law_519 (by decide) ?_
          exact absurd (Option.some.inj h) (by decide)
      have h := mm_neg c30 h
      by_cases c32 : v1 = 15
      · have h := mm_pos c32 h
        refine lv_tableIn (off := 489) (tgt := 521) hx hb dL_law_32 (by rw [c32]; decide) (by rw [c32]; decide) (by rw [c32]; decide) (by decide) ?_
        refine lv_aload_n hx hb dL_law_521 rfl (lv_at hl 1 rfl) ?_
        refine lv_aload_n hx hb dL_law_522 rfl (lv_at hl 0 rfl) ?_
        refine lv_iload_n hx hb dL_law_523 rfl (lv_at hl 3 rfl) ?_
        refine lv_iconst (v := 1) hx hb dL_law_524 (by decide) ?_
        refine lv_iadd hx hb dL_law_525 ?_
        obtain ⟨g40, h⟩ := mm_grn h
        refine va_sld hx hb hX hbl hbA hH.2 g40 dL_law_526 ?_
        refine lv_i2l (v := (Int32.toInt64 (xs (Int32.toNatClampNeg (i3 + 1))))) hx hb dL_law_527 rfl ?_
        refine lv_bipush (v := 32) hx hb dL_law_528 (by decide) ?_
        refine lv_lshl (v := ((Int32.toInt64 (xs (Int32.toNatClampNeg (i3 + 1)))) <<< (Int32.toInt64 (32 : Int32) &&& 63))) hx hb dL_law_530 rfl ?_
        refine lv_aload_n hx hb dL_law_531 rfl (lv_at hl 0 rfl) ?_
        refine lv_iload_n hx hb dL_law_532 rfl (lv_at hl 3 rfl) ?_
        refine lv_iconst (v := 2) hx hb dL_law_533 (by decide) ?_
        refine lv_iadd hx hb dL_law_534 ?_
        obtain ⟨g41, h⟩ := mm_grn h
        refine va_sld hx hb hX hbl hbA hH.2 g41 dL_law_535 ?_
        refine lv_i2l (v := (Int32.toInt64 (xs (Int32.toNatClampNeg (i3 + 2))))) hx hb dL_law_536 rfl ?_
        refine lv_ldc2 (own := RL) (v := 4294967295) hx hb C.2.2.2.1 w1 dL_law_537 ?_
        refine lv_land hx hb dL_law_540 ?_
        refine lv_lor hx hb dL_law_541 ?_
        obtain ⟨x20, v47, e47, h⟩ := mm_bnd2 h
        refine mm_goi hH (va_runV (As := [.long (((Int32.toInt64 (xs (Int32.toNatClampNeg (i3 + 1)))) <<< (Int32.toInt64 (32 : Int32) &&& 63)) ||| ((Int32.toInt64 (xs (Int32.toNatClampNeg (i3 + 2)))) &&& 4294967295))]) (rest := []) ⟨hx, hb, C.2.2.1, C.2.2.2.1, C.2.2.2.2.1⟩ (ct_X4_put l G T b z (((Int32.toInt64 (xs (Int32.toNatClampNeg (i3 + 1)))) <<< (Int32.toInt64 (32 : Int32) &&& 63)) ||| ((Int32.toInt64 (xs (Int32.toNatClampNeg (i3 + 2)))) &&& 4294967295)) x e47) (cwV 1 C.2.2.2.2.1 gL_law_X4_put rfl rfl rfl df_X4_put ⟨Nat.le_of_ble_eq_true rfl, Nat.le_of_ble_eq_true rfl⟩) ⟨mm_B.blind, mm_recv (q := (RX4, TX4, 7)) C hH kl_0 (mm_e4 kd_0) rfl, mm_pre C hH⟩ rfl rfl hl.1 rfl (lv_room (Nat.le_of_ble_eq_true rfl)) dL_law_542 ⟨Nat.le_of_ble_eq_true rfl, Nat.le_of_ble_eq_true rfl⟩) (fun H locs hH => ?_)
        refine lv_aload_n hx hb dL_law_545 rfl (lv_at hl 2 rfl) ?_
        refine lv_aload_n hx hb dL_law_546 rfl (lv_at hl 0 rfl) ?_
        refine lv_iload_n hx hb dL_law_547 rfl (lv_at hl 3 rfl) ?_
        refine lv_iconst (v := 1) hx hb dL_law_548 (by decide) ?_
        refine lv_iadd hx hb dL_law_549 ?_
        obtain ⟨g42, h⟩ := mm_grn h
        refine va_sld hx hb hX hbl hbA hH.2 g42 dL_law_550 ?_
        refine lv_i2l (v := (Int32.toInt64 (xs (Int32.toNatClampNeg (i3 + 1))))) hx hb dL_law_551 rfl ?_
        refine lv_bipush (v := 32) hx hb dL_law_552 (by decide) ?_
        refine lv_lshl (v := ((Int32.toInt64 (xs (Int32.toNatClampNeg (i3 + 1)))) <<< (Int32.toInt64 (32 : Int32) &&& 63))) hx hb dL_law_554 rfl ?_
        refine lv_aload_n hx hb dL_law_555 rfl (lv_at hl 0 rfl) ?_
        refine lv_iload_n hx hb dL_law_556 rfl (lv_at hl 3 rfl) ?_
        refine lv_iconst (v := 2) hx hb dL_law_557 (by decide) ?_
        refine lv_iadd hx hb dL_law_558 ?_
        obtain ⟨g43, h⟩ := mm_grn h
        refine va_sld hx hb hX hbl hbA hH.2 g43 dL_law_559 ?_
        refine lv_i2l (v := (Int32.toInt64 (xs (Int32.toNatClampNeg (i3 + 2))))) hx hb dL_law_560 rfl ?_
        refine lv_ldc2 (own := RL) (v := 4294967295) hx hb C.2.2.2.1 w1 dL_law_561 ?_
        refine lv_land hx hb dL_law_564 ?_
        refine lv_lor hx hb dL_law_565 ?_
        obtain ⟨x21, v48, e48, h⟩ := mm_bnd2 h
        refine mm_goi hH (va_runV (As := [.long (((Int32.toInt64 (xs (Int32.toNatClampNeg (i3 + 1)))) <<< (Int32.toInt64 (32 : Int32) &&& 63)) ||| ((Int32.toInt64 (xs (Int32.toNatClampNeg (i3 + 2)))) &&& 4294967295))]) (rest := [.int v47]) ⟨hx, hb, C.2.2.1, C.2.2.2.1, C.2.2.2.2.1⟩ (ct_X5_put l G T b z (((Int32.toInt64 (xs (Int32.toNatClampNeg (i3 + 1)))) <<< (Int32.toInt64 (32 : Int32) &&& 63)) ||| ((Int32.toInt64 (xs (Int32.toNatClampNeg (i3 + 2)))) &&& 4294967295)) x20 e48) (cwV 1 C.2.2.2.2.1 gL_law_X5_put rfl rfl rfl df_X5_put ⟨Nat.le_of_ble_eq_true rfl, Nat.le_of_ble_eq_true rfl⟩) ⟨mm_B.blind, mm_recv (q := (RX5, TX5, 14)) C hH kl_157 (mm_e5 kd_157) rfl, mm_pre C hH⟩ rfl rfl hl.1 rfl (lv_room (Nat.le_of_ble_eq_true rfl)) dL_law_566 ⟨Nat.le_of_ble_eq_true rfl, Nat.le_of_ble_eq_true rfl⟩) (fun H locs hH => ?_)
        refine lv_icmp_eq (tgt := 672) hx hb dL_law_569 (by decide) (fun c33 => ?_) (fun c33 => ?_)
        · have h := mm_pos c33 h
          obtain ⟨v49, e49, h⟩ := mm_bnd h
          refine lv_iinc (v := v49) (lv' := [(3, .int v49), (0, .ref b0), (1, .ref (b + 0)), (2, .ref (b + 157))]) hx hb dL_law_672 hl (k := 3) rfl (Option.some.inj e49) (by decide) rfl (fun ls hl => ?_)
          refine lv_goto (tgt := 18) hx hb dL_law_675 (by decide) ?_
          exact ih v49 x21 _ _ _  h hH (lv_sub hl [1, 2, 3, 0] rfl)
        · have h := mm_neg c33 h
          have hl := lv_sub (l' := []) hl [] rfl
          refine lv_iconst (v := 0) hx hb dL_law_572 (by decide) ?_
          exact absurd (Option.some.inj h) (by decide)
      have h := mm_neg c32 h
      by_cases c34 : v1 = 16
      · have h := mm_pos c34 h
        refine lv_tableIn (off := 542) (tgt := 574) hx hb dL_law_32 (by rw [c34]; decide) (by rw [c34]; decide) (by rw [c34]; decide) (by decide) ?_
        refine lv_aload_n hx hb dL_law_574 rfl (lv_at hl 1 rfl) ?_
        obtain ⟨x22, v50, e50, h⟩ := mm_bnd2 h
        refine mm_goi hH (va_runV (As := []) (rest := []) ⟨hx, hb, C.2.2.1, C.2.2.2.1, C.2.2.2.2.1⟩ (ct_X4_wipe l G T b z x e50) (cwV 0 C.2.2.2.2.1 gL_law_X4_wipe rfl rfl rfl df_X4_wipe ⟨Nat.le_of_ble_eq_true rfl, Nat.le_of_ble_eq_true rfl⟩) ⟨mm_B.blind, mm_recv (q := (RX4, TX4, 7)) C hH kl_0 (mm_e4 kd_0) rfl, mm_pre C hH⟩ rfl rfl hl.1 rfl (lv_room (Nat.le_of_ble_eq_true rfl)) dL_law_575 ⟨Nat.le_of_ble_eq_true rfl, Nat.le_of_ble_eq_true rfl⟩) (fun H locs hH => ?_)
        refine lv_aload_n hx hb dL_law_578 rfl (lv_at hl 2 rfl) ?_
        obtain ⟨x23, v51, e51, h⟩ := mm_bnd2 h
        refine mm_goi hH (va_runV (As := []) (rest := [.int v50]) ⟨hx, hb, C.2.2.1, C.2.2.2.1, C.2.2.2.2.1⟩ (ct_X5_wipe l G T b z x22 e51) (cwV 0 C.2.2.2.2.1 gL_law_X5_wipe rfl rfl rfl df_X5_wipe ⟨Nat.le_of_ble_eq_true rfl, Nat.le_of_ble_eq_true rfl⟩) ⟨mm_B.blind, mm_recv (q := (RX5, TX5, 14)) C hH kl_157 (mm_e5 kd_157) rfl, mm_pre C hH⟩ rfl rfl hl.1 rfl (lv_room (Nat.le_of_ble_eq_true rfl)) dL_law_579 ⟨Nat.le_of_ble_eq_true rfl, Nat.le_of_ble_eq_true rfl⟩) (fun H locs hH => ?_)
        refine lv_icmp_eq (tgt := 672) hx hb dL_law_582 (by decide) (fun c35 => ?_) (fun c35 => ?_)
        · have h := mm_pos c35 h
          obtain ⟨v52, e52, h⟩ := mm_bnd h
          refine lv_iinc (v := v52) (lv' := [(3, .int v52), (0, .ref b0), (1, .ref (b + 0)), (2, .ref (b + 157))]) hx hb dL_law_672 hl (k := 3) rfl (Option.some.inj e52) (by decide) rfl (fun ls hl => ?_)
          refine lv_goto (tgt := 18) hx hb dL_law_675 (by decide) ?_
          exact ih v52 x23 _ _ _  h hH (lv_sub hl [1, 2, 3, 0] rfl)
        · have h := mm_neg c35 h
          have hl := lv_sub (l' := []) hl [] rfl
          refine lv_iconst (v := 0) hx hb dL_law_585 (by decide) ?_
          exact absurd (Option.some.inj h) (by decide)
      have h := mm_neg c34 h
      by_cases c36 : v1 = 17
      · have h := mm_pos c36 h
        refine lv_tableIn (off := 555) (tgt := 587) hx hb dL_law_32 (by rw [c36]; decide) (by rw [c36]; decide) (by rw [c36]; decide) (by decide) ?_
        refine lv_aload_n hx hb dL_law_587 rfl (lv_at hl 1 rfl) ?_
        obtain ⟨x24, v53, e53, h⟩ := mm_bnd2 h
        refine mm_goi hH (va_runV (As := []) (rest := []) ⟨hx, hb, C.2.2.1, C.2.2.2.1, C.2.2.2.2.1⟩ (ct_X4_fault l G T b z x e53) (cwV 0 C.2.2.2.2.1 gL_law_X4_fault rfl rfl rfl df_X4_fault ⟨Nat.le_of_ble_eq_true rfl, Nat.le_of_ble_eq_true rfl⟩) ⟨mm_B.blind, mm_recv (q := (RX4, TX4, 7)) C hH kl_0 (mm_e4 kd_0) rfl, mm_pre C hH⟩ rfl rfl hl.1 rfl (lv_room (Nat.le_of_ble_eq_true rfl)) dL_law_588 ⟨Nat.le_of_ble_eq_true rfl, Nat.le_of_ble_eq_true rfl⟩) (fun H locs hH => ?_)
        refine lv_aload_n hx hb dL_law_591 rfl (lv_at hl 2 rfl) ?_
        obtain ⟨x25, v54, e54, h⟩ := mm_bnd2 h
        refine mm_goi hH (va_runV (As := []) (rest := [.int v53]) ⟨hx, hb, C.2.2.1, C.2.2.2.1, C.2.2.2.2.1⟩ (ct_X5_fault l G T b z x24 e54) (cwV 0 C.2.2.2.2.1 gL_law_X5_fault rfl rfl rfl df_X5_fault ⟨Nat.le_of_ble_eq_true rfl, Nat.le_of_ble_eq_true rfl⟩) ⟨mm_B.blind, mm_recv (q := (RX5, TX5, 14)) C hH kl_157 (mm_e5 kd_157) rfl, mm_pre C hH⟩ rfl rfl hl.1 rfl (lv_room (Nat.le_of_ble_eq_true rfl)) dL_law_592 ⟨Nat.le_of_ble_eq_true rfl, Nat.le_of_ble_eq_true rfl⟩) (fun H locs hH => ?_)
        refine lv_icmp_eq (tgt := 672) hx hb dL_law_595 (by decide) (fun c37 => ?_) (fun c37 => ?_)
        · have h := mm_pos c37 h
          obtain ⟨v55, e55, h⟩ := mm_bnd h
          refine lv_iinc (v := v55) (lv' := [(3, .int v55), (0, .ref b0), (1, .ref (b + 0)), (2, .ref (b + 157))]) hx hb dL_law_672 hl (k := 3) rfl (Option.some.inj e55) (by decide) rfl (fun ls hl => ?_)
          refine lv_goto (tgt := 18) hx hb dL_law_675 (by decide) ?_
          exact ih v55 x25 _ _ _  h hH (lv_sub hl [1, 2, 3, 0] rfl)
        · have h := mm_neg c37 h
          have hl := lv_sub (l' := []) hl [] rfl
          refine lv_iconst (v := 0) hx hb dL_law_598 (by decide) ?_
          exact absurd (Option.some.inj h) (by decide)
      have h := mm_neg c36 h
      by_cases c38 : v1 = 18
      · have h := mm_pos c38 h
        refine lv_tableIn (off := 568) (tgt := 600) hx hb dL_law_32 (by rw [c38]; decide) (by rw [c38]; decide) (by rw [c38]; decide) (by decide) ?_
        refine lv_aload_n hx hb dL_law_600 rfl (lv_at hl 1 rfl) ?_
        obtain ⟨x26, v56, e56, h⟩ := mm_bnd2 h
        refine mm_goi hH (va_runV (As := []) (rest := []) ⟨hx, hb, C.2.2.1, C.2.2.2.1, C.2.2.2.2.1⟩ (ct_X4_carryOut l G T b z x e56) (cwV 0 C.2.2.2.2.1 gL_law_X4_carryOut rfl rfl rfl df_X4_carryOut ⟨Nat.le_of_ble_eq_true rfl, Nat.le_of_ble_eq_true rfl⟩) ⟨mm_B.blind, mm_recv (q := (RX4, TX4, 7)) C hH kl_0 (mm_e4 kd_0) rfl, mm_pre C hH⟩ rfl rfl hl.1 rfl (lv_room (Nat.le_of_ble_eq_true rfl)) dL_law_601 ⟨Nat.le_of_ble_eq_true rfl, Nat.le_of_ble_eq_true rfl⟩) (fun H locs hH => ?_)
        refine lv_aload_n hx hb dL_law_604 rfl (lv_at hl 2 rfl) ?_
        obtain ⟨x27, v57, e57, h⟩ := mm_bnd2 h
        refine mm_goi hH (va_runV (As := []) (rest := [.int v56]) ⟨hx, hb, C.2.2.1, C.2.2.2.1, C.2.2.2.2.1⟩ (ct_X5_carryOut l G T b z x26 e57) (cwV 0 C.2.2.2.2.1 gL_law_X5_carryOut rfl rfl rfl df_X5_carryOut ⟨Nat.le_of_ble_eq_true rfl, Nat.le_of_ble_eq_true rfl⟩) ⟨mm_B.blind, mm_recv (q := (RX5, TX5, 14)) C hH kl_157 (mm_e5 kd_157) rfl, mm_pre C hH⟩ rfl rfl hl.1 rfl (lv_room (Nat.le_of_ble_eq_true rfl)) dL_law_605 ⟨Nat.le_of_ble_eq_true rfl, Nat.le_of_ble_eq_true rfl⟩) (fun H locs hH => ?_)
        refine lv_icmp_eq (tgt := 672) hx hb dL_law_608 (by decide) (fun c39 => ?_) (fun c39 => ?_)
        · have h := mm_pos c39 h
          obtain ⟨v58, e58, h⟩ := mm_bnd h
          refine lv_iinc (v := v58) (lv' := [(3, .int v58), (0, .ref b0), (1, .ref (b + 0)), (2, .ref (b + 157))]) hx hb dL_law_672 hl (k := 3) rfl (Option.some.inj e58) (by decide) rfl (fun ls hl => ?_)
          refine lv_goto (tgt := 18) hx hb dL_law_675 (by decide) ?_
          exact ih v58 x27 _ _ _  h hH (lv_sub hl [1, 2, 3, 0] rfl)
        · have h := mm_neg c39 h
          have hl := lv_sub (l' := []) hl [] rfl
          refine lv_iconst (v := 0) hx hb dL_law_611 (by decide) ?_
          exact absurd (Option.some.inj h) (by decide)
      have h := mm_neg c38 h
      by_cases c40 : v1 = 19
      · have h := mm_pos c40 h
        refine lv_tableIn (off := 581) (tgt := 613) hx hb dL_law_32 (by rw [c40]; decide) (by rw [c40]; decide) (by rw [c40]; decide) (by decide) ?_
        refine lv_aload_n hx hb dL_law_613 rfl (lv_at hl 1 rfl) ?_
        obtain ⟨x28, v59, e59, h⟩ := mm_bnd2 h
        refine mm_goi hH (va_runV (As := []) (rest := []) ⟨hx, hb, C.2.2.1, C.2.2.2.1, C.2.2.2.2.1⟩ (ct_X4_undo l G T b z x e59) (cwV 0 C.2.2.2.2.1 gL_law_X4_undo rfl rfl rfl df_X4_undo ⟨Nat.le_of_ble_eq_true rfl, Nat.le_of_ble_eq_true rfl⟩) ⟨mm_B.blind, mm_recv (q := (RX4, TX4, 7)) C hH kl_0 (mm_e4 kd_0) rfl, mm_pre C hH⟩ rfl rfl hl.1 rfl (lv_room (Nat.le_of_ble_eq_true rfl)) dL_law_614 ⟨Nat.le_of_ble_eq_true rfl, Nat.le_of_ble_eq_true rfl⟩) (fun H locs hH => ?_)
        refine lv_aload_n hx hb dL_law_617 rfl (lv_at hl 2 rfl) ?_
        obtain ⟨x29, v60, e60, h⟩ := mm_bnd2 h
        refine mm_goi hH (va_runV (As := []) (rest := [.int v59]) ⟨hx, hb, C.2.2.1, C.2.2.2.1, C.2.2.2.2.1⟩ (ct_X5_undo l G T b z x28 e60) (cwV 0 C.2.2.2.2.1 gL_law_X5_undo rfl rfl rfl df_X5_undo ⟨Nat.le_of_ble_eq_true rfl, Nat.le_of_ble_eq_true rfl⟩) ⟨mm_B.blind, mm_recv (q := (RX5, TX5, 14)) C hH kl_157 (mm_e5 kd_157) rfl, mm_pre C hH⟩ rfl rfl hl.1 rfl (lv_room (Nat.le_of_ble_eq_true rfl)) dL_law_618 ⟨Nat.le_of_ble_eq_true rfl, Nat.le_of_ble_eq_true rfl⟩) (fun H locs hH => ?_)
        refine lv_icmp_eq (tgt := 672) hx hb dL_law_621 (by decide) (fun c41 => ?_) (fun c41 => ?_)
        · have h := mm_pos c41 h
          obtain ⟨v61, e61, h⟩ := mm_bnd h
          refine lv_iinc (v := v61) (lv' := [(3, .int v61), (0, .ref b0), (1, .ref (b + 0)), (2, .ref (b + 157))]) hx hb dL_law_672 hl (k := 3) rfl (Option.some.inj e61) (by decide) rfl (fun ls hl => ?_)
          refine lv_goto (tgt := 18) hx hb dL_law_675 (by decide) ?_
          exact ih v61 x29 _ _ _  h hH (lv_sub hl [1, 2, 3, 0] rfl)
        · have h := mm_neg c41 h
          have hl := lv_sub (l' := []) hl [] rfl
          refine lv_iconst (v := 0) hx hb dL_law_624 (by decide) ?_
          exact absurd (Option.some.inj h) (by decide)
      have h := mm_neg c40 h
      by_cases c42 : v1 = 20
      · have h := mm_pos c42 h
        refine lv_tableIn (off := 594) (tgt := 626) hx hb dL_law_32 (by rw [c42]; decide) (by rw [c42]; decide) (by rw [c42]; decide) (by decide) ?_
        refine lv_aload_n hx hb dL_law_626 rfl (lv_at hl 1 rfl) ?_
        refine lv_aload_n hx hb dL_law_627 rfl (lv_at hl 0 rfl) ?_
        refine lv_iload_n hx hb dL_law_628 rfl (lv_at hl 3 rfl) ?_
        refine lv_iconst (v := 1) hx hb dL_law_629 (by decide) ?_
        refine lv_iadd hx hb dL_law_630 ?_
        obtain ⟨g44, h⟩ := mm_grn h
        refine va_sld hx hb hX hbl hbA hH.2 g44 dL_law_631 ?_
        obtain ⟨x30, v62, e62, h⟩ := mm_bnd2 h
        refine mm_goi hH (va_runV (As := [.int (xs (Int32.toNatClampNeg (i3 + 1)))]) (rest := []) ⟨hx, hb, C.2.2.1, C.2.2.2.1, C.2.2.2.2.1⟩ (ct_X4_save l G T b z (xs (Int32.toNatClampNeg (i3 + 1))) x e62) (cwV 1 C.2.2.2.2.1 gL_law_X4_save rfl rfl rfl df_X4_save ⟨Nat.le_of_ble_eq_true rfl, Nat.le_of_ble_eq_true rfl⟩) ⟨mm_B.blind, mm_recv (q := (RX4, TX4, 7)) C hH kl_0 (mm_e4 kd_0) rfl, mm_pre C hH⟩ rfl rfl hl.1 rfl (lv_room (Nat.le_of_ble_eq_true rfl)) dL_law_632 ⟨Nat.le_of_ble_eq_true rfl, Nat.le_of_ble_eq_true rfl⟩) (fun H locs hH => ?_)
        refine lv_aload_n hx hb dL_law_635 rfl (lv_at hl 2 rfl) ?_
        refine lv_aload_n hx hb dL_law_636 rfl (lv_at hl 0 rfl) ?_
        refine lv_iload_n hx hb dL_law_637 rfl (lv_at hl 3 rfl) ?_
        refine lv_iconst (v := 1) hx hb dL_law_638 (by decide) ?_
        refine lv_iadd hx hb dL_law_639 ?_
        obtain ⟨g45, h⟩ := mm_grn h
        refine va_sld hx hb hX hbl hbA hH.2 g45 dL_law_640 ?_
        obtain ⟨x31, v63, e63, h⟩ := mm_bnd2 h
        refine mm_goi hH (va_runV (As := [.int (xs (Int32.toNatClampNeg (i3 + 1)))]) (rest := [.int v62]) ⟨hx, hb, C.2.2.1, C.2.2.2.1, C.2.2.2.2.1⟩ (ct_X5_save l G T b z (xs (Int32.toNatClampNeg (i3 + 1))) x30 e63) (cwV 1 C.2.2.2.2.1 gL_law_X5_save rfl rfl rfl df_X5_save ⟨Nat.le_of_ble_eq_true rfl, Nat.le_of_ble_eq_true rfl⟩) ⟨mm_B.blind, mm_recv (q := (RX5, TX5, 14)) C hH kl_157 (mm_e5 kd_157) rfl, mm_pre C hH⟩ rfl rfl hl.1 rfl (lv_room (Nat.le_of_ble_eq_true rfl)) dL_law_641 ⟨Nat.le_of_ble_eq_true rfl, Nat.le_of_ble_eq_true rfl⟩) (fun H locs hH => ?_)
        refine lv_icmp_eq (tgt := 672) hx hb dL_law_644 (by decide) (fun c43 => ?_) (fun c43 => ?_)
        · have h := mm_pos c43 h
          obtain ⟨v64, e64, h⟩ := mm_bnd h
          refine lv_iinc (v := v64) (lv' := [(3, .int v64), (0, .ref b0), (1, .ref (b + 0)), (2, .ref (b + 157))]) hx hb dL_law_672 hl (k := 3) rfl (Option.some.inj e64) (by decide) rfl (fun ls hl => ?_)
          refine lv_goto (tgt := 18) hx hb dL_law_675 (by decide) ?_
          exact ih v64 x31 _ _ _  h hH (lv_sub hl [1, 2, 3, 0] rfl)
        · have h := mm_neg c43 h
          have hl := lv_sub (l' := []) hl [] rfl
          refine lv_iconst (v := 0) hx hb dL_law_647 (by decide) ?_
          exact absurd (Option.some.inj h) (by decide)
      have h := mm_neg c42 h
      by_cases c44 : v1 = 21
      · have h := mm_pos c44 h
        refine lv_tableIn (off := 617) (tgt := 649) hx hb dL_law_32 (by rw [c44]; decide) (by rw [c44]; decide) (by rw [c44]; decide) (by decide) ?_
        refine lv_aload_n hx hb dL_law_649 rfl (lv_at hl 1 rfl) ?_
        refine lv_aload_n hx hb dL_law_650 rfl (lv_at hl 0 rfl) ?_
        refine lv_iload_n hx hb dL_law_651 rfl (lv_at hl 3 rfl) ?_
        refine lv_iconst (v := 1) hx hb dL_law_652 (by decide) ?_
        refine lv_iadd hx hb dL_law_653 ?_
        obtain ⟨g46, h⟩ := mm_grn h
        refine va_sld hx hb hX hbl hbA hH.2 g46 dL_law_654 ?_
        obtain ⟨x32, v65, e65, h⟩ := mm_bnd2 h
        refine mm_goi hH (va_runV (As := [.int (xs (Int32.toNatClampNeg (i3 + 1)))]) (rest := []) ⟨hx, hb, C.2.2.1, C.2.2.2.1, C.2.2.2.2.1⟩ (ct_X4_restore l G T b z (xs (Int32.toNatClampNeg (i3 + 1))) x e65) (cwV 1 C.2.2.2.2.1 gL_law_X4_restore rfl rfl rfl df_X4_restore ⟨Nat.le_of_ble_eq_true rfl, Nat.le_of_ble_eq_true rfl⟩) ⟨mm_B.blind, mm_recv (q := (RX4, TX4, 7)) C hH kl_0 (mm_e4 kd_0) rfl, mm_pre C hH⟩ rfl rfl hl.1 rfl (lv_room (Nat.le_of_ble_eq_true rfl)) dL_law_655 ⟨Nat.le_of_ble_eq_true rfl, Nat.le_of_ble_eq_true rfl⟩) (fun H locs hH => ?_)
        refine lv_aload_n hx hb dL_law_658 rfl (lv_at hl 2 rfl) ?_
        refine lv_aload_n hx hb dL_law_659 rfl (lv_at hl 0 rfl) ?_
        refine lv_iload_n hx hb dL_law_660 rfl (lv_at hl 3 rfl) ?_
        refine lv_iconst (v := 1) hx hb dL_law_661 (by decide) ?_
        refine lv_iadd hx hb dL_law_662 ?_
        obtain ⟨g47, h⟩ := mm_grn h
        refine va_sld hx hb hX hbl hbA hH.2 g47 dL_law_663 ?_
        obtain ⟨x33, v66, e66, h⟩ := mm_bnd2 h
        refine mm_goi hH (va_runV (As := [.int (xs (Int32.toNatClampNeg (i3 + 1)))]) (rest := [.int v65]) ⟨hx, hb, C.2.2.1, C.2.2.2.1, C.2.2.2.2.1⟩ (ct_X5_restore l G T b z (xs (Int32.toNatClampNeg (i3 + 1))) x32 e66) (cwV 1 C.2.2.2.2.1 gL_law_X5_restore rfl rfl rfl df_X5_restore ⟨Nat.le_of_ble_eq_true rfl, Nat.le_of_ble_eq_true rfl⟩) ⟨mm_B.blind, mm_recv (q := (RX5, TX5, 14)) C hH kl_157 (mm_e5 kd_157) rfl, mm_pre C hH⟩ rfl rfl hl.1 rfl (lv_room (Nat.le_of_ble_eq_true rfl)) dL_law_664 ⟨Nat.le_of_ble_eq_true rfl, Nat.le_of_ble_eq_true rfl⟩) (fun H locs hH => ?_)
        refine lv_icmp_eq (tgt := 672) hx hb dL_law_667 (by decide) (fun c45 => ?_) (fun c45 => ?_)
        · have h := mm_pos c45 h
          obtain ⟨v67, e67, h⟩ := mm_bnd h
          refine lv_iinc (v := v67) (lv' := [(3, .int v67), (0, .ref b0), (1, .ref (b + 0)), (2, .ref (b + 157))]) hx hb dL_law_672 hl (k := 3) rfl (Option.some.inj e67) (by decide) rfl (fun ls hl => ?_)
          refine lv_goto (tgt := 18) hx hb dL_law_675 (by decide) ?_
          exact ih v67 x33 _ _ _  h hH (lv_sub hl [1, 2, 3, 0] rfl)
        · have h := mm_neg c45 h
          have hl := lv_sub (l' := []) hl [] rfl
          refine lv_iconst (v := 0) hx hb dL_law_670 (by decide) ?_
          exact absurd (Option.some.inj h) (by decide)
      have h := mm_neg c44 h
      have nc2 := mm_tn (a := 0) c2 (by decide)
      have nc4 := mm_tn (a := 1) c4 (by decide)
      have nc6 := mm_tn (a := 2) c6 (by decide)
      have nc8 := mm_tn (a := 3) c8 (by decide)
      have nc10 := mm_tn (a := 4) c10 (by decide)
      have nc12 := mm_tn (a := 5) c12 (by decide)
      have nc14 := mm_tn (a := 6) c14 (by decide)
      have nc16 := mm_tn (a := 7) c16 (by decide)
      have nc18 := mm_tn (a := 8) c18 (by decide)
      have nc20 := mm_tn (a := 9) c20 (by decide)
      have nc22 := mm_tn (a := 10) c22 (by decide)
      have nc24 := mm_tn (a := 11) c24 (by decide)
      have nc26 := mm_tn (a := 12) c26 (by decide)
      have nc28 := mm_tn (a := 13) c28 (by decide)
      have nc30 := mm_tn (a := 14) c30 (by decide)
      have nc32 := mm_tn (a := 15) c32 (by decide)
      have nc34 := mm_tn (a := 16) c34 (by decide)
      have nc36 := mm_tn (a := 17) c36 (by decide)
      have nc38 := mm_tn (a := 18) c38 (by decide)
      have nc40 := mm_tn (a := 19) c40 (by decide)
      have nc42 := mm_tn (a := 20) c42 (by decide)
      have nc44 := mm_tn (a := 21) c44 (by decide)
      refine lv_tableOut (tgt := 672) hx hb dL_law_32 (by omega) (by decide) ?_
      obtain ⟨v68, e68, h⟩ := mm_bnd h
      refine lv_iinc (v := v68) (lv' := [(3, .int v68), (0, .ref b0), (1, .ref (b + 0)), (2, .ref (b + 157))]) hx hb dL_law_672 hl (k := 3) rfl (Option.some.inj e68) (by decide) rfl (fun ls hl => ?_)
      refine lv_goto (tgt := 18) hx hb dL_law_675 (by decide) ?_
      exact ih v68 x _ _ _  h hH (lv_sub hl [1, 2, 3, 0] rfl)
