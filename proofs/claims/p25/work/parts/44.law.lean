/-! THE SCRIPT'S CELLS, AND WHAT IS TOLD -/
def fn_L_cell (L : Nat) (xs : Nat → Int32) (a1 : Int32) : Option Int32 := if Int32.ofNat L ≤ a1 then some ((16110029 : Int32) * a1 + 18313) else if a1 < 0 ∨ L ≤ a1.toNatClampNeg then none else some (xs a1.toNatClampNeg)
abbrev rm_L_cell : Room := { frames := 0, cells := 0, slots := 0, locals := 0 }
theorem df_L_cell : yL_cell.cls = RL ∧ yL_cell.cls ≠ "java/lang/invoke/MethodHandle" ∧ yL_cell.cls ≠ "java/lang/invoke/VarHandle" ∧ (parseMethodDescriptor yL_cell.desc).map (fun d => d.parameters.length) = some 2 := by decide +kernel
theorem ct_L_cell (l : Launch) (G : va_G) (T : Nat → ClassId) (b : Nat) (z : Nat → Nat) (b0 L : Nat) (xs : Nat → Int32) (a1 : Int32) (x : mm_M) {r : Int32} (h : fn_L_cell L xs a1 = some r) : Met l yL_cell wsL_cell rm_L_cell (va_Pc [.ref b0, .int a1] (mm_BX G T b z b0 L xs x)) (mm_Qi G T b r x) 0 0 (mm_A b) := by
  unfold fn_L_cell at h
  refine Met.ofW (cc := cL_cell) (maxL := 2) (ret := some .int) (by decide) rfl ?_
  intro p e s m args below meth c s₁ B hml hv
  obtain ⟨rfl, ⟨hP, hK, hZ, hN⟩, hX, hb0, hbl⟩ := hv
  have hts := atoms_spec (ws := wsL_cell) B.pre
  have hown : s.vm.findClass yL_cell.cls = some m.cls := findClass_of_methodNamed B.named
  have C : mm_C p m c cL_cell 2 s #[.ref b0, .int a1] wsL_cell RL G T b z := ⟨B.exec, B.bytes, hml, hown, hts, hK, hZ, hN⟩
  have hH : mm_H G T b x s s.heap [] := ⟨hP, va_S.rf⟩
  have hx := C.1
  have hb := C.2.1
  have hr := B.returns
  have hlk := B.notSynchronized
  have hbA : ¬ mm_A b b0 := fun q => by have := q.1; omega
  have w1 := C.2.2.2.2.1 (.constant RL 7 (16110029)) (by decide +kernel)
  rw [lg_entry_eq]
  have hl := lv_entry ([.ref b0, .int a1]) (n := 2) (Nat.le_of_ble_eq_true rfl)
  generalize (lg_sl ([.ref b0, .int a1]) ++ List.replicate (2 - (lg_sl ([.ref b0, .int a1])).length) Slot.unset).toArray = ls at hl ⊢
  have hl : lv_has ls 2 [(0, .ref b0), (1, .int a1)] := hl
  refine lv_iload_n hx hb dL_cell_0 rfl (lv_at hl 1 rfl) ?_
  refine lv_aload_n hx hb dL_cell_1 rfl (lv_at hl 0 rfl) ?_
  refine va_slen hx hb hX hbl hbA hH.2 dL_cell_2 ?_
  refine lv_icmp_ge (tgt := 12) hx hb dL_cell_3 (by decide) (fun c1 => ?_) (fun c1 => ?_)
  · have h := mm_pos c1 h
    refine lv_ldc (own := RL) (v := 16110029) hx hb C.2.2.2.1 w1 dL_cell_12 ?_
    refine lv_iload_n hx hb dL_cell_14 rfl (lv_at hl 1 rfl) ?_
    refine lv_imul hx hb dL_cell_15 ?_
    refine lv_sipush (v := 18313) hx hb dL_cell_16 (by decide) ?_
    refine lv_iadd hx hb dL_cell_19 ?_
    exact mm_iretP C hH hr hlk rfl h dL_cell_20
  · have h := mm_neg c1 h
    obtain ⟨g1, h⟩ := mm_grn h
    refine lv_aload_n hx hb dL_cell_6 rfl (lv_at hl 0 rfl) ?_
    refine lv_iload_n hx hb dL_cell_7 rfl (lv_at hl 1 rfl) ?_
    refine va_sld hx hb hX hbl hbA hH.2 g1 dL_cell_8 ?_
    refine lv_goto (tgt := 20) hx hb dL_cell_9 (by decide) ?_
    exact mm_iretP C hH hr hlk rfl h dL_cell_20
def fn_L_told_7 : Nat → Int32 → (Nat → Int32) → mm_M → Option (Nat → Int32)
  | 0, _, _, _ => none
  | n + 1, i2, dd, x => (fn_X4_count 1 x).bind fun v1 => if ((8 : Int32) * v1) ≤ i2 then some dd else (fn_X4_of (i2 / 8) (i2 - i2 / 8 * 8) x).bind fun v2 => if i2 < 0 ∨ 64 ≤ Int32.toNatClampNeg i2 then none else (some (i2 + 1)).bind fun v3 => fn_L_told_7 n v3 (upd dd (Int32.toNatClampNeg i2) v2) x
def fn_L_told (x : mm_M) : Option (Nat → Int32) := fn_L_told_7 65 0 (fun _ => 0) x
abbrev rm_L_told : Room := { frames := 3, cells := 1, slots := 64, locals := 64 }
theorem df_L_told : yL_told.cls = RL ∧ yL_told.cls ≠ "java/lang/invoke/MethodHandle" ∧ yL_told.cls ≠ "java/lang/invoke/VarHandle" ∧ (parseMethodDescriptor yL_told.desc).map (fun d => d.parameters.length) = some 1 := by decide +kernel
set_option maxRecDepth 100000 in
set_option maxHeartbeats 4000000 in
theorem lp_L_told_7 {p : Program} {l : Launch} {e : Env} {s : State} {m : MethodId} {args : Array Value} {below : List Frame} {meth : Method} {c : Code} {G : va_G} {T : Nat → ClassId} {b nn : Nat} {z : Nat → Nat} (C : mm_C p m c cL_told 3 s args wsL_told RL G T b z) (hr : meth.sig.returnType = some (.array .int)) (hlk : meth.locks = false) (hA : mm_AA (mm_A2 b nn) b) {ad : Nat} (hAd : mm_A2 b nn ad) : ∀ (n : Nat) (i2 : Int32) (dd : Nat → Int32) (x : mm_M) (H : Heap) (locs : List Loc) (ls : Array Slot) (r : Nat → Int32), fn_L_told_7 n i2 dd x = some r → mm_D (mm_A2 b nn) G T b x ad dd s H locs → lv_has ls 3 [(0, .ref (b + 0)), (1, .ref ad), (2, .int i2)] → W p l e rm_L_told s m args below meth c H locs 1 64 (MQ below (mm_Qd G T b nn x r) args s 1 64 (mm_A2 b nn)) (F0 m 7 ls []) := by
  have hx := C.1
  have hb := C.2.1
  intro n
  induction n with
  | zero => intro _ _ _ _ _ _ _ h; cases (show (none : Option (Nat → Int32)) = some _ from h)
  | succ n ih =>
    intro i2 dd x H locs ls r h hH hl
    rw [fn_L_told_7] at h
    refine lv_iload_n hx hb dL_told_7 rfl (lv_at hl 2 rfl) ?_
    refine lv_bipush (v := 8) hx hb dL_told_8 (by decide) ?_
    refine lv_aload_n hx hb dL_told_10 rfl (lv_at hl 0 rfl) ?_
    refine lv_iconst (v := 1) hx hb dL_told_11 (by decide) ?_
    obtain ⟨v1, e1, h⟩ := mm_bnd h
    refine md_goi hH hA (va_runV (As := [.int 1]) (rest := [.int 8, .int i2]) ⟨hx, hb, C.2.2.1, C.2.2.2.1, C.2.2.2.2.1⟩ (ct_X4_count l G T b z 1 x e1) (cwV 1 C.2.2.2.2.1 gL_told_X4_count rfl rfl rfl df_X4_count ⟨Nat.le_of_ble_eq_true rfl, Nat.le_of_ble_eq_true rfl⟩) ⟨mm_B.blind, mm_recvL (q := (RX4, TX4, 7)) C hH.1 kl_0 (mm_e4 kd_0) rfl, mm_preL C hH.1 hA⟩ rfl rfl hl.1 rfl (lv_room (Nat.le_of_ble_eq_true rfl)) dL_told_12 ⟨Nat.le_of_ble_eq_true rfl, Nat.le_of_ble_eq_true rfl⟩) (fun H locs hH => ?_)
    refine lv_imul hx hb dL_told_15 ?_
    refine lv_icmp_ge (tgt := 40) hx hb dL_told_16 (by decide) (fun c1 => ?_) (fun c1 => ?_)
    · have h := mm_pos c1 h
      cases h
      refine lv_aload_n hx hb dL_told_40 rfl (lv_at hl 1 rfl) ?_
      exact md_aret C hH hr (Or.inr ⟨_, rfl⟩) hlk dL_told_41
    · have h := mm_neg c1 h
      refine lv_aload_n hx hb dL_told_19 rfl (lv_at hl 1 rfl) ?_
      refine lv_iload_n hx hb dL_told_20 rfl (lv_at hl 2 rfl) ?_
      refine lv_aload_n hx hb dL_told_21 rfl (lv_at hl 0 rfl) ?_
      refine lv_iload_n hx hb dL_told_22 rfl (lv_at hl 2 rfl) ?_
      refine lv_bipush (v := 8) hx hb dL_told_23 (by decide) ?_
      refine lv_idiv hx hb dL_told_25 (by decide) ?_
      refine lv_iload_n hx hb dL_told_26 rfl (lv_at hl 2 rfl) ?_
      refine lv_bipush (v := 8) hx hb dL_told_27 (by decide) ?_
      refine lv_irem hx hb dL_told_29 (by decide) ?_
      obtain ⟨v2, e2, h⟩ := mm_bnd h
      refine md_goi hH hA (va_runV (As := [.int (i2 / 8), .int (i2 - i2 / 8 * 8)]) (rest := [.int i2, .ref ad]) ⟨hx, hb, C.2.2.1, C.2.2.2.1, C.2.2.2.2.1⟩ (ct_X4_of l G T b z (i2 / 8) (i2 - i2 / 8 * 8) x e2) (cwV 2 C.2.2.2.2.1 gL_told_X4_of rfl rfl rfl df_X4_of ⟨Nat.le_of_ble_eq_true rfl, Nat.le_of_ble_eq_true rfl⟩) ⟨mm_B.blind, mm_recvL (q := (RX4, TX4, 7)) C hH.1 kl_0 (mm_e4 kd_0) rfl, mm_preL C hH.1 hA⟩ rfl rfl hl.1 rfl (lv_room (Nat.le_of_ble_eq_true rfl)) dL_told_30 ⟨Nat.le_of_ble_eq_true rfl, Nat.le_of_ble_eq_true rfl⟩) (fun H locs hH => ?_)
      obtain ⟨g1, h⟩ := mm_grn h
      refine md_iast C hH hA hAd g1 dL_told_33 (fun H locs hH => ?_)
      obtain ⟨v3, e3, h⟩ := mm_bnd h
      refine lv_iinc (v := v3) (lv' := [(2, .int v3), (0, .ref (b + 0)), (1, .ref ad)]) hx hb dL_told_34 hl (k := 2) rfl (Option.some.inj e3) (by decide) rfl (fun ls hl => ?_)
      refine lv_goto (tgt := 7) hx hb dL_told_37 (by decide) ?_
      exact ih v3 _ x _ _ _ r h hH (lv_sub hl [1, 2, 0] rfl)
set_option maxRecDepth 100000 in
theorem ct_L_told (l : Launch) (G : va_G) (T : Nat → ClassId) (b : Nat) (z : Nat → Nat) (nn : Nat) (x : mm_M) {r : Nat → Int32} (h : fn_L_told x = some r) : mm_CdN l yL_told wsL_told rm_L_told G T b z nn [.ref (b + 0)] x r := by
  unfold fn_L_told at h
  refine mn_start (cc := cL_told) (maxL := 3) (ret := some (.array .int)) (by decide) rfl (Nat.le_of_ble_eq_true rfl) (fun p e s m below meth c ls C hr hlk hs hbn hH hl => ?_)
  have hl : lv_has ls 3 [(0, .ref (b + 0))] := hl
  have hx := C.1
  have hb := C.2.1
  have hA := mm_AA2 hbn
  have w1 := C.2.2.2.2.1 (.arrayClass .int) (by decide +kernel)
  refine lv_bipush (v := 64) hx hb dL_told_0 (by decide) ?_
  refine md_newa C hH hA (fun q h => Or.inr (by omega)) w1 (Nat.le_of_ble_eq_true rfl) (Nat.le_of_ble_eq_true rfl) dL_told_2 (fun ad H hAd hH => ?_)
  refine lv_astore_n (lv' := [(1, .ref ad), (0, .ref (b + 0))]) hx hb dL_told_4 rfl hl (by decide) rfl (fun ls hl => ?_)
  refine lv_iconst (v := 0) hx hb dL_told_5 (by decide) ?_
  refine lv_istore_n (lv' := [(2, .int 0), (1, .ref ad), (0, .ref (b + 0))]) hx hb dL_told_6 rfl hl (by decide) rfl (fun ls hl => ?_)
  exact lp_L_told_7 C hr hlk hA hAd 65 0 (fun _ => 0) x _ _ _ r h hH (lv_sub hl [2, 1, 0] rfl)
