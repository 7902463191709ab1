def mm_x0 : mm_M := fun k j => if mm_kd k = 3 then (if j = 4 then -6 else 0) else if mm_kd k = 6 ∧ mm_ln k = 7 then mm_st 2 j else if k = 16 then nI (22 + 15 * j) else if k = 19 then (if j = 3 then 32 else 0) else 0
theorem x0_riv {k : Nat} (h : mm_kd k = 3) : mm_x0 k = fun j => if j = 4 then -6 else 0 := by funext j; simp [mm_x0, h]
theorem x0_set {k : Nat} (h : mm_kd k = 6) (h2 : mm_ln k = 7) : mm_x0 k = mm_st 2 := by funext j; simp [mm_x0, h, h2]
theorem x0_jar {k : Nat} (h : mm_kd k = 6) (h2 : mm_ln k = 20) : mm_x0 k = fun _ => 0 := by
  funext j
  have h3 : k ≠ 16 := by intro q; subst q; revert h; decide
  have h5 : k ≠ 19 := by intro q; subst q; revert h; decide
  simp [mm_x0, h, h2, h3, h5]
theorem x0_jou {k : Nat} (h : mm_kd k = 0) : mm_x0 k = fun _ => 0 := by
  funext j
  have h3 : k ≠ 16 := by intro q; subst q; revert h; decide
  have h5 : k ≠ 19 := by intro q; subst q; revert h; decide
  simp [mm_x0, h, h3, h5]
theorem x0_lan {k : Nat} (h : mm_kd k = 1) : mm_x0 k = fun _ => 0 := by
  funext j
  have h3 : k ≠ 16 := by intro q; subst q; revert h; decide
  have h5 : k ≠ 19 := by intro q; subst q; revert h; decide
  simp [mm_x0, h, h3, h5]
theorem mm_rvl {k j : Nat} (hk : mm_kd k = 3) (hj : j < 8) : mm_kd (k + (7 + j)) = 1 := by
  have key : ∀ k, k < 157 → mm_kd k = 3 → ∀ j, j < 8 → mm_kd (k + (7 + j)) = 1 := by decide +kernel
  exact key k (mm_lt hk (by decide)) hk j hj
def mf_0 (T : Nat → ClassId) (b : Nat) (f : Nat → va_E) (k n : Nat) : Nat → va_E := fun j => if j = k then .inr (0, [.ref (b + n), .ref (b + (n + 1)), .ref (b + (n + 2)), .int 0, .int 0]) else if n ≤ j then .inl (T 0, 20, .inl (fun _ => 0)) else f j
def mf_2 (T : Nat → ClassId) (b : Nat) (f : Nat → va_E) (k n : Nat) : Nat → va_E := fun j => if j = k then .inr (2, [.ref (b + n), .int 0, .int 0, .int 32, .int 0, .int 0]) else if n ≤ j then .inl (T 1, 80, .inl (fun _ => 0)) else f j
def mf_3 (T : Nat → ClassId) (b : Nat) (f : Nat → va_E) (k : Nat) : Nat → va_E := fun j => if j < k then f j else mm_ent T b mm_x0 j
section MF
variable {T : Nat → ClassId} {b k n j : Nat} {f f1 : Nat → va_E}
theorem mf0_k (h : mf_0 T b f k n = f1) : f1 k = .inr (0, [.ref (b + n), .ref (b + (n + 1)), .ref (b + (n + 2)), .int 0, .int 0]) := by subst h; exact if_pos rfl
theorem mf0_n (h : mf_0 T b f k n = f1) (h1 : j ≠ k) (h2 : n ≤ j) : f1 j = .inl (T 0, 20, .inl (fun _ => 0)) := by subst h; exact (if_neg h1).trans (if_pos h2)
theorem mf0_o (h : mf_0 T b f k n = f1) (h1 : j ≠ k) (h2 : j < n) : f1 j = f j := by subst h; exact (if_neg h1).trans (if_neg (by omega))
theorem mf2_k (h : mf_2 T b f k n = f1) : f1 k = .inr (2, [.ref (b + n), .int 0, .int 0, .int 32, .int 0, .int 0]) := by subst h; exact if_pos rfl
theorem mf2_n (h : mf_2 T b f k n = f1) (h1 : j ≠ k) (h2 : n ≤ j) : f1 j = .inl (T 1, 80, .inl (fun _ => 0)) := by subst h; exact (if_neg h1).trans (if_pos h2)
theorem mf2_o (h : mf_2 T b f k n = f1) (h1 : j ≠ k) (h2 : j < n) : f1 j = f j := by subst h; exact (if_neg h1).trans (if_neg (by omega))
theorem mf3_n (h : mf_3 T b f k = f1) (h2 : k ≤ j) : f1 j = mm_ent T b mm_x0 j := by subst h; exact if_neg (by omega)
theorem mf3_o (h : mf_3 T b f k = f1) (h2 : j < k) : f1 j = f j := by subst h; exact if_pos h2
end MF
theorem kr_1 : mm_kd 1 = 3 := by decide
theorem kr_22 : mm_kd 22 = 3 := by decide
theorem kr_37 : mm_kd 37 = 3 := by decide
theorem kr_52 : mm_kd 52 = 3 := by decide
theorem kr_67 : mm_kd 67 = 3 := by decide
theorem kr_82 : mm_kd 82 = 3 := by decide
theorem kr_97 : mm_kd 97 = 3 := by decide
theorem kr_112 : mm_kd 112 = 3 := by decide
theorem kr_127 : mm_kd 127 = 3 := by decide
theorem kr_142 : mm_kd 142 = 3 := by decide
abbrev rm_X1_init : Room := { frames := 1, cells := 0, slots := 0, locals := 12 }
theorem df_X1_init : yX1_init.cls = RX1 ∧ yX1_init.cls ≠ "java/lang/invoke/MethodHandle" ∧ yX1_init.cls ≠ "java/lang/invoke/VarHandle" ∧ (parseMethodDescriptor yX1_init.desc).map (fun d => d.parameters.length) = some 0 := by decide +kernel
set_option maxRecDepth 100000 in
set_option maxHeartbeats 8000000 in
theorem co_X1_init (l : Launch) (G : va_G) (T : Nat → ClassId) (b : Nat) (z : Nat → Nat) (k n : Nat) (f : Nat → va_E)  : mm_Co l yX1_init wsX1_init rm_X1_init G T b z [.ref (b + k)] n f n f 0 0 := by
  refine mo_start (cc := cX1_init) (maxL := 1) (by decide) rfl rfl (Nat.le_of_ble_eq_true rfl) (fun p e s m below meth c ls E hr hlk hi0 hO hl => ?_)
  have hl : lv_has ls 1 [(0, .ref (b + k))] := hl
  have hx := E.1.1
  have hb := E.1.2.1
  have w1 := E.1.2.2.2.2.1 (.methodLink RX1 3 objectInit) (by decide +kernel)
  have w2 := E.1.2.2.2.2.1 (.instanceMethod objectInit) (by decide +kernel)
  have w3 := E.1.2.2.2.2.1 (.code objectInit ⟨#[0xb1]⟩ 1 none) (by decide +kernel)
  refine lv_aload_n hx hb dX1_init_0 rfl (lv_at hl 0 rfl) ?_
  refine W.objInit hx hb E.1.2.2.2.1 w1 w2 w3 rfl (by rw [E.1.2.2.1]; exact hl.1) rfl dX1_init_1 (Nat.le_of_ble_eq_true rfl) (Nat.le_of_ble_eq_true rfl) ?_
  refine W.eq (g2 := F0 m 4 ls []) rfl ?_
  refine mo_ret E hO (by omega) rfl ?_ hr hlk dX1_init_4
  exact fun _ _ h => h
abbrev rm_X0_init : Room := { frames := 1, cells := 3, slots := 60, locals := 12 }
theorem df_X0_init : yX0_init.cls = RX0 ∧ yX0_init.cls ≠ "java/lang/invoke/MethodHandle" ∧ yX0_init.cls ≠ "java/lang/invoke/VarHandle" ∧ (parseMethodDescriptor yX0_init.desc).map (fun d => d.parameters.length) = some 0 := by decide +kernel
set_option maxRecDepth 100000 in
set_option maxHeartbeats 8000000 in
theorem co_X0_init (l : Launch) (G : va_G) (T : Nat → ClassId) (b : Nat) (z : Nat → Nat) (k n : Nat) (f : Nat → va_E) {f1 : Nat → va_E} (hkn : k < n) (hk0 : f k = .inr (0, [.null, .null, .null, .int 0, .int 0])) (hf : mf_0 T b f k n = f1) : mm_Co l yX0_init wsX0_init rm_X0_init G T b z [.ref (b + k)] n f (n + 3) f1 3 60 := by
  refine mo_start (cc := cX0_init) (maxL := 1) (by decide) rfl rfl (Nat.le_of_ble_eq_true rfl) (fun p e s m below meth c ls E hr hlk hi0 hO hl => ?_)
  have hl : lv_has ls 1 [(0, .ref (b + k))] := hl
  have hx := E.1.1
  have hb := E.1.2.1
  have w1 := E.1.2.2.2.2.1 (.methodLink RX0 3 objectInit) (by decide +kernel)
  have w2 := E.1.2.2.2.2.1 (.instanceMethod objectInit) (by decide +kernel)
  have w3 := E.1.2.2.2.2.1 (.code objectInit ⟨#[0xb1]⟩ 1 none) (by decide +kernel)
  have w4 := E.1.2.2.2.2.1 (.arrayClass .int) (by decide +kernel)
  have w5 := E.1.2.2.2.2.1 (.fieldLink RX0 9 "LandingFines$Journal" "sorts" "[I") (by decide +kernel)
  have w6 := E.1.2.2.2.2.1 (.fieldLink RX0 15 "LandingFines$Journal" "places" "[I") (by decide +kernel)
  have w7 := E.1.2.2.2.2.1 (.fieldLink RX0 18 "LandingFines$Journal" "minutes" "[I") (by decide +kernel)
  have w8 := E.1.2.2.2.2.1 (.fieldLink RX0 21 "LandingFines$Journal" "size" "I") (by decide +kernel)
  have w9 := E.1.2.2.2.2.1 (.fieldLink RX0 25 "LandingFines$Journal" "next" "I") (by decide +kernel)
  have hin0 : ∀ w ∈ wsX00, w ∈ wsX0_init := by decide +kernel
  have o0_0 : ∀ j, j ≠ k ∧ j < n → f j = f j := fun _ _ => rfl
  refine lv_aload_n hx hb dX0_init_0 rfl (lv_at hl 0 rfl) ?_
  refine W.objInit hx hb E.1.2.2.2.1 w1 w2 w3 rfl (by rw [E.1.2.2.1]; exact hl.1) rfl dX0_init_1 (Nat.le_of_ble_eq_true rfl) (Nat.le_of_ble_eq_true rfl) ?_
  refine W.eq (g2 := F0 m 4 ls []) rfl ?_
  refine lv_aload_n hx hb dX0_init_4 rfl (lv_at hl 0 rfl) ?_
  refine lv_bipush (v := 20) hx hb dX0_init_5 (by decide) ?_
  obtain ⟨f1, e1⟩ : ∃ y, va_up f n (.inl (T 0, 20, .inl (fun _ => 0)) : va_E) = y := ⟨_, rfl⟩
  refine mo_newa (atype := .int) (ty := .int) (N' := 20) (a0 := (20, .inl (fun _ => 0))) 0 E hO (by omega) w4 rfl rfl (fun _ => rfl) (by decide) (by decide) (by decide) (Nat.le_of_ble_eq_true rfl) (Nat.le_of_ble_eq_true rfl) e1 dX0_init_7 (fun H hO => ?_)
  have c1_8 := (mm_upn e1 (show k ≠ n by omega)).trans hk0
  have c1_9 := mm_ups e1
  have o1_0 : ∀ j, j ≠ k ∧ j < n → f1 j = f j := fun j hj => (mm_upn e1 (by omega)).trans (o0_0 j hj)
  obtain ⟨f2, e2⟩ : ∃ y, va_up f1 k (.inr (0, [.ref (b + n), .null, .null, .int 0, .int 0]) : va_E) = y := ⟨_, rfl⟩
  refine mo_putF (ty := .array .int) E hO hi0 rfl hin0 tyX0_ok nmX0 rfl (show k < _ by omega) c1_8 (j := 0) (by decide) rfl w5 (by decide +kernel) rfl rfl (Nat.le_of_ble_eq_true rfl) e2 dX0_init_9 (fun H locs hO => ?_)
  have c2_13 := (mm_upn e2 (show n ≠ k by omega)).trans c1_9
  have c2_14 := mm_ups e2
  have o2_0 : ∀ j, j ≠ k ∧ j < n → f2 j = f j := fun j hj => (mm_upn e2 (by omega)).trans (o1_0 j hj)
  refine lv_aload_n hx hb dX0_init_12 rfl (lv_at hl 0 rfl) ?_
  refine lv_bipush (v := 20) hx hb dX0_init_13 (by decide) ?_
  obtain ⟨f3, e3⟩ : ∃ y, va_up f2 (n + 1) (.inl (T 0, 20, .inl (fun _ => 0)) : va_E) = y := ⟨_, rfl⟩
  refine mo_newa (atype := .int) (ty := .int) (N' := 20) (a0 := (20, .inl (fun _ => 0))) 0 E hO (by omega) w4 rfl rfl (fun _ => rfl) (by decide) (by decide) (by decide) (Nat.le_of_ble_eq_true rfl) (Nat.le_of_ble_eq_true rfl) e3 dX0_init_15 (fun H hO => ?_)
  have c3_20 := (mm_upn e3 (show k ≠ (n + 1) by omega)).trans c2_14
  have c3_21 := (mm_upn e3 (show n ≠ (n + 1) by omega)).trans c2_13
  have c3_22 := mm_ups e3
  have o3_0 : ∀ j, j ≠ k ∧ j < n → f3 j = f j := fun j hj => (mm_upn e3 (by omega)).trans (o2_0 j hj)
  obtain ⟨f4, e4⟩ : ∃ y, va_up f3 k (.inr (0, [.ref (b + n), .ref (b + (n + 1)), .null, .int 0, .int 0]) : va_E) = y := ⟨_, rfl⟩
  refine mo_putF (ty := .array .int) E hO hi0 rfl hin0 tyX0_ok nmX0 rfl (show k < _ by omega) c3_20 (j := 1) (by decide) rfl w6 (by decide +kernel) rfl rfl (Nat.le_of_ble_eq_true rfl) e4 dX0_init_17 (fun H locs hO => ?_)
  have c4_26 := (mm_upn e4 (show n ≠ k by omega)).trans c3_21
  have c4_27 := (mm_upn e4 (show (n + 1) ≠ k by omega)).trans c3_22
  have c4_28 := mm_ups e4
  have o4_0 : ∀ j, j ≠ k ∧ j < n → f4 j = f j := fun j hj => (mm_upn e4 (by omega)).trans (o3_0 j hj)
  refine lv_aload_n hx hb dX0_init_20 rfl (lv_at hl 0 rfl) ?_
  refine lv_bipush (v := 20) hx hb dX0_init_21 (by decide) ?_
  obtain ⟨f5, e5⟩ : ∃ y, va_up f4 (n + 2) (.inl (T 0, 20, .inl (fun _ => 0)) : va_E) = y := ⟨_, rfl⟩
  refine mo_newa (atype := .int) (ty := .int) (N' := 20) (a0 := (20, .inl (fun _ => 0))) 0 E hO (by omega) w4 rfl rfl (fun _ => rfl) (by decide) (by decide) (by decide) (Nat.le_of_ble_eq_true rfl) (Nat.le_of_ble_eq_true rfl) e5 dX0_init_23 (fun H hO => ?_)
  have c5_34 := (mm_upn e5 (show k ≠ (n + 2) by omega)).trans c4_28
  have c5_35 := (mm_upn e5 (show n ≠ (n + 2) by omega)).trans c4_26
  have c5_36 := (mm_upn e5 (show (n + 1) ≠ (n + 2) by omega)).trans c4_27
  have c5_37 := mm_ups e5
  have o5_0 : ∀ j, j ≠ k ∧ j < n → f5 j = f j := fun j hj => (mm_upn e5 (by omega)).trans (o4_0 j hj)
  obtain ⟨f6, e6⟩ : ∃ y, va_up f5 k (.inr (0, [.ref (b + n), .ref (b + (n + 1)), .ref (b + (n + 2)), .int 0, .int 0]) : va_E) = y := ⟨_, rfl⟩
  refine mo_putF (ty := .array .int) E hO hi0 rfl hin0 tyX0_ok nmX0 rfl (show k < _ by omega) c5_34 (j := 2) (by decide) rfl w7 (by decide +kernel) rfl rfl (Nat.le_of_ble_eq_true rfl) e6 dX0_init_25 (fun H locs hO => ?_)
  have c6_41 := (mm_upn e6 (show n ≠ k by omega)).trans c5_35
  have c6_42 := (mm_upn e6 (show (n + 1) ≠ k by omega)).trans c5_36
  have c6_43 := (mm_upn e6 (show (n + 2) ≠ k by omega)).trans c5_37
  have c6_44 := mm_ups e6
  have o6_0 : ∀ j, j ≠ k ∧ j < n → f6 j = f j := fun j hj => (mm_upn e6 (by omega)).trans (o5_0 j hj)
  refine lv_aload_n hx hb dX0_init_28 rfl (lv_at hl 0 rfl) ?_
  refine lv_iconst (v := 0) hx hb dX0_init_29 (by decide) ?_
  obtain ⟨f7, e7⟩ : ∃ y, va_up f6 k (.inr (0, [.ref (b + n), .ref (b + (n + 1)), .ref (b + (n + 2)), .int 0, .int 0]) : va_E) = y := ⟨_, rfl⟩
  refine mo_put (ty := .int) E hO hin0 tyX0_ok nmX0 rfl (show k < _ by omega) c6_44 (j := 3) (by decide) rfl w8 (by decide +kernel) rfl rfl (Nat.le_of_ble_eq_true rfl) e7 dX0_init_30 (fun H locs hO => ?_)
  have c7_50 := (mm_upn e7 (show n ≠ k by omega)).trans c6_41
  have c7_51 := (mm_upn e7 (show (n + 1) ≠ k by omega)).trans c6_42
  have c7_52 := (mm_upn e7 (show (n + 2) ≠ k by omega)).trans c6_43
  have c7_53 := mm_ups e7
  have o7_0 : ∀ j, j ≠ k ∧ j < n → f7 j = f j := fun j hj => (mm_upn e7 (by omega)).trans (o6_0 j hj)
  refine lv_aload_n hx hb dX0_init_33 rfl (lv_at hl 0 rfl) ?_
  refine lv_iconst (v := 0) hx hb dX0_init_34 (by decide) ?_
  obtain ⟨f8, e8⟩ : ∃ y, va_up f7 k (.inr (0, [.ref (b + n), .ref (b + (n + 1)), .ref (b + (n + 2)), .int 0, .int 0]) : va_E) = y := ⟨_, rfl⟩
  refine mo_put (ty := .int) E hO hin0 tyX0_ok nmX0 rfl (show k < _ by omega) c7_53 (j := 4) (by decide) rfl w9 (by decide +kernel) rfl rfl (Nat.le_of_ble_eq_true rfl) e8 dX0_init_35 (fun H locs hO => ?_)
  have c8_59 := (mm_upn e8 (show n ≠ k by omega)).trans c7_50
  have c8_60 := (mm_upn e8 (show (n + 1) ≠ k by omega)).trans c7_51
  have c8_61 := (mm_upn e8 (show (n + 2) ≠ k by omega)).trans c7_52
  have c8_62 := mm_ups e8
  have o8_0 : ∀ j, j ≠ k ∧ j < n → f8 j = f j := fun j hj => (mm_upn e8 (by omega)).trans (o7_0 j hj)
  refine mo_ret E hO (by omega) rfl ?_ hr hlk dX0_init_38
  intro j hj h
  rcases (show j = k ∨ (j ≠ k ∧ j < n) ∨ j = n ∨ j = n + 1 ∨ j = n + 2 by omega) with q | q | q | q | q
  · subst q; rw [mf0_k hf]; rwa [c8_62] at h
  · rw [mf0_o hf q.1 q.2]; rwa [o8_0 j q] at h
  · subst q; rw [mf0_n hf (by omega) (by omega)]; rwa [c8_59] at h
  · subst q; rw [mf0_n hf (by omega) (by omega)]; rwa [c8_60] at h
  · subst q; rw [mf0_n hf (by omega) (by omega)]; rwa [c8_61] at h
abbrev rm_X2_init : Room := { frames := 1, cells := 1, slots := 80, locals := 12 }
theorem df_X2_init : yX2_init.cls = RX2 ∧ yX2_init.cls ≠ "java/lang/invoke/MethodHandle" ∧ yX2_init.cls ≠ "java/lang/invoke/VarHandle" ∧ (parseMethodDescriptor yX2_init.desc).map (fun d => d.parameters.length) = some 0 := by decide +kernel
set_option maxRecDepth 100000 in
set_option maxHeartbeats 8000000 in
theorem co_X2_init (l : Launch) (G : va_G) (T : Nat → ClassId) (b : Nat) (z : Nat → Nat) (k n : Nat) (f : Nat → va_E) {f1 : Nat → va_E} (hkn : k < n) (hk0 : f k = .inr (2, [.null, .int 0, .int 0, .int 0, .int 0, .int 0])) (hf : mf_2 T b f k n = f1) : mm_Co l yX2_init wsX2_init rm_X2_init G T b z [.ref (b + k)] n f (n + 1) f1 1 80 := by
  refine mo_start (cc := cX2_init) (maxL := 1) (by decide) rfl rfl (Nat.le_of_ble_eq_true rfl) (fun p e s m below meth c ls E hr hlk hi0 hO hl => ?_)
  have hl : lv_has ls 1 [(0, .ref (b + k))] := hl
  have hx := E.1.1
  have hb := E.1.2.1
  have w1 := E.1.2.2.2.2.1 (.methodLink RX2 3 objectInit) (by decide +kernel)
  have w2 := E.1.2.2.2.2.1 (.instanceMethod objectInit) (by decide +kernel)
  have w3 := E.1.2.2.2.2.1 (.code objectInit ⟨#[0xb1]⟩ 1 none) (by decide +kernel)
  have w4 := E.1.2.2.2.2.1 (.arrayClass .char) (by decide +kernel)
  have w5 := E.1.2.2.2.2.1 (.fieldLink RX2 9 "LandingFines$Pad" "signs" "[C") (by decide +kernel)
  have w6 := E.1.2.2.2.2.1 (.fieldLink RX2 15 "LandingFines$Pad" "length" "I") (by decide +kernel)
  have w7 := E.1.2.2.2.2.1 (.fieldLink RX2 19 "LandingFines$Pad" "place" "I") (by decide +kernel)
  have w8 := E.1.2.2.2.2.1 (.fieldLink RX2 22 "LandingFines$Pad" "orderSign" "C") (by decide +kernel)
  have w9 := E.1.2.2.2.2.1 (.fieldLink RX2 26 "LandingFines$Pad" "orderLanding" "I") (by decide +kernel)
  have w10 := E.1.2.2.2.2.1 (.fieldLink RX2 29 "LandingFines$Pad" "orderNumber" "I") (by decide +kernel)
  have hin2 : ∀ w ∈ wsX20, w ∈ wsX2_init := by decide +kernel
  have o0_0 : ∀ j, j ≠ k ∧ j < n → f j = f j := fun _ _ => rfl
  refine lv_aload_n hx hb dX2_init_0 rfl (lv_at hl 0 rfl) ?_
  refine W.objInit hx hb E.1.2.2.2.1 w1 w2 w3 rfl (by rw [E.1.2.2.1]; exact hl.1) rfl dX2_init_1 (Nat.le_of_ble_eq_true rfl) (Nat.le_of_ble_eq_true rfl) ?_
  refine W.eq (g2 := F0 m 4 ls []) rfl ?_
  refine lv_aload_n hx hb dX2_init_4 rfl (lv_at hl 0 rfl) ?_
  refine lv_bipush (v := 80) hx hb dX2_init_5 (by decide) ?_
  obtain ⟨f1, e1⟩ : ∃ y, va_up f n (.inl (T 1, 80, .inl (fun _ => 0)) : va_E) = y := ⟨_, rfl⟩
  refine mo_newa (atype := .char) (ty := .char) (N' := 80) (a0 := (80, .inl (fun _ => 0))) 1 E hO (by omega) w4 rfl rfl (fun _ => rfl) (by decide) (by decide) (by decide) (Nat.le_of_ble_eq_true rfl) (Nat.le_of_ble_eq_true rfl) e1 dX2_init_7 (fun H hO => ?_)
  have c1_8 := (mm_upn e1 (show k ≠ n by omega)).trans hk0
  have c1_9 := mm_ups e1
  have o1_0 : ∀ j, j ≠ k ∧ j < n → f1 j = f j := fun j hj => (mm_upn e1 (by omega)).trans (o0_0 j hj)
  obtain ⟨f2, e2⟩ : ∃ y, va_up f1 k (.inr (2, [.ref (b + n), .int 0, .int 0, .int 0, .int 0, .int 0]) : va_E) = y := ⟨_, rfl⟩
  refine mo_putF (ty := .array .char) E hO hi0 rfl hin2 tyX2_ok nmX2 rfl (show k < _ by omega) c1_8 (j := 0) (by decide) rfl w5 (by decide +kernel) rfl rfl (Nat.le_of_ble_eq_true rfl) e2 dX2_init_9 (fun H locs hO => ?_)
  have c2_13 := (mm_upn e2 (show n ≠ k by omega)).trans c1_9
  have c2_14 := mm_ups e2
  have o2_0 : ∀ j, j ≠ k ∧ j < n → f2 j = f j := fun j hj => (mm_upn e2 (by omega)).trans (o1_0 j hj)
  refine lv_aload_n hx hb dX2_init_12 rfl (lv_at hl 0 rfl) ?_
  refine lv_iconst (v := 0) hx hb dX2_init_13 (by decide) ?_
  obtain ⟨f3, e3⟩ : ∃ y, va_up f2 k (.inr (2, [.ref (b + n), .int 0, .int 0, .int 0, .int 0, .int 0]) : va_E) = y := ⟨_, rfl⟩
  refine mo_put (ty := .int) E hO hin2 tyX2_ok nmX2 rfl (show k < _ by omega) c2_14 (j := 1) (by decide) rfl w6 (by decide +kernel) rfl rfl (Nat.le_of_ble_eq_true rfl) e3 dX2_init_14 (fun H locs hO => ?_)
  have c3_20 := (mm_upn e3 (show n ≠ k by omega)).trans c2_13
  have c3_21 := mm_ups e3
  have o3_0 : ∀ j, j ≠ k ∧ j < n → f3 j = f j := fun j hj => (mm_upn e3 (by omega)).trans (o2_0 j hj)
  refine lv_aload_n hx hb dX2_init_17 rfl (lv_at hl 0 rfl) ?_
  refine lv_iconst (v := 0) hx hb dX2_init_18 (by decide) ?_
  obtain ⟨f4, e4⟩ : ∃ y, va_up f3 k (.inr (2, [.ref (b + n), .int 0, .int 0, .int 0, .int 0, .int 0]) : va_E) = y := ⟨_, rfl⟩
  refine mo_put (ty := .int) E hO hin2 tyX2_ok nmX2 rfl (show k < _ by omega) c3_21 (j := 2) (by decide) rfl w7 (by decide +kernel) rfl rfl (Nat.le_of_ble_eq_true rfl) e4 dX2_init_19 (fun H locs hO => ?_)
  have c4_27 := (mm_upn e4 (show n ≠ k by omega)).trans c3_20
  have c4_28 := mm_ups e4
  have o4_0 : ∀ j, j ≠ k ∧ j < n → f4 j = f j := fun j hj => (mm_upn e4 (by omega)).trans (o3_0 j hj)
  refine lv_aload_n hx hb dX2_init_22 rfl (lv_at hl 0 rfl) ?_
  refine lv_bipush (v := 32) hx hb dX2_init_23 (by decide) ?_
  obtain ⟨f5, e5⟩ : ∃ y, va_up f4 k (.inr (2, [.ref (b + n), .int 0, .int 0, .int 32, .int 0, .int 0]) : va_E) = y := ⟨_, rfl⟩
  refine mo_put (ty := .char) E hO hin2 tyX2_ok nmX2 rfl (show k < _ by omega) c4_28 (j := 3) (by decide) rfl w8 (by decide +kernel) rfl rfl (Nat.le_of_ble_eq_true rfl) e5 dX2_init_25 (fun H locs hO => ?_)
  have c5_34 := (mm_upn e5 (show n ≠ k by omega)).trans c4_27
  have c5_35 := mm_ups e5
  have o5_0 : ∀ j, j ≠ k ∧ j < n → f5 j = f j := fun j hj => (mm_upn e5 (by omega)).trans (o4_0 j hj)
  refine lv_aload_n hx hb dX2_init_28 rfl (lv_at hl 0 rfl) ?_
  refine lv_iconst (v := 0) hx hb dX2_init_29 (by decide) ?_
  obtain ⟨f6, e6⟩ : ∃ y, va_up f5 k (.inr (2, [.ref (b + n), .int 0, .int 0, .int 32, .int 0, .int 0]) : va_E) = y := ⟨_, rfl⟩
  refine mo_put (ty := .int) E hO hin2 tyX2_ok nmX2 rfl (show k < _ by omega) c5_35 (j := 4) (by decide) rfl w9 (by decide +kernel) rfl rfl (Nat.le_of_ble_eq_true rfl) e6 dX2_init_30 (fun H locs hO => ?_)
  have c6_41 := (mm_upn e6 (show n ≠ k by omega)).trans c5_34
  have c6_42 := mm_ups e6
  have o6_0 : ∀ j, j ≠ k ∧ j < n → f6 j = f j := fun j hj => (mm_upn e6 (by omega)).trans (o5_0 j hj)
  refine lv_aload_n hx hb dX2_init_33 rfl (lv_at hl 0 rfl) ?_
  refine lv_iconst (v := 0) hx hb dX2_init_34 (by decide) ?_
  obtain ⟨f7, e7⟩ : ∃ y, va_up f6 k (.inr (2, [.ref (b + n), .int 0, .int 0, .int 32, .int 0, .int 0]) : va_E) = y := ⟨_, rfl⟩
  refine mo_put (ty := .int) E hO hin2 tyX2_ok nmX2 rfl (show k < _ by omega) c6_42 (j := 5) (by decide) rfl w10 (by decide +kernel) rfl rfl (Nat.le_of_ble_eq_true rfl) e7 dX2_init_35 (fun H locs hO => ?_)
  have c7_48 := (mm_upn e7 (show n ≠ k by omega)).trans c6_41
  have c7_49 := mm_ups e7
  have o7_0 : ∀ j, j ≠ k ∧ j < n → f7 j = f j := fun j hj => (mm_upn e7 (by omega)).trans (o6_0 j hj)
  refine mo_ret E hO (by omega) rfl ?_ hr hlk dX2_init_38
  intro j hj h
  rcases (show j = k ∨ (j ≠ k ∧ j < n) ∨ j = n by omega) with q | q | q
  · subst q; rw [mf2_k hf]; rwa [c7_49] at h
  · rw [mf2_o hf q.1 q.2]; rwa [o7_0 j q] at h
  · subst q; rw [mf2_n hf (by omega) (by omega)]; rwa [c7_48] at h
abbrev rm_X3_init : Room := { frames := 2, cells := 14, slots := 144, locals := 32 }
theorem df_X3_init : yX3_init.cls = RX3 ∧ yX3_init.cls ≠ "java/lang/invoke/MethodHandle" ∧ yX3_init.cls ≠ "java/lang/invoke/VarHandle" ∧ (parseMethodDescriptor yX3_init.desc).map (fun d => d.parameters.length) = some 0 := by decide +kernel
set_option maxRecDepth 100000 in
set_option maxHeartbeats 8000000 in
theorem co_X3_init (l : Launch) (G : va_G) (T : Nat → ClassId) (b : Nat) (z : Nat → Nat) (k : Nat) (f : Nat → va_E) {f1 : Nat → va_E} (hk : mm_kd k = 3) (hk0 : f k = .inr (3, [.null, .null, .int 0, .int 0, .int 0, .int 0, .null])) (hf : mf_3 T b f k = f1) : mm_Co l yX3_init wsX3_init rm_X3_init G T b z [.ref (b + k)] (k + 1) f (k + 15) f1 14 144 := by
  refine mo_start (cc := cX3_init) (maxL := 2) (by decide) rfl rfl (Nat.le_of_ble_eq_true rfl) (fun p e s m below meth c ls E hr hlk hi0 hO hl => ?_)
  have hl : lv_has ls 2 [(0, .ref (b + k))] := hl
  have hx := E.1.1
  have hb := E.1.2.1
  have w1 := E.1.2.2.2.2.1 (.methodLink RX3 3 objectInit) (by decide +kernel)
  have w2 := E.1.2.2.2.2.1 (.instanceMethod objectInit) (by decide +kernel)
  have w3 := E.1.2.2.2.2.1 (.code objectInit ⟨#[0xb1]⟩ 1 none) (by decide +kernel)
  have w4 := E.1.2.2.2.2.1 (.methodLink RX3 13 ⟨"[I", "clone", "()Ljava/lang/Object;"⟩) (by decide +kernel)
  have w5 := E.1.2.2.2.2.1 (.sameMethod "[I" "java/lang/Object" "clone" "()Ljava/lang/Object;") (by decide +kernel)
  have w6 := E.1.2.2.2.2.1 (.native ⟨"java/lang/Object", "clone", "()Ljava/lang/Object;"⟩) (by decide +kernel)
  have w7 := E.1.2.2.2.2.1 (.instanceMethod ⟨"java/lang/Object", "clone", "()Ljava/lang/Object;"⟩) (by decide +kernel)
  have w8 := E.1.2.2.2.2.1 (.selects "[I" ⟨"[I", "clone", "()Ljava/lang/Object;"⟩ ⟨"java/lang/Object", "clone", "()Ljava/lang/Object;"⟩) (by decide +kernel)
  have w9 := E.1.2.2.2.2.1 (.classLink RX3 14 "[I") (by decide +kernel)
  have w10 := E.1.2.2.2.2.1 (.fieldLink RX3 18 "LandingFines$River" "settings" "[I") (by decide +kernel)
  have w11 := E.1.2.2.2.2.1 (.classLink RX3 23 RX1) (by decide +kernel)
  have w12 := E.1.2.2.2.2.1 (.fieldLink RX3 25 "LandingFines$River" "landings" "[LLandingFines$Landing;") (by decide +kernel)
  have w13 := E.1.2.2.2.2.1 (.fieldLink RX3 29 "LandingFines$River" "landingCount" "I") (by decide +kernel)
  have w14 := E.1.2.2.2.2.1 (.fieldLink RX3 33 "LandingFines$River" "minutesSoFar" "I") (by decide +kernel)
  have w15 := E.1.2.2.2.2.1 (.fieldLink RX3 36 "LandingFines$River" "taken" "I") (by decide +kernel)
  have w16 := E.1.2.2.2.2.1 (.fieldLink RX3 39 "LandingFines$River" "switches" "I") (by decide +kernel)
  have w17 := E.1.2.2.2.2.1 (.classLink RX3 42 RX0) (by decide +kernel)
  have w18 := E.1.2.2.2.2.1 (.instantiable RX0 5) (by decide +kernel)
  have w19 := E.1.2.2.2.2.1 (.initialized RX0) (by decide +kernel)
  have w20 := E.1.2.2.2.2.1 (.instanceMethod yX0_init) (by decide +kernel)
  have w21 := E.1.2.2.2.2.1 (.fieldLink RX3 45 "LandingFines$River" "journal" "LLandingFines$Journal;") (by decide +kernel)
  have w22 := E.1.2.2.2.2.1 (.instantiable RX1 8) (by decide +kernel)
  have w23 := E.1.2.2.2.2.1 (.initialized RX1) (by decide +kernel)
  have w24 := E.1.2.2.2.2.1 (.instanceMethod yX1_init) (by decide +kernel)
  have hin0 : ∀ w ∈ wsX00, w ∈ wsX3_init := by decide +kernel
  have hin1 : ∀ w ∈ wsX10, w ∈ wsX3_init := by decide +kernel
  have hin3 : ∀ w ∈ wsX30, w ∈ wsX3_init := by decide +kernel
  have o0_0 : ∀ j, j < k → f j = f j := fun _ _ => rfl
  refine lv_aload_n hx hb dX3_init_0 rfl (lv_at hl 0 rfl) ?_
  refine W.objInit hx hb E.1.2.2.2.1 w1 w2 w3 rfl (by rw [E.1.2.2.1]; exact hl.1) rfl dX3_init_1 (Nat.le_of_ble_eq_true rfl) (Nat.le_of_ble_eq_true rfl) ?_
  refine W.eq (g2 := F0 m 4 ls []) rfl ?_
  refine lv_aload_n hx hb dX3_init_4 rfl (lv_at hl 0 rfl) ?_
  refine mo_gets (i := 2) E rfl hO (by decide) rfl dX3_init_5 ?_
  obtain ⟨f1, e1⟩ : ∃ y, va_up f (k + 1) (.inl (T 0, 7, .inl (mm_st 2)) : va_E) = y := ⟨_, rfl⟩
  refine mo_clone E hl.1.symm hO (by omega) w4 w5 w6 w7 w8 (Nat.le_of_ble_eq_true rfl) (Nat.le_of_ble_eq_true rfl) (Nat.le_of_ble_eq_true rfl) (Nat.le_of_ble_eq_true rfl) e1 dX3_init_8 (fun H hO => ?_)
  have c1_8 := (mm_upn e1 (show k ≠ (k + 1) by omega)).trans hk0
  have c1_9 := mm_ups e1
  have o1_0 : ∀ j, j < k → f1 j = f j := fun j hj => (mm_upn e1 (by omega)).trans (o0_0 j hj)
  refine mo_castI E hO (show (k + 1) < _ by omega) c1_9 w9 dX3_init_11 ?_
  obtain ⟨f2, e2⟩ : ∃ y, va_up f1 k (.inr (3, [.ref (b + (k + 1)), .null, .int 0, .int 0, .int 0, .int 0, .null]) : va_E) = y := ⟨_, rfl⟩
  refine mo_putF (ty := .array .int) E hO hi0 rfl hin3 tyX3_ok nmX3 rfl (show k < _ by omega) c1_8 (j := 0) (by decide) rfl w10 (by decide +kernel) rfl rfl (Nat.le_of_ble_eq_true rfl) e2 dX3_init_14 (fun H locs hO => ?_)
  have c2_14 := (mm_upn e2 (show (k + 1) ≠ k by omega)).trans c1_9
  have c2_15 := mm_ups e2
  have o2_0 : ∀ j, j < k → f2 j = f j := fun j hj => (mm_upn e2 (by omega)).trans (o1_0 j hj)
  refine lv_aload_n hx hb dX3_init_17 rfl (lv_at hl 0 rfl) ?_
  refine lv_bipush (v := 8) hx hb dX3_init_18 (by decide) ?_
  obtain ⟨f3, e3⟩ : ∃ y, va_up f2 (k + 2) (.inl (T 3, 8, .inr (.inr (.inr (.inr (fun _ => none))))) : va_E) = y := ⟨_, rfl⟩
  refine mo_newq (C := RX1) (N' := 8) 3 E hO (by omega) w11 E.2.2.1.2.2.2.2.2.1 rfl (by decide) (by decide) (by decide) (Nat.le_of_ble_eq_true rfl) (Nat.le_of_ble_eq_true rfl) e3 dX3_init_20 (fun H hO => ?_)
  have c3_21 := (mm_upn e3 (show k ≠ (k + 2) by omega)).trans c2_15
  have c3_22 := (mm_upn e3 (show (k + 1) ≠ (k + 2) by omega)).trans c2_14
  have c3_23 := mm_ups e3
  have o3_0 : ∀ j, j < k → f3 j = f j := fun j hj => (mm_upn e3 (by omega)).trans (o2_0 j hj)
  obtain ⟨f4, e4⟩ : ∃ y, va_up f3 k (.inr (3, [.ref (b + (k + 1)), .ref (b + (k + 2)), .int 0, .int 0, .int 0, .int 0, .null]) : va_E) = y := ⟨_, rfl⟩
  refine mo_putF (ty := .array (.object "LandingFines$Landing")) E hO hi0 rfl hin3 tyX3_ok nmX3 rfl (show k < _ by omega) c3_21 (j := 1) (by decide) rfl w12 (by decide +kernel) rfl rfl (Nat.le_of_ble_eq_true rfl) e4 dX3_init_23 (fun H locs hO => ?_)
  have c4_27 := (mm_upn e4 (show (k + 1) ≠ k by omega)).trans c3_22
  have c4_28 := (mm_upn e4 (show (k + 2) ≠ k by omega)).trans c3_23
  have c4_29 := mm_ups e4
  have o4_0 : ∀ j, j < k → f4 j = f j := fun j hj => (mm_upn e4 (by omega)).trans (o3_0 j hj)
  refine lv_aload_n hx hb dX3_init_26 rfl (lv_at hl 0 rfl) ?_
  refine lv_iconst (v := 0) hx hb dX3_init_27 (by decide) ?_
  obtain ⟨f5, e5⟩ : ∃ y, va_up f4 k (.inr (3, [.ref (b + (k + 1)), .ref (b + (k + 2)), .int 0, .int 0, .int 0, .int 0, .null]) : va_E) = y := ⟨_, rfl⟩
  refine mo_put (ty := .int) E hO hin3 tyX3_ok nmX3 rfl (show k < _ by omega) c4_29 (j := 2) (by decide) rfl w13 (by decide +kernel) rfl rfl (Nat.le_of_ble_eq_true rfl) e5 dX3_init_28 (fun H locs hO => ?_)
  have c5_35 := (mm_upn e5 (show (k + 1) ≠ k by omega)).trans c4_27
  have c5_36 := (mm_upn e5 (show (k + 2) ≠ k by omega)).trans c4_28
  have c5_37 := mm_ups e5
  have o5_0 : ∀ j, j < k → f5 j = f j := fun j hj => (mm_upn e5 (by omega)).trans (o4_0 j hj)
  refine lv_aload_n hx hb dX3_init_31 rfl (lv_at hl 0 rfl) ?_
  refine lv_iconst (v := 0) hx hb dX3_init_32 (by decide) ?_
  obtain ⟨f6, e6⟩ : ∃ y, va_up f5 k (.inr (3, [.ref (b + (k + 1)), .ref (b + (k + 2)), .int 0, .int 0, .int 0, .int 0, .null]) : va_E) = y := ⟨_, rfl⟩
  refine mo_put (ty := .int) E hO hin3 tyX3_ok nmX3 rfl (show k < _ by omega) c5_37 (j := 3) (by decide) rfl w14 (by decide +kernel) rfl rfl (Nat.le_of_ble_eq_true rfl) e6 dX3_init_33 (fun H locs hO => ?_)
  have c6_43 := (mm_upn e6 (show (k + 1) ≠ k by omega)).trans c5_35
  have c6_44 := (mm_upn e6 (show (k + 2) ≠ k by omega)).trans c5_36
  have c6_45 := mm_ups e6
  have o6_0 : ∀ j, j < k → f6 j = f j := fun j hj => (mm_upn e6 (by omega)).trans (o5_0 j hj)
  refine lv_aload_n hx hb dX3_init_36 rfl (lv_at hl 0 rfl) ?_
  refine lv_bipush (v := (-6)) hx hb dX3_init_37 (by decide) ?_
  obtain ⟨f7, e7⟩ : ∃ y, va_up f6 k (.inr (3, [.ref (b + (k + 1)), .ref (b + (k + 2)), .int 0, .int 0, .int (-6), .int 0, .null]) : va_E) = y := ⟨_, rfl⟩
  refine mo_put (ty := .int) E hO hin3 tyX3_ok nmX3 rfl (show k < _ by omega) c6_45 (j := 4) (by decide) rfl w15 (by decide +kernel) rfl rfl (Nat.le_of_ble_eq_true rfl) e7 dX3_init_39 (fun H locs hO => ?_)
  have c7_51 := (mm_upn e7 (show (k + 1) ≠ k by omega)).trans c6_43
  have c7_52 := (mm_upn e7 (show (k + 2) ≠ k by omega)).trans c6_44
  have c7_53 := mm_ups e7
  have o7_0 : ∀ j, j < k → f7 j = f j := fun j hj => (mm_upn e7 (by omega)).trans (o6_0 j hj)
  refine lv_aload_n hx hb dX3_init_42 rfl (lv_at hl 0 rfl) ?_
  refine lv_iconst (v := 0) hx hb dX3_init_43 (by decide) ?_
  obtain ⟨f8, e8⟩ : ∃ y, va_up f7 k (.inr (3, [.ref (b + (k + 1)), .ref (b + (k + 2)), .int 0, .int 0, .int (-6), .int 0, .null]) : va_E) = y := ⟨_, rfl⟩
  refine mo_put (ty := .int) E hO hin3 tyX3_ok nmX3 rfl (show k < _ by omega) c7_53 (j := 5) (by decide) rfl w16 (by decide +kernel) rfl rfl (Nat.le_of_ble_eq_true rfl) e8 dX3_init_44 (fun H locs hO => ?_)
  have c8_59 := (mm_upn e8 (show (k + 1) ≠ k by omega)).trans c7_51
  have c8_60 := (mm_upn e8 (show (k + 2) ≠ k by omega)).trans c7_52
  have c8_61 := mm_ups e8
  have o8_0 : ∀ j, j < k → f8 j = f j := fun j hj => (mm_upn e8 (by omega)).trans (o7_0 j hj)
  refine lv_aload_n hx hb dX3_init_47 rfl (lv_at hl 0 rfl) ?_
  obtain ⟨f9, e9⟩ : ∃ y, va_up f8 (k + 3) (.inr (0, [.null, .null, .null, .int 0, .int 0]) : va_E) = y := ⟨_, rfl⟩
  refine mo_new (ci := 0) (fs := [.null, .null, .null, .int 0, .int 0]) E hO (by omega) hin0 tyX0_ok rfl w17 w18 w19 (fun j hj => by rcases (show j = 0 ∨ j = 1 ∨ j = 2 ∨ j = 3 ∨ j = 4 by omega) with rfl | rfl | rfl | rfl | rfl <;> rfl) (Nat.le_of_ble_eq_true rfl) (Nat.le_of_ble_eq_true rfl) e9 dX3_init_48 (fun H hO => ?_)
  have c9_66 := (mm_upn e9 (show k ≠ (k + 3) by omega)).trans c8_61
  have c9_67 := (mm_upn e9 (show (k + 1) ≠ (k + 3) by omega)).trans c8_59
  have c9_68 := (mm_upn e9 (show (k + 2) ≠ (k + 3) by omega)).trans c8_60
  have c9_69 := mm_ups e9
  have o9_0 : ∀ j, j < k → f9 j = f j := fun j hj => (mm_upn e9 (by omega)).trans (o8_0 j hj)
  refine lv_dup hx hb dX3_init_51 rfl ?_
  refine mo_sz E hO (by omega) (fun hsz => ?_)
  obtain ⟨f10, e10⟩ : ∃ y, mf_0 T b f9 (k + 3) (k + 4) = y := ⟨_, rfl⟩
  refine mo_go hO (va_runIN (As := []) (rest := [.ref (b + (k + 3)), .ref (b + k)]) ⟨hx, hb, E.1.2.2.1, E.1.2.2.2.1, E.1.2.2.2.2.1⟩ (co_X0_init l G T b z (k + 3) (k + 4) f9 (by omega) c9_69 e10) ⟨va_cnB 0 E.1.2.2.2.2.1 gX3_init_X0_init_n44 rfl rfl rfl E.2.2.1.2.2.1 w19 df_X0_init.2 ⟨Nat.le_of_ble_eq_true rfl, Nat.le_of_ble_eq_true rfl⟩, rfl, w20⟩ ⟨mm_Bo.blind, mo_pre E hO hsz⟩ rfl rfl hl.1 rfl (lv_room (Nat.le_of_ble_eq_true rfl)) dX3_init_52 ⟨Nat.le_of_ble_eq_true rfl, Nat.le_of_ble_eq_true rfl⟩) (fun H locs hO => ?_)
  have c10_75 := (mf0_o e10 (show k ≠ (k + 3) by omega) (show k < (k + 4) by omega)).trans c9_66
  have c10_76 := (mf0_o e10 (show (k + 1) ≠ (k + 3) by omega) (show (k + 1) < (k + 4) by omega)).trans c9_67
  have c10_77 := (mf0_o e10 (show (k + 2) ≠ (k + 3) by omega) (show (k + 2) < (k + 4) by omega)).trans c9_68
  have o10_0 : ∀ j, j < k → f10 j = f j := fun j hj => (mf0_o e10 (by omega) (by omega)).trans (o9_0 j hj)
  have c10_79 : f10 (k + 3) = (.inr (0, [.ref (b + (k + 4)), .ref (b + (k + 5)), .ref (b + (k + 6)), .int 0, .int 0]) : va_E) := mf0_k e10
  have c10_80 : f10 (k + 4) = (.inl (T 0, 20, .inl (fun _ => 0)) : va_E) := mf0_n e10 (by omega) (by omega)
  have c10_81 : f10 (k + 5) = (.inl (T 0, 20, .inl (fun _ => 0)) : va_E) := mf0_n e10 (by omega) (by omega)
  have c10_82 : f10 (k + 6) = (.inl (T 0, 20, .inl (fun _ => 0)) : va_E) := mf0_n e10 (by omega) (by omega)
  obtain ⟨f11, e11⟩ : ∃ y, va_up f10 k (.inr (3, [.ref (b + (k + 1)), .ref (b + (k + 2)), .int 0, .int 0, .int (-6), .int 0, .ref (b + (k + 3))]) : va_E) = y := ⟨_, rfl⟩
  refine mo_putF (ty := .object "LandingFines$Journal") E hO hi0 rfl hin3 tyX3_ok nmX3 rfl (show k < _ by omega) c10_75 (j := 6) (by decide) rfl w21 (by decide +kernel) rfl rfl (Nat.le_of_ble_eq_true rfl) e11 dX3_init_55 (fun H locs hO => ?_)
  have c11_85 := (mm_upn e11 (show (k + 1) ≠ k by omega)).trans c10_76
  have c11_86 := (mm_upn e11 (show (k + 2) ≠ k by omega)).trans c10_77
  have c11_87 := (mm_upn e11 (show (k + 3) ≠ k by omega)).trans c10_79
  have c11_88 := (mm_upn e11 (show (k + 4) ≠ k by omega)).trans c10_80
  have c11_89 := (mm_upn e11 (show (k + 5) ≠ k by omega)).trans c10_81
  have c11_90 := (mm_upn e11 (show (k + 6) ≠ k by omega)).trans c10_82
  have c11_91 := mm_ups e11
  have o11_0 : ∀ j, j < k → f11 j = f j := fun j hj => (mm_upn e11 (by omega)).trans (o10_0 j hj)
  refine lv_iconst (v := 0) hx hb dX3_init_58 (by decide) ?_
  refine lv_istore_n (lv' := [(1, .int 0), (0, .ref (b + k))]) hx hb dX3_init_59 rfl hl (by decide) rfl (fun ls hl => ?_)
  refine lv_iload_n hx hb dX3_init_60 rfl (lv_at hl 0 rfl) ?_
  refine lv_aload_n hx hb dX3_init_61 rfl (lv_at hl 1 rfl) ?_
  refine mo_get (v := .ref (b + (k + 2))) E hO hin3 rfl (show k < _ by omega) c11_91 (j := 1) (by decide) rfl w12 rfl dX3_init_62 ?_
  refine mo_alen (v := 8) E hO (show (k + 2) < _ by omega) c11_86 3 rfl rfl dX3_init_65 ?_
  refine lv_icmp_ge (tgt := 88) hx hb dX3_init_66 (by decide) (fun c => absurd c (by decide)) (fun _ => ?_)
  refine lv_aload_n hx hb dX3_init_69 rfl (lv_at hl 1 rfl) ?_
  refine mo_get (v := .ref (b + (k + 2))) E hO hin3 rfl (show k < _ by omega) c11_91 (j := 1) (by decide) rfl w12 rfl dX3_init_70 ?_
  refine lv_iload_n hx hb dX3_init_73 rfl (lv_at hl 0 rfl) ?_
  obtain ⟨f12, e12⟩ : ∃ y, va_up f11 (k + 7) (.inr (1, [.int 0, .int 0, .int 0, .int 0, .int 0, .int 0, .int 0, .int 0]) : va_E) = y := ⟨_, rfl⟩
  refine mo_new (ci := 1) (fs := [.int 0, .int 0, .int 0, .int 0, .int 0, .int 0, .int 0, .int 0]) E hO (by omega) hin1 tyX1_ok rfl w11 w22 w23 (fun j hj => by rcases (show j = 0 ∨ j = 1 ∨ j = 2 ∨ j = 3 ∨ j = 4 ∨ j = 5 ∨ j = 6 ∨ j = 7 by omega) with rfl | rfl | rfl | rfl | rfl | rfl | rfl | rfl <;> rfl) (Nat.le_of_ble_eq_true rfl) (Nat.le_of_ble_eq_true rfl) e12 dX3_init_74 (fun H hO => ?_)
  have c12_105 := (mm_upn e12 (show k ≠ (k + 7) by omega)).trans c11_91
  have c12_106 := (mm_upn e12 (show (k + 1) ≠ (k + 7) by omega)).trans c11_85
  have c12_107 := (mm_upn e12 (show (k + 2) ≠ (k + 7) by omega)).trans c11_86
  have c12_108 := (mm_upn e12 (show (k + 3) ≠ (k + 7) by omega)).trans c11_87
  have c12_109 := (mm_upn e12 (show (k + 4) ≠ (k + 7) by omega)).trans c11_88
  have c12_110 := (mm_upn e12 (show (k + 5) ≠ (k + 7) by omega)).trans c11_89
  have c12_111 := (mm_upn e12 (show (k + 6) ≠ (k + 7) by omega)).trans c11_90
  have c12_112 := mm_ups e12
  have o12_0 : ∀ j, j < k → f12 j = f j := fun j hj => (mm_upn e12 (by omega)).trans (o11_0 j hj)
  refine lv_dup hx hb dX3_init_77 rfl ?_
  refine mo_sz E hO (by omega) (fun hsz => ?_)
  refine mo_go hO (va_runIN (As := []) (rest := [.ref (b + (k + 7)), .int 0, .ref (b + (k + 2))]) ⟨hx, hb, E.1.2.2.1, E.1.2.2.2.1, E.1.2.2.2.2.1⟩ (co_X1_init l G T b z (k + 7) (k + 8) f12) ⟨va_cnB 0 E.1.2.2.2.2.1 gX3_init_X1_init_n49 rfl rfl rfl E.2.2.1.2.2.2.1 w23 df_X1_init.2 ⟨Nat.le_of_ble_eq_true rfl, Nat.le_of_ble_eq_true rfl⟩, rfl, w24⟩ ⟨mm_Bo.blind, mo_pre E hO hsz⟩ rfl rfl hl.1 rfl (lv_room (Nat.le_of_ble_eq_true rfl)) dX3_init_78 ⟨Nat.le_of_ble_eq_true rfl, Nat.le_of_ble_eq_true rfl⟩) (fun H locs hO => ?_)
  obtain ⟨f13, e13⟩ : ∃ y, va_up f12 (k + 2) (.inl (T 3, 8, .inr (.inr (.inr (.inr (va_up (fun _ => none) 0 (some (b + (k + 7)))))))) : va_E) = y := ⟨_, rfl⟩
  refine mo_aast (jn := 0) (ci := 1) (r := (RX1, TX1, 8)) 3 E hO (show (k + 2) < _ by omega) c12_107 rfl (show (k + 7) < _ by omega) c12_112 rfl (by decide) (by decide) e13 dX3_init_81 (fun H locs hO => ?_)
  have c13_119 := (mm_upn e13 (show k ≠ (k + 2) by omega)).trans c12_105
  have c13_120 := (mm_upn e13 (show (k + 1) ≠ (k + 2) by omega)).trans c12_106
  have c13_121 := (mm_upn e13 (show (k + 3) ≠ (k + 2) by omega)).trans c12_108
  have c13_122 := (mm_upn e13 (show (k + 4) ≠ (k + 2) by omega)).trans c12_109
  have c13_123 := (mm_upn e13 (show (k + 5) ≠ (k + 2) by omega)).trans c12_110
  have c13_124 := (mm_upn e13 (show (k + 6) ≠ (k + 2) by omega)).trans c12_111
  have c13_125 := (mm_upn e13 (show (k + 7) ≠ (k + 2) by omega)).trans c12_112
  have c13_126 := mm_ups e13
  have o13_0 : ∀ j, j < k → f13 j = f j := fun j hj => (mm_upn e13 (by omega)).trans (o12_0 j hj)
  refine lv_iinc (v := 1) (lv' := [(1, .int 1), (0, .ref (b + k))]) hx hb dX3_init_82 hl (k := 0) rfl (by decide) (by decide) rfl (fun ls hl => ?_)
  refine lv_goto (tgt := 60) hx hb dX3_init_85 (by decide) ?_
  refine lv_iload_n hx hb dX3_init_60 rfl (lv_at hl 0 rfl) ?_
  refine lv_aload_n hx hb dX3_init_61 rfl (lv_at hl 1 rfl) ?_
  refine mo_get (v := .ref (b + (k + 2))) E hO hin3 rfl (show k < _ by omega) c13_119 (j := 1) (by decide) rfl w12 rfl dX3_init_62 ?_
  refine mo_alen (v := 8) E hO (show (k + 2) < _ by omega) c13_126 3 rfl rfl dX3_init_65 ?_
  refine lv_icmp_ge (tgt := 88) hx hb dX3_init_66 (by decide) (fun c => absurd c (by decide)) (fun _ => ?_)
  refine lv_aload_n hx hb dX3_init_69 rfl (lv_at hl 1 rfl) ?_
  refine mo_get (v := .ref (b + (k + 2))) E hO hin3 rfl (show k < _ by omega) c13_119 (j := 1) (by decide) rfl w12 rfl dX3_init_70 ?_
  refine lv_iload_n hx hb dX3_init_73 rfl (lv_at hl 0 rfl) ?_
  obtain ⟨f14, e14⟩ : ∃ y, va_up f13 (k + 8) (.inr (1, [.int 0, .int 0, .int 0, .int 0, .int 0, .int 0, .int 0, .int 0]) : va_E) = y := ⟨_, rfl⟩
  refine mo_new (ci := 1) (fs := [.int 0, .int 0, .int 0, .int 0, .int 0, .int 0, .int 0, .int 0]) E hO (by omega) hin1 tyX1_ok rfl w11 w22 w23 (fun j hj => by rcases (show j = 0 ∨ j = 1 ∨ j = 2 ∨ j = 3 ∨ j = 4 ∨ j = 5 ∨ j = 6 ∨ j = 7 by omega) with rfl | rfl | rfl | rfl | rfl | rfl | rfl | rfl <;> rfl) (Nat.le_of_ble_eq_true rfl) (Nat.le_of_ble_eq_true rfl) e14 dX3_init_74 (fun H hO => ?_)
  have c14_140 := (mm_upn e14 (show k ≠ (k + 8) by omega)).trans c13_119
  have c14_141 := (mm_upn e14 (show (k + 1) ≠ (k + 8) by omega)).trans c13_120
  have c14_142 := (mm_upn e14 (show (k + 2) ≠ (k + 8) by omega)).trans c13_126
  have c14_143 := (mm_upn e14 (show (k + 3) ≠ (k + 8) by omega)).trans c13_121
  have c14_144 := (mm_upn e14 (show (k + 4) ≠ (k + 8) by omega)).trans c13_122
  have c14_145 := (mm_upn e14 (show (k + 5) ≠ (k + 8) by omega)).trans c13_123
  have c14_146 := (mm_upn e14 (show (k + 6) ≠ (k + 8) by omega)).trans c13_124
  have c14_147 := (mm_upn e14 (show (k + 7) ≠ (k + 8) by omega)).trans c13_125
  have c14_148 := mm_ups e14
  have o14_0 : ∀ j, j < k → f14 j = f j := fun j hj => (mm_upn e14 (by omega)).trans (o13_0 j hj)
  refine lv_dup hx hb dX3_init_77 rfl ?_
  refine mo_sz E hO (by omega) (fun hsz => ?_)
  refine mo_go hO (va_runIN (As := []) (rest := [.ref (b + (k + 8)), .int 1, .ref (b + (k + 2))]) ⟨hx, hb, E.1.2.2.1, E.1.2.2.2.1, E.1.2.2.2.2.1⟩ (co_X1_init l G T b z (k + 8) (k + 9) f14) ⟨va_cnB 0 E.1.2.2.2.2.1 gX3_init_X1_init_n49 rfl rfl rfl E.2.2.1.2.2.2.1 w23 df_X1_init.2 ⟨Nat.le_of_ble_eq_true rfl, Nat.le_of_ble_eq_true rfl⟩, rfl, w24⟩ ⟨mm_Bo.blind, mo_pre E hO hsz⟩ rfl rfl hl.1 rfl (lv_room (Nat.le_of_ble_eq_true rfl)) dX3_init_78 ⟨Nat.le_of_ble_eq_true rfl, Nat.le_of_ble_eq_true rfl⟩) (fun H locs hO => ?_)
  obtain ⟨f15, e15⟩ : ∃ y, va_up f14 (k + 2) (.inl (T 3, 8, .inr (.inr (.inr (.inr (va_up (va_up (fun _ => none) 0 (some (b + (k + 7)))) 1 (some (b + (k + 8)))))))) : va_E) = y := ⟨_, rfl⟩
  refine mo_aast (jn := 1) (ci := 1) (r := (RX1, TX1, 8)) 3 E hO (show (k + 2) < _ by omega) c14_142 rfl (show (k + 8) < _ by omega) c14_148 rfl (by decide) (by decide) e15 dX3_init_81 (fun H locs hO => ?_)
  have c15_155 := (mm_upn e15 (show k ≠ (k + 2) by omega)).trans c14_140
  have c15_156 := (mm_upn e15 (show (k + 1) ≠ (k + 2) by omega)).trans c14_141
  have c15_157 := (mm_upn e15 (show (k + 3) ≠ (k + 2) by omega)).trans c14_143
  have c15_158 := (mm_upn e15 (show (k + 4) ≠ (k + 2) by omega)).trans c14_144
  have c15_159 := (mm_upn e15 (show (k + 5) ≠ (k + 2) by omega)).trans c14_145
  have c15_160 := (mm_upn e15 (show (k + 6) ≠ (k + 2) by omega)).trans c14_146
  have c15_161 := (mm_upn e15 (show (k + 7) ≠ (k + 2) by omega)).trans c14_147
  have c15_162 := (mm_upn e15 (show (k + 8) ≠ (k + 2) by omega)).trans c14_148
  have c15_163 := mm_ups e15
  have o15_0 : ∀ j, j < k → f15 j = f j := fun j hj => (mm_upn e15 (by omega)).trans (o14_0 j hj)
  refine lv_iinc (v := 2) (lv' := [(1, .int 2), (0, .ref (b + k))]) hx hb dX3_init_82 hl (k := 0) rfl (by decide) (by decide) rfl (fun ls hl => ?_)
  refine lv_goto (tgt := 60) hx hb dX3_init_85 (by decide) ?_
  refine lv_iload_n hx hb dX3_init_60 rfl (lv_at hl 0 rfl) ?_
  refine lv_aload_n hx hb dX3_init_61 rfl (lv_at hl 1 rfl) ?_
  refine mo_get (v := .ref (b + (k + 2))) E hO hin3 rfl (show k < _ by omega) c15_155 (j := 1) (by decide) rfl w12 rfl dX3_init_62 ?_
  refine mo_alen (v := 8) E hO (show (k + 2) < _ by omega) c15_163 3 rfl rfl dX3_init_65 ?_
  refine lv_icmp_ge (tgt := 88) hx hb dX3_init_66 (by decide) (fun c => absurd c (by decide)) (fun _ => ?_)
  refine lv_aload_n hx hb dX3_init_69 rfl (lv_at hl 1 rfl) ?_
  refine mo_get (v := .ref (b + (k + 2))) E hO hin3 rfl (show k < _ by omega) c15_155 (j := 1) (by decide) rfl w12 rfl dX3_init_70 ?_
  refine lv_iload_n hx hb dX3_init_73 rfl (lv_at hl 0 rfl) ?_
  obtain ⟨f16, e16⟩ : ∃ y, va_up f15 (k + 9) (.inr (1, [.int 0, .int 0, .int 0, .int 0, .int 0, .int 0, .int 0, .int 0]) : va_E) = y := ⟨_, rfl⟩
  refine mo_new (ci := 1) (fs := [.int 0, .int 0, .int 0, .int 0, .int 0, .int 0, .int 0, .int 0]) E hO (by omega) hin1 tyX1_ok rfl w11 w22 w23 (fun j hj => by rcases (show j = 0 ∨ j = 1 ∨ j = 2 ∨ j = 3 ∨ j = 4 ∨ j = 5 ∨ j = 6 ∨ j = 7 by omega) with rfl | rfl | rfl | rfl | rfl | rfl | rfl | rfl <;> rfl) (Nat.le_of_ble_eq_true rfl) (Nat.le_of_ble_eq_true rfl) e16 dX3_init_74 (fun H hO => ?_)
  have c16_177 := (mm_upn e16 (show k ≠ (k + 9) by omega)).trans c15_155
  have c16_178 := (mm_upn e16 (show (k + 1) ≠ (k + 9) by omega)).trans c15_156
  have c16_179 := (mm_upn e16 (show (k + 2) ≠ (k + 9) by omega)).trans c15_163
  have c16_180 := (mm_upn e16 (show (k + 3) ≠ (k + 9) by omega)).trans c15_157
  have c16_181 := (mm_upn e16 (show (k + 4) ≠ (k + 9) by omega)).trans c15_158
  have c16_182 := (mm_upn e16 (show (k + 5) ≠ (k + 9) by omega)).trans c15_159
  have c16_183 := (mm_upn e16 (show (k + 6) ≠ (k + 9) by omega)).trans c15_160
  have c16_184 := (mm_upn e16 (show (k + 7) ≠ (k + 9) by omega)).trans c15_161
  have c16_185 := (mm_upn e16 (show (k + 8) ≠ (k + 9) by omega)).trans c15_162
  have c16_186 := mm_ups e16
  have o16_0 : ∀ j, j < k → f16 j = f j := fun j hj => (mm_upn e16 (by omega)).trans (o15_0 j hj)
  refine lv_dup hx hb dX3_init_77 rfl ?_
  refine mo_sz E hO (by omega) (fun hsz => ?_)
  refine mo_go hO (va_runIN (As := []) (rest := [.ref (b + (k + 9)), .int 2, .ref (b + (k + 2))]) ⟨hx, hb, E.1.2.2.1, E.1.2.2.2.1, E.1.2.2.2.2.1⟩ (co_X1_init l G T b z (k + 9) (k + 10) f16) ⟨va_cnB 0 E.1.2.2.2.2.1 gX3_init_X1_init_n49 rfl rfl rfl E.2.2.1.2.2.2.1 w23 df_X1_init.2 ⟨Nat.le_of_ble_eq_true rfl, Nat.le_of_ble_eq_true rfl⟩, rfl, w24⟩ ⟨mm_Bo.blind, mo_pre E hO hsz⟩ rfl rfl hl.1 rfl (lv_room (Nat.le_of_ble_eq_true rfl)) dX3_init_78 ⟨Nat.le_of_ble_eq_true rfl, Nat.le_of_ble_eq_true rfl⟩) (fun H locs hO => ?_)
  obtain ⟨f17, e17⟩ : ∃ y, va_up f16 (k + 2) (.inl (T 3, 8, .inr (.inr (.inr (.inr (va_up (va_up (va_up (fun _ => none) 0 (some (b + (k + 7)))) 1 (some (b + (k + 8)))) 2 (some (b + (k + 9)))))))) : va_E) = y := ⟨_, rfl⟩
  refine mo_aast (jn := 2) (ci := 1) (r := (RX1, TX1, 8)) 3 E hO (show (k + 2) < _ by omega) c16_179 rfl (show (k + 9) < _ by omega) c16_186 rfl (by decide) (by decide) e17 dX3_init_81 (fun H locs hO => ?_)
  have c17_193 := (mm_upn e17 (show k ≠ (k + 2) by omega)).trans c16_177
  have c17_194 := (mm_upn e17 (show (k + 1) ≠ (k + 2) by omega)).trans c16_178
  have c17_195 := (mm_upn e17 (show (k + 3) ≠ (k + 2) by omega)).trans c16_180
  have c17_196 := (mm_upn e17 (show (k + 4) ≠ (k + 2) by omega)).trans c16_181
  have c17_197 := (mm_upn e17 (show (k + 5) ≠ (k + 2) by omega)).trans c16_182
  have c17_198 := (mm_upn e17 (show (k + 6) ≠ (k + 2) by omega)).trans c16_183
  have c17_199 := (mm_upn e17 (show (k + 7) ≠ (k + 2) by omega)).trans c16_184
  have c17_200 := (mm_upn e17 (show (k + 8) ≠ (k + 2) by omega)).trans c16_185
  have c17_201 := (mm_upn e17 (show (k + 9) ≠ (k + 2) by omega)).trans c16_186
  have c17_202 := mm_ups e17
  have o17_0 : ∀ j, j < k → f17 j = f j := fun j hj => (mm_upn e17 (by omega)).trans (o16_0 j hj)
  refine lv_iinc (v := 3) (lv' := [(1, .int 3), (0, .ref (b + k))]) hx hb dX3_init_82 hl (k := 0) rfl (by decide) (by decide) rfl (fun ls hl => ?_)
  refine lv_goto (tgt := 60) hx hb dX3_init_85 (by decide) ?_
  refine lv_iload_n hx hb dX3_init_60 rfl (lv_at hl 0 rfl) ?_
  refine lv_aload_n hx hb dX3_init_61 rfl (lv_at hl 1 rfl) ?_
  refine mo_get (v := .ref (b + (k + 2))) E hO hin3 rfl (show k < _ by omega) c17_193 (j := 1) (by decide) rfl w12 rfl dX3_init_62 ?_
  refine mo_alen (v := 8) E hO (show (k + 2) < _ by omega) c17_202 3 rfl rfl dX3_init_65 ?_
  refine lv_icmp_ge (tgt := 88) hx hb dX3_init_66 (by decide) (fun c => absurd c (by decide)) (fun _ => ?_)
  refine lv_aload_n hx hb dX3_init_69 rfl (lv_at hl 1 rfl) ?_
  refine mo_get (v := .ref (b + (k + 2))) E hO hin3 rfl (show k < _ by omega) c17_193 (j := 1) (by decide) rfl w12 rfl dX3_init_70 ?_
  refine lv_iload_n hx hb dX3_init_73 rfl (lv_at hl 0 rfl) ?_
  obtain ⟨f18, e18⟩ : ∃ y, va_up f17 (k + 10) (.inr (1, [.int 0, .int 0, .int 0, .int 0, .int 0, .int 0, .int 0, .int 0]) : va_E) = y := ⟨_, rfl⟩
  refine mo_new (ci := 1) (fs := [.int 0, .int 0, .int 0, .int 0, .int 0, .int 0, .int 0, .int 0]) E hO (by omega) hin1 tyX1_ok rfl w11 w22 w23 (fun j hj => by rcases (show j = 0 ∨ j = 1 ∨ j = 2 ∨ j = 3 ∨ j = 4 ∨ j = 5 ∨ j = 6 ∨ j = 7 by omega) with rfl | rfl | rfl | rfl | rfl | rfl | rfl | rfl <;> rfl) (Nat.le_of_ble_eq_true rfl) (Nat.le_of_ble_eq_true rfl) e18 dX3_init_74 (fun H hO => ?_)
  have c18_216 := (mm_upn e18 (show k ≠ (k + 10) by omega)).trans c17_193
  have c18_217 := (mm_upn e18 (show (k + 1) ≠ (k + 10) by omega)).trans c17_194
  have c18_218 := (mm_upn e18 (show (k + 2) ≠ (k + 10) by omega)).trans c17_202
  have c18_219 := (mm_upn e18 (show (k + 3) ≠ (k + 10) by omega)).trans c17_195
  have c18_220 := (mm_upn e18 (show (k + 4) ≠ (k + 10) by omega)).trans c17_196
  have c18_221 := (mm_upn e18 (show (k + 5) ≠ (k + 10) by omega)).trans c17_197
  have c18_222 := (mm_upn e18 (show (k + 6) ≠ (k + 10) by omega)).trans c17_198
  have c18_223 := (mm_upn e18 (show (k + 7) ≠ (k + 10) by omega)).trans c17_199
  have c18_224 := (mm_upn e18 (show (k + 8) ≠ (k + 10) by omega)).trans c17_200
  have c18_225 := (mm_upn e18 (show (k + 9) ≠ (k + 10) by omega)).trans c17_201
  have c18_226 := mm_ups e18
  have o18_0 : ∀ j, j < k → f18 j = f j := fun j hj => (mm_upn e18 (by omega)).trans (o17_0 j hj)
  refine lv_dup hx hb dX3_init_77 rfl ?_
  refine mo_sz E hO (by omega) (fun hsz => ?_)
  refine mo_go hO (va_runIN (As := []) (rest := [.ref (b + (k + 10)), .int 3, .ref (b + (k + 2))]) ⟨hx, hb, E.1.2.2.1, E.1.2.2.2.1, E.1.2.2.2.2.1⟩ (co_X1_init l G T b z (k + 10) (k + 11) f18) ⟨va_cnB 0 E.1.2.2.2.2.1 gX3_init_X1_init_n49 rfl rfl rfl E.2.2.1.2.2.2.1 w23 df_X1_init.2 ⟨Nat.le_of_ble_eq_true rfl, Nat.le_of_ble_eq_true rfl⟩, rfl, w24⟩ ⟨mm_Bo.blind, mo_pre E hO hsz⟩ rfl rfl hl.1 rfl (lv_room (Nat.le_of_ble_eq_true rfl)) dX3_init_78 ⟨Nat.le_of_ble_eq_true rfl, Nat.le_of_ble_eq_true rfl⟩) (fun H locs hO => ?_)
  obtain ⟨f19, e19⟩ : ∃ y, va_up f18 (k + 2) (.inl (T 3, 8, .inr (.inr (.inr (.inr (va_up (va_up (va_up (va_up (fun _ => none) 0 (some (b + (k + 7)))) 1 (some (b + (k + 8)))) 2 (some (b + (k + 9)))) 3 (some (b + (k + 10)))))))) : va_E) = y := ⟨_, rfl⟩
  refine mo_aast (jn := 3) (ci := 1) (r := (RX1, TX1, 8)) 3 E hO (show (k + 2) < _ by omega) c18_218 rfl (show (k + 10) < _ by omega) c18_226 rfl (by decide) (by decide) e19 dX3_init_81 (fun H locs hO => ?_)
  have c19_233 := (mm_upn e19 (show k ≠ (k + 2) by omega)).trans c18_216
  have c19_234 := (mm_upn e19 (show (k + 1) ≠ (k + 2) by omega)).trans c18_217
  have c19_235 := (mm_upn e19 (show (k + 3) ≠ (k + 2) by omega)).trans c18_219
  have c19_236 := (mm_upn e19 (show (k + 4) ≠ (k + 2) by omega)).trans c18_220
  have c19_237 := (mm_upn e19 (show (k + 5) ≠ (k + 2) by omega)).trans c18_221
  have c19_238 := (mm_upn e19 (show (k + 6) ≠ (k + 2) by omega)).trans c18_222
  have c19_239 := (mm_upn e19 (show (k + 7) ≠ (k + 2) by omega)).trans c18_223
  have c19_240 := (mm_upn e19 (show (k + 8) ≠ (k + 2) by omega)).trans c18_224
  have c19_241 := (mm_upn e19 (show (k + 9) ≠ (k + 2) by omega)).trans c18_225
  have c19_242 := (mm_upn e19 (show (k + 10) ≠ (k + 2) by omega)).trans c18_226
  have c19_243 := mm_ups e19
  have o19_0 : ∀ j, j < k → f19 j = f j := fun j hj => (mm_upn e19 (by omega)).trans (o18_0 j hj)
  refine lv_iinc (v := 4) (lv' := [(1, .int 4), (0, .ref (b + k))]) hx hb dX3_init_82 hl (k := 0) rfl (by decide) (by decide) rfl (fun ls hl => ?_)
  refine lv_goto (tgt := 60) hx hb dX3_init_85 (by decide) ?_
  refine lv_iload_n hx hb dX3_init_60 rfl (lv_at hl 0 rfl) ?_
  refine lv_aload_n hx hb dX3_init_61 rfl (lv_at hl 1 rfl) ?_
  refine mo_get (v := .ref (b + (k + 2))) E hO hin3 rfl (show k < _ by omega) c19_233 (j := 1) (by decide) rfl w12 rfl dX3_init_62 ?_
  refine mo_alen (v := 8) E hO (show (k + 2) < _ by omega) c19_243 3 rfl rfl dX3_init_65 ?_
  refine lv_icmp_ge (tgt := 88) hx hb dX3_init_66 (by decide) (fun c => absurd c (by decide)) (fun _ => ?_)
  refine lv_aload_n hx hb dX3_init_69 rfl (lv_at hl 1 rfl) ?_
  refine mo_get (v := .ref (b + (k + 2))) E hO hin3 rfl (show k < _ by omega) c19_233 (j := 1) (by decide) rfl w12 rfl dX3_init_70 ?_
  refine lv_iload_n hx hb dX3_init_73 rfl (lv_at hl 0 rfl) ?_
  obtain ⟨f20, e20⟩ : ∃ y, va_up f19 (k + 11) (.inr (1, [.int 0, .int 0, .int 0, .int 0, .int 0, .int 0, .int 0, .int 0]) : va_E) = y := ⟨_, rfl⟩
  refine mo_new (ci := 1) (fs := [.int 0, .int 0, .int 0, .int 0, .int 0, .int 0, .int 0, .int 0]) E hO (by omega) hin1 tyX1_ok rfl w11 w22 w23 (fun j hj => by rcases (show j = 0 ∨ j = 1 ∨ j = 2 ∨ j = 3 ∨ j = 4 ∨ j = 5 ∨ j = 6 ∨ j = 7 by omega) with rfl | rfl | rfl | rfl | rfl | rfl | rfl | rfl <;> rfl) (Nat.le_of_ble_eq_true rfl) (Nat.le_of_ble_eq_true rfl) e20 dX3_init_74 (fun H hO => ?_)
  have c20_257 := (mm_upn e20 (show k ≠ (k + 11) by omega)).trans c19_233
  have c20_258 := (mm_upn e20 (show (k + 1) ≠ (k + 11) by omega)).trans c19_234
  have c20_259 := (mm_upn e20 (show (k + 2) ≠ (k + 11) by omega)).trans c19_243
  have c20_260 := (mm_upn e20 (show (k + 3) ≠ (k + 11) by omega)).trans c19_235
  have c20_261 := (mm_upn e20 (show (k + 4) ≠ (k + 11) by omega)).trans c19_236
  have c20_262 := (mm_upn e20 (show (k + 5) ≠ (k + 11) by omega)).trans c19_237
  have c20_263 := (mm_upn e20 (show (k + 6) ≠ (k + 11) by omega)).trans c19_238
  have c20_264 := (mm_upn e20 (show (k + 7) ≠ (k + 11) by omega)).trans c19_239
  have c20_265 := (mm_upn e20 (show (k + 8) ≠ (k + 11) by omega)).trans c19_240
  have c20_266 := (mm_upn e20 (show (k + 9) ≠ (k + 11) by omega)).trans c19_241
  have c20_267 := (mm_upn e20 (show (k + 10) ≠ (k + 11) by omega)).trans c19_242
  have c20_268 := mm_ups e20
  have o20_0 : ∀ j, j < k → f20 j = f j := fun j hj => (mm_upn e20 (by omega)).trans (o19_0 j hj)
  refine lv_dup hx hb dX3_init_77 rfl ?_
  refine mo_sz E hO (by omega) (fun hsz => ?_)
  refine mo_go hO (va_runIN (As := []) (rest := [.ref (b + (k + 11)), .int 4, .ref (b + (k + 2))]) ⟨hx, hb, E.1.2.2.1, E.1.2.2.2.1, E.1.2.2.2.2.1⟩ (co_X1_init l G T b z (k + 11) (k + 12) f20) ⟨va_cnB 0 E.1.2.2.2.2.1 gX3_init_X1_init_n49 rfl rfl rfl E.2.2.1.2.2.2.1 w23 df_X1_init.2 ⟨Nat.le_of_ble_eq_true rfl, Nat.le_of_ble_eq_true rfl⟩, rfl, w24⟩ ⟨mm_Bo.blind, mo_pre E hO hsz⟩ rfl rfl hl.1 rfl (lv_room (Nat.le_of_ble_eq_true rfl)) dX3_init_78 ⟨Nat.le_of_ble_eq_true rfl, Nat.le_of_ble_eq_true rfl⟩) (fun H locs hO => ?_)
  obtain ⟨f21, e21⟩ : ∃ y, va_up f20 (k + 2) (.inl (T 3, 8, .inr (.inr (.inr (.inr (va_up (va_up (va_up (va_up (va_up (fun _ => none) 0 (some (b + (k + 7)))) 1 (some (b + (k + 8)))) 2 (some (b + (k + 9)))) 3 (some (b + (k + 10)))) 4 (some (b + (k + 11)))))))) : va_E) = y := ⟨_, rfl⟩
  refine mo_aast (jn := 4) (ci := 1) (r := (RX1, TX1, 8)) 3 E hO (show (k + 2) < _ by omega) c20_259 rfl (show (k + 11) < _ by omega) c20_268 rfl (by decide) (by decide) e21 dX3_init_81 (fun H locs hO => ?_)
  have c21_275 := (mm_upn e21 (show k ≠ (k + 2) by omega)).trans c20_257
  have c21_276 := (mm_upn e21 (show (k + 1) ≠ (k + 2) by omega)).trans c20_258
  have c21_277 := (mm_upn e21 (show (k + 3) ≠ (k + 2) by omega)).trans c20_260
  have c21_278 := (mm_upn e21 (show (k + 4) ≠ (k + 2) by omega)).trans c20_261
  have c21_279 := (mm_upn e21 (show (k + 5) ≠ (k + 2) by omega)).trans c20_262
  have c21_280 := (mm_upn e21 (show (k + 6) ≠ (k + 2) by omega)).trans c20_263
  have c21_281 := (mm_upn e21 (show (k + 7) ≠ (k + 2) by omega)).trans c20_264
  have c21_282 := (mm_upn e21 (show (k + 8) ≠ (k + 2) by omega)).trans c20_265
  have c21_283 := (mm_upn e21 (show (k + 9) ≠ (k + 2) by omega)).trans c20_266
  have c21_284 := (mm_upn e21 (show (k + 10) ≠ (k + 2) by omega)).trans c20_267
  have c21_285 := (mm_upn e21 (show (k + 11) ≠ (k + 2) by omega)).trans c20_268
  have c21_286 := mm_ups e21
  have o21_0 : ∀ j, j < k → f21 j = f j := fun j hj => (mm_upn e21 (by omega)).trans (o20_0 j hj)
  refine lv_iinc (v := 5) (lv' := [(1, .int 5), (0, .ref (b + k))]) hx hb dX3_init_82 hl (k := 0) rfl (by decide) (by decide) rfl (fun ls hl => ?_)
  refine lv_goto (tgt := 60) hx hb dX3_init_85 (by decide) ?_
  refine lv_iload_n hx hb dX3_init_60 rfl (lv_at hl 0 rfl) ?_
  refine lv_aload_n hx hb dX3_init_61 rfl (lv_at hl 1 rfl) ?_
  refine mo_get (v := .ref (b + (k + 2))) E hO hin3 rfl (show k < _ by omega) c21_275 (j := 1) (by decide) rfl w12 rfl dX3_init_62 ?_
  refine mo_alen (v := 8) E hO (show (k + 2) < _ by omega) c21_286 3 rfl rfl dX3_init_65 ?_
  refine lv_icmp_ge (tgt := 88) hx hb dX3_init_66 (by decide) (fun c => absurd c (by decide)) (fun _ => ?_)
  refine lv_aload_n hx hb dX3_init_69 rfl (lv_at hl 1 rfl) ?_
  refine mo_get (v := .ref (b + (k + 2))) E hO hin3 rfl (show k < _ by omega) c21_275 (j := 1) (by decide) rfl w12 rfl dX3_init_70 ?_
  refine lv_iload_n hx hb dX3_init_73 rfl (lv_at hl 0 rfl) ?_
  obtain ⟨f22, e22⟩ : ∃ y, va_up f21 (k + 12) (.inr (1, [.int 0, .int 0, .int 0, .int 0, .int 0, .int 0, .int 0, .int 0]) : va_E) = y := ⟨_, rfl⟩
  refine mo_new (ci := 1) (fs := [.int 0, .int 0, .int 0, .int 0, .int 0, .int 0, .int 0, .int 0]) E hO (by omega) hin1 tyX1_ok rfl w11 w22 w23 (fun j hj => by rcases (show j = 0 ∨ j = 1 ∨ j = 2 ∨ j = 3 ∨ j = 4 ∨ j = 5 ∨ j = 6 ∨ j = 7 by omega) with rfl | rfl | rfl | rfl | rfl | rfl | rfl | rfl <;> rfl) (Nat.le_of_ble_eq_true rfl) (Nat.le_of_ble_eq_true rfl) e22 dX3_init_74 (fun H hO => ?_)
  have c22_300 := (mm_upn e22 (show k ≠ (k + 12) by omega)).trans c21_275
  have c22_301 := (mm_upn e22 (show (k + 1) ≠ (k + 12) by omega)).trans c21_276
  have c22_302 := (mm_upn e22 (show (k + 2) ≠ (k + 12) by omega)).trans c21_286
  have c22_303 := (mm_upn e22 (show (k + 3) ≠ (k + 12) by omega)).trans c21_277
  have c22_304 := (mm_upn e22 (show (k + 4) ≠ (k + 12) by omega)).trans c21_278
  have c22_305 := (mm_upn e22 (show (k + 5) ≠ (k + 12) by omega)).trans c21_279
  have c22_306 := (mm_upn e22 (show (k + 6) ≠ (k + 12) by omega)).trans c21_280
  have c22_307 := (mm_upn e22 (show (k + 7) ≠ (k + 12) by omega)).trans c21_281
  have c22_308 := (mm_upn e22 (show (k + 8) ≠ (k + 12) by omega)).trans c21_282
  have c22_309 := (mm_upn e22 (show (k + 9) ≠ (k + 12) by omega)).trans c21_283
  have c22_310 := (mm_upn e22 (show (k + 10) ≠ (k + 12) by omega)).trans c21_284
  have c22_311 := (mm_upn e22 (show (k + 11) ≠ (k + 12) by omega)).trans c21_285
  have c22_312 := mm_ups e22
  have o22_0 : ∀ j, j < k → f22 j = f j := fun j hj => (mm_upn e22 (by omega)).trans (o21_0 j hj)
  refine lv_dup hx hb dX3_init_77 rfl ?_
  refine mo_sz E hO (by omega) (fun hsz => ?_)
  refine mo_go hO (va_runIN (As := []) (rest := [.ref (b + (k + 12)), .int 5, .ref (b + (k + 2))]) ⟨hx, hb, E.1.2.2.1, E.1.2.2.2.1, E.1.2.2.2.2.1⟩ (co_X1_init l G T b z (k + 12) (k + 13) f22) ⟨va_cnB 0 E.1.2.2.2.2.1 gX3_init_X1_init_n49 rfl rfl rfl E.2.2.1.2.2.2.1 w23 df_X1_init.2 ⟨Nat.le_of_ble_eq_true rfl, Nat.le_of_ble_eq_true rfl⟩, rfl, w24⟩ ⟨mm_Bo.blind, mo_pre E hO hsz⟩ rfl rfl hl.1 rfl (lv_room (Nat.le_of_ble_eq_true rfl)) dX3_init_78 ⟨Nat.le_of_ble_eq_true rfl, Nat.le_of_ble_eq_true rfl⟩) (fun H locs hO => ?_)
  obtain ⟨f23, e23⟩ : ∃ y, va_up f22 (k + 2) (.inl (T 3, 8, .inr (.inr (.inr (.inr (va_up (va_up (va_up (va_up (va_up (va_up (fun _ => none) 0 (some (b + (k + 7)))) 1 (some (b + (k + 8)))) 2 (some (b + (k + 9)))) 3 (some (b + (k + 10)))) 4 (some (b + (k + 11)))) 5 (some (b + (k + 12)))))))) : va_E) = y := ⟨_, rfl⟩
  refine mo_aast (jn := 5) (ci := 1) (r := (RX1, TX1, 8)) 3 E hO (show (k + 2) < _ by omega) c22_302 rfl (show (k + 12) < _ by omega) c22_312 rfl (by decide) (by decide) e23 dX3_init_81 (fun H locs hO => ?_)
  have c23_319 := (mm_upn e23 (show k ≠ (k + 2) by omega)).trans c22_300
  have c23_320 := (mm_upn e23 (show (k + 1) ≠ (k + 2) by omega)).trans c22_301
  have c23_321 := (mm_upn e23 (show (k + 3) ≠ (k + 2) by omega)).trans c22_303
  have c23_322 := (mm_upn e23 (show (k + 4) ≠ (k + 2) by omega)).trans c22_304
  have c23_323 := (mm_upn e23 (show (k + 5) ≠ (k + 2) by omega)).trans c22_305
  have c23_324 := (mm_upn e23 (show (k + 6) ≠ (k + 2) by omega)).trans c22_306
  have c23_325 := (mm_upn e23 (show (k + 7) ≠ (k + 2) by omega)).trans c22_307
  have c23_326 := (mm_upn e23 (show (k + 8) ≠ (k + 2) by omega)).trans c22_308
  have c23_327 := (mm_upn e23 (show (k + 9) ≠ (k + 2) by omega)).trans c22_309
  have c23_328 := (mm_upn e23 (show (k + 10) ≠ (k + 2) by omega)).trans c22_310
  have c23_329 := (mm_upn e23 (show (k + 11) ≠ (k + 2) by omega)).trans c22_311
  have c23_330 := (mm_upn e23 (show (k + 12) ≠ (k + 2) by omega)).trans c22_312
  have c23_331 := mm_ups e23
  have o23_0 : ∀ j, j < k → f23 j = f j := fun j hj => (mm_upn e23 (by omega)).trans (o22_0 j hj)
  refine lv_iinc (v := 6) (lv' := [(1, .int 6), (0, .ref (b + k))]) hx hb dX3_init_82 hl (k := 0) rfl (by decide) (by decide) rfl (fun ls hl => ?_)
  refine lv_goto (tgt := 60) hx hb dX3_init_85 (by decide) ?_
  refine lv_iload_n hx hb dX3_init_60 rfl (lv_at hl 0 rfl) ?_
  refine lv_aload_n hx hb dX3_init_61 rfl (lv_at hl 1 rfl) ?_
  refine mo_get (v := .ref (b + (k + 2))) E hO hin3 rfl (show k < _ by omega) c23_319 (j := 1) (by decide) rfl w12 rfl dX3_init_62 ?_
  refine mo_alen (v := 8) E hO (show (k + 2) < _ by omega) c23_331 3 rfl rfl dX3_init_65 ?_
  refine lv_icmp_ge (tgt := 88) hx hb dX3_init_66 (by decide) (fun c => absurd c (by decide)) (fun _ => ?_)
  refine lv_aload_n hx hb dX3_init_69 rfl (lv_at hl 1 rfl) ?_
  refine mo_get (v := .ref (b + (k + 2))) E hO hin3 rfl (show k < _ by omega) c23_319 (j := 1) (by decide) rfl w12 rfl dX3_init_70 ?_
  refine lv_iload_n hx hb dX3_init_73 rfl (lv_at hl 0 rfl) ?_
  obtain ⟨f24, e24⟩ : ∃ y, va_up f23 (k + 13) (.inr (1, [.int 0, .int 0, .int 0, .int 0, .int 0, .int 0, .int 0, .int 0]) : va_E) = y := ⟨_, rfl⟩
  refine mo_new (ci := 1) (fs := [.int 0, .int 0, .int 0, .int 0, .int 0, .int 0, .int 0, .int 0]) E hO (by omega) hin1 tyX1_ok rfl w11 w22 w23 (fun j hj => by rcases (show j = 0 ∨ j = 1 ∨ j = 2 ∨ j = 3 ∨ j = 4 ∨ j = 5 ∨ j = 6 ∨ j = 7 by omega) with rfl | rfl | rfl | rfl | rfl | rfl | rfl | rfl <;> rfl) (Nat.le_of_ble_eq_true rfl) (Nat.le_of_ble_eq_true rfl) e24 dX3_init_74 (fun H hO => ?_)
  have c24_345 := (mm_upn e24 (show k ≠ (k + 13) by omega)).trans c23_319
  have c24_346 := (mm_upn e24 (show (k + 1) ≠ (k + 13) by omega)).trans c23_320
  have c24_347 := (mm_upn e24 (show (k + 2) ≠ (k + 13) by omega)).trans c23_331
  have c24_348 := (mm_upn e24 (show (k + 3) ≠ (k + 13) by omega)).trans c23_321
  have c24_349 := (mm_upn e24 (show (k + 4) ≠ (k + 13) by omega)).trans c23_322
  have c24_350 := (mm_upn e24 (show (k + 5) ≠ (k + 13) by omega)).trans c23_323
  have c24_351 := (mm_upn e24 (show (k + 6) ≠ (k + 13) by omega)).trans c23_324
  have c24_352 := (mm_upn e24 (show (k + 7) ≠ (k + 13) by omega)).trans c23_325
  have c24_353 := (mm_upn e24 (show (k + 8) ≠ (k + 13) by omega)).trans c23_326
  have c24_354 := (mm_upn e24 (show (k + 9) ≠ (k + 13) by omega)).trans c23_327
  have c24_355 := (mm_upn e24 (show (k + 10) ≠ (k + 13) by omega)).trans c23_328
  have c24_356 := (mm_upn e24 (show (k + 11) ≠ (k + 13) by omega)).trans c23_329
  have c24_357 := (mm_upn e24 (show (k + 12) ≠ (k + 13) by omega)).trans c23_330
  have c24_358 := mm_ups e24
  have o24_0 : ∀ j, j < k → f24 j = f j := fun j hj => (mm_upn e24 (by omega)).trans (o23_0 j hj)
  refine lv_dup hx hb dX3_init_77 rfl ?_
  refine mo_sz E hO (by omega) (fun hsz => ?_)
  refine mo_go hO (va_runIN (As := []) (rest := [.ref (b + (k + 13)), .int 6, .ref (b + (k + 2))]) ⟨hx, hb, E.1.2.2.1, E.1.2.2.2.1, E.1.2.2.2.2.1⟩ (co_X1_init l G T b z (k + 13) (k + 14) f24) ⟨va_cnB 0 E.1.2.2.2.2.1 gX3_init_X1_init_n49 rfl rfl rfl E.2.2.1.2.2.2.1 w23 df_X1_init.2 ⟨Nat.le_of_ble_eq_true rfl, Nat.le_of_ble_eq_true rfl⟩, rfl, w24⟩ ⟨mm_Bo.blind, mo_pre E hO hsz⟩ rfl rfl hl.1 rfl (lv_room (Nat.le_of_ble_eq_true rfl)) dX3_init_78 ⟨Nat.le_of_ble_eq_true rfl, Nat.le_of_ble_eq_true rfl⟩) (fun H locs hO => ?_)
  obtain ⟨f25, e25⟩ : ∃ y, va_up f24 (k + 2) (.inl (T 3, 8, .inr (.inr (.inr (.inr (va_up (va_up (va_up (va_up (va_up (va_up (va_up (fun _ => none) 0 (some (b + (k + 7)))) 1 (some (b + (k + 8)))) 2 (some (b + (k + 9)))) 3 (some (b + (k + 10)))) 4 (some (b + (k + 11)))) 5 (some (b + (k + 12)))) 6 (some (b + (k + 13)))))))) : va_E) = y := ⟨_, rfl⟩
  refine mo_aast (jn := 6) (ci := 1) (r := (RX1, TX1, 8)) 3 E hO (show (k + 2) < _ by omega) c24_347 rfl (show (k + 13) < _ by omega) c24_358 rfl (by decide) (by decide) e25 dX3_init_81 (fun H locs hO => ?_)
  have c25_365 := (mm_upn e25 (show k ≠ (k + 2) by omega)).trans c24_345
  have c25_366 := (mm_upn e25 (show (k + 1) ≠ (k + 2) by omega)).trans c24_346
  have c25_367 := (mm_upn e25 (show (k + 3) ≠ (k + 2) by omega)).trans c24_348
  have c25_368 := (mm_upn e25 (show (k + 4) ≠ (k + 2) by omega)).trans c24_349
  have c25_369 := (mm_upn e25 (show (k + 5) ≠ (k + 2) by omega)).trans c24_350
  have c25_370 := (mm_upn e25 (show (k + 6) ≠ (k + 2) by omega)).trans c24_351
  have c25_371 := (mm_upn e25 (show (k + 7) ≠ (k + 2) by omega)).trans c24_352
  have c25_372 := (mm_upn e25 (show (k + 8) ≠ (k + 2) by omega)).trans c24_353
  have c25_373 := (mm_upn e25 (show (k + 9) ≠ (k + 2) by omega)).trans c24_354
  have c25_374 := (mm_upn e25 (show (k + 10) ≠ (k + 2) by omega)).trans c24_355
  have c25_375 := (mm_upn e25 (show (k + 11) ≠ (k + 2) by omega)).trans c24_356
  have c25_376 := (mm_upn e25 (show (k + 12) ≠ (k + 2) by omega)).trans c24_357
  have c25_377 := (mm_upn e25 (show (k + 13) ≠ (k + 2) by omega)).trans c24_358
  have c25_378 := mm_ups e25
  have o25_0 : ∀ j, j < k → f25 j = f j := fun j hj => (mm_upn e25 (by omega)).trans (o24_0 j hj)
  refine lv_iinc (v := 7) (lv' := [(1, .int 7), (0, .ref (b + k))]) hx hb dX3_init_82 hl (k := 0) rfl (by decide) (by decide) rfl (fun ls hl => ?_)
  refine lv_goto (tgt := 60) hx hb dX3_init_85 (by decide) ?_
  refine lv_iload_n hx hb dX3_init_60 rfl (lv_at hl 0 rfl) ?_
  refine lv_aload_n hx hb dX3_init_61 rfl (lv_at hl 1 rfl) ?_
  refine mo_get (v := .ref (b + (k + 2))) E hO hin3 rfl (show k < _ by omega) c25_365 (j := 1) (by decide) rfl w12 rfl dX3_init_62 ?_
  refine mo_alen (v := 8) E hO (show (k + 2) < _ by omega) c25_378 3 rfl rfl dX3_init_65 ?_
  refine lv_icmp_ge (tgt := 88) hx hb dX3_init_66 (by decide) (fun c => absurd c (by decide)) (fun _ => ?_)
  refine lv_aload_n hx hb dX3_init_69 rfl (lv_at hl 1 rfl) ?_
  refine mo_get (v := .ref (b + (k + 2))) E hO hin3 rfl (show k < _ by omega) c25_365 (j := 1) (by decide) rfl w12 rfl dX3_init_70 ?_
  refine lv_iload_n hx hb dX3_init_73 rfl (lv_at hl 0 rfl) ?_
  obtain ⟨f26, e26⟩ : ∃ y, va_up f25 (k + 14) (.inr (1, [.int 0, .int 0, .int 0, .int 0, .int 0, .int 0, .int 0, .int 0]) : va_E) = y := ⟨_, rfl⟩
  refine mo_new (ci := 1) (fs := [.int 0, .int 0, .int 0, .int 0, .int 0, .int 0, .int 0, .int 0]) E hO (by omega) hin1 tyX1_ok rfl w11 w22 w23 (fun j hj => by rcases (show j = 0 ∨ j = 1 ∨ j = 2 ∨ j = 3 ∨ j = 4 ∨ j = 5 ∨ j = 6 ∨ j = 7 by omega) with rfl | rfl | rfl | rfl | rfl | rfl | rfl | rfl <;> rfl) (Nat.le_of_ble_eq_true rfl) (Nat.le_of_ble_eq_true rfl) e26 dX3_init_74 (fun H hO => ?_)
  have c26_392 := (mm_upn e26 (show k ≠ (k + 14) by omega)).trans c25_365
  have c26_393 := (mm_upn e26 (show (k + 1) ≠ (k + 14) by omega)).trans c25_366
  have c26_394 := (mm_upn e26 (show (k + 2) ≠ (k + 14) by omega)).trans c25_378
  have c26_395 := (mm_upn e26 (show (k + 3) ≠ (k + 14) by omega)).trans c25_367
  have c26_396 := (mm_upn e26 (show (k + 4) ≠ (k + 14) by omega)).trans c25_368
  have c26_397 := (mm_upn e26 (show (k + 5) ≠ (k + 14) by omega)).trans c25_369
  have c26_398 := (mm_upn e26 (show (k + 6) ≠ (k + 14) by omega)).trans c25_370
  have c26_399 := (mm_upn e26 (show (k + 7) ≠ (k + 14) by omega)).trans c25_371
  have c26_400 := (mm_upn e26 (show (k + 8) ≠ (k + 14) by omega)).trans c25_372
  have c26_401 := (mm_upn e26 (show (k + 9) ≠ (k + 14) by omega)).trans c25_373
  have c26_402 := (mm_upn e26 (show (k + 10) ≠ (k + 14) by omega)).trans c25_374
  have c26_403 := (mm_upn e26 (show (k + 11) ≠ (k + 14) by omega)).trans c25_375
  have c26_404 := (mm_upn e26 (show (k + 12) ≠ (k + 14) by omega)).trans c25_376
  have c26_405 := (mm_upn e26 (show (k + 13) ≠ (k + 14) by omega)).trans c25_377
  have c26_406 := mm_ups e26
  have o26_0 : ∀ j, j < k → f26 j = f j := fun j hj => (mm_upn e26 (by omega)).trans (o25_0 j hj)
  refine lv_dup hx hb dX3_init_77 rfl ?_
  refine mo_sz E hO (by omega) (fun hsz => ?_)
  refine mo_go hO (va_runIN (As := []) (rest := [.ref (b + (k + 14)), .int 7, .ref (b + (k + 2))]) ⟨hx, hb, E.1.2.2.1, E.1.2.2.2.1, E.1.2.2.2.2.1⟩ (co_X1_init l G T b z (k + 14) (k + 15) f26) ⟨va_cnB 0 E.1.2.2.2.2.1 gX3_init_X1_init_n49 rfl rfl rfl E.2.2.1.2.2.2.1 w23 df_X1_init.2 ⟨Nat.le_of_ble_eq_true rfl, Nat.le_of_ble_eq_true rfl⟩, rfl, w24⟩ ⟨mm_Bo.blind, mo_pre E hO hsz⟩ rfl rfl hl.1 rfl (lv_room (Nat.le_of_ble_eq_true rfl)) dX3_init_78 ⟨Nat.le_of_ble_eq_true rfl, Nat.le_of_ble_eq_true rfl⟩) (fun H locs hO => ?_)
  obtain ⟨f27, e27⟩ : ∃ y, va_up f26 (k + 2) (.inl (T 3, 8, .inr (.inr (.inr (.inr (va_up (va_up (va_up (va_up (va_up (va_up (va_up (va_up (fun _ => none) 0 (some (b + (k + 7)))) 1 (some (b + (k + 8)))) 2 (some (b + (k + 9)))) 3 (some (b + (k + 10)))) 4 (some (b + (k + 11)))) 5 (some (b + (k + 12)))) 6 (some (b + (k + 13)))) 7 (some (b + (k + 14)))))))) : va_E) = y := ⟨_, rfl⟩
  refine mo_aast (jn := 7) (ci := 1) (r := (RX1, TX1, 8)) 3 E hO (show (k + 2) < _ by omega) c26_394 rfl (show (k + 14) < _ by omega) c26_406 rfl (by decide) (by decide) e27 dX3_init_81 (fun H locs hO => ?_)
  have c27_413 := (mm_upn e27 (show k ≠ (k + 2) by omega)).trans c26_392
  have c27_414 := (mm_upn e27 (show (k + 1) ≠ (k + 2) by omega)).trans c26_393
  have c27_415 := (mm_upn e27 (show (k + 3) ≠ (k + 2) by omega)).trans c26_395
  have c27_416 := (mm_upn e27 (show (k + 4) ≠ (k + 2) by omega)).trans c26_396
  have c27_417 := (mm_upn e27 (show (k + 5) ≠ (k + 2) by omega)).trans c26_397
  have c27_418 := (mm_upn e27 (show (k + 6) ≠ (k + 2) by omega)).trans c26_398
  have c27_419 := (mm_upn e27 (show (k + 7) ≠ (k + 2) by omega)).trans c26_399
  have c27_420 := (mm_upn e27 (show (k + 8) ≠ (k + 2) by omega)).trans c26_400
  have c27_421 := (mm_upn e27 (show (k + 9) ≠ (k + 2) by omega)).trans c26_401
  have c27_422 := (mm_upn e27 (show (k + 10) ≠ (k + 2) by omega)).trans c26_402
  have c27_423 := (mm_upn e27 (show (k + 11) ≠ (k + 2) by omega)).trans c26_403
  have c27_424 := (mm_upn e27 (show (k + 12) ≠ (k + 2) by omega)).trans c26_404
  have c27_425 := (mm_upn e27 (show (k + 13) ≠ (k + 2) by omega)).trans c26_405
  have c27_426 := (mm_upn e27 (show (k + 14) ≠ (k + 2) by omega)).trans c26_406
  have c27_427 := mm_ups e27
  have o27_0 : ∀ j, j < k → f27 j = f j := fun j hj => (mm_upn e27 (by omega)).trans (o26_0 j hj)
  refine lv_iinc (v := 8) (lv' := [(1, .int 8), (0, .ref (b + k))]) hx hb dX3_init_82 hl (k := 0) rfl (by decide) (by decide) rfl (fun ls hl => ?_)
  refine lv_goto (tgt := 60) hx hb dX3_init_85 (by decide) ?_
  refine lv_iload_n hx hb dX3_init_60 rfl (lv_at hl 0 rfl) ?_
  refine lv_aload_n hx hb dX3_init_61 rfl (lv_at hl 1 rfl) ?_
  refine mo_get (v := .ref (b + (k + 2))) E hO hin3 rfl (show k < _ by omega) c27_413 (j := 1) (by decide) rfl w12 rfl dX3_init_62 ?_
  refine mo_alen (v := 8) E hO (show (k + 2) < _ by omega) c27_427 3 rfl rfl dX3_init_65 ?_
  refine lv_icmp_ge (tgt := 88) hx hb dX3_init_66 (by decide) (fun _ => ?_) (fun c => absurd (by decide) c)
  refine mo_ret E hO (by omega) rfl ?_ hr hlk dX3_init_88
  intro j hj h
  rcases (show j < k ∨ j = k ∨ j = k + 1 ∨ j = k + 2 ∨ j = k + 3 ∨ j = k + 4 ∨ j = k + 5 ∨ j = k + 6 ∨ j = k + 7 ∨ j = k + 8 ∨ j = k + 9 ∨ j = k + 10 ∨ j = k + 11 ∨ j = k + 12 ∨ j = k + 13 ∨ j = k + 14 by omega) with q | q | q | q | q | q | q | q | q | q | q | q | q | q | q | q
  · rw [mf3_o hf q]; rwa [o27_0 j q] at h
  · subst q; rw [mf3_n hf (by omega), mm_e3 hk, x0_riv hk]; rwa [c27_413] at h
  · subst q; rw [mf3_n hf (by omega), mm_e6 (mm_rv1 hk).1, x0_set (mm_rv1 hk).1 (mm_rv1 hk).2, (mm_rv1 hk).2]; rwa [c27_414] at h
  · subst q; rw [mf3_n hf (by omega), mm_e9 (mm_rv2 hk)]; rw [c27_427] at h; exact mm_atq h (fun j hj => by rcases (show j = 0 ∨ j = 1 ∨ j = 2 ∨ j = 3 ∨ j = 4 ∨ j = 5 ∨ j = 6 ∨ j = 7 by omega) with rfl | rfl | rfl | rfl | rfl | rfl | rfl | rfl <;> rfl)
  · subst q; rw [mf3_n hf (by omega), mm_e0 (mm_rv3 hk), x0_jou (mm_rv3 hk)]; rwa [c27_415] at h
  · subst q; have hj0 := mm_jn1 (mm_rv3 hk); rw [mf3_n hf (by omega), show k + 4 = k + 3 + 1 from rfl, mm_e6 hj0.1, x0_jar hj0.1 hj0.2, hj0.2]; rwa [c27_416] at h
  · subst q; have hj0 := mm_jn2 (mm_rv3 hk); rw [mf3_n hf (by omega), show k + 5 = k + 3 + 2 from rfl, mm_e6 hj0.1, x0_jar hj0.1 hj0.2, hj0.2]; rwa [c27_417] at h
  · subst q; have hj0 := mm_jn3 (mm_rv3 hk); rw [mf3_n hf (by omega), show k + 6 = k + 3 + 3 from rfl, mm_e6 hj0.1, x0_jar hj0.1 hj0.2, hj0.2]; rwa [c27_418] at h
  · subst q; have hj0 := mm_rvl (j := 0) hk (by decide); rw [mf3_n hf (by omega), show k + 7 = k + (7 + 0) from rfl, mm_e1 hj0, x0_lan hj0]; rwa [c27_419] at h
  · subst q; have hj0 := mm_rvl (j := 1) hk (by decide); rw [mf3_n hf (by omega), show k + 8 = k + (7 + 1) from rfl, mm_e1 hj0, x0_lan hj0]; rwa [c27_420] at h
  · subst q; have hj0 := mm_rvl (j := 2) hk (by decide); rw [mf3_n hf (by omega), show k + 9 = k + (7 + 2) from rfl, mm_e1 hj0, x0_lan hj0]; rwa [c27_421] at h
  · subst q; have hj0 := mm_rvl (j := 3) hk (by decide); rw [mf3_n hf (by omega), show k + 10 = k + (7 + 3) from rfl, mm_e1 hj0, x0_lan hj0]; rwa [c27_422] at h
  · subst q; have hj0 := mm_rvl (j := 4) hk (by decide); rw [mf3_n hf (by omega), show k + 11 = k + (7 + 4) from rfl, mm_e1 hj0, x0_lan hj0]; rwa [c27_423] at h
  · subst q; have hj0 := mm_rvl (j := 5) hk (by decide); rw [mf3_n hf (by omega), show k + 12 = k + (7 + 5) from rfl, mm_e1 hj0, x0_lan hj0]; rwa [c27_424] at h
  · subst q; have hj0 := mm_rvl (j := 6) hk (by decide); rw [mf3_n hf (by omega), show k + 13 = k + (7 + 6) from rfl, mm_e1 hj0, x0_lan hj0]; rwa [c27_425] at h
  · subst q; have hj0 := mm_rvl (j := 7) hk (by decide); rw [mf3_n hf (by omega), show k + 14 = k + (7 + 7) from rfl, mm_e1 hj0, x0_lan hj0]; rwa [c27_426] at h
