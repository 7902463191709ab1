abbrev rm_X4_init : Room := { frames := 3, cells := 156, slots := 1615, locals := 53 }
theorem df_X4_init : yX4_init.cls = RX4 ∧ yX4_init.cls ≠ "java/lang/invoke/MethodHandle" ∧ yX4_init.cls ≠ "java/lang/invoke/VarHandle" ∧ (parseMethodDescriptor yX4_init.desc).map (fun d => d.parameters.length) = some 0 := by decide +kernel
set_option maxRecDepth 100000 in
set_option maxHeartbeats 8000000 in
theorem co_X4_init (l : Launch) (G : va_G) (T : Nat → ClassId) (b : Nat) (z : Nat → Nat)  (f : Nat → va_E) (hk0 : f 0 = .inr (4, [.null, .null, .int 0, .null, .null, .null, .null])) : mm_Co l yX4_init wsX4_init rm_X4_init G T b z [.ref (b + 0)] 1 f 157 (mm_ent T b mm_x0) 156 1615 := by
  refine mo_start (cc := cX4_init) (maxL := 2) (by decide) rfl rfl (Nat.le_of_ble_eq_true rfl) (fun p e s m below meth c ls E hr hlk hi0 hO hl => ?_)
  have hl : lv_has ls 2 [(0, .ref (b + 0))] := hl
  have hx := E.1.1
  have hb := E.1.2.1
  have w1 := E.1.2.2.2.2.1 (.methodLink RX4 1 objectInit) (by decide +kernel)
  have w2 := E.1.2.2.2.2.1 (.instanceMethod objectInit) (by decide +kernel)
  have w3 := E.1.2.2.2.2.1 (.code objectInit ⟨#[0xb1]⟩ 1 none) (by decide +kernel)
  have w4 := E.1.2.2.2.2.1 (.classLink RX4 7 RX3) (by decide +kernel)
  have w5 := E.1.2.2.2.2.1 (.instantiable RX3 7) (by decide +kernel)
  have w6 := E.1.2.2.2.2.1 (.initialized RX3) (by decide +kernel)
  have w7 := E.1.2.2.2.2.1 (.instanceMethod yX3_init) (by decide +kernel)
  have w8 := E.1.2.2.2.2.1 (.methodLink RX4 9 yX3_init) (by decide +kernel)
  have w9 := E.1.2.2.2.2.1 (.fieldLink RX4 10 "LandingFines" "river" "LLandingFines$River;") (by decide +kernel)
  have w10 := E.1.2.2.2.2.1 (.fieldLink RX4 16 "LandingFines" "history" "[LLandingFines$River;") (by decide +kernel)
  have w11 := E.1.2.2.2.2.1 (.fieldLink RX4 20 "LandingFines" "historySize" "I") (by decide +kernel)
  have w12 := E.1.2.2.2.2.1 (.fieldLink RX4 24 "LandingFines" "slots" "[LLandingFines$River;") (by decide +kernel)
  have w13 := E.1.2.2.2.2.1 (.arrayClass .boolean) (by decide +kernel)
  have w14 := E.1.2.2.2.2.1 (.fieldLink RX4 27 "LandingFines" "slotUsed" "[Z") (by decide +kernel)
  have w15 := E.1.2.2.2.2.1 (.classLink RX4 31 RX2) (by decide +kernel)
  have w16 := E.1.2.2.2.2.1 (.instantiable RX2 6) (by decide +kernel)
  have w17 := E.1.2.2.2.2.1 (.initialized RX2) (by decide +kernel)
  have w18 := E.1.2.2.2.2.1 (.instanceMethod yX2_init) (by decide +kernel)
  have w19 := E.1.2.2.2.2.1 (.fieldLink RX4 34 "LandingFines" "pad" "LLandingFines$Pad;") (by decide +kernel)
  have w20 := E.1.2.2.2.2.1 (.classLink RX4 38 RX1) (by decide +kernel)
  have w21 := E.1.2.2.2.2.1 (.instantiable RX1 8) (by decide +kernel)
  have w22 := E.1.2.2.2.2.1 (.initialized RX1) (by decide +kernel)
  have w23 := E.1.2.2.2.2.1 (.instanceMethod yX1_init) (by decide +kernel)
  have w24 := E.1.2.2.2.2.1 (.fieldLink RX4 41 "LandingFines" "trial" "LLandingFines$Landing;") (by decide +kernel)
  have hin1 : ∀ w ∈ wsX10, w ∈ wsX4_init := by decide +kernel
  have hin2 : ∀ w ∈ wsX20, w ∈ wsX4_init := by decide +kernel
  have hin3 : ∀ w ∈ wsX30, w ∈ wsX4_init := by decide +kernel
  have hin4 : ∀ w ∈ wsX40, w ∈ wsX4_init := by decide +kernel
  refine lv_aload_n hx hb dX4_init_0 rfl (lv_at hl 0 rfl) ?_
  refine W.objInit hx hb E.1.2.2.2.1 w1 w2 w3 rfl (by rw [E.1.2.2.1]; exact hl.1) rfl dX4_init_1 (Nat.le_of_ble_eq_true rfl) (Nat.le_of_ble_eq_true rfl) ?_
  refine W.eq (g2 := F0 m 4 ls []) rfl ?_
  refine lv_aload_n hx hb dX4_init_4 rfl (lv_at hl 0 rfl) ?_
  obtain ⟨f1, e1⟩ : ∃ y, va_up f 1 (.inr (3, [.null, .null, .int 0, .int 0, .int 0, .int 0, .null]) : va_E) = y := ⟨_, rfl⟩
  refine mo_new (ci := 3) (fs := [.null, .null, .int 0, .int 0, .int 0, .int 0, .null]) E hO (by omega) hin3 tyX3_ok rfl w4 w5 w6 (fun j hj => by rcases (show j = 0 ∨ j = 1 ∨ j = 2 ∨ j = 3 ∨ j = 4 ∨ j = 5 ∨ j = 6 by omega) with rfl | rfl | rfl | rfl | rfl | rfl | rfl <;> rfl) (Nat.le_of_ble_eq_true rfl) (Nat.le_of_ble_eq_true rfl) e1 dX4_init_5 (fun H hO => ?_)
  have c1_6 := (mm_upn e1 (show 0 ≠ 1 by omega)).trans hk0
  have c1_7 := mm_ups e1
  refine lv_dup hx hb dX4_init_8 rfl ?_
  refine mo_sz E hO (by omega) (fun hsz => ?_)
  obtain ⟨f2, e2⟩ : ∃ y, mf_3 T b f1 1 = y := ⟨_, rfl⟩
  refine mo_go hO (va_runI (As := []) (rest := [.ref (b + 1), .ref (b + 0)]) ⟨hx, hb, E.1.2.2.1, E.1.2.2.2.1, E.1.2.2.2.2.1⟩ (co_X3_init l G T b z 1 f1 kr_1 c1_7 e2) (cwI 0 E.1.2.2.2.2.1 gX4_init_X3_init rfl rfl rfl w6 w8 w7 rfl df_X3_init.2 ⟨Nat.le_of_ble_eq_true rfl, Nat.le_of_ble_eq_true rfl⟩) ⟨mm_Bo.blind, mo_pre E hO hsz⟩ rfl rfl hl.1 rfl (lv_room (Nat.le_of_ble_eq_true rfl)) dX4_init_9 ⟨Nat.le_of_ble_eq_true rfl, Nat.le_of_ble_eq_true rfl⟩) (fun H locs hO => ?_)
  have c2_12 := (mf3_o e2 (show 0 < 1 by omega)).trans c1_6
  have o2_r : ∀ j, 1 ≤ j ∧ j < 16 → f2 j = mm_ent T b mm_x0 j := fun j hj => mf3_n e2 hj.1
  obtain ⟨f3, e3⟩ : ∃ y, va_up f2 0 (.inr (4, [.ref (b + 1), .null, .int 0, .null, .null, .null, .null]) : va_E) = y := ⟨_, rfl⟩
  refine mo_putF (ty := .object "LandingFines$River") E hO hi0 rfl hin4 tyX4_ok nmX4 rfl (show 0 < _ by omega) c2_12 (j := 0) (by decide) rfl w9 (by decide +kernel) rfl rfl (Nat.le_of_ble_eq_true rfl) e3 dX4_init_12 (fun H locs hO => ?_)
  have c3_16 := mm_ups e3
  have o3_0 : ∀ j, 1 ≤ j ∧ j < 16 → f3 j = mm_ent T b mm_x0 j := fun j hj => (mm_upn e3 (by omega)).trans (o2_r j hj)
  refine lv_aload_n hx hb dX4_init_15 rfl (lv_at hl 0 rfl) ?_
  refine lv_bipush (v := 7) hx hb dX4_init_16 (by decide) ?_
  obtain ⟨f4, e4⟩ : ∃ y, va_up f3 16 (.inl (T 4, 7, .inr (.inr (.inr (.inr (fun _ => none))))) : va_E) = y := ⟨_, rfl⟩
  refine mo_newq (C := RX3) (N' := 7) 4 E hO (by omega) w4 E.2.2.1.2.2.2.2.2.2 rfl (by decide) (by decide) (by decide) (Nat.le_of_ble_eq_true rfl) (Nat.le_of_ble_eq_true rfl) e4 dX4_init_18 (fun H hO => ?_)
  have c4_22 := (mm_upn e4 (show 0 ≠ 16 by omega)).trans c3_16
  have c4_23 := mm_ups e4
  have o4_0 : ∀ j, 1 ≤ j ∧ j < 16 → f4 j = mm_ent T b mm_x0 j := fun j hj => (mm_upn e4 (by omega)).trans (o3_0 j hj)
  obtain ⟨f5, e5⟩ : ∃ y, va_up f4 0 (.inr (4, [.ref (b + 1), .ref (b + 16), .int 0, .null, .null, .null, .null]) : va_E) = y := ⟨_, rfl⟩
  refine mo_putF (ty := .array (.object "LandingFines$River")) E hO hi0 rfl hin4 tyX4_ok nmX4 rfl (show 0 < _ by omega) c4_22 (j := 1) (by decide) rfl w10 (by decide +kernel) rfl rfl (Nat.le_of_ble_eq_true rfl) e5 dX4_init_21 (fun H locs hO => ?_)
  have c5_27 := (mm_upn e5 (show 16 ≠ 0 by omega)).trans c4_23
  have c5_28 := mm_ups e5
  have o5_0 : ∀ j, 1 ≤ j ∧ j < 16 → f5 j = mm_ent T b mm_x0 j := fun j hj => (mm_upn e5 (by omega)).trans (o4_0 j hj)
  refine lv_aload_n hx hb dX4_init_24 rfl (lv_at hl 0 rfl) ?_
  refine lv_iconst (v := 0) hx hb dX4_init_25 (by decide) ?_
  obtain ⟨f6, e6⟩ : ∃ y, va_up f5 0 (.inr (4, [.ref (b + 1), .ref (b + 16), .int 0, .null, .null, .null, .null]) : va_E) = y := ⟨_, rfl⟩
  refine mo_put (ty := .int) E hO hin4 tyX4_ok nmX4 rfl (show 0 < _ by omega) c5_28 (j := 2) (by decide) rfl w11 (by decide +kernel) rfl rfl (Nat.le_of_ble_eq_true rfl) e6 dX4_init_26 (fun H locs hO => ?_)
  have c6_34 := (mm_upn e6 (show 16 ≠ 0 by omega)).trans c5_27
  have c6_35 := mm_ups e6
  have o6_0 : ∀ j, 1 ≤ j ∧ j < 16 → f6 j = mm_ent T b mm_x0 j := fun j hj => (mm_upn e6 (by omega)).trans (o5_0 j hj)
  refine lv_aload_n hx hb dX4_init_29 rfl (lv_at hl 0 rfl) ?_
  refine lv_iconst (v := 2) hx hb dX4_init_30 (by decide) ?_
  obtain ⟨f7, e7⟩ : ∃ y, va_up f6 17 (.inl (T 4, 2, .inr (.inr (.inr (.inr (fun _ => none))))) : va_E) = y := ⟨_, rfl⟩
  refine mo_newq (C := RX3) (N' := 2) 4 E hO (by omega) w4 E.2.2.1.2.2.2.2.2.2 rfl (by decide) (by decide) (by decide) (Nat.le_of_ble_eq_true rfl) (Nat.le_of_ble_eq_true rfl) e7 dX4_init_31 (fun H hO => ?_)
  have c7_41 := (mm_upn e7 (show 0 ≠ 17 by omega)).trans c6_35
  have c7_42 := (mm_upn e7 (show 16 ≠ 17 by omega)).trans c6_34
  have c7_43 := mm_ups e7
  have o7_0 : ∀ j, 1 ≤ j ∧ j < 16 → f7 j = mm_ent T b mm_x0 j := fun j hj => (mm_upn e7 (by omega)).trans (o6_0 j hj)
  obtain ⟨f8, e8⟩ : ∃ y, va_up f7 0 (.inr (4, [.ref (b + 1), .ref (b + 16), .int 0, .ref (b + 17), .null, .null, .null]) : va_E) = y := ⟨_, rfl⟩
  refine mo_putF (ty := .array (.object "LandingFines$River")) E hO hi0 rfl hin4 tyX4_ok nmX4 rfl (show 0 < _ by omega) c7_41 (j := 3) (by decide) rfl w12 (by decide +kernel) rfl rfl (Nat.le_of_ble_eq_true rfl) e8 dX4_init_34 (fun H locs hO => ?_)
  have c8_47 := (mm_upn e8 (show 16 ≠ 0 by omega)).trans c7_42
  have c8_48 := (mm_upn e8 (show 17 ≠ 0 by omega)).trans c7_43
  have c8_49 := mm_ups e8
  have o8_0 : ∀ j, 1 ≤ j ∧ j < 16 → f8 j = mm_ent T b mm_x0 j := fun j hj => (mm_upn e8 (by omega)).trans (o7_0 j hj)
  refine lv_aload_n hx hb dX4_init_37 rfl (lv_at hl 0 rfl) ?_
  refine lv_iconst (v := 2) hx hb dX4_init_38 (by decide) ?_
  obtain ⟨f9, e9⟩ : ∃ y, va_up f8 18 (.inl (T 2, 2, .inl (fun _ => 0)) : va_E) = y := ⟨_, rfl⟩
  refine mo_newa (atype := .boolean) (ty := .boolean) (N' := 2) (a0 := (2, .inl (fun _ => 0))) 2 E hO (by omega) w13 rfl rfl (fun _ => rfl) (by decide) (by decide) (by decide) (Nat.le_of_ble_eq_true rfl) (Nat.le_of_ble_eq_true rfl) e9 dX4_init_39 (fun H hO => ?_)
  have c9_55 := (mm_upn e9 (show 0 ≠ 18 by omega)).trans c8_49
  have c9_56 := (mm_upn e9 (show 16 ≠ 18 by omega)).trans c8_47
  have c9_57 := (mm_upn e9 (show 17 ≠ 18 by omega)).trans c8_48
  have c9_58 := mm_ups e9
  have o9_0 : ∀ j, 1 ≤ j ∧ j < 16 → f9 j = mm_ent T b mm_x0 j := fun j hj => (mm_upn e9 (by omega)).trans (o8_0 j hj)
  obtain ⟨f10, e10⟩ : ∃ y, va_up f9 0 (.inr (4, [.ref (b + 1), .ref (b + 16), .int 0, .ref (b + 17), .ref (b + 18), .null, .null]) : va_E) = y := ⟨_, rfl⟩
  refine mo_putF (ty := .array .boolean) E hO hi0 rfl hin4 tyX4_ok nmX4 rfl (show 0 < _ by omega) c9_55 (j := 4) (by decide) rfl w14 (by decide +kernel) rfl rfl (Nat.le_of_ble_eq_true rfl) e10 dX4_init_41 (fun H locs hO => ?_)
  have c10_62 := (mm_upn e10 (show 16 ≠ 0 by omega)).trans c9_56
  have c10_63 := (mm_upn e10 (show 17 ≠ 0 by omega)).trans c9_57
  have c10_64 := (mm_upn e10 (show 18 ≠ 0 by omega)).trans c9_58
  have c10_65 := mm_ups e10
  have o10_0 : ∀ j, 1 ≤ j ∧ j < 16 → f10 j = mm_ent T b mm_x0 j := fun j hj => (mm_upn e10 (by omega)).trans (o9_0 j hj)
  refine lv_aload_n hx hb dX4_init_44 rfl (lv_at hl 0 rfl) ?_
  obtain ⟨f11, e11⟩ : ∃ y, va_up f10 19 (.inr (2, [.null, .int 0, .int 0, .int 0, .int 0, .int 0]) : va_E) = y := ⟨_, rfl⟩
  refine mo_new (ci := 2) (fs := [.null, .int 0, .int 0, .int 0, .int 0, .int 0]) E hO (by omega) hin2 tyX2_ok rfl w15 w16 w17 (fun j hj => by rcases (show j = 0 ∨ j = 1 ∨ j = 2 ∨ j = 3 ∨ j = 4 ∨ j = 5 by omega) with rfl | rfl | rfl | rfl | rfl | rfl <;> rfl) (Nat.le_of_ble_eq_true rfl) (Nat.le_of_ble_eq_true rfl) e11 dX4_init_45 (fun H hO => ?_)
  have c11_70 := (mm_upn e11 (show 0 ≠ 19 by omega)).trans c10_65
  have c11_71 := (mm_upn e11 (show 16 ≠ 19 by omega)).trans c10_62
  have c11_72 := (mm_upn e11 (show 17 ≠ 19 by omega)).trans c10_63
  have c11_73 := (mm_upn e11 (show 18 ≠ 19 by omega)).trans c10_64
  have c11_74 := mm_ups e11
  have o11_0 : ∀ j, 1 ≤ j ∧ j < 16 → f11 j = mm_ent T b mm_x0 j := fun j hj => (mm_upn e11 (by omega)).trans (o10_0 j hj)
  refine lv_dup hx hb dX4_init_48 rfl ?_
  refine mo_sz E hO (by omega) (fun hsz => ?_)
  obtain ⟨f12, e12⟩ : ∃ y, mf_2 T b f11 19 20 = y := ⟨_, rfl⟩
  refine mo_go hO (va_runIN (As := []) (rest := [.ref (b + 19), .ref (b + 0)]) ⟨hx, hb, E.1.2.2.1, E.1.2.2.2.1, E.1.2.2.2.2.1⟩ (co_X2_init l G T b z 19 20 f11 (by omega) c11_74 e12) ⟨va_cnB 0 E.1.2.2.2.2.1 gX4_init_X2_init_n33 rfl rfl rfl E.2.2.1.1 w17 df_X2_init.2 ⟨Nat.le_of_ble_eq_true rfl, Nat.le_of_ble_eq_true rfl⟩, rfl, w18⟩ ⟨mm_Bo.blind, mo_pre E hO hsz⟩ rfl rfl hl.1 rfl (lv_room (Nat.le_of_ble_eq_true rfl)) dX4_init_49 ⟨Nat.le_of_ble_eq_true rfl, Nat.le_of_ble_eq_true rfl⟩) (fun H locs hO => ?_)
  have c12_80 := (mf2_o e12 (show 0 ≠ 19 by omega) (show 0 < 20 by omega)).trans c11_70
  have c12_81 := (mf2_o e12 (show 16 ≠ 19 by omega) (show 16 < 20 by omega)).trans c11_71
  have c12_82 := (mf2_o e12 (show 17 ≠ 19 by omega) (show 17 < 20 by omega)).trans c11_72
  have c12_83 := (mf2_o e12 (show 18 ≠ 19 by omega) (show 18 < 20 by omega)).trans c11_73
  have o12_0 : ∀ j, 1 ≤ j ∧ j < 16 → f12 j = mm_ent T b mm_x0 j := fun j hj => (mf2_o e12 (by omega) (by omega)).trans (o11_0 j hj)
  have c12_85 : f12 19 = (.inr (2, [.ref (b + 20), .int 0, .int 0, .int 32, .int 0, .int 0]) : va_E) := mf2_k e12
  have c12_86 : f12 20 = (.inl (T 1, 80, .inl (fun _ => 0)) : va_E) := mf2_n e12 (by omega) (by omega)
  obtain ⟨f13, e13⟩ : ∃ y, va_up f12 0 (.inr (4, [.ref (b + 1), .ref (b + 16), .int 0, .ref (b + 17), .ref (b + 18), .ref (b + 19), .null]) : va_E) = y := ⟨_, rfl⟩
  refine mo_putF (ty := .object "LandingFines$Pad") E hO hi0 rfl hin4 tyX4_ok nmX4 rfl (show 0 < _ by omega) c12_80 (j := 5) (by decide) rfl w19 (by decide +kernel) rfl rfl (Nat.le_of_ble_eq_true rfl) e13 dX4_init_52 (fun H locs hO => ?_)
  have c13_89 := (mm_upn e13 (show 16 ≠ 0 by omega)).trans c12_81
  have c13_90 := (mm_upn e13 (show 17 ≠ 0 by omega)).trans c12_82
  have c13_91 := (mm_upn e13 (show 18 ≠ 0 by omega)).trans c12_83
  have c13_92 := (mm_upn e13 (show 19 ≠ 0 by omega)).trans c12_85
  have c13_93 := (mm_upn e13 (show 20 ≠ 0 by omega)).trans c12_86
  have c13_94 := mm_ups e13
  have o13_0 : ∀ j, 1 ≤ j ∧ j < 16 → f13 j = mm_ent T b mm_x0 j := fun j hj => (mm_upn e13 (by omega)).trans (o12_0 j hj)
  refine lv_aload_n hx hb dX4_init_55 rfl (lv_at hl 0 rfl) ?_
  obtain ⟨f14, e14⟩ : ∃ y, va_up f13 21 (.inr (1, [.int 0, .int 0, .int 0, .int 0, .int 0, .int 0, .int 0, .int 0]) : va_E) = y := ⟨_, rfl⟩
  refine mo_new (ci := 1) (fs := [.int 0, .int 0, .int 0, .int 0, .int 0, .int 0, .int 0, .int 0]) E hO (by omega) hin1 tyX1_ok rfl w20 w21 w22 (fun j hj => by rcases (show j = 0 ∨ j = 1 ∨ j = 2 ∨ j = 3 ∨ j = 4 ∨ j = 5 ∨ j = 6 ∨ j = 7 by omega) with rfl | rfl | rfl | rfl | rfl | rfl | rfl | rfl <;> rfl) (Nat.le_of_ble_eq_true rfl) (Nat.le_of_ble_eq_true rfl) e14 dX4_init_56 (fun H hO => ?_)
  have c14_99 := (mm_upn e14 (show 0 ≠ 21 by omega)).trans c13_94
  have c14_100 := (mm_upn e14 (show 16 ≠ 21 by omega)).trans c13_89
  have c14_101 := (mm_upn e14 (show 17 ≠ 21 by omega)).trans c13_90
  have c14_102 := (mm_upn e14 (show 18 ≠ 21 by omega)).trans c13_91
  have c14_103 := (mm_upn e14 (show 19 ≠ 21 by omega)).trans c13_92
  have c14_104 := (mm_upn e14 (show 20 ≠ 21 by omega)).trans c13_93
  have c14_105 := mm_ups e14
  have o14_0 : ∀ j, 1 ≤ j ∧ j < 16 → f14 j = mm_ent T b mm_x0 j := fun j hj => (mm_upn e14 (by omega)).trans (o13_0 j hj)
  refine lv_dup hx hb dX4_init_59 rfl ?_
  refine mo_sz E hO (by omega) (fun hsz => ?_)
  refine mo_go hO (va_runIN (As := []) (rest := [.ref (b + 21), .ref (b + 0)]) ⟨hx, hb, E.1.2.2.1, E.1.2.2.2.1, E.1.2.2.2.2.1⟩ (co_X1_init l G T b z 21 22 f14) ⟨va_cnB 0 E.1.2.2.2.2.1 gX4_init_X1_init_n40 rfl rfl rfl E.2.2.1.2.1 w22 df_X1_init.2 ⟨Nat.le_of_ble_eq_true rfl, Nat.le_of_ble_eq_true rfl⟩, rfl, w23⟩ ⟨mm_Bo.blind, mo_pre E hO hsz⟩ rfl rfl hl.1 rfl (lv_room (Nat.le_of_ble_eq_true rfl)) dX4_init_60 ⟨Nat.le_of_ble_eq_true rfl, Nat.le_of_ble_eq_true rfl⟩) (fun H locs hO => ?_)
  obtain ⟨f15, e15⟩ : ∃ y, va_up f14 0 (.inr (4, [.ref (b + 1), .ref (b + 16), .int 0, .ref (b + 17), .ref (b + 18), .ref (b + 19), .ref (b + 21)]) : va_E) = y := ⟨_, rfl⟩
  refine mo_putF (ty := .object "LandingFines$Landing") E hO hi0 rfl hin4 tyX4_ok nmX4 rfl (show 0 < _ by omega) c14_99 (j := 6) (by decide) rfl w24 (by decide +kernel) rfl rfl (Nat.le_of_ble_eq_true rfl) e15 dX4_init_63 (fun H locs hO => ?_)
  have c15_112 := (mm_upn e15 (show 16 ≠ 0 by omega)).trans c14_100
  have c15_113 := (mm_upn e15 (show 17 ≠ 0 by omega)).trans c14_101
  have c15_114 := (mm_upn e15 (show 18 ≠ 0 by omega)).trans c14_102
  have c15_115 := (mm_upn e15 (show 19 ≠ 0 by omega)).trans c14_103
  have c15_116 := (mm_upn e15 (show 20 ≠ 0 by omega)).trans c14_104
  have c15_117 := (mm_upn e15 (show 21 ≠ 0 by omega)).trans c14_105
  have c15_118 := mm_ups e15
  have o15_0 : ∀ j, 1 ≤ j ∧ j < 16 → f15 j = mm_ent T b mm_x0 j := fun j hj => (mm_upn e15 (by omega)).trans (o14_0 j hj)
  refine lv_iconst (v := 0) hx hb dX4_init_66 (by decide) ?_
  refine lv_istore_n (lv' := [(1, .int 0), (0, .ref (b + 0))]) hx hb dX4_init_67 rfl hl (by decide) rfl (fun ls hl => ?_)
  refine lv_iload_n hx hb dX4_init_68 rfl (lv_at hl 0 rfl) ?_
  refine lv_aload_n hx hb dX4_init_69 rfl (lv_at hl 1 rfl) ?_
  refine mo_get (v := .ref (b + 16)) E hO hin4 rfl (show 0 < _ by omega) c15_118 (j := 1) (by decide) rfl w10 rfl dX4_init_70 ?_
  refine mo_alen (v := 7) E hO (show 16 < _ by omega) c15_112 4 rfl rfl dX4_init_73 ?_
  refine lv_icmp_ge (tgt := 96) hx hb dX4_init_74 (by decide) (fun c => absurd c (by decide)) (fun _ => ?_)
  refine lv_aload_n hx hb dX4_init_77 rfl (lv_at hl 1 rfl) ?_
  refine mo_get (v := .ref (b + 16)) E hO hin4 rfl (show 0 < _ by omega) c15_118 (j := 1) (by decide) rfl w10 rfl dX4_init_78 ?_
  refine lv_iload_n hx hb dX4_init_81 rfl (lv_at hl 0 rfl) ?_
  obtain ⟨f16, e16⟩ : ∃ y, va_up f15 22 (.inr (3, [.null, .null, .int 0, .int 0, .int 0, .int 0, .null]) : va_E) = y := ⟨_, rfl⟩
  refine mo_new (ci := 3) (fs := [.null, .null, .int 0, .int 0, .int 0, .int 0, .null]) E hO (by omega) hin3 tyX3_ok rfl w4 w5 w6 (fun j hj => by rcases (show j = 0 ∨ j = 1 ∨ j = 2 ∨ j = 3 ∨ j = 4 ∨ j = 5 ∨ j = 6 by omega) with rfl | rfl | rfl | rfl | rfl | rfl | rfl <;> rfl) (Nat.le_of_ble_eq_true rfl) (Nat.le_of_ble_eq_true rfl) e16 dX4_init_82 (fun H hO => ?_)
  have c16_132 := (mm_upn e16 (show 0 ≠ 22 by omega)).trans c15_118
  have c16_133 := (mm_upn e16 (show 16 ≠ 22 by omega)).trans c15_112
  have c16_134 := (mm_upn e16 (show 17 ≠ 22 by omega)).trans c15_113
  have c16_135 := (mm_upn e16 (show 18 ≠ 22 by omega)).trans c15_114
  have c16_136 := (mm_upn e16 (show 19 ≠ 22 by omega)).trans c15_115
  have c16_137 := (mm_upn e16 (show 20 ≠ 22 by omega)).trans c15_116
  have c16_138 := (mm_upn e16 (show 21 ≠ 22 by omega)).trans c15_117
  have c16_139 := mm_ups e16
  have o16_0 : ∀ j, 1 ≤ j ∧ j < 16 → f16 j = mm_ent T b mm_x0 j := fun j hj => (mm_upn e16 (by omega)).trans (o15_0 j hj)
  refine lv_dup hx hb dX4_init_85 rfl ?_
  refine mo_sz E hO (by omega) (fun hsz => ?_)
  obtain ⟨f17, e17⟩ : ∃ y, mf_3 T b f16 22 = y := ⟨_, rfl⟩
  refine mo_go hO (va_runI (As := []) (rest := [.ref (b + 22), .int 0, .ref (b + 16)]) ⟨hx, hb, E.1.2.2.1, E.1.2.2.2.1, E.1.2.2.2.2.1⟩ (co_X3_init l G T b z 22 f16 kr_22 c16_139 e17) (cwI 0 E.1.2.2.2.2.1 gX4_init_X3_init rfl rfl rfl w6 w8 w7 rfl df_X3_init.2 ⟨Nat.le_of_ble_eq_true rfl, Nat.le_of_ble_eq_true rfl⟩) ⟨mm_Bo.blind, mo_pre E hO hsz⟩ rfl rfl hl.1 rfl (lv_room (Nat.le_of_ble_eq_true rfl)) dX4_init_86 ⟨Nat.le_of_ble_eq_true rfl, Nat.le_of_ble_eq_true rfl⟩) (fun H locs hO => ?_)
  have c17_145 := (mf3_o e17 (show 0 < 22 by omega)).trans c16_132
  have c17_146 := (mf3_o e17 (show 16 < 22 by omega)).trans c16_133
  have c17_147 := (mf3_o e17 (show 17 < 22 by omega)).trans c16_134
  have c17_148 := (mf3_o e17 (show 18 < 22 by omega)).trans c16_135
  have c17_149 := (mf3_o e17 (show 19 < 22 by omega)).trans c16_136
  have c17_150 := (mf3_o e17 (show 20 < 22 by omega)).trans c16_137
  have c17_151 := (mf3_o e17 (show 21 < 22 by omega)).trans c16_138
  have o17_0 : ∀ j, 1 ≤ j ∧ j < 16 → f17 j = mm_ent T b mm_x0 j := fun j hj => (mf3_o e17 (by omega)).trans (o16_0 j hj)
  have o17_r : ∀ j, 22 ≤ j ∧ j < 37 → f17 j = mm_ent T b mm_x0 j := fun j hj => mf3_n e17 hj.1
  obtain ⟨f18, e18⟩ : ∃ y, va_up f17 16 (.inl (T 4, 7, .inr (.inr (.inr (.inr (va_up (fun _ => none) 0 (some (b + 22))))))) : va_E) = y := ⟨_, rfl⟩
  refine mo_aast (jn := 0) (ci := 3) (r := (RX3, TX3, 7)) 4 E hO (show 16 < _ by omega) c17_146 rfl (show 22 < _ by omega) ((o17_r 22 (by omega)).trans (mm_e3 kr_22)) rfl (by decide) (by decide) e18 dX4_init_89 (fun H locs hO => ?_)
  have c18_156 := (mm_upn e18 (show 0 ≠ 16 by omega)).trans c17_145
  have c18_157 := (mm_upn e18 (show 17 ≠ 16 by omega)).trans c17_147
  have c18_158 := (mm_upn e18 (show 18 ≠ 16 by omega)).trans c17_148
  have c18_159 := (mm_upn e18 (show 19 ≠ 16 by omega)).trans c17_149
  have c18_160 := (mm_upn e18 (show 20 ≠ 16 by omega)).trans c17_150
  have c18_161 := (mm_upn e18 (show 21 ≠ 16 by omega)).trans c17_151
  have c18_162 := mm_ups e18
  have o18_0 : ∀ j, 1 ≤ j ∧ j < 16 → f18 j = mm_ent T b mm_x0 j := fun j hj => (mm_upn e18 (by omega)).trans (o17_0 j hj)
  have o18_1 : ∀ j, 22 ≤ j ∧ j < 37 → f18 j = mm_ent T b mm_x0 j := fun j hj => (mm_upn e18 (by omega)).trans (o17_r j hj)
  refine lv_iinc (v := 1) (lv' := [(1, .int 1), (0, .ref (b + 0))]) hx hb dX4_init_90 hl (k := 0) rfl (by decide) (by decide) rfl (fun ls hl => ?_)
  refine lv_goto (tgt := 68) hx hb dX4_init_93 (by decide) ?_
  refine lv_iload_n hx hb dX4_init_68 rfl (lv_at hl 0 rfl) ?_
  refine lv_aload_n hx hb dX4_init_69 rfl (lv_at hl 1 rfl) ?_
  refine mo_get (v := .ref (b + 16)) E hO hin4 rfl (show 0 < _ by omega) c18_156 (j := 1) (by decide) rfl w10 rfl dX4_init_70 ?_
  refine mo_alen (v := 7) E hO (show 16 < _ by omega) c18_162 4 rfl rfl dX4_init_73 ?_
  refine lv_icmp_ge (tgt := 96) hx hb dX4_init_74 (by decide) (fun c => absurd c (by decide)) (fun _ => ?_)
  refine lv_aload_n hx hb dX4_init_77 rfl (lv_at hl 1 rfl) ?_
  refine mo_get (v := .ref (b + 16)) E hO hin4 rfl (show 0 < _ by omega) c18_156 (j := 1) (by decide) rfl w10 rfl dX4_init_78 ?_
  refine lv_iload_n hx hb dX4_init_81 rfl (lv_at hl 0 rfl) ?_
  obtain ⟨f19, e19⟩ : ∃ y, va_up f18 37 (.inr (3, [.null, .null, .int 0, .int 0, .int 0, .int 0, .null]) : va_E) = y := ⟨_, rfl⟩
  refine mo_new (ci := 3) (fs := [.null, .null, .int 0, .int 0, .int 0, .int 0, .null]) E hO (by omega) hin3 tyX3_ok rfl w4 w5 w6 (fun j hj => by rcases (show j = 0 ∨ j = 1 ∨ j = 2 ∨ j = 3 ∨ j = 4 ∨ j = 5 ∨ j = 6 by omega) with rfl | rfl | rfl | rfl | rfl | rfl | rfl <;> rfl) (Nat.le_of_ble_eq_true rfl) (Nat.le_of_ble_eq_true rfl) e19 dX4_init_82 (fun H hO => ?_)
  have c19_177 := (mm_upn e19 (show 0 ≠ 37 by omega)).trans c18_156
  have c19_178 := (mm_upn e19 (show 16 ≠ 37 by omega)).trans c18_162
  have c19_179 := (mm_upn e19 (show 17 ≠ 37 by omega)).trans c18_157
  have c19_180 := (mm_upn e19 (show 18 ≠ 37 by omega)).trans c18_158
  have c19_181 := (mm_upn e19 (show 19 ≠ 37 by omega)).trans c18_159
  have c19_182 := (mm_upn e19 (show 20 ≠ 37 by omega)).trans c18_160
  have c19_183 := (mm_upn e19 (show 21 ≠ 37 by omega)).trans c18_161
  have c19_184 := mm_ups e19
  have o19_0 : ∀ j, 1 ≤ j ∧ j < 16 → f19 j = mm_ent T b mm_x0 j := fun j hj => (mm_upn e19 (by omega)).trans (o18_0 j hj)
  have o19_1 : ∀ j, 22 ≤ j ∧ j < 37 → f19 j = mm_ent T b mm_x0 j := fun j hj => (mm_upn e19 (by omega)).trans (o18_1 j hj)
  refine lv_dup hx hb dX4_init_85 rfl ?_
  refine mo_sz E hO (by omega) (fun hsz => ?_)
  obtain ⟨f20, e20⟩ : ∃ y, mf_3 T b f19 37 = y := ⟨_, rfl⟩
  refine mo_go hO (va_runI (As := []) (rest := [.ref (b + 37), .int 1, .ref (b + 16)]) ⟨hx, hb, E.1.2.2.1, E.1.2.2.2.1, E.1.2.2.2.2.1⟩ (co_X3_init l G T b z 37 f19 kr_37 c19_184 e20) (cwI 0 E.1.2.2.2.2.1 gX4_init_X3_init rfl rfl rfl w6 w8 w7 rfl df_X3_init.2 ⟨Nat.le_of_ble_eq_true rfl, Nat.le_of_ble_eq_true rfl⟩) ⟨mm_Bo.blind, mo_pre E hO hsz⟩ rfl rfl hl.1 rfl (lv_room (Nat.le_of_ble_eq_true rfl)) dX4_init_86 ⟨Nat.le_of_ble_eq_true rfl, Nat.le_of_ble_eq_true rfl⟩) (fun H locs hO => ?_)
  have c20_191 := (mf3_o e20 (show 0 < 37 by omega)).trans c19_177
  have c20_192 := (mf3_o e20 (show 16 < 37 by omega)).trans c19_178
  have c20_193 := (mf3_o e20 (show 17 < 37 by omega)).trans c19_179
  have c20_194 := (mf3_o e20 (show 18 < 37 by omega)).trans c19_180
  have c20_195 := (mf3_o e20 (show 19 < 37 by omega)).trans c19_181
  have c20_196 := (mf3_o e20 (show 20 < 37 by omega)).trans c19_182
  have c20_197 := (mf3_o e20 (show 21 < 37 by omega)).trans c19_183
  have o20_0 : ∀ j, 1 ≤ j ∧ j < 16 → f20 j = mm_ent T b mm_x0 j := fun j hj => (mf3_o e20 (by omega)).trans (o19_0 j hj)
  have o20_1 : ∀ j, 22 ≤ j ∧ j < 37 → f20 j = mm_ent T b mm_x0 j := fun j hj => (mf3_o e20 (by omega)).trans (o19_1 j hj)
  have o20_r : ∀ j, 37 ≤ j ∧ j < 52 → f20 j = mm_ent T b mm_x0 j := fun j hj => mf3_n e20 hj.1
  obtain ⟨f21, e21⟩ : ∃ y, va_up f20 16 (.inl (T 4, 7, .inr (.inr (.inr (.inr (va_up (va_up (fun _ => none) 0 (some (b + 22))) 1 (some (b + 37))))))) : va_E) = y := ⟨_, rfl⟩
  refine mo_aast (jn := 1) (ci := 3) (r := (RX3, TX3, 7)) 4 E hO (show 16 < _ by omega) c20_192 rfl (show 37 < _ by omega) ((o20_r 37 (by omega)).trans (mm_e3 kr_37)) rfl (by decide) (by decide) e21 dX4_init_89 (fun H locs hO => ?_)
  have c21_203 := (mm_upn e21 (show 0 ≠ 16 by omega)).trans c20_191
  have c21_204 := (mm_upn e21 (show 17 ≠ 16 by omega)).trans c20_193
  have c21_205 := (mm_upn e21 (show 18 ≠ 16 by omega)).trans c20_194
  have c21_206 := (mm_upn e21 (show 19 ≠ 16 by omega)).trans c20_195
  have c21_207 := (mm_upn e21 (show 20 ≠ 16 by omega)).trans c20_196
  have c21_208 := (mm_upn e21 (show 21 ≠ 16 by omega)).trans c20_197
  have c21_209 := mm_ups e21
  have o21_0 : ∀ j, 1 ≤ j ∧ j < 16 → f21 j = mm_ent T b mm_x0 j := fun j hj => (mm_upn e21 (by omega)).trans (o20_0 j hj)
  have o21_1 : ∀ j, 22 ≤ j ∧ j < 37 → f21 j = mm_ent T b mm_x0 j := fun j hj => (mm_upn e21 (by omega)).trans (o20_1 j hj)
  have o21_2 : ∀ j, 37 ≤ j ∧ j < 52 → f21 j = mm_ent T b mm_x0 j := fun j hj => (mm_upn e21 (by omega)).trans (o20_r j hj)
  refine lv_iinc (v := 2) (lv' := [(1, .int 2), (0, .ref (b + 0))]) hx hb dX4_init_90 hl (k := 0) rfl (by decide) (by decide) rfl (fun ls hl => ?_)
  refine lv_goto (tgt := 68) hx hb dX4_init_93 (by decide) ?_
  refine lv_iload_n hx hb dX4_init_68 rfl (lv_at hl 0 rfl) ?_
  refine lv_aload_n hx hb dX4_init_69 rfl (lv_at hl 1 rfl) ?_
  refine mo_get (v := .ref (b + 16)) E hO hin4 rfl (show 0 < _ by omega) c21_203 (j := 1) (by decide) rfl w10 rfl dX4_init_70 ?_
  refine mo_alen (v := 7) E hO (show 16 < _ by omega) c21_209 4 rfl rfl dX4_init_73 ?_
  refine lv_icmp_ge (tgt := 96) hx hb dX4_init_74 (by decide) (fun c => absurd c (by decide)) (fun _ => ?_)
  refine lv_aload_n hx hb dX4_init_77 rfl (lv_at hl 1 rfl) ?_
  refine mo_get (v := .ref (b + 16)) E hO hin4 rfl (show 0 < _ by omega) c21_203 (j := 1) (by decide) rfl w10 rfl dX4_init_78 ?_
  refine lv_iload_n hx hb dX4_init_81 rfl (lv_at hl 0 rfl) ?_
  obtain ⟨f22, e22⟩ : ∃ y, va_up f21 52 (.inr (3, [.null, .null, .int 0, .int 0, .int 0, .int 0, .null]) : va_E) = y := ⟨_, rfl⟩
  refine mo_new (ci := 3) (fs := [.null, .null, .int 0, .int 0, .int 0, .int 0, .null]) E hO (by omega) hin3 tyX3_ok rfl w4 w5 w6 (fun j hj => by rcases (show j = 0 ∨ j = 1 ∨ j = 2 ∨ j = 3 ∨ j = 4 ∨ j = 5 ∨ j = 6 by omega) with rfl | rfl | rfl | rfl | rfl | rfl | rfl <;> rfl) (Nat.le_of_ble_eq_true rfl) (Nat.le_of_ble_eq_true rfl) e22 dX4_init_82 (fun H hO => ?_)
  have c22_225 := (mm_upn e22 (show 0 ≠ 52 by omega)).trans c21_203
  have c22_226 := (mm_upn e22 (show 16 ≠ 52 by omega)).trans c21_209
  have c22_227 := (mm_upn e22 (show 17 ≠ 52 by omega)).trans c21_204
  have c22_228 := (mm_upn e22 (show 18 ≠ 52 by omega)).trans c21_205
  have c22_229 := (mm_upn e22 (show 19 ≠ 52 by omega)).trans c21_206
  have c22_230 := (mm_upn e22 (show 20 ≠ 52 by omega)).trans c21_207
  have c22_231 := (mm_upn e22 (show 21 ≠ 52 by omega)).trans c21_208
  have c22_232 := mm_ups e22
  have o22_0 : ∀ j, 1 ≤ j ∧ j < 16 → f22 j = mm_ent T b mm_x0 j := fun j hj => (mm_upn e22 (by omega)).trans (o21_0 j hj)
  have o22_1 : ∀ j, 22 ≤ j ∧ j < 37 → f22 j = mm_ent T b mm_x0 j := fun j hj => (mm_upn e22 (by omega)).trans (o21_1 j hj)
  have o22_2 : ∀ j, 37 ≤ j ∧ j < 52 → f22 j = mm_ent T b mm_x0 j := fun j hj => (mm_upn e22 (by omega)).trans (o21_2 j hj)
  refine lv_dup hx hb dX4_init_85 rfl ?_
  refine mo_sz E hO (by omega) (fun hsz => ?_)
  obtain ⟨f23, e23⟩ : ∃ y, mf_3 T b f22 52 = y := ⟨_, rfl⟩
  refine mo_go hO (va_runI (As := []) (rest := [.ref (b + 52), .int 2, .ref (b + 16)]) ⟨hx, hb, E.1.2.2.1, E.1.2.2.2.1, E.1.2.2.2.2.1⟩ (co_X3_init l G T b z 52 f22 kr_52 c22_232 e23) (cwI 0 E.1.2.2.2.2.1 gX4_init_X3_init rfl rfl rfl w6 w8 w7 rfl df_X3_init.2 ⟨Nat.le_of_ble_eq_true rfl, Nat.le_of_ble_eq_true rfl⟩) ⟨mm_Bo.blind, mo_pre E hO hsz⟩ rfl rfl hl.1 rfl (lv_room (Nat.le_of_ble_eq_true rfl)) dX4_init_86 ⟨Nat.le_of_ble_eq_true rfl, Nat.le_of_ble_eq_true rfl⟩) (fun H locs hO => ?_)
  have c23_240 := (mf3_o e23 (show 0 < 52 by omega)).trans c22_225
  have c23_241 := (mf3_o e23 (show 16 < 52 by omega)).trans c22_226
  have c23_242 := (mf3_o e23 (show 17 < 52 by omega)).trans c22_227
  have c23_243 := (mf3_o e23 (show 18 < 52 by omega)).trans c22_228
  have c23_244 := (mf3_o e23 (show 19 < 52 by omega)).trans c22_229
  have c23_245 := (mf3_o e23 (show 20 < 52 by omega)).trans c22_230
  have c23_246 := (mf3_o e23 (show 21 < 52 by omega)).trans c22_231
  have o23_0 : ∀ j, 1 ≤ j ∧ j < 16 → f23 j = mm_ent T b mm_x0 j := fun j hj => (mf3_o e23 (by omega)).trans (o22_0 j hj)
  have o23_1 : ∀ j, 22 ≤ j ∧ j < 37 → f23 j = mm_ent T b mm_x0 j := fun j hj => (mf3_o e23 (by omega)).trans (o22_1 j hj)
  have o23_2 : ∀ j, 37 ≤ j ∧ j < 52 → f23 j = mm_ent T b mm_x0 j := fun j hj => (mf3_o e23 (by omega)).trans (o22_2 j hj)
  have o23_r : ∀ j, 52 ≤ j ∧ j < 67 → f23 j = mm_ent T b mm_x0 j := fun j hj => mf3_n e23 hj.1
  obtain ⟨f24, e24⟩ : ∃ y, va_up f23 16 (.inl (T 4, 7, .inr (.inr (.inr (.inr (va_up (va_up (va_up (fun _ => none) 0 (some (b + 22))) 1 (some (b + 37))) 2 (some (b + 52))))))) : va_E) = y := ⟨_, rfl⟩
  refine mo_aast (jn := 2) (ci := 3) (r := (RX3, TX3, 7)) 4 E hO (show 16 < _ by omega) c23_241 rfl (show 52 < _ by omega) ((o23_r 52 (by omega)).trans (mm_e3 kr_52)) rfl (by decide) (by decide) e24 dX4_init_89 (fun H locs hO => ?_)
  have c24_253 := (mm_upn e24 (show 0 ≠ 16 by omega)).trans c23_240
  have c24_254 := (mm_upn e24 (show 17 ≠ 16 by omega)).trans c23_242
  have c24_255 := (mm_upn e24 (show 18 ≠ 16 by omega)).trans c23_243
  have c24_256 := (mm_upn e24 (show 19 ≠ 16 by omega)).trans c23_244
  have c24_257 := (mm_upn e24 (show 20 ≠ 16 by omega)).trans c23_245
  have c24_258 := (mm_upn e24 (show 21 ≠ 16 by omega)).trans c23_246
  have c24_259 := mm_ups e24
  have o24_0 : ∀ j, 1 ≤ j ∧ j < 16 → f24 j = mm_ent T b mm_x0 j := fun j hj => (mm_upn e24 (by omega)).trans (o23_0 j hj)
  have o24_1 : ∀ j, 22 ≤ j ∧ j < 37 → f24 j = mm_ent T b mm_x0 j := fun j hj => (mm_upn e24 (by omega)).trans (o23_1 j hj)
  have o24_2 : ∀ j, 37 ≤ j ∧ j < 52 → f24 j = mm_ent T b mm_x0 j := fun j hj => (mm_upn e24 (by omega)).trans (o23_2 j hj)
  have o24_3 : ∀ j, 52 ≤ j ∧ j < 67 → f24 j = mm_ent T b mm_x0 j := fun j hj => (mm_upn e24 (by omega)).trans (o23_r j hj)
  refine lv_iinc (v := 3) (lv' := [(1, .int 3), (0, .ref (b + 0))]) hx hb dX4_init_90 hl (k := 0) rfl (by decide) (by decide) rfl (fun ls hl => ?_)
  refine lv_goto (tgt := 68) hx hb dX4_init_93 (by decide) ?_
  refine lv_iload_n hx hb dX4_init_68 rfl (lv_at hl 0 rfl) ?_
  refine lv_aload_n hx hb dX4_init_69 rfl (lv_at hl 1 rfl) ?_
  refine mo_get (v := .ref (b + 16)) E hO hin4 rfl (show 0 < _ by omega) c24_253 (j := 1) (by decide) rfl w10 rfl dX4_init_70 ?_
  refine mo_alen (v := 7) E hO (show 16 < _ by omega) c24_259 4 rfl rfl dX4_init_73 ?_
  refine lv_icmp_ge (tgt := 96) hx hb dX4_init_74 (by decide) (fun c => absurd c (by decide)) (fun _ => ?_)
  refine lv_aload_n hx hb dX4_init_77 rfl (lv_at hl 1 rfl) ?_
  refine mo_get (v := .ref (b + 16)) E hO hin4 rfl (show 0 < _ by omega) c24_253 (j := 1) (by decide) rfl w10 rfl dX4_init_78 ?_
  refine lv_iload_n hx hb dX4_init_81 rfl (lv_at hl 0 rfl) ?_
  obtain ⟨f25, e25⟩ : ∃ y, va_up f24 67 (.inr (3, [.null, .null, .int 0, .int 0, .int 0, .int 0, .null]) : va_E) = y := ⟨_, rfl⟩
  refine mo_new (ci := 3) (fs := [.null, .null, .int 0, .int 0, .int 0, .int 0, .null]) E hO (by omega) hin3 tyX3_ok rfl w4 w5 w6 (fun j hj => by rcases (show j = 0 ∨ j = 1 ∨ j = 2 ∨ j = 3 ∨ j = 4 ∨ j = 5 ∨ j = 6 by omega) with rfl | rfl | rfl | rfl | rfl | rfl | rfl <;> rfl) (Nat.le_of_ble_eq_true rfl) (Nat.le_of_ble_eq_true rfl) e25 dX4_init_82 (fun H hO => ?_)
  have c25_276 := (mm_upn e25 (show 0 ≠ 67 by omega)).trans c24_253
  have c25_277 := (mm_upn e25 (show 16 ≠ 67 by omega)).trans c24_259
  have c25_278 := (mm_upn e25 (show 17 ≠ 67 by omega)).trans c24_254
  have c25_279 := (mm_upn e25 (show 18 ≠ 67 by omega)).trans c24_255
  have c25_280 := (mm_upn e25 (show 19 ≠ 67 by omega)).trans c24_256
  have c25_281 := (mm_upn e25 (show 20 ≠ 67 by omega)).trans c24_257
  have c25_282 := (mm_upn e25 (show 21 ≠ 67 by omega)).trans c24_258
  have c25_283 := mm_ups e25
  have o25_0 : ∀ j, 1 ≤ j ∧ j < 16 → f25 j = mm_ent T b mm_x0 j := fun j hj => (mm_upn e25 (by omega)).trans (o24_0 j hj)
  have o25_1 : ∀ j, 22 ≤ j ∧ j < 37 → f25 j = mm_ent T b mm_x0 j := fun j hj => (mm_upn e25 (by omega)).trans (o24_1 j hj)
  have o25_2 : ∀ j, 37 ≤ j ∧ j < 52 → f25 j = mm_ent T b mm_x0 j := fun j hj => (mm_upn e25 (by omega)).trans (o24_2 j hj)
  have o25_3 : ∀ j, 52 ≤ j ∧ j < 67 → f25 j = mm_ent T b mm_x0 j := fun j hj => (mm_upn e25 (by omega)).trans (o24_3 j hj)
  refine lv_dup hx hb dX4_init_85 rfl ?_
  refine mo_sz E hO (by omega) (fun hsz => ?_)
  obtain ⟨f26, e26⟩ : ∃ y, mf_3 T b f25 67 = y := ⟨_, rfl⟩
  refine mo_go hO (va_runI (As := []) (rest := [.ref (b + 67), .int 3, .ref (b + 16)]) ⟨hx, hb, E.1.2.2.1, E.1.2.2.2.1, E.1.2.2.2.2.1⟩ (co_X3_init l G T b z 67 f25 kr_67 c25_283 e26) (cwI 0 E.1.2.2.2.2.1 gX4_init_X3_init rfl rfl rfl w6 w8 w7 rfl df_X3_init.2 ⟨Nat.le_of_ble_eq_true rfl, Nat.le_of_ble_eq_true rfl⟩) ⟨mm_Bo.blind, mo_pre E hO hsz⟩ rfl rfl hl.1 rfl (lv_room (Nat.le_of_ble_eq_true rfl)) dX4_init_86 ⟨Nat.le_of_ble_eq_true rfl, Nat.le_of_ble_eq_true rfl⟩) (fun H locs hO => ?_)
  have c26_292 := (mf3_o e26 (show 0 < 67 by omega)).trans c25_276
  have c26_293 := (mf3_o e26 (show 16 < 67 by omega)).trans c25_277
  have c26_294 := (mf3_o e26 (show 17 < 67 by omega)).trans c25_278
  have c26_295 := (mf3_o e26 (show 18 < 67 by omega)).trans c25_279
  have c26_296 := (mf3_o e26 (show 19 < 67 by omega)).trans c25_280
  have c26_297 := (mf3_o e26 (show 20 < 67 by omega)).trans c25_281
  have c26_298 := (mf3_o e26 (show 21 < 67 by omega)).trans c25_282
  have o26_0 : ∀ j, 1 ≤ j ∧ j < 16 → f26 j = mm_ent T b mm_x0 j := fun j hj => (mf3_o e26 (by omega)).trans (o25_0 j hj)
  have o26_1 : ∀ j, 22 ≤ j ∧ j < 37 → f26 j = mm_ent T b mm_x0 j := fun j hj => (mf3_o e26 (by omega)).trans (o25_1 j hj)
  have o26_2 : ∀ j, 37 ≤ j ∧ j < 52 → f26 j = mm_ent T b mm_x0 j := fun j hj => (mf3_o e26 (by omega)).trans (o25_2 j hj)
  have o26_3 : ∀ j, 52 ≤ j ∧ j < 67 → f26 j = mm_ent T b mm_x0 j := fun j hj => (mf3_o e26 (by omega)).trans (o25_3 j hj)
  have o26_r : ∀ j, 67 ≤ j ∧ j < 82 → f26 j = mm_ent T b mm_x0 j := fun j hj => mf3_n e26 hj.1
  obtain ⟨f27, e27⟩ : ∃ y, va_up f26 16 (.inl (T 4, 7, .inr (.inr (.inr (.inr (va_up (va_up (va_up (va_up (fun _ => none) 0 (some (b + 22))) 1 (some (b + 37))) 2 (some (b + 52))) 3 (some (b + 67))))))) : va_E) = y := ⟨_, rfl⟩
  refine mo_aast (jn := 3) (ci := 3) (r := (RX3, TX3, 7)) 4 E hO (show 16 < _ by omega) c26_293 rfl (show 67 < _ by omega) ((o26_r 67 (by omega)).trans (mm_e3 kr_67)) rfl (by decide) (by decide) e27 dX4_init_89 (fun H locs hO => ?_)
  have c27_306 := (mm_upn e27 (show 0 ≠ 16 by omega)).trans c26_292
  have c27_307 := (mm_upn e27 (show 17 ≠ 16 by omega)).trans c26_294
  have c27_308 := (mm_upn e27 (show 18 ≠ 16 by omega)).trans c26_295
  have c27_309 := (mm_upn e27 (show 19 ≠ 16 by omega)).trans c26_296
  have c27_310 := (mm_upn e27 (show 20 ≠ 16 by omega)).trans c26_297
  have c27_311 := (mm_upn e27 (show 21 ≠ 16 by omega)).trans c26_298
  have c27_312 := mm_ups e27
  have o27_0 : ∀ j, 1 ≤ j ∧ j < 16 → f27 j = mm_ent T b mm_x0 j := fun j hj => (mm_upn e27 (by omega)).trans (o26_0 j hj)
  have o27_1 : ∀ j, 22 ≤ j ∧ j < 37 → f27 j = mm_ent T b mm_x0 j := fun j hj => (mm_upn e27 (by omega)).trans (o26_1 j hj)
  have o27_2 : ∀ j, 37 ≤ j ∧ j < 52 → f27 j = mm_ent T b mm_x0 j := fun j hj => (mm_upn e27 (by omega)).trans (o26_2 j hj)
  have o27_3 : ∀ j, 52 ≤ j ∧ j < 67 → f27 j = mm_ent T b mm_x0 j := fun j hj => (mm_upn e27 (by omega)).trans (o26_3 j hj)
  have o27_4 : ∀ j, 67 ≤ j ∧ j < 82 → f27 j = mm_ent T b mm_x0 j := fun j hj => (mm_upn e27 (by omega)).trans (o26_r j hj)
  refine lv_iinc (v := 4) (lv' := [(1, .int 4), (0, .ref (b + 0))]) hx hb dX4_init_90 hl (k := 0) rfl (by decide) (by decide) rfl (fun ls hl => ?_)
  refine lv_goto (tgt := 68) hx hb dX4_init_93 (by decide) ?_
  refine lv_iload_n hx hb dX4_init_68 rfl (lv_at hl 0 rfl) ?_
  refine lv_aload_n hx hb dX4_init_69 rfl (lv_at hl 1 rfl) ?_
  refine mo_get (v := .ref (b + 16)) E hO hin4 rfl (show 0 < _ by omega) c27_306 (j := 1) (by decide) rfl w10 rfl dX4_init_70 ?_
  refine mo_alen (v := 7) E hO (show 16 < _ by omega) c27_312 4 rfl rfl dX4_init_73 ?_
  refine lv_icmp_ge (tgt := 96) hx hb dX4_init_74 (by decide) (fun c => absurd c (by decide)) (fun _ => ?_)
  refine lv_aload_n hx hb dX4_init_77 rfl (lv_at hl 1 rfl) ?_
  refine mo_get (v := .ref (b + 16)) E hO hin4 rfl (show 0 < _ by omega) c27_306 (j := 1) (by decide) rfl w10 rfl dX4_init_78 ?_
  refine lv_iload_n hx hb dX4_init_81 rfl (lv_at hl 0 rfl) ?_
  obtain ⟨f28, e28⟩ : ∃ y, va_up f27 82 (.inr (3, [.null, .null, .int 0, .int 0, .int 0, .int 0, .null]) : va_E) = y := ⟨_, rfl⟩
  refine mo_new (ci := 3) (fs := [.null, .null, .int 0, .int 0, .int 0, .int 0, .null]) E hO (by omega) hin3 tyX3_ok rfl w4 w5 w6 (fun j hj => by rcases (show j = 0 ∨ j = 1 ∨ j = 2 ∨ j = 3 ∨ j = 4 ∨ j = 5 ∨ j = 6 by omega) with rfl | rfl | rfl | rfl | rfl | rfl | rfl <;> rfl) (Nat.le_of_ble_eq_true rfl) (Nat.le_of_ble_eq_true rfl) e28 dX4_init_82 (fun H hO => ?_)
  have c28_330 := (mm_upn e28 (show 0 ≠ 82 by omega)).trans c27_306
  have c28_331 := (mm_upn e28 (show 16 ≠ 82 by omega)).trans c27_312
  have c28_332 := (mm_upn e28 (show 17 ≠ 82 by omega)).trans c27_307
  have c28_333 := (mm_upn e28 (show 18 ≠ 82 by omega)).trans c27_308
  have c28_334 := (mm_upn e28 (show 19 ≠ 82 by omega)).trans c27_309
  have c28_335 := (mm_upn e28 (show 20 ≠ 82 by omega)).trans c27_310
  have c28_336 := (mm_upn e28 (show 21 ≠ 82 by omega)).trans c27_311
  have c28_337 := mm_ups e28
  have o28_0 : ∀ j, 1 ≤ j ∧ j < 16 → f28 j = mm_ent T b mm_x0 j := fun j hj => (mm_upn e28 (by omega)).trans (o27_0 j hj)
  have o28_1 : ∀ j, 22 ≤ j ∧ j < 37 → f28 j = mm_ent T b mm_x0 j := fun j hj => (mm_upn e28 (by omega)).trans (o27_1 j hj)
  have o28_2 : ∀ j, 37 ≤ j ∧ j < 52 → f28 j = mm_ent T b mm_x0 j := fun j hj => (mm_upn e28 (by omega)).trans (o27_2 j hj)
  have o28_3 : ∀ j, 52 ≤ j ∧ j < 67 → f28 j = mm_ent T b mm_x0 j := fun j hj => (mm_upn e28 (by omega)).trans (o27_3 j hj)
  have o28_4 : ∀ j, 67 ≤ j ∧ j < 82 → f28 j = mm_ent T b mm_x0 j := fun j hj => (mm_upn e28 (by omega)).trans (o27_4 j hj)
  refine lv_dup hx hb dX4_init_85 rfl ?_
  refine mo_sz E hO (by omega) (fun hsz => ?_)
  obtain ⟨f29, e29⟩ : ∃ y, mf_3 T b f28 82 = y := ⟨_, rfl⟩
  refine mo_go hO (va_runI (As := []) (rest := [.ref (b + 82), .int 4, .ref (b + 16)]) ⟨hx, hb, E.1.2.2.1, E.1.2.2.2.1, E.1.2.2.2.2.1⟩ (co_X3_init l G T b z 82 f28 kr_82 c28_337 e29) (cwI 0 E.1.2.2.2.2.1 gX4_init_X3_init rfl rfl rfl w6 w8 w7 rfl df_X3_init.2 ⟨Nat.le_of_ble_eq_true rfl, Nat.le_of_ble_eq_true rfl⟩) ⟨mm_Bo.blind, mo_pre E hO hsz⟩ rfl rfl hl.1 rfl (lv_room (Nat.le_of_ble_eq_true rfl)) dX4_init_86 ⟨Nat.le_of_ble_eq_true rfl, Nat.le_of_ble_eq_true rfl⟩) (fun H locs hO => ?_)
  have c29_347 := (mf3_o e29 (show 0 < 82 by omega)).trans c28_330
  have c29_348 := (mf3_o e29 (show 16 < 82 by omega)).trans c28_331
  have c29_349 := (mf3_o e29 (show 17 < 82 by omega)).trans c28_332
  have c29_350 := (mf3_o e29 (show 18 < 82 by omega)).trans c28_333
  have c29_351 := (mf3_o e29 (show 19 < 82 by omega)).trans c28_334
  have c29_352 := (mf3_o e29 (show 20 < 82 by omega)).trans c28_335
  have c29_353 := (mf3_o e29 (show 21 < 82 by omega)).trans c28_336
  have o29_0 : ∀ j, 1 ≤ j ∧ j < 16 → f29 j = mm_ent T b mm_x0 j := fun j hj => (mf3_o e29 (by omega)).trans (o28_0 j hj)
  have o29_1 : ∀ j, 22 ≤ j ∧ j < 37 → f29 j = mm_ent T b mm_x0 j := fun j hj => (mf3_o e29 (by omega)).trans (o28_1 j hj)
  have o29_2 : ∀ j, 37 ≤ j ∧ j < 52 → f29 j = mm_ent T b mm_x0 j := fun j hj => (mf3_o e29 (by omega)).trans (o28_2 j hj)
  have o29_3 : ∀ j, 52 ≤ j ∧ j < 67 → f29 j = mm_ent T b mm_x0 j := fun j hj => (mf3_o e29 (by omega)).trans (o28_3 j hj)
  have o29_4 : ∀ j, 67 ≤ j ∧ j < 82 → f29 j = mm_ent T b mm_x0 j := fun j hj => (mf3_o e29 (by omega)).trans (o28_4 j hj)
  have o29_r : ∀ j, 82 ≤ j ∧ j < 97 → f29 j = mm_ent T b mm_x0 j := fun j hj => mf3_n e29 hj.1
  obtain ⟨f30, e30⟩ : ∃ y, va_up f29 16 (.inl (T 4, 7, .inr (.inr (.inr (.inr (va_up (va_up (va_up (va_up (va_up (fun _ => none) 0 (some (b + 22))) 1 (some (b + 37))) 2 (some (b + 52))) 3 (some (b + 67))) 4 (some (b + 82))))))) : va_E) = y := ⟨_, rfl⟩
  refine mo_aast (jn := 4) (ci := 3) (r := (RX3, TX3, 7)) 4 E hO (show 16 < _ by omega) c29_348 rfl (show 82 < _ by omega) ((o29_r 82 (by omega)).trans (mm_e3 kr_82)) rfl (by decide) (by decide) e30 dX4_init_89 (fun H locs hO => ?_)
  have c30_362 := (mm_upn e30 (show 0 ≠ 16 by omega)).trans c29_347
  have c30_363 := (mm_upn e30 (show 17 ≠ 16 by omega)).trans c29_349
  have c30_364 := (mm_upn e30 (show 18 ≠ 16 by omega)).trans c29_350
  have c30_365 := (mm_upn e30 (show 19 ≠ 16 by omega)).trans c29_351
  have c30_366 := (mm_upn e30 (show 20 ≠ 16 by omega)).trans c29_352
  have c30_367 := (mm_upn e30 (show 21 ≠ 16 by omega)).trans c29_353
  have c30_368 := mm_ups e30
  have o30_0 : ∀ j, 1 ≤ j ∧ j < 16 → f30 j = mm_ent T b mm_x0 j := fun j hj => (mm_upn e30 (by omega)).trans (o29_0 j hj)
  have o30_1 : ∀ j, 22 ≤ j ∧ j < 37 → f30 j = mm_ent T b mm_x0 j := fun j hj => (mm_upn e30 (by omega)).trans (o29_1 j hj)
  have o30_2 : ∀ j, 37 ≤ j ∧ j < 52 → f30 j = mm_ent T b mm_x0 j := fun j hj => (mm_upn e30 (by omega)).trans (o29_2 j hj)
  have o30_3 : ∀ j, 52 ≤ j ∧ j < 67 → f30 j = mm_ent T b mm_x0 j := fun j hj => (mm_upn e30 (by omega)).trans (o29_3 j hj)
  have o30_4 : ∀ j, 67 ≤ j ∧ j < 82 → f30 j = mm_ent T b mm_x0 j := fun j hj => (mm_upn e30 (by omega)).trans (o29_4 j hj)
  have o30_5 : ∀ j, 82 ≤ j ∧ j < 97 → f30 j = mm_ent T b mm_x0 j := fun j hj => (mm_upn e30 (by omega)).trans (o29_r j hj)
  refine lv_iinc (v := 5) (lv' := [(1, .int 5), (0, .ref (b + 0))]) hx hb dX4_init_90 hl (k := 0) rfl (by decide) (by decide) rfl (fun ls hl => ?_)
  refine lv_goto (tgt := 68) hx hb dX4_init_93 (by decide) ?_
  refine lv_iload_n hx hb dX4_init_68 rfl (lv_at hl 0 rfl) ?_
  refine lv_aload_n hx hb dX4_init_69 rfl (lv_at hl 1 rfl) ?_
  refine mo_get (v := .ref (b + 16)) E hO hin4 rfl (show 0 < _ by omega) c30_362 (j := 1) (by decide) rfl w10 rfl dX4_init_70 ?_
  refine mo_alen (v := 7) E hO (show 16 < _ by omega) c30_368 4 rfl rfl dX4_init_73 ?_
  refine lv_icmp_ge (tgt := 96) hx hb dX4_init_74 (by decide) (fun c => absurd c (by decide)) (fun _ => ?_)
  refine lv_aload_n hx hb dX4_init_77 rfl (lv_at hl 1 rfl) ?_
  refine mo_get (v := .ref (b + 16)) E hO hin4 rfl (show 0 < _ by omega) c30_362 (j := 1) (by decide) rfl w10 rfl dX4_init_78 ?_
  refine lv_iload_n hx hb dX4_init_81 rfl (lv_at hl 0 rfl) ?_
  obtain ⟨f31, e31⟩ : ∃ y, va_up f30 97 (.inr (3, [.null, .null, .int 0, .int 0, .int 0, .int 0, .null]) : va_E) = y := ⟨_, rfl⟩
  refine mo_new (ci := 3) (fs := [.null, .null, .int 0, .int 0, .int 0, .int 0, .null]) E hO (by omega) hin3 tyX3_ok rfl w4 w5 w6 (fun j hj => by rcases (show j = 0 ∨ j = 1 ∨ j = 2 ∨ j = 3 ∨ j = 4 ∨ j = 5 ∨ j = 6 by omega) with rfl | rfl | rfl | rfl | rfl | rfl | rfl <;> rfl) (Nat.le_of_ble_eq_true rfl) (Nat.le_of_ble_eq_true rfl) e31 dX4_init_82 (fun H hO => ?_)
  have c31_387 := (mm_upn e31 (show 0 ≠ 97 by omega)).trans c30_362
  have c31_388 := (mm_upn e31 (show 16 ≠ 97 by omega)).trans c30_368
  have c31_389 := (mm_upn e31 (show 17 ≠ 97 by omega)).trans c30_363
  have c31_390 := (mm_upn e31 (show 18 ≠ 97 by omega)).trans c30_364
  have c31_391 := (mm_upn e31 (show 19 ≠ 97 by omega)).trans c30_365
  have c31_392 := (mm_upn e31 (show 20 ≠ 97 by omega)).trans c30_366
  have c31_393 := (mm_upn e31 (show 21 ≠ 97 by omega)).trans c30_367
  have c31_394 := mm_ups e31
  have o31_0 : ∀ j, 1 ≤ j ∧ j < 16 → f31 j = mm_ent T b mm_x0 j := fun j hj => (mm_upn e31 (by omega)).trans (o30_0 j hj)
  have o31_1 : ∀ j, 22 ≤ j ∧ j < 37 → f31 j = mm_ent T b mm_x0 j := fun j hj => (mm_upn e31 (by omega)).trans (o30_1 j hj)
  have o31_2 : ∀ j, 37 ≤ j ∧ j < 52 → f31 j = mm_ent T b mm_x0 j := fun j hj => (mm_upn e31 (by omega)).trans (o30_2 j hj)
  have o31_3 : ∀ j, 52 ≤ j ∧ j < 67 → f31 j = mm_ent T b mm_x0 j := fun j hj => (mm_upn e31 (by omega)).trans (o30_3 j hj)
  have o31_4 : ∀ j, 67 ≤ j ∧ j < 82 → f31 j = mm_ent T b mm_x0 j := fun j hj => (mm_upn e31 (by omega)).trans (o30_4 j hj)
  have o31_5 : ∀ j, 82 ≤ j ∧ j < 97 → f31 j = mm_ent T b mm_x0 j := fun j hj => (mm_upn e31 (by omega)).trans (o30_5 j hj)
  refine lv_dup hx hb dX4_init_85 rfl ?_
  refine mo_sz E hO (by omega) (fun hsz => ?_)
  obtain ⟨f32, e32⟩ : ∃ y, mf_3 T b f31 97 = y := ⟨_, rfl⟩
  refine mo_go hO (va_runI (As := []) (rest := [.ref (b + 97), .int 5, .ref (b + 16)]) ⟨hx, hb, E.1.2.2.1, E.1.2.2.2.1, E.1.2.2.2.2.1⟩ (co_X3_init l G T b z 97 f31 kr_97 c31_394 e32) (cwI 0 E.1.2.2.2.2.1 gX4_init_X3_init rfl rfl rfl w6 w8 w7 rfl df_X3_init.2 ⟨Nat.le_of_ble_eq_true rfl, Nat.le_of_ble_eq_true rfl⟩) ⟨mm_Bo.blind, mo_pre E hO hsz⟩ rfl rfl hl.1 rfl (lv_room (Nat.le_of_ble_eq_true rfl)) dX4_init_86 ⟨Nat.le_of_ble_eq_true rfl, Nat.le_of_ble_eq_true rfl⟩) (fun H locs hO => ?_)
  have c32_405 := (mf3_o e32 (show 0 < 97 by omega)).trans c31_387
  have c32_406 := (mf3_o e32 (show 16 < 97 by omega)).trans c31_388
  have c32_407 := (mf3_o e32 (show 17 < 97 by omega)).trans c31_389
  have c32_408 := (mf3_o e32 (show 18 < 97 by omega)).trans c31_390
  have c32_409 := (mf3_o e32 (show 19 < 97 by omega)).trans c31_391
  have c32_410 := (mf3_o e32 (show 20 < 97 by omega)).trans c31_392
  have c32_411 := (mf3_o e32 (show 21 < 97 by omega)).trans c31_393
  have o32_0 : ∀ j, 1 ≤ j ∧ j < 16 → f32 j = mm_ent T b mm_x0 j := fun j hj => (mf3_o e32 (by omega)).trans (o31_0 j hj)
  have o32_1 : ∀ j, 22 ≤ j ∧ j < 37 → f32 j = mm_ent T b mm_x0 j := fun j hj => (mf3_o e32 (by omega)).trans (o31_1 j hj)
  have o32_2 : ∀ j, 37 ≤ j ∧ j < 52 → f32 j = mm_ent T b mm_x0 j := fun j hj => (mf3_o e32 (by omega)).trans (o31_2 j hj)
  have o32_3 : ∀ j, 52 ≤ j ∧ j < 67 → f32 j = mm_ent T b mm_x0 j := fun j hj => (mf3_o e32 (by omega)).trans (o31_3 j hj)
  have o32_4 : ∀ j, 67 ≤ j ∧ j < 82 → f32 j = mm_ent T b mm_x0 j := fun j hj => (mf3_o e32 (by omega)).trans (o31_4 j hj)
  have o32_5 : ∀ j, 82 ≤ j ∧ j < 97 → f32 j = mm_ent T b mm_x0 j := fun j hj => (mf3_o e32 (by omega)).trans (o31_5 j hj)
  have o32_r : ∀ j, 97 ≤ j ∧ j < 112 → f32 j = mm_ent T b mm_x0 j := fun j hj => mf3_n e32 hj.1
  obtain ⟨f33, e33⟩ : ∃ y, va_up f32 16 (.inl (T 4, 7, .inr (.inr (.inr (.inr (va_up (va_up (va_up (va_up (va_up (va_up (fun _ => none) 0 (some (b + 22))) 1 (some (b + 37))) 2 (some (b + 52))) 3 (some (b + 67))) 4 (some (b + 82))) 5 (some (b + 97))))))) : va_E) = y := ⟨_, rfl⟩
  refine mo_aast (jn := 5) (ci := 3) (r := (RX3, TX3, 7)) 4 E hO (show 16 < _ by omega) c32_406 rfl (show 97 < _ by omega) ((o32_r 97 (by omega)).trans (mm_e3 kr_97)) rfl (by decide) (by decide) e33 dX4_init_89 (fun H locs hO => ?_)
  have c33_421 := (mm_upn e33 (show 0 ≠ 16 by omega)).trans c32_405
  have c33_422 := (mm_upn e33 (show 17 ≠ 16 by omega)).trans c32_407
  have c33_423 := (mm_upn e33 (show 18 ≠ 16 by omega)).trans c32_408
  have c33_424 := (mm_upn e33 (show 19 ≠ 16 by omega)).trans c32_409
  have c33_425 := (mm_upn e33 (show 20 ≠ 16 by omega)).trans c32_410
  have c33_426 := (mm_upn e33 (show 21 ≠ 16 by omega)).trans c32_411
  have c33_427 := mm_ups e33
  have o33_0 : ∀ j, 1 ≤ j ∧ j < 16 → f33 j = mm_ent T b mm_x0 j := fun j hj => (mm_upn e33 (by omega)).trans (o32_0 j hj)
  have o33_1 : ∀ j, 22 ≤ j ∧ j < 37 → f33 j = mm_ent T b mm_x0 j := fun j hj => (mm_upn e33 (by omega)).trans (o32_1 j hj)
  have o33_2 : ∀ j, 37 ≤ j ∧ j < 52 → f33 j = mm_ent T b mm_x0 j := fun j hj => (mm_upn e33 (by omega)).trans (o32_2 j hj)
  have o33_3 : ∀ j, 52 ≤ j ∧ j < 67 → f33 j = mm_ent T b mm_x0 j := fun j hj => (mm_upn e33 (by omega)).trans (o32_3 j hj)
  have o33_4 : ∀ j, 67 ≤ j ∧ j < 82 → f33 j = mm_ent T b mm_x0 j := fun j hj => (mm_upn e33 (by omega)).trans (o32_4 j hj)
  have o33_5 : ∀ j, 82 ≤ j ∧ j < 97 → f33 j = mm_ent T b mm_x0 j := fun j hj => (mm_upn e33 (by omega)).trans (o32_5 j hj)
  have o33_6 : ∀ j, 97 ≤ j ∧ j < 112 → f33 j = mm_ent T b mm_x0 j := fun j hj => (mm_upn e33 (by omega)).trans (o32_r j hj)
  refine lv_iinc (v := 6) (lv' := [(1, .int 6), (0, .ref (b + 0))]) hx hb dX4_init_90 hl (k := 0) rfl (by decide) (by decide) rfl (fun ls hl => ?_)
  refine lv_goto (tgt := 68) hx hb dX4_init_93 (by decide) ?_
  refine lv_iload_n hx hb dX4_init_68 rfl (lv_at hl 0 rfl) ?_
  refine lv_aload_n hx hb dX4_init_69 rfl (lv_at hl 1 rfl) ?_
  refine mo_get (v := .ref (b + 16)) E hO hin4 rfl (show 0 < _ by omega) c33_421 (j := 1) (by decide) rfl w10 rfl dX4_init_70 ?_
  refine mo_alen (v := 7) E hO (show 16 < _ by omega) c33_427 4 rfl rfl dX4_init_73 ?_
  refine lv_icmp_ge (tgt := 96) hx hb dX4_init_74 (by decide) (fun c => absurd c (by decide)) (fun _ => ?_)
  refine lv_aload_n hx hb dX4_init_77 rfl (lv_at hl 1 rfl) ?_
  refine mo_get (v := .ref (b + 16)) E hO hin4 rfl (show 0 < _ by omega) c33_421 (j := 1) (by decide) rfl w10 rfl dX4_init_78 ?_
  refine lv_iload_n hx hb dX4_init_81 rfl (lv_at hl 0 rfl) ?_
  obtain ⟨f34, e34⟩ : ∃ y, va_up f33 112 (.inr (3, [.null, .null, .int 0, .int 0, .int 0, .int 0, .null]) : va_E) = y := ⟨_, rfl⟩
  refine mo_new (ci := 3) (fs := [.null, .null, .int 0, .int 0, .int 0, .int 0, .null]) E hO (by omega) hin3 tyX3_ok rfl w4 w5 w6 (fun j hj => by rcases (show j = 0 ∨ j = 1 ∨ j = 2 ∨ j = 3 ∨ j = 4 ∨ j = 5 ∨ j = 6 by omega) with rfl | rfl | rfl | rfl | rfl | rfl | rfl <;> rfl) (Nat.le_of_ble_eq_true rfl) (Nat.le_of_ble_eq_true rfl) e34 dX4_init_82 (fun H hO => ?_)
  have c34_447 := (mm_upn e34 (show 0 ≠ 112 by omega)).trans c33_421
  have c34_448 := (mm_upn e34 (show 16 ≠ 112 by omega)).trans c33_427
  have c34_449 := (mm_upn e34 (show 17 ≠ 112 by omega)).trans c33_422
  have c34_450 := (mm_upn e34 (show 18 ≠ 112 by omega)).trans c33_423
  have c34_451 := (mm_upn e34 (show 19 ≠ 112 by omega)).trans c33_424
  have c34_452 := (mm_upn e34 (show 20 ≠ 112 by omega)).trans c33_425
  have c34_453 := (mm_upn e34 (show 21 ≠ 112 by omega)).trans c33_426
  have c34_454 := mm_ups e34
  have o34_0 : ∀ j, 1 ≤ j ∧ j < 16 → f34 j = mm_ent T b mm_x0 j := fun j hj => (mm_upn e34 (by omega)).trans (o33_0 j hj)
  have o34_1 : ∀ j, 22 ≤ j ∧ j < 37 → f34 j = mm_ent T b mm_x0 j := fun j hj => (mm_upn e34 (by omega)).trans (o33_1 j hj)
  have o34_2 : ∀ j, 37 ≤ j ∧ j < 52 → f34 j = mm_ent T b mm_x0 j := fun j hj => (mm_upn e34 (by omega)).trans (o33_2 j hj)
  have o34_3 : ∀ j, 52 ≤ j ∧ j < 67 → f34 j = mm_ent T b mm_x0 j := fun j hj => (mm_upn e34 (by omega)).trans (o33_3 j hj)
  have o34_4 : ∀ j, 67 ≤ j ∧ j < 82 → f34 j = mm_ent T b mm_x0 j := fun j hj => (mm_upn e34 (by omega)).trans (o33_4 j hj)
  have o34_5 : ∀ j, 82 ≤ j ∧ j < 97 → f34 j = mm_ent T b mm_x0 j := fun j hj => (mm_upn e34 (by omega)).trans (o33_5 j hj)
  have o34_6 : ∀ j, 97 ≤ j ∧ j < 112 → f34 j = mm_ent T b mm_x0 j := fun j hj => (mm_upn e34 (by omega)).trans (o33_6 j hj)
  refine lv_dup hx hb dX4_init_85 rfl ?_
  refine mo_sz E hO (by omega) (fun hsz => ?_)
  obtain ⟨f35, e35⟩ : ∃ y, mf_3 T b f34 112 = y := ⟨_, rfl⟩
  refine mo_go hO (va_runI (As := []) (rest := [.ref (b + 112), .int 6, .ref (b + 16)]) ⟨hx, hb, E.1.2.2.1, E.1.2.2.2.1, E.1.2.2.2.2.1⟩ (co_X3_init l G T b z 112 f34 kr_112 c34_454 e35) (cwI 0 E.1.2.2.2.2.1 gX4_init_X3_init rfl rfl rfl w6 w8 w7 rfl df_X3_init.2 ⟨Nat.le_of_ble_eq_true rfl, Nat.le_of_ble_eq_true rfl⟩) ⟨mm_Bo.blind, mo_pre E hO hsz⟩ rfl rfl hl.1 rfl (lv_room (Nat.le_of_ble_eq_true rfl)) dX4_init_86 ⟨Nat.le_of_ble_eq_true rfl, Nat.le_of_ble_eq_true rfl⟩) (fun H locs hO => ?_)
  have c35_466 := (mf3_o e35 (show 0 < 112 by omega)).trans c34_447
  have c35_467 := (mf3_o e35 (show 16 < 112 by omega)).trans c34_448
  have c35_468 := (mf3_o e35 (show 17 < 112 by omega)).trans c34_449
  have c35_469 := (mf3_o e35 (show 18 < 112 by omega)).trans c34_450
  have c35_470 := (mf3_o e35 (show 19 < 112 by omega)).trans c34_451
  have c35_471 := (mf3_o e35 (show 20 < 112 by omega)).trans c34_452
  have c35_472 := (mf3_o e35 (show 21 < 112 by omega)).trans c34_453
  have o35_0 : ∀ j, 1 ≤ j ∧ j < 16 → f35 j = mm_ent T b mm_x0 j := fun j hj => (mf3_o e35 (by omega)).trans (o34_0 j hj)
  have o35_1 : ∀ j, 22 ≤ j ∧ j < 37 → f35 j = mm_ent T b mm_x0 j := fun j hj => (mf3_o e35 (by omega)).trans (o34_1 j hj)
  have o35_2 : ∀ j, 37 ≤ j ∧ j < 52 → f35 j = mm_ent T b mm_x0 j := fun j hj => (mf3_o e35 (by omega)).trans (o34_2 j hj)
  have o35_3 : ∀ j, 52 ≤ j ∧ j < 67 → f35 j = mm_ent T b mm_x0 j := fun j hj => (mf3_o e35 (by omega)).trans (o34_3 j hj)
  have o35_4 : ∀ j, 67 ≤ j ∧ j < 82 → f35 j = mm_ent T b mm_x0 j := fun j hj => (mf3_o e35 (by omega)).trans (o34_4 j hj)
  have o35_5 : ∀ j, 82 ≤ j ∧ j < 97 → f35 j = mm_ent T b mm_x0 j := fun j hj => (mf3_o e35 (by omega)).trans (o34_5 j hj)
  have o35_6 : ∀ j, 97 ≤ j ∧ j < 112 → f35 j = mm_ent T b mm_x0 j := fun j hj => (mf3_o e35 (by omega)).trans (o34_6 j hj)
  have o35_r : ∀ j, 112 ≤ j ∧ j < 127 → f35 j = mm_ent T b mm_x0 j := fun j hj => mf3_n e35 hj.1
  obtain ⟨f36, e36⟩ : ∃ y, va_up f35 16 (.inl (T 4, 7, .inr (.inr (.inr (.inr (va_up (va_up (va_up (va_up (va_up (va_up (va_up (fun _ => none) 0 (some (b + 22))) 1 (some (b + 37))) 2 (some (b + 52))) 3 (some (b + 67))) 4 (some (b + 82))) 5 (some (b + 97))) 6 (some (b + 112))))))) : va_E) = y := ⟨_, rfl⟩
  refine mo_aast (jn := 6) (ci := 3) (r := (RX3, TX3, 7)) 4 E hO (show 16 < _ by omega) c35_467 rfl (show 112 < _ by omega) ((o35_r 112 (by omega)).trans (mm_e3 kr_112)) rfl (by decide) (by decide) e36 dX4_init_89 (fun H locs hO => ?_)
  have c36_483 := (mm_upn e36 (show 0 ≠ 16 by omega)).trans c35_466
  have c36_484 := (mm_upn e36 (show 17 ≠ 16 by omega)).trans c35_468
  have c36_485 := (mm_upn e36 (show 18 ≠ 16 by omega)).trans c35_469
  have c36_486 := (mm_upn e36 (show 19 ≠ 16 by omega)).trans c35_470
  have c36_487 := (mm_upn e36 (show 20 ≠ 16 by omega)).trans c35_471
  have c36_488 := (mm_upn e36 (show 21 ≠ 16 by omega)).trans c35_472
  have c36_489 := mm_ups e36
  have o36_0 : ∀ j, 1 ≤ j ∧ j < 16 → f36 j = mm_ent T b mm_x0 j := fun j hj => (mm_upn e36 (by omega)).trans (o35_0 j hj)
  have o36_1 : ∀ j, 22 ≤ j ∧ j < 37 → f36 j = mm_ent T b mm_x0 j := fun j hj => (mm_upn e36 (by omega)).trans (o35_1 j hj)
  have o36_2 : ∀ j, 37 ≤ j ∧ j < 52 → f36 j = mm_ent T b mm_x0 j := fun j hj => (mm_upn e36 (by omega)).trans (o35_2 j hj)
  have o36_3 : ∀ j, 52 ≤ j ∧ j < 67 → f36 j = mm_ent T b mm_x0 j := fun j hj => (mm_upn e36 (by omega)).trans (o35_3 j hj)
  have o36_4 : ∀ j, 67 ≤ j ∧ j < 82 → f36 j = mm_ent T b mm_x0 j := fun j hj => (mm_upn e36 (by omega)).trans (o35_4 j hj)
  have o36_5 : ∀ j, 82 ≤ j ∧ j < 97 → f36 j = mm_ent T b mm_x0 j := fun j hj => (mm_upn e36 (by omega)).trans (o35_5 j hj)
  have o36_6 : ∀ j, 97 ≤ j ∧ j < 112 → f36 j = mm_ent T b mm_x0 j := fun j hj => (mm_upn e36 (by omega)).trans (o35_6 j hj)
  have o36_7 : ∀ j, 112 ≤ j ∧ j < 127 → f36 j = mm_ent T b mm_x0 j := fun j hj => (mm_upn e36 (by omega)).trans (o35_r j hj)
  refine lv_iinc (v := 7) (lv' := [(1, .int 7), (0, .ref (b + 0))]) hx hb dX4_init_90 hl (k := 0) rfl (by decide) (by decide) rfl (fun ls hl => ?_)
  refine lv_goto (tgt := 68) hx hb dX4_init_93 (by decide) ?_
  refine lv_iload_n hx hb dX4_init_68 rfl (lv_at hl 0 rfl) ?_
  refine lv_aload_n hx hb dX4_init_69 rfl (lv_at hl 1 rfl) ?_
  refine mo_get (v := .ref (b + 16)) E hO hin4 rfl (show 0 < _ by omega) c36_483 (j := 1) (by decide) rfl w10 rfl dX4_init_70 ?_
  refine mo_alen (v := 7) E hO (show 16 < _ by omega) c36_489 4 rfl rfl dX4_init_73 ?_
  refine lv_icmp_ge (tgt := 96) hx hb dX4_init_74 (by decide) (fun _ => ?_) (fun c => absurd (by decide) c)
  refine lv_iconst (v := 0) hx hb dX4_init_96 (by decide) ?_
  refine lv_istore_n (lv' := [(1, .int 0), (0, .ref (b + 0))]) hx hb dX4_init_97 rfl hl (by decide) rfl (fun ls hl => ?_)
  refine lv_iload_n hx hb dX4_init_98 rfl (lv_at hl 0 rfl) ?_
  refine lv_aload_n hx hb dX4_init_99 rfl (lv_at hl 1 rfl) ?_
  refine mo_get (v := .ref (b + 17)) E hO hin4 rfl (show 0 < _ by omega) c36_483 (j := 3) (by decide) rfl w12 rfl dX4_init_100 ?_
  refine mo_alen (v := 2) E hO (show 17 < _ by omega) c36_484 4 rfl rfl dX4_init_103 ?_
  refine lv_icmp_ge (tgt := 126) hx hb dX4_init_104 (by decide) (fun c => absurd c (by decide)) (fun _ => ?_)
  refine lv_aload_n hx hb dX4_init_107 rfl (lv_at hl 1 rfl) ?_
  refine mo_get (v := .ref (b + 17)) E hO hin4 rfl (show 0 < _ by omega) c36_483 (j := 3) (by decide) rfl w12 rfl dX4_init_108 ?_
  refine lv_iload_n hx hb dX4_init_111 rfl (lv_at hl 0 rfl) ?_
  obtain ⟨f37, e37⟩ : ∃ y, va_up f36 127 (.inr (3, [.null, .null, .int 0, .int 0, .int 0, .int 0, .null]) : va_E) = y := ⟨_, rfl⟩
  refine mo_new (ci := 3) (fs := [.null, .null, .int 0, .int 0, .int 0, .int 0, .null]) E hO (by omega) hin3 tyX3_ok rfl w4 w5 w6 (fun j hj => by rcases (show j = 0 ∨ j = 1 ∨ j = 2 ∨ j = 3 ∨ j = 4 ∨ j = 5 ∨ j = 6 by omega) with rfl | rfl | rfl | rfl | rfl | rfl | rfl <;> rfl) (Nat.le_of_ble_eq_true rfl) (Nat.le_of_ble_eq_true rfl) e37 dX4_init_112 (fun H hO => ?_)
  have c37_517 := (mm_upn e37 (show 0 ≠ 127 by omega)).trans c36_483
  have c37_518 := (mm_upn e37 (show 16 ≠ 127 by omega)).trans c36_489
  have c37_519 := (mm_upn e37 (show 17 ≠ 127 by omega)).trans c36_484
  have c37_520 := (mm_upn e37 (show 18 ≠ 127 by omega)).trans c36_485
  have c37_521 := (mm_upn e37 (show 19 ≠ 127 by omega)).trans c36_486
  have c37_522 := (mm_upn e37 (show 20 ≠ 127 by omega)).trans c36_487
  have c37_523 := (mm_upn e37 (show 21 ≠ 127 by omega)).trans c36_488
  have c37_524 := mm_ups e37
  have o37_0 : ∀ j, 1 ≤ j ∧ j < 16 → f37 j = mm_ent T b mm_x0 j := fun j hj => (mm_upn e37 (by omega)).trans (o36_0 j hj)
  have o37_1 : ∀ j, 22 ≤ j ∧ j < 37 → f37 j = mm_ent T b mm_x0 j := fun j hj => (mm_upn e37 (by omega)).trans (o36_1 j hj)
  have o37_2 : ∀ j, 37 ≤ j ∧ j < 52 → f37 j = mm_ent T b mm_x0 j := fun j hj => (mm_upn e37 (by omega)).trans (o36_2 j hj)
  have o37_3 : ∀ j, 52 ≤ j ∧ j < 67 → f37 j = mm_ent T b mm_x0 j := fun j hj => (mm_upn e37 (by omega)).trans (o36_3 j hj)
  have o37_4 : ∀ j, 67 ≤ j ∧ j < 82 → f37 j = mm_ent T b mm_x0 j := fun j hj => (mm_upn e37 (by omega)).trans (o36_4 j hj)
  have o37_5 : ∀ j, 82 ≤ j ∧ j < 97 → f37 j = mm_ent T b mm_x0 j := fun j hj => (mm_upn e37 (by omega)).trans (o36_5 j hj)
  have o37_6 : ∀ j, 97 ≤ j ∧ j < 112 → f37 j = mm_ent T b mm_x0 j := fun j hj => (mm_upn e37 (by omega)).trans (o36_6 j hj)
  have o37_7 : ∀ j, 112 ≤ j ∧ j < 127 → f37 j = mm_ent T b mm_x0 j := fun j hj => (mm_upn e37 (by omega)).trans (o36_7 j hj)
  refine lv_dup hx hb dX4_init_115 rfl ?_
  refine mo_sz E hO (by omega) (fun hsz => ?_)
  obtain ⟨f38, e38⟩ : ∃ y, mf_3 T b f37 127 = y := ⟨_, rfl⟩
  refine mo_go hO (va_runI (As := []) (rest := [.ref (b + 127), .int 0, .ref (b + 17)]) ⟨hx, hb, E.1.2.2.1, E.1.2.2.2.1, E.1.2.2.2.2.1⟩ (co_X3_init l G T b z 127 f37 kr_127 c37_524 e38) (cwI 0 E.1.2.2.2.2.1 gX4_init_X3_init rfl rfl rfl w6 w8 w7 rfl df_X3_init.2 ⟨Nat.le_of_ble_eq_true rfl, Nat.le_of_ble_eq_true rfl⟩) ⟨mm_Bo.blind, mo_pre E hO hsz⟩ rfl rfl hl.1 rfl (lv_room (Nat.le_of_ble_eq_true rfl)) dX4_init_116 ⟨Nat.le_of_ble_eq_true rfl, Nat.le_of_ble_eq_true rfl⟩) (fun H locs hO => ?_)
  have c38_537 := (mf3_o e38 (show 0 < 127 by omega)).trans c37_517
  have c38_538 := (mf3_o e38 (show 16 < 127 by omega)).trans c37_518
  have c38_539 := (mf3_o e38 (show 17 < 127 by omega)).trans c37_519
  have c38_540 := (mf3_o e38 (show 18 < 127 by omega)).trans c37_520
  have c38_541 := (mf3_o e38 (show 19 < 127 by omega)).trans c37_521
  have c38_542 := (mf3_o e38 (show 20 < 127 by omega)).trans c37_522
  have c38_543 := (mf3_o e38 (show 21 < 127 by omega)).trans c37_523
  have o38_0 : ∀ j, 1 ≤ j ∧ j < 16 → f38 j = mm_ent T b mm_x0 j := fun j hj => (mf3_o e38 (by omega)).trans (o37_0 j hj)
  have o38_1 : ∀ j, 22 ≤ j ∧ j < 37 → f38 j = mm_ent T b mm_x0 j := fun j hj => (mf3_o e38 (by omega)).trans (o37_1 j hj)
  have o38_2 : ∀ j, 37 ≤ j ∧ j < 52 → f38 j = mm_ent T b mm_x0 j := fun j hj => (mf3_o e38 (by omega)).trans (o37_2 j hj)
  have o38_3 : ∀ j, 52 ≤ j ∧ j < 67 → f38 j = mm_ent T b mm_x0 j := fun j hj => (mf3_o e38 (by omega)).trans (o37_3 j hj)
  have o38_4 : ∀ j, 67 ≤ j ∧ j < 82 → f38 j = mm_ent T b mm_x0 j := fun j hj => (mf3_o e38 (by omega)).trans (o37_4 j hj)
  have o38_5 : ∀ j, 82 ≤ j ∧ j < 97 → f38 j = mm_ent T b mm_x0 j := fun j hj => (mf3_o e38 (by omega)).trans (o37_5 j hj)
  have o38_6 : ∀ j, 97 ≤ j ∧ j < 112 → f38 j = mm_ent T b mm_x0 j := fun j hj => (mf3_o e38 (by omega)).trans (o37_6 j hj)
  have o38_7 : ∀ j, 112 ≤ j ∧ j < 127 → f38 j = mm_ent T b mm_x0 j := fun j hj => (mf3_o e38 (by omega)).trans (o37_7 j hj)
  have o38_r : ∀ j, 127 ≤ j ∧ j < 142 → f38 j = mm_ent T b mm_x0 j := fun j hj => mf3_n e38 hj.1
  obtain ⟨f39, e39⟩ : ∃ y, va_up f38 17 (.inl (T 4, 2, .inr (.inr (.inr (.inr (va_up (fun _ => none) 0 (some (b + 127))))))) : va_E) = y := ⟨_, rfl⟩
  refine mo_aast (jn := 0) (ci := 3) (r := (RX3, TX3, 7)) 4 E hO (show 17 < _ by omega) c38_539 rfl (show 127 < _ by omega) ((o38_r 127 (by omega)).trans (mm_e3 kr_127)) rfl (by decide) (by decide) e39 dX4_init_119 (fun H locs hO => ?_)
  have c39_555 := (mm_upn e39 (show 0 ≠ 17 by omega)).trans c38_537
  have c39_556 := (mm_upn e39 (show 16 ≠ 17 by omega)).trans c38_538
  have c39_557 := (mm_upn e39 (show 18 ≠ 17 by omega)).trans c38_540
  have c39_558 := (mm_upn e39 (show 19 ≠ 17 by omega)).trans c38_541
  have c39_559 := (mm_upn e39 (show 20 ≠ 17 by omega)).trans c38_542
  have c39_560 := (mm_upn e39 (show 21 ≠ 17 by omega)).trans c38_543
  have c39_561 := mm_ups e39
  have o39_0 : ∀ j, 1 ≤ j ∧ j < 16 → f39 j = mm_ent T b mm_x0 j := fun j hj => (mm_upn e39 (by omega)).trans (o38_0 j hj)
  have o39_1 : ∀ j, 22 ≤ j ∧ j < 37 → f39 j = mm_ent T b mm_x0 j := fun j hj => (mm_upn e39 (by omega)).trans (o38_1 j hj)
  have o39_2 : ∀ j, 37 ≤ j ∧ j < 52 → f39 j = mm_ent T b mm_x0 j := fun j hj => (mm_upn e39 (by omega)).trans (o38_2 j hj)
  have o39_3 : ∀ j, 52 ≤ j ∧ j < 67 → f39 j = mm_ent T b mm_x0 j := fun j hj => (mm_upn e39 (by omega)).trans (o38_3 j hj)
  have o39_4 : ∀ j, 67 ≤ j ∧ j < 82 → f39 j = mm_ent T b mm_x0 j := fun j hj => (mm_upn e39 (by omega)).trans (o38_4 j hj)
  have o39_5 : ∀ j, 82 ≤ j ∧ j < 97 → f39 j = mm_ent T b mm_x0 j := fun j hj => (mm_upn e39 (by omega)).trans (o38_5 j hj)
  have o39_6 : ∀ j, 97 ≤ j ∧ j < 112 → f39 j = mm_ent T b mm_x0 j := fun j hj => (mm_upn e39 (by omega)).trans (o38_6 j hj)
  have o39_7 : ∀ j, 112 ≤ j ∧ j < 127 → f39 j = mm_ent T b mm_x0 j := fun j hj => (mm_upn e39 (by omega)).trans (o38_7 j hj)
  have o39_8 : ∀ j, 127 ≤ j ∧ j < 142 → f39 j = mm_ent T b mm_x0 j := fun j hj => (mm_upn e39 (by omega)).trans (o38_r j hj)
  refine lv_iinc (v := 1) (lv' := [(1, .int 1), (0, .ref (b + 0))]) hx hb dX4_init_120 hl (k := 0) rfl (by decide) (by decide) rfl (fun ls hl => ?_)
  refine lv_goto (tgt := 98) hx hb dX4_init_123 (by decide) ?_
  refine lv_iload_n hx hb dX4_init_98 rfl (lv_at hl 0 rfl) ?_
  refine lv_aload_n hx hb dX4_init_99 rfl (lv_at hl 1 rfl) ?_
  refine mo_get (v := .ref (b + 17)) E hO hin4 rfl (show 0 < _ by omega) c39_555 (j := 3) (by decide) rfl w12 rfl dX4_init_100 ?_
  refine mo_alen (v := 2) E hO (show 17 < _ by omega) c39_561 4 rfl rfl dX4_init_103 ?_
  refine lv_icmp_ge (tgt := 126) hx hb dX4_init_104 (by decide) (fun c => absurd c (by decide)) (fun _ => ?_)
  refine lv_aload_n hx hb dX4_init_107 rfl (lv_at hl 1 rfl) ?_
  refine mo_get (v := .ref (b + 17)) E hO hin4 rfl (show 0 < _ by omega) c39_555 (j := 3) (by decide) rfl w12 rfl dX4_init_108 ?_
  refine lv_iload_n hx hb dX4_init_111 rfl (lv_at hl 0 rfl) ?_
  obtain ⟨f40, e40⟩ : ∃ y, va_up f39 142 (.inr (3, [.null, .null, .int 0, .int 0, .int 0, .int 0, .null]) : va_E) = y := ⟨_, rfl⟩
  refine mo_new (ci := 3) (fs := [.null, .null, .int 0, .int 0, .int 0, .int 0, .null]) E hO (by omega) hin3 tyX3_ok rfl w4 w5 w6 (fun j hj => by rcases (show j = 0 ∨ j = 1 ∨ j = 2 ∨ j = 3 ∨ j = 4 ∨ j = 5 ∨ j = 6 by omega) with rfl | rfl | rfl | rfl | rfl | rfl | rfl <;> rfl) (Nat.le_of_ble_eq_true rfl) (Nat.le_of_ble_eq_true rfl) e40 dX4_init_112 (fun H hO => ?_)
  have c40_583 := (mm_upn e40 (show 0 ≠ 142 by omega)).trans c39_555
  have c40_584 := (mm_upn e40 (show 16 ≠ 142 by omega)).trans c39_556
  have c40_585 := (mm_upn e40 (show 17 ≠ 142 by omega)).trans c39_561
  have c40_586 := (mm_upn e40 (show 18 ≠ 142 by omega)).trans c39_557
  have c40_587 := (mm_upn e40 (show 19 ≠ 142 by omega)).trans c39_558
  have c40_588 := (mm_upn e40 (show 20 ≠ 142 by omega)).trans c39_559
  have c40_589 := (mm_upn e40 (show 21 ≠ 142 by omega)).trans c39_560
  have c40_590 := mm_ups e40
  have o40_0 : ∀ j, 1 ≤ j ∧ j < 16 → f40 j = mm_ent T b mm_x0 j := fun j hj => (mm_upn e40 (by omega)).trans (o39_0 j hj)
  have o40_1 : ∀ j, 22 ≤ j ∧ j < 37 → f40 j = mm_ent T b mm_x0 j := fun j hj => (mm_upn e40 (by omega)).trans (o39_1 j hj)
  have o40_2 : ∀ j, 37 ≤ j ∧ j < 52 → f40 j = mm_ent T b mm_x0 j := fun j hj => (mm_upn e40 (by omega)).trans (o39_2 j hj)
  have o40_3 : ∀ j, 52 ≤ j ∧ j < 67 → f40 j = mm_ent T b mm_x0 j := fun j hj => (mm_upn e40 (by omega)).trans (o39_3 j hj)
  have o40_4 : ∀ j, 67 ≤ j ∧ j < 82 → f40 j = mm_ent T b mm_x0 j := fun j hj => (mm_upn e40 (by omega)).trans (o39_4 j hj)
  have o40_5 : ∀ j, 82 ≤ j ∧ j < 97 → f40 j = mm_ent T b mm_x0 j := fun j hj => (mm_upn e40 (by omega)).trans (o39_5 j hj)
  have o40_6 : ∀ j, 97 ≤ j ∧ j < 112 → f40 j = mm_ent T b mm_x0 j := fun j hj => (mm_upn e40 (by omega)).trans (o39_6 j hj)
  have o40_7 : ∀ j, 112 ≤ j ∧ j < 127 → f40 j = mm_ent T b mm_x0 j := fun j hj => (mm_upn e40 (by omega)).trans (o39_7 j hj)
  have o40_8 : ∀ j, 127 ≤ j ∧ j < 142 → f40 j = mm_ent T b mm_x0 j := fun j hj => (mm_upn e40 (by omega)).trans (o39_8 j hj)
  refine lv_dup hx hb dX4_init_115 rfl ?_
  refine mo_sz E hO (by omega) (fun hsz => ?_)
  obtain ⟨f41, e41⟩ : ∃ y, mf_3 T b f40 142 = y := ⟨_, rfl⟩
  refine mo_go hO (va_runI (As := []) (rest := [.ref (b + 142), .int 1, .ref (b + 17)]) ⟨hx, hb, E.1.2.2.1, E.1.2.2.2.1, E.1.2.2.2.2.1⟩ (co_X3_init l G T b z 142 f40 kr_142 c40_590 e41) (cwI 0 E.1.2.2.2.2.1 gX4_init_X3_init rfl rfl rfl w6 w8 w7 rfl df_X3_init.2 ⟨Nat.le_of_ble_eq_true rfl, Nat.le_of_ble_eq_true rfl⟩) ⟨mm_Bo.blind, mo_pre E hO hsz⟩ rfl rfl hl.1 rfl (lv_room (Nat.le_of_ble_eq_true rfl)) dX4_init_116 ⟨Nat.le_of_ble_eq_true rfl, Nat.le_of_ble_eq_true rfl⟩) (fun H locs hO => ?_)
  have c41_604 := (mf3_o e41 (show 0 < 142 by omega)).trans c40_583
  have c41_605 := (mf3_o e41 (show 16 < 142 by omega)).trans c40_584
  have c41_606 := (mf3_o e41 (show 17 < 142 by omega)).trans c40_585
  have c41_607 := (mf3_o e41 (show 18 < 142 by omega)).trans c40_586
  have c41_608 := (mf3_o e41 (show 19 < 142 by omega)).trans c40_587
  have c41_609 := (mf3_o e41 (show 20 < 142 by omega)).trans c40_588
  have c41_610 := (mf3_o e41 (show 21 < 142 by omega)).trans c40_589
  have o41_0 : ∀ j, 1 ≤ j ∧ j < 16 → f41 j = mm_ent T b mm_x0 j := fun j hj => (mf3_o e41 (by omega)).trans (o40_0 j hj)
  have o41_1 : ∀ j, 22 ≤ j ∧ j < 37 → f41 j = mm_ent T b mm_x0 j := fun j hj => (mf3_o e41 (by omega)).trans (o40_1 j hj)
  have o41_2 : ∀ j, 37 ≤ j ∧ j < 52 → f41 j = mm_ent T b mm_x0 j := fun j hj => (mf3_o e41 (by omega)).trans (o40_2 j hj)
  have o41_3 : ∀ j, 52 ≤ j ∧ j < 67 → f41 j = mm_ent T b mm_x0 j := fun j hj => (mf3_o e41 (by omega)).trans (o40_3 j hj)
  have o41_4 : ∀ j, 67 ≤ j ∧ j < 82 → f41 j = mm_ent T b mm_x0 j := fun j hj => (mf3_o e41 (by omega)).trans (o40_4 j hj)
  have o41_5 : ∀ j, 82 ≤ j ∧ j < 97 → f41 j = mm_ent T b mm_x0 j := fun j hj => (mf3_o e41 (by omega)).trans (o40_5 j hj)
  have o41_6 : ∀ j, 97 ≤ j ∧ j < 112 → f41 j = mm_ent T b mm_x0 j := fun j hj => (mf3_o e41 (by omega)).trans (o40_6 j hj)
  have o41_7 : ∀ j, 112 ≤ j ∧ j < 127 → f41 j = mm_ent T b mm_x0 j := fun j hj => (mf3_o e41 (by omega)).trans (o40_7 j hj)
  have o41_8 : ∀ j, 127 ≤ j ∧ j < 142 → f41 j = mm_ent T b mm_x0 j := fun j hj => (mf3_o e41 (by omega)).trans (o40_8 j hj)
  have o41_r : ∀ j, 142 ≤ j ∧ j < 157 → f41 j = mm_ent T b mm_x0 j := fun j hj => mf3_n e41 hj.1
  obtain ⟨f42, e42⟩ : ∃ y, va_up f41 17 (.inl (T 4, 2, .inr (.inr (.inr (.inr (va_up (va_up (fun _ => none) 0 (some (b + 127))) 1 (some (b + 142))))))) : va_E) = y := ⟨_, rfl⟩
  refine mo_aast (jn := 1) (ci := 3) (r := (RX3, TX3, 7)) 4 E hO (show 17 < _ by omega) c41_606 rfl (show 142 < _ by omega) ((o41_r 142 (by omega)).trans (mm_e3 kr_142)) rfl (by decide) (by decide) e42 dX4_init_119 (fun H locs hO => ?_)
  have c42_623 := (mm_upn e42 (show 0 ≠ 17 by omega)).trans c41_604
  have c42_624 := (mm_upn e42 (show 16 ≠ 17 by omega)).trans c41_605
  have c42_625 := (mm_upn e42 (show 18 ≠ 17 by omega)).trans c41_607
  have c42_626 := (mm_upn e42 (show 19 ≠ 17 by omega)).trans c41_608
  have c42_627 := (mm_upn e42 (show 20 ≠ 17 by omega)).trans c41_609
  have c42_628 := (mm_upn e42 (show 21 ≠ 17 by omega)).trans c41_610
  have c42_629 := mm_ups e42
  have o42_0 : ∀ j, 1 ≤ j ∧ j < 16 → f42 j = mm_ent T b mm_x0 j := fun j hj => (mm_upn e42 (by omega)).trans (o41_0 j hj)
  have o42_1 : ∀ j, 22 ≤ j ∧ j < 37 → f42 j = mm_ent T b mm_x0 j := fun j hj => (mm_upn e42 (by omega)).trans (o41_1 j hj)
  have o42_2 : ∀ j, 37 ≤ j ∧ j < 52 → f42 j = mm_ent T b mm_x0 j := fun j hj => (mm_upn e42 (by omega)).trans (o41_2 j hj)
  have o42_3 : ∀ j, 52 ≤ j ∧ j < 67 → f42 j = mm_ent T b mm_x0 j := fun j hj => (mm_upn e42 (by omega)).trans (o41_3 j hj)
  have o42_4 : ∀ j, 67 ≤ j ∧ j < 82 → f42 j = mm_ent T b mm_x0 j := fun j hj => (mm_upn e42 (by omega)).trans (o41_4 j hj)
  have o42_5 : ∀ j, 82 ≤ j ∧ j < 97 → f42 j = mm_ent T b mm_x0 j := fun j hj => (mm_upn e42 (by omega)).trans (o41_5 j hj)
  have o42_6 : ∀ j, 97 ≤ j ∧ j < 112 → f42 j = mm_ent T b mm_x0 j := fun j hj => (mm_upn e42 (by omega)).trans (o41_6 j hj)
  have o42_7 : ∀ j, 112 ≤ j ∧ j < 127 → f42 j = mm_ent T b mm_x0 j := fun j hj => (mm_upn e42 (by omega)).trans (o41_7 j hj)
  have o42_8 : ∀ j, 127 ≤ j ∧ j < 142 → f42 j = mm_ent T b mm_x0 j := fun j hj => (mm_upn e42 (by omega)).trans (o41_8 j hj)
  have o42_9 : ∀ j, 142 ≤ j ∧ j < 157 → f42 j = mm_ent T b mm_x0 j := fun j hj => (mm_upn e42 (by omega)).trans (o41_r j hj)
  refine lv_iinc (v := 2) (lv' := [(1, .int 2), (0, .ref (b + 0))]) hx hb dX4_init_120 hl (k := 0) rfl (by decide) (by decide) rfl (fun ls hl => ?_)
  refine lv_goto (tgt := 98) hx hb dX4_init_123 (by decide) ?_
  refine lv_iload_n hx hb dX4_init_98 rfl (lv_at hl 0 rfl) ?_
  refine lv_aload_n hx hb dX4_init_99 rfl (lv_at hl 1 rfl) ?_
  refine mo_get (v := .ref (b + 17)) E hO hin4 rfl (show 0 < _ by omega) c42_623 (j := 3) (by decide) rfl w12 rfl dX4_init_100 ?_
  refine mo_alen (v := 2) E hO (show 17 < _ by omega) c42_629 4 rfl rfl dX4_init_103 ?_
  refine lv_icmp_ge (tgt := 126) hx hb dX4_init_104 (by decide) (fun _ => ?_) (fun c => absurd (by decide) c)
  refine mo_ret E hO (by omega) rfl ?_ hr hlk dX4_init_126
  intro j hj h
  rcases (show j = 0 ∨ (1 ≤ j ∧ j < 16) ∨ (22 ≤ j ∧ j < 37) ∨ (37 ≤ j ∧ j < 52) ∨ (52 ≤ j ∧ j < 67) ∨ (67 ≤ j ∧ j < 82) ∨ (82 ≤ j ∧ j < 97) ∨ (97 ≤ j ∧ j < 112) ∨ (112 ≤ j ∧ j < 127) ∨ (127 ≤ j ∧ j < 142) ∨ (142 ≤ j ∧ j < 157) ∨ j = 16 ∨ j = 17 ∨ j = 18 ∨ j = 19 ∨ j = 20 ∨ j = 21 by omega) with q | q | q | q | q | q | q | q | q | q | q | q | q | q | q | q | q
  · subst q; rw [mm_e4 kd_0, show mm_x0 0 2 = 0 from rfl]; rwa [c42_623] at h
  · rwa [o42_0 j q] at h
  · rwa [o42_1 j q] at h
  · rwa [o42_2 j q] at h
  · rwa [o42_3 j q] at h
  · rwa [o42_4 j q] at h
  · rwa [o42_5 j q] at h
  · rwa [o42_6 j q] at h
  · rwa [o42_7 j q] at h
  · rwa [o42_8 j q] at h
  · rwa [o42_9 j q] at h
  · subst q; rw [mm_e10 kd_16]; rw [c42_624] at h; exact mm_atq h (fun j hj => by rcases (show j = 0 ∨ j = 1 ∨ j = 2 ∨ j = 3 ∨ j = 4 ∨ j = 5 ∨ j = 6 by omega) with rfl | rfl | rfl | rfl | rfl | rfl | rfl <;> rfl)
  · subst q; rw [mm_e11 kd_17]; rw [c42_629] at h; exact mm_atq h (fun j hj => by rcases (show j = 0 ∨ j = 1 by omega) with rfl | rfl <;> rfl)
  · subst q; rw [mm_e8 kd_18, ln_18, show mm_x0 18 = (fun _ => 0) from rfl]; rwa [c42_625] at h
  · subst q; rw [mm_e2 kd_19]; rw [c42_626] at h; exact h
  · subst q; rw [mm_e7 kd_20, ln_20, show mm_x0 20 = (fun _ => 0) from rfl]; rwa [c42_627] at h
  · subst q; rw [mm_e1 kd_21, x0_lan kd_21]; rwa [c42_628] at h
