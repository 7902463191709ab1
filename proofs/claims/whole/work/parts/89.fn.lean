/-! THE START, AND THE LAW'S LOOP -/
theorem x0_158 : ∀ j, j < 135 → 7 ≤ j → mm_x0 158 j = 0 := by decide +kernel
theorem Inv_0 : Inv mm_x0 := by
  have hb : ∀ i, i < 8 → LOK (mm_x0 158) i := fun i hi => by
    unfold LOK
    rw [x0_158 (71 + 8 * i) (by omega) (by omega), x0_158 (71 + 8 * i + 3) (by omega) (by omega), x0_158 (71 + 8 * i + 4) (by omega) (by omega)]
    exact ⟨Or.inl rfl, Or.inl rfl, by decide, by decide⟩
  have h8 : mm_x0 158 8 = nI 0 := by decide +kernel
  have hv : WV (mm_x0 158) := by
    refine ⟨⟨⟨?_, ?_⟩, ⟨?_, ?_⟩, ⟨?_, ?_⟩, ⟨?_, ?_⟩, ⟨?_, ?_⟩, ⟨?_, ?_⟩, ?_, ?_⟩, ⟨0, by omega, h8⟩, ⟨0, by omega, by decide +kernel⟩, hb⟩ <;> decide +kernel
  refine ⟨fun a ha => ?_, hv, ⟨?_, ⟨by decide +kernel, by decide +kernel⟩, ⟨?_, by decide +kernel⟩, ⟨0, 0, by omega, by omega, by decide +kernel, by decide +kernel, by decide +kernel, fun t ht => by omega⟩, ⟨0, by omega, h8, fun i hi => by omega⟩⟩, ⟨0, fun i => 22 + 15 * i, by omega, by decide +kernel, by decide +kernel, fun i hi => ⟨?_, i, hi, rfl⟩, fun i j _ _ q => by have q' : 22 + 15 * i = 22 + 15 * j := q; omega, fun i hi => by omega⟩, fun s hs => ?_, ⟨0, by omega, by decide +kernel, by decide +kernel, fun j hj => by omega⟩⟩
  · rw [x0_lan ha]; exact ⟨Or.inl rfl, Or.inl rfl⟩
  · have e : ∀ j, j < 7 → mm_x0 2 j = mm_x0 158 j := by decide +kernel
    exact e
  · have e : taken (mm_x0 158) = -6 := by unfold taken; rw [h8]; rfl
    rw [e]; decide +kernel
  · have e : ∀ i, i < 7 → mm_x0 16 i = nI (22 + 15 * i) := by decide +kernel
    exact e i hi
  · have e1 : ∀ s, s < 2 → mm_x0 18 s = 0 ∧ mm_x0 162 s = 0 := by decide +kernel
    obtain ⟨a1, a2⟩ := e1 s hs
    rw [a1, a2]
    exact ⟨rfl, Or.inl rfl, fun q => absurd q (by decide)⟩
theorem stop_i {L i : Nat} (hL : L ≤ 1536) (hi : i ≤ 2000) : ((Int32.ofNat L) - 3 < nI i) ↔ L < i + 3 := by
  have e1 : (Int32.ofNat L - 3).toInt = (L : Int) - 3 := by
    rw [Int32.toInt_sub, show (Int32.ofNat L).toInt = (L : Int) from nI_toInt (by omega), show (3 : Int32).toInt = 3 from rfl, Int.bmod_eq_of_le (by omega) (by omega)]
  rw [Int32.lt_iff_toInt_lt, e1, nI_toInt (by omega)]
  omega
theorem law_lp (L : Nat) (xs : Nat → Int32) (hL : L ≤ 1536) : ∀ (n i : Nat) (x : mm_M), i ≤ L → L < 3 * n + i + 3 → Inv x → fn_L_law_18 (n + 1) L xs (nI i) x = some 1 := by
  intro n
  induction n with
  | zero =>
    intro i x hi hn hI
    rw [fn_L_law_18, if_pos ((stop_i hL (by omega)).mpr (by omega))]
  | succ n ih =>
    intro i x hi hn hI
    by_cases hs : L < i + 3
    · rw [fn_L_law_18, if_pos ((stop_i hL (by omega)).mpr hs)]
    · have K : ∀ y, Inv y → fn_L_law_18 (n + 1) L xs (nI i + 3) y = some 1 := fun y hy => by
        have e : nI i + 3 = nI (i + 3) := nI_add i 3
        rw [e]; exact ih (i + 3) y (by omega) (by omega) hy
      have e1 : nI i + 1 = nI (i + 1) := nI_1 i
      have e2 : nI i + 2 = nI (i + 2) := nI_add i 2
      have h1 : (nI i + 1 < 0 ∨ L ≤ Int32.toNatClampNeg (nI i + 1)) = False := by rw [e1]; exact eq_false (nI_in (by omega) (by omega))
      have h2 : (nI i + 2 < 0 ∨ L ≤ Int32.toNatClampNeg (nI i + 2)) = False := by rw [e2]; exact eq_false (nI_in (by omega) (by omega))
      rw [fn_L_law_18, if_neg (fun w => hs ((stop_i hL (by omega)).mp w)), if_neg (nI_in (by omega) (by omega))]
      simp only [h1, h2, if_false, Option.bind_some]
      generalize xs (Int32.toNatClampNeg (nI i + 1)) = a
      generalize xs (Int32.toNatClampNeg (nI i + 2)) = b
      generalize xs (Int32.toNatClampNeg (nI i)) &&& 31 = v
      by_cases q0 : v = 0
      · obtain ⟨x1, x2, r, f, g, I⟩ := P_set hI a b
        rw [if_pos q0, f, mm_b2_some, g, mm_b2_some, if_pos rfl]
        exact K x2 I
      rw [if_neg q0]
      by_cases q1 : v = 1
      · obtain ⟨x1, x2, r, f, g, I⟩ := P_landing hI a
        rw [if_pos q1, f, mm_b2_some, g, mm_b2_some, if_pos rfl]
        exact K x2 I
      rw [if_neg q1]
      by_cases q2 : v = 2
      · obtain ⟨x1, x2, r, f, g, I⟩ := P_open hI a
        rw [if_pos q2, f, mm_b2_some, g, mm_b2_some, if_pos rfl]
        exact K x2 I
      rw [if_neg q2]
      by_cases q3 : v = 3
      · obtain ⟨x1, x2, r, f, g, I⟩ := P_close hI a
        rw [if_pos q3, f, mm_b2_some, g, mm_b2_some, if_pos rfl]
        exact K x2 I
      rw [if_neg q3]
      by_cases q4 : v = 4
      · obtain ⟨x1, x2, r, f, g, I⟩ := P_price hI a b
        rw [if_pos q4, f, mm_b2_some, g, mm_b2_some, if_pos rfl]
        exact K x2 I
      rw [if_neg q4]
      by_cases q5 : v = 5
      · obtain ⟨x1, x2, r, f, g, I⟩ := P_pass hI a
        rw [if_pos q5, f, mm_b2_some, g, mm_b2_some, if_pos rfl]
        exact K x2 I
      rw [if_neg q5]
      by_cases q6 : v = 6
      · obtain ⟨r, f, g⟩ := S_of hI a b
        rw [if_pos q6, f]
        simp only [Option.bind_some]
        rw [g]
        simp only [Option.bind_some, if_true]
        exact K x hI
      rw [if_neg q6]
      by_cases q7 : v = 7
      · obtain ⟨r, f, g⟩ := S_count hI a
        rw [if_pos q7, f]
        simp only [Option.bind_some]
        rw [g]
        simp only [Option.bind_some, if_true]
        exact K x hI
      rw [if_neg q7]
      by_cases q8 : v = 8
      · obtain ⟨r, f, g⟩ := S_choice hI a
        rw [if_pos q8, f]
        simp only [Option.bind_some]
        rw [g]
        simp only [Option.bind_some, if_true]
        exact K x hI
      rw [if_neg q8]
      by_cases q9 : v = 9
      · obtain ⟨r, f, g⟩ := S_log hI a b
        rw [if_pos q9, f]
        simp only [Option.bind_some]
        rw [g]
        simp only [Option.bind_some, if_true]
        exact K x hI
      rw [if_neg q9]
      by_cases q10 : v = 10
      · obtain ⟨r, f, g⟩ := S_why hI a
        rw [if_pos q10, f]
        simp only [Option.bind_some]
        rw [g]
        simp only [Option.bind_some, if_true]
        exact K x hI
      rw [if_neg q10]
      by_cases q11 : v = 11
      · obtain ⟨x1, x2, r, f, g, I⟩ := P_welcomeIn hI a
        rw [if_pos q11, f, mm_b2_some, g, mm_b2_some, if_pos rfl]
        exact K x2 I
      rw [if_neg q11]
      by_cases q12 : v = 12
      · obtain ⟨x1, r, f, g, I⟩ := P_mayChange hI a
        rw [if_pos q12, f, mm_b2_some, g]
        simp only [Option.bind_some, if_true]
        exact K x1 I
      rw [if_neg q12]
      by_cases q13 : v = 13
      · obtain ⟨x1, x2, r, f, g, I⟩ := P_fineIn hI a b
        rw [if_pos q13, f, mm_b2_some, g, mm_b2_some, if_pos rfl]
        exact K x2 I
      rw [if_neg q13]
      by_cases q14 : v = 14
      · obtain ⟨x1, x2, r, f, g, I⟩ := P_steady hI
        rw [if_pos q14, f, mm_b2_some, g, mm_b2_some, if_pos rfl]
        exact K x2 I
      rw [if_neg q14]
      by_cases q15 : v = 15
      · obtain ⟨x1, x2, r, f, g, I⟩ := P_put hI (((Int32.toInt64 a) <<< (Int32.toInt64 (32 : Int32) &&& 63)) ||| ((Int32.toInt64 b) &&& 4294967295))
        rw [if_pos q15, f, mm_b2_some, g, mm_b2_some, if_pos rfl]
        exact K x2 I
      rw [if_neg q15]
      by_cases q16 : v = 16
      · obtain ⟨x1, x2, r, f, g, I⟩ := P_wipe hI
        rw [if_pos q16, f, mm_b2_some, g, mm_b2_some, if_pos rfl]
        exact K x2 I
      rw [if_neg q16]
      by_cases q17 : v = 17
      · obtain ⟨x1, x2, r, f, g, I⟩ := P_fault hI
        rw [if_pos q17, f, mm_b2_some, g, mm_b2_some, if_pos rfl]
        exact K x2 I
      rw [if_neg q17]
      by_cases q18 : v = 18
      · obtain ⟨x1, x2, r, f, g, I⟩ := P_carryOut hI
        rw [if_pos q18, f, mm_b2_some, g, mm_b2_some, if_pos rfl]
        exact K x2 I
      rw [if_neg q18]
      by_cases q19 : v = 19
      · obtain ⟨x1, x2, r, f, g, I⟩ := P_undo hI
        rw [if_pos q19, f, mm_b2_some, g, mm_b2_some, if_pos rfl]
        exact K x2 I
      rw [if_neg q19]
      by_cases q20 : v = 20
      · obtain ⟨x1, x2, r, f, g, I⟩ := P_save hI a
        rw [if_pos q20, f, mm_b2_some, g, mm_b2_some, if_pos rfl]
        exact K x2 I
      rw [if_neg q20]
      by_cases q21 : v = 21
      · obtain ⟨x1, x2, r, f, g, I⟩ := P_restore hI a
        rw [if_pos q21, f, mm_b2_some, g, mm_b2_some, if_pos rfl]
        exact K x2 I
      rw [if_neg q21]
      exact K x hI
theorem law_fn (L : Nat) (xs : Nat → Int32) (hL : L ≤ 1536) : fn_L_law_18 514 L xs 0 mm_x0 = some 1 := by
  have := law_lp L xs hL 513 0 mm_x0 (by omega) (by omega) Inv_0
  rwa [nI_0] at this
