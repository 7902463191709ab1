/-! WHAT IS READ, side by side -/
def Same (F G : mm_M → Option Int32) (x : mm_M) : Prop := ∃ r, F x = some r ∧ G x = some r
def Rd (x : mm_M) (c : Nat) : Prop := c ≤ 8 ∧ x 158 8 = nI c ∧ x 1 2 = nI c ∧ (∀ i, i < c → ∀ j, j < 8 → x (3 + 5 + i) j = x 158 (71 + 8 * i + j)) ∧ ∀ i, i < c → bz (x 158 (71 + 8 * i)) ∧ bz (x 158 (71 + 8 * i + 3))
theorem Inv_rd {x : mm_M} (hI : Inv x) : ∃ c, Rd x c := by
  obtain ⟨hB, hv, ⟨sS, sN, sT, sJ, ⟨c, hc, h8, hl⟩⟩, -⟩ := hI
  exact ⟨c, hc, h8, sN.1.trans h8, fun i hi j hj => hl i hi j hj, fun i hi => ⟨(hv.2.2.2 i (by omega)).1, (hv.2.2.2 i (by omega)).2.1⟩⟩
theorem isL_x {x : mm_M} {c : Nat} (hR : Rd x c) (a : Int32) : fn_X5_isLanding a x = some (if 0 ≤ a ∧ a < nI c then 1 else 0) := by
  have := pu_isL (x := x) hR.1 hR.2.1 a
  rw [cs_self, hR.2.1] at this; exact this
theorem its0x {i : Nat} (hi : i < 8) (x : mm_M) : fn_X5_its (nI i) 0 x = some (x 158 (71 + 8 * i)) := by
  have := its0 hi x (x 158); rwa [cs_self] at this
theorem its1x {i : Nat} (hi : i < 8) (x : mm_M) : fn_X5_its (nI i) 1 x = some (x 158 (71 + 8 * i + 1)) := by
  have := its1 hi x (x 158); rwa [cs_self] at this
theorem its2x {i : Nat} (hi : i < 8) (x : mm_M) : fn_X5_its (nI i) 2 x = some (x 158 (71 + 8 * i + 2)) := by
  have := its2 hi x (x 158); rwa [cs_self] at this
theorem its3x {i : Nat} (hi : i < 8) (x : mm_M) : fn_X5_its (nI i) 3 x = some (x 158 (71 + 8 * i + 3)) := by
  have := its3 hi x (x 158); rwa [cs_self] at this
theorem tell_k {x : mm_M} {k : Nat} (hk : mm_kd k = 1) (h0 : bz (x k 0)) (h3 : bz (x k 3)) : ∀ j, j < 8 → fn_X1_tell k (nI j) x = some (x k j) := by
  intro j hj
  unfold fn_X1_tell
  rw [if_pos hk]
  match j, hj with
  | 0, _ =>
    rw [if_pos (by decide)]
    rcases h0 with e | e <;> rw [e] <;> rfl
  | 1, _ => rw [if_neg (by decide), if_pos (by decide)]
  | 2, _ => rw [if_neg (by decide), if_neg (by decide), if_pos (by decide)]
  | 3, _ =>
    rw [if_neg (by decide), if_neg (by decide), if_neg (by decide), if_pos (by decide)]
    rcases h3 with e | e <;> rw [e] <;> rfl
  | 4, _ => rw [if_neg (by decide), if_neg (by decide), if_neg (by decide), if_neg (by decide), if_pos (by decide)]
  | 5, _ => rw [if_neg (by decide), if_neg (by decide), if_neg (by decide), if_neg (by decide), if_neg (by decide), if_pos (by decide)]
  | 6, _ => rw [if_neg (by decide), if_neg (by decide), if_neg (by decide), if_neg (by decide), if_neg (by decide), if_neg (by decide), if_pos (by decide)]
  | 7, _ => rw [if_neg (by decide), if_neg (by decide), if_neg (by decide), if_neg (by decide), if_neg (by decide), if_neg (by decide), if_neg (by decide), if_pos (by decide)]
theorem tell_not {x : mm_M} {k : Nat} (hk : mm_kd k = 1) {a : Int32} (h : ¬ (0 ≤ a ∧ a ≤ 7)) : fn_X1_tell k a x = some (-2) := by
  have ne : ∀ b : Int32, 0 ≤ b ∧ b ≤ 7 → a ≠ b := fun b hb e => h (e ▸ hb)
  unfold fn_X1_tell
  rw [if_pos hk, if_neg (ne 0 (by decide)), if_neg (ne 1 (by decide)), if_neg (ne 2 (by decide)), if_neg (ne 3 (by decide)), if_neg (ne 4 (by decide)), if_neg (ne 5 (by decide)), if_neg (ne 6 (by decide)), if_neg (ne 7 (by decide))]
theorem S_of {x : mm_M} (hI : Inv x) (a b : Int32) : Same (fn_X4_of a b) (fn_X5_of a b) x := by
  obtain ⟨c, hR⟩ := Inv_rd hI
  obtain ⟨hc, h8, hx, hl, hb⟩ := id hR
  unfold Same fn_X4_of fn_X5_of
  rw [B_find hc hx, isL_x hR]
  simp only [Option.bind_some]
  by_cases h : 0 ≤ a ∧ a < nI c
  · obtain ⟨i, hi, rfl⟩ := pu_inL hc h
    have k1 : mm_kd (3 + 5 + i) = 1 := kd_l (by omega)
    rw [if_pos h, if_pos h, nI_clamp (by omega), mm_oc_some, if_pos k1, if_neg (by decide), pu_in]
    simp only [Option.bind_some]
    by_cases h2 : 0 ≤ b ∧ b ≤ 7
    · obtain ⟨j, hj, rfl⟩ := nI_of2 (x := b) (M := 7) (n := 7) (by decide) (by rw [Int32.not_lt]; exact h2.1) h2.2
      rw [if_pos h2, if_neg (by decide), tell_k k1 (by rw [hl i hi 0 (by omega)]; exact (hb i hi).1) (by rw [hl i hi 3 (by omega)]; exact (hb i hi).2) j (by omega), pu_its (by omega) (by omega), hl i hi j (by omega)]
      exact ⟨_, rfl, rfl⟩
    · rw [if_neg h2, if_pos rfl, tell_not k1 h2]
      exact ⟨_, rfl, rfl⟩
  · rw [if_neg h, if_neg h, mm_oc_none, if_pos rfl]
    exact ⟨_, rfl, rfl⟩
theorem mask0 {x : mm_M} {c : Nat} (hR : Rd x c) : ∀ (n i fuel : Nat) (acc : Int32), i + n = c → n < fuel → ∃ r, fn_X3_openOnes_4 fuel acc (nI i) x = some r ∧ fn_X5_mask_4 fuel 0 acc (nI i) x = some r := by
  obtain ⟨hc, h8, hx, hl, hb⟩ := hR
  intro n
  induction n with
  | zero =>
    intro i fuel acc hi hf
    obtain ⟨m, rfl⟩ : ∃ m, fuel = m + 1 := ⟨fuel - 1, by omega⟩
    have q : nI c ≤ nI i := nI_le (by omega) (by omega)
    rw [fn_X3_openOnes_4, fn_X5_mask_4, hx, h8, if_pos q, if_pos q]
    exact ⟨_, rfl, rfl⟩
  | succ n ih =>
    intro i fuel acc hi hf
    obtain ⟨m, rfl⟩ : ∃ m, fuel = m + 1 := ⟨fuel - 1, by omega⟩
    have q : ¬ nI c ≤ nI i := nI_ge (by omega) (by omega)
    rw [fn_X3_openOnes_4, fn_X5_mask_4, hx, h8, if_neg q, if_neg q, if_neg (nI_in (by omega) (by omega)), nI_clamp (by omega), hl i (by omega) 0 (by omega), its0x (by omega)]
    simp only [Option.bind_some, nI_1, Nat.add_zero]
    rcases (hb i (by omega)).1 with e | e
    · rw [e, if_pos rfl, Int32.zero_shiftLeft, Int32.or_zero]
      exact ih (i + 1) m acc (by omega) (by omega)
    · rw [e, if_neg (by decide)]
      exact ih (i + 1) m _ (by omega) (by omega)
theorem mask3 {x : mm_M} {c : Nat} (hR : Rd x c) : ∀ (n i fuel : Nat) (acc : Int32), i + n = c → n < fuel → ∃ r, fn_X3_shunnedOnes_4 fuel acc (nI i) x = some r ∧ fn_X5_mask_4 fuel 3 acc (nI i) x = some r := by
  obtain ⟨hc, h8, hx, hl, hb⟩ := hR
  intro n
  induction n with
  | zero =>
    intro i fuel acc hi hf
    obtain ⟨m, rfl⟩ : ∃ m, fuel = m + 1 := ⟨fuel - 1, by omega⟩
    have q : nI c ≤ nI i := nI_le (by omega) (by omega)
    rw [fn_X3_shunnedOnes_4, fn_X5_mask_4, hx, h8, if_pos q, if_pos q]
    exact ⟨_, rfl, rfl⟩
  | succ n ih =>
    intro i fuel acc hi hf
    obtain ⟨m, rfl⟩ : ∃ m, fuel = m + 1 := ⟨fuel - 1, by omega⟩
    have q : ¬ nI c ≤ nI i := nI_ge (by omega) (by omega)
    rw [fn_X3_shunnedOnes_4, fn_X5_mask_4, hx, h8, if_neg q, if_neg q, if_neg (nI_in (by omega) (by omega)), nI_clamp (by omega), hl i (by omega) 3 (by omega), its3x (by omega)]
    simp only [Option.bind_some, nI_1, Nat.add_zero]
    rcases (hb i (by omega)).2 with e | e
    · rw [e, if_pos rfl, Int32.zero_shiftLeft, Int32.or_zero]
      exact ih (i + 1) m acc (by omega) (by omega)
    · rw [e, if_neg (by decide)]
      exact ih (i + 1) m _ (by omega) (by omega)
theorem S_count {x : mm_M} (hI : Inv x) (a : Int32) : Same (fn_X4_count a) (fn_X5_count a) x := by
  obtain ⟨c, hR⟩ := Inv_rd hI
  obtain ⟨hc, h8, hx, hl, hb⟩ := id hR
  obtain ⟨hB, hv, ⟨sS, sN, sT, ⟨ee, nx, he, hnx, h10, h43, h44, hlog⟩, sL⟩, ⟨h, p, hH⟩, hL, ⟨len, hlen, a1, a2, -⟩⟩ := hI
  unfold Same fn_X4_count fn_X5_count
  rw [pu_in]
  simp only [Option.bind_some]
  by_cases c7 : 7 ≤ a ∧ a ≤ 13
  · have h0 : ¬ a < 0 := by
      rw [Int32.not_lt]; exact Int32.le_trans (by decide) c7.1
    obtain ⟨k, hk, rfl⟩ := nI_of2 (x := a) (M := 13) (n := 13) (by decide) h0 c7.2
    have l7 : 7 ≤ k := by
      have : nI 7 ≤ nI k := c7.1
      rw [nI_leI (by omega) (by omega)] at this; exact this
    obtain ⟨j, rfl⟩ : ∃ j, k = j + 7 := ⟨k - 7, by omega⟩
    have ej : nI (j + 7) - 7 = nI j := nI_sub
    have ne : ∀ b : Nat, b < 100 → b ≠ j + 7 → ¬ nI (j + 7) = nI b := fun b hb' q e => by
      rw [nI_eq (by omega) (by omega)] at e; omega
    refine ⟨x 158 j, ?_, ?_⟩
    · rw [if_neg (show ¬ nI (j + 7) = (14 : Int32) from ne 14 (by omega) (by omega)), if_neg (show ¬ nI (j + 7) = (15 : Int32) from ne 15 (by omega) (by omega))]
      unfold fn_X3_tell
      have n7 : ¬ nI (j + 7) < 7 := by show ¬ nI (j + 7) < nI 7; exact nI_nlt (by omega) (by omega)
      have n8 : ¬ 7 ≤ nI j := by show ¬ nI 7 ≤ nI j; exact nI_ge (by omega) (by omega)
      rw [if_neg (show ¬ nI (j + 7) = (0 : Int32) from ne 0 (by omega) (by omega)), if_neg (show ¬ nI (j + 7) = (1 : Int32) from ne 1 (by omega) (by omega)), if_neg (show ¬ nI (j + 7) = (2 : Int32) from ne 2 (by omega) (by omega)), if_neg (show ¬ nI (j + 7) = (3 : Int32) from ne 3 (by omega) (by omega)), if_neg (show ¬ nI (j + 7) = (4 : Int32) from ne 4 (by omega) (by omega)), if_neg (show ¬ nI (j + 7) = (5 : Int32) from ne 5 (by omega) (by omega)), if_neg (show ¬ nI (j + 7) = (6 : Int32) from ne 6 (by omega) (by omega)), if_neg n7, ej, if_neg n8, if_neg (nI_in (by omega) (by omega)), nI_clamp (by omega)]
      simp only [Option.bind_some]
      rw [← sS j (by omega)]
    · rw [if_pos c7, if_neg (by decide), ej, if_neg (nI_in (by omega) (by omega)), nI_clamp (by omega)]
  · rw [if_neg c7, if_pos rfl]
    have ne : ∀ b : Int32, 7 ≤ b ∧ b ≤ 13 → a ≠ b := fun b hb' e => c7 (e ▸ hb')
    by_cases q14 : a = 14
    · subst q14
      rw [if_pos rfl, if_neg (by decide), if_neg (by decide), if_neg (by decide), if_neg (by decide), if_neg (by decide), if_neg (by decide), if_neg (by decide), if_pos rfl]
      exact ⟨nI len, congrArg some a1, congrArg some a2⟩
    by_cases q15 : a = 15
    · subst q15
      rw [if_neg (by decide), if_pos rfl, if_neg (by decide), if_neg (by decide), if_neg (by decide), if_neg (by decide), if_neg (by decide), if_neg (by decide), if_neg (by decide), if_neg (by decide), if_pos rfl]
      exact ⟨nI h, congrArg some hH.2.1, congrArg some hH.2.2.1⟩
    rw [if_neg q14, if_neg q15, if_neg q14, if_neg q15]
    unfold fn_X3_tell
    by_cases q0 : a = 0
    · rw [if_pos q0, if_pos q0]; exact ⟨_, congrArg some sN.2, rfl⟩
    rw [if_neg q0, if_neg q0]
    by_cases q1 : a = 1
    · rw [if_pos q1, if_pos q1]; exact ⟨_, congrArg some sN.1, rfl⟩
    rw [if_neg q1, if_neg q1]
    by_cases q2 : a = 2
    · rw [if_pos q2, if_pos q2]
      obtain ⟨r, f, g⟩ := mask0 hR c 0 9 0 (by omega) (by omega)
      unfold fn_X3_openOnes fn_X5_mask
      rw [nI_0] at f g
      rw [f, g]; exact ⟨r, rfl, rfl⟩
    rw [if_neg q2, if_neg q2]
    by_cases q3 : a = 3
    · rw [if_pos q3, if_pos q3]
      obtain ⟨r, f, g⟩ := mask3 hR c 0 9 0 (by omega) (by omega)
      unfold fn_X3_shunnedOnes fn_X5_mask
      rw [nI_0] at f g
      rw [f, g]; exact ⟨r, rfl, rfl⟩
    rw [if_neg q3, if_neg q3]
    by_cases q4 : a = 4
    · rw [if_pos q4, if_pos q4, pu_X5_taken hc h8]; exact ⟨_, congrArg some sT.1, rfl⟩
    rw [if_neg q4, if_neg q4]
    by_cases q5 : a = 5
    · rw [if_pos q5, if_pos q5]; exact ⟨_, congrArg some sT.2, rfl⟩
    rw [if_neg q5, if_neg q5]
    by_cases q6 : a = 6
    · rw [if_pos q6, if_pos q6]; exact ⟨nI ee, congrArg some h43, congrArg some h10⟩
    rw [if_neg q6, if_neg q6]
    by_cases q7 : a < 7
    · rw [if_pos q7]; exact ⟨_, rfl, rfl⟩
    have h0 : ¬ a < 0 := fun q => q7 (Int32.lt_trans q (by decide))
    obtain ⟨k, hk, rfl⟩ := nI_of h0
    have l7 : ¬ k < 7 := fun q => q7 (show nI k < nI 7 from nI_lt q (by omega))
    have l16 : 14 ≤ k := by
      by_cases q : k ≤ 13
      · exact absurd ⟨show nI 7 ≤ nI k from nI_le (by omega) (by omega), show nI k ≤ nI 13 from nI_le q (by omega)⟩ c7
      · omega
    obtain ⟨j, rfl⟩ : ∃ j, k = j + 7 := ⟨k - 7, by omega⟩
    have ej : nI (j + 7) - 7 = nI j := nI_sub
    have l8 : 7 ≤ nI j := by show nI 7 ≤ nI j; exact nI_le (by omega) (by omega)
    rw [if_neg q7, ej, if_pos l8]; exact ⟨_, rfl, rfl⟩
