/-! THE CLASS'S RIVER: which landing is taken, fines, changes -/
theorem kd_l {i : Nat} (hi : i < 8) : mm_kd (3 + 5 + i) = 1 := by
  have key : ∀ i, i < 8 → mm_kd (3 + 5 + i) = 1 := by decide
  exact key i hi
theorem B_can {x : mm_M} {k : Nat} (hk : mm_kd k = 1) : fn_X1_canBeTaken k x = some (if x k 0 = 0 then 0 else if x k 3 = 0 then 1 else 0) := by
  unfold fn_X1_canBeTaken
  rw [if_pos hk]
  by_cases h : x k 0 = 0
  · rw [if_pos h, if_pos h]
  · rw [if_neg h, if_neg h]
    by_cases h3 : x k 3 = 0
    · rw [if_pos h3, if_pos h3]
    · rw [if_neg h3, if_neg h3]
theorem B_ft5 {x : mm_M} {v : Nat → Int32} {c : Nat} (hc : c ≤ 8) (hx : x 1 2 = nI c) (hL : ∀ i, i < c → ∀ j, j < 8 → x (3 + 5 + i) j = v (71 + 8 * i + j)) (hb : ∀ i, i < c → bz (v (71 + 8 * i)) ∧ bz (v (71 + 8 * i + 3))) :
    ∀ (n i fuel : Nat) (best : Int32), i + n = c → n < fuel → okb best i → fn_X3_followTaken_5 fuel best (nI i) x = some (tkV v n i best) := by
  intro n
  induction n with
  | zero =>
    intro i fuel best hi hf _
    obtain ⟨m, rfl⟩ : ∃ m, fuel = m + 1 := ⟨fuel - 1, by omega⟩
    rw [fn_X3_followTaken_5, hx, if_pos (nI_le (by omega) (by omega))]
    rfl
  | succ n ih =>
    intro i fuel best hi hf hbest
    obtain ⟨m, rfl⟩ : ∃ m, fuel = m + 1 := ⟨fuel - 1, by omega⟩
    have hi8 : i < 8 := by omega
    have ih' := fun b hb => ih (i + 1) m b (by omega) (by omega) hb
    have x0 : x (3 + 5 + i) 0 = v (71 + 8 * i) := hL i (by omega) 0 (by omega)
    have x1 := hL i (by omega) 1 (by omega)
    have x3 := hL i (by omega) 3 (by omega)
    obtain ⟨b0, b3⟩ := hb i (by omega)
    have hin : ¬ (nI i < 0 ∨ 8 ≤ i) := by
      have := nI_in (N := 8) hi8 (by omega)
      rwa [nI_clamp (by omega)] at this
    rw [fn_X3_followTaken_5, hx, if_neg (nI_ge (by omega) (by omega))]
    simp only [nI_clamp (show i < 2 ^ 31 by omega), hin, if_false, B_can (kd_l hi8), Option.bind_some, nI_1, x0, x1, x3]
    rw [tkV]
    have hstep := okb_step (c := v (71 + 8 * i) = 1 ∧ v (71 + 8 * i + 3) = 0 ∧ (best < 0 ∨ v (71 + 8 * i + 1) < v (71 + 8 * best.toNatClampNeg + 1))) hbest
    rw [← ih' _ hstep]
    have h10 : ¬ ((1 : Int32) = 0) := by decide
    have h01 : ¬ ((0 : Int32) = 1) := by decide
    rcases b0 with b0 | b0
    · simp only [b0, if_true, h01, false_and, if_false]
    · rcases b3 with b3 | b3
      · simp only [b0, b3, h10, if_false, if_true, true_and]
        rcases hbest with rfl | ⟨k, hk, rfl⟩
        · have h6 : ((-6 : Int32) < 0) := by decide
          simp only [h6, true_or, if_true]
        · have h7 : ¬ nI k < 0 := nI_pos (by omega)
          have y1 := hL k (by omega) 1 (by omega)
          have hin2 : ¬ (nI k < 0 ∨ 8 ≤ k) := by
            have := nI_in (N := 8) (show k < 8 by omega) (by omega)
            rwa [nI_clamp (by omega)] at this
          have h8k : ¬ 8 ≤ k := by omega
          simp only [h7, if_false, false_or, nI_clamp (show k < 2 ^ 31 by omega), h8k, y1]
          by_cases c4 : v (71 + 8 * i + 1) < v (71 + 8 * k + 1)
          · rw [if_pos c4, if_neg (Int32.not_le.mpr c4)]
          · rw [if_neg c4, if_pos (Int32.not_lt.mp c4)]
      · simp only [b0, b3, h10, if_false, if_true, false_and, and_false]
theorem B_follow {x : mm_M} {v : Nat → Int32} (hv : WV v) (hL : SimL x 1 v) (hx : x 1 2 = v 8) : ∃ x', fn_X3_followTaken x = some x' ∧ x' 1 4 = taken v ∧ x' 1 5 = x 1 5 + (if taken v = x 1 4 then 0 else 1) ∧ (∀ j, j ≠ 4 → j ≠ 5 → x' 1 j = x 1 j) ∧ ∀ a, a ≠ 1 → x' a = x a := by
  obtain ⟨c, hc, h8, hL⟩ := hL
  have hb : ∀ i, i < c → bz (v (71 + 8 * i)) ∧ bz (v (71 + 8 * i + 3)) := fun i hi => ⟨(hv.2.2.2 i (by omega)).1, (hv.2.2.2 i (by omega)).2.1⟩
  have h := B_ft5 (x := x) (v := v) hc (hx.trans h8) (fun i hi j hj => hL i hi j hj) hb c 0 9 (-6) (by omega) (by omega) (Or.inl rfl)
  rw [nI_0] at h
  have ht : taken v = tkV v c 0 (-6) := by unfold taken; rw [h8, nI_clamp (by omega)]
  rw [← ht] at h
  unfold fn_X3_followTaken
  rw [h]
  simp only [Option.bind_some]
  by_cases c1 : taken v = x 1 4
  · rw [if_pos c1, if_pos c1]
    exact ⟨x, rfl, c1.symm, (Int32.add_zero _).symm, fun _ _ _ => rfl, fun _ _ => rfl⟩
  · rw [if_neg c1, if_neg c1]
    refine ⟨_, rfl, ?_, ?_, ?_, ?_⟩
    · rw [mm_up_app, if_neg (by omega), mm_up_app, if_pos ⟨rfl, rfl⟩]
    · rw [mm_up_app, if_pos ⟨rfl, rfl⟩, mm_up_app, if_neg (by omega)]
    · intro j h4 h5
      rw [mm_up_app, if_neg (by omega), mm_up_app, if_neg (by omega)]
    · intro a ha
      rw [mm_up_ne ha, mm_up_ne ha]
theorem heldf_min (s : Int32) : (if (99999 : Int32) < s then (99999 : Int32) else s) = heldf s := by
  unfold heldf
  by_cases h : (99999 : Int32) < s
  · rw [if_pos h, if_pos (by rw [Int32.le_iff_lt_or_eq]; exact Or.inl h)]
  · rw [if_neg h]
    by_cases h2 : (99999 : Int32) ≤ s
    · rw [if_pos h2]
      rw [Int32.le_iff_lt_or_eq] at h2
      rcases h2 with h2 | h2
      · exact absurd h2 h
      · exact h2.symm
    · rw [if_neg h2]
theorem B_fine {x : mm_M} {k sort : Nat} (hk : mm_kd k = 1) (hs : sort < 7) : ∃ x' fl, fn_X3_fineBySort k (nI sort) x = some (x', fl) ∧ (∀ a, a ≠ k → x' a = x a) ∧
    ((x k 3 = 0 ∧ x 2 4 < heldf (x k 2 + x 2 sort)) ∧ fl = 1 ∧ x' k = upd (upd (upd (upd (upd (x k) 2 (heldf (x k 2 + x 2 sort))) 6 (x k 6 + 1)) 3 1) 4 0) 7 (x k 7 + 1) ∨ ¬ (x k 3 = 0 ∧ x 2 4 < heldf (x k 2 + x 2 sort)) ∧ fl = 0 ∧ x' k = upd (upd (x k) 2 (heldf (x k 2 + x 2 sort))) 6 (x k 6 + 1)) := by
  have hin : ¬ (nI sort < 0 ∨ 7 ≤ sort) := by
    have := nI_in (N := 7) hs (by omega)
    rwa [nI_clamp (by omega)] at this
  obtain ⟨F, hF⟩ : ∃ F, F = heldf (x k 2 + x 2 sort) := ⟨_, rfl⟩
  have v1 : vp_nar .boolean 1 = 1 := rfl
  have v0 : vp_nar .boolean 0 = 0 := rfl
  have ext : ∀ (y : mm_M) (w : Nat → Int32), (∀ i, y k i = w i) → y k = w := fun y w h => funext h
  rw [← hF]
  have e0 : fn_X3_fineBySort k (nI sort) x = mm_b2 (if x k 3 = 0 then (if x 2 4 < F then some (mm_up (mm_up (mm_up (mm_up (mm_up x k 6 (x k 6 + 1)) k 2 F) k 3 1) k 4 0) k 7 (x k 7 + 1), 1) else some (mm_up (mm_up x k 6 (x k 6 + 1)) k 2 F, 0)) else some (mm_up (mm_up x k 6 (x k 6 + 1)) k 2 F, 0)) fun x1 v1 => if vp_nar .boolean v1 = v1 then some (x1, v1) else none := by
    unfold fn_X3_fineBySort fn_X1_addFine
    simp only [hk, if_true, nI_clamp (show sort < 2 ^ 31 by omega), hin, if_false, Option.bind_some, mm_up_app, true_and, Nat.reduceEqDiff, and_false, heldf_min, hF]
  by_cases c1 : x k 3 = 0
  · by_cases c2 : x 2 4 < F
    · refine ⟨mm_up (mm_up (mm_up (mm_up (mm_up x k 6 (x k 6 + 1)) k 2 F) k 3 1) k 4 0) k 7 (x k 7 + 1), 1, ?_, fun a ha => by simp only [mm_up_ne ha], Or.inl ⟨⟨c1, c2⟩, rfl, ext _ _ (fun i => ?_)⟩⟩
      · rw [e0, if_pos c1, if_pos c2, mm_b2_some, if_pos v1]
      · simp only [mm_up_app, true_and, upd]
        (repeat' split) <;> first | rfl | omega | simp_all
    · refine ⟨mm_up (mm_up x k 6 (x k 6 + 1)) k 2 F, 0, ?_, fun a ha => by simp only [mm_up_ne ha], Or.inr ⟨fun q => c2 q.2, rfl, ext _ _ (fun i => ?_)⟩⟩
      · rw [e0, if_pos c1, if_neg c2, mm_b2_some, if_pos v0]
      · simp only [mm_up_app, true_and, upd]
        (repeat' split) <;> first | rfl | omega | simp_all
  · refine ⟨mm_up (mm_up x k 6 (x k 6 + 1)) k 2 F, 0, ?_, fun a ha => by simp only [mm_up_ne ha], Or.inr ⟨fun q => c1 q.1, rfl, ext _ _ (fun i => ?_)⟩⟩
    · rw [e0, if_neg c1, mm_b2_some, if_pos v0]
    · simp only [mm_up_app, true_and, upd]
      (repeat' split) <;> first | rfl | omega | simp_all
/-- a landing laid anew in the row -/
theorem SimL_up {x x' : mm_M} {v w : Nat → Int32} {i : Nat} (hL : SimL x 1 v) (hi : i < 8) (ho : ∀ a, 8 ≤ a → a < 16 → a ≠ 8 + i → x' a = x a) (hn : ∀ j, j < 8 → x' (8 + i) j = w (71 + 8 * i + j)) (hw : ∀ j, (j = 8 ∨ 71 ≤ j) → (j < 71 + 8 * i ∨ 71 + 8 * i + 7 < j) → w j = v j) : SimL x' 1 w := by
  obtain ⟨c, hc, h8, hL⟩ := hL
  refine ⟨c, hc, by rw [hw 8 (by omega) (by omega), h8], fun a ha j hj => ?_⟩
  have hL := hL a ha j hj
  have e : 1 + 7 + a = 8 + a := by omega
  rw [e] at hL ⊢
  by_cases hai : a = i
  · subst hai; exact hn j hj
  · rw [ho (8 + a) (by omega) (by omega) (by omega), hL, hw _ (by omega) (by omega)]
theorem SimL_same {x x' : mm_M} {v w : Nat → Int32} (hL : SimL x 1 v) (ho : ∀ a, 8 ≤ a → a < 16 → x' a = x a) (hw : ∀ j, (j = 8 ∨ 71 ≤ j) → w j = v j) : SimL x' 1 w := by
  obtain ⟨c, hc, h8, hL⟩ := hL
  refine ⟨c, hc, by rw [hw 8 (by omega), h8], fun a ha j hj => ?_⟩
  have hL := hL a ha j hj
  have e : 1 + 7 + a = 8 + a := by omega
  rw [e] at hL ⊢
  rw [ho (8 + a) (by omega) (by omega), hL, hw _ (by omega)]
theorem SimJ_same {x x' : mm_M} {v w : Nat → Int32} (hJ : SimJ x 1 v) (ho : ∀ a, 4 ≤ a → a < 8 → x' a = x a) (hw : ∀ j, 10 ≤ j → j ≤ 70 → w j = v j) : SimJ x' 1 w := by
  obtain ⟨e, nx, he, hnx, h10, h3, h4, hlog⟩ := hJ
  refine ⟨e, nx, he, hnx, by rw [hw 10 (by omega) (by omega)]; exact h10, by rw [ho _ (by omega) (by omega)]; exact h3, by rw [ho _ (by omega) (by omega)]; exact h4, fun t ht => ?_⟩
  rw [ho (1 + 4) (by omega) (by omega), ho (1 + 5) (by omega) (by omega), ho (1 + 6) (by omega) (by omega), hw _ (by omega) (by omega), hw _ (by omega) (by omega), hw _ (by omega) (by omega)]
  exact hlog t ht
theorem tkV_congr {v w : Nat → Int32} : ∀ (n i : Nat) (b : Int32), i + n ≤ 8 → okb b i → (∀ k, k < 8 → w (71 + 8 * k) = v (71 + 8 * k) ∧ w (71 + 8 * k + 1) = v (71 + 8 * k + 1) ∧ w (71 + 8 * k + 3) = v (71 + 8 * k + 3)) → tkV w n i b = tkV v n i b := by
  intro n
  induction n with
  | zero => intro i b _ _ _; rfl
  | succ n ih =>
    intro i b hi hb h
    obtain ⟨h0, h1, h3⟩ := h i (by omega)
    rw [tkV, tkV, h0, h1, h3]
    rcases hb with rfl | ⟨k, hk, rfl⟩
    · have h6 : ((-6 : Int32) < 0) := by decide
      simp only [h6, true_or]
      exact ih _ _ (by omega) (okb_step (Or.inl rfl)) h
    · have e := (h k (by omega)).2.1
      rw [nI_clamp (by omega), e]
      have := okb_step (c := v (71 + 8 * i) = 1 ∧ v (71 + 8 * i + 3) = 0 ∧ (nI k < 0 ∨ v (71 + 8 * i + 1) < v (71 + 8 * k + 1))) (Or.inr ⟨k, hk, rfl⟩ : okb (nI k) i)
      exact ih _ _ (by omega) this h
theorem taken_congr {v w : Nat → Int32} (h8 : w 8 = v 8) (hc : ∃ c, c ≤ 8 ∧ v 8 = nI c) (h : ∀ k, k < 8 → w (71 + 8 * k) = v (71 + 8 * k) ∧ w (71 + 8 * k + 1) = v (71 + 8 * k + 1) ∧ w (71 + 8 * k + 3) = v (71 + 8 * k + 3)) : taken w = taken v := by
  obtain ⟨c, hc, e⟩ := hc
  unfold taken
  rw [h8, e, nI_clamp (by omega)]
  exact tkV_congr c 0 (-6) (by omega) (Or.inl rfl) h
