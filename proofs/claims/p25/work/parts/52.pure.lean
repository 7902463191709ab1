/-! THE CLASS'S RIVER against a row -/
def SimS (x : mm_M) (k : Nat) (v : Nat → Int32) : Prop := ∀ j, j < 7 → x (k + 1) j = v j
def SimN (x : mm_M) (k : Nat) (v : Nat → Int32) : Prop := x k 2 = v 8 ∧ x k 3 = v 7
def SimT (x : mm_M) (k : Nat) (v : Nat → Int32) : Prop := x k 4 = taken v ∧ x k 5 = v 9
def SimJ (x : mm_M) (k : Nat) (v : Nat → Int32) : Prop := ∃ e nx, e ≤ 20 ∧ nx < 20 ∧ v 10 = nI e ∧ x (k + 3) 3 = nI e ∧ x (k + 3) 4 = nI nx ∧ ∀ t, t < e → x (k + 4) ((nx + 19 - t) % 20) = v (11 + 3 * t) ∧ x (k + 5) ((nx + 19 - t) % 20) = v (12 + 3 * t) ∧ x (k + 6) ((nx + 19 - t) % 20) = v (13 + 3 * t)
def SimL (x : mm_M) (k : Nat) (v : Nat → Int32) : Prop := ∃ c, c ≤ 8 ∧ v 8 = nI c ∧ ∀ i, i < c → ∀ j, j < 8 → x (k + 7 + i) j = v (71 + 8 * i + j)
def Sim (x : mm_M) (k : Nat) (v : Nat → Int32) : Prop := SimS x k v ∧ SimN x k v ∧ SimT x k v ∧ SimJ x k v ∧ SimL x k v
def BZ (x : mm_M) : Prop := ∀ a, mm_kd a = 1 → bz (x a 0) ∧ bz (x a 3)
theorem B_add {x : mm_M} {v : Nat → Int32} {w l t : Int32} (hJ : SimJ x 1 v) (ht : t = v 7) : ∃ x', fn_X0_add w l t x = some x' ∧ SimJ x' 1 (noteV v w l) ∧ ∀ a, a ≠ 4 → a ≠ 5 → a ≠ 6 → a ≠ 7 → x' a = x a := by
  obtain ⟨e, nx, he, hnx, h10, h3, h4, hlog⟩ := hJ
  have h3 : x 4 3 = nI e := h3
  have h4 : x 4 4 = nI nx := h4
  have hlog : ∀ t, t < e → x 5 ((nx + 19 - t) % 20) = v (11 + 3 * t) ∧ x 6 ((nx + 19 - t) % 20) = v (12 + 3 * t) ∧ x 7 ((nx + 19 - t) % 20) = v (13 + 3 * t) := hlog
  have hin : ¬ (nI nx < 0 ∨ 20 ≤ nx) := by
    have := nI_in (N := 20) hnx (by omega)
    rwa [nI_clamp (by omega)] at this
  have hsz : (if (20 : Int32) < nI e + 1 then (20 : Int32) else nI e + 1) = nI (if e = 20 then 20 else e + 1) := by
    rw [nI_1]
    by_cases c : e = 20
    · subst c; decide
    · rw [if_neg c, if_neg]
      show ¬ nI 20 < nI (e + 1)
      exact nI_nlt (by omega) (by omega)
  have h10' : noteV v w l 10 = nI (if e = 20 then 20 else e + 1) := by
    have e1 : noteV v w l 10 = if 20 ≤ v 10 then v 10 else v 10 + 1 := rfl
    rw [e1, h10]
    by_cases c : e = 20
    · subst c; decide
    · rw [if_neg c, if_neg, nI_1]
      show ¬ nI 20 ≤ nI e
      exact nI_ge (by omega) (by omega)
  obtain ⟨e', he'⟩ : ∃ e', e' = if e = 20 then 20 else e + 1 := ⟨_, rfl⟩
  have e20 : e' ≤ 20 ∧ e' ≤ e + 1 := by rw [he']; by_cases c : e = 20 <;> simp [c] <;> omega
  have n11 : noteV v w l 11 = w := rfl
  have n12 : noteV v w l 12 = l := rfl
  have n13 : noteV v w l 13 = v 7 := rfl
  have nn : ∀ j, 14 ≤ j → j ≤ 70 → noteV v w l j = v (j - 3) := fun j h1 h2 => by
    unfold noteV
    rw [if_neg (by omega), if_neg (by omega), if_neg (by omega), if_neg (by omega), if_pos ⟨h1, h2⟩]
  have fin : ∀ (x' : mm_M) (nx' : Nat), nx' < 20 → (nx' = if nx = 19 then 0 else nx + 1) → x' 4 3 = nI e' → x' 4 4 = nI nx' → x' 5 = upd (x 5) nx w → x' 6 = upd (x 6) nx l → x' 7 = upd (x 7) nx t → SimJ x' 1 (noteV v w l) := by
    intro x' nx' hn' hn2 g3 g4 g5 g6 g7
    refine ⟨e', nx', e20.1, hn', by rw [h10', he'], g3, g4, fun t' ht' => ?_⟩
    show x' 5 _ = _ ∧ x' 6 _ = _ ∧ x' 7 _ = _
    rw [g5, g6, g7]
    have hpos : t' = 0 ∧ (nx' + 19 - t') % 20 = nx ∨ 1 ≤ t' ∧ (nx' + 19 - t') % 20 = (nx + 19 - (t' - 1)) % 20 ∧ (nx + 19 - (t' - 1)) % 20 ≠ nx := by
      rcases Nat.eq_zero_or_pos t' with q | q
      · left
        refine ⟨q, ?_⟩
        rw [hn2]
        by_cases c : nx = 19
        · rw [if_pos c]; omega
        · rw [if_neg c]; omega
      · right
        refine ⟨q, ?_, by omega⟩
        rw [hn2]
        by_cases c : nx = 19
        · rw [if_pos c]; omega
        · rw [if_neg c]; omega
    rcases hpos with ⟨q1, q2⟩ | ⟨q1, q2, q3⟩
    · subst q1
      rw [q2, upd_s, upd_s, upd_s, ht]
      exact ⟨n11.symm, n12.symm, n13.symm⟩
    · rw [q2, upd_n q3, upd_n q3, upd_n q3]
      obtain ⟨a1, a2, a3⟩ := hlog (t' - 1) (by omega)
      rw [nn (11 + 3 * t') (by omega) (by omega), nn (12 + 3 * t') (by omega) (by omega), nn (13 + 3 * t') (by omega) (by omega)]
      rw [show 11 + 3 * t' - 3 = 11 + 3 * (t' - 1) by omega, show 12 + 3 * t' - 3 = 12 + 3 * (t' - 1) by omega, show 13 + 3 * t' - 3 = 13 + 3 * (t' - 1) by omega]
      exact ⟨a1, a2, a3⟩
  have hfn : ∃ x', fn_X0_add w l t x = some x' ∧ x' 4 3 = nI e' ∧ x' 4 4 = nI (if nx = 19 then 0 else nx + 1) ∧ x' 5 = upd (x 5) nx w ∧ x' 6 = upd (x 6) nx l ∧ x' 7 = upd (x 7) nx t ∧ ∀ a, a ≠ 4 → a ≠ 5 → a ≠ 6 → a ≠ 7 → x' a = x a := by
    unfold fn_X0_add
    simp only [mm_up_app, h3, h4, nI_clamp (show nx < 2 ^ 31 by omega), hin, if_false, Option.bind_some, Nat.reduceEqDiff, false_and, and_false, and_self, if_true, nI_1, hsz]
    have c20 : (20 : Int32) ≤ nI (nx + 1) ↔ nx = 19 := by
      show nI 20 ≤ nI (nx + 1) ↔ nx = 19
      rw [nI_leI (by omega) (by omega)]; omega
    simp only [nI_1] at hsz
    by_cases c : nx = 19
    · rw [if_pos (c20.mpr c)]
      refine ⟨_, rfl, ?_, ?_, ?_, ?_, ?_, ?_⟩
      · rw [mm_up_app, if_pos ⟨rfl, rfl⟩, hsz, he']
      · rw [mm_up_app, if_neg (by omega), mm_up_app, if_pos ⟨rfl, rfl⟩, if_pos c]; rfl
      · rw [mm_up_ne (by omega), mm_up_ne (by omega), mm_up_ne (by omega), mm_up_ne (by omega), mm_up_same]
      · rw [mm_up_ne (by omega), mm_up_ne (by omega), mm_up_ne (by omega), mm_up_same, mm_up_ne (by omega)]
      · rw [mm_up_ne (by omega), mm_up_ne (by omega), mm_up_same, mm_up_ne (by omega), mm_up_ne (by omega)]
      · intro a a4 a5 a6 a7
        rw [mm_up_ne a4, mm_up_ne a4, mm_up_ne a7, mm_up_ne a6, mm_up_ne a5]
    · rw [if_neg (fun q => c (c20.mp q))]
      refine ⟨_, rfl, ?_, ?_, ?_, ?_, ?_, ?_⟩
      · rw [mm_up_app, if_pos ⟨rfl, rfl⟩, hsz, he']
      · rw [mm_up_app, if_neg (by omega), mm_up_app, if_pos ⟨rfl, rfl⟩, if_neg c]
      · rw [mm_up_ne (by omega), mm_up_ne (by omega), mm_up_ne (by omega), mm_up_ne (by omega), mm_up_same]
      · rw [mm_up_ne (by omega), mm_up_ne (by omega), mm_up_ne (by omega), mm_up_same, mm_up_ne (by omega)]
      · rw [mm_up_ne (by omega), mm_up_ne (by omega), mm_up_same, mm_up_ne (by omega), mm_up_ne (by omega)]
      · intro a a4 a5 a6 a7
        rw [mm_up_ne a4, mm_up_ne a4, mm_up_ne a7, mm_up_ne a6, mm_up_ne a5]
  obtain ⟨x', h1, g3, g4, g5, g6, g7, go⟩ := hfn
  exact ⟨x', h1, fin x' _ (by by_cases c : nx = 19 <;> simp [c] <;> omega) rfl g3 g4 g5 g6 g7, go⟩

/-! THE CLASS'S RIVER: which landing is taken, fines, changes -/
theorem kd_l {i : Nat} (hi : i < 8) : mm_kd (3 + 5 + i) = 1 := by
  have key : ∀ i, i < 8 → mm_kd (3 + 5 + i) = 1 := by decide
  exact key i hi
theorem B_can {x : mm_M} {k : Nat} (hk : mm_kd k = 1) : fn_X1_canBeTaken k x = some (if x k 0 = 0 then 0 else if x k 3 = 0 then 1 else 0) := by
  unfold fn_X1_canBeTaken
  rw [if_pos hk]
  by_cases h : x k 0 = 0
  · rw [if_pos h, if_pos h]
  · rw [if_neg h, if_neg h]
    by_cases h3 : x k 3 = 0
    · rw [if_pos h3, if_pos h3]
    · rw [if_neg h3, if_neg h3]
theorem B_ft5 {x : mm_M} {v : Nat → Int32} {c : Nat} (hc : c ≤ 8) (hx : x 1 2 = nI c) (hL : ∀ i, i < c → ∀ j, j < 8 → x (3 + 5 + i) j = v (71 + 8 * i + j)) (hb : ∀ i, i < c → bz (v (71 + 8 * i)) ∧ bz (v (71 + 8 * i + 3))) :
    ∀ (n i fuel : Nat) (best : Int32), i + n = c → n < fuel → okb best i → fn_X3_followTaken_5 fuel best (nI i) x = some (tkV v n i best) := by
  intro n
  induction n with
  | zero =>
    intro i fuel best hi hf _
    obtain ⟨m, rfl⟩ : ∃ m, fuel = m + 1 := ⟨fuel - 1, by omega⟩
    rw [fn_X3_followTaken_5, hx, if_pos (nI_le (by omega) (by omega))]
    rfl
  | succ n ih =>
    intro i fuel best hi hf hbest
    obtain ⟨m, rfl⟩ : ∃ m, fuel = m + 1 := ⟨fuel - 1, by omega⟩
    have hi8 : i < 8 := by omega
    have ih' := fun b hb => ih (i + 1) m b (by omega) (by omega) hb
    have x0 : x (3 + 5 + i) 0 = v (71 + 8 * i) := hL i (by omega) 0 (by omega)
    have x1 := hL i (by omega) 1 (by omega)
    have x3 := hL i (by omega) 3 (by omega)
    obtain ⟨b0, b3⟩ := hb i (by omega)
    have hin : ¬ (nI i < 0 ∨ 8 ≤ i) := by
      have := nI_in (N := 8) hi8 (by omega)
      rwa [nI_clamp (by omega)] at this
    rw [fn_X3_followTaken_5, hx, if_neg (nI_ge (by omega) (by omega))]
    simp only [nI_clamp (show i < 2 ^ 31 by omega), hin, if_false, B_can (kd_l hi8), Option.bind_some, nI_1, x0, x1, x3]
    rw [tkV]
    have hstep := okb_step (c := v (71 + 8 * i) = 1 ∧ v (71 + 8 * i + 3) = 0 ∧ (best < 0 ∨ v (71 + 8 * i + 1) < v (71 + 8 * best.toNatClampNeg + 1))) hbest
    rw [← ih' _ hstep]
    have h10 : ¬ ((1 : Int32) = 0) := by decide
    have h01 : ¬ ((0 : Int32) = 1) := by decide
    rcases b0 with b0 | b0
    · simp only [b0, if_true, h01, false_and, if_false]
    · rcases b3 with b3 | b3
      · simp only [b0, b3, h10, if_false, if_true, true_and]
        rcases hbest with rfl | ⟨k, hk, rfl⟩
        · have h6 : ((-6 : Int32) < 0) := by decide
          simp only [h6, true_or, if_true]
        · have h7 : ¬ nI k < 0 := nI_pos (by omega)
          have y1 := hL k (by omega) 1 (by omega)
          have hin2 : ¬ (nI k < 0 ∨ 8 ≤ k) := by
            have := nI_in (N := 8) (show k < 8 by omega) (by omega)
            rwa [nI_clamp (by omega)] at this
          have h8k : ¬ 8 ≤ k := by omega
          simp only [h7, if_false, false_or, nI_clamp (show k < 2 ^ 31 by omega), h8k, y1]
          by_cases c4 : v (71 + 8 * i + 1) < v (71 + 8 * k + 1)
          · rw [if_pos c4, if_neg (Int32.not_le.mpr c4)]
          · rw [if_neg c4, if_pos (Int32.not_lt.mp c4)]
      · simp only [b0, b3, h10, if_false, if_true, false_and, and_false]
theorem B_follow {x : mm_M} {v : Nat → Int32} (hv : WV v) (hL : SimL x 1 v) (hx : x 1 2 = v 8) : ∃ x', fn_X3_followTaken x = some x' ∧ x' 1 4 = taken v ∧ x' 1 5 = x 1 5 + (if taken v = x 1 4 then 0 else 1) ∧ (∀ j, j ≠ 4 → j ≠ 5 → x' 1 j = x 1 j) ∧ ∀ a, a ≠ 1 → x' a = x a := by
  obtain ⟨c, hc, h8, hL⟩ := hL
  have hb : ∀ i, i < c → bz (v (71 + 8 * i)) ∧ bz (v (71 + 8 * i + 3)) := fun i hi => ⟨(hv.2.2.2 i (by omega)).1, (hv.2.2.2 i (by omega)).2.1⟩
  have h := B_ft5 (x := x) (v := v) hc (hx.trans h8) (fun i hi j hj => hL i hi j hj) hb c 0 9 (-6) (by omega) (by omega) (Or.inl rfl)
  rw [nI_0] at h
  have ht : taken v = tkV v c 0 (-6) := by unfold taken; rw [h8, nI_clamp (by omega)]
  rw [← ht] at h
  unfold fn_X3_followTaken
  rw [h]
  simp only [Option.bind_some]
  by_cases c1 : taken v = x 1 4
  · rw [if_pos c1, if_pos c1]
    exact ⟨x, rfl, c1.symm, (Int32.add_zero _).symm, fun _ _ _ => rfl, fun _ _ => rfl⟩
  · rw [if_neg c1, if_neg c1]
    refine ⟨_, rfl, ?_, ?_, ?_, ?_⟩
    · rw [mm_up_app, if_neg (by omega), mm_up_app, if_pos ⟨rfl, rfl⟩]
    · rw [mm_up_app, if_pos ⟨rfl, rfl⟩, mm_up_app, if_neg (by omega)]
    · intro j h4 h5
      rw [mm_up_app, if_neg (by omega), mm_up_app, if_neg (by omega)]
    · intro a ha
      rw [mm_up_ne ha, mm_up_ne ha]
theorem heldf_min (s : Int32) : (if (99999 : Int32) < s then (99999 : Int32) else s) = heldf s := by
  unfold heldf
  by_cases h : (99999 : Int32) < s
  · rw [if_pos h, if_pos (by rw [Int32.le_iff_lt_or_eq]; exact Or.inl h)]
  · rw [if_neg h]
    by_cases h2 : (99999 : Int32) ≤ s
    · rw [if_pos h2]
      rw [Int32.le_iff_lt_or_eq] at h2
      rcases h2 with h2 | h2
      · exact absurd h2 h
      · exact h2.symm
    · rw [if_neg h2]
theorem B_fine {x : mm_M} {k sort : Nat} (hk : mm_kd k = 1) (hs : sort < 7) : ∃ x' fl, fn_X3_fineBySort k (nI sort) x = some (x', fl) ∧ (∀ a, a ≠ k → x' a = x a) ∧
    ((x k 3 = 0 ∧ x 2 4 < heldf (x k 2 + x 2 sort)) ∧ fl = 1 ∧ x' k = upd (upd (upd (upd (upd (x k) 2 (heldf (x k 2 + x 2 sort))) 6 (x k 6 + 1)) 3 1) 4 0) 7 (x k 7 + 1) ∨ ¬ (x k 3 = 0 ∧ x 2 4 < heldf (x k 2 + x 2 sort)) ∧ fl = 0 ∧ x' k = upd (upd (x k) 2 (heldf (x k 2 + x 2 sort))) 6 (x k 6 + 1)) := by
  have hin : ¬ (nI sort < 0 ∨ 7 ≤ sort) := by
    have := nI_in (N := 7) hs (by omega)
    rwa [nI_clamp (by omega)] at this
  obtain ⟨F, hF⟩ : ∃ F, F = heldf (x k 2 + x 2 sort) := ⟨_, rfl⟩
  have v1 : vp_nar .boolean 1 = 1 := rfl
  have v0 : vp_nar .boolean 0 = 0 := rfl
  have ext : ∀ (y : mm_M) (w : Nat → Int32), (∀ i, y k i = w i) → y k = w := fun y w h => funext h
  rw [← hF]
  have e0 : fn_X3_fineBySort k (nI sort) x = mm_b2 (if x k 3 = 0 then (if x 2 4 < F then some (mm_up (mm_up (mm_up (mm_up (mm_up x k 6 (x k 6 + 1)) k 2 F) k 3 1) k 4 0) k 7 (x k 7 + 1), 1) else some (mm_up (mm_up x k 6 (x k 6 + 1)) k 2 F, 0)) else some (mm_up (mm_up x k 6 (x k 6 + 1)) k 2 F, 0)) fun x1 v1 => if vp_nar .boolean v1 = v1 then some (x1, v1) else none := by
    unfold fn_X3_fineBySort fn_X1_addFine
    simp only [hk, if_true, nI_clamp (show sort < 2 ^ 31 by omega), hin, if_false, Option.bind_some, mm_up_app, true_and, Nat.reduceEqDiff, and_false, heldf_min, hF]
  by_cases c1 : x k 3 = 0
  · by_cases c2 : x 2 4 < F
    · refine ⟨mm_up (mm_up (mm_up (mm_up (mm_up x k 6 (x k 6 + 1)) k 2 F) k 3 1) k 4 0) k 7 (x k 7 + 1), 1, ?_, fun a ha => by simp only [mm_up_ne ha], Or.inl ⟨⟨c1, c2⟩, rfl, ext _ _ (fun i => ?_)⟩⟩
      · rw [e0, if_pos c1, if_pos c2, mm_b2_some, if_pos v1]
      · simp only [mm_up_app, true_and, upd]
        (repeat' split) <;> first | rfl | omega | simp_all
    · refine ⟨mm_up (mm_up x k 6 (x k 6 + 1)) k 2 F, 0, ?_, fun a ha => by simp only [mm_up_ne ha], Or.inr ⟨fun q => c2 q.2, rfl, ext _ _ (fun i => ?_)⟩⟩
      · rw [e0, if_pos c1, if_neg c2, mm_b2_some, if_pos v0]
      · simp only [mm_up_app, true_and, upd]
        (repeat' split) <;> first | rfl | omega | simp_all
  · refine ⟨mm_up (mm_up x k 6 (x k 6 + 1)) k 2 F, 0, ?_, fun a ha => by simp only [mm_up_ne ha], Or.inr ⟨fun q => c1 q.1, rfl, ext _ _ (fun i => ?_)⟩⟩
    · rw [e0, if_neg c1, mm_b2_some, if_pos v0]
    · simp only [mm_up_app, true_and, upd]
      (repeat' split) <;> first | rfl | omega | simp_all
/-- a landing laid anew in the row -/
theorem SimL_up {x x' : mm_M} {v w : Nat → Int32} {i : Nat} (hL : SimL x 1 v) (hi : i < 8) (ho : ∀ a, 8 ≤ a → a < 16 → a ≠ 8 + i → x' a = x a) (hn : ∀ j, j < 8 → x' (8 + i) j = w (71 + 8 * i + j)) (hw : ∀ j, (j = 8 ∨ 71 ≤ j) → (j < 71 + 8 * i ∨ 71 + 8 * i + 7 < j) → w j = v j) : SimL x' 1 w := by
  obtain ⟨c, hc, h8, hL⟩ := hL
  refine ⟨c, hc, by rw [hw 8 (by omega) (by omega), h8], fun a ha j hj => ?_⟩
  have hL := hL a ha j hj
  have e : 1 + 7 + a = 8 + a := by omega
  rw [e] at hL ⊢
  by_cases hai : a = i
  · subst hai; exact hn j hj
  · rw [ho (8 + a) (by omega) (by omega) (by omega), hL, hw _ (by omega) (by omega)]
theorem SimL_same {x x' : mm_M} {v w : Nat → Int32} (hL : SimL x 1 v) (ho : ∀ a, 8 ≤ a → a < 16 → x' a = x a) (hw : ∀ j, (j = 8 ∨ 71 ≤ j) → w j = v j) : SimL x' 1 w := by
  obtain ⟨c, hc, h8, hL⟩ := hL
  refine ⟨c, hc, by rw [hw 8 (by omega), h8], fun a ha j hj => ?_⟩
  have hL := hL a ha j hj
  have e : 1 + 7 + a = 8 + a := by omega
  rw [e] at hL ⊢
  rw [ho (8 + a) (by omega) (by omega), hL, hw _ (by omega)]
theorem SimJ_same {x x' : mm_M} {v w : Nat → Int32} (hJ : SimJ x 1 v) (ho : ∀ a, 4 ≤ a → a < 8 → x' a = x a) (hw : ∀ j, 10 ≤ j → j ≤ 70 → w j = v j) : SimJ x' 1 w := by
  obtain ⟨e, nx, he, hnx, h10, h3, h4, hlog⟩ := hJ
  refine ⟨e, nx, he, hnx, by rw [hw 10 (by omega) (by omega)]; exact h10, by rw [ho _ (by omega) (by omega)]; exact h3, by rw [ho _ (by omega) (by omega)]; exact h4, fun t ht => ?_⟩
  rw [ho (1 + 4) (by omega) (by omega), ho (1 + 5) (by omega) (by omega), ho (1 + 6) (by omega) (by omega), hw _ (by omega) (by omega), hw _ (by omega) (by omega), hw _ (by omega) (by omega)]
  exact hlog t ht
theorem tkV_congr {v w : Nat → Int32} : ∀ (n i : Nat) (b : Int32), i + n ≤ 8 → okb b i → (∀ k, k < 8 → w (71 + 8 * k) = v (71 + 8 * k) ∧ w (71 + 8 * k + 1) = v (71 + 8 * k + 1) ∧ w (71 + 8 * k + 3) = v (71 + 8 * k + 3)) → tkV w n i b = tkV v n i b := by
  intro n
  induction n with
  | zero => intro i b _ _ _; rfl
  | succ n ih =>
    intro i b hi hb h
    obtain ⟨h0, h1, h3⟩ := h i (by omega)
    rw [tkV, tkV, h0, h1, h3]
    rcases hb with rfl | ⟨k, hk, rfl⟩
    · have h6 : ((-6 : Int32) < 0) := by decide
      simp only [h6, true_or]
      exact ih _ _ (by omega) (okb_step (Or.inl rfl)) h
    · have e := (h k (by omega)).2.1
      rw [nI_clamp (by omega), e]
      have := okb_step (c := v (71 + 8 * i) = 1 ∧ v (71 + 8 * i + 3) = 0 ∧ (nI k < 0 ∨ v (71 + 8 * i + 1) < v (71 + 8 * k + 1))) (Or.inr ⟨k, hk, rfl⟩ : okb (nI k) i)
      exact ih _ _ (by omega) this h
theorem taken_congr {v w : Nat → Int32} (h8 : w 8 = v 8) (hc : ∃ c, c ≤ 8 ∧ v 8 = nI c) (h : ∀ k, k < 8 → w (71 + 8 * k) = v (71 + 8 * k) ∧ w (71 + 8 * k + 1) = v (71 + 8 * k + 1) ∧ w (71 + 8 * k + 3) = v (71 + 8 * k + 3)) : taken w = taken v := by
  obtain ⟨c, hc, e⟩ := hc
  unfold taken
  rw [h8, e, nI_clamp (by omega)]
  exact tkV_congr c 0 (-6) (by omega) (Or.inl rfl) h

