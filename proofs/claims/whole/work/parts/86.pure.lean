/-! THE REFERENCE'S COMING, ITS HISTORY AND SLOTS, ITS SETTINGS -/
def itm (c : Nat) (p : Int32) (j : Nat) : Int32 := if j = 71 + 8 * c then 1 else if j = 71 + 8 * c + 1 then p else 0
theorem itm_at (c : Nat) (p : Int32) (i : Nat) : itm c p (71 + 8 * c + i) = if i = 0 then 1 else if i = 1 then p else 0 := by
  unfold itm
  by_cases z0 : i = 0
  · subst z0; rw [if_pos (show 71 + 8 * c + 0 = 71 + 8 * c by omega), if_pos rfl]
  · rw [if_neg (show ¬ 71 + 8 * c + i = 71 + 8 * c by omega), if_neg z0]
    by_cases z1 : i = 1
    · subst z1; rw [if_pos rfl, if_pos rfl]
    · rw [if_neg (show ¬ 71 + 8 * c + i = 71 + 8 * c + 1 by omega), if_neg z1]
def newV (v : Nat → Int32) (c i : Nat) (p : Int32) : Nat → Int32 := fun j => if 71 + 8 * c + i ≤ j ∧ j < 71 + 8 * c + 8 then itm c p j else v j
theorem newV_lo {v : Nat → Int32} {c i j : Nat} {p : Int32} (h : j < 71 + 8 * c ∨ 71 + 8 * c + 7 < j) : newV v c i p j = v j := by
  unfold newV; rw [if_neg (by omega)]
theorem pu_com40 {x : mm_M} {c : Nat} (hlt : c < 8) {p t : Int32} : ∀ (n i fuel : Nat) (w : Nat → Int32), i + n = 8 → n < fuel → fn_X5_comes_40 fuel p (nI c) t (nI i) (cs x 158 w) = some (cs x 158 (newV w c i p)) := by
  intro n
  induction n with
  | zero =>
    intro i fuel w hi hf
    obtain ⟨m, rfl⟩ : ∃ m, fuel = m + 1 := ⟨fuel - 1, by omega⟩
    have c8 : (8 : Int32) ≤ nI i := by show nI 8 ≤ nI i; exact nI_le (by omega) (by omega)
    rw [fn_X5_comes_40, if_pos c8]
    refine congrArg (fun w => some (cs x 158 w)) (funext fun j => ?_)
    unfold newV; rw [if_neg (by omega)]
  | succ n ih =>
    intro i fuel w hi hf
    obtain ⟨m, rfl⟩ : ∃ m, fuel = m + 1 := ⟨fuel - 1, by omega⟩
    have c8 : ¬ (8 : Int32) ≤ nI i := by show ¬ nI 8 ≤ nI i; exact nI_ge (by omega) (by omega)
    have q0 : nI i = 0 ↔ i = 0 := nI_eq (b := 0) (by omega) (by omega)
    have q1 : nI i = 1 ↔ i = 1 := nI_eq (b := 1) (by omega) (by omega)
    have fin : ∀ a : Int32, (a = if i = 0 then 1 else if i = 1 then p else 0) → newV (upd w (71 + 8 * c + i) a) c (i + 1) p = newV w c i p := by
      intro a ha
      funext j
      unfold newV
      by_cases h1 : 71 + 8 * c + (i + 1) ≤ j ∧ j < 71 + 8 * c + 8
      · rw [if_pos h1, if_pos (by omega)]
      · rw [if_neg h1]
        by_cases h2 : j = 71 + 8 * c + i
        · subst h2
          rw [upd_s, if_pos (by omega), itm_at, ha]
        · rw [upd_n h2, if_neg (by omega)]
    rw [fn_X5_comes_40, if_neg c8]
    by_cases z0 : i = 0
    · rw [if_pos (q0.mpr z0), layc hlt (by omega)]
      simp only [Option.bind_some, nI_1]
      rw [ih (i + 1) m _ (by omega) (by omega), fin _ (by rw [if_pos z0])]
    · rw [if_neg (fun q => z0 (q0.mp q))]
      by_cases z1 : i = 1
      · rw [if_pos (q1.mpr z1), layc hlt (by omega)]
        simp only [Option.bind_some, nI_1]
        rw [ih (i + 1) m _ (by omega) (by omega), fin _ (by rw [if_neg z0, if_pos z1])]
      · rw [if_neg (fun q => z1 (q1.mp q)), layc hlt (by omega)]
        simp only [Option.bind_some, nI_1]
        rw [ih (i + 1) m _ (by omega) (by omega), fin _ (by rw [if_neg z0, if_neg z1])]
def comV (v : Nat → Int32) (p : Int32) : (Nat → Int32) × Int32 := if 0 ≤ p ∧ p ≤ 999 then (if v 8 = 8 then (v, -4) else (swV v (upd (newV v (v 8).toNatClampNeg 0 p) 8 (v 8 + 1)), v 8)) else (v, -2)
theorem pu_comes {x : mm_M} {v : Nat → Int32} (hv : WV v) (p : Int32) : fn_X5_comes p (cs x 158 v) = some (cs x 158 (comV v p).1, (comV v p).2) := by
  obtain ⟨c, hc, h8⟩ := hv.2.1
  unfold fn_X5_comes comV
  rw [pu_in]
  simp only [Option.bind_some, cs_k]
  by_cases h : 0 ≤ p ∧ p ≤ 999
  · have h10 : ¬ ((1 : Int32) = 0) := by decide
    simp only [h, and_self, if_true, h10, if_false, h8]
    by_cases c8 : nI c = 8
    · simp only [c8, if_true]
    · simp only [c8, if_false]
      have hlt : c < 8 := by
        rcases Nat.lt_or_ge c 8 with q | q
        · exact q
        · exact absurd (show nI c = 8 by rw [show c = 8 by omega]; decide) c8
      have hloop : ∀ t, fn_X5_comes_40 9 p (nI c) t 0 (cs x 158 v) = some (cs x 158 (newV v c 0 p)) := by
        intro t
        have h := pu_com40 (x := x) hlt (p := p) (t := t) 8 0 9 v (by omega) (by omega)
        rw [nI_0] at h
        exact h
      obtain ⟨w, hw⟩ : ∃ w, w = upd (newV v c 0 p) 8 (nI c + 1) := ⟨_, rfl⟩
      have hw8 : w 8 = nI (c + 1) := by rw [hw, upd_s, nI_1]
      have hn8 : newV v c 0 p 8 = nI c := by rw [newV_lo (by omega), h8]
      simp only [takenc hc x v h8, hloop, Option.bind_some, mm_up_of_cs, cs_k, hn8, nI_clamp (show c < 2 ^ 31 by omega)]
      rw [← hw, takenc (show c + 1 ≤ 8 by omega) x w hw8]
      simp only [Option.bind_some]
      unfold swV
      by_cases c1 : taken w = taken v
      · simp only [c1, if_true]
      · simp only [c1, if_false]
  · simp only [h, if_false, if_true]
theorem WV_com {v : Nat → Int32} {p : Int32} (hv : WV v) : WV (comV v p).1 := by
  unfold comV
  by_cases c1 : 0 ≤ p ∧ p ≤ 999
  · rw [if_pos c1]
    by_cases c2 : v 8 = 8
    · rw [if_pos c2]; exact hv
    · rw [if_neg c2]
      obtain ⟨c, hc, h8⟩ := hv.2.1
      have hlt : c < 8 := by
        rcases Nat.lt_or_ge c 8 with q | q
        · exact q
        · exact absurd (show v 8 = 8 by rw [h8, show c = 8 by omega]; decide) c2
      have h1 : WV (newV v c 0 p) := by
        obtain ⟨hS, hN, hE, hL⟩ := hv
        refine ⟨?_, ?_, ?_, fun i hi => ?_⟩
        · unfold SOK
          rw [newV_lo (by omega), newV_lo (by omega), newV_lo (by omega), newV_lo (by omega), newV_lo (by omega), newV_lo (by omega), newV_lo (by omega)]
          exact hS
        · rw [newV_lo (by omega)]; exact hN
        · rw [newV_lo (by omega)]; exact hE
        · by_cases hic : i = c
          · subst hic
            unfold LOK newV
            rw [if_pos (by omega), if_pos (by omega), if_pos (by omega), itm_at, itm_at, show itm i p (71 + 8 * i) = 1 from if_pos rfl]
            exact ⟨Or.inr rfl, Or.inl rfl, (by decide : (0 : Int32) ≤ 0), (by decide : (0 : Int32) ≤ 998)⟩
          · unfold LOK
            rw [newV_lo (by omega), newV_lo (by omega), newV_lo (by omega)]
            exact hL i hi
      rw [h8, nI_clamp (by omega), nI_1]
      exact WV_sw (WV_up8 h1 (by omega))
  · rw [if_neg c1]; exact hv
/-! copying -/
theorem pu_rem2 : ∀ (n i fuel : Nat) (x : mm_M), i + n = 135 → n < fuel → fn_X5_remember_2 fuel (nI i) x = some (cs x 160 (fun j => if i ≤ j ∧ j < 135 then x 158 j else x 160 j)) := by
  intro n
  induction n with
  | zero =>
    intro i fuel x hi hf
    obtain ⟨m, rfl⟩ : ∃ m, fuel = m + 1 := ⟨fuel - 1, by omega⟩
    have c : (135 : Int32) ≤ nI i := by show nI 135 ≤ nI i; exact nI_le (by omega) (by omega)
    rw [fn_X5_remember_2, if_pos c]
    refine congrArg some (cs_ext (fun _ _ => rfl) (fun j => ?_))
    rw [if_neg (by omega)]
  | succ n ih =>
    intro i fuel x hi hf
    obtain ⟨m, rfl⟩ : ∃ m, fuel = m + 1 := ⟨fuel - 1, by omega⟩
    have c : ¬ (135 : Int32) ≤ nI i := by show ¬ nI 135 ≤ nI i; exact nI_ge (by omega) (by omega)
    rw [fn_X5_remember_2, if_neg c, if_neg (nI_in (by omega) (by omega)), if_neg (nI_in (by omega) (by omega)), nI_clamp (by omega)]
    simp only [Option.bind_some, nI_1]
    rw [ih (i + 1) m _ (by omega) (by omega)]
    refine congrArg some (cs_ext (fun a ha => by rw [cs_ne ha, mm_up_ne ha]) (fun j => ?_))
    rw [cs_k]
    simp only [mm_up_app, true_and, Nat.reduceEqDiff, false_and, if_false]
    by_cases h1 : i + 1 ≤ j ∧ j < 135
    · rw [if_pos h1, if_pos (by omega)]
    · rw [if_neg h1]
      by_cases h2 : j = i
      · subst h2; rw [if_pos rfl, if_pos (by omega)]
      · rw [if_neg h2, if_neg (by omega)]
theorem pu_remember (x : mm_M) : fn_X5_remember x = some (cs x 160 (fun j => if j < 135 then x 158 j else x 160 j)) := by
  unfold fn_X5_remember
  have h := pu_rem2 135 0 136 x (by omega) (by omega)
  rw [nI_0] at h
  rw [h]
  simp
theorem pu_rec58 {a1 : Int32} {hh : Nat} (h6 : hh ≤ 5) : ∀ (n i fuel : Nat) (x : mm_M), x 157 5 = nI hh → i + n = 135 → n < fuel → fn_X5_record_58 fuel a1 (nI i) x = some (cs x 159 (fun j => if 135 * hh + i ≤ j ∧ j < 135 * hh + 135 then x 160 (j - 135 * hh) else x 159 j)) := by
  intro n
  induction n with
  | zero =>
    intro i fuel x hx hi hf
    obtain ⟨m, rfl⟩ : ∃ m, fuel = m + 1 := ⟨fuel - 1, by omega⟩
    have c : (135 : Int32) ≤ nI i := by show nI 135 ≤ nI i; exact nI_le (by omega) (by omega)
    rw [fn_X5_record_58, if_pos c]
    refine congrArg some (cs_ext (fun _ _ => rfl) (fun j => ?_))
    rw [if_neg (by omega)]
  | succ n ih =>
    intro i fuel x hx hi hf
    obtain ⟨m, rfl⟩ : ∃ m, fuel = m + 1 := ⟨fuel - 1, by omega⟩
    have c : ¬ (135 : Int32) ≤ nI i := by show ¬ nI 135 ≤ nI i; exact nI_ge (by omega) (by omega)
    have e : (135 : Int32) * x 157 5 + nI i = nI (135 * hh + i) := by
      rw [hx]; show nI 135 * nI hh + nI i = _; rw [pu_mul, nI_add]
    rw [fn_X5_record_58, if_neg c, if_neg (nI_in (by omega) (by omega)), e, if_neg (nI_in (by omega) (by omega)), nI_clamp (by omega), nI_clamp (by omega)]
    simp only [Option.bind_some, nI_1]
    rw [ih (i + 1) m _ (by rw [mm_up_ne (by omega)]; exact hx) (by omega) (by omega)]
    refine congrArg some (cs_ext (fun a ha => by rw [cs_ne ha, mm_up_ne ha]) (fun j => ?_))
    rw [cs_k]
    simp only [mm_up_app, true_and, Nat.reduceEqDiff, false_and, if_false]
    by_cases h1 : 135 * hh + (i + 1) ≤ j ∧ j < 135 * hh + 135
    · rw [if_pos h1, if_pos (by omega)]
    · rw [if_neg h1]
      by_cases h2 : j = 135 * hh + i
      · subst h2; rw [if_pos rfl, if_pos (by omega)]
        exact congrArg _ (by omega)
      · rw [if_neg h2, if_neg (by omega)]
theorem pu_rec17 {a1 : Int32} : ∀ (n i fuel : Nat) (x : mm_M), i + n = 675 → n < fuel → fn_X5_record_17 fuel a1 (nI i) x = some (cs x 159 (fun j => if i ≤ j ∧ j < 675 then x 159 (135 + j) else x 159 j)) := by
  intro n
  induction n with
  | zero =>
    intro i fuel x hi hf
    obtain ⟨m, rfl⟩ : ∃ m, fuel = m + 1 := ⟨fuel - 1, by omega⟩
    have c : (675 : Int32) ≤ nI i := by show nI 675 ≤ nI i; exact nI_le (by omega) (by omega)
    rw [fn_X5_record_17, if_pos c]
    refine congrArg some (cs_ext (fun _ _ => rfl) (fun j => ?_))
    rw [if_neg (by omega)]
  | succ n ih =>
    intro i fuel x hi hf
    obtain ⟨m, rfl⟩ : ∃ m, fuel = m + 1 := ⟨fuel - 1, by omega⟩
    have c : ¬ (675 : Int32) ≤ nI i := by show ¬ nI 675 ≤ nI i; exact nI_ge (by omega) (by omega)
    have e : (135 : Int32) + nI i = nI (135 + i) := by show nI 135 + nI i = _; rw [nI_add]
    rw [fn_X5_record_17, if_neg c, e, if_neg (nI_in (by omega) (by omega)), if_neg (nI_in (by omega) (by omega)), nI_clamp (by omega), nI_clamp (by omega)]
    simp only [Option.bind_some, nI_1]
    rw [ih (i + 1) m _ (by omega) (by omega)]
    refine congrArg some (cs_ext (fun a ha => by rw [cs_ne ha, mm_up_ne ha]) (fun j => ?_))
    rw [cs_k]
    simp only [mm_up_app, true_and, Nat.reduceEqDiff, false_and, if_false]
    by_cases h1 : i + 1 ≤ j ∧ j < 675
    · rw [if_pos h1, if_neg (by omega), if_pos (by omega)]
    · rw [if_neg h1]
      by_cases h2 : j = i
      · subst h2; rw [if_pos rfl, if_pos (by omega)]
      · rw [if_neg h2, if_neg (by omega)]
/-- the past behind a record -/
def recP (p q : Nat → Int32) (h : Nat) : Nat → Int32 := if h = 6 then (fun j => if 675 ≤ j ∧ j < 810 then q (j - 675) else if j < 675 then p (135 + j) else p j) else (fun j => if 135 * h ≤ j ∧ j < 135 * h + 135 then q (j - 135 * h) else p j)
theorem pu_record {x : mm_M} {h : Nat} (h6 : h ≤ 6) (hx : x 157 5 = nI h) {a : Int32} (ha : 0 ≤ a) : fn_X5_record a x = some (cs (cs x 159 (recP (x 159) (x 160) h)) 157 (upd (x 157) 5 (nI (if h = 6 then 6 else h + 1))), a) := by
  unfold fn_X5_record
  rw [if_pos ha, hx]
  have e0 : (0 : Int32) = nI 0 := nI_0.symm
  by_cases c : h = 6
  · subst c
    rw [if_pos (by decide), e0, pu_rec17 675 0 676 x (by omega) (by omega)]
    simp only [Option.bind_some]
    have e5 : nI 6 - 1 = nI 5 := by decide
    have hx3 : (cs x 159 (fun j => if 0 ≤ j ∧ j < 675 then x 159 (135 + j) else x 159 j)) 157 5 = nI 6 := by rw [cs_ne (by omega)]; exact hx
    rw [hx3, e5]
    rw [pu_rec58 (hh := 5) (by omega) 135 0 136 _ (by rw [mm_up_app, if_pos ⟨rfl, rfl⟩]) (by omega) (by omega)]
    simp only [Option.bind_some]
    refine congrArg (fun m => some (m, a)) ?_
    refine mm_ext1 157 (fun b hb => ?_) (fun i => ?_)
    · rw [mm_up_ne hb, cs_ne (x := cs x 159 _) hb]
      by_cases h9 : b = 159
      · subst h9
        rw [cs_k, cs_k]
        funext j
        simp only [mm_up_app, cs_app, recP, if_true, Nat.reduceEqDiff, false_and, if_false, Nat.reduceMul, Nat.reduceAdd, Nat.add_zero, Nat.zero_le, true_and]
      · rw [cs_ne h9, cs_ne h9, mm_up_ne hb, cs_ne h9]
    · rw [mm_up_same, cs_k, cs_ne (show (157 : Nat) ≠ 159 by omega), mm_up_same, cs_ne (show (157 : Nat) ≠ 159 by omega)]
      unfold upd
      by_cases hi : i = 5
      · rw [if_pos hi, if_pos hi]; rw [if_pos rfl]; decide
      · rw [if_neg hi, if_neg hi, if_neg hi]
  · have c6 : ¬ nI h = 6 := by
      intro q
      have q2 : nI h = nI 6 := q
      rw [nI_eq (by omega) (by omega)] at q2
      exact c q2
    rw [if_neg c6, e0, pu_rec58 (hh := h) (by omega) 135 0 136 x hx (by omega) (by omega)]
    simp only [Option.bind_some]
    refine congrArg (fun m => some (m, a)) ?_
    refine mm_ext1 157 (fun b hb => ?_) (fun i => ?_)
    · rw [mm_up_ne hb, cs_ne (x := cs x 159 _) hb]
      by_cases h9 : b = 159
      · subst h9
        rw [cs_k, cs_k]
        funext j
        unfold recP
        rw [if_neg c]
        simp only [Nat.add_zero]
      · rw [cs_ne h9, cs_ne h9]
    · rw [mm_up_same, cs_k, cs_ne (show (157 : Nat) ≠ 159 by omega), hx, nI_1, if_neg c]
theorem pu_record_neg {x : mm_M} {a : Int32} (ha : ¬ 0 ≤ a) : fn_X5_record a x = some (x, a) := by
  unfold fn_X5_record
  rw [if_neg ha]
