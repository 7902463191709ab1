/-! THE CLASS'S RIVER against a row -/
def SimS (x : mm_M) (k : Nat) (v : Nat → Int32) : Prop := ∀ j, j < 7 → x (k + 1) j = v j
def SimN (x : mm_M) (k : Nat) (v : Nat → Int32) : Prop := x k 2 = v 8 ∧ x k 3 = v 7
def SimT (x : mm_M) (k : Nat) (v : Nat → Int32) : Prop := x k 4 = taken v ∧ x k 5 = v 9
def SimJ (x : mm_M) (k : Nat) (v : Nat → Int32) : Prop := ∃ e nx, e ≤ 20 ∧ nx < 20 ∧ v 10 = nI e ∧ x (k + 3) 3 = nI e ∧ x (k + 3) 4 = nI nx ∧ ∀ t, t < e → x (k + 4) ((nx + 19 - t) % 20) = v (11 + 3 * t) ∧ x (k + 5) ((nx + 19 - t) % 20) = v (12 + 3 * t) ∧ x (k + 6) ((nx + 19 - t) % 20) = v (13 + 3 * t)
def SimL (x : mm_M) (k : Nat) (v : Nat → Int32) : Prop := ∃ c, c ≤ 8 ∧ v 8 = nI c ∧ ∀ i, i < c → ∀ j, j < 8 → x (k + 7 + i) j = v (71 + 8 * i + j)
def Sim (x : mm_M) (k : Nat) (v : Nat → Int32) : Prop := SimS x k v ∧ SimN x k v ∧ SimT x k v ∧ SimJ x k v ∧ SimL x k v
def BZ (x : mm_M) : Prop := ∀ a, mm_kd a = 1 → bz (x a 0) ∧ bz (x a 3)
theorem B_add {x : mm_M} {v : Nat → Int32} {w l t : Int32} (hJ : SimJ x 1 v) (ht : t = v 7) : ∃ x', fn_X0_add w l t x = some x' ∧ SimJ x' 1 (noteV v w l) ∧ ∀ a, a ≠ 4 → a ≠ 5 → a ≠ 6 → a ≠ 7 → x' a = x a := by
  obtain ⟨e, nx, he, hnx, h10, h3, h4, hlog⟩ := hJ
  have h3 : x 4 3 = nI e := h3
  have h4 : x 4 4 = nI nx := h4
  have hlog : ∀ t, t < e → x 5 ((nx + 19 - t) % 20) = v (11 + 3 * t) ∧ x 6 ((nx + 19 - t) % 20) = v (12 + 3 * t) ∧ x 7 ((nx + 19 - t) % 20) = v (13 + 3 * t) := hlog
  have hin : ¬ (nI nx < 0 ∨ 20 ≤ nx) := by
    have := nI_in (N := 20) hnx (by omega)
    rwa [nI_clamp (by omega)] at this
  have hsz : (if (20 : Int32) < nI e + 1 then (20 : Int32) else nI e + 1) = nI (if e = 20 then 20 else e + 1) := by
    rw [nI_1]
    by_cases c : e = 20
    · subst c; decide
    · rw [if_neg c, if_neg]
      show ¬ nI 20 < nI (e + 1)
      exact nI_nlt (by omega) (by omega)
  have h10' : noteV v w l 10 = nI (if e = 20 then 20 else e + 1) := by
    have e1 : noteV v w l 10 = if 20 ≤ v 10 then v 10 else v 10 + 1 := rfl
    rw [e1, h10]
    by_cases c : e = 20
    · subst c; decide
    · rw [if_neg c, if_neg, nI_1]
      show ¬ nI 20 ≤ nI e
      exact nI_ge (by omega) (by omega)
  obtain ⟨e', he'⟩ : ∃ e', e' = if e = 20 then 20 else e + 1 := ⟨_, rfl⟩
  have e20 : e' ≤ 20 ∧ e' ≤ e + 1 := by rw [he']; by_cases c : e = 20 <;> simp [c] <;> omega
  have n11 : noteV v w l 11 = w := rfl
  have n12 : noteV v w l 12 = l := rfl
  have n13 : noteV v w l 13 = v 7 := rfl
  have nn : ∀ j, 14 ≤ j → j ≤ 70 → noteV v w l j = v (j - 3) := fun j h1 h2 => by
    unfold noteV
    rw [if_neg (by omega), if_neg (by omega), if_neg (by omega), if_neg (by omega), if_pos ⟨h1, h2⟩]
  have fin : ∀ (x' : mm_M) (nx' : Nat), nx' < 20 → (nx' = if nx = 19 then 0 else nx + 1) → x' 4 3 = nI e' → x' 4 4 = nI nx' → x' 5 = upd (x 5) nx w → x' 6 = upd (x 6) nx l → x' 7 = upd (x 7) nx t → SimJ x' 1 (noteV v w l) := by
    intro x' nx' hn' hn2 g3 g4 g5 g6 g7
    refine ⟨e', nx', e20.1, hn', by rw [h10', he'], g3, g4, fun t' ht' => ?_⟩
    show x' 5 _ = _ ∧ x' 6 _ = _ ∧ x' 7 _ = _
    rw [g5, g6, g7]
    have hpos : t' = 0 ∧ (nx' + 19 - t') % 20 = nx ∨ 1 ≤ t' ∧ (nx' + 19 - t') % 20 = (nx + 19 - (t' - 1)) % 20 ∧ (nx + 19 - (t' - 1)) % 20 ≠ nx := by
      rcases Nat.eq_zero_or_pos t' with q | q
      · left
        refine ⟨q, ?_⟩
        rw [hn2]
        by_cases c : nx = 19
        · rw [if_pos c]; omega
        · rw [if_neg c]; omega
      · right
        refine ⟨q, ?_, by omega⟩
        rw [hn2]
        by_cases c : nx = 19
        · rw [if_pos c]; omega
        · rw [if_neg c]; omega
    rcases hpos with ⟨q1, q2⟩ | ⟨q1, q2, q3⟩
    · subst q1
      rw [q2, upd_s, upd_s, upd_s, ht]
      exact ⟨n11.symm, n12.symm, n13.symm⟩
    · rw [q2, upd_n q3, upd_n q3, upd_n q3]
      obtain ⟨a1, a2, a3⟩ := hlog (t' - 1) (by omega)
      rw [nn (11 + 3 * t') (by omega) (by omega), nn (12 + 3 * t') (by omega) (by omega), nn (13 + 3 * t') (by omega) (by omega)]
      rw [show 11 + 3 * t' - 3 = 11 + 3 * (t' - 1) by omega, show 12 + 3 * t' - 3 = 12 + 3 * (t' - 1) by omega, show 13 + 3 * t' - 3 = 13 + 3 * (t' - 1) by omega]
      exact ⟨a1, a2, a3⟩
  have hfn : ∃ x', fn_X0_add w l t x = some x' ∧ x' 4 3 = nI e' ∧ x' 4 4 = nI (if nx = 19 then 0 else nx + 1) ∧ x' 5 = upd (x 5) nx w ∧ x' 6 = upd (x 6) nx l ∧ x' 7 = upd (x 7) nx t ∧ ∀ a, a ≠ 4 → a ≠ 5 → a ≠ 6 → a ≠ 7 → x' a = x a := by
    unfold fn_X0_add
    simp only [mm_up_app, h3, h4, nI_clamp (show nx < 2 ^ 31 by omega), hin, if_false, Option.bind_some, Nat.reduceEqDiff, false_and, and_false, and_self, if_true, nI_1, hsz]
    have c20 : (20 : Int32) ≤ nI (nx + 1) ↔ nx = 19 := by
      show nI 20 ≤ nI (nx + 1) ↔ nx = 19
      rw [nI_leI (by omega) (by omega)]; omega
    simp only [nI_1] at hsz
    by_cases c : nx = 19
    · rw [if_pos (c20.mpr c)]
      refine ⟨_, rfl, ?_, ?_, ?_, ?_, ?_, ?_⟩
      · rw [mm_up_app, if_pos ⟨rfl, rfl⟩, hsz, he']
      · rw [mm_up_app, if_neg (by omega), mm_up_app, if_pos ⟨rfl, rfl⟩, if_pos c]; rfl
      · rw [mm_up_ne (by omega), mm_up_ne (by omega), mm_up_ne (by omega), mm_up_ne (by omega), mm_up_same]
      · rw [mm_up_ne (by omega), mm_up_ne (by omega), mm_up_ne (by omega), mm_up_same, mm_up_ne (by omega)]
      · rw [mm_up_ne (by omega), mm_up_ne (by omega), mm_up_same, mm_up_ne (by omega), mm_up_ne (by omega)]
      · intro a a4 a5 a6 a7
        rw [mm_up_ne a4, mm_up_ne a4, mm_up_ne a7, mm_up_ne a6, mm_up_ne a5]
    · rw [if_neg (fun q => c (c20.mp q))]
      refine ⟨_, rfl, ?_, ?_, ?_, ?_, ?_, ?_⟩
      · rw [mm_up_app, if_pos ⟨rfl, rfl⟩, hsz, he']
      · rw [mm_up_app, if_neg (by omega), mm_up_app, if_pos ⟨rfl, rfl⟩, if_neg c]
      · rw [mm_up_ne (by omega), mm_up_ne (by omega), mm_up_ne (by omega), mm_up_ne (by omega), mm_up_same]
      · rw [mm_up_ne (by omega), mm_up_ne (by omega), mm_up_ne (by omega), mm_up_same, mm_up_ne (by omega)]
      · rw [mm_up_ne (by omega), mm_up_ne (by omega), mm_up_same, mm_up_ne (by omega), mm_up_ne (by omega)]
      · intro a a4 a5 a6 a7
        rw [mm_up_ne a4, mm_up_ne a4, mm_up_ne a7, mm_up_ne a6, mm_up_ne a5]
  obtain ⟨x', h1, g3, g4, g5, g6, g7, go⟩ := hfn
  exact ⟨x', h1, fin x' _ (by by_cases c : nx = 19 <;> simp [c] <;> omega) rfl g3 g4 g5 g6 g7, go⟩
