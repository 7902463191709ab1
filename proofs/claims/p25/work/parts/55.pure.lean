/-! COPIES OF RIVERS, the class's history -/
theorem va_cpy0 {f g : Nat → Int32} {n j : Nat} (h : j < n) : va_cpy f g 0 0 n j = f j := by
  unfold va_cpy
  simp [h]
theorem B_lcopy {x : mm_M} {a b : Nat} (ha : mm_kd a = 1) (hb : mm_kd b = 1) (hab : a ≠ b) (hB : BZ x) : ∃ x', fn_X1_copyFrom a b x = some x' ∧ (∀ j, j < 8 → x' a j = x b j) ∧ ∀ c, c ≠ a → x' c = x c := by
  unfold fn_X1_copyFrom
  have hba : b ≠ a := fun q => hab q.symm
  have h0 := vz_nar (hB b hb).1
  have h3 := vz_nar (hB b hb).2
  rw [if_pos ha, if_pos hb, if_pos h0]
  simp only [Option.bind_some, mm_up_ne hba, h3, if_true]
  refine ⟨_, rfl, fun j hj => ?_, fun c hc => by simp only [mm_up_ne hc]⟩
  simp only [mm_up_app, true_and]
  rcases (show j = 0 ∨ j = 1 ∨ j = 2 ∨ j = 3 ∨ j = 4 ∨ j = 5 ∨ j = 6 ∨ j = 7 by omega) with rfl | rfl | rfl | rfl | rfl | rfl | rfl | rfl <;> rfl
def CpEq (x' : mm_M) (k0 : Nat) (x : mm_M) (k1 : Nat) : Prop := (∀ j, j < 7 → x' (k0 + 1) j = x (k1 + 1) j) ∧ (∀ j, 2 ≤ j → j < 6 → x' k0 j = x k1 j) ∧ (x' (k0 + 3) 3 = x (k1 + 3) 3 ∧ x' (k0 + 3) 4 = x (k1 + 3) 4) ∧ (∀ j, j < 20 → x' (k0 + 4) j = x (k1 + 4) j ∧ x' (k0 + 5) j = x (k1 + 5) j ∧ x' (k0 + 6) j = x (k1 + 6) j) ∧ ∀ i, i < 8 → ∀ j, j < 8 → x' (k0 + 7 + i) j = x (k1 + 7 + i) j
theorem CpEq.sim {x x' : mm_M} {k0 k1 : Nat} {v : Nat → Int32} (h : CpEq x' k0 x k1) (hS : Sim x k1 v) : Sim x' k0 v := by
  obtain ⟨e1, e2, e3, e4, e5⟩ := h
  obtain ⟨sS, sN, sT, ⟨e, nx, he, hnx, h10, h3, h4, hlog⟩, ⟨c, hc, h8, hl⟩⟩ := hS
  refine ⟨fun j hj => (e1 j hj).trans (sS j hj), ⟨(e2 2 (by omega) (by omega)).trans sN.1, (e2 3 (by omega) (by omega)).trans sN.2⟩, ⟨(e2 4 (by omega) (by omega)).trans sT.1, (e2 5 (by omega) (by omega)).trans sT.2⟩, ⟨e, nx, he, hnx, h10, e3.1.trans h3, e3.2.trans h4, fun t ht => ?_⟩, ⟨c, hc, h8, fun i hi j hj => (e5 i (by omega) j hj).trans (hl i hi j hj)⟩⟩
  obtain ⟨a1, a2, a3⟩ := hlog t ht
  obtain ⟨b1, b2, b3⟩ := e4 ((nx + 19 - t) % 20) (Nat.mod_lt _ (by omega))
  exact ⟨b1.trans a1, b2.trans a2, b3.trans a3⟩
theorem riv_ne {k0 k1 : Nat} (h0 : mm_kd k0 = 3) (h1 : mm_kd k1 = 3) (hne : k0 ≠ k1) : k0 + 15 ≤ k1 ∨ k1 + 15 ≤ k0 := by
  rcases mm_riv h0 with rfl | ⟨i, hi, rfl⟩ <;> rcases mm_riv h1 with rfl | ⟨j, hj, rfl⟩ <;> omega
theorem kd_rl {k i : Nat} (hk : mm_kd k = 3) (hi : i < 8) : mm_kd (k + 7 + i) = 1 := by
  have := mm_rvl hk hi
  rwa [show k + (7 + i) = k + 7 + i by omega] at this
theorem B_cp20 {k0 k1 : Nat} (h0 : mm_kd k0 = 3) (h1 : mm_kd k1 = 3) (hne : k0 ≠ k1) : ∀ (n i fuel : Nat) (x : mm_M), i + n = 8 → n < fuel → BZ x → ∃ x', fn_X3_copyFrom_20 fuel k0 k1 (nI i) x = some x' ∧ (∀ t, i ≤ t → t < 8 → ∀ j, j < 8 → x' (k0 + 7 + t) j = x (k1 + 7 + t) j) ∧ (∀ a, (a < k0 + 7 + i ∨ k0 + 14 < a) → x' a = x a) ∧ BZ x' := by
  intro n
  induction n with
  | zero =>
    intro i fuel x hi hf hB
    obtain ⟨m, rfl⟩ : ∃ m, fuel = m + 1 := ⟨fuel - 1, by omega⟩
    have c : (8 : Int32) ≤ nI i := by show nI 8 ≤ nI i; exact nI_le (by omega) (by omega)
    refine ⟨x, ?_, fun t h1 h2 => by omega, fun _ _ => rfl, hB⟩
    rw [fn_X3_copyFrom_20, if_pos c]
  | succ n ih =>
    intro i fuel x hi hf hB
    obtain ⟨m, rfl⟩ : ∃ m, fuel = m + 1 := ⟨fuel - 1, by omega⟩
    have c : ¬ (8 : Int32) ≤ nI i := by show ¬ nI 8 ≤ nI i; exact nI_ge (by omega) (by omega)
    have hin : ¬ (nI i < 0 ∨ 8 ≤ (nI i).toNatClampNeg) := nI_in (by omega) (by omega)
    have hd := riv_ne h0 h1 hne
    have ka := kd_rl (i := i) h0 (by omega)
    have kb := kd_rl (i := i) h1 (by omega)
    obtain ⟨x1, f1, g1, o1⟩ := B_lcopy ka kb (by omega) hB
    have B1 : BZ x1 := by
      intro a ha
      by_cases hai : a = k0 + 7 + i
      · subst hai
        rw [g1 0 (by omega), g1 3 (by omega)]; exact hB _ kb
      · rw [o1 a hai]; exact hB a ha
    obtain ⟨x', f', g', o', B'⟩ := ih (i + 1) m x1 (by omega) (by omega) B1
    refine ⟨x', ?_, fun t h1t h2t j hj => ?_, fun a ha => (o' a (by omega)).trans (o1 a (by omega)), B'⟩
    · rw [fn_X3_copyFrom_20, if_neg c, if_neg hin, if_neg hin, nI_clamp (by omega), show k0 + 2 + 5 + i = k0 + 7 + i by omega, show k1 + 2 + 5 + i = k1 + 7 + i by omega, f1]
      simp only [Option.bind_some, nI_1]
      exact f'
    · by_cases hti : t = i
      · subst hti
        rw [o' _ (by omega)]; exact g1 j hj
      · rw [g' t (by omega) h2t j hj, o1 _ (by omega)]
theorem B_copy {x : mm_M} {k0 k1 : Nat} (h0 : mm_kd k0 = 3) (h1 : mm_kd k1 = 3) (hne : k0 ≠ k1) (hB : BZ x) : ∃ x', fn_X3_copyFrom k0 k1 x = some x' ∧ CpEq x' k0 x k1 ∧ BZ x' ∧ ∀ a, (a < k0 ∨ k0 + 14 < a) → x' a = x a := by
  have hd := riv_ne h0 h1 hne
  have nk : ∀ a, mm_kd a = 1 → a ≠ k0 ∧ a ≠ k0 + 1 ∧ a ≠ k0 + 3 ∧ a ≠ k0 + 4 ∧ a ≠ k0 + 5 ∧ a ≠ k0 + 6 := by
    intro a ha
    have r1 := (mm_rv1 h0).1
    have r3 := mm_rv3 h0
    have j1 := (mm_jn1 r3).1
    have j2 := (mm_jn2 r3).1
    have j3 := (mm_jn3 r3).1
    refine ⟨?_, ?_, ?_, ?_, ?_, ?_⟩
    · intro q; subst q; rw [ha] at h0; cases h0
    · intro q; subst q; rw [ha] at r1; cases r1
    · intro q; subst q; rw [ha] at r3; cases r3
    · intro q; subst q; rw [show k0 + 4 = k0 + 3 + 1 by omega, j1] at ha; cases ha
    · intro q; subst q; rw [show k0 + 5 = k0 + 3 + 2 by omega, j2] at ha; cases ha
    · intro q; subst q; rw [show k0 + 6 = k0 + 3 + 3 by omega, j3] at ha; cases ha
  obtain ⟨x1, hx1⟩ : ∃ x1, x1 = mm_cy x (k1 + 1) (k0 + 1) 0 0 7 := ⟨_, rfl⟩
  have o1 : ∀ a, a ≠ k0 + 1 → x1 a = x a := fun a ha => by rw [hx1, mm_cy_ne ha]
  have B1 : BZ x1 := fun a ha => by rw [o1 a (nk a ha).2.1]; exact hB a ha
  obtain ⟨x2, f2, g2, o2, B2⟩ := B_cp20 h0 h1 hne 8 0 9 x1 (by omega) (by omega) B1
  rw [nI_0] at f2
  obtain ⟨x6, hx6⟩ : ∃ x6, x6 = mm_up (mm_up (mm_up (mm_up x2 k0 2 (x2 k1 2)) k0 3 (x2 k1 3)) k0 4 (x2 k1 4)) k0 5 (x2 k1 5) := ⟨_, rfl⟩
  have o6 : ∀ a, a ≠ k0 → x6 a = x2 a := fun a ha => by rw [hx6, mm_up_ne ha, mm_up_ne ha, mm_up_ne ha, mm_up_ne ha]
  have g6 : ∀ j, 2 ≤ j → j < 6 → x6 k0 j = x2 k1 j := by
    intro j h2 h6
    rw [hx6]
    simp only [mm_up_app, true_and]
    rcases (show j = 2 ∨ j = 3 ∨ j = 4 ∨ j = 5 by omega) with rfl | rfl | rfl | rfl <;> rfl
  have k3 := mm_rv3 h0
  have q3 := mm_rv3 h1
  obtain ⟨x7, hx7⟩ : ∃ x7, x7 = mm_cy x6 (k1 + 3 + 1) (k0 + 3 + 1) 0 0 20 := ⟨_, rfl⟩
  obtain ⟨x8, hx8⟩ : ∃ x8, x8 = mm_cy x7 (k1 + 3 + 2) (k0 + 3 + 2) 0 0 20 := ⟨_, rfl⟩
  obtain ⟨x9, hx9⟩ : ∃ x9, x9 = mm_cy x8 (k1 + 3 + 3) (k0 + 3 + 3) 0 0 20 := ⟨_, rfl⟩
  obtain ⟨xa, hxa⟩ : ∃ xa, xa = mm_up (mm_up x9 (k0 + 3) 3 (x9 (k1 + 3) 3)) (k0 + 3) 4 (x9 (k1 + 3) 4) := ⟨_, rfl⟩
  have o7 : ∀ a, a ≠ k0 + 4 → x7 a = x6 a := fun a ha => by rw [hx7, mm_cy_ne (by omega)]
  have o8 : ∀ a, a ≠ k0 + 5 → x8 a = x7 a := fun a ha => by rw [hx8, mm_cy_ne (by omega)]
  have o9 : ∀ a, a ≠ k0 + 6 → x9 a = x8 a := fun a ha => by rw [hx9, mm_cy_ne (by omega)]
  have oa : ∀ a, a ≠ k0 + 3 → xa a = x9 a := fun a ha => by rw [hxa, mm_up_ne ha, mm_up_ne ha]
  have fJ : fn_X0_copyFrom (k0 + 3) (k1 + 3) x6 = some xa := by
    unfold fn_X0_copyFrom
    rw [if_pos k3, if_pos q3]
    simp only [Option.bind_some]
    rw [← hx7, ← hx8, ← hx9, hxa, mm_up_ne (show k1 + 3 ≠ k0 + 3 by omega)]
  have hfn : fn_X3_copyFrom k0 k1 x = some xa := by
    unfold fn_X3_copyFrom
    rw [if_pos h0, if_pos h1]
    simp only [Option.bind_some]
    rw [← hx1, f2]
    simp only [Option.bind_some]
    have ne : k1 ≠ k0 := fun q => hne q.symm
    simp only [mm_up_ne ne]
    rw [← hx6, fJ]
    rfl
  have src : ∀ a, k1 ≤ a → a ≤ k1 + 14 → x2 a = x a := fun a h1a h2a => (o2 a (by omega)).trans (o1 a (by omega))
  refine ⟨xa, hfn, ⟨fun j hj => ?_, fun j h2 h6 => ?_, ⟨?_, ?_⟩, fun j hj => ⟨?_, ?_, ?_⟩, fun i hi j hj => ?_⟩, fun a ha => ?_, fun a ha => ?_⟩
  · rw [oa _ (by omega), o9 _ (by omega), o8 _ (by omega), o7 _ (by omega), o6 _ (by omega), o2 _ (by omega), hx1, mm_cy_same, va_cpy0 hj]
  · rw [oa _ (by omega), o9 _ (by omega), o8 _ (by omega), o7 _ (by omega), g6 j h2 h6, src k1 (by omega) (by omega)]
  · rw [hxa, mm_up_app, if_neg (by omega), mm_up_app, if_pos ⟨rfl, rfl⟩, o9 _ (by omega), o8 _ (by omega), o7 _ (by omega), o6 _ (by omega), src _ (by omega) (by omega)]
  · rw [hxa, mm_up_app, if_pos ⟨rfl, rfl⟩, o9 _ (by omega), o8 _ (by omega), o7 _ (by omega), o6 _ (by omega), src _ (by omega) (by omega)]
  · rw [oa _ (by omega), o9 _ (by omega), o8 _ (by omega), hx7, show k0 + 4 = k0 + 3 + 1 by omega, mm_cy_same, va_cpy0 hj, o6 _ (by omega), src _ (by omega) (by omega)]
  · rw [oa _ (by omega), o9 _ (by omega), hx8, show k0 + 5 = k0 + 3 + 2 by omega, mm_cy_same, va_cpy0 hj, o7 _ (by omega), o6 _ (by omega), src _ (by omega) (by omega)]
  · rw [oa _ (by omega), hx9, show k0 + 6 = k0 + 3 + 3 by omega, mm_cy_same, va_cpy0 hj, o8 _ (by omega), o7 _ (by omega), o6 _ (by omega), src _ (by omega) (by omega)]
  · rw [oa _ (by omega), o9 _ (by omega), o8 _ (by omega), o7 _ (by omega), o6 _ (by omega), g2 i (by omega) hi j hj, o1 _ (by omega)]
  · obtain ⟨n0, n1, n3, n4, n5, n6⟩ := nk a ha
    rw [oa a n3, o9 a n6, o8 a n5, o7 a n4, o6 a n0]; exact B2 a ha
  · rw [oa _ (by omega), o9 _ (by omega), o8 _ (by omega), o7 _ (by omega), o6 _ (by omega), o2 _ (by omega), o1 _ (by omega)]

/-! THE INVARIANT: class and reference side by side -/
/-- a river of other cells as it was -/
theorem Sim_keep {x x' : mm_M} {k : Nat} {v : Nat → Int32} (hS : Sim x k v) (h : ∀ a, k ≤ a → a ≤ k + 14 → x' a = x a) : Sim x' k v := by
  obtain ⟨sS, sN, sT, ⟨e, nx, he, hnx, h10, h3, h4, hlog⟩, ⟨c, hc, h8, hl⟩⟩ := hS
  refine ⟨fun j hj => by rw [h _ (by omega) (by omega)]; exact sS j hj, ⟨by rw [h _ (by omega) (by omega)]; exact sN.1, by rw [h _ (by omega) (by omega)]; exact sN.2⟩, ⟨by rw [h _ (by omega) (by omega)]; exact sT.1, by rw [h _ (by omega) (by omega)]; exact sT.2⟩, ⟨e, nx, he, hnx, h10, by rw [h _ (by omega) (by omega)]; exact h3, by rw [h _ (by omega) (by omega)]; exact h4, fun t ht => ?_⟩, ⟨c, hc, h8, fun i hi j hj => by rw [h _ (by omega) (by omega)]; exact hl i hi j hj⟩⟩
  rw [h (k + 4) (by omega) (by omega), h (k + 5) (by omega) (by omega), h (k + 6) (by omega) (by omega)]
  exact hlog t ht
theorem kd_hr {t : Nat} (ht : t < 9) : mm_kd (22 + 15 * t) = 3 := by
  have key : ∀ t, t < 9 → mm_kd (22 + 15 * t) = 3 := by decide
  exact key t ht
theorem kd_lt157 {a : Nat} (ha : mm_kd a = 1) : a < 157 ∧ a ≠ 16 ∧ a ≠ 17 ∧ a ≠ 18 ∧ a ≠ 19 ∧ a ≠ 20 := by
  have key : ∀ a, a < 157 → mm_kd a = 1 → a < 157 ∧ a ≠ 16 ∧ a ≠ 17 ∧ a ≠ 18 ∧ a ≠ 19 ∧ a ≠ 20 := by decide +kernel
  exact key a (mm_lt ha (by decide)) ha
/-- the history moves on -/
theorem B_drop {x : mm_M} {p : Nat → Nat} (hp : ∀ i, i < 7 → x 16 i = nI (p i) ∧ ∃ t, t < 7 ∧ p i = 22 + 15 * t) : ∃ x', fn_X4_dropOldest x = some x' ∧ (∀ a, a ≠ 16 → x' a = x a) ∧ (∀ i, i < 6 → x' 16 i = nI (p (i + 1))) ∧ x' 16 6 = nI (p 0) := by
  have kp : ∀ i, i < 7 → mm_kd (p i) = 3 ∧ p i < 157 := fun i hi => by
    obtain ⟨-, t, ht, e⟩ := hp i hi
    rw [e]; exact ⟨kd_hr (by omega), by omega⟩
  have loop : ∀ (n i fuel : Nat) (k1 : Nat) (y : mm_M), i + n = 6 → n < fuel → (∀ j, i ≤ j → j < 7 → y 16 j = nI (p j)) → ∃ y', fn_X4_dropOldest_9 fuel k1 (nI i) y = some y' ∧ (∀ a, a ≠ 16 → y' a = y a) ∧ (∀ j, j < i → y' 16 j = y 16 j) ∧ ∀ j, i ≤ j → j < 6 → y' 16 j = nI (p (j + 1)) := by
    intro n
    induction n with
    | zero =>
      intro i fuel k1 y hi hf hy
      obtain ⟨m, rfl⟩ : ∃ m, fuel = m + 1 := ⟨fuel - 1, by omega⟩
      have c : (6 : Int32) ≤ nI i := by show nI 6 ≤ nI i; exact nI_le (by omega) (by omega)
      refine ⟨y, ?_, fun _ _ => rfl, fun _ _ => rfl, fun j h1 h2 => by omega⟩
      rw [fn_X4_dropOldest_9, if_pos c]
    | succ n ih =>
      intro i fuel k1 y hi hf hy
      obtain ⟨m, rfl⟩ : ∃ m, fuel = m + 1 := ⟨fuel - 1, by omega⟩
      have c : ¬ (6 : Int32) ≤ nI i := by show ¬ nI 6 ≤ nI i; exact nI_ge (by omega) (by omega)
      obtain ⟨k3, k5⟩ := kp (i + 1) (by omega)
      obtain ⟨y', f', o', l', g'⟩ := ih (i + 1) m k1 (mm_up y 16 i (nI (p (i + 1)))) (by omega) (by omega) (fun j h1 h2 => by rw [mm_up_app, if_neg (by omega)]; exact hy j (by omega) h2)
      refine ⟨y', ?_, fun a ha => (o' a ha).trans (mm_up_ne ha), fun j hj => ?_, fun j h1 h2 => ?_⟩
      · rw [fn_X4_dropOldest_9, if_neg c, nI_1, if_neg (nI_in (by omega) (by omega)), nI_clamp (by omega), hy (i + 1) (by omega) (by omega), nI_clamp (by omega), if_pos k3, if_neg (nI_in (by omega) (by omega)), nI_clamp (by omega)]
        simp only [Option.bind_some]
        exact f'
      · rw [l' j (by omega), mm_up_app, if_neg (by omega)]
      · by_cases hji : j = i
        · subst hji
          rw [l' j (by omega), mm_up_app, if_pos ⟨rfl, rfl⟩]
        · exact g' j (by omega) h2
  obtain ⟨k3, k5⟩ := kp 0 (by omega)
  obtain ⟨y', f', o', l', g'⟩ := loop 6 0 7 (p 0) x (by omega) (by omega) (fun j _ h2 => (hp j h2).1)
  rw [nI_0] at f'
  have z0 : Int32.toNatClampNeg 0 = 0 := by decide
  have z6 : Int32.toNatClampNeg 6 = 6 := by decide
  refine ⟨mm_up y' 16 6 (nI (p 0)), ?_, fun a ha => (mm_up_ne ha).trans (o' a ha), fun i hi => ?_, ?_⟩
  · unfold fn_X4_dropOldest
    rw [z0, z6, (hp 0 (by omega)).1, nI_clamp (by omega), if_pos k3, f']
    rfl
  · rw [mm_up_app, if_neg (by omega)]; exact g' i (by omega) hi
  · rw [mm_up_app, if_pos ⟨rfl, rfl⟩]

