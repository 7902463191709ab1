/-! THE START, THE LAW'S LOOPS, ITS END -/
def v0 : Nat → Int32 := fun j => if j < 7 then mm_st 2 j else 0
theorem v0_hi {j : Nat} (h : 7 ≤ j) : v0 j = 0 := if_neg (by omega)
theorem St_0 : St mm_x0 v0 := by
  have h8 : v0 8 = nI 0 := rfl
  have hb : ∀ i, i < 8 → LOK v0 i := fun i hi => by
    unfold LOK
    rw [v0_hi (by omega), v0_hi (by omega), v0_hi (by omega)]
    exact ⟨Or.inl rfl, Or.inl rfl, by decide, by decide⟩
  have hv : WV v0 := by
    refine ⟨⟨⟨?_, ?_⟩, ⟨?_, ?_⟩, ⟨?_, ?_⟩, ⟨?_, ?_⟩, ⟨?_, ?_⟩, ⟨?_, ?_⟩, ?_, ?_⟩, ⟨0, by omega, h8⟩, ⟨0, by omega, rfl⟩, hb⟩ <;> decide +kernel
  refine ⟨fun a ha => ?_, hv, ⟨?_, ⟨by decide +kernel, by decide +kernel⟩, ⟨?_, by decide +kernel⟩, ⟨0, 0, by omega, by omega, by decide +kernel, by decide +kernel, by decide +kernel, fun t ht => by omega⟩, ⟨0, by omega, h8, fun i hi => by omega⟩⟩, 0, fun i => 22 + 15 * i, by omega, by decide +kernel, fun i hi => ⟨?_, i, hi, rfl⟩⟩
  · rw [x0_lan ha]; exact ⟨Or.inl rfl, Or.inl rfl⟩
  · have e : ∀ j, j < 7 → mm_x0 2 j = v0 j := by decide +kernel
    exact e
  · have e : taken v0 = -6 := by unfold taken; rw [h8]; rfl
    rw [e]; decide +kernel
  · have e : ∀ i, i < 7 → mm_x0 16 i = nI (22 + 15 * i) := by decide +kernel
    exact e i hi
section LWF
variable {L : Nat} {xs : Nat → Int32}
theorem L_cell (hL : L ≤ 260) (k : Nat) (hk : k < 2 ^ 31) : ∃ r, fn_L_cell L xs (nI k) = some r := by
  unfold fn_L_cell
  by_cases q : Int32.ofNat L ≤ nI k
  · rw [if_pos q]; exact ⟨_, rfl⟩
  · rw [if_neg q, if_neg]
    · exact ⟨_, rfl⟩
    · have q' : ¬ nI L ≤ nI k := q
      rw [nI_leI (by omega) hk] at q'
      exact nI_in (by omega) (by omega)
theorem law133 (hL : L ≤ 260) : ∀ (n i fuel : Nat) (x : mm_M) (v : Nat → Int32), i + n = 3 → n < fuel → St x v → v 8 = nI i → Z4 v i → Fz v i → v 7 = nI 0 → ∃ x' v', fn_L_law_133 fuel L xs (nI i) x = some x' ∧ St x' v' ∧ Jc v' 3 ∧ v' 7 = nI 0 := by
  intro n
  induction n with
  | zero =>
    intro i fuel x v hi hf hS h8 hz hfz h7
    obtain ⟨m, rfl⟩ : ∃ m, fuel = m + 1 := ⟨fuel - 1, by omega⟩
    obtain rfl : i = 3 := by omega
    refine ⟨x, v, ?_, hS, ⟨by omega, by omega, h8, hz, hfz⟩, h7⟩
    rw [fn_L_law_133, if_pos (show (3 : Int32) ≤ nI 3 by decide)]
  | succ n ih =>
    intro i fuel x v hi hf hS h8 hz hfz h7
    obtain ⟨m, rfl⟩ : ∃ m, fuel = m + 1 := ⟨fuel - 1, by omega⟩
    have hlt : ¬ (3 : Int32) ≤ nI i := by show ¬ nI 3 ≤ nI i; exact nI_ge (by omega) (by omega)
    obtain ⟨a, ea⟩ := L_cell (xs := xs) hL (3 + i) (by omega)
    have e3 : (3 : Int32) + nI i = nI (3 + i) := by show nI 3 + nI i = _; rw [nI_add]
    obtain ⟨r, hr, er⟩ := L_low a (m := 40) (by omega) (by omega) x
    have er : fn_L_low a 40 x = some (nI r) := er
    obtain ⟨y, f, S⟩ := Q_landing hS (nI r)
    obtain ⟨c2, w8, lo, -, -, -⟩ := com_row hS.2.1 (show i < 8 by omega) h8 (p := r) (by omega)
    obtain ⟨z1, f1⟩ := J_com hS.2.1 (show i < 8 by omega) h8 (p := r) (by omega) hz hfz
    rw [c2] at f
    obtain ⟨x', v', g1, g2, g3, g4⟩ := ih (i + 1) m y _ (by omega) (by omega) S w8 z1 f1 ((lo 7 (by omega)).trans h7)
    refine ⟨x', v', ?_, g2, g3, g4⟩
    rw [fn_L_law_133, if_neg hlt, e3, ea, Option.bind_some, er, Option.bind_some, f, mm_b2_some, if_pos rfl, nI_1, Option.bind_some]
    exact g1
theorem law168 (hL : L ≤ 260) : ∀ (n i fuel k c : Nat) (x : mm_M) (v : Nat → Int32), i + n = 40 → n < fuel → St x v → Jc v c → k ≤ i → v 7 = nI k → ∃ x' v' c', fn_L_law_168 fuel L xs (nI i) x = some x' ∧ St x' v' ∧ Jc v' c' := by
  intro n
  induction n with
  | zero =>
    intro i fuel k c x v hi hf hS hJ hk h7
    obtain ⟨m, rfl⟩ : ∃ m, fuel = m + 1 := ⟨fuel - 1, by omega⟩
    obtain rfl : i = 40 := by omega
    refine ⟨x, v, c, ?_, hS, hJ⟩
    rw [fn_L_law_168, if_pos (show (40 : Int32) ≤ nI 40 by decide)]
  | succ n ih =>
    intro i fuel k c x v hi hf hS hJ hk h7
    obtain ⟨m, rfl⟩ : ∃ m, fuel = m + 1 := ⟨fuel - 1, by omega⟩
    have hlt : ¬ (40 : Int32) ≤ nI i := by show ¬ nI 40 ≤ nI i; exact nI_ge (by omega) (by omega)
    obtain ⟨a, ea⟩ := L_cell (xs := xs) hL (6 + 2 * i) (by omega)
    obtain ⟨b, eb⟩ := L_cell (xs := xs) hL (7 + 2 * i) (by omega)
    have e6 : (6 : Int32) + (2 : Int32) * nI i = nI (6 + 2 * i) := by show nI 6 + nI 2 * nI i = _; rw [pu_mul, nI_add]
    have e7 : (7 : Int32) + (2 : Int32) * nI i = nI (7 + 2 * i) := by show nI 7 + nI 2 * nI i = _; rw [pu_mul, nI_add]
    obtain ⟨y, w, c', k', f, S, J', hk', w7⟩ := L_act a b hS hJ (by omega) h7
    obtain ⟨x', v', c'', g1, g2, g3⟩ := ih (i + 1) m k' c' y w (by omega) (by omega) S J' (by omega) w7
    refine ⟨x', v', c'', ?_, g2, g3⟩
    rw [fn_L_law_168, if_neg hlt, e6, ea]
    simp only [Option.bind_some]
    rw [e7, eb]
    simp only [Option.bind_some]
    rw [f, mm_b2_some, if_neg (show ¬ (1 : Int32) = 0 by decide)]
    simp only [Option.bind_some, nI_1]
    exact g1
theorem law_end {x : mm_M} {v : Nat → Int32} {c : Nat} (hS : St x v) (hJ : Jc v c) : ∃ x10 x11 x12, fn_X4_landing 1000 x = some (x10, -2) ∧ fn_X4_open 8 x10 = some (x11, -1) ∧ fn_X4_pass 0 x11 = some (x12, -2) ∧ fn_X4_of 8 0 x12 = some (-1) ∧ fn_X4_of 0 8 x12 = some (-2) ∧ fn_X4_count 16 x12 = some (-2) := by
  obtain ⟨h3, hc, h8, -, -⟩ := hJ
  have n8 : ¬ (0 ≤ (8 : Int32) ∧ (8 : Int32) < nI c) := fun q => by
    have : nI 8 < nI c := q.2
    rw [nI_ltI (by omega) (by omega)] at this
    omega
  obtain ⟨y, f1, S1⟩ := Q_landing hS 1000
  have e1 : comV v 1000 = (v, -2) := by unfold comV; rw [if_neg (by decide)]
  rw [e1] at f1 S1
  obtain ⟨z, f2, S2⟩ := Q_open S1 8
  have e2 : turnV v 8 1 = (v, -1) := by unfold turnV; rw [h8, if_neg n8]
  rw [e2] at f2 S2
  obtain ⟨u, f3, S3⟩ := Q_pass S2 0
  have e3 : waitV v 0 = (v, -2) := by unfold waitV; rw [if_neg (by decide)]
  rw [e3] at f3 S3
  exact ⟨y, z, u, f1, f2, f3, R_of_no S3 hc h8 n8 0, R_of_bad (i := 0) S3 hc h8 (by omega), R_c16⟩
theorem law_fn (L : Nat) (xs : Nat → Int32) (hL : L ≤ 260) : fn_L_law L xs mm_x0 = some 1 := by
  obtain ⟨a0, c0⟩ := L_cell (xs := xs) hL 0 (by omega)
  obtain ⟨a1, c1⟩ := L_cell (xs := xs) hL 1 (by omega)
  obtain ⟨a2, c2⟩ := L_cell (xs := xs) hL 2 (by omega)
  have c0 : fn_L_cell L xs 0 = some a0 := c0
  have c1 : fn_L_cell L xs 1 = some a1 := c1
  have c2 : fn_L_cell L xs 2 = some a2 := c2
  have low : ∀ (a : Int32) (m : Nat) (x : mm_M), 0 < m → m < 2 ^ 31 → ∃ r, fn_L_low a (nI m) x = some r := fun a m x h0 hm => by
    obtain ⟨r, -, e⟩ := L_low a h0 hm x
    exact ⟨_, e⟩
  obtain ⟨r0, l0⟩ := low a0 3000 mm_x0 (by omega) (by omega)
  have l0 : fn_L_low a0 3000 mm_x0 = some r0 := l0
  obtain ⟨x1, w1, b1, f1, S1, m1⟩ := Q_set St_0 0 (by omega) r0
  have f1 : fn_X4_set 0 r0 mm_x0 = some (x1, b1) := f1
  obtain ⟨r1, l1⟩ := low (a0 >>> ((4 : Int32) &&& 31)) 1500 x1 (by omega) (by omega)
  have l1 : fn_L_low (a0 >>> ((4 : Int32) &&& 31)) 1500 x1 = some r1 := l1
  obtain ⟨x2, w2, b2, f2, S2, m2⟩ := Q_set S1 1 (by omega) r1
  have f2 : fn_X4_set 1 r1 x1 = some (x2, b2) := f2
  obtain ⟨r2, l2⟩ := low (a0 >>> ((8 : Int32) &&& 31)) 2000 x2 (by omega) (by omega)
  have l2 : fn_L_low (a0 >>> ((8 : Int32) &&& 31)) 2000 x2 = some r2 := l2
  obtain ⟨x3, w3, b3, f3, S3, m3⟩ := Q_set S2 2 (by omega) r2
  have f3 : fn_X4_set 2 r2 x2 = some (x3, b3) := f3
  obtain ⟨r3, l3⟩ := low (a0 >>> ((12 : Int32) &&& 31)) 12 x3 (by omega) (by omega)
  have l3 : fn_L_low (a0 >>> ((12 : Int32) &&& 31)) 12 x3 = some r3 := l3
  obtain ⟨x4, w4, b4, f4, S4, m4⟩ := Q_set S3 3 (by omega) ((1 : Int32) + r3)
  have f4 : fn_X4_set 3 ((1 : Int32) + r3) x3 = some (x4, b4) := f4
  obtain ⟨r4, l4⟩ := low a1 5000 x4 (by omega) (by omega)
  have l4 : fn_L_low a1 5000 x4 = some r4 := l4
  obtain ⟨x5, w5, b5, f5, S5, m5⟩ := Q_set S4 4 (by omega) ((1 : Int32) + r4)
  have f5 : fn_X4_set 4 ((1 : Int32) + r4) x4 = some (x5, b5) := f5
  obtain ⟨r5, l5⟩ := low a2 2500 x5 (by omega) (by omega)
  have l5 : fn_L_low a2 2500 x5 = some r5 := l5
  obtain ⟨x6, w6, b6, f6, S6, m6⟩ := Q_set S5 5 (by omega) ((1 : Int32) + r5)
  have f6 : fn_X4_set 5 ((1 : Int32) + r5) x5 = some (x6, b6) := f6
  obtain ⟨r6, l6⟩ := low (a0 >>> ((16 : Int32) &&& 31)) 30 x6 (by omega) (by omega)
  have l6 : fn_L_low (a0 >>> ((16 : Int32) &&& 31)) 30 x6 = some r6 := l6
  obtain ⟨x7, w7, b7, f7, S7, m7⟩ := Q_set S6 6 (by omega) ((1 : Int32) + r6)
  have f7 : fn_X4_set 6 ((1 : Int32) + r6) x6 = some (x7, b7) := f7
  have hw : ∀ j, 7 ≤ j → w7 j = 0 := fun j hj => by rw [m7 j hj, m6 j hj, m5 j hj, m4 j hj, m3 j hj, m2 j hj, m1 j hj]; exact v0_hi hj
  obtain ⟨x8, w8, f8, S8, J8, h8⟩ := law133 (xs := xs) hL 3 0 4 x7 w7 (by omega) (by omega) S7 (hw 8 (by omega)) (fun i hi => absurd hi (Nat.not_lt_zero i)) (fun i hi => absurd hi (Nat.not_lt_zero i)) (hw 7 (by omega))
  rw [nI_0] at f8
  obtain ⟨x9, w9, c9, f9, S9, J9⟩ := law168 (xs := xs) hL 40 0 41 0 3 x8 w8 (by omega) (by omega) S8 J8 (by omega) h8
  rw [nI_0] at f9
  obtain ⟨y10, y11, y12, g1, g2, g3, g4, g5, g6⟩ := law_end S9 J9
  unfold fn_L_law
  rw [c0, Option.bind_some, l0, Option.bind_some, f1, mm_b2_some, l1, Option.bind_some, f2, mm_b2_some, l2, Option.bind_some, f3, mm_b2_some, l3, Option.bind_some, f4, mm_b2_some, c1, Option.bind_some, l4, Option.bind_some, f5, mm_b2_some, c2, Option.bind_some, l5, Option.bind_some, f6, mm_b2_some, l6, Option.bind_some, f7, mm_b2_some, f8, Option.bind_some, f9, Option.bind_some, g1, mm_b2_some, if_pos rfl, g2, mm_b2_some, if_pos rfl, g3, mm_b2_some, if_pos rfl, g4, Option.bind_some, if_pos rfl, g5, Option.bind_some, if_pos rfl, g6, Option.bind_some, if_pos rfl]
end LWF
