/-! RANK, CHOICE, JOURNAL, REASON -/
theorem z10 : ((1 : Int32) = 0) = False := eq_false (by decide)
theorem z01 : ((0 : Int32) = 1) = False := eq_false (by decide)
theorem rank_eq {x : mm_M} {c k : Nat} (hR : Rd x c) (hk : k < c) : ∀ (n i fuel : Nat) (acc : Int32), i + n = c → n < fuel → ∃ r, fn_X3_rankOf_15 fuel (nI k) (x 158 (71 + 8 * k + 1)) acc (nI i) x = some r ∧ fn_X5_rank_4 fuel (nI k) acc (nI i) x = some r := by
  obtain ⟨hc, h8, hx, hl, hb⟩ := hR
  intro n
  induction n with
  | zero =>
    intro i fuel acc hi hf
    obtain ⟨m, rfl⟩ : ∃ m, fuel = m + 1 := ⟨fuel - 1, by omega⟩
    have q : nI c ≤ nI i := nI_le (by omega) (by omega)
    rw [fn_X3_rankOf_15, fn_X5_rank_4, hx, h8, if_pos q, if_pos q]
    exact ⟨_, rfl, rfl⟩
  | succ n ih =>
    intro i fuel acc hi hf
    obtain ⟨m, rfl⟩ : ∃ m, fuel = m + 1 := ⟨fuel - 1, by omega⟩
    have q : ¬ nI c ≤ nI i := nI_ge (by omega) (by omega)
    rw [fn_X3_rankOf_15, fn_X5_rank_4, hx, h8, if_neg q, if_neg q, if_neg (nI_in (by omega) (by omega)), nI_clamp (by omega), B_can (kd_l (by omega)), hl i (by omega) 0 (by omega), hl i (by omega) 3 (by omega), hl i (by omega) 1 (by omega), its0x (by omega), its3x (by omega), its1x (by omega), its1x (by omega)]
    simp only [Option.bind_some, nI_1, Nat.add_zero, Int32.add_zero]
    rcases (hb i (by omega)).1 with e | e
    · simp only [e, z10, z01, if_true, if_false]
      exact ih (i + 1) m acc (by omega) (by omega)
    · rcases (hb i (by omega)).2 with e3 | e3
      · simp only [e, e3, z10, z01, if_true, if_false]
        by_cases l1 : x 158 (71 + 8 * i + 1) < x 158 (71 + 8 * k + 1)
        · rw [if_pos l1, if_pos l1]; exact ih (i + 1) m _ (by omega) (by omega)
        · rw [if_neg l1, if_neg l1]
          by_cases l2 : x 158 (71 + 8 * i + 1) = x 158 (71 + 8 * k + 1)
          · rw [if_pos l2, if_pos l2]
            by_cases l3 : nI k ≤ nI i
            · rw [if_pos l3, if_pos l3]; exact ih (i + 1) m _ (by omega) (by omega)
            · rw [if_neg l3, if_neg l3]; exact ih (i + 1) m _ (by omega) (by omega)
          · rw [if_neg l2, if_neg l2]; exact ih (i + 1) m _ (by omega) (by omega)
      · simp only [e, e3, z10, z01, if_true, if_false]
        exact ih (i + 1) m _ (by omega) (by omega)
theorem choice_eq {x : mm_M} {c : Nat} (hR : Rd x c) (a : Int32) : ∀ (n i fuel : Nat), i + n = c → n < fuel → ∃ r, fn_X3_chosen_2 fuel a (nI i) x = some r ∧ fn_X5_choice_2 fuel a (nI i) x = some r := by
  obtain ⟨hc, h8, hx, hl, hb⟩ := id hR
  intro n
  induction n with
  | zero =>
    intro i fuel hi hf
    obtain ⟨m, rfl⟩ : ∃ m, fuel = m + 1 := ⟨fuel - 1, by omega⟩
    have q : nI c ≤ nI i := nI_le (by omega) (by omega)
    rw [fn_X3_chosen_2, fn_X5_choice_2, hx, h8, if_pos q, if_pos q]
    exact ⟨_, rfl, rfl⟩
  | succ n ih =>
    intro i fuel hi hf
    obtain ⟨m, rfl⟩ : ∃ m, fuel = m + 1 := ⟨fuel - 1, by omega⟩
    have q : ¬ nI c ≤ nI i := nI_ge (by omega) (by omega)
    obtain ⟨r, f, g⟩ := rank_eq hR (k := i) (by omega) c 0 9 0 (by omega) (by omega)
    rw [nI_0] at f g
    have F : fn_X3_rankOf (nI i) x = some r := by
      unfold fn_X3_rankOf
      rw [if_neg (nI_in (by omega) (by omega)), nI_clamp (by omega), hl i (by omega) 1 (by omega)]
      simp only [Option.bind_some]
      rw [f]; rfl
    have G : fn_X5_rank (nI i) x = some r := by
      unfold fn_X5_rank
      rw [g]; rfl
    rw [fn_X3_chosen_2, fn_X5_choice_2, hx, h8, if_neg q, if_neg q, if_neg (nI_in (by omega) (by omega)), nI_clamp (by omega), B_can (kd_l (by omega)), hl i (by omega) 0 (by omega), hl i (by omega) 3 (by omega), its0x (by omega), its3x (by omega), F, G]
    simp only [Option.bind_some, nI_1, Nat.add_zero]
    have I := ih (i + 1) m (by omega) (by omega)
    rcases (hb i (by omega)).1 with e | e
    · simp only [e, z10, z01, if_true, if_false]; exact I
    · rcases (hb i (by omega)).2 with e3 | e3
      · simp only [e, e3, z10, z01, if_true, if_false]
        by_cases l1 : r = a
        · rw [if_pos l1, if_pos l1]; exact ⟨_, rfl, rfl⟩
        · rw [if_neg l1, if_neg l1]; exact I
      · simp only [e, e3, z10, z01, if_true, if_false]; exact I
theorem S_choice {x : mm_M} (hI : Inv x) (a : Int32) : Same (fn_X4_choice a) (fn_X5_choice a) x := by
  obtain ⟨c, hR⟩ := Inv_rd hI
  have hc := hR.1
  obtain ⟨r, f, g⟩ := choice_eq hR a c 0 9 (by omega) (by omega)
  rw [nI_0] at f g
  unfold Same fn_X4_choice fn_X5_choice fn_X3_chosen
  rw [f, g]; exact ⟨r, rfl, rfl⟩
theorem tkV_ok {v : Nat → Int32} : ∀ (n i : Nat) (b : Int32) (k : Nat), i + n ≤ 8 → k < 8 → tkV v n i b = nI k → (b = nI k → v (71 + 8 * k) = 1 ∧ v (71 + 8 * k + 3) = 0) → v (71 + 8 * k) = 1 ∧ v (71 + 8 * k + 3) = 0 := by
  intro n
  induction n with
  | zero => intro i b k _ _ e h; exact h e
  | succ n ih =>
    intro i b k hi hk e h
    rw [tkV] at e
    refine ih (i + 1) _ k (by omega) hk e (fun q => ?_)
    by_cases c : v (71 + 8 * i) = 1 ∧ v (71 + 8 * i + 3) = 0 ∧ (b < 0 ∨ v (71 + 8 * i + 1) < v (71 + 8 * b.toNatClampNeg + 1))
    · rw [if_pos c] at q
      rw [nI_eq (by omega) (by omega)] at q
      subst q; exact ⟨c.1, c.2.1⟩
    · rw [if_neg c] at q; exact h q
theorem S_why {x : mm_M} (hI : Inv x) (a : Int32) : Same (fn_X4_why a) (fn_X5_why a) x := by
  obtain ⟨c, hR⟩ := Inv_rd hI
  obtain ⟨hc, h8, hx, hl, hb⟩ := id hR
  have sT := hI.2.2.1.2.2.1.1
  unfold Same fn_X4_why fn_X5_why
  rw [B_find hc hx, isL_x hR]
  simp only [Option.bind_some]
  by_cases h : 0 ≤ a ∧ a < nI c
  · obtain ⟨i, hi, rfl⟩ := pu_inL hc h
    have k1 : mm_kd (3 + 5 + i) = 1 := kd_l (by omega)
    rw [if_pos h, if_pos h, nI_clamp (by omega), mm_oc_some, if_pos k1, if_neg (show ¬ (1 : Int32) = 0 by decide), its0x (by omega), its3x (by omega), pu_X5_taken hc h8, hl i hi 0 (by omega), hl i hi 3 (by omega), sT]
    simp only [Option.bind_some, Nat.add_zero]
    by_cases t : nI i = taken (x 158)
    · have ok := tkV_ok (v := x 158) c 0 (-6) i (by omega) (by omega) (by
        have e : taken (x 158) = tkV (x 158) c 0 (-6) := by unfold taken; rw [h8, nI_clamp (by omega)]
        rw [← e]; exact t.symm) (fun q => absurd q (by
          intro e
          have : ¬ nI i < 0 := nI_pos (by omega)
          rw [← e] at this; exact this (by decide)))
      simp only [ok.1, ok.2, z10, z01, if_false, if_pos t, if_pos t.symm]
      exact ⟨_, rfl, rfl⟩
    · rw [if_neg t]
      rcases (hb i (by omega)).1 with e | e
      · simp only [e, if_true]; exact ⟨_, rfl, rfl⟩
      · have t' : (taken (x 158) = nI i) = False := eq_false (fun q => t q.symm)
        rcases (hb i (by omega)).2 with e3 | e3
        · simp only [e, e3, z10, z01, t', if_true, if_false]; exact ⟨_, rfl, rfl⟩
        · simp only [e, e3, z10, z01, if_true, if_false]; exact ⟨_, rfl, rfl⟩
  · rw [if_neg h, if_neg h, mm_oc_none, if_pos rfl]
    exact ⟨_, rfl, rfl⟩
theorem S_log {x : mm_M} (hI : Inv x) (a b : Int32) : Same (fn_X4_log a b) (fn_X5_log a b) x := by
  obtain ⟨e, nx, he, hnx, h10, h43, h44, hlog⟩ := hI.2.2.1.2.2.2.1
  have h43' : x 4 3 = nI e := h43
  have h44' : x 4 4 = nI nx := h44
  unfold Same fn_X4_log fn_X5_log fn_X0_tell
  rw [pu_in, pu_in, h10, h43', h44']
  simp only [Option.bind_some]
  by_cases h : 0 ≤ a ∧ a ≤ nI e - 1
  · have h0 : ¬ a < 0 := by rw [Int32.not_lt]; exact h.1
    have e0 : 0 < e := by
      by_cases q : e = 0
      · subst q
        exact absurd h.2 (fun w => absurd (Int32.le_trans h.1 w) (by decide))
      · omega
    have ee : nI e - 1 = nI (e - 1) := by
      obtain ⟨m, rfl⟩ : ∃ m, e = m + 1 := ⟨e - 1, by omega⟩
      exact nI_pred m
    obtain ⟨t, ht, rfl⟩ := nI_of2 (x := a) (M := nI (e - 1)) (n := e - 1) (nI_toInt (by omega)) h0 (by rw [← ee]; exact h.2)
    have lt : nI t < nI e := nI_lt (by omega) (by omega)
    obtain ⟨g1, g2, g3⟩ := hlog t (by omega)
    have g1' : x 5 ((nx + 19 - t) % 20) = x 158 (11 + 3 * t) := g1
    have g2' : x 6 ((nx + 19 - t) % 20) = x 158 (12 + 3 * t) := g2
    have g3' : x 7 ((nx + 19 - t) % 20) = x 158 (13 + 3 * t) := g3
    have fin : ∀ u : Nat, u < 20 → u = (nx + 19 - t) % 20 → ∃ r, ((if b = 0 then if nI u < 0 ∨ 20 ≤ Int32.toNatClampNeg (nI u) then none else some (x 5 (Int32.toNatClampNeg (nI u))) else if b = 1 then if nI u < 0 ∨ 20 ≤ Int32.toNatClampNeg (nI u) then none else some (x 6 (Int32.toNatClampNeg (nI u))) else if b = 2 then if nI u < 0 ∨ 20 ≤ Int32.toNatClampNeg (nI u) then none else some (x 7 (Int32.toNatClampNeg (nI u))) else some ((-2) : Int32)).bind fun v1 => some v1) = some r ∧ (if (if 0 ≤ b ∧ b ≤ 2 then (1 : Int32) else 0) = 0 then some ((-2) : Int32) else if (((11 : Int32) + ((3 : Int32) * nI t)) + b) < 0 ∨ 135 ≤ Int32.toNatClampNeg (((11 : Int32) + ((3 : Int32) * nI t)) + b) then none else some (x 158 (Int32.toNatClampNeg (((11 : Int32) + ((3 : Int32) * nI t)) + b)))) = some r := by
      intro u hu eu
      have ix : ∀ j : Nat, (11 : Int32) + (3 : Int32) * nI t + nI j = nI (11 + 3 * t + j) := fun j => by
        show nI 11 + nI 3 * nI t + nI j = _; rw [pu_mul, nI_add, nI_add]
      by_cases q : 0 ≤ b ∧ b ≤ 2
      · obtain ⟨j, hj, rfl⟩ := nI_of2 (x := b) (M := 2) (n := 2) (by decide) (by rw [Int32.not_lt]; exact q.1) q.2
        have nn : (nI u < 0 ∨ 20 ≤ Int32.toNatClampNeg (nI u)) = False := eq_false (nI_in (by omega) (by omega))
        have nm : (nI (11 + 3 * t + j) < 0 ∨ 135 ≤ Int32.toNatClampNeg (nI (11 + 3 * t + j))) = False := eq_false (nI_in (by omega) (by omega))
        rw [if_pos q, if_neg (show ¬ (1 : Int32) = 0 by decide), ix]
        simp only [nn, nm, if_false]
        rw [nI_clamp (show u < 2 ^ 31 by omega), nI_clamp (show 11 + 3 * t + j < 2 ^ 31 by omega), eu, g1', g2', g3']
        match j, hj with
        | 0, _ => rw [if_pos (by decide)]; exact ⟨_, rfl, rfl⟩
        | 1, _ => rw [if_neg (by decide), if_pos (by decide), show 11 + 3 * t + 1 = 12 + 3 * t from by omega]; exact ⟨_, rfl, rfl⟩
        | 2, _ => rw [if_neg (by decide), if_neg (by decide), if_pos (by decide), show 11 + 3 * t + 2 = 13 + 3 * t from by omega]; exact ⟨_, rfl, rfl⟩
      · have ne : ∀ d : Int32, 0 ≤ d ∧ d ≤ 2 → b ≠ d := fun d hd e => q (e ▸ hd)
        rw [if_neg q, if_pos rfl, if_neg (ne 0 (by decide)), if_neg (ne 1 (by decide)), if_neg (ne 2 (by decide))]
        exact ⟨_, rfl, rfl⟩
    rw [if_neg h0, if_pos lt, if_pos h, if_neg (show ¬ (1 : Int32) = 0 by decide)]
    by_cases w : t + 1 ≤ nx
    · have ev : nI nx - 1 - nI t = nI (nx - 1 - t) := by
        obtain ⟨m, rfl⟩ : ∃ m, nx = m + t + 1 := ⟨nx - 1 - t, by omega⟩
        rw [nI_pred, nI_sub]; congr 1; omega
      have p0 : 0 ≤ nI (nx - 1 - t) := nI_pos' (by omega)
      rw [ev, if_pos p0]
      exact fin (nx - 1 - t) (by omega) (by omega)
    · have ev : nI nx - 1 - nI t + 20 = nI (nx + 19 - t) := by
        have : nI nx + nI 19 = nI (nx + 19 - t) + nI t := by rw [nI_add, nI_add]; congr 1; omega
        have h2 : nI nx - 1 - nI t + 20 = nI nx + nI 19 - nI t := by
          show nI nx - 1 - nI t + 20 = nI nx + 19 - nI t
          rw [Int32.sub_eq_add_neg, Int32.sub_eq_add_neg, Int32.sub_eq_add_neg, Int32.add_assoc, Int32.add_assoc, Int32.add_comm (-nI t) 20, ← Int32.add_assoc, ← Int32.add_assoc, Int32.add_assoc (nI nx) (-1) 20]
          rfl
        rw [h2, this, nI_add, nI_sub]
      have p0 : ¬ 0 ≤ nI nx - 1 - nI t := by
        have e1 : (nI nx - 1 - nI t).toInt = (nx : Int) - 1 - t := by
          rw [Int32.toInt_sub, Int32.toInt_sub, nI_toInt (by omega), nI_toInt (by omega), show (1 : Int32).toInt = 1 from rfl, Int.bmod_eq_of_le (n := (nx : Int) - 1) (by omega) (by omega), Int.bmod_eq_of_le (by omega) (by omega)]
        rw [Int32.le_iff_toInt_le, e1]
        show ¬ (0 : Int) ≤ _
        omega
      rw [if_neg p0]
      rw [ev]
      exact fin (nx + 19 - t) (by omega) (by omega)
  · rw [if_neg h, if_pos rfl]
    by_cases h0 : a < 0
    · rw [if_pos h0]; exact ⟨_, rfl, rfl⟩
    · obtain ⟨t, ht, rfl⟩ := nI_of h0
      have nl : ¬ nI t < nI e := fun q => h ⟨Int32.not_lt.mp h0, by
        rw [nI_ltI ht (by omega)] at q
        obtain ⟨m, rfl⟩ : ∃ m, e = m + 1 := ⟨e - 1, by omega⟩
        rw [nI_pred]; exact nI_le (by omega) (by omega)⟩
      rw [if_neg h0, if_neg nl]; exact ⟨_, rfl, rfl⟩
