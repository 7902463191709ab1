/-! THE PURE PART: numbers, the memory's reads, the minute of a landing -/
theorem pu_mul (a b : Nat) : nI a * nI b = nI (a * b) := (Int32.ofNat_mul a b).symm
theorem mm_up_app (x : mm_M) (k j : Nat) (v : Int32) (a i : Nat) : mm_up x k j v a i = if a = k ∧ i = j then v else x a i := by
  unfold mm_up upd
  by_cases h : a = k
  · by_cases h2 : i = j <;> simp [h, h2]
  · simp [h]
theorem mm_b2_some {α β γ : Type} (a : α) (c : β) (f : α → β → Option γ) : mm_b2 (some (a, c)) f = f a c := rfl
theorem mm_oc_some {α : Type} (k : Nat) (t : Option α) (f : Nat → Option α) : mm_oc (some k) t f = f k := rfl
theorem mm_oc_none {α : Type} (t : Option α) (f : Nat → Option α) : mm_oc none t f = t := rfl
theorem pu_cmp_lt (a b : Int64) : lg_cmp a b < 0 ↔ a < b := by
  unfold lg_cmp
  by_cases h1 : a > b
  · rw [if_pos h1]
    have : ¬ a < b := fun q => by
      rw [gt_iff_lt, Int64.lt_iff_toInt_lt] at h1
      rw [Int64.lt_iff_toInt_lt] at q
      omega
    simp [this]
  · rw [if_neg h1]
    by_cases h2 : a = b
    · rw [if_pos h2]; subst h2; simp
    · rw [if_neg h2]
      have : a < b := by
        rw [gt_iff_lt, Int64.lt_iff_toInt_lt] at h1
        rw [Int64.lt_iff_toInt_lt]
        have h3 : a.toInt ≠ b.toInt := fun q => h2 (Int64.toInt_inj.mp q)
        omega
      simp only [this, iff_true]
      decide
theorem pu_cmp_gt (a b : Int64) : 0 < lg_cmp a b ↔ b < a := by
  unfold lg_cmp
  by_cases h1 : a > b
  · rw [if_pos h1]
    have h2 : b < a := h1
    simp only [h2, iff_true]
    decide
  · rw [if_neg h1]
    have h2 : ¬ b < a := h1
    by_cases h3 : a = b
    · rw [if_pos h3]; subst h3; simp
    · rw [if_neg h3]
      simp only [h2, iff_false]
      decide
theorem pu_cmp_eq (a b : Int64) : lg_cmp a b = 0 ↔ a = b := by
  unfold lg_cmp
  by_cases h1 : a > b
  · rw [if_pos h1]
    have : a ≠ b := by
      rintro rfl
      rw [gt_iff_lt, Int64.lt_iff_toInt_lt] at h1
      omega
    simp [this]
  · rw [if_neg h1]
    by_cases h2 : a = b
    · simp [h2]
    · rw [if_neg h2]; simp [h2]
theorem pu_in (a lo hi : Int32) (x : mm_M) : fn_X5_in (Int32.toInt64 a) lo hi x = some (if lo ≤ a ∧ a ≤ hi then 1 else 0) := by
  unfold fn_X5_in
  simp only [pu_cmp_lt, pu_cmp_gt, Int32.toInt64_lt]
  by_cases h1 : a < lo
  · have h2 : ¬ lo ≤ a := fun q => absurd h1 (Int32.not_lt.mpr q)
    simp [h1, h2]
  · have h2 : lo ≤ a := Int32.not_lt.mp h1
    by_cases h3 : hi < a
    · have h4 : ¬ a ≤ hi := fun q => absurd h3 (Int32.not_lt.mpr q)
      simp [h1, h3, h4]
    · have h4 : a ≤ hi := Int32.not_lt.mp h3
      simp [h1, h3, h2, h4]
/-- a minute of a landing: fine, since, shunned, for; whether it is welcome again -/
def pm (half below longest fine since sh fr : Int32) : Int32 × Int32 × Int32 × Int32 × Int32 :=
  let f1 := if since + 1 < half then fine else fine / 2
  let s1 := if since + 1 < half then since + 1 else 0
  if sh = 0 then (f1, s1, sh, fr, 0)
  else if f1 < below then (f1, s1, 0, 0, 1)
  else if longest ≤ fr + 1 then (below - 1, s1, 0, 0, 1)
  else (f1, s1, sh, fr + 1, 0)
def st4 (x : mm_M) (k j2 j5 j3 j4 : Nat) (f s h r : Int32) : mm_M := fun a i => if a = k then (if i = j2 then f else if i = j5 then s else if i = j3 then h else if i = j4 then r else x a i) else x a i
theorem st4_ne {x : mm_M} {k a j2 j5 j3 j4 : Nat} {f s h r : Int32} (ha : a ≠ k) : st4 x k j2 j5 j3 j4 f s h r a = x a := by funext i; simp [st4, ha]
theorem st4_k {x : mm_M} {k j2 j5 j3 j4 i : Nat} {f s h r : Int32} : st4 x k j2 j5 j3 j4 f s h r k i = if i = j2 then f else if i = j5 then s else if i = j3 then h else if i = j4 then r else x k i := by simp [st4]
theorem mm_ext1 {x y : mm_M} (k : Nat) (h1 : ∀ a, a ≠ k → x a = y a) (h2 : ∀ i, x k i = y k i) : x = y := by
  funext a
  by_cases h : a = k
  · subst h; exact funext h2
  · exact h1 a h
theorem pu_min (f b : Int32) (hb : 1 ≤ b) : (if b - 1 < f then b - 1 else f) = if f < b then f else b - 1 := by
  have h1 : (b - 1).toInt = b.toInt - 1 := by
    rw [Int32.toInt_sub]
    rw [Int32.le_iff_toInt_le] at hb
    have h2 := Int32.toInt_lt b
    have h3 : (1 : Int32).toInt = 1 := by decide
    rw [h3] at hb ⊢
    rw [Int.bmod_eq_of_le] <;> omega
  by_cases h : f < b
  · rw [if_pos h]
    by_cases h2 : b - 1 < f
    · rw [Int32.lt_iff_toInt_lt] at h h2
      omega
    · rw [if_neg h2]
  · rw [if_neg h, if_pos]
    rw [Int32.lt_iff_toInt_lt] at h ⊢
    omega
theorem pu_X1_passMinute {x : mm_M} {k : Nat} (hk : mm_kd k = 1) {half below longest : Int32} (hb : 1 ≤ below) : fn_X1_passMinute k half below longest x = some (st4 x k 2 5 3 4 (pm half below longest (x k 2) (x k 5) (x k 3) (x k 4)).1 (pm half below longest (x k 2) (x k 5) (x k 3) (x k 4)).2.1 (pm half below longest (x k 2) (x k 5) (x k 3) (x k 4)).2.2.1 (pm half below longest (x k 2) (x k 5) (x k 3) (x k 4)).2.2.2.1, (pm half below longest (x k 2) (x k 5) (x k 3) (x k 4)).2.2.2.2) := by
  unfold fn_X1_passMinute pm
  simp only [hk, if_true, Option.bind_some, mm_up_app, true_and, and_true, and_self, if_false, pu_min _ _ hb, Nat.reduceEqDiff, and_false]
  by_cases c1 : x k 5 + 1 < half
  all_goals by_cases c2 : x k 3 = 0
  all_goals by_cases c3 : x k 2 < below
  all_goals by_cases c3' : x k 2 / 2 < below
  all_goals by_cases c4 : longest ≤ x k 4 + 1
  all_goals simp only [c1, c2, c3, c3', c4, if_true, if_false, Option.some.injEq, Prod.mk.injEq, and_true]
  all_goals refine mm_ext1 k (fun a ha => by simp only [mm_up_ne ha, st4_ne ha]) (fun i => ?_)
  all_goals simp only [mm_up_app, st4_k, true_and]
  all_goals (repeat' split) <;> simp_all
theorem pu_X5_passes {x : mm_M} : fn_X5_passes x = some (st4 x 157 10 11 12 13 (pm (x 158 3) (x 158 5) (x 158 6) (x 157 10) (x 157 11) (x 157 12) (x 157 13)).1 (pm (x 158 3) (x 158 5) (x 158 6) (x 157 10) (x 157 11) (x 157 12) (x 157 13)).2.1 (pm (x 158 3) (x 158 5) (x 158 6) (x 157 10) (x 157 11) (x 157 12) (x 157 13)).2.2.1 (pm (x 158 3) (x 158 5) (x 158 6) (x 157 10) (x 157 11) (x 157 12) (x 157 13)).2.2.2.1, (pm (x 158 3) (x 158 5) (x 158 6) (x 157 10) (x 157 11) (x 157 12) (x 157 13)).2.2.2.2) := by
  unfold fn_X5_passes pm
  simp only [Option.bind_some, mm_up_app, true_and, and_true, and_self, if_false, if_true, Nat.reduceEqDiff, and_false, false_and]
  have e1 : ∀ p q : Int32, p < q ↔ ¬ q ≤ p := fun p q => Int32.not_le.symm
  by_cases c1 : x 157 11 + 1 < x 158 3
  all_goals by_cases c2 : x 157 12 = 0
  all_goals by_cases c3 : x 157 10 < x 158 5
  all_goals by_cases c3' : x 157 10 / 2 < x 158 5
  all_goals by_cases c4 : x 158 6 ≤ x 157 13 + 1
  all_goals simp only [c1, c2, c3, c3', e1 (x 157 13 + 1), c4, not_true_eq_false, not_false_eq_true, if_true, if_false, Option.some.injEq, Prod.mk.injEq, and_true]
  all_goals refine mm_ext1 157 (fun a ha => by simp only [mm_up_ne ha, st4_ne ha]) (fun i => ?_)
  all_goals simp only [mm_up_app, st4_k, true_and]
  all_goals (repeat' split) <;> simp_all
/-- a cell laid anew -/
def cs (x : mm_M) (k : Nat) (v : Nat → Int32) : mm_M := fun a => if a = k then v else x a
theorem cs_k (x : mm_M) (k : Nat) (v : Nat → Int32) : cs x k v k = v := if_pos rfl
theorem cs_ne {x : mm_M} {k a : Nat} {v : Nat → Int32} (h : a ≠ k) : cs x k v a = x a := if_neg h
theorem cs_cs (x : mm_M) (k : Nat) (v w : Nat → Int32) : cs (cs x k v) k w = cs x k w := by
  funext a; by_cases h : a = k <;> simp [cs, h]
theorem cs_self (x : mm_M) (k : Nat) : cs x k (x k) = x := by
  funext a; by_cases h : a = k
  · subst h; exact cs_k _ _ _
  · exact cs_ne h
theorem mm_up_cs (x : mm_M) (k j : Nat) (a : Int32) : mm_up x k j a = cs x k (upd (x k) j a) := by
  funext c; by_cases h : c = k
  · subst h; rw [mm_up_same, cs_k]
  · rw [mm_up_ne h, cs_ne h]
theorem mm_up_of_cs (x : mm_M) (k j : Nat) (v : Nat → Int32) (a : Int32) : mm_up (cs x k v) k j a = cs x k (upd v j a) := by rw [mm_up_cs, cs_k, cs_cs]
theorem cs_app (x : mm_M) (k : Nat) (v : Nat → Int32) (a i : Nat) : cs x k v a i = if a = k then v i else x a i := by
  by_cases h : a = k <;> simp [cs, h]
theorem cs_ext {x y : mm_M} {k : Nat} {v : Nat → Int32} (h1 : ∀ a, a ≠ k → y a = x a) (h2 : ∀ i, y k i = v i) : y = cs x k v := mm_ext1 k (fun a ha => by rw [h1 a ha, cs_ne ha]) (fun i => by rw [h2 i, cs_k])
theorem nI_sub {a b : Nat} : nI (a + b) - nI b = nI a := by
  rw [← nI_add]; exact Int32.add_sub_cancel _ _
theorem nI_m1 (a : Nat) : nI (a + 1) + (-1) = nI a := by
  have h : nI (a + 1) + (-1) = nI (a + 1) - 1 := by rw [Int32.sub_eq_add_neg]
  rw [h, nI_pred]
theorem pu_its {i j : Nat} (hi : i < 8) (hj : j < 8) (x : mm_M) : fn_X5_its (nI i) (nI j) x = some (x 158 (71 + 8 * i + j)) := by
  unfold fn_X5_its
  have e : (71 : Int32) + (8 : Int32) * nI i + nI j = nI (71 + 8 * i + j) := by
    show nI 71 + nI 8 * nI i + nI j = _
    rw [pu_mul, nI_add, nI_add]
  rw [e, if_neg (nI_in (by omega) (by omega)), nI_clamp (by omega)]
theorem pu_lay {i j : Nat} (hi : i < 8) (hj : j < 8) (a : Int32) (x : mm_M) : fn_X5_lay (nI i) (nI j) a x = some (mm_up x 158 (71 + 8 * i + j) a) := by
  unfold fn_X5_lay
  have e : (71 : Int32) + (8 : Int32) * nI i + nI j = nI (71 + 8 * i + j) := by
    show nI 71 + nI 8 * nI i + nI j = _
    rw [pu_mul, nI_add, nI_add]
  rw [e, if_neg (nI_in (by omega) (by omega)), nI_clamp (by omega)]
  rfl
/-- which landing is taken, by the row -/
def tkV (v : Nat → Int32) : Nat → Nat → Int32 → Int32
  | 0, _, best => best
  | n + 1, i, best => tkV v n (i + 1) (if v (71 + 8 * i) = 1 ∧ v (71 + 8 * i + 3) = 0 ∧ (best < 0 ∨ v (71 + 8 * i + 1) < v (71 + 8 * best.toNatClampNeg + 1)) then nI i else best)
def taken (v : Nat → Int32) : Int32 := tkV v (v 8).toNatClampNeg 0 (-6)
def okb (b : Int32) (i : Nat) : Prop := b = -6 ∨ ∃ k, k < i ∧ b = nI k
theorem okb_step {b : Int32} {i : Nat} {c : Prop} [Decidable c] (h : okb b i) : okb (if c then nI i else b) (i + 1) := by
  by_cases hc : c
  · rw [if_pos hc]; exact Or.inr ⟨i, by omega, rfl⟩
  · rw [if_neg hc]
    rcases h with h | ⟨k, h1, h2⟩
    · exact Or.inl h
    · exact Or.inr ⟨k, by omega, h2⟩
theorem pu_taken {x : mm_M} {c : Nat} (hc : c ≤ 8) (h8 : x 158 8 = nI c) : ∀ (n i fuel : Nat) (best : Int32), i + n = c → n < fuel → okb best i → fn_X5_taken_5 fuel best (nI i) x = some (tkV (x 158) n i best) := by
  intro n
  induction n with
  | zero =>
    intro i fuel best hi hf _
    obtain ⟨m, rfl⟩ : ∃ m, fuel = m + 1 := ⟨fuel - 1, by omega⟩
    rw [fn_X5_taken_5, h8, if_pos (nI_le (by omega) (by omega))]
    rfl
  | succ n ih =>
    intro i fuel best hi hf hb
    obtain ⟨m, rfl⟩ : ∃ m, fuel = m + 1 := ⟨fuel - 1, by omega⟩
    have i0 : fn_X5_its (nI i) 0 x = _ := pu_its (j := 0) (show i < 8 by omega) (by omega) x
    have i1 : fn_X5_its (nI i) 1 x = _ := pu_its (j := 1) (show i < 8 by omega) (by omega) x
    have i3 : fn_X5_its (nI i) 3 x = _ := pu_its (j := 3) (show i < 8 by omega) (by omega) x
    have ih' := fun b hb => ih (i + 1) m b (by omega) (by omega) hb
    rw [fn_X5_taken_5, h8, if_neg (nI_ge (by omega) (by omega))]
    simp only [i0, i1, i3, Option.bind_some, nI_1]
    rw [tkV]
    have hstep := okb_step (c := x 158 (71 + 8 * i) = 1 ∧ x 158 (71 + 8 * i + 3) = 0 ∧ (best < 0 ∨ x 158 (71 + 8 * i + 1) < x 158 (71 + 8 * best.toNatClampNeg + 1))) hb
    rw [← ih' _ hstep]
    by_cases c0 : x 158 (71 + 8 * i) = 1
    · by_cases c3 : x 158 (71 + 8 * i + 3) = 0
      · simp only [Nat.add_zero, c0, c3, if_true, true_and]
        rcases hb with rfl | ⟨k, hk, rfl⟩
        · have h6 : ((-6 : Int32) < 0) := by decide
          simp only [h6, true_or, if_true]
        · have h6 : ¬ nI k = -6 := by
            intro q
            have q2 := congrArg Int32.toInt q
            rw [nI_toInt (by omega)] at q2
            have q3 : (-6 : Int32).toInt = -6 := by decide
            omega
          have h7 : ¬ nI k < 0 := nI_pos (by omega)
          have i1' : fn_X5_its (nI k) 1 x = _ := pu_its (j := 1) (show k < 8 by omega) (by omega) x
          simp only [h6, h7, if_false, false_or, i1', Option.bind_some, nI_clamp (show k < 2 ^ 31 by omega)]
          by_cases c4 : x 158 (71 + 8 * i + 1) < x 158 (71 + 8 * k + 1)
          · rw [if_pos c4, if_neg (Int32.not_le.mpr c4)]
          · rw [if_neg c4, if_pos (Int32.not_lt.mp c4)]
      · simp only [Nat.add_zero, c0, c3, if_true, if_false, false_and, and_false]
    · simp only [Nat.add_zero, c0, if_false, false_and]
theorem pu_X5_taken {x : mm_M} {c : Nat} (hc : c ≤ 8) (h8 : x 158 8 = nI c) : fn_X5_taken x = some (taken (x 158)) := by
  unfold fn_X5_taken taken
  have h := pu_taken hc h8 c 0 9 (-6) (by omega) (by omega) (Or.inl rfl)
  have e0 : nI 0 = 0 := nI_0
  rw [e0] at h
  rw [h, h8, nI_clamp (by omega)]
  rfl
/-- a note: the log moves on -/
def noteV (v : Nat → Int32) (w l : Int32) : Nat → Int32 := fun j => if j = 10 then (if 20 ≤ v 10 then v 10 else v 10 + 1) else if j = 11 then w else if j = 12 then l else if j = 13 then v 7 else if 14 ≤ j ∧ j ≤ 70 then v (j - 3) else v j
theorem pu_note3 {a1 a2 : Int32} : ∀ (n fuel : Nat) (x : mm_M), n < fuel → n ≤ 57 → fn_X5_note_3 fuel a1 a2 (nI (13 + n)) x = some (cs x 158 (fun j => if 14 ≤ j ∧ j ≤ 13 + n then x 158 (j - 3) else x 158 j)) := by
  intro n
  induction n with
  | zero =>
    intro fuel x hf _
    obtain ⟨m, rfl⟩ : ∃ m, fuel = m + 1 := ⟨fuel - 1, by omega⟩
    rw [fn_X5_note_3, if_pos (show nI (13 + 0) < (14 : Int32) by decide)]
    refine congrArg some (cs_ext (fun _ _ => rfl) (fun i => ?_))
    rw [if_neg (by omega)]
  | succ n ih =>
    intro fuel x hf hn
    obtain ⟨m, rfl⟩ : ∃ m, fuel = m + 1 := ⟨fuel - 1, by omega⟩
    have e1 : nI (13 + (n + 1)) - 3 = nI (11 + n) := by
      show nI (13 + (n + 1)) - nI 3 = _
      rw [show 13 + (n + 1) = 11 + n + 3 by omega]; exact nI_sub
    have e2 : nI (13 + (n + 1)) + (-1) = nI (13 + n) := nI_m1 (13 + n)
    have c14 : ¬ nI (13 + (n + 1)) < (14 : Int32) := by
      show ¬ nI (13 + (n + 1)) < nI 14
      exact nI_nlt (by omega) (by omega)
    rw [fn_X5_note_3, if_neg c14, e1, e2, if_neg (nI_in (by omega) (by omega)), if_neg (nI_in (by omega) (by omega)), nI_clamp (by omega), nI_clamp (by omega)]
    simp only [Option.bind_some]
    rw [ih m _ (by omega) (by omega)]
    refine congrArg some (cs_ext (fun a ha => by rw [cs_ne ha, mm_up_ne ha]) (fun i => ?_))
    rw [cs_k]
    simp only [mm_up_app, true_and]
    by_cases h1 : 14 ≤ i ∧ i ≤ 13 + n
    · rw [if_pos h1, if_neg (by omega), if_pos (by omega)]
    · rw [if_neg h1]
      by_cases h2 : i = 13 + (n + 1)
      · subst h2
        rw [if_pos rfl, if_pos (by omega)]
        exact congrArg _ (by omega)
      · rw [if_neg h2, if_neg (by omega)]
theorem pu_note (w l : Int32) (x : mm_M) : fn_X5_note w l x = some (cs x 158 (noteV (x 158) w l)) := by
  unfold fn_X5_note
  have h := pu_note3 (a1 := w) (a2 := l) 57 58 x (by omega) (by omega)
  have e : nI (13 + 57) = 70 := by decide
  rw [e] at h
  rw [h]
  simp only [Option.bind_some, mm_up_app, cs_app, if_true, true_and, Nat.reduceEqDiff, if_false, and_false, Nat.reduceLeDiff, false_and, Int32.add_zero]
  by_cases c : (20 : Int32) ≤ x 158 10
  · rw [if_pos c]
    refine congrArg some (cs_ext (fun a ha => by simp only [mm_up_ne ha, cs_ne ha]) (fun i => ?_))
    simp only [mm_up_app, cs_app, if_true, true_and, noteV, c]
    (repeat' split) <;> first | rfl | omega | simp_all
  · rw [if_neg c]
    refine congrArg some (cs_ext (fun a ha => by simp only [mm_up_ne ha, cs_ne ha]) (fun i => ?_))
    simp only [mm_up_app, cs_app, if_true, true_and, noteV, c, if_false]
    (repeat' split) <;> first | rfl | omega | simp_all
