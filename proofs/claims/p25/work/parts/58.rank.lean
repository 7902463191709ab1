/-! COUNTS AND RANKS -/
def cntP (p : Nat → Bool) : Nat → Nat
  | 0 => 0
  | n + 1 => cntP p n + if p n = true then 1 else 0
theorem cnt_y {p : Nat → Bool} {n : Nat} (h : p n = true) : cntP p (n + 1) = cntP p n + 1 := by rw [cntP, if_pos h]
theorem cnt_n {p : Nat → Bool} {n : Nat} (h : p n = false) : cntP p (n + 1) = cntP p n := by rw [cntP, h]; rfl
theorem cnt_le {p q : Nat → Bool} : ∀ n, (∀ j, j < n → p j = true → q j = true) → cntP p n ≤ cntP q n := by
  intro n
  induction n with
  | zero => intro _; exact Nat.le_refl _
  | succ n ih =>
    intro h
    have h1 := ih (fun j hj => h j (by omega))
    have h2 := h n (by omega)
    cases c : p n with
    | false =>
      rw [cnt_n c]
      cases d : q n with
      | false => rw [cnt_n d]; exact h1
      | true => rw [cnt_y d]; omega
    | true => rw [cnt_y c, cnt_y (h2 c)]; omega
theorem cnt_lt {p q : Nat → Bool} : ∀ n, (∀ j, j < n → p j = true → q j = true) → ∀ i, i < n → q i = true → p i = false → cntP p n + 1 ≤ cntP q n := by
  intro n
  induction n with
  | zero => intro _ i hi; omega
  | succ n ih =>
    intro h i hi hq hp
    by_cases e : i = n
    · subst e
      rw [cnt_n hp, cnt_y hq]
      have := cnt_le (p := p) (q := q) i (fun j hj => h j (by omega))
      omega
    · have h1 := ih (fun j hj => h j (by omega)) i (by omega) hq hp
      have h2 := h n (by omega)
      cases c : p n with
      | false =>
        rw [cnt_n c]
        cases d : q n with
        | false => rw [cnt_n d]; exact h1
        | true => rw [cnt_y d]; omega
      | true => rw [cnt_y c, cnt_y (h2 c)]; omega
theorem cnt_max (p : Nat → Bool) : ∀ n, cntP p n ≤ n := by
  intro n
  induction n with
  | zero => exact Nat.le_refl _
  | succ n ih =>
    cases c : p n with
    | false => rw [cnt_n c]; omega
    | true => rw [cnt_y c]; omega
theorem cnt_0 {p : Nat → Bool} : ∀ n, (∀ j, j < n → p j = false) → cntP p n = 0 := by
  intro n
  induction n with
  | zero => intro _; rfl
  | succ n ih => intro h; rw [cnt_n (h n (by omega))]; exact ih (fun j hj => h j (by omega))
section RKS
variable {A : Nat → Bool} {lt : Nat → Nat → Bool}
def bfP (A : Nat → Bool) (lt : Nat → Nat → Bool) (i : Nat) : Nat → Bool := fun j => A j && lt j i
def rkP (A : Nat → Bool) (lt : Nat → Nat → Bool) (c i : Nat) : Nat := cntP (bfP A lt i) c
theorem bfP_t {i j : Nat} : bfP A lt i j = true ↔ A j = true ∧ lt j i = true := by unfold bfP; rw [Bool.and_eq_true]
theorem bfP_f {i j : Nat} (h : A j = true → lt j i = true → False) : bfP A lt i j = false := by
  cases c : bfP A lt i j with
  | false => rfl
  | true => exact (h (bfP_t.mp c).1 (bfP_t.mp c).2).elim
theorem rk_mono (tr : ∀ i j k, lt i j = true → lt j k = true → lt i k = true) {c i j : Nat} (h : lt i j = true) : rkP A lt c i ≤ rkP A lt c j :=
  cnt_le c (fun k _ hp => bfP_t.mpr ⟨(bfP_t.mp hp).1, tr _ _ _ (bfP_t.mp hp).2 h⟩)
theorem rk_lt (ir : ∀ i, lt i i = false) (tr : ∀ i j k, lt i j = true → lt j k = true → lt i k = true) {c i j : Nat} (hi : i < c) (ha : A i = true) (h : lt i j = true) : rkP A lt c i + 1 ≤ rkP A lt c j :=
  cnt_lt c (fun k _ hp => bfP_t.mpr ⟨(bfP_t.mp hp).1, tr _ _ _ (bfP_t.mp hp).2 h⟩) i hi (bfP_t.mpr ⟨ha, h⟩) (bfP_f (fun _ q => by rw [ir i] at q; cases q))
theorem rk_bd (ir : ∀ i, lt i i = false) {c i : Nat} (hi : i < c) (ha : A i = true) : rkP A lt c i + 1 ≤ cntP A c :=
  cnt_lt c (fun k _ hp => (bfP_t.mp hp).1) i hi ha (bfP_f (fun _ q => by rw [ir i] at q; cases q))
theorem rk_ex (ir : ∀ i, lt i i = false) (tr : ∀ i j k, lt i j = true → lt j k = true → lt i k = true) (tt : ∀ i j, i ≠ j → lt i j = true ∨ lt j i = true) : ∀ c r, r < cntP A c → ∃ i, i < c ∧ A i = true ∧ rkP A lt c i = r := by
  intro c
  induction c with
  | zero => intro r hr; exact absurd hr (Nat.not_lt_zero r)
  | succ c ih =>
    intro r hr
    cases ac : A c with
    | false =>
      rw [cnt_n ac] at hr
      obtain ⟨i, h1, h2, h3⟩ := ih r hr
      refine ⟨i, by omega, h2, ?_⟩
      rw [← h3]
      exact cnt_n (bfP_f (fun q _ => by rw [ac] at q; cases q))
    | true =>
      rw [cnt_y ac] at hr
      rcases Nat.lt_trichotomy r (rkP A lt c c) with q | q | q
      · have hq : rkP A lt c c ≤ cntP A c := cnt_le c (fun k _ hp => (bfP_t.mp hp).1)
        obtain ⟨i, h1, h2, h3⟩ := ih r (by omega)
        refine ⟨i, by omega, h2, ?_⟩
        rw [← h3]
        refine cnt_n (bfP_f (fun _ w => ?_))
        have := rk_mono (A := A) tr (c := c) w
        omega
      · refine ⟨c, by omega, ac, ?_⟩
        rw [q]
        exact cnt_n (bfP_f (fun _ w => by rw [ir c] at w; cases w))
      · obtain ⟨i, h1, h2, h3⟩ := ih (r - 1) (by omega)
        refine ⟨i, by omega, h2, ?_⟩
        have hl : lt c i = true := by
          rcases tt i c (by omega) with w | w
          · have := rk_lt (A := A) ir tr h1 h2 w
            omega
          · exact w
        have e : rkP A lt (c + 1) i = rkP A lt c i + 1 := cnt_y (bfP_t.mpr ⟨ac, hl⟩)
        omega
theorem rk_inj (ir : ∀ i, lt i i = false) (tr : ∀ i j k, lt i j = true → lt j k = true → lt i k = true) (tt : ∀ i j, i ≠ j → lt i j = true ∨ lt j i = true) {c i j : Nat} (hi : i < c) (hj : j < c) (ai : A i = true) (aj : A j = true) (h : rkP A lt c i = rkP A lt c j) : i = j := by
  by_cases e : i = j
  · exact e
  · rcases tt i j e with w | w
    · have := rk_lt (A := A) ir tr hi ai w; omega
    · have := rk_lt (A := A) ir tr hj aj w; omega
end RKS
/-- which landings can be taken, and the order of them, by the row -/
def Pz (v : Nat → Int32) (i : Nat) : Int := (v (71 + 8 * i + 1)).toInt
def av (v : Nat → Int32) (i : Nat) : Bool := decide (v (71 + 8 * i) = 1 ∧ v (71 + 8 * i + 3) = 0)
def ltB (v : Nat → Int32) (j i : Nat) : Bool := decide (Pz v j < Pz v i ∨ Pz v j = Pz v i ∧ j < i)
def rk (v : Nat → Int32) (c i : Nat) : Nat := rkP (av v) (ltB v) c i
theorem av_t {v : Nat → Int32} {i : Nat} : av v i = true ↔ v (71 + 8 * i) = 1 ∧ v (71 + 8 * i + 3) = 0 := decide_eq_true_iff
theorem av_f {v : Nat → Int32} {i : Nat} (h : ¬ (v (71 + 8 * i) = 1 ∧ v (71 + 8 * i + 3) = 0)) : av v i = false := decide_eq_false h
theorem ltB_t {v : Nat → Int32} {j i : Nat} : ltB v j i = true ↔ Pz v j < Pz v i ∨ Pz v j = Pz v i ∧ j < i := decide_eq_true_iff
theorem lt_ir (v : Nat → Int32) (i : Nat) : ltB v i i = false := decide_eq_false (by omega)
theorem lt_tr (v : Nat → Int32) (i j k : Nat) (h1 : ltB v i j = true) (h2 : ltB v j k = true) : ltB v i k = true := by
  rw [ltB_t] at *; omega
theorem lt_tt (v : Nat → Int32) (i j : Nat) (h : i ≠ j) : ltB v i j = true ∨ ltB v j i = true := by
  rw [ltB_t, ltB_t]; omega
theorem nI_u {a b : Nat} (ha : a < 2 ^ 31) (hb : b < 2 ^ 31) (h : nI a = nI b) : a = b := by rwa [nI_eq ha hb] at h
section RKX
variable {x : mm_M} {v : Nat → Int32} {c : Nat}
theorem rank_v (h : St x v) (hc : c ≤ 8) (h8 : v 8 = nI c) {k : Nat} (hk : k < c) : ∀ (n i fuel : Nat), i + n = c → n < fuel → fn_X3_rankOf_15 fuel (nI k) (v (71 + 8 * k + 1)) (nI (cntP (bfP (av v) (ltB v) k) i)) (nI i) x = some (nI (rk v c k)) := by
  obtain ⟨-, -, hx, hl, hb⟩ := h.rc hc h8
  intro n
  induction n with
  | zero =>
    intro i fuel hi hf
    obtain ⟨m, rfl⟩ : ∃ m, fuel = m + 1 := ⟨fuel - 1, by omega⟩
    obtain rfl : i = c := by omega
    rw [fn_X3_rankOf_15, hx, if_pos (nI_le (by omega) (by omega))]
    rfl
  | succ n ih =>
    intro i fuel hi hf
    obtain ⟨m, rfl⟩ : ∃ m, fuel = m + 1 := ⟨fuel - 1, by omega⟩
    have q : ¬ nI c ≤ nI i := nI_ge (by omega) (by omega)
    have z10 : ((1 : Int32) = 0) = False := eq_false (by decide)
    have I := ih (i + 1) m (by omega) (by omega)
    have ef : ∀ e : bfP (av v) (ltB v) k i = false, fn_X3_rankOf_15 m (nI k) (v (71 + 8 * k + 1)) (nI (cntP (bfP (av v) (ltB v) k) i)) (nI (i + 1)) x = some (nI (rk v c k)) := fun e => by
      rw [cnt_n e] at I; exact I
    have et : ∀ e : bfP (av v) (ltB v) k i = true, fn_X3_rankOf_15 m (nI k) (v (71 + 8 * k + 1)) (nI (cntP (bfP (av v) (ltB v) k) i + 1)) (nI (i + 1)) x = some (nI (rk v c k)) := fun e => by
      rw [cnt_y e] at I; exact I
    rw [fn_X3_rankOf_15, hx, if_neg q, if_neg (nI_in (by omega) (by omega)), nI_clamp (by omega), B_can (kd_l (by omega)), hl i (by omega) 0 (by omega), hl i (by omega) 3 (by omega), hl i (by omega) 1 (by omega)]
    simp only [Option.bind_some, nI_1, Nat.add_zero]
    rcases (hb i (by omega)).1 with e | e
    · simp only [e, if_true]
      refine ef (bfP_f (fun w _ => ?_))
      have := (av_t.mp w).1
      rw [e] at this; revert this; decide
    · rcases (hb i (by omega)).2 with e3 | e3
      · simp only [e, e3, z10, if_true, if_false]
        have av1 : av v i = true := av_t.mpr ⟨e, e3⟩
        by_cases l1 : v (71 + 8 * i + 1) < v (71 + 8 * k + 1)
        · rw [if_pos l1]
          exact et (bfP_t.mpr ⟨av1, ltB_t.mpr (Or.inl (Int32.lt_iff_toInt_lt.mp l1))⟩)
        · rw [if_neg l1]
          have l1' : ¬ Pz v i < Pz v k := fun w => l1 (Int32.lt_iff_toInt_lt.mpr w)
          by_cases l2 : v (71 + 8 * i + 1) = v (71 + 8 * k + 1)
          · rw [if_pos l2]
            have l2' : Pz v i = Pz v k := congrArg Int32.toInt l2
            by_cases l3 : nI k ≤ nI i
            · rw [if_pos l3]
              rw [nI_leI (by omega) (by omega)] at l3
              refine ef (bfP_f (fun _ w => ?_))
              rw [ltB_t] at w; omega
            · rw [if_neg l3]
              have l3' : i < k := by
                rw [nI_leI (by omega) (by omega)] at l3; omega
              exact et (bfP_t.mpr ⟨av1, ltB_t.mpr (Or.inr ⟨l2', l3'⟩)⟩)
          · rw [if_neg l2]
            refine ef (bfP_f (fun _ w => ?_))
            have l2' : ¬ Pz v i = Pz v k := fun w => l2 (Int32.toInt_inj.mp w)
            rw [ltB_t] at w; omega
      · simp only [e, e3, z10, if_true, if_false]
        refine ef (bfP_f (fun w _ => ?_))
        have := (av_t.mp w).2
        rw [e3] at this; revert this; decide
theorem rank_is (h : St x v) (hc : c ≤ 8) (h8 : v 8 = nI c) {k : Nat} (hk : k < c) : fn_X3_rankOf (nI k) x = some (nI (rk v c k)) := by
  have f := rank_v h hc h8 hk c 0 9 (by omega) (by omega)
  obtain ⟨-, -, hx, hl, hb⟩ := h.rc hc h8
  unfold fn_X3_rankOf
  rw [if_neg (nI_in (by omega) (by omega)), nI_clamp (by omega), hl k (by omega) 1 (by omega)]
  simp only [Option.bind_some]
  have e : nI (cntP (bfP (av v) (ltB v) k) 0) = 0 := rfl
  rw [e, nI_0] at f
  rw [f]; rfl
theorem rk_le (v : Nat → Int32) (c i : Nat) : rk v c i ≤ c := cnt_max _ c
/-- one step of the search -/
theorem ch_step (h : St x v) (hc : c ≤ 8) (h8 : v 8 = nI c) (a : Int32) {i : Nat} (hi : i < c) (m : Nat) : fn_X3_chosen_2 (m + 1) a (nI i) x = if av v i = true ∧ nI (rk v c i) = a then some (nI i) else fn_X3_chosen_2 m a (nI (i + 1)) x := by
  have F := rank_is h hc h8 hi
  obtain ⟨-, -, hx, hl, hb⟩ := h.rc hc h8
  have q : ¬ nI c ≤ nI i := nI_ge (by omega) (by omega)
  have z10 : ((1 : Int32) = 0) = False := eq_false (by decide)
  rw [fn_X3_chosen_2, hx, if_neg q, if_neg (nI_in (by omega) (by omega)), nI_clamp (by omega), B_can (kd_l (by omega)), hl i (by omega) 0 (by omega), hl i (by omega) 3 (by omega), F]
  simp only [Option.bind_some, nI_1, Nat.add_zero]
  rcases (hb i hi).1 with e | e
  · simp only [e, if_true]
    rw [if_neg]
    intro w
    have := (av_t.mp w.1).1
    rw [e] at this; revert this; decide
  · rcases (hb i hi).2 with e3 | e3
    · simp only [e, e3, z10, if_true, if_false]
      have av1 : av v i = true := av_t.mpr ⟨e, e3⟩
      by_cases l1 : nI (rk v c i) = a
      · rw [if_pos l1, if_pos ⟨av1, l1⟩]
      · rw [if_neg l1, if_neg (fun w => l1 w.2)]
    · simp only [e, e3, z10, if_true, if_false]
      rw [if_neg]
      intro w
      have := (av_t.mp w.1).2
      rw [e3] at this; revert this; decide
theorem ch_end (h : St x v) (hc : c ≤ 8) (h8 : v 8 = nI c) (a : Int32) (m : Nat) : fn_X3_chosen_2 (m + 1) a (nI c) x = some (-1) := by
  obtain ⟨-, -, hx, hl, hb⟩ := h.rc hc h8
  rw [fn_X3_chosen_2, hx, if_pos (nI_le (by omega) (by omega))]
theorem R_choice_no (h : St x v) (hc : c ≤ 8) (h8 : v 8 = nI c) {a : Int32} (ha : ∀ i, i < c → av v i = true → nI (rk v c i) ≠ a) : fn_X4_choice a x = some (-1) := by
  have loop : ∀ (n i fuel : Nat), i + n = c → n < fuel → fn_X3_chosen_2 fuel a (nI i) x = some (-1) := by
    intro n
    induction n with
    | zero =>
      intro i fuel hi hf
      obtain ⟨m, rfl⟩ : ∃ m, fuel = m + 1 := ⟨fuel - 1, by omega⟩
      obtain rfl : i = c := by omega
      exact ch_end h hc h8 a m
    | succ n ih =>
      intro i fuel hi hf
      obtain ⟨m, rfl⟩ : ∃ m, fuel = m + 1 := ⟨fuel - 1, by omega⟩
      rw [ch_step h hc h8 a (by omega), if_neg (fun w => ha i (by omega) w.1 w.2)]
      exact ih (i + 1) m (by omega) (by omega)
  have f := loop c 0 9 (by omega) (by omega)
  rw [nI_0] at f
  unfold fn_X4_choice fn_X3_chosen
  rw [f]; rfl
theorem R_choice (h : St x v) (hc : c ≤ 8) (h8 : v 8 = nI c) {k : Nat} (hk : k < c) (ak : av v k = true) : fn_X4_choice (nI (rk v c k)) x = some (nI k) := by
  have loop : ∀ (n i fuel : Nat), i + n = k → n + 1 < fuel → fn_X3_chosen_2 fuel (nI (rk v c k)) (nI i) x = some (nI k) := by
    intro n
    induction n with
    | zero =>
      intro i fuel hi hf
      obtain ⟨m, rfl⟩ : ∃ m, fuel = m + 1 := ⟨fuel - 1, by omega⟩
      obtain rfl : i = k := by omega
      rw [ch_step h hc h8 _ hk, if_pos ⟨ak, rfl⟩]
    | succ n ih =>
      intro i fuel hi hf
      obtain ⟨m, rfl⟩ : ∃ m, fuel = m + 1 := ⟨fuel - 1, by omega⟩
      rw [ch_step h hc h8 _ (by omega), if_neg]
      · exact ih (i + 1) m (by omega) (by omega)
      · intro w
        have e := nI_u (by have := rk_le v c i; omega) (by have := rk_le v c k; omega) w.2
        have := rk_inj (A := av v) (lt_ir v) (lt_tr v) (lt_tt v) (by omega) hk w.1 ak e
        omega
  have f := loop k 0 9 (by omega) (by omega)
  rw [nI_0] at f
  unfold fn_X4_choice fn_X3_chosen
  rw [f]; rfl
end RKX
/-- the landing that is taken is the first of all that can be -/
def TkB (v : Nat → Int32) (best : Int32) (i : Nat) : Prop := (best = -6 ∧ ∀ j, j < i → av v j = false) ∨ ∃ b, b < i ∧ best = nI b ∧ av v b = true ∧ ∀ j, j < i → av v j = true → j ≠ b → ltB v b j = true
theorem tk_best {v : Nat → Int32} : ∀ (n i : Nat) (best : Int32), i + n ≤ 8 → TkB v best i → TkB v (tkV v n i best) (i + n) := by
  intro n
  induction n with
  | zero => intro i best _ h; exact h
  | succ n ih =>
    intro i best hi h
    rw [tkV, show i + (n + 1) = i + 1 + n by omega]
    refine ih (i + 1) _ (by omega) ?_
    rcases h with ⟨rfl, h⟩ | ⟨b, hb, rfl, ab, h⟩
    · have h6 : ((-6 : Int32) < 0) = True := eq_true (by decide)
      simp only [h6, true_or, and_true]
      by_cases c : v (71 + 8 * i) = 1 ∧ v (71 + 8 * i + 3) = 0
      · rw [if_pos c]
        refine Or.inr ⟨i, by omega, rfl, av_t.mpr c, fun j hj aj hne => ?_⟩
        rw [h j (by omega)] at aj; cases aj
      · rw [if_neg c]
        refine Or.inl ⟨rfl, fun j hj => ?_⟩
        by_cases e : j = i
        · subst e; exact av_f c
        · exact h j (by omega)
    · have h7 : (nI b < 0) = False := eq_false (nI_pos (by omega))
      simp only [h7, false_or, nI_clamp (show b < 2 ^ 31 by omega)]
      by_cases c : v (71 + 8 * i) = 1 ∧ v (71 + 8 * i + 3) = 0 ∧ v (71 + 8 * i + 1) < v (71 + 8 * b + 1)
      · rw [if_pos c]
        have l : Pz v i < Pz v b := Int32.lt_iff_toInt_lt.mp c.2.2
        refine Or.inr ⟨i, by omega, rfl, av_t.mpr ⟨c.1, c.2.1⟩, fun j hj aj hne => ?_⟩
        rw [ltB_t]
        by_cases e : j = b
        · subst e; exact Or.inl l
        · have := ltB_t.mp (h j (by omega) aj e)
          omega
      · rw [if_neg c]
        refine Or.inr ⟨b, by omega, rfl, ab, fun j hj aj hne => ?_⟩
        by_cases e : j = i
        · subst e
          have a := av_t.mp aj
          have l : ¬ Pz v j < Pz v b := fun w => c ⟨a.1, a.2, Int32.lt_iff_toInt_lt.mpr w⟩
          rw [ltB_t]; omega
        · exact h j (by omega) aj hne
theorem taken_is {v : Nat → Int32} {c : Nat} (hc : c ≤ 8) (h8 : v 8 = nI c) : TkB v (taken v) c := by
  have h := tk_best (v := v) c 0 (-6) (by omega) (Or.inl ⟨rfl, fun j hj => absurd hj (Nat.not_lt_zero j)⟩)
  unfold taken
  rw [h8, nI_clamp (by omega)]
  rwa [Nat.zero_add] at h
