/-! WHAT A ROW KEEPS; waiting, coming, turning, costing -/
theorem WV_congr {v w : Nat → Int32} (hv : WV v) (h : ∀ j, j < 7 ∨ j = 8 ∨ j = 10 ∨ (∃ i, i < 8 ∧ (j = 71 + 8 * i ∨ j = 71 + 8 * i + 3 ∨ j = 71 + 8 * i + 4)) → w j = v j) : WV w := by
  obtain ⟨hS, hN, hE, hL⟩ := hv
  refine ⟨?_, ?_, ?_, fun i hi => ?_⟩
  · unfold SOK
    rw [h 0 (by omega), h 1 (by omega), h 2 (by omega), h 3 (by omega), h 4 (by omega), h 5 (by omega), h 6 (by omega)]
    exact hS
  · rw [h 8 (by omega)]; exact hN
  · rw [h 10 (by omega)]; exact hE
  · unfold LOK
    rw [h _ (Or.inr (Or.inr (Or.inr ⟨i, hi, Or.inl rfl⟩))), h _ (Or.inr (Or.inr (Or.inr ⟨i, hi, Or.inr (Or.inl rfl)⟩))), h _ (Or.inr (Or.inr (Or.inr ⟨i, hi, Or.inr (Or.inr rfl)⟩)))]
    exact hL i hi
theorem WV_note {v : Nat → Int32} {w l : Int32} (hv : WV v) : WV (noteV v w l) := by
  obtain ⟨hS, hN, ⟨e, he, h10⟩, hL⟩ := hv
  refine ⟨?_, ?_, ?_, fun i hi => ?_⟩
  · unfold SOK
    rw [noteV_lo (by omega), noteV_lo (by omega), noteV_lo (by omega), noteV_lo (by omega), noteV_lo (by omega), noteV_lo (by omega), noteV_lo (by omega)]
    exact hS
  · rw [noteV_lo (by omega)]; exact hN
  · have e1 : noteV v w l 10 = if 20 ≤ v 10 then v 10 else v 10 + 1 := rfl
    rw [e1, h10]
    by_cases c : (20 : Int32) ≤ nI e
    · rw [if_pos c]; exact ⟨e, he, rfl⟩
    · rw [if_neg c]
      have c2 : ¬ nI 20 ≤ nI e := c
      rw [nI_leI (by omega) (by omega)] at c2
      exact ⟨e + 1, by omega, nI_1 e⟩
  · unfold LOK
    rw [noteV_hi (by omega), noteV_hi (by omega), noteV_hi (by omega)]
    exact hL i hi
theorem WV_up {v : Nat → Int32} {j : Nat} {a : Int32} (hv : WV v) (hj : j = 7 ∨ j = 9 ∨ 71 ≤ j) (h0 : ∀ i, j = 71 + 8 * i → bz a) (h3 : ∀ i, j = 71 + 8 * i + 3 → bz a) (h4 : ∀ i, j = 71 + 8 * i + 4 → 0 ≤ a ∧ a ≤ 998) : WV (upd v j a) := by
  obtain ⟨hS, hN, hE, hL⟩ := hv
  refine ⟨?_, ?_, ?_, fun i hi => ?_⟩
  · unfold SOK
    rw [upd_n (by omega), upd_n (by omega), upd_n (by omega), upd_n (by omega), upd_n (by omega), upd_n (by omega), upd_n (by omega)]
    exact hS
  · rw [upd_n (by omega)]; exact hN
  · rw [upd_n (by omega)]; exact hE
  · obtain ⟨l0, l3, l4⟩ := hL i hi
    refine ⟨?_, ?_, ?_⟩
    · by_cases c : 71 + 8 * i = j
      · rw [c, upd_s]; exact h0 i c.symm
      · rw [upd_n c]; exact l0
    · by_cases c : 71 + 8 * i + 3 = j
      · rw [c, upd_s]; exact h3 i c.symm
      · rw [upd_n c]; exact l3
    · by_cases c : 71 + 8 * i + 4 = j
      · rw [c, upd_s]; exact h4 i c.symm
      · rw [upd_n c]; exact l4
theorem WV_up8 {v : Nat → Int32} {c : Nat} (hv : WV v) (hc : c ≤ 8) : WV (upd v 8 (nI c)) := by
  obtain ⟨hS, hN, hE, hL⟩ := hv
  refine ⟨?_, ⟨c, hc, upd_s _ _ _⟩, ?_, fun i hi => ?_⟩
  · unfold SOK
    rw [upd_n (by omega), upd_n (by omega), upd_n (by omega), upd_n (by omega), upd_n (by omega), upd_n (by omega), upd_n (by omega)]
    exact hS
  · rw [upd_n (by omega)]; exact hE
  · unfold LOK
    rw [upd_n (by omega), upd_n (by omega), upd_n (by omega)]
    exact hL i hi
theorem WV_sw {v w : Nat → Int32} (hw : WV w) : WV (swV v w) := WV_up hw (by omega) (fun i h => by omega) (fun i h => by omega) (fun i h => by omega)
theorem pm_fr {h b l f s sh fr : Int32} (hl : l ≤ 999) (h0 : 0 ≤ fr) (h1 : fr ≤ 998) : 0 ≤ (pm h b l f s sh fr).2.2.2.1 ∧ (pm h b l f s sh fr).2.2.2.1 ≤ 998 := by
  obtain ⟨k, hk, rfl⟩ := nI_of2 (x := fr) (M := 998) (n := 998) (by decide) (by rw [Int32.not_lt]; exact h0) h1
  unfold pm
  simp only []
  by_cases c1 : sh = 0
  · rw [if_pos c1]; exact ⟨h0, h1⟩
  · rw [if_neg c1]
    by_cases c2 : (if s + 1 < h then f else f / 2) < b
    · rw [if_pos c2]; exact ⟨(by decide : (0 : Int32) ≤ 0), (by decide : (0 : Int32) ≤ 998)⟩
    · rw [if_neg c2]
      by_cases c3 : l ≤ nI k + 1
      · rw [if_pos c3]; exact ⟨(by decide : (0 : Int32) ≤ 0), (by decide : (0 : Int32) ≤ 998)⟩
      · rw [if_neg c3, nI_1]
        refine ⟨nI_pos' (by omega), ?_⟩
        rw [nI_1] at c3
        have c4 : nI (k + 1) < l := Int32.not_le.mp c3
        rw [Int32.lt_iff_toInt_lt, nI_toInt (by omega)] at c4
        rw [Int32.le_iff_toInt_le] at hl ⊢
        rw [nI_toInt (by omega)]
        have e1 : (999 : Int32).toInt = 999 := by decide
        have e2 : (998 : Int32).toInt = 998 := by decide
        omega
theorem WV_mst {v : Nat → Int32} {i : Nat} (hi : i < 8) (hv : WV v) : WV (mst v i) := by
  have hL := hv.2.2.2 i hi
  have hl : v 6 ≤ 999 := hv.1.2.2.2.2.2.2.2
  have hf := pm_fr (h := v 3) (b := v 5) (f := v (71 + 8 * i + 2)) (s := v (71 + 8 * i + 5)) (sh := v (71 + 8 * i + 3)) hl hL.2.2.1 hL.2.2.2
  have hs := pm_sh (h := v 3) (b := v 5) (l := v 6) (f := v (71 + 8 * i + 2)) (s := v (71 + 8 * i + 5)) (fr := v (71 + 8 * i + 4)) hL.2.1
  unfold mst
  refine WV_up (WV_up (WV_up (WV_up hv (by omega) ?_ ?_ ?_) (by omega) ?_ ?_ ?_) (by omega) ?_ ?_ ?_) (by omega) ?_ ?_ ?_
  all_goals first | (intro k hk; omega) | (intro k hk; exact hs) | (intro k hk; exact hf)
theorem WV_mnx {v : Nat → Int32} {i : Nat} (hi : i < 8) (hv : WV v) : WV (mnx v i) := by
  unfold mnx
  by_cases c : (pmV v i).2.2.2.2 = 0
  · rw [if_pos c]; exact WV_mst hi hv
  · rw [if_neg c]; exact WV_note (WV_mst hi hv)
theorem WV_mloop : ∀ (n i : Nat) (k : Int32) (v : Nat → Int32), i + n ≤ 8 → WV v → WV (mloop n i k v).1 := by
  intro n
  induction n with
  | zero => intro i k v _ hv; exact hv
  | succ n ih =>
    intro i k v hi hv
    rw [mloop]
    exact ih _ _ _ (by omega) (WV_mnx (by omega) hv)
theorem WV_min {v : Nat → Int32} (hv : WV v) : WV (minV v).1 := by
  unfold minV
  have h1 : WV (upd v 7 (v 7 + 1)) := WV_up hv (by omega) (fun i h => by omega) (fun i h => by omega) (fun i h => by omega)
  obtain ⟨c, hc, h8⟩ := hv.2.1
  refine WV_sw (WV_mloop _ _ _ _ ?_ h1)
  rw [h8, nI_clamp (by omega)]; omega
def wloop : Nat → Int32 → (Nat → Int32) → (Nat → Int32) × Int32
  | 0, k, v => (v, k)
  | n + 1, k, v => wloop n (k + (minV v).2) (minV v).1
theorem WV_wloop : ∀ (n : Nat) (k : Int32) (v : Nat → Int32), WV v → WV (wloop n k v).1 := by
  intro n
  induction n with
  | zero => intro k v hv; exact hv
  | succ n ih => intro k v hv; rw [wloop]; exact ih _ _ (WV_min hv)
theorem pu_wait {y : mm_M} {a : Nat} (ha : a ≤ 999) : ∀ (n j fuel : Nat) (k : Int32) (u v : Nat → Int32), j + n = a → n < fuel → WV v →
    ∃ u' : Nat → Int32, (∀ j, j < 10 → u' j = u j) ∧ fn_X5_waits_36 fuel (nI a) k (nI j) (cs (cs y 157 u) 158 v) = some (cs (cs y 157 u') 158 (wloop n k v).1, (wloop n k v).2) := by
  intro n
  induction n with
  | zero =>
    intro j fuel k u v hj hf _
    obtain ⟨m, rfl⟩ : ∃ m, fuel = m + 1 := ⟨fuel - 1, by omega⟩
    refine ⟨u, fun _ _ => rfl, ?_⟩
    rw [fn_X5_waits_36, if_pos (nI_le (by omega) (by omega))]
    rfl
  | succ n ih =>
    intro j fuel k u v hj hf hv
    obtain ⟨m, rfl⟩ : ∃ m, fuel = m + 1 := ⟨fuel - 1, by omega⟩
    obtain ⟨u1, hu1, h1⟩ := pu_minute (y := y) (u := u) hv
    obtain ⟨u2, hu2, h2⟩ := ih (j + 1) m (k + (minV v).2) u1 (minV v).1 (by omega) (by omega) (WV_min hv)
    refine ⟨u2, fun j hj => (hu2 j hj).trans (hu1 j hj), ?_⟩
    rw [fn_X5_waits_36, if_neg (nI_ge (by omega) (by omega)), h1]
    simp only [mm_b2_some, Option.bind_some, nI_1]
    rw [h2]
    rfl
def waitV (v : Nat → Int32) (a : Int32) : (Nat → Int32) × Int32 := if 1 ≤ a ∧ a ≤ 999 then (if v 7 + a ≤ 99999 then wloop a.toNatClampNeg 0 v else (v, -5)) else (v, -2)
theorem pu_waits {y : mm_M} {u v : Nat → Int32} (hv : WV v) (a : Int32) : ∃ u' : Nat → Int32, (∀ j, j < 10 → u' j = u j) ∧ fn_X5_waits a (cs (cs y 157 u) 158 v) = some (cs (cs y 157 u') 158 (waitV v a).1, (waitV v a).2) := by
  unfold fn_X5_waits waitV
  rw [pu_in]
  simp only [Option.bind_some, cs_k]
  by_cases c1 : 1 ≤ a ∧ a ≤ 999
  · have h10 : ¬ ((1 : Int32) = 0) := by decide
    simp only [c1, and_self, if_true, h10, if_false]
    by_cases c2 : v 7 + a ≤ 99999
    · simp only [c2, if_true]
      obtain ⟨k, hk, rfl⟩ := nI_of2 (x := a) (M := 999) (n := 999) (by decide) (by
        have := c1.1
        rw [Int32.le_iff_toInt_le] at this
        rw [Int32.lt_iff_toInt_lt]
        have e1 : (1 : Int32).toInt = 1 := by decide
        have e0 : (0 : Int32).toInt = 0 := by decide
        omega) c1.2
      obtain ⟨u', hu', h⟩ := pu_wait (y := y) hk k 0 1000 0 u v (by omega) (by omega) hv
      refine ⟨u', hu', ?_⟩
      rw [nI_0] at h
      rw [h, nI_clamp (by omega)]
      rfl
    · simp only [c2, if_false]
      exact ⟨u, fun _ _ => rfl, rfl⟩
  · simp only [c1, if_false, if_true]
    exact ⟨u, fun _ _ => rfl, rfl⟩
theorem WV_wait {v : Nat → Int32} {a : Int32} (hv : WV v) : WV (waitV v a).1 := by
  unfold waitV
  by_cases c1 : 1 ≤ a ∧ a ≤ 999
  · rw [if_pos c1]
    by_cases c2 : v 7 + a ≤ 99999
    · rw [if_pos c2]; exact WV_wloop _ _ _ hv
    · rw [if_neg c2]; exact hv
  · rw [if_neg c1]; exact hv
theorem WV_sh {v : Nat → Int32} {i : Nat} (hv : WV v) : WV (shV v i) := by
  unfold shV
  refine WV_note (WV_up (WV_up (WV_up hv (by omega) ?_ ?_ ?_) (by omega) ?_ ?_ ?_) (by omega) ?_ ?_ ?_)
  all_goals first | (intro k hk; omega) | (intro k hk; exact Or.inr rfl) | (intro k hk; exact ⟨by decide, by decide⟩)
theorem WV_ch {v : Nat → Int32} {i what sort : Nat} {a : Int32} (hv : WV v) (hw : what = 0 ∧ bz a ∨ what = 1) : WV (chV v i what a sort).1 := by
  unfold chV
  refine WV_sw ?_
  have h1 : WV (ch1 v i what a sort) := by
    unfold ch1
    refine WV_note (WV_up (WV_up (WV_up hv (by omega) ?_ ?_ ?_) (by omega) ?_ ?_ ?_) (by omega) ?_ ?_ ?_)
    all_goals first | (intro k hk; omega) | (intro k hk; rcases hw with ⟨_, h⟩ | h; exact h; omega)
  generalize ch1 v i what a sort = w at h1
  unfold ch2
  by_cases c1 : w (71 + 8 * i + 2) ≤ w 4
  · rw [if_pos c1]; exact h1
  · rw [if_neg c1]
    by_cases c2 : w (71 + 8 * i + 3) = 0
    · rw [if_pos c2]; exact WV_sh h1
    · rw [if_neg c2]; exact h1
def turnV (v : Nat → Int32) (a o : Int32) : (Nat → Int32) × Int32 := if 0 ≤ a ∧ a < v 8 then (if v (71 + 8 * a.toNatClampNeg) = o then (v, -5) else chV v a.toNatClampNeg 0 o (if o = 1 then 1 else 0)) else (v, -1)
def costV (v : Nat → Int32) (a p : Int32) : (Nat → Int32) × Int32 := if 0 ≤ a ∧ a < v 8 then (if 0 ≤ p ∧ p ≤ 999 then (if v (71 + 8 * a.toNatClampNeg + 1) = p then (v, -5) else chV v a.toNatClampNeg 1 p 2) else (v, -2)) else (v, -1)
theorem pu_le_pred {a : Int32} {c : Nat} (hc : c ≤ 8) : a ≤ nI c - 1 ↔ a < nI c := by
  have e : (nI c - 1).toInt = (c : Int) - 1 := by
    have key : ∀ c, c ≤ 8 → (nI c - 1).toInt = (c : Int) - 1 := by decide
    exact key c hc
  rw [Int32.le_iff_toInt_le, Int32.lt_iff_toInt_lt, e, nI_toInt (by omega)]
  omega
theorem pu_isL {x : mm_M} {v : Nat → Int32} {c : Nat} (hc : c ≤ 8) (h8 : v 8 = nI c) (a : Int32) : fn_X5_isLanding a (cs x 158 v) = some (if 0 ≤ a ∧ a < v 8 then 1 else 0) := by
  unfold fn_X5_isLanding
  rw [pu_in]
  simp only [Option.bind_some, cs_k, h8, pu_le_pred hc]
  by_cases h : 0 ≤ a ∧ a < nI c
  · simp only [h, and_self, if_true]; rfl
  · simp only [h, if_false]; rfl
theorem pu_inL {a : Int32} {c : Nat} (hc : c ≤ 8) (h : 0 ≤ a ∧ a < nI c) : ∃ i, i < c ∧ a = nI i := by
  obtain ⟨j, hj, rfl⟩ := nI_of (x := a) (by rw [Int32.not_lt]; exact h.1)
  rw [nI_ltI (by omega) (by omega)] at h
  exact ⟨j, h.2, rfl⟩
theorem pu_turns {x : mm_M} {v : Nat → Int32} (hv : WV v) (a : Int32) {o : Int32} (ho : bz o) : fn_X5_turns a o (cs x 158 v) = some (cs x 158 (turnV v a o).1, (turnV v a o).2) := by
  obtain ⟨c, hc, h8⟩ := hv.2.1
  unfold fn_X5_turns turnV
  rw [pu_isL hc h8]
  simp only [Option.bind_some]
  by_cases h : 0 ≤ a ∧ a < v 8
  · simp only [h, and_self, if_true]
    rw [h8] at h
    obtain ⟨i, hi, rfl⟩ := pu_inL hc h
    have h10 : ¬ ((1 : Int32) = 0) := by decide
    simp only [h10, if_false, its0 (show i < 8 by omega), Option.bind_some, nI_clamp (show i < 2 ^ 31 by omega)]
    by_cases c2 : v (71 + 8 * i) = o
    · simp only [c2, if_true]
    · simp only [c2, if_false]
      rcases ho with rfl | rfl
      · have h01 : ¬ ((0 : Int32) = 1) := by decide
        simp only [h01, if_false]
        have := pu_change (x := x) (what := 0) (sort := 0) (value := 0) hc h8 (show i < 8 by omega) (by omega) (by omega)
        rw [nI_0] at this
        rw [this]; rfl
      · simp only [if_true]
        have := pu_change (x := x) (what := 0) (sort := 1) (value := 1) hc h8 (show i < 8 by omega) (by omega) (by omega)
        rw [nI_0] at this
        have e1 : nI 1 = 1 := by decide
        rw [e1] at this
        rw [this]; rfl
  · simp only [h, if_false, if_true]
theorem pu_costs {x : mm_M} {v : Nat → Int32} (hv : WV v) (a p : Int32) : fn_X5_costs a p (cs x 158 v) = some (cs x 158 (costV v a p).1, (costV v a p).2) := by
  obtain ⟨c, hc, h8⟩ := hv.2.1
  unfold fn_X5_costs costV
  rw [pu_isL hc h8]
  simp only [Option.bind_some, pu_in]
  by_cases h : 0 ≤ a ∧ a < v 8
  · have h10 : ¬ ((1 : Int32) = 0) := by decide
    simp only [h, and_self, if_true, h10, if_false]
    rw [h8] at h
    obtain ⟨i, hi, rfl⟩ := pu_inL hc h
    by_cases hp : 0 ≤ p ∧ p ≤ 999
    · simp only [hp, and_self, if_true, h10, if_false, its1 (show i < 8 by omega), Option.bind_some, nI_clamp (show i < 2 ^ 31 by omega)]
      by_cases c2 : v (71 + 8 * i + 1) = p
      · simp only [c2, if_true]
      · simp only [c2, if_false]
        have := pu_change (x := x) (what := 1) (sort := 2) (value := p) hc h8 (show i < 8 by omega) (by omega) (by omega)
        have e1 : nI 1 = 1 := by decide
        have e2 : nI 2 = 2 := by decide
        rw [e1, e2] at this
        rw [this]; rfl
    · simp only [hp, if_false, if_true]
  · simp only [h, if_false, if_true]
theorem WV_turn {v : Nat → Int32} {a o : Int32} (hv : WV v) (ho : bz o) : WV (turnV v a o).1 := by
  unfold turnV
  by_cases c1 : 0 ≤ a ∧ a < v 8
  · rw [if_pos c1]
    by_cases c2 : v (71 + 8 * a.toNatClampNeg) = o
    · rw [if_pos c2]; exact hv
    · rw [if_neg c2]; exact WV_ch hv (Or.inl ⟨rfl, ho⟩)
  · rw [if_neg c1]; exact hv
theorem WV_cost {v : Nat → Int32} {a p : Int32} (hv : WV v) : WV (costV v a p).1 := by
  unfold costV
  by_cases c1 : 0 ≤ a ∧ a < v 8
  · rw [if_pos c1]
    by_cases c2 : 0 ≤ p ∧ p ≤ 999
    · rw [if_pos c2]
      by_cases c3 : v (71 + 8 * a.toNatClampNeg + 1) = p
      · rw [if_pos c3]; exact hv
      · rw [if_neg c3]; exact WV_ch hv (Or.inr rfl)
    · rw [if_neg c2]; exact hv
  · rw [if_neg c1]; exact hv
