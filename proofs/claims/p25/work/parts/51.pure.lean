/-! THE REFERENCE'S MINUTES, COMINGS, CHANGES, by its row v and its own numbers u -/
def bz (a : Int32) : Prop := a = 0 ∨ a = 1
def LOK (v : Nat → Int32) (i : Nat) : Prop := bz (v (71 + 8 * i)) ∧ bz (v (71 + 8 * i + 3)) ∧ 0 ≤ v (71 + 8 * i + 4) ∧ v (71 + 8 * i + 4) ≤ 998
def SOK (v : Nat → Int32) : Prop := (0 ≤ v 0 ∧ v 0 ≤ 9999) ∧ (0 ≤ v 1 ∧ v 1 ≤ 9999) ∧ (0 ≤ v 2 ∧ v 2 ≤ 9999) ∧ (1 ≤ v 3 ∧ v 3 ≤ 99) ∧ (1 ≤ v 4 ∧ v 4 ≤ 99999) ∧ (1 ≤ v 5 ∧ v 5 ≤ 99999) ∧ (1 ≤ v 6 ∧ v 6 ≤ 999)
def WV (v : Nat → Int32) : Prop := SOK v ∧ (∃ c, c ≤ 8 ∧ v 8 = nI c) ∧ (∃ e, e ≤ 20 ∧ v 10 = nI e) ∧ ∀ i, i < 8 → LOK v i
/-- a minute of one landing in the row -/
def pmV (v : Nat → Int32) (i : Nat) : Int32 × Int32 × Int32 × Int32 × Int32 := pm (v 3) (v 5) (v 6) (v (71 + 8 * i + 2)) (v (71 + 8 * i + 5)) (v (71 + 8 * i + 3)) (v (71 + 8 * i + 4))
def mst (v : Nat → Int32) (i : Nat) : Nat → Int32 := upd (upd (upd (upd v (71 + 8 * i + 2) (pmV v i).1) (71 + 8 * i + 5) (pmV v i).2.1) (71 + 8 * i + 3) (pmV v i).2.2.1) (71 + 8 * i + 4) (pmV v i).2.2.2.1
def mnx (v : Nat → Int32) (i : Nat) : Nat → Int32 := if (pmV v i).2.2.2.2 = 0 then mst v i else noteV (mst v i) 4 (nI i)
def mloop : Nat → Nat → Int32 → (Nat → Int32) → (Nat → Int32) × Int32
  | 0, _, k, v => (v, k)
  | n + 1, i, k, v => mloop n (i + 1) (if (pmV v i).2.2.2.2 = 0 then k else k + 1) (mnx v i)
theorem pm_sh {h b l f s sh fr : Int32} (hb : bz sh) : bz (pm h b l f s sh fr).2.2.1 := by
  unfold pm
  simp only []
  (repeat' split) <;> first | exact hb | exact Or.inl rfl
theorem mst_ne {v : Nat → Int32} {i j : Nat} (h : j < 71 + 8 * i + 2 ∨ 71 + 8 * i + 5 < j) : mst v i j = v j := by
  unfold mst
  rw [upd_n (by omega), upd_n (by omega), upd_n (by omega), upd_n (by omega)]
theorem mnx_ne {v : Nat → Int32} {i j : Nat} (h : j < 10 ∨ (70 < j ∧ j < 71 + 8 * i + 2) ∨ 71 + 8 * i + 5 < j) : mnx v i j = v j := by
  unfold mnx
  by_cases c : (pmV v i).2.2.2.2 = 0
  · rw [if_pos c, mst_ne (by omega)]
  · rw [if_neg c]
    rcases h with h | h | h
    · rw [noteV_lo h, mst_ne (by omega)]
    · rw [noteV_hi (by omega), mst_ne (by omega)]
    · rw [noteV_hi (by omega), mst_ne (by omega)]
def minV (v : Nat → Int32) : (Nat → Int32) × Int32 :=
  let q := mloop (v 8).toNatClampNeg 0 0 (upd v 7 (v 7 + 1))
  (swV v q.1, q.2)
theorem mloop_lo : ∀ (n i : Nat) (k : Int32) (v : Nat → Int32) (j : Nat), j < 10 → (mloop n i k v).1 j = v j := by
  intro n
  induction n with
  | zero => intro i k v j _; rfl
  | succ n ih =>
    intro i k v j hj
    rw [mloop, ih _ _ _ _ hj, mnx_ne (Or.inl hj)]
/-! WHAT A ROW KEEPS; waiting, coming, turning, costing -/
theorem WV_congr {v w : Nat → Int32} (hv : WV v) (h : ∀ j, j < 7 ∨ j = 8 ∨ j = 10 ∨ (∃ i, i < 8 ∧ (j = 71 + 8 * i ∨ j = 71 + 8 * i + 3 ∨ j = 71 + 8 * i + 4)) → w j = v j) : WV w := by
  obtain ⟨hS, hN, hE, hL⟩ := hv
  refine ⟨?_, ?_, ?_, fun i hi => ?_⟩
  · unfold SOK
    rw [h 0 (by omega), h 1 (by omega), h 2 (by omega), h 3 (by omega), h 4 (by omega), h 5 (by omega), h 6 (by omega)]
    exact hS
  · rw [h 8 (by omega)]; exact hN
  · rw [h 10 (by omega)]; exact hE
  · unfold LOK
    rw [h _ (Or.inr (Or.inr (Or.inr ⟨i, hi, Or.inl rfl⟩))), h _ (Or.inr (Or.inr (Or.inr ⟨i, hi, Or.inr (Or.inl rfl)⟩))), h _ (Or.inr (Or.inr (Or.inr ⟨i, hi, Or.inr (Or.inr rfl)⟩)))]
    exact hL i hi
theorem WV_note {v : Nat → Int32} {w l : Int32} (hv : WV v) : WV (noteV v w l) := by
  obtain ⟨hS, hN, ⟨e, he, h10⟩, hL⟩ := hv
  refine ⟨?_, ?_, ?_, fun i hi => ?_⟩
  · unfold SOK
    rw [noteV_lo (by omega), noteV_lo (by omega), noteV_lo (by omega), noteV_lo (by omega), noteV_lo (by omega), noteV_lo (by omega), noteV_lo (by omega)]
    exact hS
  · rw [noteV_lo (by omega)]; exact hN
  · have e1 : noteV v w l 10 = if 20 ≤ v 10 then v 10 else v 10 + 1 := rfl
    rw [e1, h10]
    by_cases c : (20 : Int32) ≤ nI e
    · rw [if_pos c]; exact ⟨e, he, rfl⟩
    · rw [if_neg c]
      have c2 : ¬ nI 20 ≤ nI e := c
      rw [nI_leI (by omega) (by omega)] at c2
      exact ⟨e + 1, by omega, nI_1 e⟩
  · unfold LOK
    rw [noteV_hi (by omega), noteV_hi (by omega), noteV_hi (by omega)]
    exact hL i hi
theorem WV_up {v : Nat → Int32} {j : Nat} {a : Int32} (hv : WV v) (hj : j = 7 ∨ j = 9 ∨ 71 ≤ j) (h0 : ∀ i, j = 71 + 8 * i → bz a) (h3 : ∀ i, j = 71 + 8 * i + 3 → bz a) (h4 : ∀ i, j = 71 + 8 * i + 4 → 0 ≤ a ∧ a ≤ 998) : WV (upd v j a) := by
  obtain ⟨hS, hN, hE, hL⟩ := hv
  refine ⟨?_, ?_, ?_, fun i hi => ?_⟩
  · unfold SOK
    rw [upd_n (by omega), upd_n (by omega), upd_n (by omega), upd_n (by omega), upd_n (by omega), upd_n (by omega), upd_n (by omega)]
    exact hS
  · rw [upd_n (by omega)]; exact hN
  · rw [upd_n (by omega)]; exact hE
  · obtain ⟨l0, l3, l4⟩ := hL i hi
    refine ⟨?_, ?_, ?_⟩
    · by_cases c : 71 + 8 * i = j
      · rw [c, upd_s]; exact h0 i c.symm
      · rw [upd_n c]; exact l0
    · by_cases c : 71 + 8 * i + 3 = j
      · rw [c, upd_s]; exact h3 i c.symm
      · rw [upd_n c]; exact l3
    · by_cases c : 71 + 8 * i + 4 = j
      · rw [c, upd_s]; exact h4 i c.symm
      · rw [upd_n c]; exact l4
theorem WV_up8 {v : Nat → Int32} {c : Nat} (hv : WV v) (hc : c ≤ 8) : WV (upd v 8 (nI c)) := by
  obtain ⟨hS, hN, hE, hL⟩ := hv
  refine ⟨?_, ⟨c, hc, upd_s _ _ _⟩, ?_, fun i hi => ?_⟩
  · unfold SOK
    rw [upd_n (by omega), upd_n (by omega), upd_n (by omega), upd_n (by omega), upd_n (by omega), upd_n (by omega), upd_n (by omega)]
    exact hS
  · rw [upd_n (by omega)]; exact hE
  · unfold LOK
    rw [upd_n (by omega), upd_n (by omega), upd_n (by omega)]
    exact hL i hi
theorem WV_sw {v w : Nat → Int32} (hw : WV w) : WV (swV v w) := WV_up hw (by omega) (fun i h => by omega) (fun i h => by omega) (fun i h => by omega)
theorem pm_fr {h b l f s sh fr : Int32} (hl : l ≤ 999) (h0 : 0 ≤ fr) (h1 : fr ≤ 998) : 0 ≤ (pm h b l f s sh fr).2.2.2.1 ∧ (pm h b l f s sh fr).2.2.2.1 ≤ 998 := by
  obtain ⟨k, hk, rfl⟩ := nI_of2 (x := fr) (M := 998) (n := 998) (by decide) (by rw [Int32.not_lt]; exact h0) h1
  unfold pm
  simp only []
  by_cases c1 : sh = 0
  · rw [if_pos c1]; exact ⟨h0, h1⟩
  · rw [if_neg c1]
    by_cases c2 : (if s + 1 < h then f else f / 2) < b
    · rw [if_pos c2]; exact ⟨(by decide : (0 : Int32) ≤ 0), (by decide : (0 : Int32) ≤ 998)⟩
    · rw [if_neg c2]
      by_cases c3 : l ≤ nI k + 1
      · rw [if_pos c3]; exact ⟨(by decide : (0 : Int32) ≤ 0), (by decide : (0 : Int32) ≤ 998)⟩
      · rw [if_neg c3, nI_1]
        refine ⟨nI_pos' (by omega), ?_⟩
        rw [nI_1] at c3
        have c4 : nI (k + 1) < l := Int32.not_le.mp c3
        rw [Int32.lt_iff_toInt_lt, nI_toInt (by omega)] at c4
        rw [Int32.le_iff_toInt_le] at hl ⊢
        rw [nI_toInt (by omega)]
        have e1 : (999 : Int32).toInt = 999 := by decide
        have e2 : (998 : Int32).toInt = 998 := by decide
        omega
theorem WV_mst {v : Nat → Int32} {i : Nat} (hi : i < 8) (hv : WV v) : WV (mst v i) := by
  have hL := hv.2.2.2 i hi
  have hl : v 6 ≤ 999 := hv.1.2.2.2.2.2.2.2
  have hf := pm_fr (h := v 3) (b := v 5) (f := v (71 + 8 * i + 2)) (s := v (71 + 8 * i + 5)) (sh := v (71 + 8 * i + 3)) hl hL.2.2.1 hL.2.2.2
  have hs := pm_sh (h := v 3) (b := v 5) (l := v 6) (f := v (71 + 8 * i + 2)) (s := v (71 + 8 * i + 5)) (fr := v (71 + 8 * i + 4)) hL.2.1
  unfold mst
  refine WV_up (WV_up (WV_up (WV_up hv (by omega) ?_ ?_ ?_) (by omega) ?_ ?_ ?_) (by omega) ?_ ?_ ?_) (by omega) ?_ ?_ ?_
  all_goals first | (intro k hk; omega) | (intro k hk; exact hs) | (intro k hk; exact hf)
theorem WV_mnx {v : Nat → Int32} {i : Nat} (hi : i < 8) (hv : WV v) : WV (mnx v i) := by
  unfold mnx
  by_cases c : (pmV v i).2.2.2.2 = 0
  · rw [if_pos c]; exact WV_mst hi hv
  · rw [if_neg c]; exact WV_note (WV_mst hi hv)
theorem WV_mloop : ∀ (n i : Nat) (k : Int32) (v : Nat → Int32), i + n ≤ 8 → WV v → WV (mloop n i k v).1 := by
  intro n
  induction n with
  | zero => intro i k v _ hv; exact hv
  | succ n ih =>
    intro i k v hi hv
    rw [mloop]
    exact ih _ _ _ (by omega) (WV_mnx (by omega) hv)
theorem WV_min {v : Nat → Int32} (hv : WV v) : WV (minV v).1 := by
  unfold minV
  have h1 : WV (upd v 7 (v 7 + 1)) := WV_up hv (by omega) (fun i h => by omega) (fun i h => by omega) (fun i h => by omega)
  obtain ⟨c, hc, h8⟩ := hv.2.1
  refine WV_sw (WV_mloop _ _ _ _ ?_ h1)
  rw [h8, nI_clamp (by omega)]; omega
def wloop : Nat → Int32 → (Nat → Int32) → (Nat → Int32) × Int32
  | 0, k, v => (v, k)
  | n + 1, k, v => wloop n (k + (minV v).2) (minV v).1
theorem WV_wloop : ∀ (n : Nat) (k : Int32) (v : Nat → Int32), WV v → WV (wloop n k v).1 := by
  intro n
  induction n with
  | zero => intro k v hv; exact hv
  | succ n ih => intro k v hv; rw [wloop]; exact ih _ _ (WV_min hv)
def waitV (v : Nat → Int32) (a : Int32) : (Nat → Int32) × Int32 := if 1 ≤ a ∧ a ≤ 999 then (if v 7 + a ≤ 99999 then wloop a.toNatClampNeg 0 v else (v, -5)) else (v, -2)
theorem WV_wait {v : Nat → Int32} {a : Int32} (hv : WV v) : WV (waitV v a).1 := by
  unfold waitV
  by_cases c1 : 1 ≤ a ∧ a ≤ 999
  · rw [if_pos c1]
    by_cases c2 : v 7 + a ≤ 99999
    · rw [if_pos c2]; exact WV_wloop _ _ _ hv
    · rw [if_neg c2]; exact hv
  · rw [if_neg c1]; exact hv
theorem WV_sh {v : Nat → Int32} {i : Nat} (hv : WV v) : WV (shV v i) := by
  unfold shV
  refine WV_note (WV_up (WV_up (WV_up hv (by omega) ?_ ?_ ?_) (by omega) ?_ ?_ ?_) (by omega) ?_ ?_ ?_)
  all_goals first | (intro k hk; omega) | (intro k hk; exact Or.inr rfl) | (intro k hk; exact ⟨by decide, by decide⟩)
theorem WV_ch {v : Nat → Int32} {i what sort : Nat} {a : Int32} (hv : WV v) (hw : what = 0 ∧ bz a ∨ what = 1) : WV (chV v i what a sort).1 := by
  unfold chV
  refine WV_sw ?_
  have h1 : WV (ch1 v i what a sort) := by
    unfold ch1
    refine WV_note (WV_up (WV_up (WV_up hv (by omega) ?_ ?_ ?_) (by omega) ?_ ?_ ?_) (by omega) ?_ ?_ ?_)
    all_goals first | (intro k hk; omega) | (intro k hk; rcases hw with ⟨_, h⟩ | h; exact h; omega)
  generalize ch1 v i what a sort = w at h1
  unfold ch2
  by_cases c1 : w (71 + 8 * i + 2) ≤ w 4
  · rw [if_pos c1]; exact h1
  · rw [if_neg c1]
    by_cases c2 : w (71 + 8 * i + 3) = 0
    · rw [if_pos c2]; exact WV_sh h1
    · rw [if_neg c2]; exact h1
def turnV (v : Nat → Int32) (a o : Int32) : (Nat → Int32) × Int32 := if 0 ≤ a ∧ a < v 8 then (if v (71 + 8 * a.toNatClampNeg) = o then (v, -5) else chV v a.toNatClampNeg 0 o (if o = 1 then 1 else 0)) else (v, -1)
def costV (v : Nat → Int32) (a p : Int32) : (Nat → Int32) × Int32 := if 0 ≤ a ∧ a < v 8 then (if 0 ≤ p ∧ p ≤ 999 then (if v (71 + 8 * a.toNatClampNeg + 1) = p then (v, -5) else chV v a.toNatClampNeg 1 p 2) else (v, -2)) else (v, -1)
theorem pu_le_pred {a : Int32} {c : Nat} (hc : c ≤ 8) : a ≤ nI c - 1 ↔ a < nI c := by
  have e : (nI c - 1).toInt = (c : Int) - 1 := by
    have key : ∀ c, c ≤ 8 → (nI c - 1).toInt = (c : Int) - 1 := by decide
    exact key c hc
  rw [Int32.le_iff_toInt_le, Int32.lt_iff_toInt_lt, e, nI_toInt (by omega)]
  omega
theorem pu_inL {a : Int32} {c : Nat} (hc : c ≤ 8) (h : 0 ≤ a ∧ a < nI c) : ∃ i, i < c ∧ a = nI i := by
  obtain ⟨j, hj, rfl⟩ := nI_of (x := a) (by rw [Int32.not_lt]; exact h.1)
  rw [nI_ltI (by omega) (by omega)] at h
  exact ⟨j, h.2, rfl⟩
theorem WV_turn {v : Nat → Int32} {a o : Int32} (hv : WV v) (ho : bz o) : WV (turnV v a o).1 := by
  unfold turnV
  by_cases c1 : 0 ≤ a ∧ a < v 8
  · rw [if_pos c1]
    by_cases c2 : v (71 + 8 * a.toNatClampNeg) = o
    · rw [if_pos c2]; exact hv
    · rw [if_neg c2]; exact WV_ch hv (Or.inl ⟨rfl, ho⟩)
  · rw [if_neg c1]; exact hv
theorem WV_cost {v : Nat → Int32} {a p : Int32} (hv : WV v) : WV (costV v a p).1 := by
  unfold costV
  by_cases c1 : 0 ≤ a ∧ a < v 8
  · rw [if_pos c1]
    by_cases c2 : 0 ≤ p ∧ p ≤ 999
    · rw [if_pos c2]
      by_cases c3 : v (71 + 8 * a.toNatClampNeg + 1) = p
      · rw [if_pos c3]; exact hv
      · rw [if_neg c3]; exact WV_ch hv (Or.inr rfl)
    · rw [if_neg c2]; exact hv
  · rw [if_neg c1]; exact hv

/-! THE REFERENCE'S COMING, ITS HISTORY AND SLOTS, ITS SETTINGS -/
def itm (c : Nat) (p : Int32) (j : Nat) : Int32 := if j = 71 + 8 * c then 1 else if j = 71 + 8 * c + 1 then p else 0
theorem itm_at (c : Nat) (p : Int32) (i : Nat) : itm c p (71 + 8 * c + i) = if i = 0 then 1 else if i = 1 then p else 0 := by
  unfold itm
  by_cases z0 : i = 0
  · subst z0; rw [if_pos (show 71 + 8 * c + 0 = 71 + 8 * c by omega), if_pos rfl]
  · rw [if_neg (show ¬ 71 + 8 * c + i = 71 + 8 * c by omega), if_neg z0]
    by_cases z1 : i = 1
    · subst z1; rw [if_pos rfl, if_pos rfl]
    · rw [if_neg (show ¬ 71 + 8 * c + i = 71 + 8 * c + 1 by omega), if_neg z1]
def newV (v : Nat → Int32) (c i : Nat) (p : Int32) : Nat → Int32 := fun j => if 71 + 8 * c + i ≤ j ∧ j < 71 + 8 * c + 8 then itm c p j else v j
theorem newV_lo {v : Nat → Int32} {c i j : Nat} {p : Int32} (h : j < 71 + 8 * c ∨ 71 + 8 * c + 7 < j) : newV v c i p j = v j := by
  unfold newV; rw [if_neg (by omega)]
def comV (v : Nat → Int32) (p : Int32) : (Nat → Int32) × Int32 := if 0 ≤ p ∧ p ≤ 999 then (if v 8 = 8 then (v, -4) else (swV v (upd (newV v (v 8).toNatClampNeg 0 p) 8 (v 8 + 1)), v 8)) else (v, -2)
theorem WV_com {v : Nat → Int32} {p : Int32} (hv : WV v) : WV (comV v p).1 := by
  unfold comV
  by_cases c1 : 0 ≤ p ∧ p ≤ 999
  · rw [if_pos c1]
    by_cases c2 : v 8 = 8
    · rw [if_pos c2]; exact hv
    · rw [if_neg c2]
      obtain ⟨c, hc, h8⟩ := hv.2.1
      have hlt : c < 8 := by
        rcases Nat.lt_or_ge c 8 with q | q
        · exact q
        · exact absurd (show v 8 = 8 by rw [h8, show c = 8 by omega]; decide) c2
      have h1 : WV (newV v c 0 p) := by
        obtain ⟨hS, hN, hE, hL⟩ := hv
        refine ⟨?_, ?_, ?_, fun i hi => ?_⟩
        · unfold SOK
          rw [newV_lo (by omega), newV_lo (by omega), newV_lo (by omega), newV_lo (by omega), newV_lo (by omega), newV_lo (by omega), newV_lo (by omega)]
          exact hS
        · rw [newV_lo (by omega)]; exact hN
        · rw [newV_lo (by omega)]; exact hE
        · by_cases hic : i = c
          · subst hic
            unfold LOK newV
            rw [if_pos (by omega), if_pos (by omega), if_pos (by omega), itm_at, itm_at, show itm i p (71 + 8 * i) = 1 from if_pos rfl]
            exact ⟨Or.inr rfl, Or.inl rfl, (by decide : (0 : Int32) ≤ 0), (by decide : (0 : Int32) ≤ 998)⟩
          · unfold LOK
            rw [newV_lo (by omega), newV_lo (by omega), newV_lo (by omega)]
            exact hL i hi
      rw [h8, nI_clamp (by omega), nI_1]
      exact WV_sw (WV_up8 h1 (by omega))
  · rw [if_neg c1]; exact hv
/-! copying -/
