/-! THE CLASS'S CHANGES against the row's -/
theorem noteV_congr {v w : Nat → Int32} {a b : Int32} (h : ∀ j, j ≤ 70 → w j = v j) : ∀ j, j ≤ 70 → noteV w a b j = noteV v a b j := by
  intro j hj
  unfold noteV
  rw [h 10 (by omega), h 7 (by omega)]
  by_cases c : 14 ≤ j ∧ j ≤ 70
  · rw [if_pos c, if_pos c, h (j - 3) (by omega)]
  · rw [if_neg c, if_neg c, h j hj]
theorem swV_ne {v w : Nat → Int32} {j : Nat} (h : j ≠ 9) : swV v w j = w j := upd_n h
theorem taken_sw {v w : Nat → Int32} (hc : ∃ c, c ≤ 8 ∧ w 8 = nI c) : taken (swV v w) = taken w := taken_congr (swV_ne (by omega)) hc (fun k _ => ⟨swV_ne (by omega), swV_ne (by omega), swV_ne (by omega)⟩)
/-- behind all of a change: the landing that is taken is looked up -/
theorem B_end {x : mm_M} {v w : Nat → Int32} (hw : WV w) (hS : SimS x 1 w) (hN : SimN x 1 w) (hJ : SimJ x 1 w) (hL : SimL x 1 w) (h4 : x 1 4 = taken v) (h5 : x 1 5 = w 9) :
    ∃ x', fn_X3_followTaken x = some x' ∧ Sim x' 1 (swV v w) ∧ ∀ a, a ≠ 1 → x' a = x a := by
  obtain ⟨x', e, g4, g5, go, gn⟩ := B_follow hw hL hN.1
  refine ⟨x', e, ⟨?_, ?_, ?_, ?_, ?_⟩, gn⟩
  · intro j hj
    rw [gn 2 (by omega), swV_ne (by omega)]; exact hS j hj
  · exact ⟨by rw [go 2 (by omega) (by omega), swV_ne (by omega)]; exact hN.1, by rw [go 3 (by omega) (by omega), swV_ne (by omega)]; exact hN.2⟩
  · refine ⟨by rw [g4, taken_sw hw.2.1], ?_⟩
    rw [g5, h5, h4]
    exact (upd_s _ _ _).symm
  · exact SimJ_same hJ (fun a h1 _ => gn a (by omega)) (fun j h1 _ => swV_ne (by omega))
  · exact SimL_same hL (fun a h1 _ => gn a (by omega)) (fun j h1 => swV_ne (by omega))
def fnV (v1 : Nat → Int32) (i sort : Nat) : Nat → Int32 := noteV (upd (upd v1 (71 + 8 * i + 2) (heldf (v1 (71 + 8 * i + 2) + v1 sort))) (71 + 8 * i + 6) ((upd v1 (71 + 8 * i + 2) (heldf (v1 (71 + 8 * i + 2) + v1 sort))) (71 + 8 * i + 6) + 1)) (nI sort) (nI i)
theorem ch1_fn (v : Nat → Int32) (i what sort : Nat) (a : Int32) : ch1 v i what a sort = fnV (upd v (71 + 8 * i + what) a) i sort := rfl
theorem WV_fn {v : Nat → Int32} {i sort : Nat} (hv : WV v) : WV (fnV v i sort) := by
  unfold fnV
  refine WV_note (WV_up (WV_up hv (by omega) ?_ ?_ ?_) (by omega) ?_ ?_ ?_)
  all_goals (intro k hk; omega)
theorem B_finish {x : mm_M} {v v1 : Nat → Int32} {i sort : Nat} (hv : WV v1) (hi : i < 8) (hs : sort < 7) (hS : SimS x 1 v1) (hN : SimN x 1 v1) (hJ : SimJ x 1 v1) (hL : SimL x 1 v1) (hx : ∀ j, j < 8 → x (8 + i) j = v1 (71 + 8 * i + j)) (h4 : x 1 4 = taken v) (h5 : x 1 5 = v1 9) (hB : BZ x) :
    ∃ x', fn_X3_finishChange (3 + 5 + i) (nI i) (nI sort) x = some (x', swV v (ch2 (fnV v1 i sort) i) (71 + 8 * i + 2)) ∧ Sim x' 1 (swV v (ch2 (fnV v1 i sort) i)) ∧ BZ x' ∧ ∀ a, a = 0 ∨ 15 < a → x' a = x a := by
  have hk : mm_kd (3 + 5 + i) = 1 := kd_l hi
  have e8 : 3 + 5 + i = 8 + i := by omega
  obtain ⟨w, hw⟩ : ∃ w, w = fnV v1 i sort := ⟨_, rfl⟩
  have hwW : WV w := by rw [hw]; exact WV_fn hv
  rw [← hw]
  obtain ⟨F, hF⟩ : ∃ F, F = heldf (v1 (71 + 8 * i + 2) + v1 sort) := ⟨_, rfl⟩
  have w2 : w (71 + 8 * i + 2) = F := by
    rw [hw, hF]; unfold fnV
    rw [noteV_hi (by omega), upd_n (by omega), upd_s]
  have w6 : w (71 + 8 * i + 6) = v1 (71 + 8 * i + 6) + 1 := by
    rw [hw]; unfold fnV
    rw [noteV_hi (by omega), upd_s, upd_n (by omega)]
  have wo : ∀ j, 70 < j → j ≠ 71 + 8 * i + 2 → j ≠ 71 + 8 * i + 6 → w j = v1 j := by
    intro j h1 h2 h3
    rw [hw]; unfold fnV
    rw [noteV_hi h1, upd_n h3, upd_n h2]
  have wl : ∀ j, j < 10 → w j = v1 j := by
    intro j h1
    rw [hw]; unfold fnV
    rw [noteV_lo h1, upd_n (by omega), upd_n (by omega)]
  have wm : ∀ j, j ≤ 70 → w j = noteV v1 (nI sort) (nI i) j := by
    intro j h1
    rw [hw]; unfold fnV
    exact noteV_congr (fun k hk => by rw [upd_n (by omega), upd_n (by omega)]) j h1
  obtain ⟨x1, f1, j1, o1⟩ := B_add (w := nI sort) (l := nI i) (t := x 1 3) hJ hN.2
  obtain ⟨x2, fl, f2, o2, hcase⟩ := B_fine (x := x1) hk hs
  have xk : x1 (3 + 5 + i) = x (8 + i) := by rw [e8]; exact o1 _ (by omega) (by omega) (by omega) (by omega)
  have xs2 : x1 2 = x 2 := o1 _ (by omega) (by omega) (by omega) (by omega)
  have sS : ∀ j, j < 7 → x 2 j = v1 j := hS
  rw [xk, xs2, hx 2 (by omega), hx 3 (by omega), hx 6 (by omega), hx 7 (by omega), sS 4 (by omega), sS sort hs, ← hF] at hcase
  have o2' : ∀ a, a ≠ 8 + i → x2 a = x1 a := fun a ha => o2 a (by omega)
  have b1 : x2 1 = x 1 := (o2' 1 (by omega)).trans (o1 1 (by omega) (by omega) (by omega) (by omega))
  have b2 : x2 2 = x 2 := (o2' 2 (by omega)).trans xs2
  have hS2 : ∀ u : Nat → Int32, (∀ j, j < 10 → u j = v1 j) → SimS x2 1 u := fun u hu j hj => by
    show x2 2 j = u j
    rw [b2, hu j (by omega)]; exact hS j hj
  have hN2 : ∀ u : Nat → Int32, (∀ j, j < 10 → u j = v1 j) → SimN x2 1 u := fun u hu => ⟨by rw [b1, hu 8 (by omega)]; exact hN.1, by rw [b1, hu 7 (by omega)]; exact hN.2⟩
  have hJ2 : SimJ x2 1 w := SimJ_same j1 (fun a h1 h2 => o2' a (by omega)) (fun j h1 h2 => wm j h2)
  have oth : ∀ a, a = 0 ∨ 15 < a → x2 a = x a := fun a ha => (o2' a (by omega)).trans (o1 a (by omega) (by omega) (by omega) (by omega))
  have lan : ∀ a, 8 ≤ a → a < 16 → a ≠ 8 + i → x2 a = x a := fun a h1 h2 h3 => (o2' a h3).trans (o1 a (by omega) (by omega) (by omega) (by omega))
  have hBi := hB (8 + i) (by rw [← e8]; exact hk)
  unfold fn_X3_finishChange
  rw [if_pos hk, f1]
  simp only [Option.bind_some]
  rw [f2, mm_b2_some]
  rcases hcase with ⟨⟨q3, q4⟩, rfl, hx2⟩ | ⟨q, rfl, hx2⟩
  · -- it is shunned
    have h10 : ¬ ((1 : Int32) = 0) := by decide
    rw [if_neg h10]
    have hch : ch2 w i = shV w i := by
      unfold ch2
      rw [w2, wl 4 (by omega), if_neg (by rw [Int32.not_le]; exact q4), wo _ (by omega) (by omega) (by omega), if_pos q3]
    rw [hch]
    obtain ⟨x4, f4, j4, o4⟩ := B_add (w := 3) (l := nI i) (t := x2 1 3) hJ2 (by rw [b1, wl 7 (by omega)]; exact hN.2)
    rw [f4]
    simp only [Option.bind_some]
    have hx2' : x2 (8 + i) = upd (upd (upd (upd (upd (x (8 + i)) 2 F) 6 (v1 (71 + 8 * i + 6) + 1)) 3 1) 4 0) 7 (v1 (71 + 8 * i + 7) + 1) := by rw [← e8]; exact hx2
    have x4k : x4 (8 + i) = x2 (8 + i) := o4 _ (by omega) (by omega) (by omega) (by omega)
    have s7 : shV w i (71 + 8 * i + 7) = v1 (71 + 8 * i + 7) + 1 := by
      unfold shV
      rw [noteV_hi (by omega), upd_s, upd_n (by omega), upd_n (by omega), wo _ (by omega) (by omega) (by omega)]
    have so : ∀ j, 70 < j → j ≠ 71 + 8 * i + 3 → j ≠ 71 + 8 * i + 4 → j ≠ 71 + 8 * i + 7 → shV w i j = w j := by
      intro j h1 h2 h3 h4
      unfold shV
      rw [noteV_hi h1, upd_n h4, upd_n h3, upd_n h2]
    have s3 : shV w i (71 + 8 * i + 3) = 1 := by
      unfold shV
      rw [noteV_hi (by omega), upd_n (by omega), upd_n (by omega), upd_s]
    have s4 : shV w i (71 + 8 * i + 4) = 0 := by
      unfold shV
      rw [noteV_hi (by omega), upd_n (by omega), upd_s]
    have sl : ∀ j, j < 10 → shV w i j = v1 j := by
      intro j h1
      unfold shV
      rw [noteV_lo h1, upd_n (by omega), upd_n (by omega), upd_n (by omega), wl j h1]
    have sm : ∀ j, j ≤ 70 → shV w i j = noteV w 3 (nI i) j := by
      intro j h1
      unfold shV
      exact noteV_congr (fun k hk => by rw [upd_n (by omega), upd_n (by omega), upd_n (by omega)]) j h1
    have c1 : x4 1 = x 1 := (o4 1 (by omega) (by omega) (by omega) (by omega)).trans b1
    have c2 : x4 2 = x 2 := (o4 2 (by omega) (by omega) (by omega) (by omega)).trans b2
    have hL4 : SimL x4 1 (shV w i) := by
      refine SimL_up hL hi (fun a h1 h2 h3 => (o4 a (by omega) (by omega) (by omega) (by omega)).trans (lan a h1 h2 h3)) (fun j hj => ?_) (fun j h1 h2 => ?_)
      · rw [x4k, hx2']
        rcases (show j = 2 ∨ j = 3 ∨ j = 4 ∨ j = 6 ∨ j = 7 ∨ (j ≠ 2 ∧ j ≠ 3 ∧ j ≠ 4 ∧ j ≠ 6 ∧ j ≠ 7) by omega) with rfl | rfl | rfl | rfl | rfl | ⟨n2, n3, n4, n6, n7⟩
        · rw [upd_n (by omega), upd_n (by omega), upd_n (by omega), upd_n (by omega), upd_s, so _ (by omega) (by omega) (by omega) (by omega), w2]
        · rw [upd_n (by omega), upd_n (by omega), upd_s, s3]
        · rw [upd_n (by omega), upd_s, s4]
        · rw [upd_n (by omega), upd_n (by omega), upd_n (by omega), upd_s, so _ (by omega) (by omega) (by omega) (by omega), w6]
        · rw [upd_s, s7]
        · rw [upd_n n7, upd_n n4, upd_n n3, upd_n n6, upd_n n2, hx j hj, so _ (by omega) (by omega) (by omega) (by omega), wo _ (by omega) (by omega) (by omega)]
      · rcases h1 with rfl | h1
        · exact sl 8 (by omega)
        · rw [so j (by omega) (by omega) (by omega) (by omega), wo j (by omega) (by omega) (by omega)]
    obtain ⟨x5, f5, S5, o5⟩ := B_end (v := v) (w := shV w i) (x := x4) (WV_sh hwW) (fun j hj => by rw [c2, sl j (by omega)]; exact hS j hj) ⟨by rw [c1, sl 8 (by omega)]; exact hN.1, by rw [c1, sl 7 (by omega)]; exact hN.2⟩ (SimJ_same j4 (fun a _ _ => rfl) (fun j h1 h2 => sm j h2)) hL4 (by rw [c1]; exact h4) (by rw [c1, sl 9 (by omega)]; exact h5)
    rw [f5]
    simp only [Option.bind_some]
    refine ⟨x5, ?_, S5, ?_, fun a ha => (o5 a (by omega)).trans ((o4 a (by omega) (by omega) (by omega) (by omega)).trans (oth a ha))⟩
    · have e1 : x5 (3 + 5 + i) 2 = swV v (shV w i) (71 + 8 * i + 2) := by
        rw [e8, o5 _ (by omega), x4k, hx2', swV_ne (by omega), so _ (by omega) (by omega) (by omega) (by omega), w2]
        rw [upd_n (by omega), upd_n (by omega), upd_n (by omega), upd_n (by omega), upd_s]
      rw [e1]
    · intro a ha
      by_cases hai : a = 8 + i
      · subst hai
        rw [o5 _ (by omega), x4k, hx2']
        refine ⟨?_, Or.inr ?_⟩
        · rw [upd_n (by omega), upd_n (by omega), upd_n (by omega), upd_n (by omega), upd_n (by omega)]; exact hBi.1
        · rw [upd_n (by omega), upd_n (by omega), upd_s]
      · have : a ≠ 1 ∧ a ≠ 4 ∧ a ≠ 5 ∧ a ≠ 6 ∧ a ≠ 7 := by
          refine ⟨?_, ?_, ?_, ?_, ?_⟩ <;> (intro q; subst q; revert ha; decide)
        rw [o5 a this.1, o4 a this.2.1 this.2.2.1 this.2.2.2.1 this.2.2.2.2, o2' a hai, o1 a this.2.1 this.2.2.1 this.2.2.2.1 this.2.2.2.2]
        exact hB a ha
  · -- it is not
    rw [if_pos rfl]
    have hch : ch2 w i = w := by
      unfold ch2
      by_cases c1 : w (71 + 8 * i + 2) ≤ w 4
      · rw [if_pos c1]
      · rw [if_neg c1, if_neg]
        intro q3
        rw [wo _ (by omega) (by omega) (by omega)] at q3
        rw [w2, wl 4 (by omega), Int32.not_le] at c1
        exact q ⟨q3, c1⟩
    rw [hch]
    have hx2' : x2 (8 + i) = upd (upd (x (8 + i)) 2 F) 6 (v1 (71 + 8 * i + 6) + 1) := by rw [← e8]; exact hx2
    have hL2 : SimL x2 1 w := by
      refine SimL_up hL hi lan (fun j hj => ?_) (fun j h1 h2 => ?_)
      · rw [hx2']
        rcases (show j = 2 ∨ j = 6 ∨ (j ≠ 2 ∧ j ≠ 6) by omega) with rfl | rfl | ⟨n2, n6⟩
        · rw [upd_n (by omega), upd_s, w2]
        · rw [upd_s, w6]
        · rw [upd_n n6, upd_n n2, hx j hj, wo _ (by omega) (by omega) (by omega)]
      · rcases h1 with rfl | h1
        · exact wl 8 (by omega)
        · exact wo j (by omega) (by omega) (by omega)
    obtain ⟨x5, f5, S5, o5⟩ := B_end (v := v) (w := w) (x := x2) hwW (hS2 w wl) (hN2 w wl) hJ2 hL2 (by rw [b1]; exact h4) (by rw [b1, wl 9 (by omega)]; exact h5)
    rw [f5]
    simp only [Option.bind_some]
    refine ⟨x5, ?_, S5, ?_, fun a ha => (o5 a (by omega)).trans (oth a ha)⟩
    · have e1 : x5 (3 + 5 + i) 2 = swV v w (71 + 8 * i + 2) := by
        rw [e8, o5 _ (by omega), hx2', swV_ne (by omega), w2, upd_n (by omega), upd_s]
      rw [e1]
    · intro a ha
      by_cases hai : a = 8 + i
      · subst hai
        rw [o5 _ (by omega), hx2', upd_n (by omega), upd_n (by omega), upd_n (by omega), upd_n (by omega)]
        exact hBi
      · have : a ≠ 1 ∧ a ≠ 4 ∧ a ≠ 5 ∧ a ≠ 6 ∧ a ≠ 7 := by
          refine ⟨?_, ?_, ?_, ?_, ?_⟩ <;> (intro q; subst q; revert ha; decide)
        rw [o5 a this.1, o2' a hai, o1 a this.2.1 this.2.2.1 this.2.2.2.1 this.2.2.2.2]
        exact hB a ha
