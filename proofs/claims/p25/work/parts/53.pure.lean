/-! THE CLASS'S CHANGES against the row's -/
theorem noteV_congr {v w : Nat → Int32} {a b : Int32} (h : ∀ j, j ≤ 70 → w j = v j) : ∀ j, j ≤ 70 → noteV w a b j = noteV v a b j := by
  intro j hj
  unfold noteV
  rw [h 10 (by omega), h 7 (by omega)]
  by_cases c : 14 ≤ j ∧ j ≤ 70
  · rw [if_pos c, if_pos c, h (j - 3) (by omega)]
  · rw [if_neg c, if_neg c, h j hj]
theorem swV_ne {v w : Nat → Int32} {j : Nat} (h : j ≠ 9) : swV v w j = w j := upd_n h
theorem taken_sw {v w : Nat → Int32} (hc : ∃ c, c ≤ 8 ∧ w 8 = nI c) : taken (swV v w) = taken w := taken_congr (swV_ne (by omega)) hc (fun k _ => ⟨swV_ne (by omega), swV_ne (by omega), swV_ne (by omega)⟩)
/-- behind all of a change: the landing that is taken is looked up -/
theorem B_end {x : mm_M} {v w : Nat → Int32} (hw : WV w) (hS : SimS x 1 w) (hN : SimN x 1 w) (hJ : SimJ x 1 w) (hL : SimL x 1 w) (h4 : x 1 4 = taken v) (h5 : x 1 5 = w 9) :
    ∃ x', fn_X3_followTaken x = some x' ∧ Sim x' 1 (swV v w) ∧ ∀ a, a ≠ 1 → x' a = x a := by
  obtain ⟨x', e, g4, g5, go, gn⟩ := B_follow hw hL hN.1
  refine ⟨x', e, ⟨?_, ?_, ?_, ?_, ?_⟩, gn⟩
  · intro j hj
    rw [gn 2 (by omega), swV_ne (by omega)]; exact hS j hj
  · exact ⟨by rw [go 2 (by omega) (by omega), swV_ne (by omega)]; exact hN.1, by rw [go 3 (by omega) (by omega), swV_ne (by omega)]; exact hN.2⟩
  · refine ⟨by rw [g4, taken_sw hw.2.1], ?_⟩
    rw [g5, h5, h4]
    exact (upd_s _ _ _).symm
  · exact SimJ_same hJ (fun a h1 _ => gn a (by omega)) (fun j h1 _ => swV_ne (by omega))
  · exact SimL_same hL (fun a h1 _ => gn a (by omega)) (fun j h1 => swV_ne (by omega))
def fnV (v1 : Nat → Int32) (i sort : Nat) : Nat → Int32 := noteV (upd (upd v1 (71 + 8 * i + 2) (heldf (v1 (71 + 8 * i + 2) + v1 sort))) (71 + 8 * i + 6) ((upd v1 (71 + 8 * i + 2) (heldf (v1 (71 + 8 * i + 2) + v1 sort))) (71 + 8 * i + 6) + 1)) (nI sort) (nI i)
theorem ch1_fn (v : Nat → Int32) (i what sort : Nat) (a : Int32) : ch1 v i what a sort = fnV (upd v (71 + 8 * i + what) a) i sort := rfl
theorem WV_fn {v : Nat → Int32} {i sort : Nat} (hv : WV v) : WV (fnV v i sort) := by
  unfold fnV
  refine WV_note (WV_up (WV_up hv (by omega) ?_ ?_ ?_) (by omega) ?_ ?_ ?_)
  all_goals (intro k hk; omega)
theorem B_finish {x : mm_M} {v v1 : Nat → Int32} {i sort : Nat} (hv : WV v1) (hi : i < 8) (hs : sort < 7) (hS : SimS x 1 v1) (hN : SimN x 1 v1) (hJ : SimJ x 1 v1) (hL : SimL x 1 v1) (hx : ∀ j, j < 8 → x (8 + i) j = v1 (71 + 8 * i + j)) (h4 : x 1 4 = taken v) (h5 : x 1 5 = v1 9) (hB : BZ x) :
    ∃ x', fn_X3_finishChange (3 + 5 + i) (nI i) (nI sort) x = some (x', swV v (ch2 (fnV v1 i sort) i) (71 + 8 * i + 2)) ∧ Sim x' 1 (swV v (ch2 (fnV v1 i sort) i)) ∧ BZ x' ∧ ∀ a, a = 0 ∨ 15 < a → x' a = x a := by
  have hk : mm_kd (3 + 5 + i) = 1 := kd_l hi
  have e8 : 3 + 5 + i = 8 + i := by omega
  obtain ⟨w, hw⟩ : ∃ w, w = fnV v1 i sort := ⟨_, rfl⟩
  have hwW : WV w := by rw [hw]; exact WV_fn hv
  rw [← hw]
  obtain ⟨F, hF⟩ : ∃ F, F = heldf (v1 (71 + 8 * i + 2) + v1 sort) := ⟨_, rfl⟩
  have w2 : w (71 + 8 * i + 2) = F := by
    rw [hw, hF]; unfold fnV
    rw [noteV_hi (by omega), upd_n (by omega), upd_s]
  have w6 : w (71 + 8 * i + 6) = v1 (71 + 8 * i + 6) + 1 := by
    rw [hw]; unfold fnV
    rw [noteV_hi (by omega), upd_s, upd_n (by omega)]
  have wo : ∀ j, 70 < j → j ≠ 71 + 8 * i + 2 → j ≠ 71 + 8 * i + 6 → w j = v1 j := by
    intro j h1 h2 h3
    rw [hw]; unfold fnV
    rw [noteV_hi h1, upd_n h3, upd_n h2]
  have wl : ∀ j, j < 10 → w j = v1 j := by
    intro j h1
    rw [hw]; unfold fnV
    rw [noteV_lo h1, upd_n (by omega), upd_n (by omega)]
  have wm : ∀ j, j ≤ 70 → w j = noteV v1 (nI sort) (nI i) j := by
    intro j h1
    rw [hw]; unfold fnV
    exact noteV_congr (fun k hk => by rw [upd_n (by omega), upd_n (by omega)]) j h1
  obtain ⟨x1, f1, j1, o1⟩ := B_add (w := nI sort) (l := nI i) (t := x 1 3) hJ hN.2
  obtain ⟨x2, fl, f2, o2, hcase⟩ := B_fine (x := x1) hk hs
  have xk : x1 (3 + 5 + i) = x (8 + i) := by rw [e8]; exact o1 _ (by omega) (by omega) (by omega) (by omega)
  have xs2 : x1 2 = x 2 := o1 _ (by omega) (by omega) (by omega) (by omega)
  have sS : ∀ j, j < 7 → x 2 j = v1 j := hS
  rw [xk, xs2, hx 2 (by omega), hx 3 (by omega), hx 6 (by omega), hx 7 (by omega), sS 4 (by omega), sS sort hs, ← hF] at hcase
  have o2' : ∀ a, a ≠ 8 + i → x2 a = x1 a := fun a ha => o2 a (by omega)
  have b1 : x2 1 = x 1 := (o2' 1 (by omega)).trans (o1 1 (by omega) (by omega) (by omega) (by omega))
  have b2 : x2 2 = x 2 := (o2' 2 (by omega)).trans xs2
  have hS2 : ∀ u : Nat → Int32, (∀ j, j < 10 → u j = v1 j) → SimS x2 1 u := fun u hu j hj => by
    show x2 2 j = u j
    rw [b2, hu j (by omega)]; exact hS j hj
  have hN2 : ∀ u : Nat → Int32, (∀ j, j < 10 → u j = v1 j) → SimN x2 1 u := fun u hu => ⟨by rw [b1, hu 8 (by omega)]; exact hN.1, by rw [b1, hu 7 (by omega)]; exact hN.2⟩
  have hJ2 : SimJ x2 1 w := SimJ_same j1 (fun a h1 h2 => o2' a (by omega)) (fun j h1 h2 => wm j h2)
  have oth : ∀ a, a = 0 ∨ 15 < a → x2 a = x a := fun a ha => (o2' a (by omega)).trans (o1 a (by omega) (by omega) (by omega) (by omega))
  have lan : ∀ a, 8 ≤ a → a < 16 → a ≠ 8 + i → x2 a = x a := fun a h1 h2 h3 => (o2' a h3).trans (o1 a (by omega) (by omega) (by omega) (by omega))
  have hBi := hB (8 + i) (by rw [← e8]; exact hk)
  unfold fn_X3_finishChange
  rw [if_pos hk, f1]
  simp only [Option.bind_some]
  rw [f2, mm_b2_some]
  rcases hcase with ⟨⟨q3, q4⟩, rfl, hx2⟩ | ⟨q, rfl, hx2⟩
  · -- it is shunned
    have h10 : ¬ ((1 : Int32) = 0) := by decide
    rw [if_neg h10]
    have hch : ch2 w i = shV w i := by
      unfold ch2
      rw [w2, wl 4 (by omega), if_neg (by rw [Int32.not_le]; exact q4), wo _ (by omega) (by omega) (by omega), if_pos q3]
    rw [hch]
    obtain ⟨x4, f4, j4, o4⟩ := B_add (w := 3) (l := nI i) (t := x2 1 3) hJ2 (by rw [b1, wl 7 (by omega)]; exact hN.2)
    rw [f4]
    simp only [Option.bind_some]
    have hx2' : x2 (8 + i) = upd (upd (upd (upd (upd (x (8 + i)) 2 F) 6 (v1 (71 + 8 * i + 6) + 1)) 3 1) 4 0) 7 (v1 (71 + 8 * i + 7) + 1) := by rw [← e8]; exact hx2
    have x4k : x4 (8 + i) = x2 (8 + i) := o4 _ (by omega) (by omega) (by omega) (by omega)
    have s7 : shV w i (71 + 8 * i + 7) = v1 (71 + 8 * i + 7) + 1 := by
      unfold shV
      rw [noteV_hi (by omega), upd_s, upd_n (by omega), upd_n (by omega), wo _ (by omega) (by omega) (by omega)]
    have so : ∀ j, 70 < j → j ≠ 71 + 8 * i + 3 → j ≠ 71 + 8 * i + 4 → j ≠ 71 + 8 * i + 7 → shV w i j = w j := by
      intro j h1 h2 h3 h4
      unfold shV
      rw [noteV_hi h1, upd_n h4, upd_n h3, upd_n h2]
    have s3 : shV w i (71 + 8 * i + 3) = 1 := by
      unfold shV
      rw [noteV_hi (by omega), upd_n (by omega), upd_n (by omega), upd_s]
    have s4 : shV w i (71 + 8 * i + 4) = 0 := by
      unfold shV
      rw [noteV_hi (by omega), upd_n (by omega), upd_s]
    have sl : ∀ j, j < 10 → shV w i j = v1 j := by
      intro j h1
      unfold shV
      rw [noteV_lo h1, upd_n (by omega), upd_n (by omega), upd_n (by omega), wl j h1]
    have sm : ∀ j, j ≤ 70 → shV w i j = noteV w 3 (nI i) j := by
      intro j h1
      unfold shV
      exact noteV_congr (fun k hk => by rw [upd_n (by omega), upd_n (by omega), upd_n (by omega)]) j h1
    have c1 : x4 1 = x 1 := (o4 1 (by omega) (by omega) (by omega) (by omega)).trans b1
    have c2 : x4 2 = x 2 := (o4 2 (by omega) (by omega) (by omega) (by omega)).trans b2
    have hL4 : SimL x4 1 (shV w i) := by
      refine SimL_up hL hi (fun a h1 h2 h3 => (o4 a (by omega) (by omega) (by omega) (by omega)).trans (lan a h1 h2 h3)) (fun j hj => ?_) (fun j h1 h2 => ?_)
      · rw [x4k, hx2']
        rcases (show j = 2 ∨ j = 3 ∨ j = 4 ∨ j = 6 ∨ j = 7 ∨ (j ≠ 2 ∧ j ≠ 3 ∧ j ≠ 4 ∧ j ≠ 6 ∧ j ≠ 7) by omega) with rfl | rfl | rfl | rfl | rfl | ⟨n2, n3, n4, n6, n7⟩
        · rw [upd_n (by omega), upd_n (by omega), upd_n (by omega), upd_n (by omega), upd_s, so _ (by omega) (by omega) (by omega) (by omega), w2]
        · rw [upd_n (by omega), upd_n (by omega), upd_s, s3]
        · rw [upd_n (by omega), upd_s, s4]
        · rw [upd_n (by omega), upd_n (by omega), upd_n (by omega), upd_s, so _ (by omega) (by omega) (by omega) (by omega), w6]
        · rw [upd_s, s7]
        · rw [upd_n n7, upd_n n4, upd_n n3, upd_n n6, upd_n n2, hx j hj, so _ (by omega) (by omega) (by omega) (by omega), wo _ (by omega) (by omega) (by omega)]
      · rcases h1 with rfl | h1
        · exact sl 8 (by omega)
        · rw [so j (by omega) (by omega) (by omega) (by omega), wo j (by omega) (by omega) (by omega)]
    obtain ⟨x5, f5, S5, o5⟩ := B_end (v := v) (w := shV w i) (x := x4) (WV_sh hwW) (fun j hj => by rw [c2, sl j (by omega)]; exact hS j hj) ⟨by rw [c1, sl 8 (by omega)]; exact hN.1, by rw [c1, sl 7 (by omega)]; exact hN.2⟩ (SimJ_same j4 (fun a _ _ => rfl) (fun j h1 h2 => sm j h2)) hL4 (by rw [c1]; exact h4) (by rw [c1, sl 9 (by omega)]; exact h5)
    rw [f5]
    simp only [Option.bind_some]
    refine ⟨x5, ?_, S5, ?_, fun a ha => (o5 a (by omega)).trans ((o4 a (by omega) (by omega) (by omega) (by omega)).trans (oth a ha))⟩
    · have e1 : x5 (3 + 5 + i) 2 = swV v (shV w i) (71 + 8 * i + 2) := by
        rw [e8, o5 _ (by omega), x4k, hx2', swV_ne (by omega), so _ (by omega) (by omega) (by omega) (by omega), w2]
        rw [upd_n (by omega), upd_n (by omega), upd_n (by omega), upd_n (by omega), upd_s]
      rw [e1]
    · intro a ha
      by_cases hai : a = 8 + i
      · subst hai
        rw [o5 _ (by omega), x4k, hx2']
        refine ⟨?_, Or.inr ?_⟩
        · rw [upd_n (by omega), upd_n (by omega), upd_n (by omega), upd_n (by omega), upd_n (by omega)]; exact hBi.1
        · rw [upd_n (by omega), upd_n (by omega), upd_s]
      · have : a ≠ 1 ∧ a ≠ 4 ∧ a ≠ 5 ∧ a ≠ 6 ∧ a ≠ 7 := by
          refine ⟨?_, ?_, ?_, ?_, ?_⟩ <;> (intro q; subst q; revert ha; decide)
        rw [o5 a this.1, o4 a this.2.1 this.2.2.1 this.2.2.2.1 this.2.2.2.2, o2' a hai, o1 a this.2.1 this.2.2.1 this.2.2.2.1 this.2.2.2.2]
        exact hB a ha
  · -- it is not
    rw [if_pos rfl]
    have hch : ch2 w i = w := by
      unfold ch2
      by_cases c1 : w (71 + 8 * i + 2) ≤ w 4
      · rw [if_pos c1]
      · rw [if_neg c1, if_neg]
        intro q3
        rw [wo _ (by omega) (by omega) (by omega)] at q3
        rw [w2, wl 4 (by omega), Int32.not_le] at c1
        exact q ⟨q3, c1⟩
    rw [hch]
    have hx2' : x2 (8 + i) = upd (upd (x (8 + i)) 2 F) 6 (v1 (71 + 8 * i + 6) + 1) := by rw [← e8]; exact hx2
    have hL2 : SimL x2 1 w := by
      refine SimL_up hL hi lan (fun j hj => ?_) (fun j h1 h2 => ?_)
      · rw [hx2']
        rcases (show j = 2 ∨ j = 6 ∨ (j ≠ 2 ∧ j ≠ 6) by omega) with rfl | rfl | ⟨n2, n6⟩
        · rw [upd_n (by omega), upd_s, w2]
        · rw [upd_s, w6]
        · rw [upd_n n6, upd_n n2, hx j hj, wo _ (by omega) (by omega) (by omega)]
      · rcases h1 with rfl | h1
        · exact wl 8 (by omega)
        · exact wo j (by omega) (by omega) (by omega)
    obtain ⟨x5, f5, S5, o5⟩ := B_end (v := v) (w := w) (x := x2) hwW (hS2 w wl) (hN2 w wl) hJ2 hL2 (by rw [b1]; exact h4) (by rw [b1, wl 9 (by omega)]; exact h5)
    rw [f5]
    simp only [Option.bind_some]
    refine ⟨x5, ?_, S5, ?_, fun a ha => (o5 a (by omega)).trans (oth a ha)⟩
    · have e1 : x5 (3 + 5 + i) 2 = swV v w (71 + 8 * i + 2) := by
        rw [e8, o5 _ (by omega), hx2', swV_ne (by omega), w2, upd_n (by omega), upd_s]
      rw [e1]
    · intro a ha
      by_cases hai : a = 8 + i
      · subst hai
        rw [o5 _ (by omega), hx2', upd_n (by omega), upd_n (by omega), upd_n (by omega), upd_n (by omega)]
        exact hBi
      · have : a ≠ 1 ∧ a ≠ 4 ∧ a ≠ 5 ∧ a ≠ 6 ∧ a ≠ 7 := by
          refine ⟨?_, ?_, ?_, ?_, ?_⟩ <;> (intro q; subst q; revert ha; decide)
        rw [o5 a this.1, o2' a hai, o1 a this.2.1 this.2.2.1 this.2.2.2.1 this.2.2.2.2]
        exact hB a ha

/-! THE CLASS'S RIVER: opening, closing, prices, comings, settings -/
def Fr15 (x x' : mm_M) : Prop := ∀ a, a = 0 ∨ 15 < a → x' a = x a
theorem kd_not {a : Nat} (ha : mm_kd a = 1) : a ≠ 1 ∧ a ≠ 2 ∧ a ≠ 4 ∧ a ≠ 5 ∧ a ≠ 6 ∧ a ≠ 7 ∧ a ≠ 0 := by
  refine ⟨?_, ?_, ?_, ?_, ?_, ?_, ?_⟩ <;> (intro q; subst q; revert ha; decide)
theorem B_find {x : mm_M} {c : Nat} (hc : c ≤ 8) (hx : x 1 2 = nI c) (a : Int32) : fn_X3_find a x = some (if 0 ≤ a ∧ a < nI c then some (3 + 5 + a.toNatClampNeg) else none) := by
  unfold fn_X3_find
  by_cases h0 : a < 0
  · rw [if_pos h0, if_neg (fun q => absurd h0 (by rw [Int32.not_lt]; exact q.1))]
  · rw [if_neg h0, hx]
    by_cases h1 : a < nI c
    · have hcd : 0 ≤ a ∧ a < nI c := ⟨Int32.not_lt.mp h0, h1⟩
      obtain ⟨i, hi, rfl⟩ := pu_inL hc hcd
      rw [if_pos h1, if_neg (nI_in (by omega) (by omega)), if_pos hcd]
    · rw [if_neg h1, if_neg (fun q => h1 q.2)]
theorem B_lay {x : mm_M} {v : Nat → Int32} {i c what sort : Nat} {value : Int32} (hv : WV v) (hS : Sim x 1 v) (hB : BZ x) (hc8 : c ≤ 8) (h8 : v 8 = nI c) (hi : i < c) (hs : sort < 7) (hw : what = 0 ∧ bz value ∨ what = 1) :
    ∃ x', fn_X3_finishChange (3 + 5 + i) (nI i) (nI sort) (mm_up x (3 + 5 + i) what value) = some (x', (chV v i what value sort).2) ∧ Sim x' 1 (chV v i what value sort).1 ∧ BZ x' ∧ Fr15 x x' := by
  obtain ⟨sS, sN, sT, sJ, sL⟩ := hS
  have hi8 : i < 8 := by omega
  have e8 : 3 + 5 + i = 8 + i := by omega
  have hwhat : what < 8 := by rcases hw with ⟨h, -⟩ | h <;> omega
  have hv1 : WV (upd v (71 + 8 * i + what) value) := by
    refine WV_up hv (by omega) (fun k hk => ?_) (fun k hk => ?_) (fun k hk => ?_)
    · rcases hw with ⟨_, h⟩ | h
      · exact h
      · omega
    · rcases hw with ⟨h, _⟩ | h <;> omega
    · rcases hw with ⟨h, _⟩ | h <;> omega
  have up : ∀ j, j < 71 → upd v (71 + 8 * i + what) value j = v j := fun j hj => upd_n (by omega)
  have xo : ∀ a, a ≠ 8 + i → mm_up x (3 + 5 + i) what value a = x a := fun a ha => mm_up_ne (by omega)
  have hrow : ∀ j, j < 8 → mm_up x (3 + 5 + i) what value (8 + i) j = upd v (71 + 8 * i + what) value (71 + 8 * i + j) := by
    intro j hj
    rw [mm_up_app]
    obtain ⟨c', hc', e', hl⟩ := sL
    have hcc : c' = c := by
      have : nI c' = nI c := e'.symm.trans h8
      rwa [nI_eq (by omega) (by omega)] at this
    subst hcc
    by_cases hjw : j = what
    · subst hjw; rw [if_pos ⟨e8.symm, rfl⟩, upd_s]
    · rw [if_neg (fun q => hjw q.2), upd_n (by omega)]
      exact hl i hi j hj
  have hL1 : SimL (mm_up x (3 + 5 + i) what value) 1 (upd v (71 + 8 * i + what) value) := SimL_up sL hi8 (fun a _ _ ha => xo a ha) hrow (fun j h1 h2 => upd_n (by omega))
  have hJ1 : SimJ (mm_up x (3 + 5 + i) what value) 1 (upd v (71 + 8 * i + what) value) := SimJ_same sJ (fun a _ _ => xo a (by omega)) (fun j _ h2 => up j (by omega))
  have hB1 : BZ (mm_up x (3 + 5 + i) what value) := by
    intro a ha
    by_cases hai : a = 8 + i
    · subst hai
      rw [hrow 0 (by omega), hrow 3 (by omega)]
      exact ⟨(hv1.2.2.2 i hi8).1, (hv1.2.2.2 i hi8).2.1⟩
    · rw [xo a hai]; exact hB a ha
  obtain ⟨x', e, S', B', F'⟩ := B_finish (x := mm_up x (3 + 5 + i) what value) (v := v) (v1 := upd v (71 + 8 * i + what) value) hv1 hi8 hs (fun j hj => by rw [xo _ (by omega), up j (by omega)]; exact sS j hj) ⟨by rw [xo _ (by omega), up 8 (by omega)]; exact sN.1, by rw [xo _ (by omega), up 7 (by omega)]; exact sN.2⟩ hJ1 hL1 hrow (by rw [xo _ (by omega)]; exact sT.1) (by rw [xo _ (by omega), up 9 (by omega)]; exact sT.2) hB1
  exact ⟨x', e, S', B', fun a ha => (F' a ha).trans (xo a (by omega))⟩
theorem B_turn {x : mm_M} {v : Nat → Int32} (hv : WV v) (hS : Sim x 1 v) (hB : BZ x) (a : Int32) :
    (∃ x', fn_X3_openLanding a x = some (x', (turnV v a 1).2) ∧ Sim x' 1 (turnV v a 1).1 ∧ BZ x' ∧ Fr15 x x') ∧ (∃ x', fn_X3_closeLanding a x = some (x', (turnV v a 0).2) ∧ Sim x' 1 (turnV v a 0).1 ∧ BZ x' ∧ Fr15 x x') := by
  obtain ⟨c, hc, h8⟩ := hv.2.1
  have hx : x 1 2 = nI c := hS.2.1.1.trans h8
  unfold fn_X3_openLanding fn_X3_closeLanding turnV
  rw [B_find hc hx, h8]
  simp only [Option.bind_some]
  by_cases h : 0 ≤ a ∧ a < nI c
  · simp only [h, and_self, if_true, mm_oc_some]
    obtain ⟨i, hi, rfl⟩ := pu_inL hc h
    rw [nI_clamp (by omega)]
    rw [if_pos (kd_l (by omega)), if_pos (kd_l (by omega))]
    obtain ⟨c', hc', e', hl⟩ := hS.2.2.2.2
    have hcc : c' = c := by
      have : nI c' = nI c := e'.symm.trans h8
      rwa [nI_eq (by omega) (by omega)] at this
    subst hcc
    have x0 : x (3 + 5 + i) 0 = v (71 + 8 * i) := hl i hi 0 (by omega)
    have b0 := (hv.2.2.2 i (by omega)).1
    rw [x0]
    have h10 : ¬ ((1 : Int32) = 0) := by decide
    have h01 : ¬ ((0 : Int32) = 1) := by decide
    rcases b0 with b0 | b0
    · rw [b0, if_pos rfl, if_pos rfl, if_neg h01, if_pos rfl]
      refine ⟨?_, ⟨x, rfl, hS, hB, fun _ _ => rfl⟩⟩
      obtain ⟨x', e, S', B', F'⟩ := B_lay (what := 0) (value := 1) (sort := 1) hv hS hB hc h8 hi (by omega) (Or.inl ⟨rfl, Or.inr rfl⟩)
      have e1 : nI 1 = 1 := by decide
      rw [e1] at e
      simp only [Option.bind_some, e, mm_b2_some]
      exact ⟨x', rfl, S', B', F'⟩
    · rw [b0, if_neg h10, if_neg h10, if_pos rfl, if_neg h10, if_neg h01]
      refine ⟨⟨x, rfl, hS, hB, fun _ _ => rfl⟩, ?_⟩
      obtain ⟨x', e, S', B', F'⟩ := B_lay (what := 0) (value := 0) (sort := 0) hv hS hB hc h8 hi (by omega) (Or.inl ⟨rfl, Or.inl rfl⟩)
      rw [nI_0] at e
      simp only [Option.bind_some, e, mm_b2_some]
      exact ⟨x', rfl, S', B', F'⟩
  · simp only [h, if_false, mm_oc_none]
    exact ⟨⟨x, rfl, hS, hB, fun _ _ => rfl⟩, ⟨x, rfl, hS, hB, fun _ _ => rfl⟩⟩
theorem B_cost {x : mm_M} {v : Nat → Int32} (hv : WV v) (hS : Sim x 1 v) (hB : BZ x) (a p : Int32) :
    ∃ x', fn_X3_changePrice a p x = some (x', (costV v a p).2) ∧ Sim x' 1 (costV v a p).1 ∧ BZ x' ∧ Fr15 x x' := by
  obtain ⟨c, hc, h8⟩ := hv.2.1
  have hx : x 1 2 = nI c := hS.2.1.1.trans h8
  unfold fn_X3_changePrice costV
  rw [B_find hc hx, h8]
  simp only [Option.bind_some]
  by_cases h : 0 ≤ a ∧ a < nI c
  · simp only [h, and_self, if_true, mm_oc_some]
    obtain ⟨i, hi, rfl⟩ := pu_inL hc h
    rw [nI_clamp (by omega)]
    rw [if_pos (kd_l (by omega))]
    obtain ⟨c', hc', e', hl⟩ := hS.2.2.2.2
    have hcc : c' = c := by
      have : nI c' = nI c := e'.symm.trans h8
      rwa [nI_eq (by omega) (by omega)] at this
    subst hcc
    have x1 : x (3 + 5 + i) 1 = v (71 + 8 * i + 1) := hl i hi 1 (by omega)
    rw [x1]
    by_cases p0 : p < 0
    · rw [if_pos p0, if_neg (fun q => absurd p0 (by rw [Int32.not_lt]; exact q.1))]
      exact ⟨x, rfl, hS, hB, fun _ _ => rfl⟩
    · rw [if_neg p0]
      by_cases p9 : p ≤ 999
      · have hcd : 0 ≤ p ∧ p ≤ 999 := ⟨Int32.not_lt.mp p0, p9⟩
        rw [if_pos p9, if_pos hcd]
        by_cases c3 : v (71 + 8 * i + 1) = p
        · rw [if_pos c3, if_pos c3]; exact ⟨x, rfl, hS, hB, fun _ _ => rfl⟩
        · rw [if_neg c3, if_neg c3]
          obtain ⟨x', e, S', B', F'⟩ := B_lay (what := 1) (value := p) (sort := 2) hv hS hB hc h8 hi (by omega) (Or.inr rfl)
          have e2 : nI 2 = 2 := by decide
          rw [e2] at e
          simp only [Option.bind_some, e, mm_b2_some]
          exact ⟨x', rfl, S', B', F'⟩
      · rw [if_neg p9, if_neg (fun q => p9 q.2)]
        exact ⟨x, rfl, hS, hB, fun _ _ => rfl⟩
  · simp only [h, if_false, mm_oc_none]
    exact ⟨x, rfl, hS, hB, fun _ _ => rfl⟩
theorem B_arrive {x : mm_M} {k : Nat} {p : Int32} (hk : mm_kd k = 1) : ∃ x', fn_X1_arrive k p x = some x' ∧ (∀ a, a ≠ k → x' a = x a) ∧ ∀ j, j < 8 → x' k j = if j = 0 then 1 else if j = 1 then p else 0 := by
  unfold fn_X1_arrive
  rw [if_pos hk]
  simp only [Option.bind_some]
  refine ⟨_, rfl, fun a ha => by simp only [mm_up_ne ha], fun j hj => ?_⟩
  simp only [mm_up_app, true_and]
  (repeat' split) <;> first | rfl | omega
theorem B_com {x : mm_M} {v : Nat → Int32} (hv : WV v) (hS : Sim x 1 v) (hB : BZ x) (p : Int32) :
    ∃ x', fn_X3_addLanding p x = some (x', (comV v p).2) ∧ Sim x' 1 (comV v p).1 ∧ BZ x' ∧ Fr15 x x' := by
  obtain ⟨c, hc, h8⟩ := hv.2.1
  obtain ⟨sS, sN, sT, sJ, sL⟩ := id hS
  have hx : x 1 2 = nI c := sN.1.trans h8
  have hW := WV_com (p := p) hv
  unfold fn_X3_addLanding
  unfold comV at hW ⊢
  by_cases p0 : p < 0
  · rw [if_pos p0, if_neg (fun q => absurd p0 (by rw [Int32.not_lt]; exact q.1))]
    exact ⟨x, rfl, hS, hB, fun _ _ => rfl⟩
  · rw [if_neg p0]
    by_cases p9 : p ≤ 999
    · rw [if_pos p9]
      have hcd : 0 ≤ p ∧ p ≤ 999 := ⟨Int32.not_lt.mp p0, p9⟩
      rw [if_pos hcd] at hW ⊢
      have c8 : x 1 2 < 8 ↔ c < 8 := by rw [hx]; show nI c < nI 8 ↔ _; rw [nI_ltI (by omega) (by omega)]
      have c8' : v 8 = 8 ↔ c = 8 := by rw [h8]; show nI c = nI 8 ↔ _; rw [nI_eq (by omega) (by omega)]
      by_cases hlt : c < 8
      · rw [if_pos (c8.mpr hlt)]
        have nc8 : ¬ v 8 = 8 := fun q => by have := c8'.mp q; omega
        rw [if_neg nc8] at hW ⊢
        rw [hx, if_neg (nI_in (by omega) (by omega)), nI_clamp (by omega)]
        rw [h8, nI_clamp (by omega), nI_1] at hW ⊢
        obtain ⟨x1, f1, o1, r1⟩ := B_arrive (x := x) (p := p) (kd_l hlt)
        have e8 : 3 + 5 + c = 8 + c := by omega
        rw [e8] at o1 r1 f1
        rw [e8, f1]
        simp only [Option.bind_some]
        have x12 : x1 1 2 = nI c := by rw [o1 1 (by omega)]; exact hx
        rw [x12, nI_1]
        obtain ⟨w, hw⟩ : ∃ w, w = upd (newV v c 0 p) 8 (nI (c + 1)) := ⟨_, rfl⟩
        rw [← hw] at hW ⊢
        have w8 : w 8 = nI (c + 1) := by rw [hw, upd_s]
        have wn : ∀ j, j ≠ 8 → (j < 71 + 8 * c ∨ 71 + 8 * c + 7 < j) → w j = v j := fun j h1 h2 => by rw [hw, upd_n h1, newV_lo h2]
        have wi : ∀ j, j < 8 → w (71 + 8 * c + j) = if j = 0 then 1 else if j = 1 then p else 0 := fun j hj => by
          rw [hw, upd_n (by omega)]
          unfold newV
          rw [if_pos (by omega), itm_at]
        have hWw : WV w := WV_congr hW (fun j hj => (swV_ne (by rcases hj with h | h | h | ⟨i, hi, h⟩ <;> omega)).symm)
        have x2o : ∀ a, a ≠ 1 → a ≠ 8 + c → mm_up x1 1 2 (nI (c + 1)) a = x a := fun a h1 h2 => (mm_up_ne h1).trans (o1 a h2)
        have x21 : ∀ j, j ≠ 2 → mm_up x1 1 2 (nI (c + 1)) 1 j = x 1 j := fun j hj => by rw [mm_up_app, if_neg (fun q => hj q.2), o1 1 (by omega)]
        have x22 : mm_up x1 1 2 (nI (c + 1)) 1 2 = nI (c + 1) := by rw [mm_up_app, if_pos ⟨rfl, rfl⟩]
        have hL2 : SimL (mm_up x1 1 2 (nI (c + 1))) 1 w := by
          obtain ⟨c', hc', e', hl⟩ := sL
          have hcc : c' = c := by
            have : nI c' = nI c := e'.symm.trans h8
            rwa [nI_eq (by omega) (by omega)] at this
          subst hcc
          refine ⟨c' + 1, by omega, w8, fun i hi j hj => ?_⟩
          have e : 1 + 7 + i = 8 + i := by omega
          by_cases hic : i = c'
          · subst hic
            rw [e, mm_up_ne (by omega), r1 j hj, wi j hj]
          · rw [e, x2o _ (by omega) (by omega), wn _ (by omega) (by omega), ← e]
            exact hl i (by omega) j hj
        obtain ⟨x3, f3, S3, o3⟩ := B_end (v := v) (w := w) (x := mm_up x1 1 2 (nI (c + 1))) hWw (fun j hj => by rw [x2o _ (by omega) (by omega), wn j (by omega) (by omega)]; exact sS j hj) ⟨by rw [x22, w8], by rw [x21 3 (by omega), wn 7 (by omega) (by omega)]; exact sN.2⟩ (SimJ_same sJ (fun a h1 h2 => x2o a (by omega) (by omega)) (fun j h1 h2 => wn j (by omega) (by omega))) hL2 (by rw [x21 4 (by omega)]; exact sT.1) (by rw [x21 5 (by omega), wn 9 (by omega) (by omega)]; exact sT.2)
        rw [f3]
        simp only [Option.bind_some]
        have x32 : x3 1 2 - 1 = nI c := by
          have : x3 1 2 = swV v w 8 := S3.2.1.1
          rw [this, swV_ne (by omega), w8, nI_pred]
        rw [x32]
        refine ⟨x3, rfl, S3, ?_, fun a ha => (o3 a (by omega)).trans (x2o a (by omega) (by omega))⟩
        intro a ha
        have na := kd_not ha
        rw [o3 a na.1]
        by_cases hac : a = 8 + c
        · subst hac
          rw [mm_up_ne (by omega), r1 0 (by omega), r1 3 (by omega)]
          exact ⟨Or.inr rfl, Or.inl rfl⟩
        · rw [x2o a na.1 hac]; exact hB a ha
      · rw [if_neg (fun q => hlt (c8.mp q)), if_pos (c8'.mpr (by omega))]
        exact ⟨x, rfl, hS, hB, fun _ _ => rfl⟩
    · rw [if_neg p9, if_neg (fun q => p9 q.2)]
      exact ⟨x, rfl, hS, hB, fun _ _ => rfl⟩

