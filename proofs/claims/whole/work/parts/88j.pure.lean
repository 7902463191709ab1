/-! UNDO, SAVE, RESTORE -/
theorem pu_und22 {hh : Nat} (h6 : hh ≤ 5) : ∀ (n i fuel : Nat) (x : mm_M), x 157 5 = nI hh → i + n = 135 → n < fuel → fn_X5_undo_22 fuel (nI i) x = some (cs x 158 (fun j => if i ≤ j ∧ j < 135 then x 159 (135 * hh + j) else x 158 j)) := by
  intro n
  induction n with
  | zero =>
    intro i fuel x hx hi hf
    obtain ⟨m, rfl⟩ : ∃ m, fuel = m + 1 := ⟨fuel - 1, by omega⟩
    have c : (135 : Int32) ≤ nI i := by show nI 135 ≤ nI i; exact nI_le (by omega) (by omega)
    rw [fn_X5_undo_22, if_pos c]
    refine congrArg some (cs_ext (fun _ _ => rfl) (fun j => ?_))
    rw [if_neg (by omega)]
  | succ n ih =>
    intro i fuel x hx hi hf
    obtain ⟨m, rfl⟩ : ∃ m, fuel = m + 1 := ⟨fuel - 1, by omega⟩
    have c : ¬ (135 : Int32) ≤ nI i := by show ¬ nI 135 ≤ nI i; exact nI_ge (by omega) (by omega)
    have e : (135 : Int32) * x 157 5 + nI i = nI (135 * hh + i) := by
      rw [hx]; show nI 135 * nI hh + nI i = _; rw [pu_mul, nI_add]
    rw [fn_X5_undo_22, if_neg c, e, if_neg (nI_in (by omega) (by omega)), if_neg (nI_in (by omega) (by omega)), nI_clamp (by omega), nI_clamp (by omega)]
    simp only [Option.bind_some, nI_1]
    rw [ih (i + 1) m _ (by rw [mm_up_ne (by omega)]; exact hx) (by omega) (by omega)]
    refine congrArg some (cs_ext (fun a ha => by rw [cs_ne ha, mm_up_ne ha]) (fun j => ?_))
    rw [cs_k]
    simp only [mm_up_app, true_and, Nat.reduceEqDiff, false_and, if_false]
    by_cases h1 : i + 1 ≤ j ∧ j < 135
    · rw [if_pos h1, if_pos (by omega)]
    · rw [if_neg h1]
      by_cases h2 : j = i
      · subst h2; rw [if_pos rfl, if_pos (by omega)]
      · rw [if_neg h2, if_neg (by omega)]
theorem pu_res31 {s : Nat} (h6 : s < 2) : ∀ (n i fuel : Nat) (x : mm_M), i + n = 135 → n < fuel → fn_X5_restore_31 fuel (nI s) (nI i) x = some (cs x 158 (fun j => if i ≤ j ∧ j < 135 then x 161 (135 * s + j) else x 158 j)) := by
  intro n
  induction n with
  | zero =>
    intro i fuel x hi hf
    obtain ⟨m, rfl⟩ : ∃ m, fuel = m + 1 := ⟨fuel - 1, by omega⟩
    have c : (135 : Int32) ≤ nI i := by show nI 135 ≤ nI i; exact nI_le (by omega) (by omega)
    rw [fn_X5_restore_31, if_pos c]
    refine congrArg some (cs_ext (fun _ _ => rfl) (fun j => ?_))
    rw [if_neg (by omega)]
  | succ n ih =>
    intro i fuel x hi hf
    obtain ⟨m, rfl⟩ : ∃ m, fuel = m + 1 := ⟨fuel - 1, by omega⟩
    have c : ¬ (135 : Int32) ≤ nI i := by show ¬ nI 135 ≤ nI i; exact nI_ge (by omega) (by omega)
    have e : (135 : Int32) * nI s + nI i = nI (135 * s + i) := by
      show nI 135 * nI s + nI i = _; rw [pu_mul, nI_add]
    rw [fn_X5_restore_31, if_neg c, e, if_neg (nI_in (by omega) (by omega)), if_neg (nI_in (by omega) (by omega)), nI_clamp (by omega), nI_clamp (by omega)]
    simp only [Option.bind_some, nI_1]
    rw [ih (i + 1) m _ (by omega) (by omega)]
    refine congrArg some (cs_ext (fun a ha => by rw [cs_ne ha, mm_up_ne ha]) (fun j => ?_))
    rw [cs_k]
    simp only [mm_up_app, true_and, Nat.reduceEqDiff, false_and, if_false]
    by_cases h1 : i + 1 ≤ j ∧ j < 135
    · rw [if_pos h1, if_pos (by omega)]
    · rw [if_neg h1]
      by_cases h2 : j = i
      · subst h2; rw [if_pos rfl, if_pos (by omega)]
      · rw [if_neg h2, if_neg (by omega)]
theorem pu_sav15 {s : Nat} (h6 : s < 2) : ∀ (n i fuel : Nat) (x : mm_M), i + n = 135 → n < fuel → fn_X5_save_15 fuel (nI s) (nI i) x = some (cs x 161 (fun j => if 135 * s + i ≤ j ∧ j < 135 * s + 135 then x 158 (j - 135 * s) else x 161 j)) := by
  intro n
  induction n with
  | zero =>
    intro i fuel x hi hf
    obtain ⟨m, rfl⟩ : ∃ m, fuel = m + 1 := ⟨fuel - 1, by omega⟩
    have c : (135 : Int32) ≤ nI i := by show nI 135 ≤ nI i; exact nI_le (by omega) (by omega)
    rw [fn_X5_save_15, if_pos c]
    refine congrArg some (cs_ext (fun _ _ => rfl) (fun j => ?_))
    rw [if_neg (by omega)]
  | succ n ih =>
    intro i fuel x hi hf
    obtain ⟨m, rfl⟩ : ∃ m, fuel = m + 1 := ⟨fuel - 1, by omega⟩
    have c : ¬ (135 : Int32) ≤ nI i := by show ¬ nI 135 ≤ nI i; exact nI_ge (by omega) (by omega)
    have e : (135 : Int32) * nI s + nI i = nI (135 * s + i) := by
      show nI 135 * nI s + nI i = _; rw [pu_mul, nI_add]
    rw [fn_X5_save_15, if_neg c, if_neg (nI_in (by omega) (by omega)), e, if_neg (nI_in (by omega) (by omega)), nI_clamp (by omega), nI_clamp (by omega)]
    simp only [Option.bind_some, nI_1]
    rw [ih (i + 1) m _ (by omega) (by omega)]
    refine congrArg some (cs_ext (fun a ha => by rw [cs_ne ha, mm_up_ne ha]) (fun j => ?_))
    rw [cs_k]
    simp only [mm_up_app, true_and, Nat.reduceEqDiff, false_and, if_false]
    by_cases h1 : 135 * s + (i + 1) ≤ j ∧ j < 135 * s + 135
    · rw [if_pos h1, if_pos (by omega)]
    · rw [if_neg h1]
      by_cases h2 : j = 135 * s + i
      · subst h2; rw [if_pos rfl, if_pos (by omega), show 135 * s + i - 135 * s = i from by omega]
      · rw [if_neg h2, if_neg (by omega)]
theorem P_undo {x : mm_M} (hI : Inv x) : Pair fn_X4_undo fn_X5_undo x := by
  obtain ⟨hB, hv, hS, ⟨h, p, hH⟩, hL, hP⟩ := id hI
  obtain ⟨h6, h02, h57, hp, hinj, hrow⟩ := id hH
  cases h with
  | zero =>
    refine ⟨x, x, -5, ?_, ?_, hI⟩
    · unfold fn_X4_undo
      rw [if_neg (by rw [h02]; decide)]
    · unfold fn_X5_undo
      rw [if_pos (by rw [h57]; decide)]
  | succ m =>
    have rg := IHi_rg hH (i := m) (by omega)
    obtain ⟨e16, t, ht, et⟩ := hp m (by omega)
    have hk : mm_kd (p m) = 3 := by rw [et]; exact kd_hr (by omega)
    obtain ⟨x2, f2, c2, B2, o2⟩ := B_copy (x := mm_up x 0 2 (nI m)) (show mm_kd 1 = 3 by decide) hk (by omega) (fun a ha => by rw [mm_up_ne (kd_not ha).2.2.2.2.2.2]; exact hB a ha)
    have e02 : mm_up x 0 2 (nI m) 0 2 = nI m := by rw [mm_up_app, if_pos ⟨rfl, rfl⟩]
    have x02 : x2 0 2 = nI m := by rw [o2 0 (by omega), e02]
    have oo : ∀ a, 15 < a → x2 a = x a := fun a ha => by rw [o2 a (by omega), mm_up_ne (by omega)]
    have F : fn_X4_undo x = some (x2, nI m) := by
      unfold fn_X4_undo
      have c : (1 : Int32) ≤ x 0 2 := by rw [h02]; show nI 1 ≤ nI (m + 1); exact nI_le (by omega) (by omega)
      rw [if_pos c, h02, nI_pred]
      simp only [Option.bind_some]
      rw [e02, if_neg (nI_in (by omega) (by omega)), nI_clamp (by omega), mm_up_ne (by omega), e16, nI_clamp (by omega), if_pos hk, f2]
      simp only [Option.bind_some]
      rw [x02]
    obtain ⟨b1, b2⟩ := hrow m (by omega)
    have e5 : mm_up x2 157 5 (nI m) 157 5 = nI m := by rw [mm_up_app, if_pos ⟨rfl, rfl⟩]
    have G := pu_und22 (hh := m) (by omega) 135 0 136 (mm_up x2 157 5 (nI m)) e5 (by omega) (by omega)
    rw [nI_0, mm_up_ne (show 159 ≠ 157 by omega), mm_up_ne (show 158 ≠ 157 by omega), oo 159 (by omega), oo 158 (by omega)] at G
    refine ⟨x2, cs (mm_up x2 157 5 (nI m)) 158 (fun j => if 0 ≤ j ∧ j < 135 then x 159 (135 * m + j) else x 158 j), nI m, F, ?_, ?_⟩
    · unfold fn_X5_undo
      have c : ¬ x2 157 5 = 0 := by rw [oo 157 (by omega), h57]; exact nI_ne0 (by omega) (by omega)
      rw [if_neg c, oo 157 (by omega), h57, nI_pred]
      simp only [Option.bind_some]
      rw [G]
      simp only [Option.bind_some]
      rw [cs_ne (by omega), e5]
    · have e : ∀ j, j < 135 → (fun j => if 0 ≤ j ∧ j < 135 then x 159 (135 * m + j) else x 158 j) j = seg (x 159) (135 * m) j := fun j hj => by
        show (if 0 ≤ j ∧ j < 135 then x 159 (135 * m + j) else x 158 j) = _
        rw [if_pos (by omega)]; rfl
      generalize (fun j => if 0 ≤ j ∧ j < 135 then x 159 (135 * m + j) else x 158 j) = w at e
      have zz : ∀ a, a ≠ 157 → a ≠ 158 → cs (mm_up x2 157 5 (nI m)) 158 w a = x2 a := fun a q1 q2 => by rw [cs_ne q2, mm_up_ne q1]
      have b2' : Sim (mm_up x 0 2 (nI m)) (p m) (seg (x 159) (135 * m)) := Sim_keep b2 (fun a l1 l2 => mm_up_ne (by omega))
      refine ⟨BZ_of B2 (fun a q1 q2 q3 => zz a (by omega) (by omega)), by rw [cs_k]; exact WV_c135 b1 e, ?_, ⟨m, p, ?_⟩, ?_, ?_⟩
      · rw [cs_k]
        exact Sim_c135 b1 (Sim_keep (c2.sim b2') (fun a l1 l2 => zz a (by omega) (by omega))) e
      · refine ⟨by omega, ?_, ?_, ?_, hinj, fun i hi => ?_⟩
        · rw [zz 0 (by omega) (by omega)]; exact x02
        · rw [cs_ne (by omega), e5]
        · intro i hi; rw [zz 16 (by omega) (by omega), oo 16 (by omega)]; exact hp i hi
        · have rgi := IHi_rg hH (i := i) (by omega)
          rw [zz 159 (by omega) (by omega), oo 159 (by omega)]
          exact ⟨(hrow i (by omega)).1, Sim_keep (hrow i (by omega)).2 (fun a l1 l2 => by rw [zz a (by omega) (by omega), oo a (by omega)])⟩
      · refine ISl_of hL ?_ ?_ ?_ (fun a l1 l2 => ?_)
        · rw [zz 18 (by omega) (by omega), oo 18 (by omega)]
        · rw [zz 162 (by omega) (by omega), oo 162 (by omega)]
        · rw [zz 161 (by omega) (by omega), oo 161 (by omega)]
        · rw [zz a (by omega) (by omega), oo a (by omega)]
      · refine IPd_of hP ?_ ?_ ?_ ?_
        · rw [zz 19 (by omega) (by omega), oo 19 (by omega)]
        · rw [cs_ne (by omega), mm_up_app, if_neg (by omega), oo 157 (by omega)]
        · rw [zz 20 (by omega) (by omega), oo 20 (by omega)]
        · rw [zz 163 (by omega) (by omega), oo 163 (by omega)]
theorem in01 {a : Int32} (c : 0 ≤ a ∧ a ≤ 1) : ∃ s, s < 2 ∧ a = nI s := by
  obtain ⟨s, hs, e⟩ := nI_of2 (x := a) (M := 1) (n := 1) (by decide) (by rw [Int32.not_lt]; exact c.1) c.2
  exact ⟨s, by omega, e⟩
theorem out01 {a : Int32} (c : ¬ (0 ≤ a ∧ a ≤ 1)) (c1 : ¬ a < 0) : ¬ a < 2 := fun q => c ⟨Int32.not_lt.mp c1, by
  obtain ⟨k, hk, rfl⟩ := nI_of c1
  have : nI k < nI 2 := q
  rw [nI_ltI hk (by omega)] at this
  show nI k ≤ nI 1; exact nI_le (by omega) (by omega)⟩
theorem P_save {x : mm_M} (hI : Inv x) (a : Int32) : Pair (fn_X4_save a) (fn_X5_save a) x := by
  obtain ⟨hB, hv, hS, ⟨h, p, hH⟩, hL, hP⟩ := id hI
  by_cases c : 0 ≤ a ∧ a ≤ 1
  · obtain ⟨s, hs, rfl⟩ := in01 c
    have hk : mm_kd (127 + 15 * s) = 3 := by
      have := kd_hr (t := 7 + s) (by omega)
      rw [show 127 + 15 * s = 22 + 15 * (7 + s) from by omega]; exact this
    obtain ⟨x1, f1, c1, B1, o1⟩ := B_copy (x := x) hk (show mm_kd 1 = 3 by decide) (by omega) hB
    have l2 : nI s < 2 := by show nI s < nI 2; exact nI_lt hs (by omega)
    have oo : ∀ a, a < 127 ∨ 156 < a → a ≠ 18 → mm_up x1 18 s 1 a = x a := fun a ha hb => by rw [mm_up_ne hb, o1 a (by omega)]
    have F : fn_X4_save (nI s) x = some (mm_up x1 18 s 1, x 158 8) := by
      unfold fn_X4_save
      rw [if_neg (nI_pos (by omega)), if_pos l2, if_neg (nI_in hs (by omega)), nI_clamp (by omega), f1]
      simp only [Option.bind_some]
      have nn : ¬ (nI s < 0 ∨ 2 ≤ s) := fun q => by
        rcases q with q | q
        · exact nI_pos (by omega) q
        · omega
      rw [if_neg nn, oo 1 (by omega) (by omega), hS.2.1.1]
    have G := pu_sav15 hs 135 0 136 (mm_up x1 18 s 1) (by omega) (by omega)
    rw [nI_0, oo 158 (by omega) (by omega), oo 161 (by omega) (by omega)] at G
    refine ⟨_, mm_up (cs (mm_up x1 18 s 1) 161 (fun j => if 135 * s + 0 ≤ j ∧ j < 135 * s + 135 then x 158 (j - 135 * s) else x 161 j)) 162 s 1, _, F, ?_, ?_⟩
    · unfold fn_X5_save
      rw [pu_in, if_pos c]
      simp only [Option.bind_some]
      rw [if_neg (by decide), G]
      simp only [Option.bind_some]
      rw [if_neg (nI_in hs (by omega)), nI_clamp (by omega), mm_up_ne (by omega), cs_ne (by omega), oo 158 (by omega) (by omega)]
    · have e : ∀ j, (fun j => if 135 * s + 0 ≤ j ∧ j < 135 * s + 135 then x 158 (j - 135 * s) else x 161 j) j = if 135 * s ≤ j ∧ j < 135 * s + 135 then x 158 (j - 135 * s) else x 161 j := fun j => rfl
      generalize (fun j => if 135 * s + 0 ≤ j ∧ j < 135 * s + 135 then x 158 (j - 135 * s) else x 161 j) = w at e
      have zz : ∀ a, a ≠ 161 → a ≠ 162 → mm_up (cs (mm_up x1 18 s 1) 161 w) 162 s 1 a = mm_up x1 18 s 1 a := fun a q1 q2 => by rw [mm_up_ne q2, cs_ne q1]
      refine ⟨fun a ha => ?_, ?_, ?_, ⟨h, p, ?_⟩, fun t ht => ?_, ?_⟩
      · have k := kd_lt157 ha
        rw [zz a (by omega) (by omega), mm_up_ne k.2.2.2.1]; exact B1 a ha
      · rw [zz 158 (by omega) (by omega), oo 158 (by omega) (by omega)]; exact hv
      · rw [zz 158 (by omega) (by omega), oo 158 (by omega) (by omega)]
        exact Sim_keep hS (fun a l1 l2 => by rw [zz a (by omega) (by omega), oo a (by omega) (by omega)])
      · refine IHi_of hH ?_ ?_ ?_ ?_ (fun i a hi l1 l2 => ?_)
        · rw [zz 0 (by omega) (by omega), oo 0 (by omega) (by omega)]
        · rw [zz 157 (by omega) (by omega), oo 157 (by omega) (by omega)]
        · rw [zz 16 (by omega) (by omega), oo 16 (by omega) (by omega)]
        · rw [zz 159 (by omega) (by omega), oo 159 (by omega) (by omega)]
        · have rg := IHi_rg hH (i := i) (by have := hH.1; omega)
          rw [zz a (by omega) (by omega), oo a (by omega) (by omega)]
      · obtain ⟨a1, a2, a3⟩ := hL t ht
        have y161 : mm_up (cs (mm_up x1 18 s 1) 161 w) 162 s 1 161 = w := by rw [mm_up_ne (by omega), cs_k]
        have y18 : mm_up (cs (mm_up x1 18 s 1) 161 w) 162 s 1 18 t = if t = s then 1 else x 18 t := by
          rw [zz 18 (by omega) (by omega), mm_up_app]
          by_cases q : t = s
          · rw [if_pos ⟨rfl, q⟩, if_pos q]
          · rw [if_neg (fun z => q z.2), if_neg q, o1 18 (by omega)]
        have y162 : mm_up (cs (mm_up x1 18 s 1) 161 w) 162 s 1 162 t = if t = s then 1 else x 162 t := by
          rw [mm_up_app]
          by_cases q : t = s
          · rw [if_pos ⟨rfl, q⟩, if_pos q]
          · rw [if_neg (fun z => q z.2), if_neg q, cs_ne (by omega), oo 162 (by omega) (by omega)]
        rw [y18, y162, y161]
        by_cases q : t = s
        · subst q
          rw [if_pos rfl, if_pos rfl]
          have ew : ∀ j, j < 135 → seg w (135 * t) j = x 158 j := fun j hj => by
            show w (135 * t + j) = _
            rw [e, if_pos (by omega), show 135 * t + j - 135 * t = j from by omega]
          refine ⟨rfl, Or.inr rfl, fun _ => ⟨WV_c135 hv ew, Sim_c135 hv (Sim_keep (c1.sim hS) (fun a l1 l2 => ?_)) ew⟩⟩
          rw [zz a (by omega) (by omega), mm_up_ne (by omega)]
        · rw [if_neg q, if_neg q]
          refine ⟨a1, a2, fun z => ?_⟩
          have ew : ∀ j, j < 135 → seg w (135 * t) j = seg (x 161) (135 * t) j := fun j hj => by
            show w (135 * t + j) = x 161 (135 * t + j)
            rw [e, if_neg (by omega)]
          refine ⟨WV_c135 (a3 z).1 ew, Sim_c135 (a3 z).1 (Sim_keep (a3 z).2 (fun a l1 l2 => ?_)) ew⟩
          rw [zz a (by omega) (by omega), mm_up_ne (by omega), o1 a (by omega)]
      · refine IPd_of hP ?_ ?_ ?_ ?_
        · rw [zz 19 (by omega) (by omega), oo 19 (by omega) (by omega)]
        · rw [zz 157 (by omega) (by omega), oo 157 (by omega) (by omega)]
        · rw [zz 20 (by omega) (by omega), oo 20 (by omega) (by omega)]
        · rw [zz 163 (by omega) (by omega), oo 163 (by omega) (by omega)]
  · refine ⟨x, x, -2, ?_, ?_, hI⟩
    · unfold fn_X4_save
      by_cases c1 : a < 0
      · rw [if_pos c1]
      · rw [if_neg c1, if_neg (out01 c c1)]
    · unfold fn_X5_save
      rw [pu_in, if_neg c]; rfl
theorem P_restore {x : mm_M} (hI : Inv x) (a : Int32) : Pair (fn_X4_restore a) (fn_X5_restore a) x := by
  by_cases c : 0 ≤ a ∧ a ≤ 1
  · obtain ⟨s, hs, rfl⟩ := in01 c
    have l2 : nI s < 2 := by show nI s < nI 2; exact nI_lt hs (by omega)
    have nn : ¬ (nI s < 0 ∨ 2 ≤ s) := fun q => by
      rcases q with q | q
      · exact nI_pos (by omega) q
      · omega
    obtain ⟨a1, a2, a3⟩ := hI.2.2.2.2.1 s hs
    by_cases z : x 18 s = 0
    · refine ⟨x, x, -5, ?_, ?_, hI⟩
      · unfold fn_X4_restore
        rw [if_neg (nI_pos (by omega)), if_pos l2, if_neg (nI_in hs (by omega)), nI_clamp (by omega), if_pos z]
      · unfold fn_X5_restore
        rw [pu_in, if_pos c]
        simp only [Option.bind_some]
        rw [if_neg (by decide), if_neg (nI_in hs (by omega)), nI_clamp (by omega), if_pos (a1.symm.trans z)]
    · obtain ⟨x1, h, p, f1, hH, c1, B1, o1, s1, -⟩ := Inv_keep hI
      obtain ⟨-, hv, hS, -, hL, hP⟩ := id hI
      obtain ⟨w1, w2⟩ := a3 (a2.resolve_left z)
      have h6 := hH.1
      have hh := IHi_rg hH (i := h) (by omega)
      have hk : mm_kd (127 + 15 * s) = 3 := by
        have := kd_hr (t := 7 + s) (by omega)
        rw [show 127 + 15 * s = 22 + 15 * (7 + s) from by omega]; exact this
      obtain ⟨x2, f2, c2, B2, o2⟩ := B_copy (x := x1) (show mm_kd 1 = 3 by decide) hk (by omega) B1
      have q2 : ∀ a, (a = 0 ∨ 15 < a) → (a < p h ∨ p h + 14 < a) → x2 a = x a := fun a q1 q2 => (o2 a (by omega)).trans (o1 a q2)
      have s2 : Sim x2 1 (seg (x 161) (135 * s)) := c2.sim (Sim_keep w2 (fun a l1 l2 => o1 a (by omega)))
      have c1' : CpEq x2 (p h) x 1 := by
        obtain ⟨b1, b2, b3, b4, b5⟩ := c1
        refine ⟨fun j hj => by rw [o2 _ (by omega)]; exact b1 j hj, fun j q1 q2 => by rw [o2 _ (by omega)]; exact b2 j q1 q2, ?_, fun j hj => ?_, fun i hi j hj => by rw [o2 _ (by omega)]; exact b5 i hi j hj⟩
        · rw [o2 _ (by omega)]; exact b3
        · rw [o2 (p h + 4) (by omega), o2 (p h + 5) (by omega), o2 (p h + 6) (by omega)]; exact b4 j hj
      have e : ∀ j, j < 135 → (fun j => if 0 ≤ j ∧ j < 135 then x 161 (135 * s + j) else x 158 j) j = seg (x 161) (135 * s) j := fun j hj => by
        show (if 0 ≤ j ∧ j < 135 then x 161 (135 * s + j) else x 158 j) = _
        rw [if_pos (by omega)]; rfl
      obtain ⟨x3, f3, o3, k3⟩ := B_rec (seg (x 161) (135 * s) 8) hv hS hH hL c1' (fun a ha => by
        rcases ha with q | q
        · exact q2 a (Or.inl q) (by omega)
        · exact q2 a (Or.inr q.1) q.2.2.2.2) B2 (Sim_c135 w1 s2 e) (WV_c135 w1 e)
      have r2 : x2 1 2 = seg (x 161) (135 * s) 8 := s2.2.1.1
      have e158 : x3 158 = x 158 := by rw [o3 158 (by omega) (by omega), q2 158 (by omega) (by omega)]
      have e161 : x3 161 = x 161 := by rw [o3 161 (by omega) (by omega), q2 161 (by omega) (by omega)]
      have e157 : x3 157 = x 157 := by rw [o3 157 (by omega) (by omega), q2 157 (by omega) (by omega)]
      have e162 : x3 162 = x 162 := by rw [o3 162 (by omega) (by omega), q2 162 (by omega) (by omega)]
      have G := pu_res31 hs 135 0 136 (cs x3 160 (fun j => if j < 135 then x3 158 j else x3 160 j)) (by omega) (by omega)
      rw [nI_0, cs_ne (show 161 ≠ 160 by omega), cs_ne (show 158 ≠ 160 by omega), e158, e161] at G
      obtain ⟨x4, f4, I4⟩ := k3 (cs (cs x3 160 (fun j => if j < 135 then x 158 j else x3 160 j)) 158 (fun j => if 0 ≤ j ∧ j < 135 then x 161 (135 * s + j) else x 158 j)) (fun a q1 q2 q3 _ _ => by rw [cs_ne q2, cs_ne q3]) (cs_k _ _ _) (fun j hj => by
        rw [cs_ne (by omega), cs_k]
        show (if j < 135 then x 158 j else _) = _
        rw [if_pos hj]) (by rw [cs_ne (by omega), cs_ne (by omega), e157]; exact hH.2.2.1) (by
        refine IPd_of hP ?_ ?_ ?_ ?_
        · rw [cs_ne (by omega), cs_ne (by omega), o3 19 (by omega) (by omega), q2 19 (by omega) (by omega)]
        · rw [cs_ne (by omega), cs_ne (by omega), e157]
        · rw [cs_ne (by omega), cs_ne (by omega), o3 20 (by omega) (by omega), q2 20 (by omega) (by omega)]
        · rw [cs_ne (by omega), cs_ne (by omega), o3 163 (by omega) (by omega), q2 163 (by omega) (by omega)])
      refine ⟨x3, x4, seg (x 161) (135 * s) 8, ?_, ?_, I4⟩
      · unfold fn_X4_restore
        rw [if_neg (nI_pos (by omega)), if_pos l2, if_neg (nI_in hs (by omega)), nI_clamp (by omega), if_neg z, f1]
        simp only [Option.bind_some]
        rw [if_neg nn, f2]
        simp only [Option.bind_some]
        rw [r2, f3, mm_b2_some]
      · unfold fn_X5_restore
        rw [pu_in, if_pos c]
        simp only [Option.bind_some]
        rw [if_neg (by decide), if_neg (nI_in hs (by omega)), nI_clamp (by omega), e162, if_neg (fun q => z (a1.trans q)), pu_remember, e158]
        simp only [Option.bind_some]
        rw [G]
        simp only [Option.bind_some]
        have e8 := e 8 (by omega)
        dsimp only at e8
        rw [cs_k, e8, f4, mm_b2_some]
  · refine ⟨x, x, -2, ?_, ?_, hI⟩
    · unfold fn_X4_restore
      by_cases c1 : a < 0
      · rw [if_pos c1]
      · rw [if_neg c1, if_neg (out01 c c1)]
    · unfold fn_X5_restore
      rw [pu_in, if_neg c]; rfl
