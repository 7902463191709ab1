/-! HOW LONG SHUNNED; HOW MANY CHANGES -/
theorem pm_in {h b l f s sh fr : Int32} (q : ¬ sh = 0) : (pm h b l f s sh fr).2.2.1 = 0 ∨ (pm h b l f s sh fr).2.2.2.1 = fr + 1 ∧ ¬ l ≤ fr + 1 := by
  unfold pm
  simp only [if_neg q]
  by_cases c1 : (if s + 1 < h then f else f / 2) < b
  · rw [if_pos c1]; exact Or.inl rfl
  · rw [if_neg c1]
    by_cases c2 : l ≤ fr + 1
    · rw [if_pos c2]; exact Or.inl rfl
    · rw [if_neg c2]; exact Or.inr ⟨rfl, c2⟩
theorem wi_eq {v : Nat → Int32} (hb : 1 ≤ v 5) (hl : v 6 ≤ 999) : ∀ (n i f1 f2 : Nat) (x : mm_M) (q : Q4), i + n = 999 → n < f1 → n < f2 → x 2 3 = v 3 → x 2 5 = v 5 → x 2 6 = v 6 → At x 21 2 5 3 4 q → bz q.2.2.1 → (q.2.2.1 = 0 ∨ ∃ r, i ≤ r ∧ r ≤ 998 ∧ q.2.2.2 = nI r) →
    ∃ x' r, fn_X4_welcomeIn_25 f1 (nI i) x = some (x', r) ∧ bz (x' 21 3) ∧ x' 21 0 = x 21 0 ∧ (∀ a, a ≠ 21 → x' a = x a) ∧ ∀ z : mm_M, z 158 3 = v 3 → z 158 5 = v 5 → z 158 6 = v 6 → At z 157 10 11 12 13 q → ∃ z', fn_X5_welcomeIn_17 f2 (nI i) z = some (z', r) ∧ (∀ j, j < 10 → z' 157 j = z 157 j) ∧ ∀ a, a ≠ 157 → z' a = z a := by
  intro n
  induction n with
  | zero =>
    intro i f1 f2 x q hi hf1 hf2 h3 h5 h6 hA hq hr
    obtain ⟨m1, rfl⟩ : ∃ m, f1 = m + 1 := ⟨f1 - 1, by omega⟩
    obtain ⟨m2, rfl⟩ : ∃ m, f2 = m + 1 := ⟨f2 - 1, by omega⟩
    have q0 : q.2.2.1 = 0 := hr.resolve_right (fun ⟨r, l1, l2, _⟩ => by omega)
    refine ⟨x, nI i, ?_, by rw [hA.2.2.1]; exact hq, rfl, fun _ _ => rfl, fun z _ _ _ hZ => ⟨z, ?_, fun _ _ => rfl, fun _ _ => rfl⟩⟩
    · rw [fn_X4_welcomeIn_25, if_pos (hA.2.2.1.trans q0)]
    · rw [fn_X5_welcomeIn_17, if_pos (hZ.2.2.1.trans q0)]
  | succ n ih =>
    intro i f1 f2 x q hi hf1 hf2 h3 h5 h6 hA hq hr
    obtain ⟨m1, rfl⟩ : ∃ m, f1 = m + 1 := ⟨f1 - 1, by omega⟩
    obtain ⟨m2, rfl⟩ : ∃ m, f2 = m + 1 := ⟨f2 - 1, by omega⟩
    by_cases q0 : q.2.2.1 = 0
    · refine ⟨x, nI i, ?_, by rw [hA.2.2.1]; exact hq, rfl, fun _ _ => rfl, fun z _ _ _ hZ => ⟨z, ?_, fun _ _ => rfl, fun _ _ => rfl⟩⟩
      · rw [fn_X4_welcomeIn_25, if_pos (hA.2.2.1.trans q0)]
      · rw [fn_X5_welcomeIn_17, if_pos (hZ.2.2.1.trans q0)]
    · obtain ⟨r, l1, l2, er⟩ := hr.resolve_left q0
      obtain ⟨x1, fl, g1, A1, e1, o1⟩ := T_cl hb h3 h5 h6 hA
      have hr' : (stp v q).2.2.1 = 0 ∨ ∃ r, i + 1 ≤ r ∧ r ≤ 998 ∧ (stp v q).2.2.2 = nI r := by
        rcases pm_in (h := v 3) (b := v 5) (l := v 6) (f := q.1) (s := q.2.1) (fr := q.2.2.2) q0 with w | ⟨w1, w2⟩
        · exact Or.inl w
        · refine Or.inr ⟨r + 1, by omega, ?_, ?_⟩
          · rw [er, nI_1] at w2
            have w3 : nI (r + 1) < 999 := Int32.lt_of_lt_of_le (Int32.not_le.mp w2) hl
            have w4 : nI (r + 1) < nI 999 := w3
            rw [nI_ltI (by omega) (by omega)] at w4; omega
          · show (pm (v 3) (v 5) (v 6) q.1 q.2.1 q.2.2.1 q.2.2.2).2.2.2.1 = _
            rw [w1, er, nI_1]
      obtain ⟨x2, rr, g2, z2, e2, o2, K⟩ := ih (i + 1) m1 m2 x1 (stp v q) (by omega) (by omega) (by omega) (by rw [o1 2 (by omega)]; exact h3) (by rw [o1 2 (by omega)]; exact h5) (by rw [o1 2 (by omega)]; exact h6) A1 (stp_bz hq) hr'
      refine ⟨x2, rr, ?_, z2, e2.trans e1, fun a ha => (o2 a ha).trans (o1 a ha), fun z z3 z5 z6 hZ => ?_⟩
      · have n9 : ¬ (999 : Int32) ≤ nI i := by show ¬ nI 999 ≤ nI i; exact nI_ge (by omega) (by omega)
        rw [fn_X4_welcomeIn_25, if_neg (fun w => q0 (hA.2.2.1.symm.trans w)), if_neg n9, g1, mm_b2_some]
        simp only [Option.bind_some, nI_1]
        exact g2
      · obtain ⟨y1, fl2, k1, B1, w1, p1⟩ := T_mo z3 z5 z6 hZ
        obtain ⟨y2, k2, w2, p2⟩ := K y1 (by rw [p1 158 (by omega)]; exact z3) (by rw [p1 158 (by omega)]; exact z5) (by rw [p1 158 (by omega)]; exact z6) B1
        refine ⟨y2, ?_, fun j hj => (w2 j hj).trans (w1 j hj), fun a ha => (p2 a ha).trans (p1 a ha)⟩
        have n9 : ¬ (1000 : Int32) ≤ nI i := by show ¬ nI 1000 ≤ nI i; exact nI_ge (by omega) (by omega)
        rw [fn_X5_welcomeIn_17, if_neg (fun w => q0 (hZ.2.2.1.symm.trans w)), if_neg n9, k1, mm_b2_some]
        simp only [Option.bind_some, nI_1]
        exact k2
theorem Rd_of {x x' : mm_M} {c : Nat} (hR : Rd x c) (ho : ∀ a, a ≠ 21 → x' a = x a) : Rd x' c := by
  obtain ⟨hc, h8, hx, hl, hb⟩ := hR
  exact ⟨hc, by rw [ho 158 (by omega)]; exact h8, by rw [ho 1 (by omega)]; exact hx, fun i hi j hj => by rw [ho 158 (by omega), ho (3 + 5 + i) (by omega)]; exact hl i hi j hj, fun i hi => by rw [ho 158 (by omega)]; exact hb i hi⟩
theorem P_welcomeIn {x : mm_M} (hI : Inv x) (a : Int32) : Pair (fn_X4_welcomeIn a) (fn_X5_welcomeIn a) x := by
  obtain ⟨c, hR⟩ := Inv_rd hI
  obtain ⟨hc, h8, hx, hl, hb⟩ := id hR
  have sS := hI.2.2.1.1
  have hv := hI.2.1
  unfold Pair fn_X4_welcomeIn
  rw [B_find hc hx]
  simp only [Option.bind_some]
  by_cases h : 0 ≤ a ∧ a < nI c
  · obtain ⟨i, hi, rfl⟩ := pu_inL hc h
    have k1 : mm_kd (3 + 5 + i) = 1 := kd_l (by omega)
    rw [if_pos h, nI_clamp (by omega), mm_oc_some, if_pos k1]
    obtain ⟨x1, f1, e1, o1⟩ := T_copy hR hI.1 hi
    obtain ⟨-, -, l0, l9⟩ := hv.2.2.2 i (by omega)
    obtain ⟨r, hr, er⟩ := nI_of2 (x := x 158 (71 + 8 * i + 4)) (M := 998) (n := 998) (by decide) (by rw [Int32.not_lt]; exact l0) l9
    obtain ⟨x2, rr, f2, z2, e2, o2, K⟩ := wi_eq (v := x 158) hv.1.2.2.2.2.2.1.1 hv.1.2.2.2.2.2.2.2 999 0 1000 1001 x1 (x 158 (71 + 8 * i + 2), x 158 (71 + 8 * i + 5), x 158 (71 + 8 * i + 3), x 158 (71 + 8 * i + 4)) (by omega) (by omega) (by omega) (by rw [o1 2 (by omega)]; exact sS 3 (by omega)) (by rw [o1 2 (by omega)]; exact sS 5 (by omega)) (by rw [o1 2 (by omega)]; exact sS 6 (by omega)) ⟨e1 2 (by omega), e1 5 (by omega), e1 3 (by omega), e1 4 (by omega)⟩ (hb i hi).2 (Or.inr ⟨r, by omega, hr, er⟩)
    rw [nI_0] at f2 K
    have oo : ∀ a, a ≠ 21 → x2 a = x a := fun a ha => (o2 a ha).trans (o1 a ha)
    have R2 : Rd x2 c := Rd_of hR oo
    obtain ⟨z1, g1, B1, w1, q1⟩ := tries_x (z := x2) (i := i) (by omega) (by rw [oo 158 (by omega)]; exact (hb i hi).2)
    rw [oo 158 (by omega)] at B1
    obtain ⟨z2', g2, w2, q2⟩ := K z1 (by rw [q1 158 (by omega), oo 158 (by omega)]) (by rw [q1 158 (by omega), oo 158 (by omega)]) (by rw [q1 158 (by omega), oo 158 (by omega)]) B1
    refine ⟨x2, z2', rr, ?_, ?_, Inv_if hI (fun a l1 l2 => by rw [q2 a l2, q1 a l2, oo a l1]) ?_ ?_ (fun j hj => by rw [w2 j hj, w1 j hj, oo 157 (by omega)])⟩
    · rw [f1]
      simp only [Option.bind_some]
      rw [f2, mm_b2_some]
    · unfold fn_X5_welcomeIn
      rw [isL_x R2, if_pos h]
      simp only [Option.bind_some]
      rw [if_neg (show ¬ (1 : Int32) = 0 by decide), g1]
      simp only [Option.bind_some]
      rw [g2, mm_b2_some]
    · rw [q2 21 (by omega), q1 21 (by omega), e2, e1 0 (by omega)]; exact (hb i hi).1
    · rw [q2 21 (by omega), q1 21 (by omega)]; exact z2
  · refine ⟨x, x, -1, ?_, ?_, hI⟩
    · rw [if_neg h, mm_oc_none]
    · unfold fn_X5_welcomeIn
      rw [isL_x hR, if_neg h]; rfl
/-- the trial's fine by a sort -/
theorem T_fine {x : mm_M} {sort : Nat} (hs : sort < 7) (h3 : x 21 3 = 0) : ∃ x', fn_X3_fineBySort 21 (nI sort) x = some (x', if heldf (x 21 2 + x 2 sort) ≤ x 2 4 then 0 else 1) ∧ (∀ a, a ≠ 21 → x' a = x a) ∧ x' 21 0 = x 21 0 ∧ x' 21 2 = heldf (x 21 2 + x 2 sort) ∧ x' 21 5 = x 21 5 ∧ bz (x' 21 3) ∧ (heldf (x 21 2 + x 2 sort) ≤ x 2 4 → x' 21 3 = 0) := by
  obtain ⟨x', fl, f, o, k⟩ := B_fine (x := x) kd21 hs
  rcases k with ⟨⟨-, c⟩, e, k⟩ | ⟨c, e, k⟩
  · refine ⟨x', ?_, o, ?_, ?_, ?_, ?_, ?_⟩
    · rw [f, if_neg (Int32.not_le.mpr c), e]
    · rw [k]; rfl
    · rw [k]; rfl
    · rw [k]; rfl
    · rw [k]; exact Or.inr rfl
    · intro q; exact absurd q (Int32.not_le.mpr c)
  · have c' : heldf (x 21 2 + x 2 sort) ≤ x 2 4 := Int32.not_lt.mp (fun q => c ⟨h3, q⟩)
    refine ⟨x', ?_, o, ?_, ?_, ?_, ?_, ?_⟩
    · rw [f, if_pos c', e]
    · rw [k]; rfl
    · rw [k]; rfl
    · rw [k]; rfl
    · rw [k]; exact Or.inl h3
    · intro _; rw [k]; exact h3
theorem odd_i {i : Nat} (hi : i < 1000) : (nI i - nI i / 2 * 2 = 1 ↔ i % 2 = 1) ∧ (nI i - nI i / 2 * 2 = 0 ↔ i % 2 = 0) := by
  have e : nI i - nI i / 2 * 2 = nI (i % 2) := by
    have e1 : nI i / 2 = nI (i / 2) := by
      rw [← Int32.toInt_inj, Int32.toInt_div, nI_toInt (by omega), nI_toInt (by omega), show (2 : Int32).toInt = 2 from rfl]
      rw [Int.tdiv_eq_ediv_of_nonneg (by omega), Int.bmod_eq_of_le (by omega) (by omega)]
      omega
    rw [e1]
    show nI i - nI (i / 2) * nI 2 = _
    rw [pu_mul]
    have : nI i = nI (i % 2 + i / 2 * 2) := by congr 1; omega
    rw [this, nI_sub]
    try (congr 1; omega)
  rw [e]
  constructor
  · show nI (i % 2) = nI 1 ↔ _
    rw [nI_eq (by omega) (by omega)]
  · show nI (i % 2) = nI 0 ↔ _
    rw [nI_eq (by omega) (by omega)]
theorem mc_eq {c k : Nat} (hk : k < c) {o0 : Int32} (ho : bz o0) : ∀ (n i fuel : Nat) (x : mm_M), i + n = 101 → 1 ≤ i → n < fuel → Rd x c → x 158 (71 + 8 * k) = o0 → (∀ j, j < 7 → x 2 j = x 158 j) → x 21 3 = 0 → x 21 0 = (if i % 2 = 1 then o0 else 1 - o0) →
    ∃ x' r, fn_X4_mayChange_34 fuel (nI i) x = some (x', r) ∧ bz (x' 21 3) ∧ bz (x' 21 0) ∧ (∀ a, a ≠ 21 → x' a = x a) ∧ ∀ z : mm_M, z 158 = x 158 → fn_X5_mayChange_31 fuel (nI k) (x 21 2) (nI i) z = some r := by
  intro n
  induction n with
  | zero =>
    intro i fuel x hi h1 hf hR hk0 hS h3 h0
    obtain ⟨m, rfl⟩ : ∃ m, fuel = m + 1 := ⟨fuel - 1, by omega⟩
    have l : (100 : Int32) < nI i := by show nI 100 < nI i; exact nI_lt (by omega) (by omega)
    refine ⟨x, -6, ?_, Or.inl h3, ?_, fun _ _ => rfl, fun z hz => ?_⟩
    · rw [fn_X4_mayChange_34, if_pos l]
    · rw [h0]
      rcases ho with rfl | rfl
      · by_cases q : i % 2 = 1
        · rw [if_pos q]; exact Or.inl rfl
        · rw [if_neg q]; exact Or.inr (by decide)
      · by_cases q : i % 2 = 1
        · rw [if_pos q]; exact Or.inr rfl
        · rw [if_neg q]; exact Or.inl (by decide)
    · rw [fn_X5_mayChange_31, if_pos l]
  | succ n ih =>
    intro i fuel x hi h1 hf hR hk0 hS h3 h0
    have hc := hR.1
    obtain ⟨m, rfl⟩ : ∃ m, fuel = m + 1 := ⟨fuel - 1, by omega⟩
    have l : ¬ (100 : Int32) < nI i := by show ¬ nI 100 < nI i; exact nI_nlt (by omega) (by omega)
    obtain ⟨od, -⟩ := odd_i (i := i) (by omega)
    have main : ∀ (b : Int32) (sort : Nat), (b = 1 ∧ sort = 1 ∨ b = 0 ∧ sort = 0) → b = (if i % 2 = 1 then 1 - o0 else o0) → ∃ x2 r, (mm_b2 (fn_X3_fineBySort 21 (nI sort) (mm_up x 21 0 b)) fun x3 v3 => if v3 = 0 then (some (nI i + 1)).bind fun v4 => fn_X4_mayChange_34 m v4 x3 else some (x3, nI i)) = some (x2, r) ∧ bz (x2 21 3) ∧ bz (x2 21 0) ∧ (∀ a, a ≠ 21 → x2 a = x a) ∧ ∀ z : mm_M, z 158 = x 158 → ((fn_X5_held (x 21 2 + z 158 sort) z).bind fun v8 => if v8 ≤ z 158 4 then (some (nI i + 1)).bind fun v9 => fn_X5_mayChange_31 m (nI k) v8 v9 z else some (nI i)) = some r := by
      intro b sort hbs hbo
      have hs7 : sort < 7 := by omega
      have bzb : bz b := by
        rcases hbs with ⟨q, -⟩ | ⟨q, -⟩
        · exact Or.inr q
        · exact Or.inl q
      obtain ⟨x3, f3, o3, e0, e2, e5, z3, y3⟩ := T_fine (x := mm_up x 21 0 b) hs7 (by rw [mm_up_app, if_neg (by omega)]; exact h3)
      have u2 : mm_up x 21 0 b 21 2 = x 21 2 := by rw [mm_up_app, if_neg (by omega)]
      have u0 : mm_up x 21 0 b 21 0 = b := by rw [mm_up_app, if_pos ⟨rfl, rfl⟩]
      have us : mm_up x 21 0 b 2 = x 2 := mm_up_ne (by omega)
      rw [u2, us, hS sort hs7, hS 4 (by omega)] at f3 y3
      rw [u2, us, hS sort hs7] at e2
      rw [u0] at e0
      have oo : ∀ a, a ≠ 21 → x3 a = x a := fun a ha => (o3 a ha).trans (mm_up_ne ha)
      by_cases c1 : heldf (x 21 2 + x 158 sort) ≤ x 158 4
      · rw [if_pos c1] at f3
        obtain ⟨x4, r, f4, z4, w4, o4, K⟩ := ih (i + 1) m x3 (by omega) (by omega) (by omega) (Rd_of hR oo) (by rw [oo 158 (by omega)]; exact hk0) (fun j hj => by rw [oo 158 (by omega), oo 2 (by omega)]; exact hS j hj) (y3 c1) (by
          rw [e0, hbo]
          by_cases q : i % 2 = 1
          · rw [if_pos q, if_neg (by omega)]
          · rw [if_neg q, if_pos (by omega)])
        refine ⟨x4, r, ?_, z4, w4, fun a ha => (o4 a ha).trans (oo a ha), fun z hz => ?_⟩
        · rw [f3, mm_b2_some, if_pos rfl]
          simp only [Option.bind_some, nI_1]
          exact f4
        · rw [pu_held, hz]
          simp only [Option.bind_some, nI_1]
          rw [if_pos c1]
          have := K z (by rw [oo 158 (by omega)]; exact hz)
          rw [e2] at this; exact this
      · rw [if_neg c1] at f3
        refine ⟨x3, nI i, ?_, z3, by rw [e0]; exact bzb, oo, fun z hz => ?_⟩
        · rw [f3, mm_b2_some, if_neg (by decide)]
        · rw [pu_held, hz]
          simp only [Option.bind_some]
          rw [if_neg c1]
    have u1 : mm_up x 21 0 1 21 0 = 1 := by rw [mm_up_app, if_pos ⟨rfl, rfl⟩]
    have u0 : mm_up x 21 0 0 21 0 = 0 := by rw [mm_up_app, if_pos ⟨rfl, rfl⟩]
    by_cases c0 : x 21 0 = 0
    · obtain ⟨x2, r, f, z2, w2, o2, K⟩ := main 1 1 (Or.inl ⟨rfl, rfl⟩) (by
        rw [c0] at h0
        by_cases q : i % 2 = 1
        · rw [if_pos q] at h0 ⊢; rw [← h0]; decide
        · rw [if_neg q] at h0 ⊢
          rcases ho with rfl | rfl
          · exact absurd h0 (by decide)
          · rfl)
      refine ⟨x2, r, ?_, z2, w2, o2, fun z hz => ?_⟩
      · rw [fn_X4_mayChange_34, if_neg l, if_pos c0]
        simp only [Option.bind_some, u1, z10, if_false]
        exact f
      · have k := K z hz
        rw [fn_X5_mayChange_31, if_neg l, its0x (by omega), hz, hk0]
        rw [hz] at k
        simp only [Option.bind_some] at k ⊢
        rw [c0] at h0
        by_cases q : i % 2 = 1
        · rw [if_pos q] at h0
          rw [← h0, if_neg (by decide), if_pos (od.mpr q)]
          exact k
        · rw [if_neg q] at h0
          rcases ho with rfl | rfl
          · exact absurd h0 (by decide)
          · rw [if_pos rfl, if_neg (fun w => q (od.mp w))]
            exact k
    · obtain ⟨x2, r, f, z2, w2, o2, K⟩ := main 0 0 (Or.inr ⟨rfl, rfl⟩) (by
        rw [h0] at c0
        by_cases q : i % 2 = 1
        · rw [if_pos q] at c0 ⊢
          rcases ho with rfl | rfl
          · exact absurd rfl c0
          · decide
        · rw [if_neg q] at c0 ⊢
          rcases ho with rfl | rfl
          · rfl
          · exact absurd (by decide) c0)
      refine ⟨x2, r, ?_, z2, w2, o2, fun z hz => ?_⟩
      · rw [fn_X4_mayChange_34, if_neg l, if_neg c0]
        simp only [Option.bind_some, u0, if_true]
        exact f
      · have k := K z hz
        rw [fn_X5_mayChange_31, if_neg l, its0x (by omega), hz, hk0]
        rw [hz] at k
        simp only [Option.bind_some] at k ⊢
        rw [h0] at c0
        by_cases q : i % 2 = 1
        · rw [if_pos q] at c0
          rcases ho with rfl | rfl
          · exact absurd rfl c0
          · rw [if_pos rfl, if_pos (od.mpr q)]
            exact k
        · rw [if_neg q] at c0
          rcases ho with rfl | rfl
          · rw [if_neg (by decide), if_neg (fun w => q (od.mp w))]
            exact k
          · exact absurd (by decide) c0
theorem P_mayChange {x : mm_M} (hI : Inv x) (a : Int32) : ∃ x1 r, fn_X4_mayChange a x = some (x1, r) ∧ fn_X5_mayChange a x1 = some r ∧ Inv x1 := by
  obtain ⟨c, hR⟩ := Inv_rd hI
  obtain ⟨hc, h8, hx, hl, hb⟩ := id hR
  have sS := hI.2.2.1.1
  unfold fn_X4_mayChange
  rw [B_find hc hx]
  simp only [Option.bind_some]
  by_cases h : 0 ≤ a ∧ a < nI c
  · obtain ⟨i, hi, rfl⟩ := pu_inL hc h
    have k1 : mm_kd (3 + 5 + i) = 1 := kd_l (by omega)
    rw [if_pos h, nI_clamp (by omega), mm_oc_some, if_pos k1, hl i hi 3 (by omega)]
    by_cases c3 : x 158 (71 + 8 * i + 3) = 0
    · obtain ⟨x1, f1, e1, o1⟩ := T_copy hR hI.1 hi
      have R1 := Rd_of hR o1
      obtain ⟨x2, r, f2, z2, w2, o2, K⟩ := mc_eq (c := c) hi (hb i hi).1 100 1 101 x1 (by omega) (by omega) (by omega) R1 (by rw [o1 158 (by omega)]) (fun j hj => by rw [o1 2 (by omega), o1 158 (by omega)]; exact sS j hj) ((e1 3 (by omega)).trans c3) (e1 0 (by omega))
      have oo : ∀ a, a ≠ 21 → x2 a = x a := fun a ha => (o2 a ha).trans (o1 a ha)
      refine ⟨x2, r, ?_, ?_, Inv_if hI (fun a l1 _ => oo a l1) w2 z2 (fun j hj => by rw [oo 157 (by omega)])⟩
      · rw [if_pos c3, f1]; exact f2
      · unfold fn_X5_mayChange
        have k := K x2 (o2 158 (by omega))
        rw [e1 2 (by omega)] at k
        rw [isL_x (Rd_of hR oo), if_pos h]
        simp only [Option.bind_some]
        rw [if_neg (show ¬ (1 : Int32) = 0 by decide), its3x (by omega), its2x (by omega), oo 158 (by omega), c3]
        simp only [Option.bind_some, z01, if_false]
        exact k
    · rw [if_neg c3]
      refine ⟨x, 0, rfl, ?_, hI⟩
      unfold fn_X5_mayChange
      rw [isL_x hR, if_pos h]
      simp only [Option.bind_some]
      rw [if_neg (show ¬ (1 : Int32) = 0 by decide), its3x (by omega), (hb i hi).2.resolve_left c3]
      rfl
  · rw [if_neg h, mm_oc_none]
    refine ⟨x, -1, rfl, ?_, hI⟩
    unfold fn_X5_mayChange
    rw [isL_x hR, if_neg h]; rfl
