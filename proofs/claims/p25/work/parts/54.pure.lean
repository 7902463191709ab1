/-! THE CLASS'S MINUTES -/
theorem pm_fl {h b l f s sh fr : Int32} : bz (pm h b l f s sh fr).2.2.2.2 := by
  unfold pm
  simp only []
  (repeat' split) <;> first | exact Or.inl rfl | exact Or.inr rfl
theorem pm_fl0 {h b l f s sh fr : Int32} (q : (pm h b l f s sh fr).2.2.2.2 = 0) : (pm h b l f s sh fr).2.2.1 = sh := by
  revert q
  unfold pm
  simp only []
  have h10 : ¬ ((1 : Int32) = 0) := by decide
  (repeat' split) <;> intro q <;> first | rfl | exact absurd q h10
theorem vz_nar {a : Int32} (h : bz a) : vp_nar .boolean a = a := by rcases h with rfl | rfl <;> rfl
theorem mloop_cnt : ∀ (n i m : Nat) (v : Nat → Int32), i + n ≤ 8 → ∃ f, f ≤ n ∧ (mloop n i (nI m) v).2 = nI (m + f) ∧ (f = 0 → ∀ k, k < 8 → (mloop n i (nI m) v).1 (71 + 8 * k) = v (71 + 8 * k) ∧ (mloop n i (nI m) v).1 (71 + 8 * k + 1) = v (71 + 8 * k + 1) ∧ (mloop n i (nI m) v).1 (71 + 8 * k + 3) = v (71 + 8 * k + 3)) := by
  intro n
  induction n with
  | zero => intro i m v _; exact ⟨0, Nat.le_refl _, rfl, fun _ k _ => ⟨rfl, rfl, rfl⟩⟩
  | succ n ih =>
    intro i m v hi
    rw [mloop]
    by_cases c : (pmV v i).2.2.2.2 = 0
    · rw [if_pos c]
      obtain ⟨f, h1, h2, h3⟩ := ih (i + 1) m (mnx v i) (by omega)
      refine ⟨f, by omega, h2, fun hf k hk => ?_⟩
      obtain ⟨a0, a1, a3⟩ := h3 hf k hk
      have e : mnx v i = mst v i := by unfold mnx; rw [if_pos c]
      have m0 : mst v i (71 + 8 * k) = v (71 + 8 * k) := mst_ne (by omega)
      have m1 : mst v i (71 + 8 * k + 1) = v (71 + 8 * k + 1) := mst_ne (by omega)
      have m3 : mst v i (71 + 8 * k + 3) = v (71 + 8 * k + 3) := by
        by_cases hki : k = i
        · subst hki
          unfold mst
          rw [upd_n (by omega), upd_s]
          exact pm_fl0 c
        · exact mst_ne (by omega)
      rw [a0, a1, a3, e, m0, m1, m3]
      exact ⟨rfl, rfl, rfl⟩
    · rw [if_neg c, nI_1]
      obtain ⟨f, h1, h2, h3⟩ := ih (i + 1) (m + 1) (mnx v i) (by omega)
      exact ⟨f + 1, by omega, by rw [h2]; exact congrArg nI (by omega), fun hf => by omega⟩
theorem B_pm14 {c : Nat} (hc : c ≤ 8) : ∀ (n i fuel : Nat) (k : Int32) (x : mm_M) (v : Nat → Int32), i + n = c → n < fuel → v 8 = nI c → WV v → SimS x 1 v → SimN x 1 v → SimJ x 1 v → SimL x 1 v → BZ x →
    ∃ x', fn_X3_passOneMinute_14 fuel k (nI i) x = some (x', (mloop n i k v).2) ∧ SimS x' 1 (mloop n i k v).1 ∧ SimN x' 1 (mloop n i k v).1 ∧ SimJ x' 1 (mloop n i k v).1 ∧ SimL x' 1 (mloop n i k v).1 ∧ BZ x' ∧ x' 1 = x 1 ∧ Fr15 x x' := by
  intro n
  induction n with
  | zero =>
    intro i fuel k x v hi hf h8 hv sS sN sJ sL hB
    obtain ⟨m, rfl⟩ : ∃ m, fuel = m + 1 := ⟨fuel - 1, by omega⟩
    refine ⟨x, ?_, sS, sN, sJ, sL, hB, rfl, fun _ _ => rfl⟩
    have hx : x 1 2 = nI c := sN.1.trans h8
    rw [fn_X3_passOneMinute_14, hx, if_pos (nI_le (by omega) (by omega))]
    rfl
  | succ n ih =>
    intro i fuel k x v hi hf h8 hv sS sN sJ sL hB
    obtain ⟨m, rfl⟩ : ∃ m, fuel = m + 1 := ⟨fuel - 1, by omega⟩
    have hx : x 1 2 = nI c := sN.1.trans h8
    have hi8 : i < 8 := by omega
    have e8 : 3 + 5 + i = 8 + i := by omega
    have hk : mm_kd (8 + i) = 1 := by rw [← e8]; exact kd_l hi8
    have row : ∀ j, j < 8 → x (8 + i) j = v (71 + 8 * i + j) := by
      intro j hj
      obtain ⟨c', hc', e', hl⟩ := sL
      have hcc : c' = c := by
        have : nI c' = nI c := e'.symm.trans h8
        rwa [nI_eq (by omega) (by omega)] at this
      subst hcc
      exact hl i (by omega) j hj
    have s3 : x 2 3 = v 3 := sS 3 (by omega)
    have s5 : x 2 5 = v 5 := sS 5 (by omega)
    have s6 : x 2 6 = v 6 := sS 6 (by omega)
    obtain ⟨P, hP⟩ : ∃ P, P = pmV v i := ⟨_, rfl⟩
    have hfl : bz P.2.2.2.2 := by rw [hP]; exact pm_fl
    have hpm : fn_X3_passMinuteOf (8 + i) x = some (st4 x (8 + i) 2 5 3 4 P.1 P.2.1 P.2.2.1 P.2.2.2.1, P.2.2.2.2) := by
      unfold fn_X3_passMinuteOf
      rw [if_pos hk, pu_X1_passMinute hk (by rw [s5]; exact hv.1.2.2.2.2.2.1.1), s3, s5, s6, row 2 (by omega), row 3 (by omega), row 4 (by omega), row 5 (by omega)]
      have hP' : pm (v 3) (v 5) (v 6) (v (71 + 8 * i + 2)) (v (71 + 8 * i + 5)) (v (71 + 8 * i + 3)) (v (71 + 8 * i + 4)) = P := by rw [hP]; rfl
      rw [hP', mm_b2_some, if_pos (vz_nar hfl)]
    have hmst : mst v i = upd (upd (upd (upd v (71 + 8 * i + 2) P.1) (71 + 8 * i + 5) P.2.1) (71 + 8 * i + 3) P.2.2.1) (71 + 8 * i + 4) P.2.2.2.1 := by unfold mst; rw [hP]
    obtain ⟨y, hy⟩ : ∃ y, y = st4 x (8 + i) 2 5 3 4 P.1 P.2.1 P.2.2.1 P.2.2.2.1 := ⟨_, rfl⟩
    have yo : ∀ a, a ≠ 8 + i → y a = x a := fun a ha => by rw [hy, st4_ne ha]
    have yk : ∀ j, j < 8 → y (8 + i) j = mst v i (71 + 8 * i + j) := by
      intro j hj
      rw [hy, st4_k, hmst]
      rcases (show j = 2 ∨ j = 5 ∨ j = 3 ∨ j = 4 ∨ (j ≠ 2 ∧ j ≠ 5 ∧ j ≠ 3 ∧ j ≠ 4) by omega) with rfl | rfl | rfl | rfl | ⟨n2, n5, n3, n4⟩
      · rw [if_pos rfl, upd_n (by omega), upd_n (by omega), upd_n (by omega), upd_s]
      · rw [if_neg (by omega), if_pos rfl, upd_n (by omega), upd_n (by omega), upd_s]
      · rw [if_neg (by omega), if_neg (by omega), if_pos rfl, upd_n (by omega), upd_s]
      · rw [if_neg (by omega), if_neg (by omega), if_neg (by omega), if_pos rfl, upd_s]
      · rw [if_neg n2, if_neg n5, if_neg n3, if_neg n4, upd_n (by omega), upd_n (by omega), upd_n (by omega), upd_n (by omega)]
        exact row j hj
    have hWm := WV_mst hi8 hv
    have sLy : SimL y 1 (mst v i) := SimL_up sL hi8 (fun a _ _ ha => yo a ha) yk (fun j h1 h2 => mst_ne (by omega))
    have sJy : SimJ y 1 (mst v i) := SimJ_same sJ (fun a h1 h2 => yo a (by omega)) (fun j h1 h2 => mst_ne (by omega))
    have sSy : SimS y 1 (mst v i) := fun j hj => by rw [yo _ (by omega), mst_ne (by omega)]; exact sS j hj
    have sNy : SimN y 1 (mst v i) := ⟨by rw [yo _ (by omega), mst_ne (by omega)]; exact sN.1, by rw [yo _ (by omega), mst_ne (by omega)]; exact sN.2⟩
    have hBy : BZ y := by
      intro a ha
      by_cases hai : a = 8 + i
      · subst hai
        rw [yk 0 (by omega), yk 3 (by omega)]
        exact ⟨(hWm.2.2.2 i hi8).1, (hWm.2.2.2 i hi8).2.1⟩
      · rw [yo a hai]; exact hB a ha
    have hfr : Fr15 x y := fun a ha => yo a (by omega)
    have h8m : mst v i 8 = nI c := by rw [mst_ne (by omega), h8]
    rw [fn_X3_passOneMinute_14, hx, if_neg (nI_ge (by omega) (by omega)), nI_clamp (by omega), e8]
    have hin : ¬ (nI i < 0 ∨ 8 ≤ i) := by
      have := nI_in (N := 8) hi8 (by omega)
      rwa [nI_clamp (by omega)] at this
    rw [if_neg hin, hpm, mm_b2_some, mloop, ← hP, ← hy]
    by_cases c0 : P.2.2.2.2 = 0
    · have e : mnx v i = mst v i := by unfold mnx; rw [← hP, if_pos c0]
      rw [if_pos c0, if_pos c0, e]
      simp only [Option.bind_some, nI_1]
      obtain ⟨x', f', a1, a2, a3, a4, a5, a6, a7⟩ := ih (i + 1) m k y (mst v i) (by omega) (by omega) h8m hWm sSy sNy sJy sLy hBy
      exact ⟨x', f', a1, a2, a3, a4, a5, a6.trans (yo 1 (by omega)), fun a ha => (a7 a ha).trans (hfr a ha)⟩
    · have e : mnx v i = noteV (mst v i) 4 (nI i) := by unfold mnx; rw [← hP, if_neg c0]
      rw [if_neg c0, if_neg c0, e]
      obtain ⟨y2, f2, j2, o2⟩ := B_add (w := 4) (l := nI i) (t := y 1 3) sJy sNy.2
      rw [f2]
      simp only [Option.bind_some, nI_1]
      have nlo : ∀ j, j < 10 → noteV (mst v i) 4 (nI i) j = mst v i j := fun j hj => noteV_lo hj
      obtain ⟨x', f', a1, a2, a3, a4, a5, a6, a7⟩ := ih (i + 1) m (k + 1) y2 (noteV (mst v i) 4 (nI i)) (by omega) (by omega) (by rw [nlo 8 (by omega), h8m]) (WV_note hWm)
        (fun j hj => by rw [o2 _ (by omega) (by omega) (by omega) (by omega), nlo j (by omega)]; exact sSy j hj)
        ⟨by rw [o2 _ (by omega) (by omega) (by omega) (by omega), nlo 8 (by omega)]; exact sNy.1, by rw [o2 _ (by omega) (by omega) (by omega) (by omega), nlo 7 (by omega)]; exact sNy.2⟩ j2
        (SimL_same sLy (fun a h1 h2 => o2 a (by omega) (by omega) (by omega) (by omega)) (fun j h1 => by
          rcases h1 with rfl | h1
          · exact nlo 8 (by omega)
          · exact noteV_hi (by omega)))
        (fun a ha => by
          have na := kd_not ha
          rw [o2 a na.2.2.1 na.2.2.2.1 na.2.2.2.2.1 na.2.2.2.2.2.1]; exact hBy a ha)
      exact ⟨x', f', a1, a2, a3, a4, a5, (a6.trans (o2 1 (by omega) (by omega) (by omega) (by omega))).trans (yo 1 (by omega)), fun a ha => ((a7 a ha).trans (o2 a (by omega) (by omega) (by omega) (by omega))).trans (hfr a ha)⟩
theorem B_min {x : mm_M} {v : Nat → Int32} (hv : WV v) (hS : Sim x 1 v) (hB : BZ x) : ∃ x', fn_X3_passOneMinute x = some (x', (minV v).2) ∧ Sim x' 1 (minV v).1 ∧ BZ x' ∧ Fr15 x x' := by
  obtain ⟨c, hc, h8⟩ := hv.2.1
  obtain ⟨sS, sN, sT, sJ, sL⟩ := hS
  obtain ⟨v1, hv1⟩ : ∃ v1, v1 = upd v 7 (v 7 + 1) := ⟨_, rfl⟩
  have vo : ∀ j, j ≠ 7 → v1 j = v j := fun j hj => by rw [hv1, upd_n hj]
  have hW1 : WV v1 := by rw [hv1]; exact WV_up hv (by omega) (fun i h => by omega) (fun i h => by omega) (fun i h => by omega)
  obtain ⟨y, hy⟩ : ∃ y, y = mm_up x 1 3 (x 1 3 + 1) := ⟨_, rfl⟩
  have yo : ∀ a, a ≠ 1 → y a = x a := fun a ha => by rw [hy, mm_up_ne ha]
  have y1 : ∀ j, j ≠ 3 → y 1 j = x 1 j := fun j hj => by rw [hy, mm_up_app, if_neg (fun q => hj q.2)]
  have y13 : y 1 3 = x 1 3 + 1 := by rw [hy, mm_up_app, if_pos ⟨rfl, rfl⟩]
  have hmin : minV v = (swV v (mloop c 0 0 v1).1, (mloop c 0 0 v1).2) := by
    unfold minV; rw [h8, nI_clamp (by omega), hv1]
  obtain ⟨x2, f2, a1, a2, a3, a4, a5, a6, a7⟩ := B_pm14 hc c 0 9 0 y v1 (by omega) (by omega) (by rw [vo 8 (by omega), h8]) hW1
    (fun j hj => by rw [yo _ (by omega), vo j (by omega)]; exact sS j hj)
    ⟨by rw [y1 2 (by omega), vo 8 (by omega)]; exact sN.1, by rw [y13, hv1, upd_s, sN.2]⟩
    (SimJ_same sJ (fun a h1 _ => yo a (by omega)) (fun j h1 _ => vo j (by omega)))
    (SimL_same sL (fun a h1 _ => yo a (by omega)) (fun j h1 => vo j (by omega)))
    (fun a ha => by rw [yo a (kd_not ha).1]; exact hB a ha)
  rw [nI_0] at f2
  have fy : Fr15 x y := fun a ha => yo a (by omega)
  unfold fn_X3_passOneMinute
  simp only [Option.bind_some]
  rw [← hy, f2, mm_b2_some, hmin]
  obtain ⟨w, hw⟩ : ∃ w, w = (mloop c 0 0 v1).1 := ⟨_, rfl⟩
  rw [← hw] at a1 a2 a3 a4 ⊢
  have hWw : WV w := by rw [hw]; exact WV_mloop _ _ _ _ (by omega) hW1
  have w9 : w 9 = v 9 := by rw [hw, mloop_lo _ _ _ _ _ (by omega), vo 9 (by omega)]
  have w8 : w 8 = v 8 := by rw [hw, mloop_lo _ _ _ _ _ (by omega), vo 8 (by omega)]
  have t4 : x2 1 4 = taken v := by rw [a6, y1 4 (by omega)]; exact sT.1
  have t5 : x2 1 5 = w 9 := by rw [a6, y1 5 (by omega), w9]; exact sT.2
  obtain ⟨f, g1, g2, g3⟩ := mloop_cnt c 0 0 v1 (by omega)
  rw [nI_0, Nat.zero_add] at g2
  rw [nI_0] at g3
  rw [g2]
  have h0 : (nI f ≤ 0) ↔ f = 0 := by
    show nI f ≤ nI 0 ↔ f = 0
    rw [nI_leI (by omega) (by omega)]; omega
  by_cases cf : f = 0
  · simp only []
    rw [if_pos (h0.mpr cf)]
    have hk := g3 cf
    rw [← hw] at hk
    have htk : taken w = taken v := taken_congr w8 hv.2.1 (fun k hk8 => by
      obtain ⟨b0, b1, b3⟩ := hk k hk8
      rw [b0, b1, b3, vo _ (by omega), vo _ (by omega), vo _ (by omega)]
      exact ⟨rfl, rfl, rfl⟩)
    refine ⟨x2, rfl, ⟨?_, ?_, ?_, ?_, ?_⟩, a5, fun a ha => (a7 a ha).trans (fy a ha)⟩
    · intro j hj; rw [swV_ne (by omega)]; exact a1 j hj
    · exact ⟨by rw [swV_ne (by omega)]; exact a2.1, by rw [swV_ne (by omega)]; exact a2.2⟩
    · refine ⟨by rw [taken_sw hWw.2.1, htk, t4], ?_⟩
      rw [t5]
      unfold swV
      rw [upd_s, if_pos htk, Int32.add_zero]
    · exact SimJ_same a3 (fun _ _ _ => rfl) (fun j h1 _ => swV_ne (by omega))
    · exact SimL_same a4 (fun _ _ _ => rfl) (fun j h1 => swV_ne (by omega))
  · simp only []
    rw [if_neg (fun q => cf (h0.mp q))]
    obtain ⟨x3, f3, S3, o3⟩ := B_end (v := v) hWw a1 a2 a3 a4 t4 t5
    rw [f3]
    simp only [Option.bind_some]
    refine ⟨x3, rfl, S3, fun a ha => ?_, fun a ha => ((o3 a (by omega)).trans (a7 a ha)).trans (fy a ha)⟩
    rw [o3 a (kd_not ha).1]; exact a5 a ha
theorem B_wait {a : Nat} (ha : a ≤ 999) : ∀ (n j fuel : Nat) (k : Int32) (x : mm_M) (v : Nat → Int32), j + n = a → n < fuel → WV v → Sim x 1 v → BZ x →
    ∃ x', fn_X3_passMinutes_33 fuel (nI a) k (nI j) x = some (x', (wloop n k v).2) ∧ Sim x' 1 (wloop n k v).1 ∧ BZ x' ∧ Fr15 x x' := by
  intro n
  induction n with
  | zero =>
    intro j fuel k x v hj hf _ hS hB
    obtain ⟨m, rfl⟩ : ∃ m, fuel = m + 1 := ⟨fuel - 1, by omega⟩
    refine ⟨x, ?_, hS, hB, fun _ _ => rfl⟩
    rw [fn_X3_passMinutes_33, if_pos (nI_le (by omega) (by omega))]
    rfl
  | succ n ih =>
    intro j fuel k x v hj hf hv hS hB
    obtain ⟨m, rfl⟩ : ∃ m, fuel = m + 1 := ⟨fuel - 1, by omega⟩
    obtain ⟨x1, h1, S1, B1, F1⟩ := B_min hv hS hB
    obtain ⟨x2, h2, S2, B2, F2⟩ := ih (j + 1) m (k + (minV v).2) x1 (minV v).1 (by omega) (by omega) (WV_min hv) S1 B1
    refine ⟨x2, ?_, S2, B2, fun a ha => (F2 a ha).trans (F1 a ha)⟩
    rw [fn_X3_passMinutes_33, if_neg (nI_ge (by omega) (by omega)), h1]
    simp only [mm_b2_some, Option.bind_some, nI_1]
    rw [h2]
    rfl
theorem B_pass {x : mm_M} {v : Nat → Int32} (hv : WV v) (hS : Sim x 1 v) (hB : BZ x) (a : Int32) : ∃ x', fn_X3_passMinutes a x = some (x', (waitV v a).2) ∧ Sim x' 1 (waitV v a).1 ∧ BZ x' ∧ Fr15 x x' := by
  have h7 : x 1 3 = v 7 := hS.2.1.2
  unfold fn_X3_passMinutes waitV
  by_cases c1 : a < 1
  · have nc : ¬ (1 ≤ a ∧ a ≤ 999) := fun q => absurd c1 (by rw [Int32.not_lt]; exact q.1)
    rw [if_pos c1, if_neg nc]
    exact ⟨x, rfl, hS, hB, fun _ _ => rfl⟩
  · rw [if_neg c1]
    by_cases c2 : a ≤ 999
    · have hcd : 1 ≤ a ∧ a ≤ 999 := ⟨Int32.not_lt.mp c1, c2⟩
      rw [if_pos c2, if_pos hcd, h7]
      by_cases c3 : v 7 + a ≤ 99999
      · rw [if_pos c3, if_pos c3]
        obtain ⟨k, hk, rfl⟩ := nI_of2 (x := a) (M := 999) (n := 999) (by decide) (by
          have := hcd.1
          rw [Int32.le_iff_toInt_le] at this
          rw [Int32.lt_iff_toInt_lt]
          have e1 : (1 : Int32).toInt = 1 := by decide
          have e0 : (0 : Int32).toInt = 0 := by decide
          omega) c2
        obtain ⟨x', h, S', B', F'⟩ := B_wait hk k 0 1000 0 x v (by omega) (by omega) hv hS hB
        rw [nI_0] at h
        rw [h, nI_clamp (by omega)]
        exact ⟨x', rfl, S', B', F'⟩
      · rw [if_neg c3, if_neg c3]
        exact ⟨x, rfl, hS, hB, fun _ _ => rfl⟩
    · have nc : ¬ (1 ≤ a ∧ a ≤ 999) := fun q => c2 q.2
      rw [if_neg c2, if_neg nc]
      exact ⟨x, rfl, hS, hB, fun _ _ => rfl⟩

