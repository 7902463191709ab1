/-! A MINUTE, AS THE LAW ASKS -/
section PAS
variable {x : mm_M} {v w : Nat → Int32} {dd : Nat → Int32} {c i : Nat}
theorem L_aged (h : St x w) (hc : c ≤ 8) (h8 : w 8 = nI c) (hi : i < c) (hd : ∀ k, k < 8 * c → dd k = v (71 + k)) (hz : v (71 + 8 * i + 3) = 0 → v (71 + 8 * i + 4) = 0) (hb : bz (v (71 + 8 * i + 3))) (hs : ∀ j, j < 7 → w j = v j) (hm : ∀ m, m < 8 → w (71 + 8 * i + m) = mst v i (71 + 8 * i + m)) :
    fn_L_aged dd (nI i) x = some 1 := by
  have hi8 : i < 8 := by omega
  have z10 : ((1 : Int32) = 0) = False := eq_false (by decide)
  have z01 : ((0 : Int32) = 1) = False := eq_false (by decide)
  have k2 := (hm 2 (by omega)).trans (mst2 v i)
  have k3 := (hm 3 (by omega)).trans (mst3 v i)
  have k4 := (hm 4 (by omega)).trans (mst4 v i)
  have k5 := (hm 5 (by omega)).trans (mst5 v i)
  have k0 : w (71 + 8 * i) = v (71 + 8 * i) := (hm 0 (by omega)).trans (mst_ne (by omega))
  have k1 : w (71 + 8 * i + 1) = v (71 + 8 * i + 1) := (hm 1 (by omega)).trans (mst_ne (by omega))
  have g0 := in64 (a := 8 * i) (by omega)
  have g1 := in64 (a := 8 * i + 1) (by omega)
  have g2 := in64 (a := 8 * i + 2) (by omega)
  have g3 := in64 (a := 8 * i + 3) (by omega)
  have g4 := in64 (a := 8 * i + 4) (by omega)
  have g5 := in64 (a := 8 * i + 5) (by omega)
  have t0 := cl64 (a := 8 * i) (by omega)
  have t1 := cl64 (a := 8 * i + 1) (by omega)
  have t2 := cl64 (a := 8 * i + 2) (by omega)
  have t3 := cl64 (a := 8 * i + 3) (by omega)
  have t4 := cl64 (a := 8 * i + 4) (by omega)
  have t5 := cl64 (a := 8 * i + 5) (by omega)
  have d0 : dd (8 * i) = v (71 + 8 * i) := d_at hd hi (j := 0) (by omega)
  have d1 := d_at hd hi (j := 1) (by omega)
  have d2 := d_at hd hi (j := 2) (by omega)
  have d3 := d_at hd hi (j := 3) (by omega)
  have d4 := d_at hd hi (j := 4) (by omega)
  have d5 := d_at hd hi (j := 5) (by omega)
  have C10 := c10 h
  have C12 := c12 h
  have C13 := c13 h
  rw [hs 3 (by omega)] at C10
  rw [hs 5 (by omega)] at C12
  rw [hs 6 (by omega)] at C13
  have E : pmV v i = pm (v 3) (v 5) (v 6) (v (71 + 8 * i + 2)) (v (71 + 8 * i + 5)) (v (71 + 8 * i + 3)) (v (71 + 8 * i + 4)) := rfl
  have lf : ∀ {a b : Int32}, b ≤ a → (a < b) = False := fun q => eq_false (Int32.not_lt.mpr q)
  have lt : ∀ {a b : Int32}, ¬ b ≤ a → (a < b) = True := fun q => eq_true (Int32.not_le.mp q)
  unfold fn_L_aged
  simp only [m8, p1, p2, p3, p4, p5, g0, g1, g2, g3, g4, g5, t0, t1, t2, t3, t4, t5, d0, d1, d2, d3, d4, d5, if_false, Option.bind_some, C10, C12, C13, o0 h hc h8 hi, o1 h hc h8 hi, o2 h hc h8 hi, o3 h hc h8 hi, o4 h hc h8 hi, o5 h hc h8 hi, k0, k1, k2, k3, k4, k5]
  by_cases q1 : v (71 + 8 * i + 5) + 1 < v 3
  · rcases hb with e3 | e3
    · have z4 := hz e3
      have E' : pmV v i = (v (71 + 8 * i + 2), v (71 + 8 * i + 5) + 1, 0, 0, 0) := by
        rw [E]; unfold pm; simp only [q1, e3, z4, eq_self, if_true]
      simp only [E', e3, z4, q1, z01, eq_self, if_true, if_false]
    · by_cases q2 : v (71 + 8 * i + 2) < v 5
      · have E' : pmV v i = (v (71 + 8 * i + 2), v (71 + 8 * i + 5) + 1, 0, 0, 1) := by
          rw [E]; unfold pm; simp only [q1, e3, q2, z10, eq_self, if_true, if_false]
        by_cases q4 : v 6 ≤ v (71 + 8 * i + 4) + 1
        · simp only [E', e3, q1, q2, lf q4, z01, z10, eq_self, if_true, if_false]
        · simp only [E', e3, q1, q2, lt q4, z01, z10, eq_self, if_true, if_false]
      · by_cases q4 : v 6 ≤ v (71 + 8 * i + 4) + 1
        · have E' : pmV v i = (v 5 - 1, v (71 + 8 * i + 5) + 1, 0, 0, 1) := by
            rw [E]; unfold pm; simp only [q1, e3, q2, q4, z10, eq_self, if_true, if_false]
          simp only [E', e3, q1, q2, lf q4, z01, z10, eq_self, if_true, if_false]
        · have E' : pmV v i = (v (71 + 8 * i + 2), v (71 + 8 * i + 5) + 1, 1, v (71 + 8 * i + 4) + 1, 0) := by
            rw [E]; unfold pm; simp only [q1, e3, q2, q4, z10, eq_self, if_true, if_false]
          simp only [E', e3, q1, q2, lt q4, z01, z10, eq_self, if_true, if_false]
  · rcases hb with e3 | e3
    · have z4 := hz e3
      have E' : pmV v i = (v (71 + 8 * i + 2) / 2, 0, 0, 0, 0) := by
        rw [E]; unfold pm; simp only [q1, e3, z4, eq_self, if_true, if_false]
      simp only [E', e3, z4, q1, z01, eq_self, if_true, if_false]
    · by_cases q2 : v (71 + 8 * i + 2) / 2 < v 5
      · have E' : pmV v i = (v (71 + 8 * i + 2) / 2, 0, 0, 0, 1) := by
          rw [E]; unfold pm; simp only [q1, e3, q2, z10, eq_self, if_true, if_false]
        by_cases q4 : v 6 ≤ v (71 + 8 * i + 4) + 1
        · simp only [E', e3, q1, q2, lf q4, z01, z10, eq_self, if_true, if_false]
        · simp only [E', e3, q1, q2, lt q4, z01, z10, eq_self, if_true, if_false]
      · by_cases q4 : v 6 ≤ v (71 + 8 * i + 4) + 1
        · have E' : pmV v i = (v 5 - 1, 0, 0, 0, 1) := by
            rw [E]; unfold pm; simp only [q1, e3, q2, q4, z10, eq_self, if_true, if_false]
          simp only [E', e3, q1, q2, lf q4, z01, z10, eq_self, if_true, if_false]
        · have E' : pmV v i = (v (71 + 8 * i + 2) / 2, 0, 1, v (71 + 8 * i + 4) + 1, 0) := by
            rw [E]; unfold pm; simp only [q1, e3, q2, q4, z10, eq_self, if_true, if_false]
          simp only [E', e3, q1, q2, lt q4, z01, z10, eq_self, if_true, if_false]
theorem pm_sh1 {h b l f s sh fr : Int32} (q : ¬ (pm h b l f s sh fr).2.2.2.2 = 0) : ¬ sh = 0 := by
  intro e
  subst e
  refine q ?_
  unfold pm
  simp only [eq_self, if_true]
def Z4 (v : Nat → Int32) (c : Nat) : Prop := ∀ i, i < c → v (71 + 8 * i + 3) = 0 → v (71 + 8 * i + 4) = 0
theorem L_ps18 (h : St x w) (hv : WV v) (hc : c ≤ 8) (h8 : w 8 = nI c) (hd : ∀ k, k < 8 * c → dd k = v (71 + k)) (hz : Z4 v c) (hs : ∀ j, j < 7 → w j = v j) (hm : ∀ l, l < c → ∀ m, m < 8 → w (71 + 8 * l + m) = mst v l (71 + 8 * l + m)) (a2 a3 : Int32) :
    ∀ (n i fuel : Nat), i + n = c → n < fuel → fn_L_passed_18 fuel dd a2 a3 (nI (cntP (fp v) i)) (nI i) x = some (nI (cntP (fp v) c)) := by
  intro n
  induction n with
  | zero =>
    intro i fuel hi hf
    obtain ⟨m, rfl⟩ : ∃ m, fuel = m + 1 := ⟨fuel - 1, by omega⟩
    obtain rfl : i = c := by omega
    rw [fn_L_passed_18, R_c1 h, h8]
    simp only [Option.bind_some]
    rw [if_pos (nI_le (by omega) (by omega))]
  | succ n ih =>
    intro i fuel hi hf
    obtain ⟨m, rfl⟩ : ∃ m, fuel = m + 1 := ⟨fuel - 1, by omega⟩
    have hi8 : i < c := by omega
    have b3 := (hv.2.2.2 i (by omega)).2.1
    have ag := L_aged h hc h8 hi8 hd (hz i hi8) b3 hs (hm i hi8)
    have k3 := (hm i hi8 3 (by omega)).trans (mst3 v i)
    have d3 := d_at hd hi8 (j := 3) (by omega)
    have I := ih (i + 1) m (by omega) (by omega)
    have es : nI (cntP (fp v) i) + (v (71 + 8 * i + 3) - (pmV v i).2.2.1) = nI (cntP (fp v) (i + 1)) := by
      by_cases f0 : (pmV v i).2.2.2.2 = 0
      · have e : (pmV v i).2.2.1 = v (71 + 8 * i + 3) := pm_fl0 f0
        rw [e, cnt_n (fp_f f0), Int32.sub_self, Int32.add_zero]
      · have e : (pmV v i).2.2.1 = 0 := pm_fl1 f0
        have e1 : v (71 + 8 * i + 3) = 1 := b3.elim (fun q => absurd q (pm_sh1 f0)) id
        rw [e, e1, cnt_y (fp_t f0), ← nI_1]
        rfl
    rw [fn_L_passed_18, R_c1 h, h8]
    simp only [Option.bind_some]
    rw [if_neg (nI_ge (by omega) (by omega)), ag]
    simp only [Option.bind_some]
    rw [if_neg (show ¬ (1 : Int32) = 0 by decide), m8, p3, if_neg (nI_in (by omega) (by omega)), cl64 (a := 8 * i + 3) (by omega), o3 h hc h8 hi8, k3, d3]
    simp only [Option.bind_some, nI_1]
    rw [es]
    exact I
theorem L_ps71 (h : St x w) (hc : c ≤ 8) (h8 : w 8 = nI c) {m : Nat} (hm8 : m ≤ 8) (hL : Lg w m c) (a2 a4 : Int32) :
    ∀ (n t fuel : Nat), t + n = m → n < fuel → fn_L_passed_71 fuel a2 (nI m) a4 (nI t) x = some () := by
  obtain ⟨e, h1, h2, h10, hl⟩ := hL
  intro n
  induction n with
  | zero =>
    intro t fuel hi hf
    obtain ⟨k, rfl⟩ : ∃ m, fuel = m + 1 := ⟨fuel - 1, by omega⟩
    rw [fn_L_passed_71, if_pos (nI_le (by omega) (by omega))]
  | succ n ih =>
    intro t fuel hi hf
    obtain ⟨k, rfl⟩ : ∃ m, fuel = m + 1 := ⟨fuel - 1, by omega⟩
    obtain ⟨g1, l, hlc, g2, g3⟩ := hl t (by omega)
    have l0 : fn_X4_log (nI t) 0 x = some 4 := by rw [← g1]; exact R_log (t := t) (j := 0) h h2 h10 (by omega) (by omega)
    have l1 : fn_X4_log (nI t) 1 x = some (nI l) := by
      rw [← g2, show 12 + 3 * t = 11 + 3 * t + 1 by omega]; exact R_log (t := t) (j := 1) h h2 h10 (by omega) (by omega)
    rw [fn_L_passed_71, if_neg (nI_ge (by omega) (by omega)), l0]
    simp only [Option.bind_some, eq_self, if_true, l1, o3 h hc h8 hlc, g3, nI_1]
    exact ih (t + 1) k (by omega) (by omega)
theorem L_passed {t : Nat} (h : St x v) (hc : c ≤ 8) (h8 : v 8 = nI c) (hd : ∀ k, k < 8 * c → dd k = v (71 + k)) (hz : Z4 v c) (ht : t ≤ 1000) (h7 : v 7 = nI t) : ∃ x', fn_L_passed dd x = some (x', 1) ∧ St x' (waitV v 1).1 ∧ MinF v (waitV v 1).1 c := by
  obtain ⟨x', f, S⟩ := Q_pass h 1
  obtain ⟨M, r⟩ := min_row h.2.1 hc h8 ht h7
  rw [r] at f
  obtain ⟨w, hw⟩ : ∃ w, w = (waitV v 1).1 := ⟨_, rfl⟩
  rw [← hw] at M S ⊢
  obtain ⟨m1, m7, m9, m2, mL⟩ := M
  have w8 : w 8 = nI c := (m1 8 (by omega) (by omega)).trans h8
  have hs : ∀ j, j < 7 → w j = v j := fun j hj => m1 j (by omega) (by omega)
  have hm := cnt_max (fp v) c
  have a18 := L_ps18 S h.2.1 hc w8 hd hz hs m2 (v 7) (nI (cntP (fp v) c)) c 0 9 (by omega) (by omega)
  have e0 : nI (cntP (fp v) 0) = 0 := nI_0
  rw [e0, nI_0] at a18
  have a71 := L_ps71 S hc w8 (by omega) mL (v 7) (nI (cntP (fp v) c)) (cntP (fp v) c) 0 9 (by omega) (by omega)
  rw [nI_0] at a71
  refine ⟨x', ?_, S, m1, m7, m9, m2, mL⟩
  unfold fn_L_passed
  rw [R_c0 h]
  simp only [Option.bind_some]
  rw [f, mm_b2_some, a18]
  simp only [Option.bind_some]
  rw [a71]
  simp only [Option.bind_some, eq_self, if_true, R_c0 S, m7]
end PAS
