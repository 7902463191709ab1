/-! A CHANGE, AS THE LAW ASKS -/
theorem due_small {s : Int32} (h : s ≤ 99999) : heldf s = s := by
  unfold heldf
  by_cases c : 99999 ≤ s
  · rw [if_pos c]
    refine Int32.toInt_inj.mp ?_
    rw [Int32.le_iff_toInt_le] at h c
    omega
  · rw [if_neg c]
theorem due_big {s : Int32} (h : ¬ s ≤ 99999) : heldf s = 99999 := by
  unfold heldf
  rw [if_pos]
  rw [Int32.le_iff_toInt_le] at h ⊢
  omega
section CHG
variable {x : mm_M} {v w : Nat → Int32} {dd : Nat → Int32} {c i what sort : Nat} {value : Int32}
theorem d_at (hd : ∀ k, k < 8 * c → dd k = v (71 + k)) (hi : i < c) {j : Nat} (hj : j < 8) : dd (8 * i + j) = v (71 + 8 * i + j) := by
  rw [hd _ (by omega), show 71 + (8 * i + j) = 71 + 8 * i + j by omega]
theorem m8 (i : Nat) : (8 : Int32) * nI i = nI (8 * i) := by show nI 8 * nI i = _; rw [pu_mul]
theorem p1 (a : Nat) : nI a + 1 = nI (a + 1) := nI_1 a
theorem p2 (a : Nat) : nI a + 2 = nI (a + 2) := by show nI a + nI 2 = _; rw [nI_add]
theorem p3 (a : Nat) : nI a + 3 = nI (a + 3) := by show nI a + nI 3 = _; rw [nI_add]
theorem p4 (a : Nat) : nI a + 4 = nI (a + 4) := by show nI a + nI 4 = _; rw [nI_add]
theorem p5 (a : Nat) : nI a + 5 = nI (a + 5) := by show nI a + nI 5 = _; rw [nI_add]
theorem p6 (a : Nat) : nI a + 6 = nI (a + 6) := by show nI a + nI 6 = _; rw [nI_add]
theorem p7 (a : Nat) : nI a + 7 = nI (a + 7) := by show nI a + nI 7 = _; rw [nI_add]
theorem in64c {a : Nat} (h : a < 64) : (nI a < 0 ∨ 64 ≤ (nI a).toNatClampNeg) = False := eq_false (nI_in h (by omega))
theorem in64 {a : Nat} (h : a < 64) : (nI a < 0 ∨ 64 ≤ a) = False := eq_false (fun q => q.elim (nI_pos (by omega)) (by omega))
theorem cl64 {a : Nat} (h : a < 64) : (nI a).toNatClampNeg = a := nI_clamp (by omega)
theorem c7s (hs : sort < 7) (h : St x w) : fn_X4_count ((7 : Int32) + nI sort) x = some (w sort) := by
  have e : (7 : Int32) + nI sort = nI (7 + sort) := by show nI 7 + nI sort = _; rw [nI_add]
  rw [e]; exact R_cs h sort hs
theorem c10 (h : St x w) : fn_X4_count 10 x = some (w 3) := R_cs h 3 (by omega)
theorem c11 (h : St x w) : fn_X4_count 11 x = some (w 4) := R_cs h 4 (by omega)
theorem c12 (h : St x w) : fn_X4_count 12 x = some (w 5) := R_cs h 5 (by omega)
theorem c13 (h : St x w) : fn_X4_count 13 x = some (w 6) := R_cs h 6 (by omega)
theorem L_changed (h : St x w) (hc : c ≤ 8) (h8 : w 8 = nI c) (hi : i < c) (hs : sort < 7) (hd : ∀ k, k < 8 * c → dd k = v (71 + k)) (hz : v (71 + 8 * i + 3) = 0 → v (71 + 8 * i + 4) = 0) (hb : bz (v (71 + 8 * i + 3))) (hF : ChF v w i what value sort) :
    fn_L_changed dd (nI i) (nI sort) (dueV v i sort) x = some 1 := by
  obtain ⟨k0, k9, k2, k6, k5, -, -, -, hN⟩ := hF
  have hi8 : i < 8 := by omega
  have hb3 : ¬ v (71 + 8 * i + 3) = 0 → v (71 + 8 * i + 3) = 1 := fun z => hb.elim (fun q => absurd q z) id
  have g2 := in64 (a := 8 * i + 2) (by omega)
  have g3 := in64 (a := 8 * i + 3) (by omega)
  have g4 := in64 (a := 8 * i + 4) (by omega)
  have g5 := in64 (a := 8 * i + 5) (by omega)
  have g6 := in64 (a := 8 * i + 6) (by omega)
  have g7 := in64 (a := 8 * i + 7) (by omega)
  have t2 := cl64 (a := 8 * i + 2) (by omega)
  have t3 := cl64 (a := 8 * i + 3) (by omega)
  have t4 := cl64 (a := 8 * i + 4) (by omega)
  have t5 := cl64 (a := 8 * i + 5) (by omega)
  have t6 := cl64 (a := 8 * i + 6) (by omega)
  have t7 := cl64 (a := 8 * i + 7) (by omega)
  have d2 := d_at hd hi (j := 2) (by omega)
  have d3 := d_at hd hi (j := 3) (by omega)
  have d4 := d_at hd hi (j := 4) (by omega)
  have d5 := d_at hd hi (j := 5) (by omega)
  have d6 := d_at hd hi (j := 6) (by omega)
  have d7 := d_at hd hi (j := 7) (by omega)
  have ks : w sort = v sort := k0 sort (by omega)
  have k4 : w 4 = v 4 := k0 4 (by omega)
  have k7 : w 7 = v 7 := k0 7 (by omega)
  have C7 := c7s hs h
  have C11 := c11 h
  rw [ks] at C7
  rw [k4] at C11
  obtain ⟨S, hS⟩ : ∃ S, S = v (71 + 8 * i + 2) + v sort := ⟨_, rfl⟩
  have hD : dueV v i sort = heldf S := by unfold dueV; rw [hS]
  have e10 : (nI 1 = (1 : Int32)) := rfl
  unfold fn_L_changed
  simp only [m8, p2, p3, p4, p5, p6, p7, g2, g3, g4, g5, g6, g7, t2, t3, t4, t5, t6, t7, d2, d3, d4, d5, d6, d7, if_false, Option.bind_some, C7, C11, o2 h hc h8 hi, o3 h hc h8 hi, o4 h hc h8 hi, o5 h hc h8 hi, o6 h hc h8 hi, o7 h hc h8 hi, R_c0 h, k7, k2, k5, k6, ← hS]
  rcases hN with ⟨N, n3, n4, n7, n11, n12, n14, n15, n16, e, he2, he, n10⟩ | ⟨N, n3, n4, n7, n11, n12, n13, e, he1, he, n10⟩
  · have hz4 : v (71 + 8 * i + 4) = 0 := hz N.2
    have l00 : fn_X4_log 0 0 x = some 3 := by rw [← n11]; exact R_log (t := 0) (j := 0) h he n10 (by omega) (by omega)
    have l01 : fn_X4_log 0 1 x = some (nI i) := by rw [← n12]; exact R_log (t := 0) (j := 1) h he n10 (by omega) (by omega)
    have l10 : fn_X4_log 1 0 x = some (nI sort) := by rw [← n14]; exact R_log (t := 1) (j := 0) h he n10 (by omega) (by omega)
    have l11 : fn_X4_log 1 1 x = some (nI i) := by rw [← n15]; exact R_log (t := 1) (j := 1) h he n10 (by omega) (by omega)
    have l12 : fn_X4_log 1 2 x = some (v 7) := by rw [← n16]; exact R_log (t := 1) (j := 2) h he n10 (by omega) (by omega)
    obtain ⟨N1, N3⟩ := N
    rw [hD] at N1 ⊢
    simp only [n3, n4, n7, hz4, N3, l00, l01, l10, l11, l12, Option.bind_some, eq_self, if_true]
    by_cases q : S ≤ 99999
    · rw [due_small q] at N1 ⊢
      have N1' : (S ≤ v 4) = False := eq_false (Int32.not_le.mpr N1)
      simp only [q, N1', eq_self, if_true, if_false]
    · rw [due_big q] at N1 ⊢
      have N1' : ((99999 : Int32) ≤ v 4) = False := eq_false (Int32.not_le.mpr N1)
      simp only [q, N1', eq_self, if_true, if_false]
  · have l00 : fn_X4_log 0 0 x = some (nI sort) := by rw [← n11]; exact R_log (t := 0) (j := 0) h he n10 (by omega) (by omega)
    have l01 : fn_X4_log 0 1 x = some (nI i) := by rw [← n12]; exact R_log (t := 0) (j := 1) h he n10 (by omega) (by omega)
    have l02 : fn_X4_log 0 2 x = some (v 7) := by rw [← n13]; exact R_log (t := 0) (j := 2) h he n10 (by omega) (by omega)
    have N' : v 4 < heldf S → ¬ v (71 + 8 * i + 3) = 0 := fun a b => N ⟨by rw [hD]; exact a, b⟩
    rw [hD]
    simp only [n3, n4, n7, l00, l01, l02, Option.bind_some, eq_self, if_true, Int32.add_zero]
    by_cases q : S ≤ 99999
    · rw [due_small q] at N' ⊢
      by_cases z : S ≤ v 4
      · simp only [q, z, eq_self, if_true]
      · have z3 := N' (Int32.not_le.mp z)
        simp only [q, z, z3, eq_self, if_true, if_false]
    · rw [due_big q] at N' ⊢
      by_cases z : (99999 : Int32) ≤ v 4
      · simp only [q, z, eq_self, if_true, if_false]
      · have z3 := N' (Int32.not_le.mp z)
        simp only [q, z, z3, eq_self, if_true, if_false]
end CHG
