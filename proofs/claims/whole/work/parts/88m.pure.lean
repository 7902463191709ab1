/-! WHAT IF: the trial and the reference's scratch -/
def Q4 := Int32 × Int32 × Int32 × Int32
def At (x : mm_M) (k j2 j5 j3 j4 : Nat) (q : Q4) : Prop := x k j2 = q.1 ∧ x k j5 = q.2.1 ∧ x k j3 = q.2.2.1 ∧ x k j4 = q.2.2.2
def stp (v : Nat → Int32) (q : Q4) : Q4 := ((pm (v 3) (v 5) (v 6) q.1 q.2.1 q.2.2.1 q.2.2.2).1, (pm (v 3) (v 5) (v 6) q.1 q.2.1 q.2.2.1 q.2.2.2).2.1, (pm (v 3) (v 5) (v 6) q.1 q.2.1 q.2.2.1 q.2.2.2).2.2.1, (pm (v 3) (v 5) (v 6) q.1 q.2.1 q.2.2.1 q.2.2.2).2.2.2.1)
def ti (v : Nat → Int32) : Nat → Q4 → Q4
  | 0, q => q
  | n + 1, q => ti v n (stp v q)
theorem kd21 : mm_kd 21 = 1 := by decide
theorem stp_bz {v : Nat → Int32} {q : Q4} (h : bz q.2.2.1) : bz (stp v q).2.2.1 := pm_sh h
/-- a minute of the trial -/
theorem T_cl {x : mm_M} {v : Nat → Int32} {q : Q4} (hb : 1 ≤ v 5) (h3 : x 2 3 = v 3) (h5 : x 2 5 = v 5) (h6 : x 2 6 = v 6) (hA : At x 21 2 5 3 4 q) :
    ∃ x' fl, fn_X3_passMinuteOf 21 x = some (x', fl) ∧ At x' 21 2 5 3 4 (stp v q) ∧ x' 21 0 = x 21 0 ∧ ∀ a, a ≠ 21 → x' a = x a := by
  obtain ⟨a1, a2, a3, a4⟩ := hA
  refine ⟨st4 x 21 2 5 3 4 (stp v q).1 (stp v q).2.1 (stp v q).2.2.1 (stp v q).2.2.2, (pm (v 3) (v 5) (v 6) q.1 q.2.1 q.2.2.1 q.2.2.2).2.2.2.2, ?_, ?_, ?_, fun a ha => st4_ne ha⟩
  · unfold fn_X3_passMinuteOf
    rw [if_pos kd21, h3, h5, h6, pu_X1_passMinute kd21 hb, a1, a2, a3, a4, mm_b2_some, if_pos (vz_nar pm_fl)]
    rfl
  · exact ⟨by rw [st4_k]; rfl, by rw [st4_k]; rfl, by rw [st4_k]; rfl, by rw [st4_k]; rfl⟩
  · rw [st4_k]; rfl
theorem T_mo {z : mm_M} {v : Nat → Int32} {q : Q4} (h3 : z 158 3 = v 3) (h5 : z 158 5 = v 5) (h6 : z 158 6 = v 6) (hA : At z 157 10 11 12 13 q) :
    ∃ z' fl, fn_X5_passes z = some (z', fl) ∧ At z' 157 10 11 12 13 (stp v q) ∧ (∀ j, j < 10 → z' 157 j = z 157 j) ∧ ∀ a, a ≠ 157 → z' a = z a := by
  obtain ⟨a1, a2, a3, a4⟩ := hA
  refine ⟨st4 z 157 10 11 12 13 (stp v q).1 (stp v q).2.1 (stp v q).2.2.1 (stp v q).2.2.2, (pm (v 3) (v 5) (v 6) q.1 q.2.1 q.2.2.1 q.2.2.2).2.2.2.2, ?_, ?_, fun j hj => ?_, fun a ha => st4_ne ha⟩
  · rw [pu_X5_passes, h3, h5, h6, a1, a2, a3, a4]
    rfl
  · exact ⟨by rw [st4_k]; rfl, by rw [st4_k]; rfl, by rw [st4_k]; rfl, by rw [st4_k]; rfl⟩
  · rw [st4_k, if_neg (by omega), if_neg (by omega), if_neg (by omega), if_neg (by omega)]
theorem tries_x {z : mm_M} {i : Nat} (hi : i < 8) (hb : bz (z 158 (71 + 8 * i + 3))) : ∃ z', fn_X5_tries (nI i) z = some z' ∧ At z' 157 10 11 12 13 (z 158 (71 + 8 * i + 2), z 158 (71 + 8 * i + 5), z 158 (71 + 8 * i + 3), z 158 (71 + 8 * i + 4)) ∧ (∀ j, j < 10 → z' 157 j = z 157 j) ∧ ∀ a, a ≠ 157 → z' a = z a := by
  have t := triesc (y := z) (u := z 157) (v := z 158) hi hb
  rw [cs_self, cs_self] at t
  refine ⟨_, t, ⟨by rw [at157]; rfl, by rw [at157]; rfl, by rw [at157]; rfl, by rw [at157]; rfl⟩, fun j hj => ?_, fun a ha => ?_⟩
  · rw [at157, u4_lo hj]
  · by_cases q : a = 158
    · subst q; rw [cs_k]
    · rw [cs_ne q, cs_ne ha]
theorem Inv_if {x x' : mm_M} (hI : Inv x) (ho : ∀ a, a ≠ 21 → a ≠ 157 → x' a = x a) (h0 : bz (x' 21 0)) (h3 : bz (x' 21 3)) (hj : ∀ j, j < 10 → x' 157 j = x 157 j) : Inv x' := by
  obtain ⟨hB, hv, hS, ⟨h, p, hH⟩, hL, hP⟩ := hI
  refine ⟨fun a ha => ?_, ?_, ?_, ⟨h, p, ?_⟩, ?_, ?_⟩
  · by_cases q : a = 21
    · subst q; exact ⟨h0, h3⟩
    · rw [ho a q (by have := (kd_lt157 ha).1; omega)]; exact hB a ha
  · rw [ho 158 (by omega) (by omega)]; exact hv
  · rw [ho 158 (by omega) (by omega)]
    exact Sim_keep hS (fun a l1 l2 => ho a (by omega) (by omega))
  · refine IHi_of hH ?_ (hj 5 (by omega)) ?_ ?_ (fun i a hi l1 l2 => ?_)
    · rw [ho 0 (by omega) (by omega)]
    · exact ho 16 (by omega) (by omega)
    · exact ho 159 (by omega) (by omega)
    · have rg := IHi_rg hH (i := i) (by have := hH.1; omega)
      exact ho a (by omega) (by omega)
  · exact ISl_of hL (ho 18 (by omega) (by omega)) (ho 162 (by omega) (by omega)) (ho 161 (by omega) (by omega)) (fun a l1 l2 => by
      by_cases q : a = 157
      · omega
      · exact ho a (by omega) q)
  · exact IPd_of hP (by rw [ho 19 (by omega) (by omega)]) (hj 7 (by omega)) (ho 20 (by omega) (by omega)) (ho 163 (by omega) (by omega))
/-- the trial is a landing's likeness -/
theorem T_copy {x : mm_M} {c i : Nat} (hR : Rd x c) (hB : BZ x) (hi : i < c) : ∃ x', fn_X1_copyFrom 21 (3 + 5 + i) x = some x' ∧ (∀ j, j < 8 → x' 21 j = x 158 (71 + 8 * i + j)) ∧ ∀ a, a ≠ 21 → x' a = x a := by
  have hc := hR.1
  obtain ⟨x', f, g, o⟩ := B_lcopy kd21 (kd_l (i := i) (by omega)) (by omega) hB
  exact ⟨x', f, fun j hj => (g j hj).trans (hR.2.2.2.1 i hi j hj), o⟩
theorem fi_cl {v : Nat → Int32} (hb : 1 ≤ v 5) {a : Nat} (ha : a ≤ 999) : ∀ (n i fuel : Nat) (x : mm_M) (q : Q4), i + n = a → n < fuel → x 2 3 = v 3 → x 2 5 = v 5 → x 2 6 = v 6 → At x 21 2 5 3 4 q → bz q.2.2.1 →
    ∃ x', fn_X4_fineIn_40 fuel (nI a) (nI i) x = some x' ∧ At x' 21 2 5 3 4 (ti v n q) ∧ bz (x' 21 3) ∧ x' 21 0 = x 21 0 ∧ ∀ a, a ≠ 21 → x' a = x a := by
  intro n
  induction n with
  | zero =>
    intro i fuel x q hi hf h3 h5 h6 hA hq
    obtain ⟨m, rfl⟩ : ∃ m, fuel = m + 1 := ⟨fuel - 1, by omega⟩
    refine ⟨x, ?_, hA, by rw [hA.2.2.1]; exact hq, rfl, fun _ _ => rfl⟩
    rw [fn_X4_fineIn_40, if_pos (nI_le (by omega) (by omega))]
  | succ n ih =>
    intro i fuel x q hi hf h3 h5 h6 hA hq
    obtain ⟨m, rfl⟩ : ∃ m, fuel = m + 1 := ⟨fuel - 1, by omega⟩
    obtain ⟨x1, fl, f1, A1, e1, o1⟩ := T_cl hb h3 h5 h6 hA
    obtain ⟨x2, f2, A2, z2, e2, o2⟩ := ih (i + 1) m x1 (stp v q) (by omega) (by omega) (by rw [o1 2 (by omega)]; exact h3) (by rw [o1 2 (by omega)]; exact h5) (by rw [o1 2 (by omega)]; exact h6) A1 (stp_bz hq)
    refine ⟨x2, ?_, A2, z2, e2.trans e1, fun a ha => (o2 a ha).trans (o1 a ha)⟩
    rw [fn_X4_fineIn_40, if_neg (nI_ge (by omega) (by omega)), f1, mm_b2_some]
    simp only [Option.bind_some, nI_1]
    exact f2
theorem fi_mo {v : Nat → Int32} {a : Nat} (ha : a ≤ 999) : ∀ (n i fuel : Nat) (z : mm_M) (q : Q4), i + n = a → n < fuel → z 158 3 = v 3 → z 158 5 = v 5 → z 158 6 = v 6 → At z 157 10 11 12 13 q →
    ∃ z', fn_X5_fineIn_32 fuel (nI a) (nI i) z = some z' ∧ At z' 157 10 11 12 13 (ti v n q) ∧ (∀ j, j < 10 → z' 157 j = z 157 j) ∧ ∀ a, a ≠ 157 → z' a = z a := by
  intro n
  induction n with
  | zero =>
    intro i fuel x q hi hf h3 h5 h6 hA
    obtain ⟨m, rfl⟩ : ∃ m, fuel = m + 1 := ⟨fuel - 1, by omega⟩
    refine ⟨x, ?_, hA, fun _ _ => rfl, fun _ _ => rfl⟩
    rw [fn_X5_fineIn_32, if_pos (nI_le (by omega) (by omega))]
  | succ n ih =>
    intro i fuel x q hi hf h3 h5 h6 hA
    obtain ⟨m, rfl⟩ : ∃ m, fuel = m + 1 := ⟨fuel - 1, by omega⟩
    obtain ⟨x1, fl, f1, A1, e1, o1⟩ := T_mo h3 h5 h6 hA
    obtain ⟨x2, f2, A2, e2, o2⟩ := ih (i + 1) m x1 (stp v q) (by omega) (by omega) (by rw [o1 158 (by omega)]; exact h3) (by rw [o1 158 (by omega)]; exact h5) (by rw [o1 158 (by omega)]; exact h6) A1
    refine ⟨x2, ?_, A2, fun j hj => (e2 j hj).trans (e1 j hj), fun a ha => (o2 a ha).trans (o1 a ha)⟩
    rw [fn_X5_fineIn_32, if_neg (nI_ge (by omega) (by omega)), f1, mm_b2_some]
    simp only [Option.bind_some, nI_1]
    exact f2
theorem P_fineIn {x : mm_M} (hI : Inv x) (a b : Int32) : Pair (fn_X4_fineIn a b) (fn_X5_fineIn a b) x := by
  obtain ⟨c, hR⟩ := Inv_rd hI
  obtain ⟨hc, h8, hx, hl, hb⟩ := id hR
  have sS := hI.2.2.1.1
  have hv := hI.2.1
  unfold Pair fn_X4_fineIn
  rw [B_find hc hx]
  simp only [Option.bind_some]
  by_cases h : 0 ≤ a ∧ a < nI c
  · obtain ⟨i, hi, rfl⟩ := pu_inL hc h
    have k1 : mm_kd (3 + 5 + i) = 1 := kd_l (by omega)
    rw [if_pos h, nI_clamp (by omega), mm_oc_some, if_pos k1]
    by_cases h2 : 0 ≤ b ∧ b ≤ 999
    · obtain ⟨n, hn, rfl⟩ := nI_of2 (x := b) (M := 999) (n := 999) (by decide) (by rw [Int32.not_lt]; exact h2.1) h2.2
      obtain ⟨x1, f1, e1, o1⟩ := T_copy hR hI.1 hi
      obtain ⟨x2, f2, A2, z2, e2, o2⟩ := fi_cl (v := x 158) hv.1.2.2.2.2.2.1.1 hn n 0 1000 x1 (x 158 (71 + 8 * i + 2), x 158 (71 + 8 * i + 5), x 158 (71 + 8 * i + 3), x 158 (71 + 8 * i + 4)) (by omega) (by omega) (by rw [o1 2 (by omega)]; exact sS 3 (by omega)) (by rw [o1 2 (by omega)]; exact sS 5 (by omega)) (by rw [o1 2 (by omega)]; exact sS 6 (by omega)) ⟨e1 2 (by omega), e1 5 (by omega), e1 3 (by omega), e1 4 (by omega)⟩ (hb i hi).2
      rw [nI_0] at f2
      have oo : ∀ a, a ≠ 21 → x2 a = x a := fun a ha => (o2 a ha).trans (o1 a ha)
      have R2 : Rd x2 c := ⟨hc, by rw [oo 158 (by omega)]; exact h8, by rw [oo 1 (by omega)]; exact hx, fun i hi j hj => by rw [oo 158 (by omega), oo (3 + 5 + i) (by omega)]; exact hl i hi j hj, fun i hi => by rw [oo 158 (by omega)]; exact hb i hi⟩
      obtain ⟨z1, g1, B1, w1, q1⟩ := tries_x (z := x2) (i := i) (by omega) (by rw [oo 158 (by omega)]; exact (hb i hi).2)
      rw [oo 158 (by omega)] at B1
      obtain ⟨z2', g2, B2, w2, q2⟩ := fi_mo (v := x 158) hn n 0 1000 z1 _ (by omega) (by omega) (by rw [q1 158 (by omega), oo 158 (by omega)]) (by rw [q1 158 (by omega), oo 158 (by omega)]) (by rw [q1 158 (by omega), oo 158 (by omega)]) B1
      rw [nI_0] at g2
      refine ⟨x2, z2', x2 21 2, ?_, ?_, Inv_if hI (fun a l1 l2 => by rw [q2 a l2, q1 a l2, oo a l1]) ?_ ?_ (fun j hj => by rw [w2 j hj, w1 j hj, oo 157 (by omega)])⟩
      · rw [if_neg (nI_pos (by omega)), if_pos h2.2, f1]
        simp only [Option.bind_some]
        rw [f2]; rfl
      · unfold fn_X5_fineIn
        rw [isL_x R2, if_pos h]
        simp only [Option.bind_some]
        rw [if_neg (show ¬ (1 : Int32) = 0 by decide), pu_in, if_pos h2]
        simp only [Option.bind_some]
        rw [if_neg (show ¬ (1 : Int32) = 0 by decide), g1]
        simp only [Option.bind_some]
        rw [g2]
        simp only [Option.bind_some]
        rw [B2.1, A2.1]
      · rw [q2 21 (by omega), q1 21 (by omega), e2, e1 0 (by omega)]; exact (hb i hi).1
      · rw [q2 21 (by omega), q1 21 (by omega)]; exact z2
    · refine ⟨x, x, -2, ?_, ?_, hI⟩
      · by_cases h3 : b < 0
        · rw [if_pos h3]
        · rw [if_neg h3, if_neg (fun q => h2 ⟨Int32.not_lt.mp h3, q⟩)]
      · unfold fn_X5_fineIn
        rw [isL_x hR, if_pos h]
        simp only [Option.bind_some]
        rw [if_neg (show ¬ (1 : Int32) = 0 by decide), pu_in, if_neg h2]; rfl
  · refine ⟨x, x, -1, ?_, ?_, hI⟩
    · rw [if_neg h, mm_oc_none]
    · unfold fn_X5_fineIn
      rw [isL_x hR, if_neg h]; rfl
