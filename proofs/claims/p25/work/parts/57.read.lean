/-! WHAT IS READ, by the row -/
def Rc (x : mm_M) (v : Nat → Int32) (c : Nat) : Prop := c ≤ 8 ∧ v 8 = nI c ∧ x 1 2 = nI c ∧ (∀ i, i < c → ∀ j, j < 8 → x (3 + 5 + i) j = v (71 + 8 * i + j)) ∧ ∀ i, i < c → bz (v (71 + 8 * i)) ∧ bz (v (71 + 8 * i + 3))
theorem St.rc {x : mm_M} {v : Nat → Int32} {c : Nat} (h : St x v) (hc : c ≤ 8) (h8 : v 8 = nI c) : Rc x v c := by
  obtain ⟨-, hv, ⟨-, sN, -, -, ⟨c', hc', e, hl⟩⟩, -⟩ := h
  have hcc : c' = c := by
    have : nI c' = nI c := e.symm.trans h8
    rwa [nI_eq (by omega) (by omega)] at this
  subst hcc
  exact ⟨hc, h8, sN.1.trans h8, fun i hi j hj => hl i hi j hj, fun i hi => ⟨(hv.2.2.2 i (by omega)).1, (hv.2.2.2 i (by omega)).2.1⟩⟩
theorem tell_k {x : mm_M} {k : Nat} (hk : mm_kd k = 1) (h0 : bz (x k 0)) (h3 : bz (x k 3)) : ∀ j, j < 8 → fn_X1_tell k (nI j) x = some (x k j) := by
  intro j hj
  unfold fn_X1_tell
  rw [if_pos hk]
  match j, hj with
  | 0, _ =>
    rw [if_pos (by decide)]
    rcases h0 with e | e <;> rw [e] <;> rfl
  | 1, _ => rw [if_neg (by decide), if_pos (by decide)]
  | 2, _ => rw [if_neg (by decide), if_neg (by decide), if_pos (by decide)]
  | 3, _ =>
    rw [if_neg (by decide), if_neg (by decide), if_neg (by decide), if_pos (by decide)]
    rcases h3 with e | e <;> rw [e] <;> rfl
  | 4, _ => rw [if_neg (by decide), if_neg (by decide), if_neg (by decide), if_neg (by decide), if_pos (by decide)]
  | 5, _ => rw [if_neg (by decide), if_neg (by decide), if_neg (by decide), if_neg (by decide), if_neg (by decide), if_pos (by decide)]
  | 6, _ => rw [if_neg (by decide), if_neg (by decide), if_neg (by decide), if_neg (by decide), if_neg (by decide), if_neg (by decide), if_pos (by decide)]
  | 7, _ => rw [if_neg (by decide), if_neg (by decide), if_neg (by decide), if_neg (by decide), if_neg (by decide), if_neg (by decide), if_neg (by decide), if_pos (by decide)]
section RDS
variable {x : mm_M} {v : Nat → Int32} {c i : Nat}
theorem in_c (hc : c ≤ 8) (hi : i < c) : 0 ≤ nI i ∧ nI i < nI c := ⟨nI_pos' (by omega), nI_lt hi (by omega)⟩
theorem R_of (h : St x v) (hc : c ≤ 8) (h8 : v 8 = nI c) (hi : i < c) {j : Nat} (hj : j < 8) : fn_X4_of (nI i) (nI j) x = some (v (71 + 8 * i + j)) := by
  obtain ⟨-, -, hx, hl, hb⟩ := h.rc hc h8
  have k1 : mm_kd (3 + 5 + i) = 1 := kd_l (by omega)
  unfold fn_X4_of
  rw [B_find hc hx, if_pos (in_c hc hi)]
  simp only [Option.bind_some]
  rw [nI_clamp (by omega), mm_oc_some, if_pos k1, tell_k k1 (by rw [hl i hi 0 (by omega)]; exact (hb i hi).1) (by rw [hl i hi 3 (by omega)]; exact (hb i hi).2) j hj, hl i hi j hj]
  rfl
theorem R_of_no (h : St x v) (hc : c ≤ 8) (h8 : v 8 = nI c) {a : Int32} (ha : ¬ (0 ≤ a ∧ a < nI c)) (b : Int32) : fn_X4_of a b x = some (-1) := by
  obtain ⟨-, -, hx, hl, hb⟩ := h.rc hc h8
  unfold fn_X4_of
  rw [B_find hc hx, if_neg ha]
  rfl
theorem R_of_bad (h : St x v) (hc : c ≤ 8) (h8 : v 8 = nI c) (hi : i < c) : fn_X4_of (nI i) 8 x = some (-2) := by
  obtain ⟨-, -, hx, hl, hb⟩ := h.rc hc h8
  have k1 : mm_kd (3 + 5 + i) = 1 := kd_l (by omega)
  unfold fn_X4_of
  rw [B_find hc hx, if_pos (in_c hc hi)]
  simp only [Option.bind_some]
  rw [nI_clamp (by omega), mm_oc_some, if_pos k1]
  unfold fn_X1_tell
  rw [if_pos k1, if_neg (by decide), if_neg (by decide), if_neg (by decide), if_neg (by decide), if_neg (by decide), if_neg (by decide), if_neg (by decide), if_neg (by decide)]
  rfl
theorem R_c0 (h : St x v) : fn_X4_count 0 x = some (v 7) := by
  unfold fn_X4_count fn_X3_tell
  rw [if_neg (by decide), if_neg (by decide), if_pos rfl, ← h.2.2.1.2.1.2]; rfl
theorem R_c1 (h : St x v) : fn_X4_count 1 x = some (v 8) := by
  unfold fn_X4_count fn_X3_tell
  rw [if_neg (by decide), if_neg (by decide), if_neg (by decide), if_pos rfl, ← h.2.2.1.2.1.1]; rfl
theorem R_c4 (h : St x v) : fn_X4_count 4 x = some (taken v) := by
  unfold fn_X4_count fn_X3_tell
  rw [if_neg (by decide), if_neg (by decide), if_neg (by decide), if_neg (by decide), if_neg (by decide), if_neg (by decide), if_pos rfl, ← h.2.2.1.2.2.1.1]; rfl
theorem R_c5 (h : St x v) : fn_X4_count 5 x = some (v 9) := by
  unfold fn_X4_count fn_X3_tell
  rw [if_neg (by decide), if_neg (by decide), if_neg (by decide), if_neg (by decide), if_neg (by decide), if_neg (by decide), if_neg (by decide), if_pos rfl, ← h.2.2.1.2.2.1.2]; rfl
theorem R_c6 (h : St x v) : fn_X4_count 6 x = some (v 10) := by
  obtain ⟨e, nx, -, -, h10, h43, -⟩ := h.2.2.1.2.2.2.1
  have h43 : x 4 3 = nI e := h43
  unfold fn_X4_count fn_X3_tell
  rw [if_neg (by decide), if_neg (by decide), if_neg (by decide), if_neg (by decide), if_neg (by decide), if_neg (by decide), if_neg (by decide), if_neg (by decide), if_pos rfl, h10, h43]; rfl
theorem R_c16 : fn_X4_count 16 x = some (-2) := by
  unfold fn_X4_count fn_X3_tell
  rw [if_neg (by decide), if_neg (by decide), if_neg (by decide), if_neg (by decide), if_neg (by decide), if_neg (by decide), if_neg (by decide), if_neg (by decide), if_neg (by decide), if_neg (by decide), if_pos (by decide)]; rfl
theorem R_cs (h : St x v) : ∀ k, k < 7 → fn_X4_count (nI (7 + k)) x = some (v k) := by
  intro k hk
  have hs : x 2 k = v k := h.2.2.1.1 k hk
  unfold fn_X4_count fn_X3_tell
  match k, hk with
  | 0, _ | 1, _ | 2, _ | 3, _ | 4, _ | 5, _ | 6, _ =>
    rw [if_neg (by decide), if_neg (by decide), if_neg (by decide), if_neg (by decide), if_neg (by decide), if_neg (by decide), if_neg (by decide), if_neg (by decide), if_neg (by decide), if_neg (by decide), if_neg (by decide), if_neg (by decide), ← hs]; rfl
theorem R_why (h : St x v) (hc : c ≤ 8) (h8 : v 8 = nI c) (hi : i < c) : fn_X4_why (nI i) x = some (if nI i = taken v then 0 else if v (71 + 8 * i) = 0 then 1 else if v (71 + 8 * i + 3) = 0 then 3 else 2) := by
  obtain ⟨-, -, hx, hl, hb⟩ := h.rc hc h8
  have sT : x 1 4 = taken v := h.2.2.1.2.2.1.1
  have k1 : mm_kd (3 + 5 + i) = 1 := kd_l (by omega)
  unfold fn_X4_why
  rw [B_find hc hx, if_pos (in_c hc hi)]
  simp only [Option.bind_some]
  rw [nI_clamp (by omega), mm_oc_some, if_pos k1, hl i hi 0 (by omega), hl i hi 3 (by omega), sT]
  simp only [Nat.add_zero]
  by_cases c1 : nI i = taken v
  · rw [if_pos c1, if_pos c1]
  · rw [if_neg c1, if_neg c1]
    by_cases c2 : v (71 + 8 * i) = 0
    · rw [if_pos c2, if_pos c2]
    · rw [if_neg c2, if_neg c2]
      by_cases c3 : v (71 + 8 * i + 3) = 0
      · rw [if_pos c3, if_pos c3]
      · rw [if_neg c3, if_neg c3]
theorem R_log {e t j : Nat} (h : St x v) (he : e ≤ 20) (h10 : v 10 = nI e) (ht : t < e) (hj : j < 3) : fn_X4_log (nI t) (nI j) x = some (v (11 + 3 * t + j)) := by
  obtain ⟨e', nx, he', hnx, h10', h43, h44, hlog⟩ := h.2.2.1.2.2.2.1
  have hee : e' = e := by
    have : nI e' = nI e := h10'.symm.trans h10
    rwa [nI_eq (by omega) (by omega)] at this
  subst hee
  have h43' : x 4 3 = nI e' := h43
  have h44' : x 4 4 = nI nx := h44
  obtain ⟨g1, g2, g3⟩ := hlog t ht
  have g1' : x 5 ((nx + 19 - t) % 20) = v (11 + 3 * t) := g1
  have g2' : x 6 ((nx + 19 - t) % 20) = v (12 + 3 * t) := g2
  have g3' : x 7 ((nx + 19 - t) % 20) = v (13 + 3 * t) := g3
  have fin : ∀ u : Nat, u < 20 → u = (nx + 19 - t) % 20 → ((if nI j = 0 then if nI u < 0 ∨ 20 ≤ Int32.toNatClampNeg (nI u) then none else some (x 5 (Int32.toNatClampNeg (nI u))) else if nI j = 1 then if nI u < 0 ∨ 20 ≤ Int32.toNatClampNeg (nI u) then none else some (x 6 (Int32.toNatClampNeg (nI u))) else if nI j = 2 then if nI u < 0 ∨ 20 ≤ Int32.toNatClampNeg (nI u) then none else some (x 7 (Int32.toNatClampNeg (nI u))) else some ((-2) : Int32)).bind fun v1 => some v1) = some (v (11 + 3 * t + j)) := by
    intro u hu eu
    have nn : (nI u < 0 ∨ 20 ≤ Int32.toNatClampNeg (nI u)) = False := eq_false (nI_in (by omega) (by omega))
    simp only [nn, if_false]
    rw [nI_clamp (show u < 2 ^ 31 by omega), eu, g1', g2', g3']
    match j, hj with
    | 0, _ => rw [if_pos (by decide)]; rfl
    | 1, _ => rw [if_neg (by decide), if_pos (by decide), show 11 + 3 * t + 1 = 12 + 3 * t from by omega]; rfl
    | 2, _ => rw [if_neg (by decide), if_neg (by decide), if_pos (by decide), show 11 + 3 * t + 2 = 13 + 3 * t from by omega]; rfl
  unfold fn_X4_log fn_X0_tell
  rw [h43', h44', if_neg (nI_pos (by omega)), if_pos (nI_lt ht (by omega))]
  by_cases w : t + 1 ≤ nx
  · have ev : nI nx - 1 - nI t = nI (nx - 1 - t) := by
      obtain ⟨m, rfl⟩ : ∃ m, nx = m + t + 1 := ⟨nx - 1 - t, by omega⟩
      rw [nI_pred, nI_sub]; congr 1; omega
    have p0 : 0 ≤ nI (nx - 1 - t) := nI_pos' (by omega)
    rw [ev]
    simp only [Option.bind_some]
    rw [if_pos p0]
    exact fin (nx - 1 - t) (by omega) (by omega)
  · have ev : nI nx - 1 - nI t + 20 = nI (nx + 19 - t) := by
      have : nI nx + nI 19 = nI (nx + 19 - t) + nI t := by rw [nI_add, nI_add]; congr 1; omega
      have h2 : nI nx - 1 - nI t + 20 = nI nx + nI 19 - nI t := by
        show nI nx - 1 - nI t + 20 = nI nx + 19 - nI t
        rw [Int32.sub_eq_add_neg, Int32.sub_eq_add_neg, Int32.sub_eq_add_neg, Int32.add_assoc, Int32.add_assoc, Int32.add_comm (-nI t) 20, ← Int32.add_assoc, ← Int32.add_assoc, Int32.add_assoc (nI nx) (-1) 20]
        rfl
      rw [h2, this, nI_add, nI_sub]
    have p0 : ¬ 0 ≤ nI nx - 1 - nI t := by
      have e1 : (nI nx - 1 - nI t).toInt = (nx : Int) - 1 - t := by
        rw [Int32.toInt_sub, Int32.toInt_sub, nI_toInt (by omega), nI_toInt (by omega), show (1 : Int32).toInt = 1 from rfl, Int.bmod_eq_of_le (n := (nx : Int) - 1) (by omega) (by omega), Int.bmod_eq_of_le (by omega) (by omega)]
      rw [Int32.le_iff_toInt_le, e1]
      show ¬ (0 : Int) ≤ _
      omega
    simp only [Option.bind_some]
    rw [if_neg p0, ev]
    exact fin (nx + 19 - t) (by omega) (by omega)
theorem R_log_no {e : Nat} (h : St x v) (he : e ≤ 20) (h10 : v 10 = nI e) (b : Int32) : fn_X4_log (nI e) b x = some (-1) := by
  obtain ⟨e', nx, he', hnx, h10', h43, -, -⟩ := h.2.2.1.2.2.2.1
  have h43' : x 4 3 = nI e := h43.trans (h10'.symm.trans h10)
  unfold fn_X4_log fn_X0_tell
  rw [h43', if_neg (nI_pos (by omega)), if_neg (nI_nlt (by omega) (by omega))]
  rfl
/-- sets of landings -/
theorem bit_or : ∀ M, M < 256 → ∀ i, i < 8 → (nI M ||| ((1 : Int32) <<< (nI i &&& 31))) = nI (M ||| 2 ^ i) ∧ M ||| 2 ^ i < 256 := by decide +kernel
theorem bit_at : ∀ M, M < 256 → ∀ i, i < 8 → (nI M >>> (nI i &&& 31)) &&& 1 = if M.testBit i then 1 else 0 := by decide +kernel
theorem R_open (h : St x v) (hc : c ≤ 8) (h8 : v 8 = nI c) : ∃ M, M < 256 ∧ fn_X4_count 2 x = some (nI M) ∧ ∀ k, k < c → M.testBit k = decide (v (71 + 8 * k) = 1) := by
  obtain ⟨-, -, hx, hl, hb⟩ := h.rc hc h8
  have loop : ∀ (n i fuel M : Nat), i + n = c → n < fuel → M < 256 → (∀ k, k < i → M.testBit k = decide (v (71 + 8 * k) = 1)) → (∀ k, i ≤ k → M.testBit k = false) → ∃ M', M' < 256 ∧ fn_X3_openOnes_4 fuel (nI M) (nI i) x = some (nI M') ∧ ∀ k, k < c → M'.testBit k = decide (v (71 + 8 * k) = 1) := by
    intro n
    induction n with
    | zero =>
      intro i fuel M hi hf hM h1 _
      obtain ⟨m, rfl⟩ : ∃ m, fuel = m + 1 := ⟨fuel - 1, by omega⟩
      refine ⟨M, hM, ?_, fun k hk => h1 k (by omega)⟩
      rw [fn_X3_openOnes_4, hx, if_pos (nI_le (by omega) (by omega))]
    | succ n ih =>
      intro i fuel M hi hf hM h1 h2
      obtain ⟨m, rfl⟩ : ∃ m, fuel = m + 1 := ⟨fuel - 1, by omega⟩
      have q : ¬ nI c ≤ nI i := nI_ge (by omega) (by omega)
      rw [fn_X3_openOnes_4, hx, if_neg q, if_neg (nI_in (by omega) (by omega)), nI_clamp (by omega), hl i (by omega) 0 (by omega)]
      simp only [Option.bind_some, nI_1, Nat.add_zero]
      rcases (hb i (by omega)).1 with e | e
      · rw [if_pos e]
        refine ih (i + 1) m M (by omega) (by omega) hM (fun k hk => ?_) (fun k hk => h2 k (by omega))
        by_cases ki : k = i
        · subst ki; rw [h2 k (Nat.le_refl k), e]; decide
        · exact h1 k (by omega)
      · rw [if_neg (by rw [e]; decide), (bit_or M hM i (by omega)).1]
        refine ih (i + 1) m (M ||| 2 ^ i) (by omega) (by omega) (bit_or M hM i (by omega)).2 (fun k hk => ?_) (fun k hk => ?_)
        · rw [Nat.testBit_or, Nat.testBit_two_pow]
          by_cases ki : k = i
          · subst ki; rw [e]; simp
          · rw [h1 k (by omega)]; simp [Ne.symm ki]
        · rw [Nat.testBit_or, Nat.testBit_two_pow, h2 k (by omega)]
          simp; omega
  obtain ⟨M, h1, h2, h3⟩ := loop c 0 9 0 (by omega) (by omega) (by omega) (fun k hk => absurd hk (Nat.not_lt_zero k)) (fun k _ => Nat.zero_testBit k)
  rw [nI_0] at h2
  refine ⟨M, h1, ?_, h3⟩
  unfold fn_X4_count fn_X3_tell fn_X3_openOnes
  rw [if_neg (by decide), if_neg (by decide), if_neg (by decide), if_neg (by decide), if_pos rfl, h2]; rfl
theorem R_shun (h : St x v) (hc : c ≤ 8) (h8 : v 8 = nI c) : ∃ M, M < 256 ∧ fn_X4_count 3 x = some (nI M) ∧ ∀ k, k < c → M.testBit k = decide (v (71 + 8 * k + 3) = 1) := by
  obtain ⟨-, -, hx, hl, hb⟩ := h.rc hc h8
  have loop : ∀ (n i fuel M : Nat), i + n = c → n < fuel → M < 256 → (∀ k, k < i → M.testBit k = decide (v (71 + 8 * k + 3) = 1)) → (∀ k, i ≤ k → M.testBit k = false) → ∃ M', M' < 256 ∧ fn_X3_shunnedOnes_4 fuel (nI M) (nI i) x = some (nI M') ∧ ∀ k, k < c → M'.testBit k = decide (v (71 + 8 * k + 3) = 1) := by
    intro n
    induction n with
    | zero =>
      intro i fuel M hi hf hM h1 _
      obtain ⟨m, rfl⟩ : ∃ m, fuel = m + 1 := ⟨fuel - 1, by omega⟩
      refine ⟨M, hM, ?_, fun k hk => h1 k (by omega)⟩
      rw [fn_X3_shunnedOnes_4, hx, if_pos (nI_le (by omega) (by omega))]
    | succ n ih =>
      intro i fuel M hi hf hM h1 h2
      obtain ⟨m, rfl⟩ : ∃ m, fuel = m + 1 := ⟨fuel - 1, by omega⟩
      have q : ¬ nI c ≤ nI i := nI_ge (by omega) (by omega)
      rw [fn_X3_shunnedOnes_4, hx, if_neg q, if_neg (nI_in (by omega) (by omega)), nI_clamp (by omega), hl i (by omega) 3 (by omega)]
      simp only [Option.bind_some, nI_1]
      rcases (hb i (by omega)).2 with e | e
      · rw [if_pos e]
        refine ih (i + 1) m M (by omega) (by omega) hM (fun k hk => ?_) (fun k hk => h2 k (by omega))
        by_cases ki : k = i
        · subst ki; rw [h2 k (Nat.le_refl k), e]; decide
        · exact h1 k (by omega)
      · rw [if_neg (by rw [e]; decide), (bit_or M hM i (by omega)).1]
        refine ih (i + 1) m (M ||| 2 ^ i) (by omega) (by omega) (bit_or M hM i (by omega)).2 (fun k hk => ?_) (fun k hk => ?_)
        · rw [Nat.testBit_or, Nat.testBit_two_pow]
          by_cases ki : k = i
          · subst ki; rw [e]; simp
          · rw [h1 k (by omega)]; simp [Ne.symm ki]
        · rw [Nat.testBit_or, Nat.testBit_two_pow, h2 k (by omega)]
          simp; omega
  obtain ⟨M, h1, h2, h3⟩ := loop c 0 9 0 (by omega) (by omega) (by omega) (fun k hk => absurd hk (Nat.not_lt_zero k)) (fun k _ => Nat.zero_testBit k)
  rw [nI_0] at h2
  refine ⟨M, h1, ?_, h3⟩
  unfold fn_X4_count fn_X3_tell fn_X3_shunnedOnes
  rw [if_neg (by decide), if_neg (by decide), if_neg (by decide), if_neg (by decide), if_neg (by decide), if_pos rfl, h2]; rfl
end RDS
