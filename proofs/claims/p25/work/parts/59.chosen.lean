/-! WHAT THE LAW ASKS ALWAYS: which landing is taken, reasons, sets, ranks -/
theorem m6_ne {b : Nat} (hb : b < 2 ^ 31) : ¬ ((-6 : Int32) = nI b) := by
  intro q
  have h : ¬ nI b < 0 := nI_pos hb
  rw [← q] at h; exact h (by decide)
theorem m1_ne {b : Nat} (hb : b < 2 ^ 31) : ¬ (nI b = (-1 : Int32)) := by
  intro q
  have h : ¬ nI b < 0 := nI_pos hb
  rw [q] at h; exact h (by decide)
section CHO
variable {x : mm_M} {v : Nat → Int32} {c : Nat}
theorem o0 (h : St x v) (hc : c ≤ 8) (h8 : v 8 = nI c) {i : Nat} (hi : i < c) : fn_X4_of (nI i) 0 x = some (v (71 + 8 * i)) := R_of (j := 0) h hc h8 hi (by omega)
theorem o1 (h : St x v) (hc : c ≤ 8) (h8 : v 8 = nI c) {i : Nat} (hi : i < c) : fn_X4_of (nI i) 1 x = some (v (71 + 8 * i + 1)) := R_of (j := 1) h hc h8 hi (by omega)
theorem o2 (h : St x v) (hc : c ≤ 8) (h8 : v 8 = nI c) {i : Nat} (hi : i < c) : fn_X4_of (nI i) 2 x = some (v (71 + 8 * i + 2)) := R_of (j := 2) h hc h8 hi (by omega)
theorem o3 (h : St x v) (hc : c ≤ 8) (h8 : v 8 = nI c) {i : Nat} (hi : i < c) : fn_X4_of (nI i) 3 x = some (v (71 + 8 * i + 3)) := R_of (j := 3) h hc h8 hi (by omega)
theorem o4 (h : St x v) (hc : c ≤ 8) (h8 : v 8 = nI c) {i : Nat} (hi : i < c) : fn_X4_of (nI i) 4 x = some (v (71 + 8 * i + 4)) := R_of (j := 4) h hc h8 hi (by omega)
theorem o5 (h : St x v) (hc : c ≤ 8) (h8 : v 8 = nI c) {i : Nat} (hi : i < c) : fn_X4_of (nI i) 5 x = some (v (71 + 8 * i + 5)) := R_of (j := 5) h hc h8 hi (by omega)
theorem o6 (h : St x v) (hc : c ≤ 8) (h8 : v 8 = nI c) {i : Nat} (hi : i < c) : fn_X4_of (nI i) 6 x = some (v (71 + 8 * i + 6)) := R_of (j := 6) h hc h8 hi (by omega)
theorem o7 (h : St x v) (hc : c ≤ 8) (h8 : v 8 = nI c) {i : Nat} (hi : i < c) : fn_X4_of (nI i) 7 x = some (v (71 + 8 * i + 7)) := R_of (j := 7) h hc h8 hi (by omega)
theorem L_taken5 (h : St x v) (hc : c ≤ 8) (h8 : v 8 = nI c) : ∀ (n i fuel : Nat) (best : Int32), i + n = c → n < fuel → okb best i → fn_L_taken_5 fuel best (nI i) x = some (tkV v n i best) := by
  intro n
  induction n with
  | zero =>
    intro i fuel best hi hf _
    obtain ⟨m, rfl⟩ : ∃ m, fuel = m + 1 := ⟨fuel - 1, by omega⟩
    rw [fn_L_taken_5, R_c1 h, h8]
    simp only [Option.bind_some]
    rw [if_pos (nI_le (by omega) (by omega))]
    rfl
  | succ n ih =>
    intro i fuel best hi hf hbest
    obtain ⟨m, rfl⟩ : ∃ m, fuel = m + 1 := ⟨fuel - 1, by omega⟩
    have hi8 : i < c := by omega
    have ih' := fun b hb => ih (i + 1) m b (by omega) (by omega) hb
    have b3 := (h.2.1.2.2.2 i (by omega)).2.1
    rw [fn_L_taken_5, R_c1 h, h8]
    simp only [Option.bind_some]
    rw [if_neg (nI_ge (by omega) (by omega)), o0 h hc h8 hi8, o3 h hc h8 hi8, o1 h hc h8 hi8]
    simp only [Option.bind_some, nI_1]
    rw [tkV]
    have hstep := okb_step (c := v (71 + 8 * i) = 1 ∧ v (71 + 8 * i + 3) = 0 ∧ (best < 0 ∨ v (71 + 8 * i + 1) < v (71 + 8 * best.toNatClampNeg + 1))) hbest
    rw [← ih' _ hstep]
    by_cases e0 : v (71 + 8 * i) = 1
    · by_cases e3 : v (71 + 8 * i + 3) = 0
      · simp only [e0, e3, if_true, true_and]
        rcases hbest with rfl | ⟨k, hk, rfl⟩
        · have h6 : ((-6 : Int32) < 0) := by decide
          simp only [h6, true_or, if_true]
        · have h7 : ¬ nI k < 0 := nI_pos (by omega)
          simp only [h7, if_false, false_or, nI_clamp (show k < 2 ^ 31 by omega), o1 h hc h8 (show k < c by omega), Option.bind_some]
          by_cases c4 : v (71 + 8 * i + 1) < v (71 + 8 * k + 1)
          · rw [if_pos c4, if_neg (Int32.not_le.mpr c4)]
          · rw [if_neg c4, if_pos (Int32.not_lt.mp c4)]
      · simp only [e0, e3, if_true, if_false, false_and, and_false]
    · simp only [e0, if_false, false_and]
theorem L_taken (h : St x v) (hc : c ≤ 8) (h8 : v 8 = nI c) : fn_L_taken x = some (taken v) := by
  have f := L_taken5 h hc h8 c 0 9 (-6) (by omega) (by omega) (Or.inl rfl)
  rw [nI_0] at f
  unfold fn_L_taken taken
  rw [f, h8, nI_clamp (by omega)]
  rfl
theorem bit01 {M i : Nat} {a : Int32} (hM : M < 256) (hi : i < 8) (hb : bz a) (ht : M.testBit i = decide (a = 1)) : ((nI M >>> (nI i &&& 31)) &&& 1) = a := by
  rw [bit_at M hM i hi, ht]
  rcases hb with e | e <;> rw [e] <;> decide
theorem L_ch61 (h : St x v) (hc : c ≤ 8) (h8 : v 8 = nI c) : ∀ (n i fuel : Nat), i + n = c → n < fuel → fn_L_chosen_61 fuel (taken v) (nI (cntP (av v) i)) (nI i) x = some (nI (cntP (av v) c)) := by
  obtain ⟨M2, hM2, f2, t2⟩ := R_open h hc h8
  obtain ⟨M3, hM3, f3, t3⟩ := R_shun h hc h8
  have hT := taken_is hc h8
  intro n
  induction n with
  | zero =>
    intro i fuel hi hf
    obtain ⟨m, rfl⟩ : ∃ m, fuel = m + 1 := ⟨fuel - 1, by omega⟩
    obtain rfl : i = c := by omega
    rw [fn_L_chosen_61, R_c1 h, h8]
    simp only [Option.bind_some]
    rw [if_pos (nI_le (by omega) (by omega))]
  | succ n ih =>
    intro i fuel hi hf
    obtain ⟨m, rfl⟩ : ∃ m, fuel = m + 1 := ⟨fuel - 1, by omega⟩
    have hi8 : i < c := by omega
    have z10 : ((1 : Int32) = 0) = False := eq_false (by decide)
    have z01 : ((0 : Int32) = 1) = False := eq_false (by decide)
    obtain ⟨b0, b3, -⟩ := h.2.1.2.2.2 i (by omega)
    have g2 := bit01 hM2 (show i < 8 by omega) b0 (t2 i hi8)
    have g3 := bit01 hM3 (show i < 8 by omega) b3 (t3 i hi8)
    have W := R_why h hc h8 hi8
    have ef : av v i = false → fn_L_chosen_61 m (taken v) (nI (cntP (av v) i)) (nI (i + 1)) x = some (nI (cntP (av v) c)) := fun e => by
      have I := ih (i + 1) m (by omega) (by omega)
      rw [cnt_n e] at I; exact I
    have et : av v i = true → fn_L_chosen_61 m (taken v) (nI (cntP (av v) i + 1)) (nI (i + 1)) x = some (nI (cntP (av v) c)) := fun e => by
      have I := ih (i + 1) m (by omega) (by omega)
      rw [cnt_y e] at I; exact I
    have nt : av v i = false → ¬ (nI i = taken v) := fun e w => by
      rcases hT with ⟨t, -⟩ | ⟨b, hb, t, ab, -⟩
      · rw [t] at w; exact m6_ne (by omega) w.symm
      · rw [t] at w
        have := nI_u (by omega) (by omega) w
        subst this; rw [ab] at e; cases e
    rw [fn_L_chosen_61, R_c1 h, h8]
    simp only [Option.bind_some]
    rw [if_neg (nI_ge (by omega) (by omega)), W, f2, f3, o0 h hc h8 hi8, o3 h hc h8 hi8]
    simp only [Option.bind_some, nI_1, Int32.add_zero]
    rcases b0 with e | e
    · have a0 : av v i = false := av_f (fun w => by rw [e] at w; exact absurd w.1 (by decide))
      rw [if_pos e, if_neg (nt a0), if_pos e, if_pos rfl, if_pos g2, if_pos g3]
      exact ef a0
    · have e' : ¬ (v (71 + 8 * i) = 0) := by rw [e]; decide
      rw [if_neg e']
      rcases b3 with q | q
      · have q' : ¬ (v (71 + 8 * i + 3) = 1) := by rw [q]; decide
        have a1 : av v i = true := av_t.mpr ⟨e, q⟩
        rw [if_neg q']
        by_cases w : taken v = nI i
        · rw [if_pos w, if_pos w.symm, if_pos rfl, if_pos g2, if_pos g3]
          exact et a1
        · rw [if_neg w, if_neg (show ¬ nI i = taken v from fun z => w z.symm), if_neg e', if_pos q, if_pos rfl, if_pos g2, if_pos g3]
          exact et a1
      · have a0 : av v i = false := av_f (fun w => by rw [q] at w; exact absurd w.2 (by decide))
        have q' : ¬ (v (71 + 8 * i + 3) = 0) := by rw [q]; decide
        rw [if_pos q, if_neg (nt a0), if_neg e', if_neg q', if_pos rfl, if_pos g2, if_pos g3]
        exact ef a0
theorem L_ch184 (h : St x v) (hc : c ≤ 8) (h8 : v 8 = nI c) : ∀ (n r fuel : Nat), 1 ≤ r → r + n = cntP (av v) c → n < fuel → fn_L_chosen_184 fuel (nI (cntP (av v) c)) (nI r) x = some () := by
  have hm := cnt_max (av v) c
  intro n
  induction n with
  | zero =>
    intro r fuel h1 hi hf
    obtain ⟨m, rfl⟩ : ∃ m, fuel = m + 1 := ⟨fuel - 1, by omega⟩
    rw [fn_L_chosen_184, if_pos (nI_le (by omega) (by omega))]
  | succ n ih =>
    intro r fuel h1 hi hf
    obtain ⟨m, rfl⟩ : ∃ m, fuel = m + 1 := ⟨fuel - 1, by omega⟩
    obtain ⟨a, ha, aa, ra⟩ := rk_ex (A := av v) (lt_ir v) (lt_tr v) (lt_tt v) c (r - 1) (by omega)
    obtain ⟨b, hb, ab, rb⟩ := rk_ex (A := av v) (lt_ir v) (lt_tr v) (lt_tt v) c r (by omega)
    have fa := R_choice h hc h8 ha aa
    have fb := R_choice h hc h8 hb ab
    have ra' : rk v c a = r - 1 := ra
    have rb' : rk v c b = r := rb
    rw [ra'] at fa
    rw [rb'] at fb
    have er : nI r - 1 = nI (r - 1) := by
      obtain ⟨k, rfl⟩ : ∃ k, r = k + 1 := ⟨r - 1, by omega⟩
      exact nI_pred k
    have I := ih (r + 1) m (by omega) (by omega) (by omega)
    have hlt : ltB v a b = true := by
      by_cases e : a = b
      · subst e; omega
      · rcases lt_tt v a b e with w | w
        · exact w
        · have := rk_lt (A := av v) (lt_ir v) (lt_tr v) hb ab w
          omega
    rw [ltB_t] at hlt
    rw [fn_L_chosen_184, if_neg (nI_ge (by omega) (by omega)), er, fa, fb]
    simp only [Option.bind_some]
    rw [o1 h hc h8 ha, o1 h hc h8 hb]
    simp only [Option.bind_some, nI_1]
    have n1 : ¬ v (71 + 8 * b + 1) < v (71 + 8 * a + 1) := fun w => by
      have w' : Pz v b < Pz v a := Int32.lt_iff_toInt_lt.mp w
      omega
    rw [if_neg n1]
    by_cases e : v (71 + 8 * a + 1) = v (71 + 8 * b + 1)
    · have e' : Pz v a = Pz v b := congrArg Int32.toInt e
      rw [if_pos e, if_pos (nI_lt (by omega) (by omega))]
      exact I
    · rw [if_neg e]; exact I
theorem L_chosen (h : St x v) (hc : c ≤ 8) (h8 : v 8 = nI c) : fn_L_chosen x = some 1 := by
  have hm := cnt_max (av v) c
  obtain ⟨e, he, h10⟩ := h.2.1.2.2.1
  have f61 := L_ch61 h hc h8 c 0 9 (by omega) (by omega)
  have e0 : nI (cntP (av v) 0) = 0 := nI_0
  rw [e0, nI_0] at f61
  have f184 : fn_L_chosen_184 9 (nI (cntP (av v) c)) 1 x = some () := by
    by_cases q : cntP (av v) c ≤ 1
    · have : nI (cntP (av v) c) ≤ 1 := by show nI (cntP (av v) c) ≤ nI 1; exact nI_le q (by omega)
      rw [fn_L_chosen_184, if_pos this]
    · exact L_ch184 h hc h8 (cntP (av v) c - 1) 1 9 (by omega) (by omega) (by omega)
  have fm : fn_X4_choice (nI (cntP (av v) c)) x = some (-1) := R_choice_no h hc h8 (fun i hi ai w => by
    have b1 : rk v c i + 1 ≤ cntP (av v) c := rk_bd (A := av v) (lt_ir v) hi ai
    have := nI_u (by have := rk_le v c i; omega) (by omega) w
    omega)
  have f1 : fn_X4_choice (-1) x = some (-1) := R_choice_no h hc h8 (fun i hi ai w => m1_ne (by have := rk_le v c i; omega) w)
  have flog : fn_X4_log (v 10) 0 x = some (-1) := by rw [h10]; exact R_log_no h he h10 0
  unfold fn_L_chosen
  rw [L_taken h hc h8, R_c4 h]
  simp only [Option.bind_some, if_true, R_c6 h, flog, f1]
  rcases taken_is hc h8 with ⟨t, hn⟩ | ⟨b, hb, t, ab, hl⟩
  · have f0 : fn_X4_choice 0 x = some (-1) := R_choice_no h hc h8 (fun i hi ai _ => by rw [hn i hi] at ai; cases ai)
    rw [t] at f61 ⊢
    rw [f0]
    simp only [Option.bind_some, eq_self, if_true]
    rw [if_neg (show ¬ (0 : Int32) ≤ -6 by decide), f61]
    simp only [Option.bind_some]
    rw [f184]
    simp only [Option.bind_some]
    rw [fm]
    simp only [Option.bind_some, eq_self, if_true]
  · have r0 : rk v c b = 0 := cnt_0 c (fun j hj => bfP_f (fun aj w => by
      by_cases e : j = b
      · subst e; rw [lt_ir v j] at w; cases w
      · have := ltB_t.mp (hl j hj aj e)
        have := ltB_t.mp w
        omega))
    have f0 := R_choice h hc h8 hb ab
    rw [r0, nI_0] at f0
    rw [t] at f61 ⊢
    rw [f0]
    simp only [Option.bind_some, eq_self, if_true]
    rw [if_pos (nI_pos' (by omega)), f61]
    simp only [Option.bind_some]
    rw [f184]
    simp only [Option.bind_some]
    rw [fm]
    simp only [Option.bind_some, eq_self, if_true]
/-- what is told -/
theorem dm8 : ∀ k, k < 64 → nI k / 8 = nI (k / 8) ∧ nI k - nI k / 8 * 8 = nI (k % 8) := by decide +kernel
theorem L_told (h : St x v) (hc : c ≤ 8) (h8 : v 8 = nI c) : ∃ dd, fn_L_told x = some dd ∧ ∀ k, k < 8 * c → dd k = v (71 + k) := by
  have loop : ∀ (n k fuel : Nat) (dd : Nat → Int32), k + n = 8 * c → n < fuel → (∀ j, j < k → dd j = v (71 + j)) → ∃ d', fn_L_told_7 fuel (nI k) dd x = some d' ∧ ∀ j, j < 8 * c → d' j = v (71 + j) := by
    intro n
    have e8 : (8 : Int32) * nI c = nI (8 * c) := by show nI 8 * nI c = _; rw [pu_mul]
    induction n with
    | zero =>
      intro k fuel dd hk hf hd
      obtain ⟨m, rfl⟩ : ∃ m, fuel = m + 1 := ⟨fuel - 1, by omega⟩
      refine ⟨dd, ?_, fun j hj => hd j (by omega)⟩
      rw [fn_L_told_7, R_c1 h, h8]
      simp only [Option.bind_some]
      rw [e8, if_pos (nI_le (by omega) (by omega))]
    | succ n ih =>
      intro k fuel dd hk hf hd
      obtain ⟨m, rfl⟩ : ∃ m, fuel = m + 1 := ⟨fuel - 1, by omega⟩
      obtain ⟨q1, q2⟩ := dm8 k (by omega)
      have ro := R_of h hc h8 (i := k / 8) (j := k % 8) (by omega) (by omega)
      rw [show 71 + 8 * (k / 8) + k % 8 = 71 + k by omega] at ro
      obtain ⟨d', f', g'⟩ := ih (k + 1) m (upd dd k (v (71 + k))) (by omega) (by omega) (fun j hj => by
        by_cases e : j = k
        · subst e; exact upd_s _ _ _
        · rw [upd_n e]; exact hd j (by omega))
      refine ⟨d', ?_, g'⟩
      rw [fn_L_told_7, R_c1 h, h8]
      simp only [Option.bind_some]
      rw [e8, if_neg (nI_ge (by omega) (by omega)), q2, q1, ro]
      simp only [Option.bind_some, nI_1]
      rw [if_neg (nI_in (by omega) (by omega)), nI_clamp (by omega)]
      exact f'
  obtain ⟨d', f', g'⟩ := loop (8 * c) 0 65 (fun _ => 0) (by omega) (by omega) (fun j hj => absurd hj (Nat.not_lt_zero j))
  rw [nI_0] at f'
  exact ⟨d', f', g'⟩
end CHO
