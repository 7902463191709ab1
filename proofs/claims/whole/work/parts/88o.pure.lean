/-! HOW OFTEN WITHOUT A SHUNNING -/
theorem sm32 : ∀ m, m < 32 → ((nI m).toBitVec.smod 32).toNat = m ∧ nI m &&& 31 = nI m := by decide
theorem shr {F m : Nat} (hF : F < 2 ^ 31) (hm : m < 32) : nI F >>> nI m = nI (F / 2 ^ m) := by
  have hq : F / 2 ^ m ≤ F := Nat.div_le_self _ _
  rw [← Int32.toInt_inj, nI_toInt (by omega)]
  have e : (nI F >>> nI m).toInt = (BitVec.sshiftRight' (nI F).toBitVec ((nI m).toBitVec.smod 32)).toInt := rfl
  rw [e, BitVec.toInt_sshiftRight', (sm32 m hm).1]
  have e2 : (nI F).toBitVec.toInt = (F : Int) := nI_toInt hF
  rw [e2, Int.shiftRight_eq_div_pow]
  norm_cast
theorem nI_div {a b : Nat} (ha : a < 2 ^ 31) (hb : b < 2 ^ 31) : nI a / nI b = nI (a / b) := by
  have h : a / b ≤ a := Nat.div_le_self _ _
  rw [← Int32.toInt_inj, Int32.toInt_div, nI_toInt ha, nI_toInt hb, nI_toInt (by omega), Int.tdiv_eq_ediv_of_nonneg (by omega)]
  have e : ((a : Int) / (b : Int)) = ((a / b : Nat) : Int) := by norm_cast
  rw [e]
  clear e
  generalize a / b = k at h ⊢
  exact Int.bmod_eq_of_le (by omega) (by omega)
def fd (F S n h : Nat) : Nat := F / 2 ^ ((S + n) / h)
theorem fd_step {F S n h : Nat} (hS : S < h) : fd (if S + 1 < h then F else F / 2) (if S + 1 < h then S + 1 else 0) n h = fd F S (n + 1) h ∧ ((if S + 1 < h then S + 1 else 0) + n) % h = (S + (n + 1)) % h := by
  unfold fd
  by_cases c : S + 1 < h
  · rw [if_pos c, if_pos c, show S + 1 + n = S + (n + 1) from by omega]; exact ⟨rfl, rfl⟩
  · rw [if_neg c, if_neg c, show S + (n + 1) = n + h from by omega, Nat.add_div_right n (by omega), Nat.zero_add, Nat.div_div_eq_div_mul, Nat.add_mod_right, Nat.pow_succ, Nat.mul_comm]
    exact ⟨rfl, rfl⟩
theorem fd_le {F S n h : Nat} : fd F S n h ≤ F := Nat.div_le_self _ _
/-- minutes of the reference's scratch while nobody is shunned -/
theorem is68 {h : Nat} (h1 : 1 ≤ h) (h9 : h ≤ 99) {a : Nat} (ha : a ≤ 200) (a2 : Int32) : ∀ (n i fuel : Nat) (z : mm_M) (F S : Nat), i + n = a → n < fuel → z 158 3 = nI h → F ≤ 99999 → S < h → z 157 10 = nI F → z 157 11 = nI S → z 157 12 = 0 →
    ∃ z', fn_X5_isSteady_68 fuel (nI a) a2 (nI i) z = some z' ∧ z' 157 10 = nI (fd F S n h) ∧ z' 157 11 = nI ((S + n) % h) ∧ z' 157 12 = 0 ∧ (∀ j, j < 10 → z' 157 j = z 157 j) ∧ ∀ a, a ≠ 157 → z' a = z a := by
  intro n
  induction n with
  | zero =>
    intro i fuel z F S hi hf z3 hF hS q10 q11 q12
    obtain ⟨m, rfl⟩ : ∃ m, fuel = m + 1 := ⟨fuel - 1, by omega⟩
    refine ⟨z, ?_, ?_, ?_, q12, fun _ _ => rfl, fun _ _ => rfl⟩
    · rw [fn_X5_isSteady_68, if_pos (nI_le (by omega) (by omega))]
    · unfold fd
      rw [q10, Nat.add_zero, Nat.div_eq_of_lt hS, Nat.pow_zero, Nat.div_one]
    · rw [q11, Nat.add_zero, Nat.mod_eq_of_lt hS]
  | succ n ih =>
    intro i fuel z F S hi hf z3 hF hS q10 q11 q12
    obtain ⟨m, rfl⟩ : ∃ m, fuel = m + 1 := ⟨fuel - 1, by omega⟩
    obtain ⟨z1, fl, f1, A1, w1, o1⟩ := T_mo (z := z) (v := z 158) (q := (z 157 10, z 157 11, z 157 12, z 157 13)) rfl rfl rfl ⟨rfl, rfl, rfl, rfl⟩
    have lt : (nI S + 1 < nI h) ↔ S + 1 < h := by rw [nI_1, nI_ltI (by omega) (by omega)]
    have e1 : z1 157 10 = nI (if S + 1 < h then F else F / 2) := by
      rw [A1.1]
      show (pm (z 158 3) (z 158 5) (z 158 6) (z 157 10) (z 157 11) (z 157 12) (z 157 13)).1 = _
      unfold pm
      simp only [q10, q11, q12, z3, lt, if_true]
      by_cases c : S + 1 < h
      · rw [if_pos c, if_pos c]
      · rw [if_neg c, if_neg c]; exact nI_div (b := 2) (by omega) (by omega)
    have e2 : z1 157 11 = nI (if S + 1 < h then S + 1 else 0) := by
      rw [A1.2.1]
      show (pm (z 158 3) (z 158 5) (z 158 6) (z 157 10) (z 157 11) (z 157 12) (z 157 13)).2.1 = _
      unfold pm
      simp only [q10, q11, q12, z3, lt, if_true]
      by_cases c : S + 1 < h
      · rw [if_pos c, if_pos c, nI_1]
      · rw [if_neg c, if_neg c]; rfl
    have e3 : z1 157 12 = 0 := by
      rw [A1.2.2.1]
      show (pm (z 158 3) (z 158 5) (z 158 6) (z 157 10) (z 157 11) (z 157 12) (z 157 13)).2.2.1 = _
      unfold pm
      simp only [q12, if_true]
    obtain ⟨s1, s2⟩ := fd_step (F := F) (n := n) hS
    obtain ⟨z2, f2, r1, r2, r3, w2, o2⟩ := ih (i + 1) m z1 (if S + 1 < h then F else F / 2) (if S + 1 < h then S + 1 else 0) (by omega) (by omega) (by rw [o1 158 (by omega)]; exact z3) (by
      by_cases c : S + 1 < h
      · rw [if_pos c]; exact hF
      · rw [if_neg c]; omega) (by
      by_cases c : S + 1 < h
      · rw [if_pos c]; exact c
      · rw [if_neg c]; omega) e1 e2 e3
    refine ⟨z2, ?_, by rw [r1, s1], by rw [r2, s2], r3, fun j hj => (w2 j hj).trans (w1 j hj), fun a ha => (o2 a ha).trans (o1 a ha)⟩
    rw [fn_X5_isSteady_68, if_neg (nI_ge (by omega) (by omega)), f1, mm_b2_some]
    simp only [Option.bind_some, nI_1]
    exact f2
theorem pow_big {F k : Nat} (hF : F < 2 ^ 31) : F / 2 ^ (if 31 < k then 31 else k) = F / 2 ^ k := by
  by_cases c : 31 < k
  · rw [if_pos c, Nat.div_eq_of_lt hF, Nat.div_eq_of_lt (Nat.lt_of_lt_of_le hF (Nat.pow_le_pow_right (by omega) (by omega)))]
  · rw [if_neg c]
/-- the class's fading in one stroke -/
theorem T_fade {x : mm_M} {h F S a : Nat} (h1 : 1 ≤ h) (h9 : h ≤ 99) (ha : a ≤ 200) (hF : F ≤ 99999) (hS : S < h) (x3 : x 2 3 = nI h) (q2 : x 21 2 = nI F) (q5 : x 21 5 = nI S) :
    ∃ x', fn_X3_fade 21 (nI a) x = some x' ∧ x' 21 2 = nI (fd F S a h) ∧ x' 21 5 = nI ((S + a) % h) ∧ x' 21 3 = x 21 3 ∧ x' 21 0 = x 21 0 ∧ ∀ a, a ≠ 21 → x' a = x a := by
  have v1 : (if (1 : Int32) < x 2 3 then x 2 3 else (1 : Int32)) = nI h := by
    rw [x3]
    by_cases c : 1 < h
    · have c' : (1 : Int32) < nI h := by show nI 1 < nI h; exact nI_lt c (by omega)
      rw [if_pos c']
    · have c' : ¬ (1 : Int32) < nI h := by show ¬ nI 1 < nI h; exact nI_nlt (by omega) (by omega)
      rw [if_neg c']
      have : h = 1 := by omega
      rw [this]; rfl
  have hk : (S + a) / h ≤ S + a := Nat.div_le_self _ _
  have e1 : (if (31 : Int32) < nI ((S + a) / h) then (31 : Int32) else nI ((S + a) / h)) = nI (if 31 < (S + a) / h then 31 else (S + a) / h) := by
    by_cases c : 31 < (S + a) / h
    · have c' : (31 : Int32) < nI ((S + a) / h) := by show nI 31 < nI ((S + a) / h); exact nI_lt c (by omega)
      rw [if_pos c, if_pos c']; rfl
    · have c' : ¬ (31 : Int32) < nI ((S + a) / h) := by show ¬ nI 31 < nI ((S + a) / h); exact nI_nlt (by omega) (by omega)
      rw [if_neg c, if_neg c']
  have e2 : (if 31 < (S + a) / h then 31 else (S + a) / h) < 32 := by
    by_cases c : 31 < (S + a) / h
    · rw [if_pos c]; omega
    · rw [if_neg c]; omega
  have e3 : nI (S + a) - nI ((S + a) / h) * nI h = nI ((S + a) % h) := by
    rw [pu_mul]
    have : nI (S + a) = nI ((S + a) % h + (S + a) / h * h) := by
      congr 1; rw [Nat.mul_comm]; exact (Nat.mod_add_div _ _).symm
    rw [this, nI_sub]
  have nh : ¬ nI h = 0 := nI_ne0 (by omega) (by omega)
  refine ⟨mm_up (mm_up x 21 2 (nI (fd F S a h))) 21 5 (nI ((S + a) % h)), ?_, ?_, ?_, ?_, ?_, fun a ha => by rw [mm_up_ne ha, mm_up_ne ha]⟩
  · unfold fn_X3_fade
    rw [if_pos kd21, v1]
    simp only [Option.bind_some]
    rw [if_neg nh, if_neg nh, q2, q5, nI_add, nI_div (by omega) (by omega), e1, (sm32 _ e2).2, shr (by omega) e2, pow_big (by omega), e3]
    rfl
  · rw [mm_up_app, if_neg (by omega), mm_up_app, if_pos ⟨rfl, rfl⟩]
  · rw [mm_up_app, if_pos ⟨rfl, rfl⟩]
  · rw [mm_up_app, if_neg (by omega), mm_up_app, if_neg (by omega)]
  · rw [mm_up_app, if_neg (by omega), mm_up_app, if_neg (by omega)]
theorem heldf_n {F P : Nat} (hF : F ≤ 99999) (hP : P ≤ 9999) : ∃ G, G ≤ 99999 ∧ heldf (nI F + nI P) = nI G := by
  unfold heldf
  rw [nI_add]
  by_cases c : 99999 ≤ nI (F + P)
  · rw [if_pos c]; exact ⟨99999, by omega, rfl⟩
  · rw [if_neg c]
    have c' : ¬ nI 99999 ≤ nI (F + P) := c
    rw [nI_leI (by omega) (by omega)] at c'
    exact ⟨F + P, by omega, rfl⟩
theorem sw_eq {v : Nat → Int32} {h P0 P1 : Nat} (h1 : 1 ≤ h) (h9 : h ≤ 99) (hv3 : v 3 = nI h) (hP0 : P0 ≤ 9999) (hP1 : P1 ≤ 9999) (hv0 : v 0 = nI P0) (hv1 : v 1 = nI P1) {a : Nat} (ha : a ≤ 200) : ∀ (n i f1 f2 : Nat) (x : mm_M) (F S : Nat), i + n = 80 → n < f1 → n < f2 → (∀ j, j < 7 → x 2 j = v j) → F ≤ 99999 → S < h → x 21 2 = nI F → x 21 5 = nI S → x 21 3 = 0 → bz (x 21 0) →
    ∃ x' r, fn_X4_staysWelcome_10 f1 (nI a) (nI i) x = some (x', r) ∧ bz (x' 21 3) ∧ bz (x' 21 0) ∧ (∀ a, a ≠ 21 → x' a = x a) ∧ ∀ z : mm_M, z 158 = v → z 157 10 = nI F → z 157 11 = nI S → z 157 12 = 0 → ∃ z', fn_X5_isSteady_17 f2 (nI a) (nI i) z = some (z', r) ∧ (∀ j, j < 10 → z' 157 j = z 157 j) ∧ ∀ a, a ≠ 157 → z' a = z a := by
  intro n
  induction n with
  | zero =>
    intro i f1 f2 x F S hi hf1 hf2 hs hF hS q2 q5 q3 q0
    obtain ⟨m1, rfl⟩ : ∃ m, f1 = m + 1 := ⟨f1 - 1, by omega⟩
    obtain ⟨m2, rfl⟩ : ∃ m, f2 = m + 1 := ⟨f2 - 1, by omega⟩
    have l : (80 : Int32) ≤ nI i := by show nI 80 ≤ nI i; exact nI_le (by omega) (by omega)
    refine ⟨x, 1, ?_, Or.inl q3, q0, fun _ _ => rfl, fun z _ _ _ _ => ⟨z, ?_, fun _ _ => rfl, fun _ _ => rfl⟩⟩
    · rw [fn_X4_staysWelcome_10, if_pos l]
    · rw [fn_X5_isSteady_17, if_pos l]
  | succ n ih =>
    intro i f1 f2 x F S hi hf1 hf2 hs hF hS q2 q5 q3 q0
    obtain ⟨m1, rfl⟩ : ∃ m, f1 = m + 1 := ⟨f1 - 1, by omega⟩
    obtain ⟨m2, rfl⟩ : ∃ m, f2 = m + 1 := ⟨f2 - 1, by omega⟩
    have l : ¬ (80 : Int32) ≤ nI i := by show ¬ nI 80 ≤ nI i; exact nI_ge (by omega) (by omega)
    have main : ∀ (sort P : Nat), sort < 7 → P ≤ 9999 → v sort = nI P → ∃ x' r, (mm_b2 (fn_X3_fineBySort 21 (nI sort) x) fun x3 v3 => if v3 = 0 then (fn_X3_fade 21 (nI a) x3).bind fun x4 => (some (nI i + 1)).bind fun v4 => fn_X4_staysWelcome_10 m1 (nI a) v4 x4 else some (x3, 0)) = some (x', r) ∧ bz (x' 21 3) ∧ bz (x' 21 0) ∧ (∀ a, a ≠ 21 → x' a = x a) ∧ ∀ z : mm_M, z 158 = v → z 157 10 = nI F → z 157 11 = nI S → z 157 12 = 0 → ∃ z', ((fn_X5_held ((z 157 10) + (z 158 sort)) z).bind fun v3 => (some (mm_up z 157 10 v3)).bind fun x3 => if (x3 157 10) ≤ (x3 158 4) then (fn_X5_isSteady_68 201 (nI a) (nI i) 0 x3).bind fun x4 => (some (nI i + 1)).bind fun v4 => fn_X5_isSteady_17 m2 (nI a) v4 x4 else some (x3, 0)) = some (z', r) ∧ (∀ j, j < 10 → z' 157 j = z 157 j) ∧ ∀ a, a ≠ 157 → z' a = z a := by
      intro sort P hs7 hP hvP
      obtain ⟨G, hG, eG⟩ := heldf_n hF hP
      obtain ⟨x3, f3, o3, e0, e2, e5, z3, y3⟩ := T_fine (x := x) hs7 q3
      rw [q2, hs sort hs7, hs 4 (by omega), hvP, eG] at f3 y3
      rw [q2, hs sort hs7, hvP, eG] at e2
      by_cases c1 : nI G ≤ v 4
      · rw [if_pos c1] at f3
        obtain ⟨x4, f4, g2, g5, g3, g0, o4⟩ := T_fade (x := x3) h1 h9 ha hG hS (by rw [o3 2 (by omega), hs 3 (by omega)]; exact hv3) e2 (e5.trans q5)
        have hfd : fd G S a h ≤ G := fd_le
        have hm : (S + a) % h < h := Nat.mod_lt _ (by omega)
        obtain ⟨x5, r, f5, z5, w5, o5, K⟩ := ih (i + 1) m1 m2 x4 (fd G S a h) ((S + a) % h) (by omega) (by omega) (by omega) (fun j hj => by rw [o4 2 (by omega), o3 2 (by omega)]; exact hs j hj) (by omega) hm g2 g5 (g3.trans (y3 c1)) (by rw [g0, e0]; exact q0)
        refine ⟨x5, r, ?_, z5, w5, fun a ha => (o5 a ha).trans ((o4 a ha).trans (o3 a ha)), fun z hz p10 p11 p12 => ?_⟩
        · rw [f3, mm_b2_some, if_pos rfl, f4]
          simp only [Option.bind_some, nI_1]
          exact f5
        · have u10 : mm_up z 157 10 (nI G) 157 10 = nI G := by rw [mm_up_app, if_pos ⟨rfl, rfl⟩]
          have us : mm_up z 157 10 (nI G) 158 = v := by rw [mm_up_ne (by omega)]; exact hz
          obtain ⟨z1, k1, r1, r2, r3, w1, p1⟩ := is68 h1 h9 ha (nI i) a 0 201 (mm_up z 157 10 (nI G)) G S (by omega) (by omega) (by rw [us]; exact hv3) hG hS u10 (by rw [mm_up_app, if_neg (by omega)]; exact p11) (by rw [mm_up_app, if_neg (by omega)]; exact p12)
          rw [nI_0] at k1
          obtain ⟨z2, k2, w2, p2⟩ := K z1 (by rw [p1 158 (by omega)]; exact us) r1 r2 r3
          refine ⟨z2, ?_, fun j hj => ?_, fun a ha => by rw [p2 a ha, p1 a ha, mm_up_ne ha]⟩
          · rw [pu_held, p10, hz, hvP, eG]
            simp only [Option.bind_some]
            rw [u10, us, if_pos c1, k1]
            simp only [Option.bind_some, nI_1]
            exact k2
          · rw [w2 j hj, w1 j hj, mm_up_app, if_neg (by omega)]
      · rw [if_neg c1] at f3
        refine ⟨x3, 0, ?_, z3, by rw [e0]; exact q0, o3, fun z hz p10 p11 p12 => ⟨mm_up z 157 10 (nI G), ?_, fun j hj => by rw [mm_up_app, if_neg (by omega)], fun a ha => mm_up_ne ha⟩⟩
        · rw [f3, mm_b2_some, if_neg (by decide)]
        · have u10 : mm_up z 157 10 (nI G) 157 10 = nI G := by rw [mm_up_app, if_pos ⟨rfl, rfl⟩]
          have us : mm_up z 157 10 (nI G) 158 = v := by rw [mm_up_ne (by omega)]; exact hz
          rw [pu_held, p10, hz, hvP, eG]
          simp only [Option.bind_some]
          rw [u10, us, if_neg c1]
    obtain ⟨-, ev⟩ := odd_i (i := i) (by omega)
    by_cases c : i % 2 = 0
    · obtain ⟨x', r, f, z3, z0, o, K⟩ := main 0 P0 (by omega) hP0 hv0
      refine ⟨x', r, ?_, z3, z0, o, fun z hz p10 p11 p12 => ?_⟩
      · rw [fn_X4_staysWelcome_10, if_neg l, if_pos (ev.mpr c)]; exact f
      · obtain ⟨z', k, w, p⟩ := K z hz p10 p11 p12
        refine ⟨z', ?_, w, p⟩
        rw [fn_X5_isSteady_17, if_neg l, if_pos (ev.mpr c)]; exact k
    · obtain ⟨x', r, f, z3, z0, o, K⟩ := main 1 P1 (by omega) hP1 hv1
      refine ⟨x', r, ?_, z3, z0, o, fun z hz p10 p11 p12 => ?_⟩
      · rw [fn_X4_staysWelcome_10, if_neg l, if_neg (fun w => c (ev.mp w))]; exact f
      · obtain ⟨z', k, w, p⟩ := K z hz p10 p11 p12
        refine ⟨z', ?_, w, p⟩
        rw [fn_X5_isSteady_17, if_neg l, if_neg (fun w => c (ev.mp w))]; exact k
theorem sd_eq {v : Nat → Int32} {h P0 P1 : Nat} (h1 : 1 ≤ h) (h9 : h ≤ 99) (hv3 : v 3 = nI h) (hP0 : P0 ≤ 9999) (hP1 : P1 ≤ 9999) (hv0 : v 0 = nI P0) (hv1 : v 1 = nI P1) : ∀ (n i fuel : Nat) (x : mm_M), i + n = 201 → n < fuel → (∀ j, j < 7 → x 2 j = v j) → bz (x 21 0) → bz (x 21 3) →
    ∃ x' r, fn_X4_steady_2 fuel (nI i) x = some (x', r) ∧ bz (x' 21 3) ∧ bz (x' 21 0) ∧ (∀ a, a ≠ 21 → x' a = x a) ∧ ∀ z : mm_M, z 158 = v → ∃ z', fn_X5_steady_2 fuel (nI i) z = some (z', r) ∧ (∀ j, j < 10 → z' 157 j = z 157 j) ∧ ∀ a, a ≠ 157 → z' a = z a := by
  intro n
  induction n with
  | zero =>
    intro i fuel x hi hf hs b0 b3
    obtain ⟨m, rfl⟩ : ∃ m, fuel = m + 1 := ⟨fuel - 1, by omega⟩
    have l : (200 : Int32) < nI i := by show nI 200 < nI i; exact nI_lt (by omega) (by omega)
    refine ⟨x, -6, ?_, b3, b0, fun _ _ => rfl, fun z _ => ⟨z, ?_, fun _ _ => rfl, fun _ _ => rfl⟩⟩
    · rw [fn_X4_steady_2, if_pos l]
    · rw [fn_X5_steady_2, if_pos l]
  | succ n ih =>
    intro i fuel x hi hf hs b0 b3
    obtain ⟨m, rfl⟩ : ∃ m, fuel = m + 1 := ⟨fuel - 1, by omega⟩
    have l : ¬ (200 : Int32) < nI i := by show ¬ nI 200 < nI i; exact nI_nlt (by omega) (by omega)
    obtain ⟨x1, f1, o1, g1⟩ := B_arrive (x := x) (k := 21) (p := 0) kd21
    obtain ⟨x2, r, f2, z2, w2, o2, K⟩ := sw_eq h1 h9 hv3 hP0 hP1 hv0 hv1 (a := i) (by omega) 80 0 81 81 x1 0 0 (by omega) (by omega) (by omega) (fun j hj => by rw [o1 2 (by omega)]; exact hs j hj) (by omega) (by omega) (g1 2 (by omega)) (g1 5 (by omega)) (g1 3 (by omega)) (by rw [g1 0 (by omega)]; exact Or.inr rfl)
    rw [nI_0] at f2 K
    have F : fn_X4_staysWelcome (nI i) x = some (x2, r) := by
      unfold fn_X4_staysWelcome
      rw [f1]; exact f2
    have G : ∀ z : mm_M, z 158 = v → ∃ z', fn_X5_isSteady (nI i) z = some (z', r) ∧ (∀ j, j < 10 → z' 157 j = z 157 j) ∧ ∀ a, a ≠ 157 → z' a = z a := fun z hz => by
      obtain ⟨z', k, w, p⟩ := K (mm_up (mm_up (mm_up z 157 10 0) 157 11 0) 157 12 0) (by rw [mm_up_ne (by omega), mm_up_ne (by omega), mm_up_ne (by omega)]; exact hz) (by rw [mm_up_app, if_neg (by omega), mm_up_app, if_neg (by omega), mm_up_app, if_pos ⟨rfl, rfl⟩]) (by rw [mm_up_app, if_neg (by omega), mm_up_app, if_pos ⟨rfl, rfl⟩]) (by rw [mm_up_app, if_pos ⟨rfl, rfl⟩])
      refine ⟨z', ?_, fun j hj => ?_, fun a ha => ?_⟩
      · unfold fn_X5_isSteady
        simp only [Option.bind_some]
        exact k
      · rw [w j hj, mm_up_app, if_neg (by omega), mm_up_app, if_neg (by omega), mm_up_app, if_neg (by omega)]
      · rw [p a ha, mm_up_ne ha, mm_up_ne ha, mm_up_ne ha]
    have oo : ∀ a, a ≠ 21 → x2 a = x a := fun a ha => (o2 a ha).trans (o1 a ha)
    by_cases c : r = 0
    · obtain ⟨x3, r3, f3, z3, w3, o3, K3⟩ := ih (i + 1) m x2 (by omega) (by omega) (fun j hj => by rw [oo 2 (by omega)]; exact hs j hj) w2 z2
      refine ⟨x3, r3, ?_, z3, w3, fun a ha => (o3 a ha).trans (oo a ha), fun z hz => ?_⟩
      · rw [fn_X4_steady_2, if_neg l, F, mm_b2_some, if_pos c]
        simp only [Option.bind_some, nI_1]
        exact f3
      · obtain ⟨y1, k1, u1, p1⟩ := G z hz
        obtain ⟨y2, k2, u2, p2⟩ := K3 y1 (by rw [p1 158 (by omega)]; exact hz)
        refine ⟨y2, ?_, fun j hj => (u2 j hj).trans (u1 j hj), fun a ha => (p2 a ha).trans (p1 a ha)⟩
        rw [fn_X5_steady_2, if_neg l, k1, mm_b2_some, if_pos c]
        simp only [Option.bind_some, nI_1]
        exact k2
    · refine ⟨x2, nI i, ?_, z2, w2, oo, fun z hz => ?_⟩
      · rw [fn_X4_steady_2, if_neg l, F, mm_b2_some, if_neg c]
      · obtain ⟨y1, k1, u1, p1⟩ := G z hz
        refine ⟨y1, ?_, u1, p1⟩
        rw [fn_X5_steady_2, if_neg l, k1, mm_b2_some, if_neg c]
theorem P_steady {x : mm_M} (hI : Inv x) : Pair fn_X4_steady fn_X5_steady x := by
  have sS := hI.2.2.1.1
  obtain ⟨⟨a0, b0⟩, ⟨a1, b1⟩, -, ⟨a3, b3⟩, -⟩ := hI.2.1.1
  obtain ⟨P0, hP0, e0⟩ := nI_of2 (x := x 158 0) (M := 9999) (n := 9999) (by decide) (by rw [Int32.not_lt]; exact a0) b0
  obtain ⟨P1, hP1, e1⟩ := nI_of2 (x := x 158 1) (M := 9999) (n := 9999) (by decide) (by rw [Int32.not_lt]; exact a1) b1
  obtain ⟨h, h9, e3⟩ := nI_of2 (x := x 158 3) (M := 99) (n := 99) (by decide) (by rw [Int32.not_lt]; exact Int32.le_trans (by decide) a3) b3
  have h1 : 1 ≤ h := by
    rw [e3] at a3
    have : nI 1 ≤ nI h := a3
    rw [nI_leI (by omega) (by omega)] at this; exact this
  obtain ⟨x', r, f, z3, z0, o, K⟩ := sd_eq (v := x 158) h1 h9 e3 hP0 hP1 e0 e1 201 0 202 x (by omega) (by omega) (fun j hj => sS j hj) (hI.1 21 kd21).1 (hI.1 21 kd21).2
  rw [nI_0] at f K
  obtain ⟨z', k, w, p⟩ := K x' (o 158 (by omega))
  refine ⟨x', z', r, f, k, Inv_if hI (fun a l1 l2 => by rw [p a l2, o a l1]) ?_ ?_ (fun j hj => by rw [w j hj, o 157 (by omega)])⟩
  · rw [p 21 (by omega)]; exact z0
  · rw [p 21 (by omega)]; exact z3
