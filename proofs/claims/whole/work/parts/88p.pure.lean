/-! THE PAD: writing and wiping -/
def shB8 (a : Int64) : Int64 := (Int64.toUInt64 a >>> (Int64.toUInt64 (Int32.toInt64 (8 : Int32)) &&& Int64.toUInt64 63)).toInt64
def itS : Nat → Int64 → Int64
  | 0, a => a
  | k + 1, a => shB8 (itS k a)
def cdS (a : Int64) (k : Nat) : Int32 := Int64.toInt32 (itS k a &&& 255)
theorem amt : ∀ k, k < 8 → (Int64.toUInt64 (Int32.toInt64 ((8 : Int32) * nI k)) &&& Int64.toUInt64 63) = UInt64.ofNat (8 * k) := by decide +kernel
theorem itS_eq {a : Int64} : ∀ k, k < 8 → itS k a = (Int64.toUInt64 a >>> UInt64.ofNat (8 * k)).toInt64 := by
  intro k
  induction k with
  | zero =>
    intro _
    show a = _
    have e : Int64.toUInt64 a >>> UInt64.ofNat (8 * 0) = Int64.toUInt64 a := by
      rw [← UInt64.toNat_inj, UInt64.toNat_shiftRight]; rfl
    rw [e]; rfl
  | succ k ih =>
    intro hk
    show shB8 (itS k a) = _
    rw [ih (by omega)]
    unfold shB8
    have c8 : (Int64.toUInt64 (Int32.toInt64 (8 : Int32)) &&& Int64.toUInt64 63) = UInt64.ofNat 8 := by decide +kernel
    rw [c8]
    have e : Int64.toUInt64 ((Int64.toUInt64 a >>> UInt64.ofNat (8 * k)).toInt64) = Int64.toUInt64 a >>> UInt64.ofNat (8 * k) := rfl
    rw [e]
    congr 1
    rw [← UInt64.toNat_inj, UInt64.toNat_shiftRight, UInt64.toNat_shiftRight, UInt64.toNat_shiftRight]
    have t : ∀ m, m < 64 → (UInt64.ofNat m).toNat % 64 = m := by decide
    rw [t (8 * k) (by omega), t 8 (by omega), t (8 * (k + 1)) (by omega), ← Nat.shiftRight_add]
    rfl
theorem char_n : ∀ m, m < 127 → vp_nar .char ((Int32.toUInt32 (nI m) % 65536).toInt32) = nI m := by decide +kernel
def okc (c : Int32) : Prop := ∃ q, 33 ≤ q ∧ q ≤ 126 ∧ c = nI q
theorem okc_i (c : Int32) : okc c ↔ 33 ≤ c ∧ c ≤ 126 := by
  constructor
  · rintro ⟨q, h1, h2, rfl⟩
    exact ⟨show nI 33 ≤ nI q from nI_le h1 (by omega), show nI q ≤ nI 126 from nI_le h2 (by omega)⟩
  · rintro ⟨h1, h2⟩
    obtain ⟨q, hq, rfl⟩ := nI_of2 (x := c) (M := 126) (n := 126) (by decide) (by rw [Int32.not_lt]; exact Int32.le_trans (by decide) h1) h2
    have : nI 33 ≤ nI q := h1
    rw [nI_leI (by omega) (by omega)] at this
    exact ⟨q, this, hq, rfl⟩
def pfin (z : mm_M) (i5 : Int32) : Option (mm_M × Int32) := if i5 = 0 then some (z, (-2)) else if ((z 157 7) + i5) ≤ 80 then (some ((i5 - 1) : Int32)).bind fun v1 => (fn_X5_put_92 9 v1 z).bind fun x1 => some (x1, (x1 157 7)) else some (z, (-4))
theorem pc_eq {a : Int64} {x : mm_M} : ∀ (n i f1 f2 : Nat) (z : mm_M), i + n = 8 → n < f1 → n < f2 → (∀ k, k < i → z 164 k = cdS a k ∧ okc (cdS a k)) →
    ∃ v z', v ≤ 8 ∧ fn_X4_charactersIn_4 f1 (nI i) (itS i a) x = some (nI v) ∧ fn_X5_put_5 f2 (itS i a) (nI i) z = pfin z' (nI v) ∧ (∀ a, a ≠ 164 → z' a = z a) ∧ ∀ k, k < v → z' 164 k = cdS a k ∧ okc (cdS a k) := by
  intro n
  induction n with
  | zero =>
    intro i f1 f2 z hi hf1 hf2 hk
    obtain ⟨m1, rfl⟩ : ∃ m, f1 = m + 1 := ⟨f1 - 1, by omega⟩
    obtain ⟨m2, rfl⟩ : ∃ m, f2 = m + 1 := ⟨f2 - 1, by omega⟩
    have l : (8 : Int32) ≤ nI i := by show nI 8 ≤ nI i; exact nI_le (by omega) (by omega)
    refine ⟨i, z, by omega, ?_, ?_, fun _ _ => rfl, hk⟩
    · rw [fn_X4_charactersIn_4, if_pos l]
      by_cases c : lg_cmp (itS i a) 0 = 0
      · rw [if_pos c]
      · rw [if_neg c]
    · rw [fn_X5_put_5, if_pos l]
      by_cases c : lg_cmp (itS i a) 0 = 0
      · rw [if_pos c]; rfl
      · rw [if_neg c]; rfl
  | succ n ih =>
    intro i f1 f2 z hi hf1 hf2 hk
    obtain ⟨m1, rfl⟩ : ∃ m, f1 = m + 1 := ⟨f1 - 1, by omega⟩
    obtain ⟨m2, rfl⟩ : ∃ m, f2 = m + 1 := ⟨f2 - 1, by omega⟩
    have l : ¬ (8 : Int32) ≤ nI i := by show ¬ nI 8 ≤ nI i; exact nI_ge (by omega) (by omega)
    by_cases c : lg_cmp (itS i a) 0 = 0
    · refine ⟨i, z, by omega, ?_, ?_, fun _ _ => rfl, hk⟩
      · rw [fn_X4_charactersIn_4, if_pos c]
      · rw [fn_X5_put_5, if_pos c]; rfl
    · have u : mm_up z 164 i (cdS a i) 164 i = cdS a i := by rw [mm_up_app, if_pos ⟨rfl, rfl⟩]
      have nn : (nI i < 0 ∨ 8 ≤ Int32.toNatClampNeg (nI i)) = False := eq_false (nI_in (by omega) (by omega))
      have G : fn_X5_put_5 (m2 + 1) (itS i a) (nI i) z = if 33 ≤ cdS a i ∧ cdS a i ≤ 126 then fn_X5_put_5 m2 (itS (i + 1) a) (nI (i + 1)) (mm_up z 164 i (cdS a i)) else some (mm_up z 164 i (cdS a i), -2) := by
        rw [fn_X5_put_5, if_neg c, if_neg l]
        simp only [nn, if_false]
        rw [nI_clamp (by omega)]
        show (some (mm_up z 164 i (cdS a i))).bind _ = _
        simp only [Option.bind_some]
        rw [u, pu_in]
        simp only [Option.bind_some, nI_1]
        rw [ite01]
        rfl
      by_cases ok : 33 ≤ cdS a i ∧ cdS a i ≤ 126
      · obtain ⟨v, z', h1, h2, h3, h4, h5⟩ := ih (i + 1) m1 m2 (mm_up z 164 i (cdS a i)) (by omega) (by omega) (by omega) (fun k hk' => by
          rw [mm_up_app]
          by_cases q : k = i
          · subst q; rw [if_pos ⟨rfl, rfl⟩]; exact ⟨rfl, (okc_i _).mpr ok⟩
          · rw [if_neg (fun w => q w.2)]; exact hk k (by omega))
        refine ⟨v, z', h1, ?_, by rw [G, if_pos ok]; exact h3, fun a ha => (h4 a ha).trans (mm_up_ne ha), h5⟩
        rw [fn_X4_charactersIn_4, if_neg c, if_neg l]
        show (some (cdS a i)).bind _ = _
        simp only [Option.bind_some, nI_1]
        rw [if_neg (Int32.not_lt.mpr ok.1), if_pos ok.2]
        exact h2
      · refine ⟨0, mm_up z 164 i (cdS a i), by omega, ?_, by rw [G, if_neg ok]; rfl, fun a ha => mm_up_ne ha, fun k hk => by omega⟩
        rw [fn_X4_charactersIn_4, if_neg c, if_neg l]
        show (some (cdS a i)).bind _ = _
        simp only [Option.bind_some, nI_1]
        by_cases c1 : cdS a i < 33
        · rw [if_pos c1]; rfl
        · rw [if_neg c1, if_neg (fun q => ok ⟨Int32.not_lt.mp c1, q⟩)]; rfl
theorem ap_cl {a : Int64} : ∀ (m fuel : Nat) (x : mm_M) (len : Nat), m < fuel → m ≤ 8 → len + m ≤ 80 → x 19 1 = nI len → (∀ k, k < m → okc (cdS a k)) →
    ∃ x', fn_X2_append_5 fuel a (nI m - 1) x = some x' ∧ x' 19 1 = nI (len + m) ∧ (∀ j, j ≠ 1 → x' 19 j = x 19 j) ∧ (∀ j, x' 20 j = if len ≤ j ∧ j < len + m then cdS a (len + m - 1 - j) else x 20 j) ∧ ∀ b, b ≠ 19 → b ≠ 20 → x' b = x b := by
  intro m
  induction m with
  | zero =>
    intro fuel x len hf _ hl h1 _
    obtain ⟨f, rfl⟩ : ∃ m, fuel = m + 1 := ⟨fuel - 1, by omega⟩
    refine ⟨x, ?_, h1, fun _ _ => rfl, fun j => by rw [if_neg (by omega)], fun _ _ _ => rfl⟩
    rw [fn_X2_append_5, if_pos (by decide)]
  | succ m ih =>
    intro fuel x len hf hm hl h1 hk
    obtain ⟨f, rfl⟩ : ∃ m, fuel = m + 1 := ⟨fuel - 1, by omega⟩
    obtain ⟨q, q1, q2, eq⟩ := hk m (by omega)
    have e : ((Int64.toUInt64 a >>> (Int64.toUInt64 (Int32.toInt64 ((8 : Int32) * nI m)) &&& Int64.toUInt64 63)).toInt64) = itS m a := by rw [amt m (by omega), itS_eq m (by omega)]
    have ec : Int64.toInt32 (itS m a &&& 255) = nI q := eq
    have n80 : ¬ (80 : Int32) ≤ nI len := by show ¬ nI 80 ≤ nI len; exact nI_ge (by omega) (by omega)
    obtain ⟨x', f', g1, g2, g3, g4⟩ := ih f (mm_up (mm_up x 20 len (nI q)) 19 1 (nI (len + 1))) (len + 1) (by omega) (by omega) (by omega) (by rw [mm_up_app, if_pos ⟨rfl, rfl⟩]) (fun k hk' => hk k (by omega))
    refine ⟨x', ?_, by rw [g1]; congr 1; omega, fun j hj => ?_, fun j => ?_, fun b b1 b2 => by rw [g4 b b1 b2, mm_up_ne b1, mm_up_ne b2]⟩
    · rw [fn_X2_append_5, nI_pred, if_neg (nI_pos (by omega)), h1, if_neg n80, if_neg (nI_in (by omega) (by omega)), nI_clamp (by omega), e, ec, char_n q (by omega)]
      simp only [Option.bind_some]
      rw [mm_up_ne (show 19 ≠ 20 by omega), h1, nI_1, ← Int32.sub_eq_add_neg]
      exact f'
    · rw [g2 j hj, mm_up_app, if_neg (fun w => hj w.2), mm_up_ne (by omega)]
    · rw [g3 j, mm_up_ne (show 20 ≠ 19 by omega), mm_up_app]
      by_cases c1 : len + 1 ≤ j ∧ j < len + 1 + m
      · rw [if_pos c1, if_pos (by omega), show len + 1 + m - 1 - j = len + (m + 1) - 1 - j from by omega]
      · rw [if_neg c1]
        by_cases c2 : j = len
        · subst c2
          rw [if_pos ⟨rfl, rfl⟩, if_pos (by omega), show j + (m + 1) - 1 - j = m from by omega]; exact eq.symm
        · rw [if_neg (fun w => c2 w.2), if_neg (by omega)]
theorem ap_mo {a : Int64} : ∀ (m fuel : Nat) (z : mm_M) (len : Nat), m < fuel → m ≤ 8 → len + m ≤ 80 → z 157 7 = nI len → (∀ k, k < m → z 164 k = cdS a k) →
    ∃ z', fn_X5_put_92 fuel (nI m - 1) z = some z' ∧ z' 157 7 = nI (len + m) ∧ (∀ j, j ≠ 7 → z' 157 j = z 157 j) ∧ (∀ j, z' 163 j = if len ≤ j ∧ j < len + m then cdS a (len + m - 1 - j) else z 163 j) ∧ ∀ b, b ≠ 157 → b ≠ 163 → z' b = z b := by
  intro m
  induction m with
  | zero =>
    intro fuel x len hf _ hl h1 _
    obtain ⟨f, rfl⟩ : ∃ m, fuel = m + 1 := ⟨fuel - 1, by omega⟩
    refine ⟨x, ?_, h1, fun _ _ => rfl, fun j => by rw [if_neg (by omega)], fun _ _ _ => rfl⟩
    rw [fn_X5_put_92, if_pos (by decide)]
  | succ m ih =>
    intro fuel x len hf hm hl h1 hk
    obtain ⟨f, rfl⟩ : ∃ m, fuel = m + 1 := ⟨fuel - 1, by omega⟩
    obtain ⟨x', f', g1, g2, g3, g4⟩ := ih f (mm_up (mm_up x 163 len (cdS a m)) 157 7 (nI (len + 1))) (len + 1) (by omega) (by omega) (by omega) (by rw [mm_up_app, if_pos ⟨rfl, rfl⟩]) (fun k hk' => by rw [mm_up_ne (by omega), mm_up_ne (by omega)]; exact hk k (by omega))
    refine ⟨x', ?_, by rw [g1]; congr 1; omega, fun j hj => ?_, fun j => ?_, fun b b1 b2 => by rw [g4 b b1 b2, mm_up_ne b1, mm_up_ne b2]⟩
    · rw [fn_X5_put_92, nI_pred, if_neg (nI_pos (by omega)), if_neg (nI_in (by omega) (by omega)), h1, if_neg (nI_in (by omega) (by omega)), nI_clamp (by omega), nI_clamp (by omega), hk m (by omega)]
      simp only [Option.bind_some]
      rw [mm_up_ne (show 157 ≠ 163 by omega), h1, nI_1, ← Int32.sub_eq_add_neg]
      exact f'
    · rw [g2 j hj, mm_up_app, if_neg (fun w => hj w.2), mm_up_ne (by omega)]
    · rw [g3 j, mm_up_ne (show 163 ≠ 157 by omega), mm_up_app]
      by_cases c1 : len + 1 ≤ j ∧ j < len + 1 + m
      · rw [if_pos c1, if_pos (by omega), show len + 1 + m - 1 - j = len + (m + 1) - 1 - j from by omega]
      · rw [if_neg c1]
        by_cases c2 : j = len
        · subst c2
          rw [if_pos ⟨rfl, rfl⟩, if_pos (by omega), show j + (m + 1) - 1 - j = m from by omega]
        · rw [if_neg (fun w => c2 w.2), if_neg (by omega)]
/-- what does not touch the rivers -/
theorem Inv_pd {x x' : mm_M} (hI : Inv x) (ho : ∀ a, a ≠ 19 → a ≠ 20 → a ≠ 157 → a ≠ 163 → a ≠ 164 → x' a = x a) (h5 : x' 157 5 = x 157 5) (hP : IPd x') : Inv x' := by
  obtain ⟨hB, hv, hS, ⟨h, p, hH⟩, hL, -⟩ := hI
  refine ⟨fun a ha => ?_, ?_, ?_, ⟨h, p, ?_⟩, ?_, hP⟩
  · have k := kd_lt157 ha
    rw [ho a k.2.2.2.2.1 k.2.2.2.2.2 (by omega) (by omega) (by omega)]; exact hB a ha
  · rw [ho 158 (by omega) (by omega) (by omega) (by omega) (by omega)]; exact hv
  · rw [ho 158 (by omega) (by omega) (by omega) (by omega) (by omega)]
    exact Sim_keep hS (fun a l1 l2 => ho a (by omega) (by omega) (by omega) (by omega) (by omega))
  · refine IHi_of hH ?_ h5 ?_ ?_ (fun i a hi l1 l2 => ?_)
    · rw [ho 0 (by omega) (by omega) (by omega) (by omega) (by omega)]
    · exact ho 16 (by omega) (by omega) (by omega) (by omega) (by omega)
    · exact ho 159 (by omega) (by omega) (by omega) (by omega) (by omega)
    · have rg := IHi_rg hH (i := i) (by have := hH.1; omega)
      exact ho a (by omega) (by omega) (by omega) (by omega) (by omega)
  · exact ISl_of hL (ho 18 (by omega) (by omega) (by omega) (by omega) (by omega)) (ho 162 (by omega) (by omega) (by omega) (by omega) (by omega)) (ho 161 (by omega) (by omega) (by omega) (by omega) (by omega)) (fun a l1 l2 => ho a (by omega) (by omega) (by omega) (by omega) (by omega))
theorem P_put {x : mm_M} (hI : Inv x) (a : Int64) : Pair (fn_X4_put a) (fn_X5_put a) x := by
  obtain ⟨len, hlen, h19, h57, hsg⟩ := hI.2.2.2.2.2
  obtain ⟨v, z0, hv8, F, -, -, hok⟩ := pc_eq (a := a) (x := x) 8 0 9 9 x (by omega) (by omega) (by omega) (fun k hk => by omega)
  rw [nI_0] at F
  have F' : fn_X4_charactersIn a x = some (nI v) := F
  have ev : ∀ v', v' ≤ 8 → nI v' = nI v → v' = v := fun v' h q => by rwa [nI_eq (by omega) (by omega)] at q
  have key : ∀ y : mm_M, ∃ z', fn_X5_put a y = pfin z' (nI v) ∧ (∀ b, b ≠ 164 → z' b = y b) ∧ ∀ k, k < v → z' 164 k = cdS a k := fun y => by
    obtain ⟨v', z', h1, F2, G, o, k⟩ := pc_eq (a := a) (x := x) 8 0 9 9 y (by omega) (by omega) (by omega) (fun k hk => by omega)
    rw [nI_0] at F2 G
    have : v' = v := ev v' h1 (Option.some.inj (F2.symm.trans F))
    subst this
    exact ⟨z', G, o, fun j hj => (k j hj).1⟩
  have hok' : ∀ k, k < v → okc (cdS a k) := fun k hk => (hok k hk).2
  by_cases c0 : v = 0
  · obtain ⟨z', G, o, -⟩ := key x
    refine ⟨x, z', -2, ?_, ?_, Inv_pd hI (fun b _ _ _ _ b4 => o b b4) (by rw [o 157 (by omega)]) (IPd_of hI.2.2.2.2.2 (by rw [o 19 (by omega)]) (by rw [o 157 (by omega)]) (o 20 (by omega)) (o 163 (by omega)))⟩
    · unfold fn_X4_put
      rw [F', c0]; rfl
    · rw [G, c0]; rfl
  · have nv : ¬ nI v = 0 := nI_ne0 (by omega) (by omega)
    by_cases c8 : len + v ≤ 80
    · have l8 : nI (len + v) ≤ 80 := by show nI (len + v) ≤ nI 80; exact nI_le c8 (by omega)
      obtain ⟨x1, f1, a1, a2, a3, a4⟩ := ap_cl (a := a) v 9 x len (by omega) hv8 c8 h19 hok'
      obtain ⟨z', G, o, k⟩ := key x1
      have z7 : z' 157 7 = nI len := by rw [o 157 (by omega), a4 157 (by omega) (by omega)]; exact h57
      obtain ⟨z1, g1, b1, b2, b3, b4⟩ := ap_mo (a := a) v 9 z' len (by omega) hv8 c8 z7 k
      refine ⟨x1, z1, nI (len + v), ?_, ?_, Inv_pd hI (fun b q1 q2 q3 q4 q5 => by rw [b4 b q3 q4, o b q5, a4 b q1 q2]) (by rw [b2 5 (by omega), o 157 (by omega), a4 157 (by omega) (by omega)]) ⟨len + v, c8, ?_, b1, fun j hj => ?_⟩⟩
      · unfold fn_X4_put
        rw [F']
        simp only [Option.bind_some]
        rw [if_neg nv, h19, nI_add, if_pos l8]
        unfold fn_X2_append
        simp only [Option.bind_some]
        rw [f1]
        simp only [Option.bind_some]
        rw [a1]
      · rw [G]
        unfold pfin
        rw [if_neg nv, z7, nI_add, if_pos l8]
        simp only [Option.bind_some]
        rw [g1]
        simp only [Option.bind_some]
        rw [b1]
      · rw [b4 19 (by omega) (by omega), o 19 (by omega)]; exact a1
      · rw [b4 20 (by omega) (by omega), o 20 (by omega), a3 j, b3 j, o 163 (by omega), a4 163 (by omega) (by omega)]
        by_cases q : len ≤ j ∧ j < len + v
        · rw [if_pos q, if_pos q]; exact ⟨rfl, hok' _ (by omega)⟩
        · rw [if_neg q, if_neg q]; exact hsg j (by omega)
    · have l8 : ¬ nI (len + v) ≤ 80 := by show ¬ nI (len + v) ≤ nI 80; exact nI_ge (by omega) (by omega)
      obtain ⟨z', G, o, -⟩ := key x
      refine ⟨x, z', -4, ?_, ?_, Inv_pd hI (fun b _ _ _ _ b4 => o b b4) (by rw [o 157 (by omega)]) (IPd_of hI.2.2.2.2.2 (by rw [o 19 (by omega)]) (by rw [o 157 (by omega)]) (o 20 (by omega)) (o 163 (by omega)))⟩
      · unfold fn_X4_put
        rw [F']
        simp only [Option.bind_some]
        rw [if_neg nv, h19, nI_add, if_neg l8]
      · rw [G]
        unfold pfin
        rw [if_neg nv, o 157 (by omega), h57, nI_add, if_neg l8]
theorem P_wipe {x : mm_M} (hI : Inv x) : Pair fn_X4_wipe fn_X5_wipe x := by
  obtain ⟨len, hlen, h19, h57, hsg⟩ := hI.2.2.2.2.2
  refine ⟨mm_up x 19 1 0, mm_up (mm_up x 19 1 0) 157 7 0, nI len, ?_, ?_, Inv_pd hI (fun b q1 _ q3 _ _ => by rw [mm_up_ne q3, mm_up_ne q1]) (by rw [mm_up_app, if_neg (by omega), mm_up_ne (by omega)]) ⟨0, by omega, ?_, ?_, fun j hj => by omega⟩⟩
  · unfold fn_X4_wipe fn_X2_clear
    simp only [Option.bind_some]
    rw [mm_b2_some, h19]
  · unfold fn_X5_wipe
    simp only [Option.bind_some]
    rw [mm_up_ne (show 157 ≠ 19 by omega), h57]
  · rw [mm_up_ne (by omega), mm_up_app, if_pos ⟨rfl, rfl⟩]; rfl
  · rw [mm_up_app, if_pos ⟨rfl, rfl⟩]; rfl
