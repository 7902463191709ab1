/-! A SETTING -/
theorem F_err {x : mm_M} (hI : Inv x) {opB : mm_M → Option (mm_M × Int32)} {r : Int32} (hr : ¬ 0 ≤ r) (hB : ∀ y, Sim y 1 (x 158) → opB y = some (y, r)) :
    ∃ x1, ((fn_X4_keepState x).bind fun x1 => mm_b2 (opB x1) fun x2 v1 => mm_b2 (fn_X4_recordUnlessError v1 x2) fun x3 v2 => some (x3, v2)) = some (x1, r) ∧ Inv x1 := by
  obtain ⟨x1, h, p, f1, -, -, -, -, s1, I1⟩ := Inv_keep hI
  refine ⟨x1, ?_, I1⟩
  rw [f1]
  show (mm_b2 (opB x1) fun x2 v1 => mm_b2 (fn_X4_recordUnlessError v1 x2) fun x3 v2 => some (x3, v2)) = some (x1, r)
  rw [hB x1 s1, mm_b2_some, rec_neg hr, mm_b2_some]
theorem Sim_set {x : mm_M} {v : Nat → Int32} {k : Nat} {b : Int32} (hv : WV v) (hS : Sim x 1 v) (hk : k < 7) : Sim (mm_up x 2 k b) 1 (upd v k b) := by
  obtain ⟨sS, sN, sT, sJ, sL⟩ := hS
  have e : ∀ j, 7 ≤ j → upd v k b j = v j := fun j hj => upd_n (by omega)
  refine ⟨fun j hj => ?_, ?_, ?_, ?_, ?_⟩
  · show mm_up x 2 k b 2 j = upd v k b j
    by_cases q : j = k
    · subst q; rw [mm_up_app, if_pos ⟨rfl, rfl⟩, upd_s]
    · rw [mm_up_app, if_neg (fun t => q t.2), upd_n q]; exact sS j hj
  · unfold SimN
    rw [mm_up_ne (by omega), e 8 (by omega), e 7 (by omega)]; exact sN
  · unfold SimT
    rw [mm_up_ne (by omega), e 9 (by omega), taken_congr (e 8 (by omega)) hv.2.1 (fun i _ => ⟨e _ (by omega), e _ (by omega), e _ (by omega)⟩)]; exact sT
  · exact SimJ_same sJ (fun a q1 q2 => mm_up_ne (by omega)) (fun j q1 q2 => e j (by omega))
  · exact SimL_same sL (fun a q1 q2 => mm_up_ne (by omega)) (fun j q => e j (by omega))
theorem P_setk {x : mm_M} (hI : Inv x) {k : Nat} (hk : k < 7) {b lo hi : Int32} (h0 : mm_st 0 k = lo) (h1 : mm_st 1 k = hi)
    (hm : ∀ y, fn_X5_set (nI k) b y = if lo ≤ b ∧ b ≤ hi then ((fn_X5_remember y).bind fun x1 => mm_b2 (some (mm_up x1 158 k b, x1 158 k)) fun x2 v1 => mm_b2 (fn_X5_record v1 x2) fun x3 v2 => some (x3, v2)) else some (y, -2))
    (hw : lo ≤ b → b ≤ hi → ∀ v, WV v → WV (upd v k b)) : Pair (fn_X4_set (nI k) b) (fn_X5_set (nI k) b) x := by
  have hB : ∀ y, fn_X3_changeSetting (nI k) b y = if lo ≤ b ∧ b ≤ hi then some (mm_up y 2 k b, y 2 k) else some (y, -2) := fun y => by
    have l7 : nI k < 7 := by show nI k < nI 7; exact nI_lt hk (by omega)
    have nn : (nI k < 0 ∨ 7 ≤ (nI k).toNatClampNeg) = False := eq_false (nI_in hk (by omega))
    unfold fn_X3_changeSetting
    rw [if_neg (nI_pos (by omega)), if_pos l7]
    simp only [nn, if_false, Option.bind_some]
    rw [nI_clamp (by omega), h0, h1]
    by_cases c1 : b < lo
    · rw [if_pos c1, if_neg (fun q => absurd c1 (Int32.not_lt.mpr q.1))]
    · rw [if_neg c1]
      by_cases c2 : b ≤ hi
      · rw [if_pos c2, if_pos ⟨Int32.not_lt.mp c1, c2⟩]
      · rw [if_neg c2, if_neg (fun q => c2 q.2)]
  by_cases c : lo ≤ b ∧ b ≤ hi
  · obtain ⟨x1, x2, r, f, g, I⟩ := B_chg hI (opB := fn_X3_changeSetting (nI k) b) (opM := fun y => some (mm_up y 158 k b, y 158 k)) (w := upd (x 158) k b) (r := x 158 k) (fun y s B => by
        refine ⟨mm_up y 2 k b, ?_, Sim_set hI.2.1 s hk, ?_, fun a ha => mm_up_ne (by omega)⟩
        · rw [hB y, if_pos c]; congr 2; exact s.1 k hk
        · exact fun a ha => by rw [mm_up_ne (kd_not ha).2.1]; exact B a ha) (fun y u => ⟨u, fun _ _ => rfl, by
        show some (mm_up (cs (cs y 157 u) 158 (x 158)) 158 k b, cs (cs y 157 u) 158 (x 158) 158 k) = _
        rw [mm_up_of_cs, cs_k]⟩) (hw c.1 c.2 _ hI.2.1)
    exact ⟨x1, x2, r, f, by rw [hm, if_pos c]; exact g, I⟩
  · obtain ⟨x1, f, I⟩ := F_err hI (opB := fn_X3_changeSetting (nI k) b) (r := -2) (by decide) (fun y _ => by rw [hB y, if_neg c])
    exact ⟨x1, x1, -2, f, by rw [hm, if_neg c], I⟩
theorem WV_hi {v : Nat → Int32} {k : Nat} {b : Int32} (hv : WV v) (hk : k < 7) (hS : SOK (upd v k b)) : WV (upd v k b) := by
  refine ⟨hS, ?_, ?_, fun i hi => ?_⟩
  · rw [upd_n (by omega)]; exact hv.2.1
  · rw [upd_n (by omega)]; exact hv.2.2.1
  · unfold LOK
    rw [upd_n (by omega), upd_n (by omega), upd_n (by omega)]; exact hv.2.2.2 i hi
theorem ite01 {α : Type} {c : Prop} [Decidable c] (a b : α) : (if (if c then (1 : Int32) else 0) = 0 then a else b) = if c then b else a := by
  by_cases q : c
  · rw [if_pos q, if_pos q, if_neg (by decide)]
  · rw [if_neg q, if_neg q, if_pos rfl]
theorem st_m0 (b : Int32) (y : mm_M) : fn_X5_set (nI 0) b y = if 0 ≤ b ∧ b ≤ 9999 then ((fn_X5_remember y).bind fun x1 => mm_b2 (some (mm_up x1 158 0 b, x1 158 0)) fun x2 v1 => mm_b2 (fn_X5_record v1 x2) fun x3 v2 => some (x3, v2)) else some (y, -2) := by
  have e0 : (if (0 : Int32) ≤ nI 0 ∧ nI 0 ≤ 6 then (1 : Int32) else 0) = 1 := if_pos (by decide)
  have e1 : ((3 : Int32) ≤ nI 0) = False := eq_false (by decide)
  have e2 : (nI 0 = 3) = False := eq_false (by decide)
  have e4 : (nI 0 = 6) = False := eq_false (by decide)
  have e5 : (nI 0 < 0 ∨ 135 ≤ 0) = False := eq_false (by decide)
  have e6 : Int32.toNatClampNeg (nI 0) = 0 := by decide
  have e7 : ((1 : Int32) = 0) = False := eq_false (by decide)
  unfold fn_X5_set
  simp only [pu_in, e0, e1, e2, e4, e5, e6, e7, if_true, if_false, Option.bind_some, ite01, mm_b2_some]
theorem st_m1 (b : Int32) (y : mm_M) : fn_X5_set (nI 1) b y = if 0 ≤ b ∧ b ≤ 9999 then ((fn_X5_remember y).bind fun x1 => mm_b2 (some (mm_up x1 158 1 b, x1 158 1)) fun x2 v1 => mm_b2 (fn_X5_record v1 x2) fun x3 v2 => some (x3, v2)) else some (y, -2) := by
  have e0 : (if (0 : Int32) ≤ nI 1 ∧ nI 1 ≤ 6 then (1 : Int32) else 0) = 1 := if_pos (by decide)
  have e1 : ((3 : Int32) ≤ nI 1) = False := eq_false (by decide)
  have e2 : (nI 1 = 3) = False := eq_false (by decide)
  have e4 : (nI 1 = 6) = False := eq_false (by decide)
  have e5 : (nI 1 < 0 ∨ 135 ≤ 1) = False := eq_false (by decide)
  have e6 : Int32.toNatClampNeg (nI 1) = 1 := by decide
  have e7 : ((1 : Int32) = 0) = False := eq_false (by decide)
  unfold fn_X5_set
  simp only [pu_in, e0, e1, e2, e4, e5, e6, e7, if_true, if_false, Option.bind_some, ite01, mm_b2_some]
theorem st_m2 (b : Int32) (y : mm_M) : fn_X5_set (nI 2) b y = if 0 ≤ b ∧ b ≤ 9999 then ((fn_X5_remember y).bind fun x1 => mm_b2 (some (mm_up x1 158 2 b, x1 158 2)) fun x2 v1 => mm_b2 (fn_X5_record v1 x2) fun x3 v2 => some (x3, v2)) else some (y, -2) := by
  have e0 : (if (0 : Int32) ≤ nI 2 ∧ nI 2 ≤ 6 then (1 : Int32) else 0) = 1 := if_pos (by decide)
  have e1 : ((3 : Int32) ≤ nI 2) = False := eq_false (by decide)
  have e2 : (nI 2 = 3) = False := eq_false (by decide)
  have e4 : (nI 2 = 6) = False := eq_false (by decide)
  have e5 : (nI 2 < 0 ∨ 135 ≤ 2) = False := eq_false (by decide)
  have e6 : Int32.toNatClampNeg (nI 2) = 2 := by decide
  have e7 : ((1 : Int32) = 0) = False := eq_false (by decide)
  unfold fn_X5_set
  simp only [pu_in, e0, e1, e2, e4, e5, e6, e7, if_true, if_false, Option.bind_some, ite01, mm_b2_some]
theorem st_m3 (b : Int32) (y : mm_M) : fn_X5_set (nI 3) b y = if 1 ≤ b ∧ b ≤ 99 then ((fn_X5_remember y).bind fun x1 => mm_b2 (some (mm_up x1 158 3 b, x1 158 3)) fun x2 v1 => mm_b2 (fn_X5_record v1 x2) fun x3 v2 => some (x3, v2)) else some (y, -2) := by
  have e0 : (if (0 : Int32) ≤ nI 3 ∧ nI 3 ≤ 6 then (1 : Int32) else 0) = 1 := if_pos (by decide)
  have e1 : ((3 : Int32) ≤ nI 3) = True := eq_true (by decide)
  have e2 : (nI 3 = 3) = True := eq_true (by decide)
  have e4 : (nI 3 = 6) = False := eq_false (by decide)
  have e5 : (nI 3 < 0 ∨ 135 ≤ 3) = False := eq_false (by decide)
  have e6 : Int32.toNatClampNeg (nI 3) = 3 := by decide
  have e7 : ((1 : Int32) = 0) = False := eq_false (by decide)
  unfold fn_X5_set
  simp only [pu_in, e0, e1, e2, e4, e5, e6, e7, if_true, if_false, Option.bind_some, ite01, mm_b2_some]
theorem st_m4 (b : Int32) (y : mm_M) : fn_X5_set (nI 4) b y = if 1 ≤ b ∧ b ≤ 99999 then ((fn_X5_remember y).bind fun x1 => mm_b2 (some (mm_up x1 158 4 b, x1 158 4)) fun x2 v1 => mm_b2 (fn_X5_record v1 x2) fun x3 v2 => some (x3, v2)) else some (y, -2) := by
  have e0 : (if (0 : Int32) ≤ nI 4 ∧ nI 4 ≤ 6 then (1 : Int32) else 0) = 1 := if_pos (by decide)
  have e1 : ((3 : Int32) ≤ nI 4) = True := eq_true (by decide)
  have e2 : (nI 4 = 3) = False := eq_false (by decide)
  have e4 : (nI 4 = 6) = False := eq_false (by decide)
  have e5 : (nI 4 < 0 ∨ 135 ≤ 4) = False := eq_false (by decide)
  have e6 : Int32.toNatClampNeg (nI 4) = 4 := by decide
  have e7 : ((1 : Int32) = 0) = False := eq_false (by decide)
  unfold fn_X5_set
  simp only [pu_in, e0, e1, e2, e4, e5, e6, e7, if_true, if_false, Option.bind_some, ite01, mm_b2_some]
theorem st_m5 (b : Int32) (y : mm_M) : fn_X5_set (nI 5) b y = if 1 ≤ b ∧ b ≤ 99999 then ((fn_X5_remember y).bind fun x1 => mm_b2 (some (mm_up x1 158 5 b, x1 158 5)) fun x2 v1 => mm_b2 (fn_X5_record v1 x2) fun x3 v2 => some (x3, v2)) else some (y, -2) := by
  have e0 : (if (0 : Int32) ≤ nI 5 ∧ nI 5 ≤ 6 then (1 : Int32) else 0) = 1 := if_pos (by decide)
  have e1 : ((3 : Int32) ≤ nI 5) = True := eq_true (by decide)
  have e2 : (nI 5 = 3) = False := eq_false (by decide)
  have e4 : (nI 5 = 6) = False := eq_false (by decide)
  have e5 : (nI 5 < 0 ∨ 135 ≤ 5) = False := eq_false (by decide)
  have e6 : Int32.toNatClampNeg (nI 5) = 5 := by decide
  have e7 : ((1 : Int32) = 0) = False := eq_false (by decide)
  unfold fn_X5_set
  simp only [pu_in, e0, e1, e2, e4, e5, e6, e7, if_true, if_false, Option.bind_some, ite01, mm_b2_some]
theorem st_m6 (b : Int32) (y : mm_M) : fn_X5_set (nI 6) b y = if 1 ≤ b ∧ b ≤ 999 then ((fn_X5_remember y).bind fun x1 => mm_b2 (some (mm_up x1 158 6 b, x1 158 6)) fun x2 v1 => mm_b2 (fn_X5_record v1 x2) fun x3 v2 => some (x3, v2)) else some (y, -2) := by
  have e0 : (if (0 : Int32) ≤ nI 6 ∧ nI 6 ≤ 6 then (1 : Int32) else 0) = 1 := if_pos (by decide)
  have e1 : ((3 : Int32) ≤ nI 6) = True := eq_true (by decide)
  have e2 : (nI 6 = 3) = False := eq_false (by decide)
  have e4 : (nI 6 = 6) = True := eq_true (by decide)
  have e5 : (nI 6 < 0 ∨ 135 ≤ 6) = False := eq_false (by decide)
  have e6 : Int32.toNatClampNeg (nI 6) = 6 := by decide
  have e7 : ((1 : Int32) = 0) = False := eq_false (by decide)
  unfold fn_X5_set
  simp only [pu_in, e0, e1, e2, e4, e5, e6, e7, if_true, if_false, Option.bind_some, ite01, mm_b2_some]
theorem P_set {x : mm_M} (hI : Inv x) (a b : Int32) : Pair (fn_X4_set a b) (fn_X5_set a b) x := by
  have hv := hI.2.1
  by_cases c : 0 ≤ a ∧ a ≤ 6
  · obtain ⟨k, hk, rfl⟩ := nI_of2 (x := a) (M := 6) (n := 6) (by decide) (by rw [Int32.not_lt]; exact c.1) c.2
    match k, hk with
    | 0, _ => exact P_setk hI (by omega) (lo := 0) (hi := 9999) rfl rfl (st_m0 b) (fun l1 l2 v q => WV_hi q (by omega) ⟨⟨l1, l2⟩, q.1.2.1, q.1.2.2.1, q.1.2.2.2.1, q.1.2.2.2.2.1, q.1.2.2.2.2.2.1, q.1.2.2.2.2.2.2⟩)
    | 1, _ => exact P_setk hI (by omega) (lo := 0) (hi := 9999) rfl rfl (st_m1 b) (fun l1 l2 v q => WV_hi q (by omega) ⟨q.1.1, ⟨l1, l2⟩, q.1.2.2.1, q.1.2.2.2.1, q.1.2.2.2.2.1, q.1.2.2.2.2.2.1, q.1.2.2.2.2.2.2⟩)
    | 2, _ => exact P_setk hI (by omega) (lo := 0) (hi := 9999) rfl rfl (st_m2 b) (fun l1 l2 v q => WV_hi q (by omega) ⟨q.1.1, q.1.2.1, ⟨l1, l2⟩, q.1.2.2.2.1, q.1.2.2.2.2.1, q.1.2.2.2.2.2.1, q.1.2.2.2.2.2.2⟩)
    | 3, _ => exact P_setk hI (by omega) (lo := 1) (hi := 99) rfl rfl (st_m3 b) (fun l1 l2 v q => WV_hi q (by omega) ⟨q.1.1, q.1.2.1, q.1.2.2.1, ⟨l1, l2⟩, q.1.2.2.2.2.1, q.1.2.2.2.2.2.1, q.1.2.2.2.2.2.2⟩)
    | 4, _ => exact P_setk hI (by omega) (lo := 1) (hi := 99999) rfl rfl (st_m4 b) (fun l1 l2 v q => WV_hi q (by omega) ⟨q.1.1, q.1.2.1, q.1.2.2.1, q.1.2.2.2.1, ⟨l1, l2⟩, q.1.2.2.2.2.2.1, q.1.2.2.2.2.2.2⟩)
    | 5, _ => exact P_setk hI (by omega) (lo := 1) (hi := 99999) rfl rfl (st_m5 b) (fun l1 l2 v q => WV_hi q (by omega) ⟨q.1.1, q.1.2.1, q.1.2.2.1, q.1.2.2.2.1, q.1.2.2.2.2.1, ⟨l1, l2⟩, q.1.2.2.2.2.2.2⟩)
    | 6, _ => exact P_setk hI (by omega) (lo := 1) (hi := 999) rfl rfl (st_m6 b) (fun l1 l2 v q => WV_hi q (by omega) ⟨q.1.1, q.1.2.1, q.1.2.2.1, q.1.2.2.2.1, q.1.2.2.2.2.1, q.1.2.2.2.2.2.1, ⟨l1, l2⟩⟩)
  · obtain ⟨x1, f, I⟩ := F_err hI (opB := fn_X3_changeSetting a b) (r := -2) (by decide) (fun y _ => by
      unfold fn_X3_changeSetting
      by_cases c1 : a < 0
      · rw [if_pos c1]
      · have c2 : ¬ a < 7 := fun q => c ⟨Int32.not_lt.mp c1, by
          obtain ⟨k, hk, rfl⟩ := nI_of c1
          have : nI k < nI 7 := q
          rw [nI_ltI hk (by omega)] at this
          show nI k ≤ nI 6; exact nI_le (by omega) (by omega)⟩
        rw [if_neg c1, if_neg c2])
    exact ⟨x1, x1, -2, f, by unfold fn_X5_set; rw [pu_in, if_neg c]; rfl, I⟩
