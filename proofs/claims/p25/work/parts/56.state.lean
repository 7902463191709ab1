/-! THE STATE: the object's cells against a row; the changes -/
def Hq (x : mm_M) : Prop := ∃ (h : Nat) (p : Nat → Nat), h ≤ 6 ∧ x 0 2 = nI h ∧ ∀ i, i < 7 → x 16 i = nI (p i) ∧ ∃ t, t < 7 ∧ p i = 22 + 15 * t
def St (x : mm_M) (v : Nat → Int32) : Prop := BZ x ∧ WV v ∧ Sim x 1 v ∧ Hq x
theorem Q_keep {x : mm_M} {v : Nat → Int32} (h : St x v) : ∃ x1, fn_X4_keepState x = some x1 ∧ St x1 v := by
  obtain ⟨hB, hv, hS, n, p, h6, h02, hp⟩ := h
  obtain ⟨e, t, ht, ep⟩ := hp n (by omega)
  have hk : mm_kd (p n) = 3 := by rw [ep]; exact kd_hr (by omega)
  obtain ⟨x', f, g, B, o⟩ := B_copy (x := x) hk (show mm_kd 1 = 3 by decide) (by omega) hB
  refine ⟨x', ?_, B, hv, Sim_keep hS (fun a l1 l2 => o a (by omega)), n, p, h6, ?_, ?_⟩
  · unfold fn_X4_keepState
    rw [h02, if_neg (nI_in (by omega) (by omega)), nI_clamp (by omega), e, nI_clamp (by omega), if_pos hk, f]
    rfl
  · rw [o 0 (by omega)]; exact h02
  · intro i hi; rw [o 16 (by omega)]; exact hp i hi
theorem Q_rec {x : mm_M} {v : Nat → Int32} (r : Int32) (h : St x v) : ∃ x3, fn_X4_recordUnlessError r x = some (x3, r) ∧ St x3 v := by
  obtain ⟨hB, hv, hS, n, p, h6, h02, hp⟩ := h
  by_cases hr : 0 ≤ r
  · by_cases hlt : n = 6
    · subst hlt
      obtain ⟨x3, f3, o3, s3, e3⟩ := B_drop hp
      refine ⟨x3, ?_, fun a ha => ?_, hv, Sim_keep hS (fun a l1 l2 => o3 a (by omega)), 6, fun i => if i < 6 then p (i + 1) else p 0, by omega, ?_, fun i hi => ?_⟩
      · unfold fn_X4_recordUnlessError
        have c : (6 : Int32) ≤ x 0 2 := by rw [h02]; show nI 6 ≤ nI 6; exact nI_le (by omega) (by omega)
        rw [if_pos hr, if_pos c, f3]; rfl
      · rw [o3 a (kd_lt157 ha).2.1]; exact hB a ha
      · rw [o3 0 (by omega)]; exact h02
      · show x3 16 i = nI (if i < 6 then p (i + 1) else p 0) ∧ ∃ t, t < 7 ∧ (if i < 6 then p (i + 1) else p 0) = 22 + 15 * t
        by_cases q : i < 6
        · rw [if_pos q]; exact ⟨s3 i q, (hp (i + 1) (by omega)).2⟩
        · rw [if_neg q]; obtain rfl : i = 6 := by omega
          exact ⟨e3, (hp 0 (by omega)).2⟩
    · refine ⟨mm_up x 0 2 (nI (n + 1)), ?_, fun a ha => ?_, hv, Sim_keep hS (fun a l1 l2 => mm_up_ne (by omega)), n + 1, p, by omega, ?_, fun i hi => ?_⟩
      · unfold fn_X4_recordUnlessError
        have c : ¬ (6 : Int32) ≤ x 0 2 := by rw [h02]; show ¬ nI 6 ≤ nI n; exact nI_ge (by omega) (by omega)
        rw [if_pos hr, if_neg c, h02, nI_1]; rfl
      · rw [mm_up_ne (kd_not ha).2.2.2.2.2.2]; exact hB a ha
      · rw [mm_up_app, if_pos ⟨rfl, rfl⟩]
      · rw [mm_up_ne (by omega)]; exact hp i hi
  · exact ⟨x, by unfold fn_X4_recordUnlessError; rw [if_neg hr], hB, hv, hS, n, p, h6, h02, hp⟩
theorem Q_op {x : mm_M} {v w : Nat → Int32} {opB : mm_M → Option (mm_M × Int32)} {r : Int32} (h : St x v)
    (hB : ∀ y, Sim y 1 v → BZ y → ∃ y', opB y = some (y', r) ∧ Sim y' 1 w ∧ BZ y' ∧ Fr15 y y') (hw : WV w) :
    ∃ x', ((fn_X4_keepState x).bind fun x1 => mm_b2 (opB x1) fun x2 v1 => mm_b2 (fn_X4_recordUnlessError v1 x2) fun x3 v2 => some (x3, v2)) = some (x', r) ∧ St x' w := by
  obtain ⟨x1, f1, B1, -, S1, n, p, h6, h02, hp⟩ := Q_keep h
  obtain ⟨x2, f2, S2, B2, F2⟩ := hB x1 S1 B1
  obtain ⟨x3, f3, h3⟩ := Q_rec (x := x2) (v := w) r ⟨B2, hw, S2, n, p, h6, by rw [F2 0 (Or.inl rfl)]; exact h02, fun i hi => by rw [F2 16 (by omega)]; exact hp i hi⟩
  refine ⟨x3, ?_, h3⟩
  rw [f1]
  show (mm_b2 (opB x1) fun x2 v1 => mm_b2 (fn_X4_recordUnlessError v1 x2) fun x3 v2 => some (x3, v2)) = some (x3, r)
  rw [f2, mm_b2_some, f3, mm_b2_some]
theorem Q_landing {x : mm_M} {v : Nat → Int32} (h : St x v) (a : Int32) : ∃ x', fn_X4_landing a x = some (x', (comV v a).2) ∧ St x' (comV v a).1 :=
  Q_op h (opB := fn_X3_addLanding a) (fun y s B => B_com h.2.1 s B a) (WV_com h.2.1)
theorem Q_open {x : mm_M} {v : Nat → Int32} (h : St x v) (a : Int32) : ∃ x', fn_X4_open a x = some (x', (turnV v a 1).2) ∧ St x' (turnV v a 1).1 :=
  Q_op h (opB := fn_X3_openLanding a) (fun y s B => (B_turn h.2.1 s B a).1) (WV_turn h.2.1 (Or.inr rfl))
theorem Q_close {x : mm_M} {v : Nat → Int32} (h : St x v) (a : Int32) : ∃ x', fn_X4_close a x = some (x', (turnV v a 0).2) ∧ St x' (turnV v a 0).1 :=
  Q_op h (opB := fn_X3_closeLanding a) (fun y s B => (B_turn h.2.1 s B a).2) (WV_turn h.2.1 (Or.inl rfl))
theorem Q_price {x : mm_M} {v : Nat → Int32} (h : St x v) (a b : Int32) : ∃ x', fn_X4_price a b x = some (x', (costV v a b).2) ∧ St x' (costV v a b).1 :=
  Q_op h (opB := fn_X3_changePrice a b) (fun y s B => B_cost h.2.1 s B a b) (WV_cost h.2.1)
theorem Q_pass {x : mm_M} {v : Nat → Int32} (h : St x v) (a : Int32) : ∃ x', fn_X4_pass a x = some (x', (waitV v a).2) ∧ St x' (waitV v a).1 :=
  Q_op h (opB := fn_X3_passMinutes a) (fun y s B => B_pass h.2.1 s B a) (WV_wait h.2.1)
theorem Sim_set {x : mm_M} {v : Nat → Int32} {k : Nat} {b : Int32} (hv : WV v) (hS : Sim x 1 v) (hk : k < 7) : Sim (mm_up x 2 k b) 1 (upd v k b) := by
  obtain ⟨sS, sN, sT, sJ, sL⟩ := hS
  have e : ∀ j, 7 ≤ j → upd v k b j = v j := fun j hj => upd_n (by omega)
  refine ⟨fun j hj => ?_, ?_, ?_, ?_, ?_⟩
  · show mm_up x 2 k b 2 j = upd v k b j
    by_cases q : j = k
    · subst q; rw [mm_up_app, if_pos ⟨rfl, rfl⟩, upd_s]
    · rw [mm_up_app, if_neg (fun t => q t.2), upd_n q]; exact sS j hj
  · unfold SimN
    rw [mm_up_ne (by omega), e 8 (by omega), e 7 (by omega)]; exact sN
  · unfold SimT
    rw [mm_up_ne (by omega), e 9 (by omega), taken_congr (e 8 (by omega)) hv.2.1 (fun i _ => ⟨e _ (by omega), e _ (by omega), e _ (by omega)⟩)]; exact sT
  · exact SimJ_same sJ (fun a q1 q2 => mm_up_ne (by omega)) (fun j q1 q2 => e j (by omega))
  · exact SimL_same sL (fun a q1 q2 => mm_up_ne (by omega)) (fun j q => e j (by omega))
theorem WV_hi {v : Nat → Int32} {k : Nat} {b : Int32} (hv : WV v) (hk : k < 7) (hS : SOK (upd v k b)) : WV (upd v k b) := by
  refine ⟨hS, ?_, ?_, fun i hi => ?_⟩
  · rw [upd_n (by omega)]; exact hv.2.1
  · rw [upd_n (by omega)]; exact hv.2.2.1
  · unfold LOK
    rw [upd_n (by omega), upd_n (by omega), upd_n (by omega)]; exact hv.2.2.2 i hi
/-- what a setting leaves as it was -/
def Sm (v w : Nat → Int32) : Prop := ∀ j, 7 ≤ j → w j = v j
theorem Q_setk {x : mm_M} {v : Nat → Int32} (h : St x v) {k : Nat} (hk : k < 7) {b lo hi : Int32} (h0 : mm_st 0 k = lo) (h1 : mm_st 1 k = hi)
    (hw : lo ≤ b → b ≤ hi → WV (upd v k b)) : ∃ x' w r, fn_X4_set (nI k) b x = some (x', r) ∧ St x' w ∧ Sm v w := by
  have hB : ∀ y, fn_X3_changeSetting (nI k) b y = if lo ≤ b ∧ b ≤ hi then some (mm_up y 2 k b, y 2 k) else some (y, -2) := fun y => by
    have l7 : nI k < 7 := by show nI k < nI 7; exact nI_lt hk (by omega)
    have nn : (nI k < 0 ∨ 7 ≤ (nI k).toNatClampNeg) = False := eq_false (nI_in hk (by omega))
    unfold fn_X3_changeSetting
    rw [if_neg (nI_pos (by omega)), if_pos l7]
    simp only [nn, if_false, Option.bind_some]
    rw [nI_clamp (by omega), h0, h1]
    by_cases c1 : b < lo
    · rw [if_pos c1, if_neg (fun q => absurd c1 (Int32.not_lt.mpr q.1))]
    · rw [if_neg c1]
      by_cases c2 : b ≤ hi
      · rw [if_pos c2, if_pos ⟨Int32.not_lt.mp c1, c2⟩]
      · rw [if_neg c2, if_neg (fun q => c2 q.2)]
  by_cases c : lo ≤ b ∧ b ≤ hi
  · obtain ⟨x', f, h'⟩ := Q_op h (opB := fn_X3_changeSetting (nI k) b) (w := upd v k b) (r := v k) (fun y s B => by
        refine ⟨mm_up y 2 k b, ?_, Sim_set h.2.1 s hk, ?_, fun a ha => mm_up_ne (by omega)⟩
        · rw [hB y, if_pos c]; congr 2; exact s.1 k hk
        · exact fun a ha => by rw [mm_up_ne (kd_not ha).2.1]; exact B a ha) (hw c.1 c.2)
    exact ⟨x', _, _, f, h', fun j hj => upd_n (by omega)⟩
  · obtain ⟨x', f, h'⟩ := Q_op h (opB := fn_X3_changeSetting (nI k) b) (w := v) (r := -2) (fun y s B => ⟨y, by rw [hB y, if_neg c], s, B, fun _ _ => rfl⟩) h.2.1
    exact ⟨x', _, _, f, h', fun j hj => rfl⟩
theorem Q_set {x : mm_M} {v : Nat → Int32} (h : St x v) (k : Nat) (hk : k < 7) (b : Int32) : ∃ x' w r, fn_X4_set (nI k) b x = some (x', r) ∧ St x' w ∧ Sm v w := by
  have q := h.2.1
  match k, hk with
  | 0, _ => exact Q_setk h (by omega) (lo := 0) (hi := 9999) rfl rfl (fun l1 l2 => WV_hi q (by omega) ⟨⟨l1, l2⟩, q.1.2.1, q.1.2.2.1, q.1.2.2.2.1, q.1.2.2.2.2.1, q.1.2.2.2.2.2.1, q.1.2.2.2.2.2.2⟩)
  | 1, _ => exact Q_setk h (by omega) (lo := 0) (hi := 9999) rfl rfl (fun l1 l2 => WV_hi q (by omega) ⟨q.1.1, ⟨l1, l2⟩, q.1.2.2.1, q.1.2.2.2.1, q.1.2.2.2.2.1, q.1.2.2.2.2.2.1, q.1.2.2.2.2.2.2⟩)
  | 2, _ => exact Q_setk h (by omega) (lo := 0) (hi := 9999) rfl rfl (fun l1 l2 => WV_hi q (by omega) ⟨q.1.1, q.1.2.1, ⟨l1, l2⟩, q.1.2.2.2.1, q.1.2.2.2.2.1, q.1.2.2.2.2.2.1, q.1.2.2.2.2.2.2⟩)
  | 3, _ => exact Q_setk h (by omega) (lo := 1) (hi := 99) rfl rfl (fun l1 l2 => WV_hi q (by omega) ⟨q.1.1, q.1.2.1, q.1.2.2.1, ⟨l1, l2⟩, q.1.2.2.2.2.1, q.1.2.2.2.2.2.1, q.1.2.2.2.2.2.2⟩)
  | 4, _ => exact Q_setk h (by omega) (lo := 1) (hi := 99999) rfl rfl (fun l1 l2 => WV_hi q (by omega) ⟨q.1.1, q.1.2.1, q.1.2.2.1, q.1.2.2.2.1, ⟨l1, l2⟩, q.1.2.2.2.2.2.1, q.1.2.2.2.2.2.2⟩)
  | 5, _ => exact Q_setk h (by omega) (lo := 1) (hi := 99999) rfl rfl (fun l1 l2 => WV_hi q (by omega) ⟨q.1.1, q.1.2.1, q.1.2.2.1, q.1.2.2.2.1, q.1.2.2.2.2.1, ⟨l1, l2⟩, q.1.2.2.2.2.2.2⟩)
  | 6, _ => exact Q_setk h (by omega) (lo := 1) (hi := 999) rfl rfl (fun l1 l2 => WV_hi q (by omega) ⟨q.1.1, q.1.2.1, q.1.2.2.1, q.1.2.2.2.1, q.1.2.2.2.2.1, q.1.2.2.2.2.2.1, ⟨l1, l2⟩⟩)
