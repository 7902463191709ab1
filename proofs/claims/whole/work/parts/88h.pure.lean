/-! THE CHANGES, side by side -/
def Pair (F G : mm_M → Option (mm_M × Int32)) (x : mm_M) : Prop := ∃ x1 x2 r, F x = some (x1, r) ∧ G x1 = some (x2, r) ∧ Inv x2
theorem BZ_kp {x x1 : mm_M} {h : Nat} {p : Nat → Nat} (hH : IHi x h p) (o1 : ∀ a, (a < p h ∨ p h + 14 < a) → x1 a = x a) {a : Nat} (ha : a < 22 ∨ 126 < a) : x1 a = x a := by
  have hh := IHi_rg hH (i := h) (by have := hH.1; omega)
  exact o1 a (by omega)
theorem rem_sp (x : mm_M) : fn_X5_remember x = some (cs (cs (cs x 160 (fun j => if j < 135 then x 158 j else x 160 j)) 157 (x 157)) 158 (x 158)) := by
  rw [pu_remember]
  congr 1
  refine mm_ext1 160 (fun a ha => ?_) (fun i => ?_)
  · rw [cs_ne ha]
    by_cases q : a = 158
    · subst q; rw [cs_k]
    · rw [cs_ne q]
      by_cases q' : a = 157
      · subst q'; rw [cs_k]
      · rw [cs_ne q', cs_ne ha]
  · rw [cs_k, cs_ne (by omega), cs_ne (by omega), cs_k]
theorem Inv_keep {x : mm_M} (hI : Inv x) : ∃ x1 h p, fn_X4_keepState x = some x1 ∧ IHi x h p ∧ CpEq x1 (p h) x 1 ∧ BZ x1 ∧ (∀ a, (a < p h ∨ p h + 14 < a) → x1 a = x a) ∧ Sim x1 1 (x 158) ∧ Inv x1 := by
  obtain ⟨hB, hv, hS, ⟨h, p, hH⟩, hL, hP⟩ := hI
  obtain ⟨x1, f1, c1, B1, o1⟩ := B_keep hB hH
  have hh := IHi_rg hH (i := h) (by have := hH.1; omega)
  have s1 : Sim x1 1 (x 158) := Sim_keep hS (fun a l1 l2 => o1 a (by omega))
  refine ⟨x1, h, p, f1, hH, c1, B1, o1, s1, B1, ?_, ?_, ⟨h, p, ?_⟩, ?_, ?_⟩
  · rw [o1 158 (by omega)]; exact hv
  · rw [o1 158 (by omega)]; exact s1
  · refine IHi_of hH ?_ ?_ ?_ ?_ (fun i a hi l1 l2 => ?_)
    · rw [o1 0 (by omega)]
    · rw [o1 157 (by omega)]
    · exact o1 16 (by omega)
    · exact o1 159 (by omega)
    · have nn := IHi_ne hH (i := i) (j := h) (by have := hH.1; omega) (by have := hH.1; omega) (by omega)
      exact o1 a (by omega)
  · exact ISl_of hL (o1 18 (by omega)) (o1 162 (by omega)) (o1 161 (by omega)) (fun a l1 l2 => o1 a (by omega))
  · exact IPd_of hP (by rw [o1 19 (by omega)]) (by rw [o1 157 (by omega)]) (o1 20 (by omega)) (o1 163 (by omega))
theorem rec_neg {r : Int32} (hr : ¬ 0 ≤ r) (x : mm_M) : fn_X4_recordUnlessError r x = some (x, r) := by
  unfold fn_X4_recordUnlessError; rw [if_neg hr]
theorem B_chg {x : mm_M} (hI : Inv x) {opB opM : mm_M → Option (mm_M × Int32)} {w : Nat → Int32} {r : Int32}
    (hB : ∀ y, Sim y 1 (x 158) → BZ y → ∃ y', opB y = some (y', r) ∧ Sim y' 1 w ∧ BZ y' ∧ Fr15 y y')
    (hM : ∀ (y : mm_M) (u : Nat → Int32), ∃ u' : Nat → Int32, (∀ j, j < 10 → u' j = u j) ∧ opM (cs (cs y 157 u) 158 (x 158)) = some (cs (cs y 157 u') 158 w, r))
    (hw : WV w) :
    Pair (fun y => (fn_X4_keepState y).bind fun x1 => mm_b2 (opB x1) fun x2 v1 => mm_b2 (fn_X4_recordUnlessError v1 x2) fun x3 v2 => some (x3, v2)) (fun y => (fn_X5_remember y).bind fun x1 => mm_b2 (opM x1) fun x2 v1 => mm_b2 (fn_X5_record v1 x2) fun x3 v2 => some (x3, v2)) x := by
  obtain ⟨x1, h, p, f1, hH, c1, B1, o1, s1, -⟩ := Inv_keep hI
  obtain ⟨-, hv, hS, -, hL, hP⟩ := hI
  have h6 := hH.1
  have hh := IHi_rg hH (i := h) (by omega)
  obtain ⟨x2, f2, s2, B2, fr2⟩ := hB x1 s1 B1
  have c2 : CpEq x2 (p h) x 1 := by
    obtain ⟨a1, a2, a3, a4, a5⟩ := c1
    refine ⟨fun j hj => by rw [fr2 _ (by omega)]; exact a1 j hj, fun j q1 q2 => by rw [fr2 _ (by omega)]; exact a2 j q1 q2, ?_, fun j hj => ?_, fun i hi j hj => by rw [fr2 _ (by omega)]; exact a5 i hi j hj⟩
    · rw [fr2 _ (by omega)]; exact a3
    · rw [fr2 (p h + 4) (by omega), fr2 (p h + 5) (by omega), fr2 (p h + 6) (by omega)]; exact a4 j hj
  have o2 : ∀ a, (a = 0 ∨ 15 < a) → (a < p h ∨ p h + 14 < a) → x2 a = x a := fun a q1 q2 => (fr2 a q1).trans (o1 a q2)
  obtain ⟨x3, f3, o3, k3⟩ := B_rec r hv hS hH hL c2 (fun a ha => by
    rcases ha with q | q
    · exact o2 a (Or.inl q) (by omega)
    · exact o2 a (Or.inr q.1) q.2.2.2.2) B2 s2 hw
  have e158 : x3 158 = x 158 := by rw [o3 158 (by omega) (by omega), o2 158 (by omega) (by omega)]
  have e157 : x3 157 = x 157 := by rw [o3 157 (by omega) (by omega), o2 157 (by omega) (by omega)]
  obtain ⟨u', hu, fm⟩ := hM (cs x3 160 (fun j => if j < 135 then x3 158 j else x3 160 j)) (x3 157)
  obtain ⟨x4, f4, I4⟩ := k3 (cs (cs (cs x3 160 (fun j => if j < 135 then x3 158 j else x3 160 j)) 157 u') 158 w) (fun a q1 q2 q3 _ _ => by rw [cs_ne q2, cs_ne q1, cs_ne q3]) (cs_k _ _ _) (fun j hj => by
    rw [cs_ne (by omega), cs_ne (by omega), cs_k]
    show (if j < 135 then x3 158 j else _) = _
    rw [if_pos hj, e158]) (by rw [cs_ne (by omega), cs_k, hu 5 (by omega), e157]; exact hH.2.2.1) (by
    refine IPd_of hP ?_ ?_ ?_ ?_
    · rw [cs_ne (by omega), cs_ne (by omega), cs_ne (by omega), o3 19 (by omega) (by omega), o2 19 (by omega) (by omega)]
    · rw [cs_ne (by omega), cs_k, hu 7 (by omega), e157]
    · rw [cs_ne (by omega), cs_ne (by omega), cs_ne (by omega), o3 20 (by omega) (by omega), o2 20 (by omega) (by omega)]
    · rw [cs_ne (by omega), cs_ne (by omega), cs_ne (by omega), o3 163 (by omega) (by omega), o2 163 (by omega) (by omega)])
  refine ⟨x3, x4, r, ?_, ?_, I4⟩
  · show ((fn_X4_keepState x).bind fun x1 => mm_b2 (opB x1) fun x2 v1 => mm_b2 (fn_X4_recordUnlessError v1 x2) fun x3 v2 => some (x3, v2)) = some (x3, r)
    rw [f1]
    show (mm_b2 (opB x1) fun x2 v1 => mm_b2 (fn_X4_recordUnlessError v1 x2) fun x3 v2 => some (x3, v2)) = some (x3, r)
    rw [f2, mm_b2_some, f3, mm_b2_some]
  · show ((fn_X5_remember x3).bind fun x1 => mm_b2 (opM x1) fun x2 v1 => mm_b2 (fn_X5_record v1 x2) fun x3 v2 => some (x3, v2)) = some (x4, r)
    rw [rem_sp x3, e158]
    rw [e158] at fm f4
    show (mm_b2 (opM _) fun x2 v1 => mm_b2 (fn_X5_record v1 x2) fun x3 v2 => some (x3, v2)) = some (x4, r)
    rw [fm, mm_b2_some, f4, mm_b2_some]
theorem P_landing {x : mm_M} (hI : Inv x) (a : Int32) : Pair (fn_X4_landing a) (fn_X5_landing a) x :=
  B_chg hI (opB := fn_X3_addLanding a) (opM := fn_X5_comes a) (w := (comV (x 158) a).1) (r := (comV (x 158) a).2) (fun y s B => B_com hI.2.1 s B a) (fun y u => ⟨u, fun _ _ => rfl, pu_comes hI.2.1 a⟩) (WV_com hI.2.1)
theorem P_open {x : mm_M} (hI : Inv x) (a : Int32) : Pair (fn_X4_open a) (fn_X5_open a) x :=
  B_chg hI (opB := fn_X3_openLanding a) (opM := fn_X5_turns a 1) (w := (turnV (x 158) a 1).1) (r := (turnV (x 158) a 1).2) (fun y s B => (B_turn hI.2.1 s B a).1) (fun y u => ⟨u, fun _ _ => rfl, pu_turns hI.2.1 a (Or.inr rfl)⟩) (WV_turn hI.2.1 (Or.inr rfl))
theorem P_close {x : mm_M} (hI : Inv x) (a : Int32) : Pair (fn_X4_close a) (fn_X5_close a) x :=
  B_chg hI (opB := fn_X3_closeLanding a) (opM := fn_X5_turns a 0) (w := (turnV (x 158) a 0).1) (r := (turnV (x 158) a 0).2) (fun y s B => (B_turn hI.2.1 s B a).2) (fun y u => ⟨u, fun _ _ => rfl, pu_turns hI.2.1 a (Or.inl rfl)⟩) (WV_turn hI.2.1 (Or.inl rfl))
theorem P_price {x : mm_M} (hI : Inv x) (a b : Int32) : Pair (fn_X4_price a b) (fn_X5_price a b) x :=
  B_chg hI (opB := fn_X3_changePrice a b) (opM := fn_X5_costs a b) (w := (costV (x 158) a b).1) (r := (costV (x 158) a b).2) (fun y s B => B_cost hI.2.1 s B a b) (fun y u => ⟨u, fun _ _ => rfl, pu_costs hI.2.1 a b⟩) (WV_cost hI.2.1)
theorem P_pass {x : mm_M} (hI : Inv x) (a : Int32) : Pair (fn_X4_pass a) (fn_X5_pass a) x :=
  B_chg hI (opB := fn_X3_passMinutes a) (opM := fn_X5_waits a) (w := (waitV (x 158) a).1) (r := (waitV (x 158) a).2) (fun y s B => B_pass hI.2.1 s B a) (fun y u => pu_waits hI.2.1 a) (WV_wait hI.2.1)
