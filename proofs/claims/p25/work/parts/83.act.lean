/-! AN ACT OF THE LAW -/
def tailF (s t : Int32) (x : mm_M) : Option (mm_M × Int32) := (fn_X4_count 5 x).bind fun a => (fn_X4_count 4 x).bind fun b => if b = t then if a = (s + 0) then (fn_L_chosen x).bind fun q => if q = 0 then none else some (x, 1) else none else if a = (s + 1) then (fn_L_chosen x).bind fun q => if q = 0 then none else some (x, 1) else none
def togF (dd : Nat → Int32) (v2 s t : Int32) (x : mm_M) : Option (mm_M × Int32) := if ((8 : Int32) * v2) < 0 ∨ 64 ≤ Int32.toNatClampNeg ((8 : Int32) * v2) then none else if (dd (Int32.toNatClampNeg ((8 : Int32) * v2))) = 0 then mm_b2 (fn_X4_close v2 x) fun y r => if r = (-5) then mm_b2 (fn_X4_open v2 y) fun z f => (fn_L_changed dd v2 1 f z).bind fun q => if q = 0 then none else tailF s t z else none else mm_b2 (fn_X4_open v2 x) fun y r => if r = (-5) then mm_b2 (fn_X4_close v2 y) fun z f => (fn_L_changed dd v2 0 f z).bind fun q => if q = 0 then none else tailF s t z else none
def prcF (dd : Nat → Int32) (v2 p s t : Int32) (x : mm_M) : Option (mm_M × Int32) := if (((8 : Int32) * v2) + 1) < 0 ∨ 64 ≤ Int32.toNatClampNeg (((8 : Int32) * v2) + 1) then none else mm_b2 (fn_X4_price v2 (dd (Int32.toNatClampNeg (((8 : Int32) * v2) + 1))) x) fun y r => if r = (-5) then mm_b2 (fn_X4_price v2 p y) fun z f => (fn_L_changed dd v2 2 f z).bind fun q => if q = 0 then none else (fn_X4_of v2 1 z).bind fun a => if a = p then tailF s t z else none else none
def priF (dd : Nat → Int32) (v2 a2 s t : Int32) (x : mm_M) : Option (mm_M × Int32) := if (((8 : Int32) * v2) + 1) < 0 ∨ 64 ≤ Int32.toNatClampNeg (((8 : Int32) * v2) + 1) then none else (fn_L_low a2 1000 x).bind fun l => if (dd (Int32.toNatClampNeg (((8 : Int32) * v2) + 1))) = l then (fn_L_low a2 1000 x).bind fun m => (some (((m + 1) - (m + 1) / 1000 * 1000) : Int32)).bind fun p => prcF dd v2 p s t x else (fn_L_low a2 1000 x).bind fun p => prcF dd v2 p s t x
def pasF (dd : Nat → Int32) (s t : Int32) (x : mm_M) : Option (mm_M × Int32) := mm_b2 (fn_L_passed dd x) fun y r => if r = 0 then none else tailF s t y
def lanF (a2 v1 s t : Int32) (x : mm_M) : Option (mm_M × Int32) := (fn_L_low a2 1000 x).bind fun p => mm_b2 (fn_X4_landing p x) fun y r => if r = v1 then (fn_X4_of v1 0 y).bind fun a => if a = 1 then (fn_X4_of v1 2 y).bind fun b => if b = 0 then (fn_X4_of v1 3 y).bind fun d => if d = 0 then tailF s t y else none else none else none else none
theorem act_eq (a1 a2 : Int32) (x : mm_M) : fn_L_act a1 a2 x = (fn_L_told x).bind fun dd => (fn_X4_count 1 x).bind fun v1 => (fn_L_low (a1 >>> ((4 : Int32) &&& 31)) v1 x).bind fun v2 => (fn_X4_count 4 x).bind fun t => (fn_X4_count 5 x).bind fun s => (fn_L_low a1 9 x).bind fun v5 => if v5 = 0 then (if (8 : Int32) ≤ v1 then (if (4 : Int32) ≤ v5 then (if (6 : Int32) ≤ v5 then pasF dd s t x else priF dd v2 a2 s t x) else togF dd v2 s t x) else lanF a2 v1 s t x) else (if (4 : Int32) ≤ v5 then (if (6 : Int32) ≤ v5 then pasF dd s t x else priF dd v2 a2 s t x) else togF dd v2 s t x) := rfl
theorem L_low (a : Int32) {m : Nat} (h0 : 0 < m) (hm : m < 2 ^ 31) (x : mm_M) : ∃ r, r < m ∧ fn_L_low a (nI m) x = some (nI r) := by
  obtain ⟨j, hj, e⟩ := pk_andE a (m := 2147483647) 31 (by decide)
  refine ⟨j % m, Nat.mod_lt _ h0, ?_⟩
  have hz : ¬ nI m = 0 := by
    intro q
    have : nI m = nI 0 := q
    have := nI_u hm (by omega) this
    omega
  unfold fn_L_low
  rw [if_neg hz, e, pk_rem hj h0 hm]
def Fz (v : Nat → Int32) (c : Nat) : Prop := ∀ i, i < c → ∃ f, f ≤ 999 ∧ v (71 + 8 * i + 1) = nI f
def Jc (v : Nat → Int32) (c : Nat) : Prop := 3 ≤ c ∧ c ≤ 8 ∧ v 8 = nI c ∧ Z4 v c ∧ Fz v c
section ACT
variable {x : mm_M} {v w : Nat → Int32} {dd : Nat → Int32} {c i what sort : Nat} {value s t : Int32}
theorem L_tail (h : St x w) (hc : c ≤ 8) (h8 : w 8 = nI c) (h9 : w 9 = s + (if taken w = t then 0 else 1)) : tailF s t x = some (x, 1) := by
  have z10 : ((1 : Int32) = 0) = False := eq_false (by decide)
  unfold tailF
  rw [R_c5 h, R_c4 h, L_chosen h hc h8]
  simp only [Option.bind_some, h9]
  by_cases q : taken w = t
  · simp only [q, z10, eq_self, if_true, if_false]
  · simp only [q, z10, eq_self, if_true, if_false]
theorem J_ch (hF : ChF v w i what value sort) (hv : what = 1 → ∃ f, f ≤ 999 ∧ value = nI f) (hJ : Jc v c) (hw : what < 2) : Jc w c ∧ w 7 = v 7 := by
  obtain ⟨k0, k9, k2, k6, k5, kw, ko, kq, hN⟩ := hF
  obtain ⟨h3, hc, h8, hz, hf⟩ := hJ
  refine ⟨⟨h3, hc, (k0 8 (by omega)).trans h8, fun l hl => ?_, fun l hl => ?_⟩, k0 7 (by omega)⟩
  · by_cases e : l = i
    · subst e
      rcases hN with ⟨-, n3, n4, -⟩ | ⟨-, n3, n4, -⟩
      · intro _; exact n4
      · rw [n3, n4]; exact hz l hl
    · rw [ko _ (by omega) (by omega), ko _ (by omega) (by omega)]; exact hz l hl
  · by_cases e : l = i
    · subst e
      by_cases q : what = 1
      · subst q; rw [kw]; exact hv rfl
      · rw [kq 1 (by omega) (fun z => q z.symm)]; exact hf l hl
    · rw [ko _ (by omega) (by omega)]; exact hf l hl
theorem pm_z {h b l f s sh fr : Int32} (q : sh = 0 → fr = 0) : (pm h b l f s sh fr).2.2.1 = 0 → (pm h b l f s sh fr).2.2.2.1 = 0 := by
  unfold pm
  simp only []
  by_cases e : sh = 0
  · rw [if_pos e]; exact fun _ => q e
  · rw [if_neg e]
    (repeat' split) <;> first | exact fun _ => rfl | exact fun z => absurd z e
theorem J_min (hF : MinF v w c) (hJ : Jc v c) : Jc w c := by
  obtain ⟨m1, m7, m9, m2, mL⟩ := hF
  obtain ⟨h3, hc, h8, hz, hf⟩ := hJ
  refine ⟨h3, hc, (m1 8 (by omega) (by omega)).trans h8, fun l hl => ?_, fun l hl => ?_⟩
  · rw [m2 l hl 3 (by omega), m2 l hl 4 (by omega), mst3, mst4]
    exact pm_z (hz l hl)
  · rw [m2 l hl 1 (by omega), mst_ne (by omega)]; exact hf l hl
theorem turn_at (hc : c ≤ 8) (h8 : v 8 = nI c) (hi : i < c) (o : Int32) : turnV v (nI i) o = if v (71 + 8 * i) = o then (v, -5) else chV v i 0 o (if o = 1 then 1 else 0) := by
  unfold turnV
  rw [h8, if_pos (in_c hc hi), nI_clamp (by omega)]
theorem cost_at (hc : c ≤ 8) (h8 : v 8 = nI c) (hi : i < c) {f : Nat} (hf : f ≤ 999) : costV v (nI i) (nI f) = if v (71 + 8 * i + 1) = nI f then (v, -5) else chV v i 1 (nI f) 2 := by
  unfold costV
  have q : 0 ≤ nI f ∧ nI f ≤ 999 := ⟨nI_pos' (by omega), by show nI f ≤ nI 999; exact nI_le hf (by omega)⟩
  rw [h8, if_pos (in_c hc hi), if_pos q, nI_clamp (by omega)]
theorem A_tog (h : St x v) (hJ : Jc v c) (hi : i < c) (hd : ∀ k, k < 8 * c → dd k = v (71 + k)) : ∃ x' w, togF dd (nI i) (v 9) (taken v) x = some (x', 1) ∧ St x' w ∧ Jc w c ∧ w 7 = v 7 := by
  obtain ⟨h3, hc, h8, hz, hf⟩ := id hJ
  have z10 : ((1 : Int32) = 0) = False := eq_false (by decide)
  have d0 : dd (8 * i) = v (71 + 8 * i) := d_at hd hi (j := 0) (by omega)
  have hb := h.2.1.2.2.2 i (by omega)
  unfold togF
  rw [m8, if_neg (nI_in (by omega) (by omega)), nI_clamp (by omega), d0]
  rcases hb.1 with e | e
  · obtain ⟨y, f1, S1⟩ := Q_close h (nI i)
    rw [turn_at hc h8 hi, if_pos e] at f1 S1
    obtain ⟨z, f2, S2⟩ := Q_open S1 (nI i)
    rw [turn_at hc h8 hi, if_neg (show ¬ v (71 + 8 * i) = 1 by rw [e]; decide), if_pos rfl] at f2 S2
    obtain ⟨F, r⟩ := ch_row (v := v) (i := i) (what := 0) (sort := 1) (value := 1) h.2.1 (by omega) (by omega) (by omega)
    rw [r] at f2
    obtain ⟨J1, j7⟩ := J_ch F (fun q => by omega) hJ (by omega)
    have L : fn_L_changed dd (nI i) 1 (dueV v i 1) z = some 1 := L_changed (sort := 1) S2 hc J1.2.2.1 hi (by omega) hd (hz i hi) hb.2.1 F
    refine ⟨z, _, ?_, S2, J1, j7⟩
    rw [if_pos e, f1, mm_b2_some, if_pos rfl, f2, mm_b2_some, L]
    simp only [Option.bind_some, z10, if_false]
    exact L_tail S2 hc J1.2.2.1 F.2.1
  · obtain ⟨y, f1, S1⟩ := Q_open h (nI i)
    rw [turn_at hc h8 hi, if_pos e] at f1 S1
    obtain ⟨z, f2, S2⟩ := Q_close S1 (nI i)
    rw [turn_at hc h8 hi, if_neg (show ¬ v (71 + 8 * i) = 0 by rw [e]; decide), if_neg (by decide)] at f2 S2
    obtain ⟨F, r⟩ := ch_row (v := v) (i := i) (what := 0) (sort := 0) (value := 0) h.2.1 (by omega) (by omega) (by omega)
    rw [r] at f2
    obtain ⟨J1, j7⟩ := J_ch F (fun q => by omega) hJ (by omega)
    have L : fn_L_changed dd (nI i) 0 (dueV v i 0) z = some 1 := L_changed (sort := 0) S2 hc J1.2.2.1 hi (by omega) hd (hz i hi) hb.2.1 F
    refine ⟨z, _, ?_, S2, J1, j7⟩
    rw [if_neg (show ¬ v (71 + 8 * i) = 0 by rw [e]; decide), f1, mm_b2_some, if_pos rfl, f2, mm_b2_some, L]
    simp only [Option.bind_some, z10, if_false]
    exact L_tail S2 hc J1.2.2.1 F.2.1
theorem A_prc {p : Nat} (h : St x v) (hJ : Jc v c) (hi : i < c) (hd : ∀ k, k < 8 * c → dd k = v (71 + k)) (hp : p ≤ 999) (hne : ¬ v (71 + 8 * i + 1) = nI p) : ∃ x' w, prcF dd (nI i) (nI p) (v 9) (taken v) x = some (x', 1) ∧ St x' w ∧ Jc w c ∧ w 7 = v 7 := by
  obtain ⟨h3, hc, h8, hz, hf⟩ := id hJ
  have z10 : ((1 : Int32) = 0) = False := eq_false (by decide)
  have d1 := d_at hd hi (j := 1) (by omega)
  have hb := h.2.1.2.2.2 i (by omega)
  obtain ⟨f, hf9, ef⟩ := hf i hi
  unfold prcF
  rw [m8, p1, if_neg (nI_in (by omega) (by omega)), nI_clamp (by omega), d1, ef]
  obtain ⟨y, f1, S1⟩ := Q_price h (nI i) (nI f)
  rw [cost_at hc h8 hi hf9, if_pos ef] at f1 S1
  obtain ⟨z, f2, S2⟩ := Q_price S1 (nI i) (nI p)
  rw [cost_at hc h8 hi hp, if_neg hne] at f2 S2
  obtain ⟨F, r⟩ := ch_row (v := v) (i := i) (what := 1) (sort := 2) (value := nI p) h.2.1 (by omega) (by omega) (by omega)
  rw [r] at f2
  obtain ⟨J1, j7⟩ := J_ch F (fun _ => ⟨p, hp, rfl⟩) hJ (by omega)
  have L : fn_L_changed dd (nI i) 2 (dueV v i 2) z = some 1 := L_changed (sort := 2) S2 hc J1.2.2.1 hi (by omega) hd (hz i hi) hb.2.1 F
  refine ⟨z, _, ?_, S2, J1, j7⟩
  rw [f1, mm_b2_some, if_pos rfl, f2, mm_b2_some, L]
  simp only [Option.bind_some, z10, if_false]
  rw [o1 S2 hc J1.2.2.1 hi]
  simp only [Option.bind_some]
  rw [if_pos F.2.2.2.2.2.1]
  exact L_tail S2 hc J1.2.2.1 F.2.1
theorem A_pri (a2 : Int32) (h : St x v) (hJ : Jc v c) (hi : i < c) (hd : ∀ k, k < 8 * c → dd k = v (71 + k)) : ∃ x' w, priF dd (nI i) a2 (v 9) (taken v) x = some (x', 1) ∧ St x' w ∧ Jc w c ∧ w 7 = v 7 := by
  obtain ⟨h3, hc, h8, hz, hf⟩ := id hJ
  have d1 := d_at hd hi (j := 1) (by omega)
  obtain ⟨r, hr, er⟩ := L_low a2 (m := 1000) (by omega) (by omega) x
  have er : fn_L_low a2 1000 x = some (nI r) := er
  unfold priF
  rw [m8, p1, if_neg (nI_in (by omega) (by omega)), nI_clamp (by omega), d1, er]
  simp only [Option.bind_some]
  by_cases q : v (71 + 8 * i + 1) = nI r
  · rw [if_pos q]
    have e2 : nI r + 1 - (nI r + 1) / 1000 * 1000 = nI ((r + 1) % 1000) := by
      rw [nI_1]; exact pk_rem (d := 1000) (by omega) (by omega) (by omega)
    rw [e2]
    refine A_prc h hJ hi hd (by omega) (fun z => ?_)
    rw [q] at z
    have := nI_u (by omega) (by omega) z
    omega
  · rw [if_neg q]
    exact A_prc h hJ hi hd (by omega) q
theorem A_pas {k : Nat} (h : St x v) (hJ : Jc v c) (hd : ∀ k, k < 8 * c → dd k = v (71 + k)) (hk : k ≤ 1000) (h7 : v 7 = nI k) : ∃ x' w, pasF dd (v 9) (taken v) x = some (x', 1) ∧ St x' w ∧ Jc w c ∧ w 7 = v 7 + 1 := by
  obtain ⟨h3, hc, h8, hz, hf⟩ := id hJ
  have z10 : ((1 : Int32) = 0) = False := eq_false (by decide)
  obtain ⟨y, f, S, M⟩ := L_passed h hc h8 hd hz hk h7
  have J1 := J_min M hJ
  refine ⟨y, _, ?_, S, J1, M.2.1⟩
  unfold pasF
  rw [f, mm_b2_some]
  simp only [z10, if_false]
  exact L_tail S hc J1.2.2.1 M.2.2.1
theorem com_row {p : Nat} (hv : WV v) (hc : c < 8) (h8 : v 8 = nI c) (hp : p ≤ 999) : (comV v (nI p)).2 = nI c ∧ (comV v (nI p)).1 8 = nI (c + 1) ∧ (∀ j, j < 8 → (comV v (nI p)).1 j = v j) ∧ (comV v (nI p)).1 9 = v 9 + (if taken (comV v (nI p)).1 = taken v then 0 else 1) ∧ (∀ l, l < c → ∀ m, m < 8 → (comV v (nI p)).1 (71 + 8 * l + m) = v (71 + 8 * l + m)) ∧ ∀ m, m < 8 → (comV v (nI p)).1 (71 + 8 * c + m) = if m = 0 then 1 else if m = 1 then nI p else 0 := by
  have q : 0 ≤ nI p ∧ nI p ≤ 999 := ⟨nI_pos' (by omega), by show nI p ≤ nI 999; exact nI_le hp (by omega)⟩
  have n8 : ¬ v 8 = 8 := by
    rw [h8]
    intro z
    have := nI_u (by omega) (by omega) (show nI c = nI 8 from z)
    omega
  obtain ⟨u, hu⟩ : ∃ u, u = upd (newV v c 0 (nI p)) 8 (nI (c + 1)) := ⟨_, rfl⟩
  have e : comV v (nI p) = (swV v u, nI c) := by
    unfold comV
    rw [if_pos q, if_neg n8, h8, nI_clamp (by omega), nI_1, hu]
  rw [e]
  have ws : ∀ j, j ≠ 9 → swV v u j = u j := fun j hj => swV_ne hj
  have un : ∀ j, j ≠ 8 → u j = newV v c 0 (nI p) j := fun j hj => by rw [hu, upd_n hj]
  have u8 : u 8 = nI (c + 1) := by rw [hu, upd_s]
  refine ⟨rfl, ?_, fun j hj => ?_, ?_, fun l hl m hm => ?_, fun m hm => ?_⟩
  · show swV v u 8 = _
    rw [ws 8 (by omega), u8]
  · show swV v u j = _
    rw [ws j (by omega), un j (by omega), newV_lo (by omega)]
  · show swV v u 9 = v 9 + (if taken (swV v u) = taken v then 0 else 1)
    rw [taken_sw ⟨c + 1, by omega, u8⟩]
    have : swV v u 9 = u 9 + (if taken u = taken v then 0 else 1) := upd_s _ _ _
    rw [this, un 9 (by omega), newV_lo (by omega)]
  · show swV v u _ = _
    rw [ws _ (by omega), un _ (by omega), newV_lo (by omega)]
  · show swV v u _ = _
    rw [ws _ (by omega), un _ (by omega), ← itm_at c (nI p) m]
    unfold newV
    rw [if_pos (by omega)]
theorem J_com {p : Nat} (hv : WV v) (hc : c < 8) (h8 : v 8 = nI c) (hp : p ≤ 999) (hz : Z4 v c) (hf : Fz v c) : Z4 (comV v (nI p)).1 (c + 1) ∧ Fz (comV v (nI p)).1 (c + 1) := by
  obtain ⟨-, -, -, -, lo, at'⟩ := com_row hv hc h8 hp
  refine ⟨fun l hl => ?_, fun l hl => ?_⟩
  · by_cases e : l = c
    · subst e
      rw [at' 4 (by omega)]
      intro _; rfl
    · rw [lo l (by omega) 3 (by omega), lo l (by omega) 4 (by omega)]; exact hz l (by omega)
  · by_cases e : l = c
    · subst e
      rw [at' 1 (by omega)]
      exact ⟨p, hp, rfl⟩
    · rw [lo l (by omega) 1 (by omega)]; exact hf l (by omega)
theorem A_lan (a2 : Int32) (h : St x v) (hJ : Jc v c) (hc8 : c < 8) : ∃ x' w, lanF a2 (nI c) (v 9) (taken v) x = some (x', 1) ∧ St x' w ∧ Jc w (c + 1) ∧ w 7 = v 7 := by
  obtain ⟨h3, hc, h8, hz, hf⟩ := id hJ
  obtain ⟨r, hr, er⟩ := L_low a2 (m := 1000) (by omega) (by omega) x
  have er : fn_L_low a2 1000 x = some (nI r) := er
  obtain ⟨y, f, S⟩ := Q_landing h (nI r)
  obtain ⟨c2, w8, lo, w9, ll, at'⟩ := com_row h.2.1 hc8 h8 (p := r) (by omega)
  obtain ⟨z1, f1⟩ := J_com h.2.1 hc8 h8 (p := r) (by omega) hz hf
  rw [c2] at f
  refine ⟨y, _, ?_, S, ⟨by omega, by omega, w8, z1, f1⟩, lo 7 (by omega)⟩
  unfold lanF
  rw [er]
  simp only [Option.bind_some]
  have a0 := o0 S (by omega) w8 (show c < c + 1 by omega)
  have a2' := o2 S (by omega) w8 (show c < c + 1 by omega)
  have a3 := o3 S (by omega) w8 (show c < c + 1 by omega)
  have e0 : (comV v (nI r)).1 (71 + 8 * c) = 1 := at' 0 (by omega)
  have e2 : (comV v (nI r)).1 (71 + 8 * c + 2) = 0 := at' 2 (by omega)
  have e3 : (comV v (nI r)).1 (71 + 8 * c + 3) = 0 := at' 3 (by omega)
  rw [e0] at a0
  rw [e2] at a2'
  rw [e3] at a3
  rw [f, mm_b2_some]
  simp only [a0, a2', a3, Option.bind_some, eq_self, if_true]
  exact L_tail S (by omega) w8 w9
theorem L_act {k : Nat} (a1 a2 : Int32) (h : St x v) (hJ : Jc v c) (hk : k ≤ 1000) (h7 : v 7 = nI k) : ∃ x' w c' k', fn_L_act a1 a2 x = some (x', 1) ∧ St x' w ∧ Jc w c' ∧ k' ≤ k + 1 ∧ w 7 = nI k' := by
  obtain ⟨h3, hc, h8, hz, hf⟩ := id hJ
  obtain ⟨dd, hdd, hd⟩ := L_told h hc h8
  obtain ⟨i, hi, ei⟩ := L_low (a1 >>> ((4 : Int32) &&& 31)) (m := c) (by omega) (by omega) x
  obtain ⟨q, hq, eq⟩ := L_low a1 (m := 9) (by omega) (by omega) x
  have eq : fn_L_low a1 9 x = some (nI q) := eq
  have e4 : ((4 : Int32) ≤ nI q) = (4 ≤ q) := propext (nI_leI (a := 4) (by omega) (by omega))
  have e6 : ((6 : Int32) ≤ nI q) = (6 ≤ q) := propext (nI_leI (a := 6) (by omega) (by omega))
  have e8 : ((8 : Int32) ≤ nI c) = (8 ≤ c) := propext (nI_leI (a := 8) (by omega) (by omega))
  have e0 : (nI q = (0 : Int32)) = (q = 0) := propext ⟨fun z => nI_u (by omega) (by omega) (show nI q = nI 0 from z), fun z => by rw [z]; rfl⟩
  rw [act_eq, hdd, R_c1 h, h8]
  simp only [Option.bind_some]
  rw [ei, R_c4 h, R_c5 h, eq]
  simp only [Option.bind_some, e4, e6, e8, e0]
  have tog : ∃ x' w c' k', togF dd (nI i) (v 9) (taken v) x = some (x', 1) ∧ St x' w ∧ Jc w c' ∧ k' ≤ k + 1 ∧ w 7 = nI k' := by
    obtain ⟨x', w, b1, b2, b3, b4⟩ := A_tog h hJ hi hd
    exact ⟨x', w, c, k, b1, b2, b3, by omega, b4.trans h7⟩
  by_cases q0 : q = 0
  · rw [if_pos q0]
    by_cases c8 : 8 ≤ c
    · rw [if_pos c8, if_neg (by omega)]
      exact tog
    · rw [if_neg c8]
      obtain ⟨x', w, b1, b2, b3, b4⟩ := A_lan a2 h hJ (by omega)
      exact ⟨x', w, c + 1, k, b1, b2, b3, by omega, b4.trans h7⟩
  · rw [if_neg q0]
    by_cases q4 : 4 ≤ q
    · rw [if_pos q4]
      by_cases q6 : 6 ≤ q
      · rw [if_pos q6]
        obtain ⟨x', w, b1, b2, b3, b4⟩ := A_pas h hJ hd hk h7
        exact ⟨x', w, c, k + 1, b1, b2, b3, by omega, by rw [b4, h7, nI_1]⟩
      · rw [if_neg q6]
        obtain ⟨x', w, b1, b2, b3, b4⟩ := A_pri a2 h hJ hi hd
        exact ⟨x', w, c, k, b1, b2, b3, by omega, b4.trans h7⟩
    · rw [if_neg q4]
      exact tog
end ACT
