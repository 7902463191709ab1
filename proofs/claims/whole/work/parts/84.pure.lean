/-! THE REFERENCE'S MINUTES, COMINGS, CHANGES, by its row v and its own numbers u -/
def bz (a : Int32) : Prop := a = 0 ∨ a = 1
def LOK (v : Nat → Int32) (i : Nat) : Prop := bz (v (71 + 8 * i)) ∧ bz (v (71 + 8 * i + 3)) ∧ 0 ≤ v (71 + 8 * i + 4) ∧ v (71 + 8 * i + 4) ≤ 998
def SOK (v : Nat → Int32) : Prop := (0 ≤ v 0 ∧ v 0 ≤ 9999) ∧ (0 ≤ v 1 ∧ v 1 ≤ 9999) ∧ (0 ≤ v 2 ∧ v 2 ≤ 9999) ∧ (1 ≤ v 3 ∧ v 3 ≤ 99) ∧ (1 ≤ v 4 ∧ v 4 ≤ 99999) ∧ (1 ≤ v 5 ∧ v 5 ≤ 99999) ∧ (1 ≤ v 6 ∧ v 6 ≤ 999)
def WV (v : Nat → Int32) : Prop := SOK v ∧ (∃ c, c ≤ 8 ∧ v 8 = nI c) ∧ (∃ e, e ≤ 20 ∧ v 10 = nI e) ∧ ∀ i, i < 8 → LOK v i
def u4 (u : Nat → Int32) (f s h r : Int32) : Nat → Int32 := fun j => if j = 10 then f else if j = 11 then s else if j = 12 then h else if j = 13 then r else u j
theorem u4_lo {u : Nat → Int32} {f s h r : Int32} {j : Nat} (hj : j < 10) : u4 u f s h r j = u j := by
  unfold u4; rw [if_neg (by omega), if_neg (by omega), if_neg (by omega), if_neg (by omega)]
theorem at157 {y : mm_M} {u v : Nat → Int32} : (cs (cs y 157 u) 158 v) 157 = u := by rw [cs_ne (by omega), cs_k]
theorem st4_cs {y : mm_M} {u v : Nat → Int32} {f s h r : Int32} : st4 (cs (cs y 157 u) 158 v) 157 10 11 12 13 f s h r = cs (cs y 157 (u4 u f s h r)) 158 v := by
  refine mm_ext1 157 (fun a ha => ?_) (fun i => ?_)
  · rw [st4_ne ha]
    by_cases h8 : a = 158
    · subst h8; rw [cs_k, cs_k]
    · rw [cs_ne h8, cs_ne h8, cs_ne ha, cs_ne ha]
  · rw [st4_k, at157, at157]; rfl
theorem up157 {y : mm_M} {u v : Nat → Int32} {j : Nat} {a : Int32} : mm_up (cs (cs y 157 u) 158 v) 157 j a = cs (cs y 157 (upd u j a)) 158 v := by
  refine mm_ext1 157 (fun b ha => ?_) (fun i => ?_)
  · rw [mm_up_ne ha]
    by_cases h8 : b = 158
    · subst h8; rw [cs_k, cs_k]
    · rw [cs_ne h8, cs_ne h8, cs_ne ha, cs_ne ha]
  · rw [mm_up_same, at157, at157]
theorem its4 {i : Nat} (hi : i < 8) (x : mm_M) (v : Nat → Int32) : fn_X5_its (nI i) 4 (cs x 158 v) = some (v (71 + 8 * i + 4)) := by
  have h := pu_its (j := 4) hi (by omega) (cs x 158 v); rw [cs_k] at h; exact h
theorem its5 {i : Nat} (hi : i < 8) (x : mm_M) (v : Nat → Int32) : fn_X5_its (nI i) 5 (cs x 158 v) = some (v (71 + 8 * i + 5)) := by
  have h := pu_its (j := 5) hi (by omega) (cs x 158 v); rw [cs_k] at h; exact h
theorem passc {y : mm_M} {u v : Nat → Int32} : fn_X5_passes (cs (cs y 157 u) 158 v) = some (cs (cs y 157 (u4 u (pm (v 3) (v 5) (v 6) (u 10) (u 11) (u 12) (u 13)).1 (pm (v 3) (v 5) (v 6) (u 10) (u 11) (u 12) (u 13)).2.1 (pm (v 3) (v 5) (v 6) (u 10) (u 11) (u 12) (u 13)).2.2.1 (pm (v 3) (v 5) (v 6) (u 10) (u 11) (u 12) (u 13)).2.2.2.1)) 158 v, (pm (v 3) (v 5) (v 6) (u 10) (u 11) (u 12) (u 13)).2.2.2.2) := by
  rw [pu_X5_passes, st4_cs, cs_k, at157]
theorem triesc {y : mm_M} {u v : Nat → Int32} {i : Nat} (hi : i < 8) (hb : bz (v (71 + 8 * i + 3))) : fn_X5_tries (nI i) (cs (cs y 157 u) 158 v) = some (cs (cs y 157 (u4 u (v (71 + 8 * i + 2)) (v (71 + 8 * i + 5)) (v (71 + 8 * i + 3)) (v (71 + 8 * i + 4)))) 158 v) := by
  unfold fn_X5_tries
  simp only [its2 hi, its3 hi, its4 hi, its5 hi, up157, Option.bind_some]
  rcases hb with h | h
  · rw [h, if_neg (by decide)]
    refine congrArg some (congrArg (fun w => cs (cs y 157 w) 158 v) (funext fun j => ?_))
    unfold u4 upd
    (repeat' split) <;> first | rfl | omega
  · rw [h, if_pos rfl]
    refine congrArg some (congrArg (fun w => cs (cs y 157 w) 158 v) (funext fun j => ?_))
    unfold u4 upd
    (repeat' split) <;> first | rfl | omega
/-- a minute of one landing in the row -/
def pmV (v : Nat → Int32) (i : Nat) : Int32 × Int32 × Int32 × Int32 × Int32 := pm (v 3) (v 5) (v 6) (v (71 + 8 * i + 2)) (v (71 + 8 * i + 5)) (v (71 + 8 * i + 3)) (v (71 + 8 * i + 4))
def mst (v : Nat → Int32) (i : Nat) : Nat → Int32 := upd (upd (upd (upd v (71 + 8 * i + 2) (pmV v i).1) (71 + 8 * i + 5) (pmV v i).2.1) (71 + 8 * i + 3) (pmV v i).2.2.1) (71 + 8 * i + 4) (pmV v i).2.2.2.1
def mnx (v : Nat → Int32) (i : Nat) : Nat → Int32 := if (pmV v i).2.2.2.2 = 0 then mst v i else noteV (mst v i) 4 (nI i)
def mloop : Nat → Nat → Int32 → (Nat → Int32) → (Nat → Int32) × Int32
  | 0, _, k, v => (v, k)
  | n + 1, i, k, v => mloop n (i + 1) (if (pmV v i).2.2.2.2 = 0 then k else k + 1) (mnx v i)
theorem pm_sh {h b l f s sh fr : Int32} (hb : bz sh) : bz (pm h b l f s sh fr).2.2.1 := by
  unfold pm
  simp only []
  (repeat' split) <;> first | exact hb | exact Or.inl rfl
theorem mst_ne {v : Nat → Int32} {i j : Nat} (h : j < 71 + 8 * i + 2 ∨ 71 + 8 * i + 5 < j) : mst v i j = v j := by
  unfold mst
  rw [upd_n (by omega), upd_n (by omega), upd_n (by omega), upd_n (by omega)]
theorem mnx_ne {v : Nat → Int32} {i j : Nat} (h : j < 10 ∨ (70 < j ∧ j < 71 + 8 * i + 2) ∨ 71 + 8 * i + 5 < j) : mnx v i j = v j := by
  unfold mnx
  by_cases c : (pmV v i).2.2.2.2 = 0
  · rw [if_pos c, mst_ne (by omega)]
  · rw [if_neg c]
    rcases h with h | h | h
    · rw [noteV_lo h, mst_ne (by omega)]
    · rw [noteV_hi (by omega), mst_ne (by omega)]
    · rw [noteV_hi (by omega), mst_ne (by omega)]
theorem pu_min20 {y : mm_M} {c : Nat} (hc : c ≤ 8) (a1 : Int32) : ∀ (n i fuel : Nat) (k : Int32) (u v : Nat → Int32), i + n = c → n < fuel → v 8 = nI c → (∀ j, i ≤ j → j < c → bz (v (71 + 8 * j + 3))) →
    ∃ u' : Nat → Int32, (∀ j, j < 10 → u' j = u j) ∧ fn_X5_minute_20 fuel a1 k (nI i) (cs (cs y 157 u) 158 v) = some (cs (cs y 157 u') 158 (mloop n i k v).1, (mloop n i k v).2) := by
  intro n
  induction n with
  | zero =>
    intro i fuel k u v hi hf h8 _
    obtain ⟨m, rfl⟩ : ∃ m, fuel = m + 1 := ⟨fuel - 1, by omega⟩
    refine ⟨u, fun _ _ => rfl, ?_⟩
    rw [fn_X5_minute_20, cs_k, h8, if_pos (nI_le (by omega) (by omega))]
    rfl
  | succ n ih =>
    intro i fuel k u v hi hf h8 hb
    obtain ⟨m, rfl⟩ : ∃ m, fuel = m + 1 := ⟨fuel - 1, by omega⟩
    have hi8 : i < 8 := by omega
    have hbi := hb i (Nat.le_refl i) (by omega)
    have hlt : ¬ v 8 ≤ nI i := by rw [h8]; exact nI_ge (by omega) (by omega)
    obtain ⟨P, hP⟩ : ∃ P, P = pmV v i := ⟨_, rfl⟩
    have hPsh : bz P.2.2.1 := by rw [hP]; exact pm_sh hbi
    obtain ⟨u1, hu1⟩ : ∃ u1, u1 = u4 (u4 u (v (71 + 8 * i + 2)) (v (71 + 8 * i + 5)) (v (71 + 8 * i + 3)) (v (71 + 8 * i + 4))) P.1 P.2.1 P.2.2.1 P.2.2.2.1 := ⟨_, rfl⟩
    have g10 : u1 10 = P.1 := by rw [hu1]; rfl
    have g11 : u1 11 = P.2.1 := by rw [hu1]; rfl
    have g12 : u1 12 = P.2.2.1 := by rw [hu1]; rfl
    have g13 : u1 13 = P.2.2.2.1 := by rw [hu1]; rfl
    have hpass : fn_X5_passes (cs (cs y 157 (u4 u (v (71 + 8 * i + 2)) (v (71 + 8 * i + 5)) (v (71 + 8 * i + 3)) (v (71 + 8 * i + 4)))) 158 v) = some (cs (cs y 157 u1) 158 v, P.2.2.2.2) := by
      rw [passc, hu1, hP]; rfl
    have hmst : mst v i = upd (upd (upd (upd v (71 + 8 * i + 2) P.1) (71 + 8 * i + 5) P.2.1) (71 + 8 * i + 3) P.2.2.1) (71 + 8 * i + 4) P.2.2.2.1 := by unfold mst; rw [hP]
    have hlo : ∀ j, j < 10 → u1 j = u j := fun j hj => by rw [hu1, u4_lo hj, u4_lo hj]
    have hstep : mloop (n + 1) i k v = mloop n (i + 1) (if P.2.2.2.2 = 0 then k else k + 1) (mnx v i) := by rw [mloop, hP]
    have h8' : mnx v i 8 = nI c := by rw [mnx_ne (by omega), h8]
    have hb' : ∀ j, i + 1 ≤ j → j < c → bz (mnx v i (71 + 8 * j + 3)) := fun j h1 h2 => by rw [mnx_ne (by omega)]; exact hb j (by omega) h2
    have hmnx : mnx v i = if P.2.2.2.2 = 0 then mst v i else noteV (mst v i) 4 (nI i) := by unfold mnx; rw [hP]
    obtain ⟨u', hu', hfn⟩ := ih (i + 1) m (if P.2.2.2.2 = 0 then k else k + 1) u1 (mnx v i) (by omega) (by omega) h8' hb'
    refine ⟨u', fun j hj => (hu' j hj).trans (hlo j hj), ?_⟩
    rw [hstep, ← hfn, fn_X5_minute_20, cs_k, if_neg hlt, triesc hi8 hbi]
    simp only [Option.bind_some, hpass, mm_b2_some, at157, lay2 hi8, lay3 hi8, lay4 hi8, lay5 hi8, g10, g11, g12, g13, notec, nI_1]
    rw [hmnx, hmst]
    rcases hPsh with h | h
    · simp only [h, if_true]
      by_cases c1 : P.2.2.2.2 = 0
      · simp only [c1, if_true]
      · simp only [c1, if_false]
    · have h10 : ¬ ((1 : Int32) = 0) := by decide
      simp only [h, h10, if_false]
      by_cases c1 : P.2.2.2.2 = 0
      · simp only [c1, if_true]
      · simp only [c1, if_false]
def minV (v : Nat → Int32) : (Nat → Int32) × Int32 :=
  let q := mloop (v 8).toNatClampNeg 0 0 (upd v 7 (v 7 + 1))
  (swV v q.1, q.2)
theorem mloop_lo : ∀ (n i : Nat) (k : Int32) (v : Nat → Int32) (j : Nat), j < 10 → (mloop n i k v).1 j = v j := by
  intro n
  induction n with
  | zero => intro i k v j _; rfl
  | succ n ih =>
    intro i k v j hj
    rw [mloop, ih _ _ _ _ hj, mnx_ne (Or.inl hj)]
theorem pu_minute {y : mm_M} {u v : Nat → Int32} (hv : WV v) : ∃ u' : Nat → Int32, (∀ j, j < 10 → u' j = u j) ∧ fn_X5_minute (cs (cs y 157 u) 158 v) = some (cs (cs y 157 u') 158 (minV v).1, (minV v).2) := by
  obtain ⟨-, ⟨c, hc, h8⟩, -, hL⟩ := hv
  have hb : ∀ j, 0 ≤ j → j < c → bz (upd v 7 (v 7 + 1) (71 + 8 * j + 3)) := fun j _ h => by rw [upd_n (by omega)]; exact (hL j (by omega)).2.1
  obtain ⟨u', hu', hfn⟩ := pu_min20 (y := y) hc (taken v) c 0 9 0 u (upd v 7 (v 7 + 1)) (by omega) (by omega) (by rw [upd_n (by omega), h8]) hb
  refine ⟨u', hu', ?_⟩
  rw [nI_0] at hfn
  unfold fn_X5_minute
  have h8' : (mloop c 0 0 (upd v 7 (v 7 + 1))).1 8 = nI c := by rw [mloop_lo _ _ _ _ _ (by omega), upd_n (by omega), h8]
  simp only [takenc hc _ v h8, Option.bind_some, mm_up_of_cs, cs_k, hfn, mm_b2_some, takenc hc _ _ h8']
  unfold minV swV
  rw [h8, nI_clamp (by omega)]
  simp only []
  by_cases c1 : taken (mloop c 0 0 (upd v 7 (v 7 + 1))).1 = taken v
  · simp only [c1, if_true]
  · simp only [c1, if_false]
