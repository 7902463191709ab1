/-! THE ROW BEHIND A MINUTE -/
def fp (v : Nat → Int32) (i : Nat) : Bool := decide (¬ (pmV v i).2.2.2.2 = 0)
theorem fp_t {v : Nat → Int32} {i : Nat} (h : ¬ (pmV v i).2.2.2.2 = 0) : fp v i = true := decide_eq_true h
theorem fp_f {v : Nat → Int32} {i : Nat} (h : (pmV v i).2.2.2.2 = 0) : fp v i = false := decide_eq_false (fun q => q h)
def Ag (u v : Nat → Int32) (i : Nat) : Prop := (∀ j, j < 7 → u j = v j) ∧ ∀ j, 71 + 8 * i ≤ j → u j = v j
theorem Ag_pm {u v : Nat → Int32} {i : Nat} (h : Ag u v i) : pmV u i = pmV v i := by
  unfold pmV
  rw [h.1 3 (by omega), h.1 5 (by omega), h.1 6 (by omega), h.2 _ (by omega), h.2 _ (by omega), h.2 _ (by omega), h.2 _ (by omega)]
theorem upd_cg {u v : Nat → Int32} {a j : Nat} {b : Int32} (h : u j = v j) : upd u a b j = upd v a b j := by
  unfold upd
  by_cases q : j = a
  · rw [if_pos q, if_pos q]
  · rw [if_neg q, if_neg q, h]
theorem Ag_mst {u v : Nat → Int32} {i j : Nat} (h : Ag u v i) (hj : 71 + 8 * i ≤ j) : mst u i j = mst v i j := by
  unfold mst
  rw [Ag_pm h]
  exact upd_cg (upd_cg (upd_cg (upd_cg (h.2 j hj))))
theorem mst2 (v : Nat → Int32) (i : Nat) : mst v i (71 + 8 * i + 2) = (pmV v i).1 := by
  unfold mst; rw [upd_n (by omega), upd_n (by omega), upd_n (by omega), upd_s]
theorem mst5 (v : Nat → Int32) (i : Nat) : mst v i (71 + 8 * i + 5) = (pmV v i).2.1 := by
  unfold mst; rw [upd_n (by omega), upd_n (by omega), upd_s]
theorem mst3 (v : Nat → Int32) (i : Nat) : mst v i (71 + 8 * i + 3) = (pmV v i).2.2.1 := by
  unfold mst; rw [upd_n (by omega), upd_s]
theorem mst4 (v : Nat → Int32) (i : Nat) : mst v i (71 + 8 * i + 4) = (pmV v i).2.2.2.1 := by
  unfold mst; rw [upd_s]
theorem pm_fl1 {h b l f s sh fr : Int32} (q : ¬ (pm h b l f s sh fr).2.2.2.2 = 0) : (pm h b l f s sh fr).2.2.1 = 0 := by
  revert q
  unfold pm
  simp only []
  (repeat' split) <;> intro q <;> first | rfl | exact absurd rfl q
def Lg (u : Nat → Int32) (m i : Nat) : Prop := ∃ e, m ≤ e ∧ e ≤ 20 ∧ u 10 = nI e ∧ ∀ t, t < m → u (11 + 3 * t) = 4 ∧ ∃ l, l < i ∧ u (12 + 3 * t) = nI l ∧ u (71 + 8 * l + 3) = 0
theorem mnx_at {u : Nat → Int32} {i m : Nat} : mnx u i (71 + 8 * i + m) = mst u i (71 + 8 * i + m) := by
  unfold mnx
  by_cases c : (pmV u i).2.2.2.2 = 0
  · rw [if_pos c]
  · rw [if_neg c, noteV_hi (by omega)]
theorem Lg_nx {u : Nat → Int32} {m i : Nat} (hi : i < 8) (hm : m ≤ i) (h : Lg u m i) : Lg (mnx u i) (if (pmV u i).2.2.2.2 = 0 then m else m + 1) (i + 1) := by
  obtain ⟨e, h1, h2, h3, h4⟩ := h
  have ml : ∀ l, l < i → mnx u i (71 + 8 * l + 3) = u (71 + 8 * l + 3) := fun l hl => mnx_ne (Or.inr (Or.inl ⟨by omega, by omega⟩))
  by_cases c : (pmV u i).2.2.2.2 = 0
  · have en : mnx u i = mst u i := by unfold mnx; rw [if_pos c]
    rw [if_pos c]
    refine ⟨e, h1, h2, by rw [en, mst_ne (by omega)]; exact h3, fun t ht => ?_⟩
    obtain ⟨a1, l, a2, a3, a4⟩ := h4 t ht
    refine ⟨by rw [en, mst_ne (by omega)]; exact a1, l, by omega, by rw [en, mst_ne (by omega)]; exact a3, by rw [ml l a2]; exact a4⟩
  · have en : mnx u i = noteV (mst u i) 4 (nI i) := by unfold mnx; rw [if_neg c]
    rw [if_neg c]
    refine ⟨if e = 20 then 20 else e + 1, by by_cases q : e = 20 <;> simp [q] <;> omega, by by_cases q : e = 20 <;> simp [q] <;> omega, ?_, fun t ht => ?_⟩
    · rw [en]; exact note10 h2 (by rw [mst_ne (by omega)]; exact h3)
    · by_cases t0 : t = 0
      · subst t0
        refine ⟨by rw [en]; rfl, i, by omega, by rw [en]; rfl, ?_⟩
        rw [mnx_at, mst3]
        exact pm_fl1 c
      · obtain ⟨a1, l, a2, a3, a4⟩ := h4 (t - 1) (by omega)
        refine ⟨?_, l, by omega, ?_, by rw [ml l a2]; exact a4⟩
        · rw [en, note_sh (by omega) (by omega), mst_ne (by omega), show 11 + 3 * t - 3 = 11 + 3 * (t - 1) by omega]; exact a1
        · rw [en, note_sh (by omega) (by omega), mst_ne (by omega), show 12 + 3 * t - 3 = 12 + 3 * (t - 1) by omega]; exact a3
theorem ml_row {v : Nat → Int32} : ∀ (n i : Nat) (u : Nat → Int32), i + n ≤ 8 → Ag u v i → Lg u (cntP (fp v) i) i →
    (mloop n i (nI (cntP (fp v) i)) u).2 = nI (cntP (fp v) (i + n)) ∧ (∀ l, i ≤ l → l < i + n → ∀ m, m < 8 → (mloop n i (nI (cntP (fp v) i)) u).1 (71 + 8 * l + m) = mst v l (71 + 8 * l + m)) ∧ (∀ j, 71 ≤ j → j < 71 + 8 * i → (mloop n i (nI (cntP (fp v) i)) u).1 j = u j) ∧ Lg (mloop n i (nI (cntP (fp v) i)) u).1 (cntP (fp v) (i + n)) (i + n) := by
  intro n
  induction n with
  | zero => intro i u hi hA hL; exact ⟨rfl, fun l h1 h2 => by omega, fun _ _ _ => rfl, hL⟩
  | succ n ih =>
    intro i u hi hA hL
    have ep := Ag_pm hA
    have hm : cntP (fp v) i ≤ i := cnt_max _ i
    have hA' : Ag (mnx u i) v (i + 1) := ⟨fun j hj => (mnx_ne (Or.inl (by omega))).trans (hA.1 j hj), fun j hj => (mnx_ne (Or.inr (Or.inr (by omega)))).trans (hA.2 j (by omega))⟩
    have hL' := Lg_nx (by omega) hm hL
    have ec : cntP (fp v) (i + 1) = if (pmV u i).2.2.2.2 = 0 then cntP (fp v) i else cntP (fp v) i + 1 := by
      rw [ep]
      by_cases c : (pmV v i).2.2.2.2 = 0
      · rw [if_pos c, cnt_n (fp_f c)]
      · rw [if_neg c, cnt_y (fp_t c)]
    have ek : (if (pmV u i).2.2.2.2 = 0 then nI (cntP (fp v) i) else nI (cntP (fp v) i) + 1) = nI (cntP (fp v) (i + 1)) := by
      rw [ec]
      by_cases c : (pmV u i).2.2.2.2 = 0
      · rw [if_pos c, if_pos c]
      · rw [if_neg c, if_neg c, nI_1]
    rw [← ec] at hL'
    obtain ⟨b1, b2, b3, b4⟩ := ih (i + 1) (mnx u i) (by omega) hA' hL'
    rw [mloop, ek, show i + (n + 1) = i + 1 + n by omega]
    refine ⟨b1, fun l h1 h2 m hmm => ?_, fun j h1 h2 => ?_, b4⟩
    · by_cases e : l = i
      · subst e
        rw [b3 _ (by omega) (by omega), mnx_at]
        exact Ag_mst hA (by omega)
      · exact b2 l (by omega) (by omega) m hmm
    · rw [b3 j h1 (by omega)]
      exact mnx_ne (Or.inr (Or.inl ⟨by omega, by omega⟩))
def MinF (v w : Nat → Int32) (c : Nat) : Prop :=
  (∀ j, j < 9 → j ≠ 7 → w j = v j) ∧ w 7 = v 7 + 1 ∧ w 9 = v 9 + (if taken w = taken v then 0 else 1) ∧ (∀ l, l < c → ∀ m, m < 8 → w (71 + 8 * l + m) = mst v l (71 + 8 * l + m)) ∧ Lg w (cntP (fp v) c) c
theorem min_row {v : Nat → Int32} {c t : Nat} (hv : WV v) (hc : c ≤ 8) (h8 : v 8 = nI c) (ht : t ≤ 1000) (h7 : v 7 = nI t) : MinF v (waitV v 1).1 c ∧ (waitV v 1).2 = nI (cntP (fp v) c) := by
  obtain ⟨e, he, h10⟩ := hv.2.2.1
  have e1 : waitV v 1 = ((minV v).1, 0 + (minV v).2) := by
    unfold waitV
    have q : v 7 + 1 ≤ 99999 := by
      rw [h7, nI_1]
      show nI (t + 1) ≤ nI 99999
      exact nI_le (by omega) (by omega)
    rw [if_pos (by decide), if_pos q]
    rfl
  obtain ⟨v1, hv1⟩ : ∃ v1, v1 = upd v 7 (v 7 + 1) := ⟨_, rfl⟩
  have vo : ∀ j, j ≠ 7 → v1 j = v j := fun j hj => by rw [hv1, upd_n hj]
  have hA : Ag v1 v 0 := ⟨fun j hj => vo j (by omega), fun j hj => vo j (by omega)⟩
  have hL : Lg v1 (cntP (fp v) 0) 0 := ⟨e, Nat.zero_le _, he, by rw [vo 10 (by omega)]; exact h10, fun t ht => absurd ht (Nat.not_lt_zero t)⟩
  obtain ⟨b1, b2, -, b4⟩ := ml_row (v := v) c 0 v1 (by omega) hA hL
  have lo := mloop_lo c 0 (nI (cntP (fp v) 0)) v1
  have e0 : nI (cntP (fp v) 0) = 0 := nI_0
  rw [e0] at b1 b2 b4 lo
  rw [Nat.zero_add] at b1 b2 b4
  have hmin : minV v = (swV v (mloop c 0 0 v1).1, (mloop c 0 0 v1).2) := by
    unfold minV; rw [h8, nI_clamp (by omega), hv1]
  obtain ⟨u, hu⟩ : ∃ u, u = (mloop c 0 0 v1).1 := ⟨_, rfl⟩
  rw [e1, hmin]
  rw [← hu] at b2 b4 lo ⊢
  have c8 : ∃ c, c ≤ 8 ∧ u 8 = nI c := ⟨c, hc, by rw [lo 8 (by omega), vo 8 (by omega), h8]⟩
  have ws : ∀ j, j ≠ 9 → swV v u j = u j := fun j hj => swV_ne hj
  refine ⟨⟨fun j hj h7j => ?_, ?_, ?_, fun l hl m hm => ?_, ?_⟩, ?_⟩
  · show swV v u j = v j
    rw [ws j (by omega), lo j (by omega), vo j h7j]
  · show swV v u 7 = v 7 + 1
    rw [ws 7 (by omega), lo 7 (by omega), hv1, upd_s]
  · show swV v u 9 = v 9 + (if taken (swV v u) = taken v then 0 else 1)
    rw [taken_sw c8]
    have : swV v u 9 = u 9 + (if taken u = taken v then 0 else 1) := upd_s _ _ _
    rw [this, lo 9 (by omega), vo 9 (by omega)]
  · show swV v u _ = _
    rw [ws _ (by omega)]; exact b2 l (by omega) (by omega) m hm
  · obtain ⟨e', g1, g2, g3, g4⟩ := b4
    have hm := cnt_max (fp v) c
    refine ⟨e', g1, g2, ?_, fun t ht => ?_⟩
    · show swV v u 10 = nI e'
      rw [ws 10 (by omega)]; exact g3
    · obtain ⟨a1, l, a2, a3, a4⟩ := g4 t ht
      refine ⟨?_, l, a2, ?_, ?_⟩
      · show swV v u _ = _
        rw [ws _ (by omega)]; exact a1
      · show swV v u _ = _
        rw [ws _ (by omega)]; exact a3
      · show swV v u _ = _
        rw [ws _ (by omega)]; exact a4
  · show 0 + (mloop c 0 0 v1).2 = _
    rw [b1, Int32.zero_add]
