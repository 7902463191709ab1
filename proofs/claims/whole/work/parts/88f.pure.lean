/-! THE INVARIANT: class and reference side by side -/
def seg (p : Nat → Int32) (o : Nat) : Nat → Int32 := fun j => p (o + j)
theorem taken_c135 {v w : Nat → Int32} (hv : WV v) (h : ∀ j, j < 135 → w j = v j) : taken w = taken v := taken_congr (h 8 (by omega)) hv.2.1 (fun k hk => ⟨h _ (by omega), h _ (by omega), h _ (by omega)⟩)
theorem WV_c135 {v w : Nat → Int32} (hv : WV v) (h : ∀ j, j < 135 → w j = v j) : WV w := WV_congr hv (fun j hj => h j (by rcases hj with q | q | q | ⟨i, hi, q⟩ <;> omega))
theorem Sim_c135 {x : mm_M} {k : Nat} {v w : Nat → Int32} (hv : WV v) (hS : Sim x k v) (h : ∀ j, j < 135 → w j = v j) : Sim x k w := by
  obtain ⟨sS, sN, sT, ⟨e, nx, he, hnx, h10, h3, h4, hlog⟩, ⟨c, hc, h8, hl⟩⟩ := hS
  refine ⟨fun j hj => (sS j hj).trans (h j (by omega)).symm, ⟨sN.1.trans (h 8 (by omega)).symm, sN.2.trans (h 7 (by omega)).symm⟩, ⟨sT.1.trans (taken_c135 hv h).symm, sT.2.trans (h 9 (by omega)).symm⟩, ⟨e, nx, he, hnx, (h 10 (by omega)).trans h10, h3, h4, fun t ht => ?_⟩, ⟨c, hc, (h 8 (by omega)).trans h8, fun i hi j hj => (hl i hi j hj).trans (h _ (by omega)).symm⟩⟩
  obtain ⟨a1, a2, a3⟩ := hlog t ht
  exact ⟨a1.trans (h _ (by omega)).symm, a2.trans (h _ (by omega)).symm, a3.trans (h _ (by omega)).symm⟩
/-- a river of other cells as it was -/
theorem Sim_keep {x x' : mm_M} {k : Nat} {v : Nat → Int32} (hS : Sim x k v) (h : ∀ a, k ≤ a → a ≤ k + 14 → x' a = x a) : Sim x' k v := by
  obtain ⟨sS, sN, sT, ⟨e, nx, he, hnx, h10, h3, h4, hlog⟩, ⟨c, hc, h8, hl⟩⟩ := hS
  refine ⟨fun j hj => by rw [h _ (by omega) (by omega)]; exact sS j hj, ⟨by rw [h _ (by omega) (by omega)]; exact sN.1, by rw [h _ (by omega) (by omega)]; exact sN.2⟩, ⟨by rw [h _ (by omega) (by omega)]; exact sT.1, by rw [h _ (by omega) (by omega)]; exact sT.2⟩, ⟨e, nx, he, hnx, h10, by rw [h _ (by omega) (by omega)]; exact h3, by rw [h _ (by omega) (by omega)]; exact h4, fun t ht => ?_⟩, ⟨c, hc, h8, fun i hi j hj => by rw [h _ (by omega) (by omega)]; exact hl i hi j hj⟩⟩
  rw [h (k + 4) (by omega) (by omega), h (k + 5) (by omega) (by omega), h (k + 6) (by omega) (by omega)]
  exact hlog t ht
def IHi (x : mm_M) (h : Nat) (p : Nat → Nat) : Prop := h ≤ 6 ∧ x 0 2 = nI h ∧ x 157 5 = nI h ∧ (∀ i, i < 7 → x 16 i = nI (p i) ∧ ∃ t, t < 7 ∧ p i = 22 + 15 * t) ∧ (∀ i j, i < 7 → j < 7 → p i = p j → i = j) ∧ ∀ i, i < h → WV (seg (x 159) (135 * i)) ∧ Sim x (p i) (seg (x 159) (135 * i))
def ISl (x : mm_M) : Prop := ∀ s, s < 2 → x 18 s = x 162 s ∧ bz (x 18 s) ∧ (x 18 s = 1 → WV (seg (x 161) (135 * s)) ∧ Sim x (127 + 15 * s) (seg (x 161) (135 * s)))
def IPd (x : mm_M) : Prop := ∃ len, len ≤ 80 ∧ x 19 1 = nI len ∧ x 157 7 = nI len ∧ ∀ j, j < len → x 20 j = x 163 j ∧ ∃ q, 33 ≤ q ∧ q ≤ 126 ∧ x 20 j = nI q
def Inv (x : mm_M) : Prop := BZ x ∧ WV (x 158) ∧ Sim x 1 (x 158) ∧ (∃ h p, IHi x h p) ∧ ISl x ∧ IPd x
theorem kd_hr {t : Nat} (ht : t < 9) : mm_kd (22 + 15 * t) = 3 := by
  have key : ∀ t, t < 9 → mm_kd (22 + 15 * t) = 3 := by decide
  exact key t ht
theorem kd_lt157 {a : Nat} (ha : mm_kd a = 1) : a < 157 ∧ a ≠ 16 ∧ a ≠ 17 ∧ a ≠ 18 ∧ a ≠ 19 ∧ a ≠ 20 := by
  have key : ∀ a, a < 165 → mm_kd a = 1 → a < 157 ∧ a ≠ 16 ∧ a ≠ 17 ∧ a ≠ 18 ∧ a ≠ 19 ∧ a ≠ 20 := by decide +kernel
  exact key a (mm_lt ha (by decide)) ha
/-- the state ahead of a change is kept in the next river of the history -/
theorem B_keep {x : mm_M} {h : Nat} {p : Nat → Nat} (hB : BZ x) (hH : IHi x h p) : ∃ x', fn_X4_keepState x = some x' ∧ CpEq x' (p h) x 1 ∧ BZ x' ∧ ∀ a, (a < p h ∨ p h + 14 < a) → x' a = x a := by
  obtain ⟨h6, h02, -, hp, -, -⟩ := hH
  obtain ⟨e, t, ht, ep⟩ := hp h (by omega)
  have hk : mm_kd (p h) = 3 := by rw [ep]; exact kd_hr (by omega)
  obtain ⟨x', f, g, B, o⟩ := B_copy (x := x) hk (show mm_kd 1 = 3 by decide) (by omega) hB
  refine ⟨x', ?_, g, B, o⟩
  unfold fn_X4_keepState
  rw [h02, if_neg (nI_in (by omega) (by omega)), nI_clamp (by omega), e, nI_clamp (by omega), if_pos hk, f]
  rfl
/-- the history moves on -/
theorem B_drop {x : mm_M} {p : Nat → Nat} (hp : ∀ i, i < 7 → x 16 i = nI (p i) ∧ ∃ t, t < 7 ∧ p i = 22 + 15 * t) : ∃ x', fn_X4_dropOldest x = some x' ∧ (∀ a, a ≠ 16 → x' a = x a) ∧ (∀ i, i < 6 → x' 16 i = nI (p (i + 1))) ∧ x' 16 6 = nI (p 0) := by
  have kp : ∀ i, i < 7 → mm_kd (p i) = 3 ∧ p i < 165 := fun i hi => by
    obtain ⟨-, t, ht, e⟩ := hp i hi
    rw [e]; exact ⟨kd_hr (by omega), by omega⟩
  have loop : ∀ (n i fuel : Nat) (k1 : Nat) (y : mm_M), i + n = 6 → n < fuel → (∀ j, i ≤ j → j < 7 → y 16 j = nI (p j)) → ∃ y', fn_X4_dropOldest_9 fuel k1 (nI i) y = some y' ∧ (∀ a, a ≠ 16 → y' a = y a) ∧ (∀ j, j < i → y' 16 j = y 16 j) ∧ ∀ j, i ≤ j → j < 6 → y' 16 j = nI (p (j + 1)) := by
    intro n
    induction n with
    | zero =>
      intro i fuel k1 y hi hf hy
      obtain ⟨m, rfl⟩ : ∃ m, fuel = m + 1 := ⟨fuel - 1, by omega⟩
      have c : (6 : Int32) ≤ nI i := by show nI 6 ≤ nI i; exact nI_le (by omega) (by omega)
      refine ⟨y, ?_, fun _ _ => rfl, fun _ _ => rfl, fun j h1 h2 => by omega⟩
      rw [fn_X4_dropOldest_9, if_pos c]
    | succ n ih =>
      intro i fuel k1 y hi hf hy
      obtain ⟨m, rfl⟩ : ∃ m, fuel = m + 1 := ⟨fuel - 1, by omega⟩
      have c : ¬ (6 : Int32) ≤ nI i := by show ¬ nI 6 ≤ nI i; exact nI_ge (by omega) (by omega)
      obtain ⟨k3, k5⟩ := kp (i + 1) (by omega)
      obtain ⟨y', f', o', l', g'⟩ := ih (i + 1) m k1 (mm_up y 16 i (nI (p (i + 1)))) (by omega) (by omega) (fun j h1 h2 => by rw [mm_up_app, if_neg (by omega)]; exact hy j (by omega) h2)
      refine ⟨y', ?_, fun a ha => (o' a ha).trans (mm_up_ne ha), fun j hj => ?_, fun j h1 h2 => ?_⟩
      · rw [fn_X4_dropOldest_9, if_neg c, nI_1, if_neg (nI_in (by omega) (by omega)), nI_clamp (by omega), hy (i + 1) (by omega) (by omega), nI_clamp (by omega), if_pos k3, if_neg (nI_in (by omega) (by omega)), nI_clamp (by omega)]
        simp only [Option.bind_some]
        exact f'
      · rw [l' j (by omega), mm_up_app, if_neg (by omega)]
      · by_cases hji : j = i
        · subst hji
          rw [l' j (by omega), mm_up_app, if_pos ⟨rfl, rfl⟩]
        · exact g' j (by omega) h2
  obtain ⟨k3, k5⟩ := kp 0 (by omega)
  obtain ⟨y', f', o', l', g'⟩ := loop 6 0 7 (p 0) x (by omega) (by omega) (fun j _ h2 => (hp j h2).1)
  rw [nI_0] at f'
  have z0 : Int32.toNatClampNeg 0 = 0 := by decide
  have z6 : Int32.toNatClampNeg 6 = 6 := by decide
  refine ⟨mm_up y' 16 6 (nI (p 0)), ?_, fun a ha => (mm_up_ne ha).trans (o' a ha), fun i hi => ?_, ?_⟩
  · unfold fn_X4_dropOldest
    rw [z0, z6, (hp 0 (by omega)).1, nI_clamp (by omega), if_pos k3, f']
    rfl
  · rw [mm_up_app, if_neg (by omega)]; exact g' i (by omega) hi
  · rw [mm_up_app, if_pos ⟨rfl, rfl⟩]
