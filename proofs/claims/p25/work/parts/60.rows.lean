/-! THE ROW BEHIND A CHANGE -/
def dueV (v : Nat → Int32) (i sort : Nat) : Int32 := heldf (v (71 + 8 * i + 2) + v sort)
def newly (v : Nat → Int32) (i sort : Nat) : Prop := v 4 < dueV v i sort ∧ v (71 + 8 * i + 3) = 0
theorem note10 {v : Nat → Int32} {a b : Int32} {e : Nat} (he : e ≤ 20) (h10 : v 10 = nI e) : noteV v a b 10 = nI (if e = 20 then 20 else e + 1) := by
  have e1 : noteV v a b 10 = if 20 ≤ v 10 then v 10 else v 10 + 1 := rfl
  rw [e1, h10]
  by_cases c : e = 20
  · subst c; decide
  · rw [if_neg c, if_neg, nI_1]
    show ¬ nI 20 ≤ nI e
    exact nI_ge (by omega) (by omega)
theorem note_sh {v : Nat → Int32} {a b : Int32} {j : Nat} (h1 : 14 ≤ j) (h2 : j ≤ 70) : noteV v a b j = v (j - 3) := by
  unfold noteV
  rw [if_neg (by omega), if_neg (by omega), if_neg (by omega), if_neg (by omega), if_pos ⟨h1, h2⟩]
/-- the row of a change, before a landing is shunned -/
theorem ch1_row {v : Nat → Int32} {i what sort : Nat} {value : Int32} (hi : i < 8) (hw : what < 2) (hs : sort < 7) :
    (∀ j, j < 10 → ch1 v i what value sort j = v j) ∧ ch1 v i what value sort (71 + 8 * i + 2) = dueV v i sort ∧ ch1 v i what value sort (71 + 8 * i + 6) = v (71 + 8 * i + 6) + 1 ∧ ch1 v i what value sort (71 + 8 * i + what) = value ∧
    (∀ j, 71 ≤ j → j ≠ 71 + 8 * i + 2 → j ≠ 71 + 8 * i + 6 → j ≠ 71 + 8 * i + what → ch1 v i what value sort j = v j) ∧ ch1 v i what value sort 11 = nI sort ∧ ch1 v i what value sort 12 = nI i ∧ ch1 v i what value sort 13 = v 7 ∧
    ∀ e, e ≤ 20 → v 10 = nI e → ch1 v i what value sort 10 = nI (if e = 20 then 20 else e + 1) := by
  have hd : heldf (upd v (71 + 8 * i + what) value (71 + 8 * i + 2) + upd v (71 + 8 * i + what) value sort) = dueV v i sort := by
    unfold dueV
    rw [upd_n (by omega), upd_n (by omega)]
  unfold ch1
  rw [hd]
  refine ⟨fun j hj => ?_, ?_, ?_, ?_, fun j h1 h2 h3 h4 => ?_, rfl, rfl, ?_, fun e he h10 => ?_⟩
  · rw [noteV_lo hj, upd_n (by omega), upd_n (by omega), upd_n (by omega)]
  · rw [noteV_hi (by omega), upd_n (by omega), upd_s]
  · rw [noteV_hi (by omega), upd_s, upd_n (by omega), upd_n (by omega)]
  · rw [noteV_hi (by omega), upd_n (by omega), upd_n (by omega), upd_s]
  · rw [noteV_hi (by omega), upd_n h3, upd_n h2, upd_n h4]
  · show upd _ _ _ 7 = v 7
    rw [upd_n (by omega), upd_n (by omega), upd_n (by omega)]
  · refine note10 he ?_
    rw [upd_n (by omega), upd_n (by omega), upd_n (by omega)]; exact h10
theorem sh_row {u : Nat → Int32} {i : Nat} (hi : i < 8) :
    (∀ j, j < 10 → shV u i j = u j) ∧ shV u i (71 + 8 * i + 3) = 1 ∧ shV u i (71 + 8 * i + 4) = 0 ∧ shV u i (71 + 8 * i + 7) = u (71 + 8 * i + 7) + 1 ∧
    (∀ j, 71 ≤ j → j ≠ 71 + 8 * i + 3 → j ≠ 71 + 8 * i + 4 → j ≠ 71 + 8 * i + 7 → shV u i j = u j) ∧ shV u i 11 = 3 ∧ shV u i 12 = nI i ∧ (∀ j, 14 ≤ j → j ≤ 70 → shV u i j = u (j - 3)) ∧
    ∀ e, e ≤ 20 → u 10 = nI e → shV u i 10 = nI (if e = 20 then 20 else e + 1) := by
  unfold shV
  refine ⟨fun j hj => ?_, ?_, ?_, ?_, fun j h1 h2 h3 h4 => ?_, rfl, rfl, fun j h1 h2 => ?_, fun e he h10 => ?_⟩
  · rw [noteV_lo hj, upd_n (by omega), upd_n (by omega), upd_n (by omega)]
  · rw [noteV_hi (by omega), upd_n (by omega), upd_n (by omega), upd_s]
  · rw [noteV_hi (by omega), upd_n (by omega), upd_s]
  · rw [noteV_hi (by omega), upd_s, upd_n (by omega), upd_n (by omega)]
  · rw [noteV_hi (by omega), upd_n h4, upd_n h3, upd_n h2]
  · rw [note_sh h1 h2, upd_n (by omega), upd_n (by omega), upd_n (by omega)]
  · refine note10 he ?_
    rw [upd_n (by omega), upd_n (by omega), upd_n (by omega)]; exact h10
def ChF (v w : Nat → Int32) (i what : Nat) (value : Int32) (sort : Nat) : Prop :=
  (∀ j, j < 9 → w j = v j) ∧ w 9 = v 9 + (if taken w = taken v then 0 else 1) ∧ w (71 + 8 * i + 2) = dueV v i sort ∧ w (71 + 8 * i + 6) = v (71 + 8 * i + 6) + 1 ∧ w (71 + 8 * i + 5) = v (71 + 8 * i + 5) ∧ w (71 + 8 * i + what) = value ∧
  (∀ j, 71 ≤ j → (j < 71 + 8 * i ∨ 71 + 8 * i + 7 < j) → w j = v j) ∧ (∀ q, q < 2 → q ≠ what → w (71 + 8 * i + q) = v (71 + 8 * i + q)) ∧
  (newly v i sort ∧ w (71 + 8 * i + 3) = 1 ∧ w (71 + 8 * i + 4) = 0 ∧ w (71 + 8 * i + 7) = v (71 + 8 * i + 7) + 1 ∧ w 11 = 3 ∧ w 12 = nI i ∧ w 14 = nI sort ∧ w 15 = nI i ∧ w 16 = v 7 ∧ (∃ e, 2 ≤ e ∧ e ≤ 20 ∧ w 10 = nI e) ∨
   ¬ newly v i sort ∧ w (71 + 8 * i + 3) = v (71 + 8 * i + 3) ∧ w (71 + 8 * i + 4) = v (71 + 8 * i + 4) ∧ w (71 + 8 * i + 7) = v (71 + 8 * i + 7) ∧ w 11 = nI sort ∧ w 12 = nI i ∧ w 13 = v 7 ∧ ∃ e, 1 ≤ e ∧ e ≤ 20 ∧ w 10 = nI e)
theorem ch_row {v : Nat → Int32} {i what sort : Nat} {value : Int32} (hv : WV v) (hi : i < 8) (hw : what < 2) (hs : sort < 7) : ChF v (chV v i what value sort).1 i what value sort ∧ (chV v i what value sort).2 = dueV v i sort := by
  obtain ⟨e, he, h10⟩ := hv.2.2.1
  obtain ⟨u, hu⟩ : ∃ u, u = ch1 v i what value sort := ⟨_, rfl⟩
  obtain ⟨a1, a2, a3, a4, a5, a6, a7, a8, a9⟩ := ch1_row (v := v) (value := value) hi hw hs
  rw [← hu] at a1 a2 a3 a4 a5 a6 a7 a8 a9
  have u10 := a9 e he h10
  have hch : (chV v i what value sort).1 = swV v (ch2 u i) := by unfold chV; rw [← hu]
  have hch2 : (chV v i what value sort).2 = (chV v i what value sort).1 (71 + 8 * i + 2) := rfl
  rw [hch2, hch]
  have c8 : ∃ c, c ≤ 8 ∧ ch2 u i 8 = nI c := by rw [ch2_8, a1 8 (by omega)]; exact hv.2.1
  have t9 : swV v (ch2 u i) 9 = ch2 u i 9 + (if taken (swV v (ch2 u i)) = taken v then 0 else 1) := by
    rw [taken_sw c8]; exact upd_s _ _ _
  obtain ⟨w, hwd⟩ : ∃ w, w = swV v (ch2 u i) := ⟨_, rfl⟩
  have ws : ∀ j, j ≠ 9 → w j = ch2 u i j := fun j hj => by rw [hwd]; exact swV_ne hj
  rw [← hwd] at t9 ⊢
  by_cases N : newly v i sort
  · have hc : ch2 u i = shV u i := by
      unfold ch2
      rw [a2, a1 4 (by omega), if_neg (Int32.not_le.mpr N.1), a5 _ (by omega) (by omega) (by omega) (by omega), if_pos N.2]
    rw [hc] at ws t9
    obtain ⟨b1, b2, b3, b4, b5, b6, b7, b8, b9⟩ := sh_row (u := u) hi
    refine ⟨⟨fun j hj => ?_, ?_, ?_, ?_, ?_, ?_, fun j h1 h2 => ?_, fun q h1 h2 => ?_, Or.inl ⟨N, ?_, ?_, ?_, ?_, ?_, ?_, ?_, ?_, ?_⟩⟩, ?_⟩
    · rw [ws j (by omega), b1 j (by omega), a1 j (by omega)]
    · rw [t9, b1 9 (by omega), a1 9 (by omega)]
    · rw [ws _ (by omega), b5 _ (by omega) (by omega) (by omega) (by omega), a2]
    · rw [ws _ (by omega), b5 _ (by omega) (by omega) (by omega) (by omega), a3]
    · rw [ws _ (by omega), b5 _ (by omega) (by omega) (by omega) (by omega), a5 _ (by omega) (by omega) (by omega) (by omega)]
    · rw [ws _ (by omega), b5 _ (by omega) (by omega) (by omega) (by omega), a4]
    · rw [ws _ (by omega), b5 _ (by omega) (by omega) (by omega) (by omega), a5 _ (by omega) (by omega) (by omega) (by omega)]
    · rw [ws _ (by omega), b5 _ (by omega) (by omega) (by omega) (by omega), a5 _ (by omega) (by omega) (by omega) (by omega)]
    · rw [ws _ (by omega), b2]
    · rw [ws _ (by omega), b3]
    · rw [ws _ (by omega), b4, a5 _ (by omega) (by omega) (by omega) (by omega)]
    · rw [ws _ (by omega), b6]
    · rw [ws _ (by omega), b7]
    · rw [ws _ (by omega), b8 14 (by omega) (by omega)]; exact a6
    · rw [ws _ (by omega), b8 15 (by omega) (by omega)]; exact a7
    · rw [ws _ (by omega), b8 16 (by omega) (by omega)]; exact a8
    · refine ⟨if (if e = 20 then 20 else e + 1) = 20 then 20 else (if e = 20 then 20 else e + 1) + 1, ?_, ?_, ?_⟩
      · by_cases q : e = 20
        · rw [if_pos q, if_pos rfl]; omega
        · rw [if_neg q]
          by_cases q2 : e + 1 = 20
          · rw [if_pos q2]; omega
          · rw [if_neg q2]; omega
      · by_cases q : e = 20
        · rw [if_pos q, if_pos rfl]; omega
        · rw [if_neg q]
          by_cases q2 : e + 1 = 20
          · rw [if_pos q2]; omega
          · rw [if_neg q2]; omega
      · rw [ws _ (by omega)]
        exact b9 _ (by by_cases q : e = 20 <;> simp [q] <;> omega) u10
    · rw [ws _ (by omega), b5 _ (by omega) (by omega) (by omega) (by omega), a2]
  · have hc : ch2 u i = u := by
      unfold ch2
      rw [a2, a1 4 (by omega), a5 (71 + 8 * i + 3) (by omega) (by omega) (by omega) (by omega)]
      by_cases q : dueV v i sort ≤ v 4
      · rw [if_pos q]
      · rw [if_neg q, if_neg (fun z => N ⟨Int32.not_le.mp q, z⟩)]
    rw [hc] at ws t9
    refine ⟨⟨fun j hj => ?_, ?_, ?_, ?_, ?_, ?_, fun j h1 h2 => ?_, fun q h1 h2 => ?_, Or.inr ⟨N, ?_, ?_, ?_, ?_, ?_, ?_, ?_⟩⟩, ?_⟩
    · rw [ws j (by omega), a1 j (by omega)]
    · rw [t9, a1 9 (by omega)]
    · rw [ws _ (by omega), a2]
    · rw [ws _ (by omega), a3]
    · rw [ws _ (by omega), a5 _ (by omega) (by omega) (by omega) (by omega)]
    · rw [ws _ (by omega), a4]
    · rw [ws _ (by omega), a5 _ (by omega) (by omega) (by omega) (by omega)]
    · rw [ws _ (by omega), a5 _ (by omega) (by omega) (by omega) (by omega)]
    · rw [ws _ (by omega), a5 _ (by omega) (by omega) (by omega) (by omega)]
    · rw [ws _ (by omega), a5 _ (by omega) (by omega) (by omega) (by omega)]
    · rw [ws _ (by omega), a5 _ (by omega) (by omega) (by omega) (by omega)]
    · rw [ws _ (by omega), a6]
    · rw [ws _ (by omega), a7]
    · rw [ws _ (by omega), a8]
    · refine ⟨if e = 20 then 20 else e + 1, ?_, ?_, ?_⟩
      · by_cases q : e = 20
        · rw [if_pos q]; omega
        · rw [if_neg q]; omega
      · by_cases q : e = 20
        · rw [if_pos q]; omega
        · rw [if_neg q]; omega
      · rw [ws _ (by omega), u10]
    · rw [ws _ (by omega), a2]
