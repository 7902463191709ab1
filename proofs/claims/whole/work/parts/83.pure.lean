/-! THE REFERENCE, by its row -/
theorem upd_s (v : Nat → Int32) (j : Nat) (a : Int32) : upd v j a j = a := if_pos rfl
theorem upd_n {v : Nat → Int32} {j k : Nat} {a : Int32} (h : k ≠ j) : upd v j a k = v k := if_neg h
theorem noteV_lo {v : Nat → Int32} {w l : Int32} {j : Nat} (h : j < 10) : noteV v w l j = v j := by
  unfold noteV
  rw [if_neg (by omega), if_neg (by omega), if_neg (by omega), if_neg (by omega), if_neg (by omega)]
theorem noteV_hi {v : Nat → Int32} {w l : Int32} {j : Nat} (h : 70 < j) : noteV v w l j = v j := by
  unfold noteV
  rw [if_neg (by omega), if_neg (by omega), if_neg (by omega), if_neg (by omega), if_neg (by omega)]
section PUR
variable {x : mm_M} {v : Nat → Int32} {i c : Nat}
theorem its0 (hi : i < 8) (x : mm_M) (v : Nat → Int32) : fn_X5_its (nI i) 0 (cs x 158 v) = some (v (71 + 8 * i)) := by
  have h := pu_its (j := 0) hi (by omega) (cs x 158 v); rw [cs_k] at h; exact h
theorem its1 (hi : i < 8) (x : mm_M) (v : Nat → Int32) : fn_X5_its (nI i) 1 (cs x 158 v) = some (v (71 + 8 * i + 1)) := by
  have h := pu_its (j := 1) hi (by omega) (cs x 158 v); rw [cs_k] at h; exact h
theorem its2 (hi : i < 8) (x : mm_M) (v : Nat → Int32) : fn_X5_its (nI i) 2 (cs x 158 v) = some (v (71 + 8 * i + 2)) := by
  have h := pu_its (j := 2) hi (by omega) (cs x 158 v); rw [cs_k] at h; exact h
theorem its3 (hi : i < 8) (x : mm_M) (v : Nat → Int32) : fn_X5_its (nI i) 3 (cs x 158 v) = some (v (71 + 8 * i + 3)) := by
  have h := pu_its (j := 3) hi (by omega) (cs x 158 v); rw [cs_k] at h; exact h
theorem its6 (hi : i < 8) (x : mm_M) (v : Nat → Int32) : fn_X5_its (nI i) 6 (cs x 158 v) = some (v (71 + 8 * i + 6)) := by
  have h := pu_its (j := 6) hi (by omega) (cs x 158 v); rw [cs_k] at h; exact h
theorem its7 (hi : i < 8) (x : mm_M) (v : Nat → Int32) : fn_X5_its (nI i) 7 (cs x 158 v) = some (v (71 + 8 * i + 7)) := by
  have h := pu_its (j := 7) hi (by omega) (cs x 158 v); rw [cs_k] at h; exact h
theorem layc {j : Nat} (hi : i < 8) (hj : j < 8) (x : mm_M) (v : Nat → Int32) (a : Int32) : fn_X5_lay (nI i) (nI j) a (cs x 158 v) = some (cs x 158 (upd v (71 + 8 * i + j) a)) := by
  rw [pu_lay hi hj, mm_up_of_cs]
theorem lay2 (hi : i < 8) (x : mm_M) (v : Nat → Int32) (a : Int32) : fn_X5_lay (nI i) 2 a (cs x 158 v) = some (cs x 158 (upd v (71 + 8 * i + 2) a)) := layc (j := 2) hi (by omega) x v a
theorem lay3 (hi : i < 8) (x : mm_M) (v : Nat → Int32) (a : Int32) : fn_X5_lay (nI i) 3 a (cs x 158 v) = some (cs x 158 (upd v (71 + 8 * i + 3) a)) := layc (j := 3) hi (by omega) x v a
theorem lay4 (hi : i < 8) (x : mm_M) (v : Nat → Int32) (a : Int32) : fn_X5_lay (nI i) 4 a (cs x 158 v) = some (cs x 158 (upd v (71 + 8 * i + 4) a)) := layc (j := 4) hi (by omega) x v a
theorem lay5 (hi : i < 8) (x : mm_M) (v : Nat → Int32) (a : Int32) : fn_X5_lay (nI i) 5 a (cs x 158 v) = some (cs x 158 (upd v (71 + 8 * i + 5) a)) := layc (j := 5) hi (by omega) x v a
theorem lay6 (hi : i < 8) (x : mm_M) (v : Nat → Int32) (a : Int32) : fn_X5_lay (nI i) 6 a (cs x 158 v) = some (cs x 158 (upd v (71 + 8 * i + 6) a)) := layc (j := 6) hi (by omega) x v a
theorem lay7 (hi : i < 8) (x : mm_M) (v : Nat → Int32) (a : Int32) : fn_X5_lay (nI i) 7 a (cs x 158 v) = some (cs x 158 (upd v (71 + 8 * i + 7) a)) := layc (j := 7) hi (by omega) x v a
theorem notec (w l : Int32) (x : mm_M) (v : Nat → Int32) : fn_X5_note w l (cs x 158 v) = some (cs x 158 (noteV v w l)) := by
  rw [pu_note, cs_k, cs_cs]
theorem takenc (hc : c ≤ 8) (x : mm_M) (v : Nat → Int32) (h8 : v 8 = nI c) : fn_X5_taken (cs x 158 v) = some (taken v) := by
  rw [pu_X5_taken hc (by rw [cs_k]; exact h8), cs_k]
end PUR
def heldf (s : Int32) : Int32 := if 99999 ≤ s then 99999 else s
theorem pu_held (s : Int32) (x : mm_M) : fn_X5_held s x = some (heldf s) := by
  unfold fn_X5_held heldf
  by_cases h : (99999 : Int32) ≤ s
  · rw [if_pos h, if_pos h]
  · rw [if_neg h, if_neg h]
def swV (v w : Nat → Int32) : Nat → Int32 := upd w 9 (w 9 + if taken w = taken v then 0 else 1)
def shV (v : Nat → Int32) (i : Nat) : Nat → Int32 := noteV (upd (upd (upd v (71 + 8 * i + 3) 1) (71 + 8 * i + 4) 0) (71 + 8 * i + 7) ((upd (upd v (71 + 8 * i + 3) 1) (71 + 8 * i + 4) 0) (71 + 8 * i + 7) + 1)) 3 (nI i)
def ch1 (v : Nat → Int32) (i what : Nat) (value : Int32) (sort : Nat) : Nat → Int32 :=
  let v1 := upd v (71 + 8 * i + what) value
  let v2 := upd v1 (71 + 8 * i + 2) (heldf (v1 (71 + 8 * i + 2) + v1 sort))
  noteV (upd v2 (71 + 8 * i + 6) (v2 (71 + 8 * i + 6) + 1)) (nI sort) (nI i)
def ch2 (v : Nat → Int32) (i : Nat) : Nat → Int32 := if v (71 + 8 * i + 2) ≤ v 4 then v else if v (71 + 8 * i + 3) = 0 then shV v i else v
def chV (v : Nat → Int32) (i what : Nat) (value : Int32) (sort : Nat) : (Nat → Int32) × Int32 :=
  let w := swV v (ch2 (ch1 v i what value sort) i)
  (w, w (71 + 8 * i + 2))
theorem sh8 {v : Nat → Int32} {i : Nat} : shV v i 8 = v 8 := by
  unfold shV
  rw [noteV_lo (by omega), upd_n (by omega), upd_n (by omega), upd_n (by omega)]
theorem ch1_8 {v : Nat → Int32} {i what sort : Nat} {value : Int32} : ch1 v i what value sort 8 = v 8 := by
  unfold ch1
  rw [noteV_lo (by omega), upd_n (by omega), upd_n (by omega), upd_n (by omega)]
theorem ch2_8 {v : Nat → Int32} {i : Nat} : ch2 v i 8 = v 8 := by
  unfold ch2
  by_cases h1 : v (71 + 8 * i + 2) ≤ v 4
  · rw [if_pos h1]
  · rw [if_neg h1]
    by_cases h2 : v (71 + 8 * i + 3) = 0
    · rw [if_pos h2, sh8]
    · rw [if_neg h2]
theorem pu_change {x : mm_M} {v : Nat → Int32} {i c what sort : Nat} {value : Int32} (hc : c ≤ 8) (h8 : v 8 = nI c) (hi : i < 8) (hw : what < 8) (hs : sort < 7) :
    fn_X5_change (nI i) (nI what) value (nI sort) (cs x 158 v) = some (cs x 158 (chV v i what value sort).1, (chV v i what value sort).2) := by
  unfold fn_X5_change
  have t0 := takenc hc x v h8
  have hin : ¬ (nI sort < 0 ∨ 135 ≤ (nI sort).toNatClampNeg) := nI_in (by omega) (by omega)
  have g0 : (nI sort).toNatClampNeg = sort := nI_clamp (by omega)
  rw [g0] at hin
  obtain ⟨w1, e1⟩ : ∃ w, w = ch1 v i what value sort := ⟨_, rfl⟩
  have h81 : w1 8 = nI c := by rw [e1, ch1_8, h8]
  simp only [t0, layc hi hw, its2 hi, if_neg hin, g0, cs_k, pu_held, lay2 hi, its6 hi, lay6 hi, notec, Option.bind_some]
  have e1' : noteV (upd (upd (upd v (71 + 8 * i + what) value) (71 + 8 * i + 2) (heldf ((upd v (71 + 8 * i + what) value) (71 + 8 * i + 2) + (upd v (71 + 8 * i + what) value) sort))) (71 + 8 * i + 6) ((upd (upd v (71 + 8 * i + what) value) (71 + 8 * i + 2) (heldf ((upd v (71 + 8 * i + what) value) (71 + 8 * i + 2) + (upd v (71 + 8 * i + what) value) sort))) (71 + 8 * i + 6) + 1)) (nI sort) (nI i) = w1 := e1.symm
  rw [e1']
  unfold chV
  rw [← e1]
  simp only [takenc hc x w1 h81, Option.bind_some, its3 hi, lay3 hi, lay4 hi, its7 hi, lay7 hi, notec, mm_up_of_cs, its2 hi, cs_k]
  unfold swV ch2
  have h82 : shV w1 i 8 = nI c := by rw [sh8, h81]
  have e2 : noteV (upd (upd (upd w1 (71 + 8 * i + 3) 1) (71 + 8 * i + 4) 0) (71 + 8 * i + 7) ((upd (upd w1 (71 + 8 * i + 3) 1) (71 + 8 * i + 4) 0) (71 + 8 * i + 7) + 1)) 3 (nI i) = shV w1 i := rfl
  rw [e2, takenc hc x _ h82]
  simp only [Option.bind_some]
  by_cases c1 : w1 (71 + 8 * i + 2) ≤ w1 4
  · simp only [c1, if_true]
    by_cases c2 : taken w1 = taken v
    · simp only [c2, if_true]
    · simp only [c2, if_false]
  · simp only [c1, if_false]
    by_cases c3 : w1 (71 + 8 * i + 3) = 0
    · simp only [c3, if_true]
      by_cases c2 : taken (shV w1 i) = taken v
      · simp only [c2, if_true]
      · simp only [c2, if_false]
    · simp only [c3, if_false]
      by_cases c2 : taken w1 = taken v
      · simp only [c2, if_true]
      · simp only [c2, if_false]
