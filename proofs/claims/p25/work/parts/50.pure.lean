/-! THE PURE PART: numbers, the memory's reads, the minute of a landing -/
theorem pu_mul (a b : Nat) : nI a * nI b = nI (a * b) := (Int32.ofNat_mul a b).symm
theorem mm_up_app (x : mm_M) (k j : Nat) (v : Int32) (a i : Nat) : mm_up x k j v a i = if a = k ∧ i = j then v else x a i := by
  unfold mm_up upd
  by_cases h : a = k
  · by_cases h2 : i = j <;> simp [h, h2]
  · simp [h]
theorem mm_b2_some {α β γ : Type} (a : α) (c : β) (f : α → β → Option γ) : mm_b2 (some (a, c)) f = f a c := rfl
theorem mm_oc_some {α : Type} (k : Nat) (t : Option α) (f : Nat → Option α) : mm_oc (some k) t f = f k := rfl
theorem mm_oc_none {α : Type} (t : Option α) (f : Nat → Option α) : mm_oc none t f = t := rfl
theorem pu_cmp_lt (a b : Int64) : lg_cmp a b < 0 ↔ a < b := by
  unfold lg_cmp
  by_cases h1 : a > b
  · rw [if_pos h1]
    have : ¬ a < b := fun q => by
      rw [gt_iff_lt, Int64.lt_iff_toInt_lt] at h1
      rw [Int64.lt_iff_toInt_lt] at q
      omega
    simp [this]
  · rw [if_neg h1]
    by_cases h2 : a = b
    · rw [if_pos h2]; subst h2; simp
    · rw [if_neg h2]
      have : a < b := by
        rw [gt_iff_lt, Int64.lt_iff_toInt_lt] at h1
        rw [Int64.lt_iff_toInt_lt]
        have h3 : a.toInt ≠ b.toInt := fun q => h2 (Int64.toInt_inj.mp q)
        omega
      simp only [this, iff_true]
      decide
theorem pu_cmp_gt (a b : Int64) : 0 < lg_cmp a b ↔ b < a := by
  unfold lg_cmp
  by_cases h1 : a > b
  · rw [if_pos h1]
    have h2 : b < a := h1
    simp only [h2, iff_true]
    decide
  · rw [if_neg h1]
    have h2 : ¬ b < a := h1
    by_cases h3 : a = b
    · rw [if_pos h3]; subst h3; simp
    · rw [if_neg h3]
      simp only [h2, iff_false]
      decide
theorem pu_cmp_eq (a b : Int64) : lg_cmp a b = 0 ↔ a = b := by
  unfold lg_cmp
  by_cases h1 : a > b
  · rw [if_pos h1]
    have : a ≠ b := by
      rintro rfl
      rw [gt_iff_lt, Int64.lt_iff_toInt_lt] at h1
      omega
    simp [this]
  · rw [if_neg h1]
    by_cases h2 : a = b
    · simp [h2]
    · rw [if_neg h2]; simp [h2]
/-- a minute of a landing: fine, since, shunned, for; whether it is welcome again -/
def pm (half below longest fine since sh fr : Int32) : Int32 × Int32 × Int32 × Int32 × Int32 :=
  let f1 := if since + 1 < half then fine else fine / 2
  let s1 := if since + 1 < half then since + 1 else 0
  if sh = 0 then (f1, s1, sh, fr, 0)
  else if f1 < below then (f1, s1, 0, 0, 1)
  else if longest ≤ fr + 1 then (below - 1, s1, 0, 0, 1)
  else (f1, s1, sh, fr + 1, 0)
def st4 (x : mm_M) (k j2 j5 j3 j4 : Nat) (f s h r : Int32) : mm_M := fun a i => if a = k then (if i = j2 then f else if i = j5 then s else if i = j3 then h else if i = j4 then r else x a i) else x a i
theorem st4_ne {x : mm_M} {k a j2 j5 j3 j4 : Nat} {f s h r : Int32} (ha : a ≠ k) : st4 x k j2 j5 j3 j4 f s h r a = x a := by funext i; simp [st4, ha]
theorem st4_k {x : mm_M} {k j2 j5 j3 j4 i : Nat} {f s h r : Int32} : st4 x k j2 j5 j3 j4 f s h r k i = if i = j2 then f else if i = j5 then s else if i = j3 then h else if i = j4 then r else x k i := by simp [st4]
theorem mm_ext1 {x y : mm_M} (k : Nat) (h1 : ∀ a, a ≠ k → x a = y a) (h2 : ∀ i, x k i = y k i) : x = y := by
  funext a
  by_cases h : a = k
  · subst h; exact funext h2
  · exact h1 a h
theorem pu_min (f b : Int32) (hb : 1 ≤ b) : (if b - 1 < f then b - 1 else f) = if f < b then f else b - 1 := by
  have h1 : (b - 1).toInt = b.toInt - 1 := by
    rw [Int32.toInt_sub]
    rw [Int32.le_iff_toInt_le] at hb
    have h2 := Int32.toInt_lt b
    have h3 : (1 : Int32).toInt = 1 := by decide
    rw [h3] at hb ⊢
    rw [Int.bmod_eq_of_le] <;> omega
  by_cases h : f < b
  · rw [if_pos h]
    by_cases h2 : b - 1 < f
    · rw [Int32.lt_iff_toInt_lt] at h h2
      omega
    · rw [if_neg h2]
  · rw [if_neg h, if_pos]
    rw [Int32.lt_iff_toInt_lt] at h ⊢
    omega
theorem pu_X1_passMinute {x : mm_M} {k : Nat} (hk : mm_kd k = 1) {half below longest : Int32} (hb : 1 ≤ below) : fn_X1_passMinute k half below longest x = some (st4 x k 2 5 3 4 (pm half below longest (x k 2) (x k 5) (x k 3) (x k 4)).1 (pm half below longest (x k 2) (x k 5) (x k 3) (x k 4)).2.1 (pm half below longest (x k 2) (x k 5) (x k 3) (x k 4)).2.2.1 (pm half below longest (x k 2) (x k 5) (x k 3) (x k 4)).2.2.2.1, (pm half below longest (x k 2) (x k 5) (x k 3) (x k 4)).2.2.2.2) := by
  unfold fn_X1_passMinute pm
  simp only [hk, if_true, Option.bind_some, mm_up_app, true_and, and_true, and_self, if_false, pu_min _ _ hb, Nat.reduceEqDiff, and_false]
  by_cases c1 : x k 5 + 1 < half
  all_goals by_cases c2 : x k 3 = 0
  all_goals by_cases c3 : x k 2 < below
  all_goals by_cases c3' : x k 2 / 2 < below
  all_goals by_cases c4 : longest ≤ x k 4 + 1
  all_goals simp only [c1, c2, c3, c3', c4, if_true, if_false, Option.some.injEq, Prod.mk.injEq, and_true]
  all_goals refine mm_ext1 k (fun a ha => by simp only [mm_up_ne ha, st4_ne ha]) (fun i => ?_)
  all_goals simp only [mm_up_app, st4_k, true_and]
  all_goals (repeat' split) <;> simp_all
/-- a cell laid anew -/
def cs (x : mm_M) (k : Nat) (v : Nat → Int32) : mm_M := fun a => if a = k then v else x a
theorem cs_k (x : mm_M) (k : Nat) (v : Nat → Int32) : cs x k v k = v := if_pos rfl
theorem cs_ne {x : mm_M} {k a : Nat} {v : Nat → Int32} (h : a ≠ k) : cs x k v a = x a := if_neg h
theorem cs_cs (x : mm_M) (k : Nat) (v w : Nat → Int32) : cs (cs x k v) k w = cs x k w := by
  funext a; by_cases h : a = k <;> simp [cs, h]
theorem cs_self (x : mm_M) (k : Nat) : cs x k (x k) = x := by
  funext a; by_cases h : a = k
  · subst h; exact cs_k _ _ _
  · exact cs_ne h
theorem mm_up_cs (x : mm_M) (k j : Nat) (a : Int32) : mm_up x k j a = cs x k (upd (x k) j a) := by
  funext c; by_cases h : c = k
  · subst h; rw [mm_up_same, cs_k]
  · rw [mm_up_ne h, cs_ne h]
theorem mm_up_of_cs (x : mm_M) (k j : Nat) (v : Nat → Int32) (a : Int32) : mm_up (cs x k v) k j a = cs x k (upd v j a) := by rw [mm_up_cs, cs_k, cs_cs]
theorem cs_app (x : mm_M) (k : Nat) (v : Nat → Int32) (a i : Nat) : cs x k v a i = if a = k then v i else x a i := by
  by_cases h : a = k <;> simp [cs, h]
theorem cs_ext {x y : mm_M} {k : Nat} {v : Nat → Int32} (h1 : ∀ a, a ≠ k → y a = x a) (h2 : ∀ i, y k i = v i) : y = cs x k v := mm_ext1 k (fun a ha => by rw [h1 a ha, cs_ne ha]) (fun i => by rw [h2 i, cs_k])
theorem nI_sub {a b : Nat} : nI (a + b) - nI b = nI a := by
  rw [← nI_add]; exact Int32.add_sub_cancel _ _
theorem nI_m1 (a : Nat) : nI (a + 1) + (-1) = nI a := by
  have h : nI (a + 1) + (-1) = nI (a + 1) - 1 := by rw [Int32.sub_eq_add_neg]
  rw [h, nI_pred]
/-- which landing is taken, by the row -/
def tkV (v : Nat → Int32) : Nat → Nat → Int32 → Int32
  | 0, _, best => best
  | n + 1, i, best => tkV v n (i + 1) (if v (71 + 8 * i) = 1 ∧ v (71 + 8 * i + 3) = 0 ∧ (best < 0 ∨ v (71 + 8 * i + 1) < v (71 + 8 * best.toNatClampNeg + 1)) then nI i else best)
def taken (v : Nat → Int32) : Int32 := tkV v (v 8).toNatClampNeg 0 (-6)
def okb (b : Int32) (i : Nat) : Prop := b = -6 ∨ ∃ k, k < i ∧ b = nI k
theorem okb_step {b : Int32} {i : Nat} {c : Prop} [Decidable c] (h : okb b i) : okb (if c then nI i else b) (i + 1) := by
  by_cases hc : c
  · rw [if_pos hc]; exact Or.inr ⟨i, by omega, rfl⟩
  · rw [if_neg hc]
    rcases h with h | ⟨k, h1, h2⟩
    · exact Or.inl h
    · exact Or.inr ⟨k, by omega, h2⟩
/-- a note: the log moves on -/
def noteV (v : Nat → Int32) (w l : Int32) : Nat → Int32 := fun j => if j = 10 then (if 20 ≤ v 10 then v 10 else v 10 + 1) else if j = 11 then w else if j = 12 then l else if j = 13 then v 7 else if 14 ≤ j ∧ j ≤ 70 then v (j - 3) else v j
/-! THE REFERENCE, by its row -/
theorem upd_s (v : Nat → Int32) (j : Nat) (a : Int32) : upd v j a j = a := if_pos rfl
theorem upd_n {v : Nat → Int32} {j k : Nat} {a : Int32} (h : k ≠ j) : upd v j a k = v k := if_neg h
theorem noteV_lo {v : Nat → Int32} {w l : Int32} {j : Nat} (h : j < 10) : noteV v w l j = v j := by
  unfold noteV
  rw [if_neg (by omega), if_neg (by omega), if_neg (by omega), if_neg (by omega), if_neg (by omega)]
theorem noteV_hi {v : Nat → Int32} {w l : Int32} {j : Nat} (h : 70 < j) : noteV v w l j = v j := by
  unfold noteV
  rw [if_neg (by omega), if_neg (by omega), if_neg (by omega), if_neg (by omega), if_neg (by omega)]
section PUR
variable {x : mm_M} {v : Nat → Int32} {i c : Nat}
end PUR
def heldf (s : Int32) : Int32 := if 99999 ≤ s then 99999 else s
def swV (v w : Nat → Int32) : Nat → Int32 := upd w 9 (w 9 + if taken w = taken v then 0 else 1)
def shV (v : Nat → Int32) (i : Nat) : Nat → Int32 := noteV (upd (upd (upd v (71 + 8 * i + 3) 1) (71 + 8 * i + 4) 0) (71 + 8 * i + 7) ((upd (upd v (71 + 8 * i + 3) 1) (71 + 8 * i + 4) 0) (71 + 8 * i + 7) + 1)) 3 (nI i)
def ch1 (v : Nat → Int32) (i what : Nat) (value : Int32) (sort : Nat) : Nat → Int32 :=
  let v1 := upd v (71 + 8 * i + what) value
  let v2 := upd v1 (71 + 8 * i + 2) (heldf (v1 (71 + 8 * i + 2) + v1 sort))
  noteV (upd v2 (71 + 8 * i + 6) (v2 (71 + 8 * i + 6) + 1)) (nI sort) (nI i)
def ch2 (v : Nat → Int32) (i : Nat) : Nat → Int32 := if v (71 + 8 * i + 2) ≤ v 4 then v else if v (71 + 8 * i + 3) = 0 then shV v i else v
def chV (v : Nat → Int32) (i what : Nat) (value : Int32) (sort : Nat) : (Nat → Int32) × Int32 :=
  let w := swV v (ch2 (ch1 v i what value sort) i)
  (w, w (71 + 8 * i + 2))
theorem sh8 {v : Nat → Int32} {i : Nat} : shV v i 8 = v 8 := by
  unfold shV
  rw [noteV_lo (by omega), upd_n (by omega), upd_n (by omega), upd_n (by omega)]
theorem ch1_8 {v : Nat → Int32} {i what sort : Nat} {value : Int32} : ch1 v i what value sort 8 = v 8 := by
  unfold ch1
  rw [noteV_lo (by omega), upd_n (by omega), upd_n (by omega), upd_n (by omega)]
theorem ch2_8 {v : Nat → Int32} {i : Nat} : ch2 v i 8 = v 8 := by
  unfold ch2
  by_cases h1 : v (71 + 8 * i + 2) ≤ v 4
  · rw [if_pos h1]
  · rw [if_neg h1]
    by_cases h2 : v (71 + 8 * i + 3) = 0
    · rw [if_pos h2, sh8]
    · rw [if_neg h2]
