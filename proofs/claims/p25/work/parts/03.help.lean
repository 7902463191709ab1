theorem kd_0 : mm_kd 0 = 4 := by decide
theorem kl_0 : 0 < 157 := by decide
theorem kd_1 : mm_kd 1 = 3 := by decide
theorem kl_1 : 1 < 157 := by decide
theorem kd_2 : mm_kd 2 = 6 := by decide
theorem kl_2 : 2 < 157 := by decide
theorem kd_3 : mm_kd 3 = 9 := by decide
theorem kl_3 : 3 < 157 := by decide
theorem kd_4 : mm_kd 4 = 0 := by decide
theorem kl_4 : 4 < 157 := by decide
theorem kd_5 : mm_kd 5 = 6 := by decide
theorem kl_5 : 5 < 157 := by decide
theorem kd_6 : mm_kd 6 = 6 := by decide
theorem kl_6 : 6 < 157 := by decide
theorem kd_7 : mm_kd 7 = 6 := by decide
theorem kl_7 : 7 < 157 := by decide
theorem kd_16 : mm_kd 16 = 10 := by decide
theorem kl_16 : 16 < 157 := by decide
theorem kd_17 : mm_kd 17 = 11 := by decide
theorem kl_17 : 17 < 157 := by decide
theorem kd_18 : mm_kd 18 = 8 := by decide
theorem kl_18 : 18 < 157 := by decide
theorem kd_19 : mm_kd 19 = 2 := by decide
theorem kl_19 : 19 < 157 := by decide
theorem kd_20 : mm_kd 20 = 7 := by decide
theorem kl_20 : 20 < 157 := by decide
theorem kd_21 : mm_kd 21 = 1 := by decide
theorem kl_21 : 21 < 157 := by decide
theorem ln_18 : mm_ln 18 = 2 := by decide
theorem ln_20 : mm_ln 20 = 80 := by decide
theorem ln_2 : mm_ln 2 = 7 := by decide
theorem ln_5 : mm_ln 5 = 20 := by decide
theorem ln_6 : mm_ln 6 = 20 := by decide
theorem ln_7 : mm_ln 7 = 20 := by decide
theorem pd_I : parseFieldDescriptor "I" = some .int := by decide +kernel
theorem pd_Z : parseFieldDescriptor "Z" = some .boolean := by decide +kernel
theorem pd_C : parseFieldDescriptor "C" = some .char := by decide +kernel
theorem sp_0_3 {T : Nat → ClassId} {b : Nat} {x : mm_M} {k : Nat} {v : Int32} (h : mm_kd k = 0) : (.inr (0, ([.ref (b + (k + 1)), .ref (b + (k + 2)), .ref (b + (k + 3)), .int (x k 3), .int (x k 4)] : List Value).set 3 (.int v)) : va_E) = mm_ent T b (mm_up x k 3 v) k := by rw [mm_e0 h, mm_up_same]; rfl
theorem sp_0_4 {T : Nat → ClassId} {b : Nat} {x : mm_M} {k : Nat} {v : Int32} (h : mm_kd k = 0) : (.inr (0, ([.ref (b + (k + 1)), .ref (b + (k + 2)), .ref (b + (k + 3)), .int (x k 3), .int (x k 4)] : List Value).set 4 (.int v)) : va_E) = mm_ent T b (mm_up x k 4 v) k := by rw [mm_e0 h, mm_up_same]; rfl
theorem sp_1_0 {T : Nat → ClassId} {b : Nat} {x : mm_M} {k : Nat} {v : Int32} (h : mm_kd k = 1) : (.inr (1, ([.int (x k 0), .int (x k 1), .int (x k 2), .int (x k 3), .int (x k 4), .int (x k 5), .int (x k 6), .int (x k 7)] : List Value).set 0 (.int v)) : va_E) = mm_ent T b (mm_up x k 0 v) k := by rw [mm_e1 h, mm_up_same]; rfl
theorem sp_1_1 {T : Nat → ClassId} {b : Nat} {x : mm_M} {k : Nat} {v : Int32} (h : mm_kd k = 1) : (.inr (1, ([.int (x k 0), .int (x k 1), .int (x k 2), .int (x k 3), .int (x k 4), .int (x k 5), .int (x k 6), .int (x k 7)] : List Value).set 1 (.int v)) : va_E) = mm_ent T b (mm_up x k 1 v) k := by rw [mm_e1 h, mm_up_same]; rfl
theorem sp_1_2 {T : Nat → ClassId} {b : Nat} {x : mm_M} {k : Nat} {v : Int32} (h : mm_kd k = 1) : (.inr (1, ([.int (x k 0), .int (x k 1), .int (x k 2), .int (x k 3), .int (x k 4), .int (x k 5), .int (x k 6), .int (x k 7)] : List Value).set 2 (.int v)) : va_E) = mm_ent T b (mm_up x k 2 v) k := by rw [mm_e1 h, mm_up_same]; rfl
theorem sp_1_3 {T : Nat → ClassId} {b : Nat} {x : mm_M} {k : Nat} {v : Int32} (h : mm_kd k = 1) : (.inr (1, ([.int (x k 0), .int (x k 1), .int (x k 2), .int (x k 3), .int (x k 4), .int (x k 5), .int (x k 6), .int (x k 7)] : List Value).set 3 (.int v)) : va_E) = mm_ent T b (mm_up x k 3 v) k := by rw [mm_e1 h, mm_up_same]; rfl
theorem sp_1_4 {T : Nat → ClassId} {b : Nat} {x : mm_M} {k : Nat} {v : Int32} (h : mm_kd k = 1) : (.inr (1, ([.int (x k 0), .int (x k 1), .int (x k 2), .int (x k 3), .int (x k 4), .int (x k 5), .int (x k 6), .int (x k 7)] : List Value).set 4 (.int v)) : va_E) = mm_ent T b (mm_up x k 4 v) k := by rw [mm_e1 h, mm_up_same]; rfl
theorem sp_1_5 {T : Nat → ClassId} {b : Nat} {x : mm_M} {k : Nat} {v : Int32} (h : mm_kd k = 1) : (.inr (1, ([.int (x k 0), .int (x k 1), .int (x k 2), .int (x k 3), .int (x k 4), .int (x k 5), .int (x k 6), .int (x k 7)] : List Value).set 5 (.int v)) : va_E) = mm_ent T b (mm_up x k 5 v) k := by rw [mm_e1 h, mm_up_same]; rfl
theorem sp_1_6 {T : Nat → ClassId} {b : Nat} {x : mm_M} {k : Nat} {v : Int32} (h : mm_kd k = 1) : (.inr (1, ([.int (x k 0), .int (x k 1), .int (x k 2), .int (x k 3), .int (x k 4), .int (x k 5), .int (x k 6), .int (x k 7)] : List Value).set 6 (.int v)) : va_E) = mm_ent T b (mm_up x k 6 v) k := by rw [mm_e1 h, mm_up_same]; rfl
theorem sp_1_7 {T : Nat → ClassId} {b : Nat} {x : mm_M} {k : Nat} {v : Int32} (h : mm_kd k = 1) : (.inr (1, ([.int (x k 0), .int (x k 1), .int (x k 2), .int (x k 3), .int (x k 4), .int (x k 5), .int (x k 6), .int (x k 7)] : List Value).set 7 (.int v)) : va_E) = mm_ent T b (mm_up x k 7 v) k := by rw [mm_e1 h, mm_up_same]; rfl
theorem sp_2_1 {T : Nat → ClassId} {b : Nat} {x : mm_M} {k : Nat} {v : Int32} (h : mm_kd k = 2) : (.inr (2, ([.ref (b + (k + 1)), .int (x k 1), .int (x k 2), .int (x k 3), .int (x k 4), .int (x k 5)] : List Value).set 1 (.int v)) : va_E) = mm_ent T b (mm_up x k 1 v) k := by rw [mm_e2 h, mm_up_same]; rfl
theorem sp_2_2 {T : Nat → ClassId} {b : Nat} {x : mm_M} {k : Nat} {v : Int32} (h : mm_kd k = 2) : (.inr (2, ([.ref (b + (k + 1)), .int (x k 1), .int (x k 2), .int (x k 3), .int (x k 4), .int (x k 5)] : List Value).set 2 (.int v)) : va_E) = mm_ent T b (mm_up x k 2 v) k := by rw [mm_e2 h, mm_up_same]; rfl
theorem sp_2_3 {T : Nat → ClassId} {b : Nat} {x : mm_M} {k : Nat} {v : Int32} (h : mm_kd k = 2) : (.inr (2, ([.ref (b + (k + 1)), .int (x k 1), .int (x k 2), .int (x k 3), .int (x k 4), .int (x k 5)] : List Value).set 3 (.int v)) : va_E) = mm_ent T b (mm_up x k 3 v) k := by rw [mm_e2 h, mm_up_same]; rfl
theorem sp_2_4 {T : Nat → ClassId} {b : Nat} {x : mm_M} {k : Nat} {v : Int32} (h : mm_kd k = 2) : (.inr (2, ([.ref (b + (k + 1)), .int (x k 1), .int (x k 2), .int (x k 3), .int (x k 4), .int (x k 5)] : List Value).set 4 (.int v)) : va_E) = mm_ent T b (mm_up x k 4 v) k := by rw [mm_e2 h, mm_up_same]; rfl
theorem sp_2_5 {T : Nat → ClassId} {b : Nat} {x : mm_M} {k : Nat} {v : Int32} (h : mm_kd k = 2) : (.inr (2, ([.ref (b + (k + 1)), .int (x k 1), .int (x k 2), .int (x k 3), .int (x k 4), .int (x k 5)] : List Value).set 5 (.int v)) : va_E) = mm_ent T b (mm_up x k 5 v) k := by rw [mm_e2 h, mm_up_same]; rfl
theorem sp_3_2 {T : Nat → ClassId} {b : Nat} {x : mm_M} {k : Nat} {v : Int32} (h : mm_kd k = 3) : (.inr (3, ([.ref (b + (k + 1)), .ref (b + (k + 2)), .int (x k 2), .int (x k 3), .int (x k 4), .int (x k 5), .ref (b + (k + 3))] : List Value).set 2 (.int v)) : va_E) = mm_ent T b (mm_up x k 2 v) k := by rw [mm_e3 h, mm_up_same]; rfl
theorem sp_3_3 {T : Nat → ClassId} {b : Nat} {x : mm_M} {k : Nat} {v : Int32} (h : mm_kd k = 3) : (.inr (3, ([.ref (b + (k + 1)), .ref (b + (k + 2)), .int (x k 2), .int (x k 3), .int (x k 4), .int (x k 5), .ref (b + (k + 3))] : List Value).set 3 (.int v)) : va_E) = mm_ent T b (mm_up x k 3 v) k := by rw [mm_e3 h, mm_up_same]; rfl
theorem sp_3_4 {T : Nat → ClassId} {b : Nat} {x : mm_M} {k : Nat} {v : Int32} (h : mm_kd k = 3) : (.inr (3, ([.ref (b + (k + 1)), .ref (b + (k + 2)), .int (x k 2), .int (x k 3), .int (x k 4), .int (x k 5), .ref (b + (k + 3))] : List Value).set 4 (.int v)) : va_E) = mm_ent T b (mm_up x k 4 v) k := by rw [mm_e3 h, mm_up_same]; rfl
theorem sp_3_5 {T : Nat → ClassId} {b : Nat} {x : mm_M} {k : Nat} {v : Int32} (h : mm_kd k = 3) : (.inr (3, ([.ref (b + (k + 1)), .ref (b + (k + 2)), .int (x k 2), .int (x k 3), .int (x k 4), .int (x k 5), .ref (b + (k + 3))] : List Value).set 5 (.int v)) : va_E) = mm_ent T b (mm_up x k 5 v) k := by rw [mm_e3 h, mm_up_same]; rfl
theorem sp_4_2 {T : Nat → ClassId} {b : Nat} {x : mm_M} {k : Nat} {v : Int32} (h : mm_kd k = 4) : (.inr (4, ([.ref (b + 1), .ref (b + 16), .int (x k 2), .ref (b + 17), .ref (b + 18), .ref (b + 19), .ref (b + 21)] : List Value).set 2 (.int v)) : va_E) = mm_ent T b (mm_up x k 2 v) k := by rw [mm_e4 h, mm_up_same]; rfl
def mm_b2 {α β γ : Type} (o : Option (α × β)) (f : α → β → Option γ) : Option γ := o.bind fun q => f q.1 q.2
def mm_b3 {α β γ δ : Type} (o : Option (α × β × γ)) (f : α → β → γ → Option δ) : Option δ := o.bind fun q => f q.1 q.2.1 q.2.2
theorem mm_bnd2 {α β γ : Type} {o : Option (α × β)} {f : α → β → Option γ} {r : γ} (h : mm_b2 o f = some r) : ∃ a c, o = some (a, c) ∧ f a c = some r := by
  obtain ⟨⟨a, c⟩, e, h⟩ := mm_bnd h
  exact ⟨a, c, e, h⟩
theorem mm_bnd3 {α β γ δ : Type} {o : Option (α × β × γ)} {f : α → β → γ → Option δ} {r : δ} (h : mm_b3 o f = some r) : ∃ a c d, o = some (a, c, d) ∧ f a c d = some r := by
  obtain ⟨⟨a, c, d⟩, e, h⟩ := mm_bnd h
  exact ⟨a, c, d, e, h⟩
/-- a cell or null -/
def mm_oc {α : Type} (o : Option Nat) (t : Option α) (f : Nat → Option α) : Option α := match o with
  | none => t
  | some k => f k
theorem mm_oc0 {α : Type} {t : Option α} {f : Nat → Option α} {r : Option α} (h : mm_oc none t f = r) : t = r := h
theorem mm_oc1 {α : Type} {k : Nat} {t : Option α} {f : Nat → Option α} {r : Option α} (h : mm_oc (some k) t f = r) : f k = r := h
theorem mm_narZ {v : Int32} (h : vp_nar .boolean v = v) : narrow .boolean (.int v) = .int v := by
  have e : narrow .boolean (.int v) = .int (vp_nar .boolean v) := rfl
  rw [e, h]
theorem mm_narC {v : Int32} (h : vp_nar .char v = v) : narrow .char (.int v) = .int v := by
  have e : narrow .char (.int v) = .int (vp_nar .char v) := rfl
  rw [e, h]
theorem mm_fitZ {v : Int32} (h : vp_nar .boolean v = v) : fits .boolean (.int v) = true := by
  have e := fits_narrow_boolean v
  rwa [mm_narZ h] at e
theorem mm_fitC {v : Int32} (h : vp_nar .char v = v) : fits .char (.int v) = true := by
  have e := fits_narrow_char v
  rwa [mm_narC h] at e
theorem mm_tn {v k : Int32} {a : Int} (h : ¬ v = k) (hk : k.toInt = a) : v.toInt ≠ a := fun q => h (Int32.toInt_inj.mp (q.trans hk.symm))
theorem mm_lt8 {i : Int32} (h : ¬ (i < 0 ∨ 8 ≤ i.toNatClampNeg)) : i.toNatClampNeg < 8 := Nat.lt_of_not_le fun q => h (Or.inr q)
theorem mm_ldc {i : Int32} (h : ¬ (i < 0 ∨ 8 ≤ i.toNatClampNeg)) : mm_kd (3 + 5 + i.toNatClampNeg) = 1 := by
  have key : ∀ j, j < 8 → mm_kd (3 + 5 + j) = 1 := by decide
  exact key _ (mm_lt8 h)
theorem mm_ldr {k : Nat} {i : Int32} (hk : mm_kd k = 3) (h : ¬ (i < 0 ∨ 8 ≤ i.toNatClampNeg)) : mm_kd ((k + 2) + 5 + i.toNatClampNeg) = 1 := by
  have key : ∀ k, k < 157 → mm_kd k = 3 → ∀ j, j < 8 → mm_kd (k + 2 + 5 + j) = 1 := by decide +kernel
  exact key k (mm_lt hk (by decide)) hk _ (mm_lt8 h)
theorem mm_lds {i : Int32} (h : ¬ (i < 0 ∨ 2 ≤ i.toNatClampNeg)) : mm_kd (127 + 15 * i.toNatClampNeg) = 3 := by
  have key : ∀ j, j < 2 → mm_kd (127 + 15 * j) = 3 := by decide
  exact key _ (Nat.lt_of_not_le fun q => h (Or.inr q))
section MMX
variable {p : Program} {l : Launch} {e : Env} {R : Room} {s : State} {m : MethodId} {args : Array Value} {below : List Frame} {meth : Method} {c : Code} {H : Heap} {locs : List Loc} {cells slots : Nat} {Q : State → Prop}
variable {cc : ByteArray} {pc nL : Nat} {ls : Array Slot} {rest : List Value} {Ts : List Cond} {own : String} {G : va_G} {T : Nat → ClassId} {b : Nat} {z : Nat → Nat} {x x1 : mm_M} {k : Nat}
theorem mm_nmi {t v : Int32} (h : (some t : Option Int32) = some v) (kk : W p l e R s m args below meth c H locs cells slots Q (F0 m pc ls (.int v :: rest))) : W p l e R s m args below meth c H locs cells slots Q (F0 m pc ls (.int t :: rest)) := by cases h; exact kk
theorem mm_nml {t v : Int64} (h : (some t : Option Int64) = some v) (kk : W p l e R s m args below meth c H locs cells slots Q (F0 m pc ls (.long v :: rest))) : W p l e R s m args below meth c H locs cells slots Q (F0 m pc ls (.long t :: rest)) := by cases h; exact kk
theorem mm_tabD {dflt lo hi : Int} {offs : Array Int} {len : Nat} {v : Int32} {tgt : Nat} (hexec : p.tables.exec = Jvm.exec) (hb : c.code = cc) (hdg : decode cc pc = .ok (.tableswitch dflt lo hi offs, len)) (ho : ¬ v.toInt < lo → ¬ hi < v.toInt → offs[(v.toInt - lo).toNat]? = some dflt) (ht : (pc : Int) + dflt = (tgt : Int))
    (kk : W p l e R s m args below meth c H locs cells slots Q (F0 m tgt ls rest)) : W p l e R s m args below meth c H locs cells slots Q (F0 m pc ls (.int v :: rest)) := by
  by_cases h1 : v.toInt < lo
  · exact lv_tableOut hexec hb hdg (Or.inl h1) ht kk
  · by_cases h2 : hi < v.toInt
    · exact lv_tableOut hexec hb hdg (Or.inr h2) ht kk
    · exact lv_tableIn hexec hb hdg h1 h2 (ho h1 h2) ht kk
theorem mm_nul (kk : W p l e R s m args below meth c H locs cells slots Q (F0 m pc ls (.null :: rest))) : W p l e R s m args below meth c H locs cells slots Q (F0 m pc ls (va_re (fun k => b + k) none :: rest)) := kk
theorem mm_nun (kk : W p l e R s m args below meth c H locs cells slots Q (F0 m pc ls (.ref (b + k) :: rest))) : W p l e R s m args below meth c H locs cells slots Q (F0 m pc ls (va_re (fun k => b + k) (some k) :: rest)) := kk
theorem mm_iretP {rt : FieldType} {v r : Int32} {av : Array Value} (C : mm_C p m c cc nL s av Ts own G T b z) (hH : mm_H G T b x s H locs) (hr : meth.sig.returnType = some rt) (hlk : meth.locks = false) (hn : narrow rt (.int v) = .int v) (h : (some v : Option Int32) = some r) (hdg : decode cc pc = .ok (.ireturn, 1)) :
    W p l e R s m av below meth c H locs cells slots (MQ below (mm_Qi G T b r x) av s cells slots (mm_A b)) (F0 m pc ls [.int v]) := mm_iret C hH hr hlk hn (by cases h; rfl) hdg
theorem mm_eretP {rt : FieldType} {o r : Option Nat} {v : Value} {av : Array Value} (C : mm_C p m c cc nL s av Ts own G T b z) (hH : mm_H G T b x s H locs) (hr : meth.sig.returnType = some rt) (hrt : (∃ n, rt = .object n) ∨ ∃ t, rt = .array t) (hlk : meth.locks = false) (hv : v = va_re (fun k => b + k) o) (h : (some o : Option (Option Nat)) = some r) (hdg : decode cc pc = .ok (.areturn, 1)) :
    W p l e R s m av below meth c H locs cells slots (MQ below (mm_Qe G T b r x) av s cells slots (mm_A b)) (F0 m pc ls [v]) := mm_eret C hH hr hrt hlk hv (by cases h; rfl) hdg
end MMX
