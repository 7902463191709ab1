/-! THE MEMORY: the cells of the object lie at b, b + 1 .. b + 156; cell k holds in slot j the int x k j; what is a reference is fixed by the kind of the cell -/
abbrev mm_M : Type := Nat → Nat → Int32
def mm_up (x : mm_M) (k j : Nat) (v : Int32) : mm_M := fun a => if a = k then upd (x a) j v else x a
def mm_cy (x : mm_M) (k0 k1 sp dp n : Nat) : mm_M := fun a => if a = k1 then va_cpy (x k0) (x a) sp dp n else x a
theorem mm_up_same (x : mm_M) (k j : Nat) (v : Int32) : mm_up x k j v k = upd (x k) j v := if_pos rfl
theorem mm_up_ne {x : mm_M} {k j a : Nat} {v : Int32} (h : a ≠ k) : mm_up x k j v a = x a := if_neg h
theorem mm_cy_same (x : mm_M) (k0 k1 sp dp n : Nat) : mm_cy x k0 k1 sp dp n k1 = va_cpy (x k0) (x k1) sp dp n := if_pos rfl
theorem mm_cy_ne {x : mm_M} {k0 k1 sp dp n a : Nat} (h : a ≠ k1) : mm_cy x k0 k1 sp dp n a = x a := if_neg h
/-- the kinds: 0 to 5 the objects (as the classes are numbered), 6 int[], 7 char[], 8 boolean[], 9 Landing[], 10 the history, 11 the slots -/
def mm_kR (o : Nat) : Nat := if o = 0 then 3 else if o = 1 then 6 else if o = 2 then 9 else if o = 3 then 0 else if o < 7 then 6 else 1
def mm_kd (k : Nat) : Nat :=
  if k = 0 then 4 else if k < 16 then mm_kR (k - 1) else if k = 16 then 10 else if k = 17 then 11 else if k = 18 then 8 else if k = 19 then 2 else if k = 20 then 7 else if k = 21 then 1
  else if k < 157 then mm_kR ((k - 22) % 15) else 99
def mm_ln (k : Nat) : Nat :=
  if k < 16 then (if k = 2 then 7 else 20) else if k = 18 then 2 else if k = 20 then 80 else if k < 157 then (if (k - 22) % 15 = 1 then 7 else 20) else 8
def mm_ent (T : Nat → ClassId) (b : Nat) (x : mm_M) (k : Nat) : va_E :=
  if mm_kd k = 0 then .inr (0, [.ref (b + (k + 1)), .ref (b + (k + 2)), .ref (b + (k + 3)), .int (x k 3), .int (x k 4)])
  else if mm_kd k = 1 then .inr (1, [.int (x k 0), .int (x k 1), .int (x k 2), .int (x k 3), .int (x k 4), .int (x k 5), .int (x k 6), .int (x k 7)])
  else if mm_kd k = 2 then .inr (2, [.ref (b + (k + 1)), .int (x k 1), .int (x k 2), .int (x k 3), .int (x k 4), .int (x k 5)])
  else if mm_kd k = 3 then .inr (3, [.ref (b + (k + 1)), .ref (b + (k + 2)), .int (x k 2), .int (x k 3), .int (x k 4), .int (x k 5), .ref (b + (k + 3))])
  else if mm_kd k = 4 then .inr (4, [.ref (b + 1), .ref (b + 16), .int (x k 2), .ref (b + 17), .ref (b + 18), .ref (b + 19), .ref (b + 21)])
  else if mm_kd k = 7 then .inl (T 1, mm_ln k, .inl (x k))
  else if mm_kd k = 8 then .inl (T 2, mm_ln k, .inl (x k))
  else if mm_kd k = 9 then .inl (T 3, 8, .inr (.inr (.inr (.inr (fun j => some (b + (k + 5 + j)))))))
  else if mm_kd k = 10 then .inl (T 4, 7, .inr (.inr (.inr (.inr (fun j => some (b + (x k j).toNatClampNeg))))))
  else if mm_kd k = 11 then .inl (T 4, 2, .inr (.inr (.inr (.inr (fun j => some (b + (127 + 15 * j)))))))
  else .inl (T 0, mm_ln k, .inl (x k))
section MME
variable {T : Nat → ClassId} {b : Nat} {x x1 : mm_M} {k : Nat}
theorem mm_e0 (h : mm_kd k = 0) : mm_ent T b x k = .inr (0, [.ref (b + (k + 1)), .ref (b + (k + 2)), .ref (b + (k + 3)), .int (x k 3), .int (x k 4)]) := by simp [mm_ent, h]
theorem mm_e1 (h : mm_kd k = 1) : mm_ent T b x k = .inr (1, [.int (x k 0), .int (x k 1), .int (x k 2), .int (x k 3), .int (x k 4), .int (x k 5), .int (x k 6), .int (x k 7)]) := by simp [mm_ent, h]
theorem mm_e2 (h : mm_kd k = 2) : mm_ent T b x k = .inr (2, [.ref (b + (k + 1)), .int (x k 1), .int (x k 2), .int (x k 3), .int (x k 4), .int (x k 5)]) := by simp [mm_ent, h]
theorem mm_e3 (h : mm_kd k = 3) : mm_ent T b x k = .inr (3, [.ref (b + (k + 1)), .ref (b + (k + 2)), .int (x k 2), .int (x k 3), .int (x k 4), .int (x k 5), .ref (b + (k + 3))]) := by simp [mm_ent, h]
theorem mm_e4 (h : mm_kd k = 4) : mm_ent T b x k = .inr (4, [.ref (b + 1), .ref (b + 16), .int (x k 2), .ref (b + 17), .ref (b + 18), .ref (b + 19), .ref (b + 21)]) := by simp [mm_ent, h]
theorem mm_e6 (h : mm_kd k = 6) : mm_ent T b x k = .inl (T 0, mm_ln k, .inl (x k)) := by simp [mm_ent, h]
theorem mm_e7 (h : mm_kd k = 7) : mm_ent T b x k = .inl (T 1, mm_ln k, .inl (x k)) := by simp [mm_ent, h]
theorem mm_e8 (h : mm_kd k = 8) : mm_ent T b x k = .inl (T 2, mm_ln k, .inl (x k)) := by simp [mm_ent, h]
theorem mm_e9 (h : mm_kd k = 9) : mm_ent T b x k = .inl (T 3, 8, .inr (.inr (.inr (.inr (fun j => some (b + (k + 5 + j))))))) := by simp [mm_ent, h]
theorem mm_e10 (h : mm_kd k = 10) : mm_ent T b x k = .inl (T 4, 7, .inr (.inr (.inr (.inr (fun j => some (b + (x k j).toNatClampNeg)))))) := by simp [mm_ent, h]
theorem mm_e11 (h : mm_kd k = 11) : mm_ent T b x k = .inl (T 4, 2, .inr (.inr (.inr (.inr (fun j => some (b + (127 + 15 * j))))))) := by simp [mm_ent, h]
theorem mm_ec (h : x1 k = x k) : mm_ent T b x1 k = mm_ent T b x k := by simp only [mm_ent, h]
theorem mm_lt {c : Nat} (h : mm_kd k = c) (hc : c < 99) : k < 157 := by
  rcases Nat.lt_or_ge k 157 with q | q
  · exact q
  · unfold mm_kd at h
    repeat rw [if_neg (by omega)] at h
    omega
/-- the cells of a river, by the river's own -/
theorem mm_riv (h : mm_kd k = 3) : k = 1 ∨ ∃ i, i < 9 ∧ k = 22 + 15 * i := by
  have hk := mm_lt h (by decide)
  have key : ∀ k, k < 157 → mm_kd k = 3 → k = 1 ∨ ∃ i, i < 9 ∧ k = 22 + 15 * i := by decide +kernel
  exact key k hk h
theorem mm_rv1 (h : mm_kd k = 3) : mm_kd (k + 1) = 6 ∧ mm_ln (k + 1) = 7 := by
  have key : ∀ k, k < 157 → mm_kd k = 3 → mm_kd (k + 1) = 6 ∧ mm_ln (k + 1) = 7 := by decide +kernel
  exact key k (mm_lt h (by decide)) h
theorem mm_rv2 (h : mm_kd k = 3) : mm_kd (k + 2) = 9 := by
  have key : ∀ k, k < 157 → mm_kd k = 3 → mm_kd (k + 2) = 9 := by decide +kernel
  exact key k (mm_lt h (by decide)) h
theorem mm_rv3 (h : mm_kd k = 3) : mm_kd (k + 3) = 0 := by
  have key : ∀ k, k < 157 → mm_kd k = 3 → mm_kd (k + 3) = 0 := by decide +kernel
  exact key k (mm_lt h (by decide)) h
theorem mm_jn1 (h : mm_kd k = 0) : mm_kd (k + 1) = 6 ∧ mm_ln (k + 1) = 20 := by
  have key : ∀ k, k < 157 → mm_kd k = 0 → mm_kd (k + 1) = 6 ∧ mm_ln (k + 1) = 20 := by decide +kernel
  exact key k (mm_lt h (by decide)) h
theorem mm_jn2 (h : mm_kd k = 0) : mm_kd (k + 2) = 6 ∧ mm_ln (k + 2) = 20 := by
  have key : ∀ k, k < 157 → mm_kd k = 0 → mm_kd (k + 2) = 6 ∧ mm_ln (k + 2) = 20 := by decide +kernel
  exact key k (mm_lt h (by decide)) h
theorem mm_jn3 (h : mm_kd k = 0) : mm_kd (k + 3) = 6 ∧ mm_ln (k + 3) = 20 := by
  have key : ∀ k, k < 157 → mm_kd k = 0 → mm_kd (k + 3) = 6 ∧ mm_ln (k + 3) = 20 := by decide +kernel
  exact key k (mm_lt h (by decide)) h
end MME
def mm_w (T : Nat → ClassId) (b : Nat) (x : mm_M) : va_W := (List.range 157).map fun k => (b + k, mm_ent T b x k)
theorem mm_wat {T : Nat → ClassId} {b : Nat} {x : mm_M} {k : Nat} (hk : k < 157) : (mm_w T b x)[k]? = some (b + k, mm_ent T b x k) := by
  simp [mm_w, hk]
theorem mm_wat' {T : Nat → ClassId} {b : Nat} {x : mm_M} {k : Nat} {q : Nat × va_E} (h : (mm_w T b x)[k]? = some q) : k < 157 ∧ q = (b + k, mm_ent T b x k) := by
  have hl := (List.getElem?_eq_some_iff.mp h).1
  have hk : k < 157 := by simpa [mm_w] using hl
  rw [mm_wat hk] at h
  exact ⟨hk, (Option.some.inj h).symm⟩
/-- the object's own addresses -/
def mm_A (b : Nat) : Nat → Prop := fun q => b ≤ q ∧ q < b + 157
theorem mm_wD (T : Nat → ClassId) (b : Nat) (x : mm_M) : va_D (mm_A b) (mm_w T b x) := by
  refine ⟨fun i j p q hi hj h => ?_, fun k q hk => ?_⟩
  · obtain ⟨-, rfl⟩ := mm_wat' hi
    obtain ⟨-, rfl⟩ := mm_wat' hj
    have h' : b + i = b + j := h
    omega
  · obtain ⟨hk5, rfl⟩ := mm_wat' hk
    exact ⟨Nat.le_add_right _ _, Nat.add_lt_add_left hk5 _⟩
theorem mm_wset {T : Nat → ClassId} {b : Nat} {x x1 : mm_M} {k : Nat} {e : va_E} (hk : k < 157) (he : e = mm_ent T b x1 k) (ho : ∀ a, a ≠ k → x1 a = x a) : (mm_w T b x).set k (b + k, e) = mm_w T b x1 := by
  apply List.ext_getElem?
  intro i
  by_cases hi : i < 157
  · by_cases hik : i = k
    · subst hik
      rw [List.getElem?_set_self (by simpa [mm_w] using hi), mm_wat hi, he]
    · rw [List.getElem?_set_ne (fun q => hik q.symm), mm_wat hi, mm_wat hi, mm_ec (ho i hik)]
  · rw [List.getElem?_eq_none (by simp [mm_w]; omega), List.getElem?_eq_none (by simp [mm_w]; omega)]
def mm_T (T : Nat → ClassId) : List (ClassId × FieldType) := [(T 0, .int), (T 1, .char), (T 2, .boolean), (T 3, .object RX1), (T 4, .object RX3)]
/-- the three static rows of LandingFines: what they hold -/
def mm_st : Nat → Nat → Int32 := fun i j => (([[0, 0, 0, 1, 1, 1, 1], [9999, 9999, 9999, 99, 99999, 99999, 999], [1000, 0, 500, 15, 2000, 750, 60]] : List (List Int32)).getD i []).getD j 0
def mm_sn : Nat → String := fun i => match i with
  | 0 => "LEAST_SETTING"
  | 1 => "MOST_SETTING"
  | _ => "FIRST_SETTING"
def mm_Z (b : Nat) (z : Nat → Nat) (U : State) (H : Heap) : Prop := ∀ i, i < 3 → va_Z RX4 (mm_sn i) "[I" (.ref (z i)) (fun q => b ≤ q) U H ∧ va_T .int (z i) 7 (fun j => .int (mm_st i j)) (fun q => b ≤ q) U H
theorem mm_Z.moved {b : Nat} {z : Nat → Nat} {u U : State} {H : Heap} (hvm : u.vm.Alike U.vm) (h : mm_Z b z u H) : mm_Z b z U H := fun i hi => ⟨(h i hi).1.moved hvm, (h i hi).2.moved hvm⟩
theorem mm_Z.kept {b : Nat} {z : Nat → Nat} {U : State} {H H1 : Heap} (h : mm_Z b z U H) (hq : ∀ a : Nat, a < H.size → ¬ b ≤ a → H1[a]? = H[a]?) : mm_Z b z U H1 := fun i hi => ⟨(h i hi).1.kept hq, (h i hi).2.kept hq⟩
def mm_si : Nat → Nat := fun i => match i with
  | 0 => 63
  | 1 => 66
  | _ => 9
def mm_N (U : State) : Prop := ∀ i, i < 3 → va_Nw (.fieldLinkNest RX3 (mm_si i) RX4 (mm_sn i) "[I" RX4) U
/-- what stands through a method's walk -/
def mm_C (p : Program) (m : MethodId) (c : Code) (cc : ByteArray) (nL : Nat) (s : State) (args : Array Value) (Ts : List Cond) (own : String) (G : va_G) (T : Nat → ClassId) (b : Nat) (z : Nat → Nat) : Prop :=
  p.tables.exec = Jvm.exec ∧ c.code = cc ∧ c.maxLocals = nL ∧ s.vm.findClass own = some m.cls ∧ (∀ w ∈ Ts, w.before args s = true) ∧ va_K G vwCl (mm_T T) s ∧ mm_Z b z s s.heap ∧ mm_N s
/-- what the heap holds now -/
def mm_H (G : va_G) (T : Nat → ClassId) (b : Nat) (x : mm_M) (s : State) (H : Heap) (locs : List Loc) : Prop := va_P G vwCl (mm_w T b x) H ∧ va_S (mm_A b) s.heap H locs
/-- a method's start -/
def mm_B (G : va_G) (T : Nat → ClassId) (b : Nat) (z : Nat → Nat) (x : mm_M) (U : State) : Prop := va_P G vwCl (mm_w T b x) U.heap ∧ va_K G vwCl (mm_T T) U ∧ mm_Z b z U U.heap ∧ mm_N U
def mm_Qi (G : va_G) (T : Nat → ClassId) (b : Nat) (r : Int32) (x1 : mm_M) : Array Value → State → Outcome → State → Prop := va_Qi (fun (r' : Int32) (_ : Unit) => r' = r) (fun _ t => va_P G vwCl (mm_w T b x1) t.heap) (mm_A b)
def mm_Qv (G : va_G) (T : Nat → ClassId) (b : Nat) (x1 : mm_M) : Array Value → State → Outcome → State → Prop := va_Qv (fun (_ : Unit) => True) (fun _ t => va_P G vwCl (mm_w T b x1) t.heap) (mm_A b)
def mm_Qe (G : va_G) (T : Nat → ClassId) (b : Nat) (r : Option Nat) (x1 : mm_M) : Array Value → State → Outcome → State → Prop := va_Qe (fun k => b + k) (fun (r' : Option Nat) (_ : Unit) => r' = r) (fun _ t => va_P G vwCl (mm_w T b x1) t.heap) (mm_A b)
/-- the contracts: an int, nothing, a cell or null -/
def mm_Ci (l : Launch) (y : MethodName) (ws : List Cond) (rm : Room) (G : va_G) (T : Nat → ClassId) (b : Nat) (z : Nat → Nat) (av : List Value) (x : mm_M) (r : Int32) (x1 : mm_M) : Prop := Met l y ws rm (va_Pc av (mm_B G T b z x)) (mm_Qi G T b r x1) 0 0 (mm_A b)
def mm_Cv (l : Launch) (y : MethodName) (ws : List Cond) (rm : Room) (G : va_G) (T : Nat → ClassId) (b : Nat) (z : Nat → Nat) (av : List Value) (x : mm_M) (x1 : mm_M) : Prop := Met l y ws rm (va_Pc av (mm_B G T b z x)) (mm_Qv G T b x1) 0 0 (mm_A b)
def mm_Ce (l : Launch) (y : MethodName) (ws : List Cond) (rm : Room) (G : va_G) (T : Nat → ClassId) (b : Nat) (z : Nat → Nat) (av : List Value) (x : mm_M) (r : Option Nat) (x1 : mm_M) : Prop := Met l y ws rm (va_Pc av (mm_B G T b z x)) (mm_Qe G T b r x1) 0 0 (mm_A b)
theorem mm_B.blind {G : va_G} {T : Nat → ClassId} {b : Nat} {z : Nat → Nat} {x : mm_M} {av : List Value} : FrameBlind (va_Pc av (mm_B G T b z x)) := by
  intro a U g mk q
  obtain ⟨q0, qP, qK, qZ, qN⟩ := q
  exact ⟨q0, qP, va_K.moved (u := U) (U := U.calling g mk a) (Vm.Alike.refl U.vm) qK, mm_Z.moved (u := U) (U := U.calling g mk a) (Vm.Alike.refl U.vm) qZ, fun i hi => va_Nw.same (u := U) (U := U.calling g mk a) rfl rfl (qN i hi)⟩
theorem mm_bnd {α β : Type} {o : Option α} {f : α → Option β} {r : β} (h : o.bind f = some r) : ∃ a, o = some a ∧ f a = some r := by
  cases o with
  | none => cases h
  | some a => exact ⟨a, rfl, h⟩
theorem mm_pos {α : Type} {c : Prop} {i : Decidable c} {a b : Option α} {r : Option α} (hc : c) (h : (if c then a else b) = r) : a = r := by rwa [if_pos hc] at h
theorem mm_neg {α : Type} {c : Prop} {i : Decidable c} {a b : Option α} {r : Option α} (hc : ¬ c) (h : (if c then a else b) = r) : b = r := by rwa [if_neg hc] at h
/-- a guard: what it guards is so -/
theorem mm_grd {α : Type} {c : Prop} {i : Decidable c} {a : Option α} {r : α} (h : (if c then a else none) = some r) : c ∧ a = some r := by
  by_cases hc : c
  · rw [if_pos hc] at h; exact ⟨hc, h⟩
  · rw [if_neg hc] at h; cases h
theorem mm_grn {α : Type} {c : Prop} {i : Decidable c} {a : Option α} {r : α} (h : (if c then none else a) = some r) : ¬ c ∧ a = some r := by
  by_cases hc : c
  · rw [if_pos hc] at h; cases h
  · rw [if_neg hc] at h; exact ⟨hc, h⟩
section MMW
variable {p : Program} {l : Launch} {e : Env} {R : Room} {s : State} {m : MethodId} {args : Array Value} {below : List Frame} {meth : Method} {c : Code} {H : Heap} {locs : List Loc} {cells slots : Nat} {Q : State → Prop}
variable {cc : ByteArray} {pc nL : Nat} {ls : Array Slot} {rest : List Value} {Ts : List Cond} {own : String} {G : va_G} {T : Nat → ClassId} {b : Nat} {z : Nat → Nat} {x x1 : mm_M} {k : Nat}
theorem mm_get {Cn : String} {Tn : u_T} {N ci j index : Nat} {fs : List Value} {v : Value} {nm ds : String} (C : mm_C p m c cc nL s args Ts own G T b z) (hH : mm_H G T b x s H locs) (hin : ∀ w ∈ u_ws Cn Tn N, w ∈ Ts) (hc : vwCl[ci]? = some (Cn, Tn, N)) (hk : k < 157) (he : mm_ent T b x k = .inr (ci, fs)) (hj : j < N) (hT : Tn j = (Cn, nm, ds, (Tn j).2.2.2))
    (hlink : (Cond.fieldLink own index Cn nm ds).before args s = true) (hv : fs[j]? = some v) (hdg : decode cc pc = .ok (.getfield index, 3))
    (kk : W p l e R s m args below meth c H locs cells slots Q (F0 m (pc + 3) ls (v :: rest))) : W p l e R s m args below meth c H locs cells slots Q (F0 m pc ls (.ref (b + k) :: rest)) := by
  obtain ⟨hx, hb, -, hown, hts, hK, -⟩ := C
  have h1 : (Tn j).1 = Cn := by rw [hT]
  have h2 : (Tn j).2.1 = nm := by rw [hT]
  have h3 : (Tn j).2.2.1 = ds := by rw [hT]
  exact va_get hx hb hts hin hown hK hH.1 k (ref := Cn) ((mm_wat hk).trans (by rw [he])) hc j hj (by rw [h2, h3]; exact hlink) (fun y hy => by rw [h1] at hy; exact hy) hv hdg kk
theorem mm_put {Cn : String} {Tn : u_T} {N ci j index : Nat} {fs : List Value} {v : Int32} {nm ds : String} {ty : FieldType} {ty0 : Nat → FieldType} (C : mm_C p m c cc nL s args Ts own G T b z) (hH : mm_H G T b x s H locs) (hin : ∀ w ∈ u_ws Cn Tn N, w ∈ Ts) (hty : ∀ k, k < N → parseFieldDescriptor (Tn k).2.2.1 = some (ty0 k)) (hnm : ∀ a, a < N → ∀ b, b < N → a ≠ b → (Tn a).2.1 ≠ (Tn b).2.1) (hc : vwCl[ci]? = some (Cn, Tn, N)) (hk : k < 157) (he : mm_ent T b x k = .inr (ci, fs)) (hj : j < N) (hT : Tn j = (Cn, nm, ds, false))
    (hlink : (Cond.fieldLink own index Cn nm ds).before args s = true) (hd : parseFieldDescriptor ds = some ty) (hn : narrow ty (.int v) = .int v) (hfit : fits ty (.int v) = true) (hl : j < fs.length) (hse : (.inr (ci, fs.set j (.int v)) : va_E) = mm_ent T b (mm_up x k j v) k) (hx1 : mm_up x k j v = x1) (hdg : decode cc pc = .ok (.putfield index, 3))
    (kk : ∀ (H1 : Heap) (locs1 : List Loc), mm_H G T b x1 s H1 locs1 → W p l e R s m args below meth c H1 locs1 cells slots Q (F0 m (pc + 3) ls rest)) : W p l e R s m args below meth c H locs cells slots Q (F0 m pc ls (.int v :: .ref (b + k) :: rest)) := by
  obtain ⟨hx, hb, -, hown, hts, hK, -⟩ := C
  have h1 : (Tn j).1 = Cn := by rw [hT]
  have h2 : (Tn j).2.1 = nm := by rw [hT]
  have h3 : (Tn j).2.2.1 = ds := by rw [hT]
  have h4 : (Tn j).2.2.2 = false := by rw [hT]
  refine va_put hx hb hts hin ty0 hty hnm hown hK hH.1 (mm_wD T b x) hH.2 k (ref := Cn) ((mm_wat hk).trans (by rw [he])) hc j hj (by rw [h2, h3]; exact hlink) (fun y hy => by rw [h1] at hy; exact hy) h4 (by rw [h3]; exact hd) hn hfit hl hdg (fun H1 locs1 hP _ hS => kk H1 locs1 ⟨?_, hS⟩)
  subst hx1
  rwa [mm_wset hk hse (fun a ha => mm_up_ne ha)] at hP
theorem mm_iald {n jn : Nat} {i : Int32} (C : mm_C p m c cc nL s args Ts own G T b z) (hH : mm_H G T b x s H locs) (hk : mm_kd k = 6) (hln : mm_ln k = n) (hin : ¬ (i < 0 ∨ n ≤ i.toNatClampNeg)) (hj : i.toNatClampNeg = jn) (hdg : decode cc pc = .ok (.iaload, 1))
    (kk : W p l e R s m args below meth c H locs cells slots Q (F0 m (pc + 1) ls (.int (x k jn) :: rest))) : W p l e R s m args below meth c H locs cells slots Q (F0 m pc ls (.int i :: .ref (b + k) :: rest)) := by
  subst hj
  exact va_iald C.1 C.2.1 C.2.2.2.2.2.1 hH.1 k 0 ((mm_wat (mm_lt hk (by decide))).trans (by rw [mm_e6 hk])) rfl (by rw [hln]; exact hin) hdg kk
theorem mm_bald {n jn : Nat} {i : Int32} (C : mm_C p m c cc nL s args Ts own G T b z) (hH : mm_H G T b x s H locs) (hk : mm_kd k = 8) (hln : mm_ln k = n) (hin : ¬ (i < 0 ∨ n ≤ i.toNatClampNeg)) (hj : i.toNatClampNeg = jn) (hdg : decode cc pc = .ok (.baload, 1))
    (kk : W p l e R s m args below meth c H locs cells slots Q (F0 m (pc + 1) ls (.int (x k jn) :: rest))) : W p l e R s m args below meth c H locs cells slots Q (F0 m pc ls (.int i :: .ref (b + k) :: rest)) := by
  subst hj
  exact va_zald C.1 C.2.1 C.2.2.2.2.2.1 hH.1 k 2 ((mm_wat (mm_lt hk (by decide))).trans (by rw [mm_e8 hk])) rfl (by rw [hln]; exact hin) hdg kk
theorem mm_cald {n jn : Nat} {i : Int32} (C : mm_C p m c cc nL s args Ts own G T b z) (hH : mm_H G T b x s H locs) (hk : mm_kd k = 7) (hln : mm_ln k = n) (hin : ¬ (i < 0 ∨ n ≤ i.toNatClampNeg)) (hj : i.toNatClampNeg = jn) (hdg : decode cc pc = .ok (.caload, 1))
    (kk : W p l e R s m args below meth c H locs cells slots Q (F0 m (pc + 1) ls (.int (x k jn) :: rest))) : W p l e R s m args below meth c H locs cells slots Q (F0 m pc ls (.int i :: .ref (b + k) :: rest)) := by
  subst hj
  exact va_cald C.1 C.2.1 C.2.2.2.2.2.1 hH.1 k 1 ((mm_wat (mm_lt hk (by decide))).trans (by rw [mm_e7 hk])) rfl (by rw [hln]; exact hin) hdg kk
theorem mm_iast {n : Nat} {i v : Int32} {jn : Nat} (C : mm_C p m c cc nL s args Ts own G T b z) (hH : mm_H G T b x s H locs) (hk : mm_kd k = 6) (hln : mm_ln k = n) (hin : ¬ (i < 0 ∨ n ≤ i.toNatClampNeg)) (hj : i.toNatClampNeg = jn) (hx1 : mm_up x k jn v = x1) (hdg : decode cc pc = .ok (.iastore, 1))
    (kk : ∀ (H1 : Heap) (locs1 : List Loc), mm_H G T b x1 s H1 locs1 → W p l e R s m args below meth c H1 locs1 cells slots Q (F0 m (pc + 1) ls rest)) : W p l e R s m args below meth c H locs cells slots Q (F0 m pc ls (.int v :: .int i :: .ref (b + k) :: rest)) := by
  have hk5 := mm_lt hk (by decide)
  refine va_iast C.1 C.2.1 C.2.2.2.2.2.1 hH.1 (mm_wD T b x) hH.2 k 0 ((mm_wat hk5).trans (by rw [mm_e6 hk])) rfl (by rw [hln]; exact hin) hdg (fun H1 locs1 hP _ hS => kk H1 locs1 ⟨?_, hS⟩)
  subst hx1; subst hj
  rwa [mm_wset hk5 (by rw [mm_e6 hk, mm_up_same]) (fun a ha => mm_up_ne ha)] at hP
theorem mm_cast {n : Nat} {i v : Int32} {jn : Nat} (C : mm_C p m c cc nL s args Ts own G T b z) (hH : mm_H G T b x s H locs) (hk : mm_kd k = 7) (hln : mm_ln k = n) (hin : ¬ (i < 0 ∨ n ≤ i.toNatClampNeg)) (hj : i.toNatClampNeg = jn) (hx1 : mm_up x k jn (vp_nar .char v) = x1) (hdg : decode cc pc = .ok (.castore, 1))
    (kk : ∀ (H1 : Heap) (locs1 : List Loc), mm_H G T b x1 s H1 locs1 → W p l e R s m args below meth c H1 locs1 cells slots Q (F0 m (pc + 1) ls rest)) : W p l e R s m args below meth c H locs cells slots Q (F0 m pc ls (.int v :: .int i :: .ref (b + k) :: rest)) := by
  have hk5 := mm_lt hk (by decide)
  refine va_cast C.1 C.2.1 C.2.2.2.2.2.1 hH.1 (mm_wD T b x) hH.2 k 1 ((mm_wat hk5).trans (by rw [mm_e7 hk])) rfl (by rw [hln]; exact hin) hdg (fun H1 locs1 hP _ hS => kk H1 locs1 ⟨?_, hS⟩)
  subst hx1; subst hj
  rwa [mm_wset hk5 (by rw [mm_e7 hk, mm_up_same]) (fun a ha => mm_up_ne ha)] at hP
theorem mm_bast {n : Nat} {i v : Int32} {jn : Nat} (C : mm_C p m c cc nL s args Ts own G T b z) (hH : mm_H G T b x s H locs) (hk : mm_kd k = 8) (hln : mm_ln k = n) (hin : ¬ (i < 0 ∨ n ≤ i.toNatClampNeg)) (hv : vp_nar .boolean v = v) (hj : i.toNatClampNeg = jn) (hx1 : mm_up x k jn v = x1) (hdg : decode cc pc = .ok (.bastore, 1))
    (kk : ∀ (H1 : Heap) (locs1 : List Loc), mm_H G T b x1 s H1 locs1 → W p l e R s m args below meth c H1 locs1 cells slots Q (F0 m (pc + 1) ls rest)) : W p l e R s m args below meth c H locs cells slots Q (F0 m pc ls (.int v :: .int i :: .ref (b + k) :: rest)) := by
  have hk5 := mm_lt hk (by decide)
  refine va_zast C.1 C.2.1 C.2.2.2.2.2.1 hH.1 (mm_wD T b x) hH.2 k 2 ((mm_wat hk5).trans (by rw [mm_e8 hk])) rfl (by rw [hln]; exact hin) hdg (fun H1 locs1 hP _ hS => kk H1 locs1 ⟨?_, hS⟩)
  subst hx1; subst hj
  rw [hv] at hP
  rwa [mm_wset hk5 (by rw [mm_e8 hk, mm_up_same]) (fun a ha => mm_up_ne ha)] at hP
theorem mm_alen {cA : ClassId} {y : vp_A} {ty : FieldType} {v : Int32} (C : mm_C p m c cc nL s args Ts own G T b z) (hH : mm_H G T b x s H locs) (hk : k < 157) (he : mm_ent T b x k = .inl (cA, y)) (t0 : Nat) (ht : (mm_T T)[t0]? = some (cA, ty)) (hv : Int32.ofNat y.1 = v) (hdg : decode cc pc = .ok (.arraylength, 1))
    (kk : W p l e R s m args below meth c H locs cells slots Q (F0 m (pc + 1) ls (.int v :: rest))) : W p l e R s m args below meth c H locs cells slots Q (F0 m pc ls (.ref (b + k) :: rest)) :=
  va_alen C.1 C.2.1 C.2.2.2.2.2.1 hH.1 k t0 ((mm_wat hk).trans (by rw [he])) ht hv hdg kk
theorem mm_ald9 {i : Int32} (C : mm_C p m c cc nL s args Ts own G T b z) (hH : mm_H G T b x s H locs) (hk : mm_kd k = 9) (hin : ¬ (i < 0 ∨ 8 ≤ i.toNatClampNeg)) (hdg : decode cc pc = .ok (.aaload, 1))
    (kk : W p l e R s m args below meth c H locs cells slots Q (F0 m (pc + 1) ls (.ref (b + (k + 5 + i.toNatClampNeg)) :: rest))) : W p l e R s m args below meth c H locs cells slots Q (F0 m pc ls (.int i :: .ref (b + k) :: rest)) :=
  va_aldq C.1 C.2.1 C.2.2.2.2.2.1 hH.1 k 3 (f := fun j => some (b + (k + 5 + j))) ((mm_wat (mm_lt hk (by decide))).trans (by rw [mm_e9 hk])) rfl hin hdg kk
theorem mm_ald10 {i : Int32} (C : mm_C p m c cc nL s args Ts own G T b z) (hH : mm_H G T b x s H locs) (hk : mm_kd k = 10) (hin : ¬ (i < 0 ∨ 7 ≤ i.toNatClampNeg)) (hdg : decode cc pc = .ok (.aaload, 1))
    (kk : W p l e R s m args below meth c H locs cells slots Q (F0 m (pc + 1) ls (.ref (b + (x k i.toNatClampNeg).toNatClampNeg) :: rest))) : W p l e R s m args below meth c H locs cells slots Q (F0 m pc ls (.int i :: .ref (b + k) :: rest)) :=
  va_aldq C.1 C.2.1 C.2.2.2.2.2.1 hH.1 k 4 (f := fun j => some (b + (x k j).toNatClampNeg)) ((mm_wat (mm_lt hk (by decide))).trans (by rw [mm_e10 hk])) rfl hin hdg kk
theorem mm_ald11 {i : Int32} (C : mm_C p m c cc nL s args Ts own G T b z) (hH : mm_H G T b x s H locs) (hk : mm_kd k = 11) (hin : ¬ (i < 0 ∨ 2 ≤ i.toNatClampNeg)) (hdg : decode cc pc = .ok (.aaload, 1))
    (kk : W p l e R s m args below meth c H locs cells slots Q (F0 m (pc + 1) ls (.ref (b + (127 + 15 * i.toNatClampNeg)) :: rest))) : W p l e R s m args below meth c H locs cells slots Q (F0 m pc ls (.int i :: .ref (b + k) :: rest)) :=
  va_aldq C.1 C.2.1 C.2.2.2.2.2.1 hH.1 k 4 (f := fun j => some (b + (127 + 15 * j))) ((mm_wat (mm_lt hk (by decide))).trans (by rw [mm_e11 hk])) rfl hin hdg kk
theorem mm_nIk {k : Nat} (h : k < 157) : (nI k).toNatClampNeg = k := nI_clamp (by omega)
theorem mm_ast10 {i : Int32} {q : Nat} (C : mm_C p m c cc nL s args Ts own G T b z) (hH : mm_H G T b x s H locs) (hk : mm_kd k = 10) (hq : mm_kd q = 3) (hin : ¬ (i < 0 ∨ 7 ≤ i.toNatClampNeg)) (hx1 : mm_up x k i.toNatClampNeg (nI q) = x1) (hdg : decode cc pc = .ok (.aastore, 1))
    (kk : ∀ (H1 : Heap) (locs1 : List Loc), mm_H G T b x1 s H1 locs1 → W p l e R s m args below meth c H1 locs1 cells slots Q (F0 m (pc + 1) ls rest)) : W p l e R s m args below meth c H locs cells slots Q (F0 m pc ls (.ref (b + q) :: .int i :: .ref (b + k) :: rest)) := by
  have hk5 := mm_lt hk (by decide)
  have hq5 := mm_lt hq (by decide)
  refine va_astq C.1 C.2.1 C.2.2.2.2.2.1 hH.1 (mm_wD T b x) hH.2 k 4 q 3 (r := (RX3, TX3, 7)) ((mm_wat hk5).trans (by rw [mm_e10 hk])) rfl ((mm_wat hq5).trans (by rw [mm_e3 hq])) rfl hin hdg (fun H1 locs1 hP _ hS => kk H1 locs1 ⟨?_, hS⟩)
  subst hx1
  refine (mm_wset hk5 ?_ (fun a ha => mm_up_ne ha)) ▸ hP
  rw [mm_e10 hk, mm_up_same]
  refine congrArg (fun f => (Sum.inl (T 4, 7, .inr (.inr (.inr (.inr f)))) : va_E)) (funext fun j => ?_)
  unfold va_up upd
  by_cases hj : j = i.toNatClampNeg
  · rw [if_pos hj, if_pos hj, mm_nIk hq5]
  · rw [if_neg hj, if_neg hj]
theorem mm_copy {k0 n0 n1 index : Nat} {sp dp n : Int32} (C : mm_C p m c cc nL s args Ts own G T b z) (hls : nL = ls.size) (hH : mm_H G T b x s H locs) (hk0 : mm_kd k0 = 6) (hk : mm_kd k = 6) (hn0 : mm_ln k0 = n0) (hn1 : mm_ln k = n1) (hlink : (Cond.methodLink own index arraycopyName).before args s = true) (hnat : (Cond.native arraycopyName).before args s = true) (hstat : (Cond.static arraycopyName).before args s = true) (hini : (Cond.initialized "java/lang/System").before args s = true)
    (h1 : ¬ sp < 0) (h2 : ¬ dp < 0) (h3 : ¬ n < 0) (h4 : sp.toNatClampNeg + n.toNatClampNeg ≤ n0) (h5 : dp.toNatClampNeg + n.toNatClampNeg ≤ n1)
    (hframes : 1 ≤ R.frames) (hlocals : (rest.map fun v => v.category).sum + (nativeFrameWords "java/lang/System" "arraycopy" 5 + 11) ≤ R.locals) (hx1 : mm_cy x k0 k sp.toNatClampNeg dp.toNatClampNeg n.toNatClampNeg = x1) (hdg : decode cc pc = .ok (.invokestatic index, 3))
    (kk : ∀ (H1 : Heap) (locs1 : List Loc), mm_H G T b x1 s H1 locs1 → W p l e R s m args below meth c H1 locs1 cells slots Q (F0 m (pc + 3) ls rest)) : W p l e R s m args below meth c H locs cells slots Q (F0 m pc ls (.int n :: .int dp :: .ref (b + k) :: .int sp :: .ref (b + k0) :: rest)) := by
  have hk5 := mm_lt hk (by decide)
  have hk05 := mm_lt hk0 (by decide)
  refine va_copyi C.1 C.2.1 (C.2.2.1.trans hls) C.2.2.2.1 hlink hnat hstat hini C.2.2.2.2.2.1 hH.1 (mm_wD T b x) hH.2 k0 k 0 0 ((mm_wat hk05).trans (by rw [mm_e6 hk0])) ((mm_wat hk5).trans (by rw [mm_e6 hk])) rfl rfl rfl h1 h2 h3 (by rw [hn0]; exact h4) (by rw [hn1]; exact h5) (fun _ _ => rfl) hframes hlocals hdg (fun H1 locs1 hP _ hS => kk H1 locs1 ⟨?_, hS⟩)
  subst hx1
  rwa [mm_wset hk5 (by rw [mm_e6 hk, mm_cy_same]) (fun a ha => mm_cy_ne ha)] at hP
theorem mm_minv {index : Nat} {u v : Int32} (C : mm_C p m c cc nL s args Ts own G T b z) (hls : nL = ls.size) (hlink : (Cond.methodLink own index Lib.Math.min.name).before args s = true) (hstat : (Cond.static Lib.Math.min.name).before args s = true) (hini : (Cond.initialized "java/lang/Math").before args s = true) (hcode : (Cond.code Lib.Math.min.name Lib.Math.min.code 2 (some .int)).before args s = true)
    (hframes : 1 ≤ R.frames) (hlocals : (rest.map fun v => v.category).sum + 13 ≤ R.locals) (hc : cells ≤ R.cells) (hs : slots ≤ R.slots) (hdg : decode cc pc = .ok (.invokestatic index, 3))
    (kk : W p l e R s m args below meth c H locs cells slots Q (F0 m (pc + 3) ls (.int (if v < u then v else u) :: rest))) : W p l e R s m args below meth c H locs cells slots Q (F0 m pc ls (.int v :: .int u :: rest)) :=
  va_mmin C.1 C.2.1 (C.2.2.1.trans hls) C.2.2.2.1 hlink hstat hini hcode hframes hlocals hc hs hdg kk
theorem mm_maxv {index : Nat} {u v : Int32} (C : mm_C p m c cc nL s args Ts own G T b z) (hls : nL = ls.size) (hlink : (Cond.methodLink own index Lib.Math.max.name).before args s = true) (hstat : (Cond.static Lib.Math.max.name).before args s = true) (hini : (Cond.initialized "java/lang/Math").before args s = true) (hcode : (Cond.code Lib.Math.max.name Lib.Math.max.code 2 (some .int)).before args s = true)
    (hframes : 1 ≤ R.frames) (hlocals : (rest.map fun v => v.category).sum + 13 ≤ R.locals) (hc : cells ≤ R.cells) (hs : slots ≤ R.slots) (hdg : decode cc pc = .ok (.invokestatic index, 3))
    (kk : W p l e R s m args below meth c H locs cells slots Q (F0 m (pc + 3) ls (.int (if u < v then v else u) :: rest))) : W p l e R s m args below meth c H locs cells slots Q (F0 m pc ls (.int v :: .int u :: rest)) :=
  va_mmax C.1 C.2.1 (C.2.2.1.trans hls) C.2.2.2.1 hlink hstat hini hcode hframes hlocals hc hs hdg kk
/-- a call's start: the cells as they are -/
theorem mm_pre (C : mm_C p m c cc nL s args Ts own G T b z) (hH : mm_H G T b x s H locs) {As : List Value} : ∀ U : State, U.heap = H → s.WarmedH U.vm → va_Pc As (mm_B G T b z x) As.toArray U := by
  intro U hU hW
  refine ⟨rfl, by rw [hU]; exact hH.1, va_K.moved hW.alike C.2.2.2.2.2.1, ?_, fun i hi => va_Nw.warmF hW (C.2.2.2.2.2.2.2 i hi)⟩
  have h1 : mm_Z b z U s.heap := mm_Z.moved hW.alike C.2.2.2.2.2.2.1
  exact h1.kept (fun a ha hb => by rw [hU]; exact hH.2.2.1 a ha (fun h => hb h.1))
theorem mm_gets {i index : Nat} (C : mm_C p m c cc nL s args Ts own G T b z) (ho : own = RX3) (hH : mm_H G T b x s H locs) (hi : i < 3) (hidx : mm_si i = index) (hdg : decode cc pc = .ok (.getstatic index, 3))
    (kk : W p l e R s m args below meth c H locs cells slots Q (F0 m (pc + 3) ls (.ref (z i) :: rest))) : W p l e R s m args below meth c H locs cells slots Q (F0 m pc ls rest) := by
  subst ho; subst hidx
  exact va_getsN C.1 C.2.1 ((C.2.2.2.2.2.2.1 i hi).1.narrow (fun _ h => h.1)) hH.2 C.2.2.2.1 (va_Nw.use rfl (C.2.2.2.2.2.2.2 i hi)) (fun _ h => h) hdg kk
theorem mm_sld {i : Nat} {j : Int32} (C : mm_C p m c cc nL s args Ts own G T b z) (hH : mm_H G T b x s H locs) (hi : i < 3) (hin : ¬ (j < 0 ∨ 7 ≤ j.toNatClampNeg)) (hdg : decode cc pc = .ok (.iaload, 1))
    (kk : W p l e R s m args below meth c H locs cells slots Q (F0 m (pc + 1) ls (.int (mm_st i j.toNatClampNeg) :: rest))) : W p l e R s m args below meth c H locs cells slots Q (F0 m pc ls (.int j :: .ref (z i) :: rest)) :=
  va_ti C.1 C.2.1 ((C.2.2.2.2.2.2.1 i hi).2.narrow (fun _ h => h.1)) hH.2 hin rfl hdg kk
theorem mm_recv {ci : Nat} {fs : List Value} {q : vw_C} (C : mm_C p m c cc nL s args Ts own G T b z) (hH : mm_H G T b x s H locs) (hk : k < 157) (he : mm_ent T b x k = .inr (ci, fs)) (hc : vwCl[ci]? = some q) : ∃ cell : Cell, H[b + k]? = some cell ∧ cell.vm.isStatics = false ∧ s.vm.findClass q.1 = some cell.cls :=
  va_recv C.2.2.2.2.2.1 hH.1 (q0 := k) hc ((mm_wat hk).trans (by rw [he]))
variable {y : MethodName} {ws : List Cond} {rm : Room} {bytes : ByteArray} {maxL n index : Nat} {ret : Option FieldType} {As st0 : List Value} {a : Array Value} {r : Int32}
theorem mm_goi (hH : mm_H G T b x s H locs) (hr : va_Run p l e R s m args below meth c H locs cells slots 0 0 (F0 m pc ls st0) rest (mm_Qi G T b r x1 a) (mm_A b))
    (kk : ∀ (H1 : Heap) (locs1 : List Loc), mm_H G T b x1 s H1 locs1 → W p l e R s m args below meth c H1 locs1 cells slots Q (F0 m (pc + 3) ls (.int r :: rest))) : W p l e R s m args below meth c H locs cells slots Q (F0 m pc ls st0) := by
  refine va_calli hr hH.2 (fun q _ h => h) (fun q h => h) (fun r' u t H1 locs1 ht _ hp hB _ _ hS => ?_)
  have hp : r' = r := hp
  subst hp; subst ht
  exact kk t.heap locs1 ⟨hB, hS⟩
theorem mm_gov (hH : mm_H G T b x s H locs) (hr : va_Run p l e R s m args below meth c H locs cells slots 0 0 (F0 m pc ls st0) rest (mm_Qv G T b x1 a) (mm_A b))
    (kk : ∀ (H1 : Heap) (locs1 : List Loc), mm_H G T b x1 s H1 locs1 → W p l e R s m args below meth c H1 locs1 cells slots Q (F0 m (pc + 3) ls rest)) : W p l e R s m args below meth c H locs cells slots Q (F0 m pc ls st0) := by
  refine va_callv hr hH.2 (fun q _ h => h) (fun q h => h) (fun u t H1 locs1 ht _ _ hB _ _ hS => ?_)
  subst ht
  exact kk t.heap locs1 ⟨hB, hS⟩
theorem mm_goe {r : Option Nat} (hH : mm_H G T b x s H locs) (hr : va_Run p l e R s m args below meth c H locs cells slots 0 0 (F0 m pc ls st0) rest (mm_Qe G T b r x1 a) (mm_A b))
    (kk : ∀ (H1 : Heap) (locs1 : List Loc), mm_H G T b x1 s H1 locs1 → W p l e R s m args below meth c H1 locs1 cells slots Q (F0 m (pc + 3) ls (va_re (fun k => b + k) r :: rest))) : W p l e R s m args below meth c H locs cells slots Q (F0 m pc ls st0) := by
  refine va_calle hr hH.2 (fun q _ h => h) (fun q h => h) (fun r' u t H1 locs1 ht _ hp hB _ _ hS => ?_)
  have hp : r' = r := hp
  subst hp; subst ht
  exact kk t.heap locs1 ⟨hB, hS⟩
theorem mm_iret {rt : FieldType} {v : Int32} {av : Array Value} (C : mm_C p m c cc nL s av Ts own G T b z) (hH : mm_H G T b x s H locs) (hr : meth.sig.returnType = some rt) (hlk : meth.locks = false) (hn : narrow rt (.int v) = .int v) (h : (some (x, v) : Option (mm_M × Int32)) = some (x1, r)) (hdg : decode cc pc = .ok (.ireturn, 1)) :
    W p l e R s m av below meth c H locs cells slots (MQ below (mm_Qi G T b r x1) av s cells slots (mm_A b)) (F0 m pc ls [.int v]) := by
  have e := Option.some.inj h
  have e1 : x = x1 := congrArg Prod.fst e
  have e2 : v = r := congrArg Prod.snd e
  subst e1; subst e2
  exact W.zret C.1 C.2.1 hr hn (fun t ht _ => ⟨⟨v, (), rfl, rfl, by subst ht; exact hH.1⟩, hH.2.F ht⟩) hH.2.2.2 hdg hlk
theorem mm_vret {av : Array Value} (C : mm_C p m c cc nL s av Ts own G T b z) (hH : mm_H G T b x s H locs) (hr : meth.sig.returnType = none) (hlk : meth.locks = false) (h : (some x : Option mm_M) = some x1) (hdg : decode cc pc = .ok (.return_, 1)) :
    W p l e R s m av below meth c H locs cells slots (MQ below (mm_Qv G T b x1) av s cells slots (mm_A b)) (F0 m pc ls []) := by
  have e1 := Option.some.inj h
  subst e1
  exact W.vret C.1 C.2.1 hr (fun t ht _ => ⟨⟨(), rfl, trivial, by subst ht; exact hH.1⟩, hH.2.F ht⟩) hH.2.2.2 hdg hlk
theorem mm_eret {rt : FieldType} {o : Option Nat} {r : Option Nat} {v : Value} {av : Array Value} (C : mm_C p m c cc nL s av Ts own G T b z) (hH : mm_H G T b x s H locs) (hr : meth.sig.returnType = some rt) (hrt : (∃ n, rt = .object n) ∨ ∃ t, rt = .array t) (hlk : meth.locks = false) (hv : v = va_re (fun k => b + k) o) (h : (some (x, o) : Option (mm_M × Option Nat)) = some (x1, r)) (hdg : decode cc pc = .ok (.areturn, 1)) :
    W p l e R s m av below meth c H locs cells slots (MQ below (mm_Qe G T b r x1) av s cells slots (mm_A b)) (F0 m pc ls [v]) := by
  have e := Option.some.inj h
  have e1 : x = x1 := congrArg Prod.fst e
  have e2 : o = r := congrArg Prod.snd e
  subst e1; subst e2; subst hv
  exact W.aret C.1 C.2.1 hr hrt (va_re_or _ _) (fun t ht _ => ⟨⟨o, (), rfl, rfl, by subst ht; exact hH.1⟩, hH.2.F ht⟩) hH.2.2.2 hdg hlk
end MMW
section MMS
variable {l : Launch} {y : MethodName} {ws ws' : List Cond} {rm : Room} {cc : ByteArray} {maxL : Nat} {rt : FieldType} {av : List Value} {x x1 : mm_M} {G : va_G} {T : Nat → ClassId} {b : Nat} {z : Nat → Nat}
theorem mm_start {ret : Option FieldType} {Qc : Array Value → State → Outcome → State → Prop} (hy : plainName y.cls = true) (hw : ws = .code y cc maxL ret :: ws') (hav : (lg_sl av).length ≤ maxL)
    (body : ∀ (p : Program) (e : Env) (s : State) (m : MethodId) (below : List Frame) (meth : Method) (c : Code) (ls : Array Slot), mm_C p m c cc maxL s av.toArray ws y.cls G T b z → meth.sig.returnType = ret → meth.locks = false → mm_H G T b x s s.heap [] → lv_has ls maxL (lv_args 0 av) → W p l e rm s m av.toArray below meth c s.heap [] 0 0 (MQ below Qc av.toArray s 0 0 (mm_A b)) (F0 m 0 ls [])) :
    Met l y ws rm (va_Pc av (mm_B G T b z x)) Qc 0 0 (mm_A b) := by
  refine Met.ofW (cc := cc) (maxL := maxL) (ret := ret) hy hw ?_
  intro p e s m args below meth c s₁ B hml hv
  obtain ⟨rfl, hP, hK, hZ, hN⟩ := hv
  have hts := atoms_spec (ws := ws) B.pre
  have hown : s.vm.findClass y.cls = some m.cls := findClass_of_methodNamed B.named
  rw [lg_entry_eq]
  exact body p e s m below meth c _ ⟨B.exec, B.bytes, hml, hown, hts, hK, hZ, hN⟩ B.returns B.notSynchronized ⟨hP, va_S.rf⟩ (lv_entry av hav)
end MMS
