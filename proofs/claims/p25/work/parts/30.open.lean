/-! THE GROWING WORLD of the constructors: n cells at b, b + 1 ..; cell k holds f k -/
def mm_v (b n : Nat) (f : Nat → va_E) : va_W := (List.range n).map fun k => (b + k, f k)
theorem mm_vat {b n : Nat} {f : Nat → va_E} {k : Nat} (hk : k < n) : (mm_v b n f)[k]? = some (b + k, f k) := by simp [mm_v, hk]
theorem mm_vat' {b n : Nat} {f : Nat → va_E} {k : Nat} {q : Nat × va_E} (h : (mm_v b n f)[k]? = some q) : k < n ∧ q = (b + k, f k) := by
  have hl := (List.getElem?_eq_some_iff.mp h).1
  have hk : k < n := by simpa [mm_v] using hl
  rw [mm_vat hk] at h
  exact ⟨hk, (Option.some.inj h).symm⟩
theorem mm_vD (b n : Nat) (f : Nat → va_E) : va_D (fun q => b ≤ q) (mm_v b n f) := by
  refine ⟨fun i j p q hi hj h => ?_, fun k q hk => ?_⟩
  · obtain ⟨-, rfl⟩ := mm_vat' hi
    obtain ⟨-, rfl⟩ := mm_vat' hj
    have h' : b + i = b + j := h
    omega
  · obtain ⟨-, rfl⟩ := mm_vat' hk
    exact Nat.le_add_right _ _
theorem mm_ups {f f' : Nat → va_E} {k : Nat} {v : va_E} (h : va_up f k v = f') : f' k = v := by subst h; exact if_pos rfl
theorem mm_upn {f f' : Nat → va_E} {k j : Nat} {v : va_E} (h : va_up f k v = f') (hj : j ≠ k) : f' j = f j := by subst h; exact if_neg hj
theorem mm_vset {b n : Nat} {f f' : Nat → va_E} {k : Nat} {e : va_E} (hk : k < n) (hf : va_up f k e = f') : (mm_v b n f).set k (b + k, e) = mm_v b n f' := by
  apply List.ext_getElem?
  intro i
  by_cases hi : i < n
  · by_cases hik : i = k
    · subst hik
      rw [List.getElem?_set_self (by simpa [mm_v] using hi), mm_vat hi, mm_ups hf]
    · rw [List.getElem?_set_ne (fun q => hik q.symm), mm_vat hi, mm_vat hi, mm_upn hf hik]
  · rw [List.getElem?_eq_none (by simp [mm_v]; omega), List.getElem?_eq_none (by simp [mm_v]; omega)]
theorem mm_w_v (T : Nat → ClassId) (b : Nat) (x : mm_M) : mm_w T b x = mm_v b 157 (mm_ent T b x) := rfl
theorem mm_Pat {G : va_G} {b n : Nat} {f : Nat → va_E} {H : Heap} (h : va_P G vwCl (mm_v b n f) H) {k : Nat} (hk : k < n) : va_at G vwCl (b + k, f k) H := h k _ (mm_vat hk)
theorem mm_Pof {G : va_G} {b n : Nat} {f : Nat → va_E} {H : Heap} (h : ∀ k, k < n → va_at G vwCl (b + k, f k) H) : va_P G vwCl (mm_v b n f) H := by
  intro k q hq
  obtain ⟨hk, rfl⟩ := mm_vat' hq
  exact h k hk
/-- an array's cell says what it holds below its length alone -/
theorem mm_atq {G : va_G} {a : Nat} {cA : ClassId} {n : Nat} {f g : Nat → Option Nat} {H : Heap} (h : va_at G vwCl (a, .inl (cA, n, .inr (.inr (.inr (.inr f))))) H) (hfg : ∀ j, j < n → f j = g j) : va_at G vwCl (a, .inl (cA, n, .inr (.inr (.inr (.inr g))))) H := by
  have h1 : H[a]? = some (arrV cA n (fun j => va_rf (f j))) := h
  show H[a]? = some (arrV cA n (fun j => va_rf (g j)))
  rw [h1]
  refine congrArg some ?_
  unfold arrV
  refine congrArg (fun w => ({ cls := cA, slots := w, vm := .none } : Cell)) ?_
  apply Array.ext
  · simp
  · intro i h1 h2
    have hi : i < n := by simpa using h1
    simp [hfg i hi]
def mm_F (T : Nat → ClassId) (b : Nat) (z : Nat → Nat) (H : Heap) : Prop := z 2 < b ∧ ∃ cell : Cell, H[z 2]? = some cell ∧ cell.cls = T 0 ∧ (∀ k, cell.vm ≠ .statics k) ∧ cell.vm ≠ .unknown ∧ cell.slots.size = 7 ∧ ∀ j, j < 7 → cell.slots[j]? = some (.int (mm_st 2 j))
def mm_N2 (U : State) : Prop := va_Nw (.methodLinkNest RX4 33 yX2_init RX4) U ∧ va_Nw (.methodLinkNest RX4 40 yX1_init RX4) U ∧ va_Nw (.methodLinkNest RX3 44 yX0_init RX4) U ∧ va_Nw (.methodLinkNest RX3 49 yX1_init RX4) U ∧ va_Nw (.castable "[I" "java/lang/Cloneable") U ∧ va_AO RX1 U ∧ va_AO RX3 U
/-- what stands through a constructor's walk -/
def mm_E (p : Program) (m : MethodId) (c : Code) (cc : ByteArray) (nL : Nat) (s : State) (args : Array Value) (Ts : List Cond) (own : String) (G : va_G) (T : Nat → ClassId) (b : Nat) (z : Nat → Nat) (n0 : Nat) : Prop := mm_C p m c cc nL s args Ts own G T b z ∧ mm_F T b z s.heap ∧ mm_N2 s ∧ s.heap.size = b + n0
def mm_O (G : va_G) (b n : Nat) (f : Nat → va_E) (s : State) (H : Heap) (locs : List Loc) : Prop := va_P G vwCl (mm_v b n f) H ∧ va_S (fun q => b ≤ q) s.heap H locs
def mm_Bo (G : va_G) (T : Nat → ClassId) (b : Nat) (z : Nat → Nat) (n : Nat) (f : Nat → va_E) (U : State) : Prop := U.heap.size = b + n ∧ va_P G vwCl (mm_v b n f) U.heap ∧ va_K G vwCl (mm_T T) U ∧ mm_Z b z U U.heap ∧ mm_N U ∧ mm_F T b z U.heap ∧ mm_N2 U
def mm_Qo (G : va_G) (b n1 : Nat) (f1 : Nat → va_E) : Array Value → State → Outcome → State → Prop := va_Qv (fun (_ : Unit) => True) (fun _ t => t.heap.size = b + n1 ∧ va_P G vwCl (mm_v b n1 f1) t.heap) (fun q => b ≤ q)
def mm_Co (l : Launch) (y : MethodName) (ws : List Cond) (rm : Room) (G : va_G) (T : Nat → ClassId) (b : Nat) (z : Nat → Nat) (av : List Value) (n : Nat) (f : Nat → va_E) (n1 : Nat) (f1 : Nat → va_E) (mc ms : Nat) : Prop := Met l y ws rm (va_Pc av (mm_Bo G T b z n f)) (mm_Qo G b n1 f1) mc ms (fun q => b ≤ q)
theorem mm_N2.same {u U : State} (h : u.vm = U.vm) (q : mm_N2 u) : mm_N2 U := ⟨va_Nw.same rfl h q.1, va_Nw.same rfl h q.2.1, va_Nw.same rfl h q.2.2.1, va_Nw.same rfl h q.2.2.2.1, va_Nw.same rfl h q.2.2.2.2.1, va_AO.moved (by rw [h]; exact Vm.Alike.refl _) q.2.2.2.2.2.1, va_AO.moved (by rw [h]; exact Vm.Alike.refl _) q.2.2.2.2.2.2⟩
theorem mm_N2.warm {s U : State} (hW : s.WarmedH U.vm) (q : mm_N2 s) : mm_N2 U := ⟨va_Nw.warmM hW q.1, va_Nw.warmM hW q.2.1, va_Nw.warmM hW q.2.2.1, va_Nw.warmM hW q.2.2.2.1, va_Nw.warmC hW q.2.2.2.2.1, va_AO.moved hW.alike q.2.2.2.2.2.1, va_AO.moved hW.alike q.2.2.2.2.2.2⟩
theorem mm_Bo.blind {G : va_G} {T : Nat → ClassId} {b n : Nat} {z : Nat → Nat} {f : Nat → va_E} {av : List Value} : FrameBlind (va_Pc av (mm_Bo G T b z n f)) := by
  intro a U g mk q
  obtain ⟨q0, qs, qP, qK, qZ, qN, qF, q2⟩ := q
  exact ⟨q0, qs, qP, va_K.moved (u := U) (U := U.calling g mk a) (Vm.Alike.refl U.vm) qK, mm_Z.moved (u := U) (U := U.calling g mk a) (Vm.Alike.refl U.vm) qZ, fun i hi => va_Nw.same (u := U) (U := U.calling g mk a) rfl rfl (qN i hi), qF, mm_N2.same (u := U) (U := U.calling g mk a) rfl q2⟩
section MMO
variable {p : Program} {l : Launch} {e : Env} {R : Room} {s : State} {m : MethodId} {args : Array Value} {below : List Frame} {meth : Method} {c : Code} {H : Heap} {locs : List Loc} {cells slots : Nat} {Q : State → Prop}
variable {cc : ByteArray} {pc nL : Nat} {ls : Array Slot} {rest : List Value} {Ts : List Cond} {own : String} {G : va_G} {T : Nat → ClassId} {b n n0 : Nat} {z : Nat → Nat} {f f1 : Nat → va_E} {k : Nat}
theorem mo_A (E : mm_E p m c cc nL s args Ts own G T b z n0) : ∀ q, s.heap.size ≤ q → (fun q : Nat => b ≤ q) q := fun q h => by
  have := E.2.2.2
  show b ≤ q
  omega
theorem mo_low (hO : mm_O G b n f s H locs) (h0 : b ≤ H.size) : b + n ≤ H.size := by
  cases n with
  | zero => exact h0
  | succ n => exact (mm_Pat hO.1 (Nat.lt_succ_self n)).lt
theorem mo_sz {g : JFrame} (E : mm_E p m c cc nL s args Ts own G T b z n0) (hO : mm_O G b n f s H locs) (hn : n0 + cells = n) (kk : H.size = b + n → W p l e R s m args below meth c H locs cells slots Q g) : W p l e R s m args below meth c H locs cells slots Q g := by
  intro Tt hT X
  have h1 := X.heapSize
  rw [hT] at h1
  have h2 := E.2.2.2
  have h3 := mo_low hO (by have := hO.2.1; omega)
  exact kk (by omega) Tt hT X
theorem mo_get {Cn : String} {Tn : u_T} {N ci j index : Nat} {fs : List Value} {v : Value} {nm ds : String} (E : mm_E p m c cc nL s args Ts own G T b z n0) (hO : mm_O G b n f s H locs) (hin : ∀ w ∈ u_ws Cn Tn N, w ∈ Ts) (hc : vwCl[ci]? = some (Cn, Tn, N)) (hk : k < n) (he : f k = .inr (ci, fs)) (hj : j < N) (hT : Tn j = (Cn, nm, ds, (Tn j).2.2.2))
    (hlink : (Cond.fieldLink own index Cn nm ds).before args s = true) (hv : fs[j]? = some v) (hdg : decode cc pc = .ok (.getfield index, 3))
    (kk : W p l e R s m args below meth c H locs cells slots Q (F0 m (pc + 3) ls (v :: rest))) : W p l e R s m args below meth c H locs cells slots Q (F0 m pc ls (.ref (b + k) :: rest)) := by
  obtain ⟨⟨hx, hb, -, hown, hts, hK, -⟩, -⟩ := E
  have h1 : (Tn j).1 = Cn := by rw [hT]
  have h2 : (Tn j).2.1 = nm := by rw [hT]
  have h3 : (Tn j).2.2.1 = ds := by rw [hT]
  exact va_get hx hb hts hin hown hK hO.1 k (ref := Cn) ((mm_vat hk).trans (by rw [he])) hc j hj (by rw [h2, h3]; exact hlink) (fun y hy => by rw [h1] at hy; exact hy) hv hdg kk
theorem mo_put {Cn : String} {Tn : u_T} {N ci j index : Nat} {fs : List Value} {v : Value} {nm ds : String} {ty : FieldType} {ty0 : Nat → FieldType} (E : mm_E p m c cc nL s args Ts own G T b z n0) (hO : mm_O G b n f s H locs) (hin : ∀ w ∈ u_ws Cn Tn N, w ∈ Ts) (hty : ∀ k, k < N → parseFieldDescriptor (Tn k).2.2.1 = some (ty0 k)) (hnm : ∀ a, a < N → ∀ b, b < N → a ≠ b → (Tn a).2.1 ≠ (Tn b).2.1) (hc : vwCl[ci]? = some (Cn, Tn, N)) (hk : k < n) (he : f k = .inr (ci, fs)) (hj : j < N) (hT : Tn j = (Cn, nm, ds, false))
    (hlink : (Cond.fieldLink own index Cn nm ds).before args s = true) (hd : parseFieldDescriptor ds = some ty) (hn : narrow ty v = v) (hfit : fits ty v = true) (hl : j < fs.length) (hf : va_up f k (.inr (ci, fs.set j v)) = f1) (hdg : decode cc pc = .ok (.putfield index, 3))
    (kk : ∀ (H1 : Heap) (locs1 : List Loc), mm_O G b n f1 s H1 locs1 → W p l e R s m args below meth c H1 locs1 cells slots Q (F0 m (pc + 3) ls rest)) : W p l e R s m args below meth c H locs cells slots Q (F0 m pc ls (v :: .ref (b + k) :: rest)) := by
  obtain ⟨⟨hx, hb, -, hown, hts, hK, -⟩, -⟩ := E
  have h1 : (Tn j).1 = Cn := by rw [hT]
  have h2 : (Tn j).2.1 = nm := by rw [hT]
  have h3 : (Tn j).2.2.1 = ds := by rw [hT]
  have h4 : (Tn j).2.2.2 = false := by rw [hT]
  refine va_put hx hb hts hin ty0 hty hnm hown hK hO.1 (mm_vD b n f) hO.2 k (ref := Cn) ((mm_vat hk).trans (by rw [he])) hc j hj (by rw [h2, h3]; exact hlink) (fun y hy => by rw [h1] at hy; exact hy) h4 (by rw [h3]; exact hd) hn hfit hl hdg (fun H1 locs1 hP _ hS => kk H1 locs1 ⟨?_, hS⟩)
  rwa [mm_vset hk hf] at hP
theorem mo_putF {Cn : String} {Tn : u_T} {N ci j index : Nat} {fs : List Value} {v : Value} {nm ds : String} {ty : FieldType} {ty0 : Nat → FieldType} (E : mm_E p m c cc nL s args Ts own G T b z n0) (hO : mm_O G b n f s H locs) (hi : meth.name = "<init>") (ho : Cn = own) (hin : ∀ w ∈ u_ws Cn Tn N, w ∈ Ts) (hty : ∀ k, k < N → parseFieldDescriptor (Tn k).2.2.1 = some (ty0 k)) (hnm : ∀ a, a < N → ∀ b, b < N → a ≠ b → (Tn a).2.1 ≠ (Tn b).2.1) (hc : vwCl[ci]? = some (Cn, Tn, N)) (hk : k < n) (he : f k = .inr (ci, fs)) (hj : j < N) (hT : Tn j = (Cn, nm, ds, true))
    (hlink : (Cond.fieldLink own index Cn nm ds).before args s = true) (hd : parseFieldDescriptor ds = some ty) (hn : narrow ty v = v) (hfit : fits ty v = true) (hl : j < fs.length) (hf : va_up f k (.inr (ci, fs.set j v)) = f1) (hdg : decode cc pc = .ok (.putfield index, 3))
    (kk : ∀ (H1 : Heap) (locs1 : List Loc), mm_O G b n f1 s H1 locs1 → W p l e R s m args below meth c H1 locs1 cells slots Q (F0 m (pc + 3) ls rest)) : W p l e R s m args below meth c H locs cells slots Q (F0 m pc ls (v :: .ref (b + k) :: rest)) := by
  obtain ⟨⟨hx, hb, -, hown, hts, hK, -⟩, -⟩ := E
  have h1 : (Tn j).1 = Cn := by rw [hT]
  have h2 : (Tn j).2.1 = nm := by rw [hT]
  have h3 : (Tn j).2.2.1 = ds := by rw [hT]
  have h4 : (Tn j).2.2.2 = true := by rw [hT]
  refine va_putF hx hb hts hin ty0 hty hnm hown hK hO.1 (mm_vD b n f) hO.2 k (ref := Cn) ((mm_vat hk).trans (by rw [he])) hc j hj (by rw [h2, h3]; exact hlink) (fun y hy => by rw [h1] at hy; exact hy) h4 hi (h1.trans ho) (by rw [h3]; exact hd) hn hfit hl hdg (fun H1 locs1 hP _ hS => kk H1 locs1 ⟨?_, hS⟩)
  rwa [mm_vset hk hf] at hP
/-- the new cell's place: the next one -/
theorem mo_next {q : Nat} {H1 : Heap} {x : va_E} (E : mm_E p m c cc nL s args Ts own G T b z n0) (hn : n0 + cells = n) (hP : va_P G vwCl (mm_v b n f ++ [(q, x)]) H1) (hD : va_D (fun q => b ≤ q) (mm_v b n f ++ [(q, x)])) (hs : H1.size ≤ s.heap.size + (cells + 1)) : q = b + n := by
  have h2 := E.2.2.2
  have hl : (mm_v b n f).length = n := by simp [mm_v]
  have hq : (mm_v b n f ++ [(q, x)])[n]? = some (q, x) := by rw [List.getElem?_append_right (by omega), hl, Nat.sub_self]; rfl
  have h3 : q < H1.size := (hP n _ hq).lt
  have h4 : b ≤ q := hD.2 n _ hq
  rcases Nat.lt_or_ge q (b + n) with h5 | h5
  · have h6 : (mm_v b n f ++ [(q, x)])[q - b]? = some (b + (q - b), f (q - b)) := by
      rw [List.getElem?_append_left (by omega)]
      exact mm_vat (by omega)
    have h7 := hD.1 n (q - b) _ _ hq h6 (show q = b + (q - b) by omega)
    omega
  · omega
theorem mm_vpush {b n : Nat} {f f1 : Nat → va_E} {x : va_E} (hf : va_up f n x = f1) : mm_v b n f ++ [(b + n, x)] = mm_v b (n + 1) f1 := by
  apply List.ext_getElem?
  intro i
  have hl : (mm_v b n f).length = n := by simp [mm_v]
  rcases Nat.lt_trichotomy i n with h | h | h
  · rw [List.getElem?_append_left (by omega), mm_vat h, mm_vat (by omega), mm_upn hf (by omega)]
  · subst h
    rw [List.getElem?_append_right (by omega), hl, Nat.sub_self, mm_vat (by omega), mm_ups hf]; rfl
  · rw [List.getElem?_eq_none (by simp [mm_v]; omega), List.getElem?_eq_none (by simp [mm_v]; omega)]
theorem mo_sz' {H1 : Heap} {g : JFrame} (kk : H1.size ≤ s.heap.size + cells → W p l e R s m args below meth c H1 locs cells slots Q g) : W p l e R s m args below meth c H1 locs cells slots Q g := by
  intro Tt hT X
  have h1 := X.heapSize
  rw [hT] at h1
  exact kk h1 Tt hT X
theorem mo_new {Cn : String} {Tn : u_T} {N ci index : Nat} {fs : List Value} {ty0 : Nat → FieldType} (E : mm_E p m c cc nL s args Ts own G T b z n0) (hO : mm_O G b n f s H locs) (hn : n0 + cells = n) (hin : ∀ w ∈ u_ws Cn Tn N, w ∈ Ts) (hty : ∀ k, k < N → parseFieldDescriptor (Tn k).2.2.1 = some (ty0 k)) (hc : vwCl[ci]? = some (Cn, Tn, N))
    (hcl : (Cond.classLink own index Cn).before args s = true) (hinst : (Cond.instantiable Cn N).before args s = true) (hini : (Cond.initialized Cn).before args s = true) (hfs : ∀ j, j < N → defaultValue (ty0 j) = vp_V fs j) (hcells : cells + 1 ≤ R.cells) (hslots : slots + N ≤ R.slots) (hf : va_up f n (.inr (ci, fs)) = f1) (hdg : decode cc pc = .ok (.new index, 3))
    (kk : ∀ (H1 : Heap), mm_O G b (n + 1) f1 s H1 locs → W p l e R s m args below meth c H1 locs (cells + 1) (slots + N) Q (F0 m (pc + 3) ls (.ref (b + n) :: rest))) : W p l e R s m args below meth c H locs cells slots Q (F0 m pc ls rest) := by
  refine va_new E.1.1 E.1.2.1 E.1.2.2.2.2.1 hin ty0 hty E.1.2.2.2.1 hcl hinst hini E.1.2.2.2.2.2.1 hO.1 (mm_vD b n f) hO.2 (mo_A E) hc hfs hcells hslots hdg (fun q H1 hP hD hS => ?_)
  refine mo_sz' (fun hs => ?_)
  have hq := mo_next E hn hP hD hs
  subst hq
  rw [mm_vpush hf] at hP
  exact kk H1 ⟨hP, hS⟩
/-- which class an array of a type is -/
theorem mo_cls {cA : ClassId} {ty : FieldType} {t0 : Nat} (hK : va_K G vwCl (mm_T T) s) (ht : (mm_T T)[t0]? = some (T t0, ty)) (hK2 : va_K G vwCl (mm_T T ++ [(cA, ty)]) s) : cA = T t0 := by
  have h1 := (hK.2 t0 _ ht).2
  have h2 := (hK2.2 5 (cA, ty) rfl).2
  cases ty with
  | object C =>
    obtain ⟨_, _, -, -, -, h3⟩ := h1
    obtain ⟨_, _, -, -, -, h4⟩ := h2
    exact Option.some.inj (h4.symm.trans h3)
  | _ => exact Option.some.inj (h2.symm.trans h1)
theorem mo_newa {atype : ArrayType} {ty : FieldType} {N' : Nat} {nn : Int32} {a0 : vp_A} (t0 : Nat) (E : mm_E p m c cc nL s args Ts own G T b z n0) (hO : mm_O G b n f s H locs) (hn : n0 + cells = n) (harr : (Cond.arrayClass (newarray.typeOf atype)).before args s = true) (hty : newarray.typeOf atype = ty) (ht : (mm_T T)[t0]? = some (T t0, ty))
    (ha : ∀ cA : ClassId, vp_cell cA a0 = arrV cA N' (fun _ => defaultValue ty)) (h0 : ¬ nn < 0) (hN : nn.toNatClampNeg = N') (hbytes : N' * componentBytes ty ≤ 536870912) (hcells : cells + 1 ≤ R.cells) (hslots : slots + N' ≤ R.slots) (hf : va_up f n (.inl (T t0, a0)) = f1) (hdg : decode cc pc = .ok (.newarray atype, 2))
    (kk : ∀ (H1 : Heap), mm_O G b (n + 1) f1 s H1 locs → W p l e R s m args below meth c H1 locs (cells + 1) (slots + N') Q (F0 m (pc + 2) ls (.ref (b + n) :: rest))) : W p l e R s m args below meth c H locs cells slots Q (F0 m pc ls (.int nn :: rest)) := by
  refine va_newa E.1.1 E.1.2.1 harr hty E.1.2.2.2.2.2.1 hO.1 (mm_vD b n f) hO.2 (mo_A E) ha h0 hN hbytes hcells hslots hdg (fun q cA H1 hK2 hP hD hS => ?_)
  refine mo_sz' (fun hs => ?_)
  have hq := mo_next E hn hP hD hs
  have hcA := mo_cls (t0 := t0) E.1.2.2.2.2.2.1 ht hK2
  subst hq; subst hcA
  rw [mm_vpush hf] at hP
  exact kk H1 ⟨hP, hS⟩
theorem mo_newq {C : String} {index N' : Nat} {nn : Int32} (t0 : Nat) (E : mm_E p m c cc nL s args Ts own G T b z n0) (hO : mm_O G b n f s H locs) (hn : n0 + cells = n) (hclink : (Cond.classLink own index C).before args s = true) (hover : va_AO C s) (ht : (mm_T T)[t0]? = some (T t0, .object C))
    (h0 : ¬ nn < 0) (hN : nn.toNatClampNeg = N') (hbytes : N' * 4 ≤ 536870912) (hcells : cells + 1 ≤ R.cells) (hslots : slots + N' ≤ R.slots) (hf : va_up f n (.inl (T t0, N', .inr (.inr (.inr (.inr (fun _ => none)))))) = f1) (hdg : decode cc pc = .ok (.anewarray index, 3))
    (kk : ∀ (H1 : Heap), mm_O G b (n + 1) f1 s H1 locs → W p l e R s m args below meth c H1 locs (cells + 1) (slots + N') Q (F0 m (pc + 3) ls (.ref (b + n) :: rest))) : W p l e R s m args below meth c H locs cells slots Q (F0 m pc ls (.int nn :: rest)) := by
  refine va_newq E.1.1 E.1.2.1 E.1.2.2.2.1 hclink hover E.1.2.2.2.2.2.1 hO.1 (mm_vD b n f) hO.2 (mo_A E) h0 hN hbytes hcells hslots hdg (fun q cA H1 hK2 hP hD hS => ?_)
  refine mo_sz' (fun hs => ?_)
  have hq := mo_next E hn hP hD hs
  have hcA := mo_cls (t0 := t0) E.1.2.2.2.2.2.1 ht hK2
  subst hq; subst hcA
  rw [mm_vpush hf] at hP
  exact kk H1 ⟨hP, hS⟩
theorem mo_alen {cA : ClassId} {y : vp_A} {ty : FieldType} {v : Int32} (E : mm_E p m c cc nL s args Ts own G T b z n0) (hO : mm_O G b n f s H locs) (hk : k < n) (he : f k = .inl (cA, y)) (t0 : Nat) (ht : (mm_T T)[t0]? = some (cA, ty)) (hv : Int32.ofNat y.1 = v) (hdg : decode cc pc = .ok (.arraylength, 1))
    (kk : W p l e R s m args below meth c H locs cells slots Q (F0 m (pc + 1) ls (.int v :: rest))) : W p l e R s m args below meth c H locs cells slots Q (F0 m pc ls (.ref (b + k) :: rest)) :=
  va_alen E.1.1 E.1.2.1 E.1.2.2.2.2.2.1 hO.1 k t0 ((mm_vat hk).trans (by rw [he])) ht hv hdg kk
theorem mo_aast {N ci q : Nat} {r : vw_C} {vs : List Value} {g : Nat → Option Nat} {i : Int32} {jn : Nat} (t0 : Nat) (E : mm_E p m c cc nL s args Ts own G T b z n0) (hO : mm_O G b n f s H locs) (hk : k < n) (he : f k = .inl (T t0, N, .inr (.inr (.inr (.inr g))))) (ht : (mm_T T)[t0]? = some (T t0, .object r.1)) (hq : q < n) (hv : f q = .inr (ci, vs)) (hc : vwCl[ci]? = some r) (hin : ¬ (i < 0 ∨ N ≤ i.toNatClampNeg)) (hj : i.toNatClampNeg = jn)
    (hf : va_up f k (.inl (T t0, N, .inr (.inr (.inr (.inr (va_up g jn (some (b + q)))))))) = f1) (hdg : decode cc pc = .ok (.aastore, 1))
    (kk : ∀ (H1 : Heap) (locs1 : List Loc), mm_O G b n f1 s H1 locs1 → W p l e R s m args below meth c H1 locs1 cells slots Q (F0 m (pc + 1) ls rest)) : W p l e R s m args below meth c H locs cells slots Q (F0 m pc ls (.ref (b + q) :: .int i :: .ref (b + k) :: rest)) := by
  subst hj
  refine va_astq E.1.1 E.1.2.1 E.1.2.2.2.2.2.1 hO.1 (mm_vD b n f) hO.2 k t0 q ci ((mm_vat hk).trans (by rw [he])) ht ((mm_vat hq).trans (by rw [hv])) hc hin hdg (fun H1 locs1 hP _ hS => kk H1 locs1 ⟨?_, hS⟩)
  rwa [mm_vset hk hf] at hP
theorem mo_iast {N : Nat} {g : Nat → Int32} {i v : Int32} {jn : Nat} (E : mm_E p m c cc nL s args Ts own G T b z n0) (hO : mm_O G b n f s H locs) (hk : k < n) (he : f k = .inl (T 0, N, .inl g)) (hin : ¬ (i < 0 ∨ N ≤ i.toNatClampNeg)) (hj : i.toNatClampNeg = jn)
    (hf : va_up f k (.inl (T 0, N, .inl (upd g jn v))) = f1) (hdg : decode cc pc = .ok (.iastore, 1))
    (kk : ∀ (H1 : Heap) (locs1 : List Loc), mm_O G b n f1 s H1 locs1 → W p l e R s m args below meth c H1 locs1 cells slots Q (F0 m (pc + 1) ls rest)) : W p l e R s m args below meth c H locs cells slots Q (F0 m pc ls (.int v :: .int i :: .ref (b + k) :: rest)) := by
  subst hj
  refine va_iast E.1.1 E.1.2.1 E.1.2.2.2.2.2.1 hO.1 (mm_vD b n f) hO.2 k 0 ((mm_vat hk).trans (by rw [he])) rfl hin hdg (fun H1 locs1 hP _ hS => kk H1 locs1 ⟨?_, hS⟩)
  rwa [mm_vset hk hf] at hP
theorem mo_gets {i index : Nat} (E : mm_E p m c cc nL s args Ts own G T b z n0) (ho : own = RX3) (hO : mm_O G b n f s H locs) (hi : i < 3) (hidx : mm_si i = index) (hdg : decode cc pc = .ok (.getstatic index, 3))
    (kk : W p l e R s m args below meth c H locs cells slots Q (F0 m (pc + 3) ls (.ref (z i) :: rest))) : W p l e R s m args below meth c H locs cells slots Q (F0 m pc ls rest) := by
  subst ho; subst hidx
  exact va_getsN E.1.1 E.1.2.1 (E.1.2.2.2.2.2.2.1 i hi).1 hO.2 E.1.2.2.2.1 (va_Nw.use rfl (E.1.2.2.2.2.2.2.2 i hi)) (fun _ h => h) hdg kk
theorem mo_F (E : mm_E p m c cc nL s args Ts own G T b z n0) (hO : mm_O G b n f s H locs) : mm_F T b z H := by
  obtain ⟨h0, cell, h1, h2⟩ := E.2.1
  refine ⟨h0, cell, ?_, h2⟩
  rw [hO.2.2.1 (z 2) (Array.getElem?_eq_some_iff.mp h1).1 (by show ¬ b ≤ z 2; omega)]
  exact h1
/-- the clone of the first settings -/
theorem mo_clone {index : Nat} (E : mm_E p m c cc nL s args Ts own G T b z n0) (hls : nL = ls.size) (hO : mm_O G b n f s H locs) (hn : n0 + cells = n)
    (hlink : (Cond.methodLink own index ⟨"[I", "clone", "()Ljava/lang/Object;"⟩).before args s = true) (hsame : (Cond.sameMethod "[I" "java/lang/Object" "clone" "()Ljava/lang/Object;").before args s = true)
    (hnat : (Cond.native ⟨"java/lang/Object", "clone", "()Ljava/lang/Object;"⟩).before args s = true) (hinst : (Cond.instanceMethod ⟨"java/lang/Object", "clone", "()Ljava/lang/Object;"⟩).before args s = true)
    (hsel : (Cond.selects "[I" ⟨"[I", "clone", "()Ljava/lang/Object;"⟩ ⟨"java/lang/Object", "clone", "()Ljava/lang/Object;"⟩).before args s = true)
    (hframes : 1 ≤ R.frames) (hlocals : (rest.map fun v => v.category).sum + 14 ≤ R.locals) (hcells : cells + 1 ≤ R.cells) (hslots : slots + 7 ≤ R.slots) (hf : va_up f n (.inl (T 0, 7, .inl (mm_st 2))) = f1) (hdg : decode cc pc = .ok (.invokevirtual index, 3))
    (kk : ∀ (H1 : Heap), mm_O G b (n + 1) f1 s H1 locs → W p l e R s m args below meth c H1 locs (cells + 1) (slots + 7) Q (F0 m (pc + 3) ls (.ref (b + n) :: rest))) : W p l e R s m args below meth c H locs cells slots Q (F0 m pc ls (.ref (z 2) :: rest)) := by
  refine mo_sz E hO hn (fun hsz => ?_)
  obtain ⟨h0, cell, c1, c2, c3, c4, c5, c6⟩ := mo_F E hO
  have hK := E.1.2.2.2.2.2.1
  have hnm : s.vm.findClass "[I" = some cell.cls := by rw [c2]; exact va_nm_int (hK.2 0 _ rfl).2
  obtain ⟨cc0, t0', f1', f2, f3⟩ := Cond.castable_spec (va_Nw.use (A := args) rfl E.2.2.1.2.2.2.2.1)
  cases hnm.symm.trans f1'
  have hnew : ({ cls := cell.cls, slots := cell.slots } : Cell) = arrV (T 0) 7 (fun j => .int (mm_st 2 j)) := by
    unfold arrV
    rw [c2]
    refine congrArg (fun w => ({ cls := T 0, slots := w, vm := .none } : Cell)) ?_
    apply Array.ext
    · simp [c5]
    · intro i h1 h2
      have hi : i < 7 := by omega
      have := c6 i hi
      rw [Array.getElem?_eq_getElem h1] at this
      rw [Option.some.inj this]
      simp
  intro Tt hT X
  obtain ⟨-, kA, hkA, comp, hkind⟩ := State.isArrayOf_alike X.warmed.alike ((hK.2 0 _ rfl).1 0 (fun _ => .null))
  obtain ⟨-, kS, hkS, compS, hkindS⟩ := (hK.2 0 _ rfl).1 0 (fun _ => .null)
  obtain ⟨vm', X', st⟩ := X.cloneArray E.1.1 E.1.2.2.2.1 hlink hsame hnat hinst hsel (a := z 2) (cell := cell) (by rw [hT]; exact c1) c3 c4 hnm f2 f3
    (fun i v hv => by
      have hi : i < 7 := by rw [← c5]; exact (Array.getElem?_eq_some_iff.mp hv).1
      rw [c6 i hi] at hv
      cases hv
      have hk' : Tt.vm.classes[T 0]? = some kA := hkA
      rw [c2]
      simp [State.fitsSlot, State.slotType?, hk', hkind]
      rfl)
    (g := F0 m pc ls (.ref (z 2) :: rest)) rfl (by rw [E.1.2.2.1, hls]) rfl (by rw [E.1.2.1]; exact hdg) hframes (by show 2 * 0 + _ + 14 ≤ _; omega) hcells (by rw [c5]; exact hslots) (hloader := by rw [c2]; exact Vm.clonesLoader_of_array hkS hkindS)
  rw [hnew, c5] at X'
  rw [hnew] at st
  generalize hH1 : H.push (arrV (T 0) 7 (fun j => .int (mm_st 2 j))) = H1
  have e1 : H1[b + n]? = some (arrV (T 0) 7 (fun j => .int (mm_st 2 j))) := by rw [← hH1, ← hsz, Array.getElem?_push_size]
  have o1 : ∀ q : Nat, q < H.size → H1[q]? = H[q]? := fun q hq => by rw [← hH1, Array.getElem?_push, if_neg (Nat.ne_of_lt hq)]
  have z1 : H1.size = H.size + 1 := by rw [← hH1, Array.size_push]
  obtain ⟨t, b1, b2⟩ := kk H1 ⟨mm_Pof (fun k hk => by
      rcases Nat.lt_or_ge k n with h | h
      · rw [mm_upn hf (by omega)]
        exact (mm_Pat hO.1 h).kept (o1 _ (by show b + k < H.size; omega))
      · have hkn : k = n := by omega
        subst hkn
        rw [mm_ups hf]
        exact e1), ⟨Nat.le_trans hO.2.1 (by omega), fun y h1 h2 => (o1 y (Nat.lt_of_lt_of_le h1 hO.2.1)).trans (hO.2.2.1 y h1 h2), hO.2.2.2⟩⟩
    ((Tt.setVm vm').pushCell (arrV (T 0) 7 (fun j => .int (mm_st 2 j)))) (by rw [← hH1, ← hT]; rfl) X'
  refine ⟨t, st t ?_, b2⟩
  have : Tt.heap.size = b + n := by rw [hT]; exact hsz
  rw [this]
  exact b1
theorem mo_castI {index : Nat} {y : vp_A} (E : mm_E p m c cc nL s args Ts own G T b z n0) (hO : mm_O G b n f s H locs) (hk : k < n) (he : f k = .inl (T 0, y)) (hlink : (Cond.classLink own index "[I").before args s = true) (hdg : decode cc pc = .ok (.checkcast index, 3))
    (kk : W p l e R s m args below meth c H locs cells slots Q (F0 m (pc + 3) ls (.ref (b + k) :: rest))) : W p l e R s m args below meth c H locs cells slots Q (F0 m pc ls (.ref (b + k) :: rest)) :=
  va_castA E.1.1 E.1.2.1 E.1.2.2.2.1 hlink hO.1 k ((mm_vat hk).trans (by rw [he])) (va_nm_int (E.1.2.2.2.2.2.1.2 0 _ rfl).2) hdg kk
/-- a call's start -/
theorem mo_pre (E : mm_E p m c cc nL s args Ts own G T b z n0) (hO : mm_O G b n f s H locs) (hsz : H.size = b + n) {As : List Value} : ∀ U : State, U.heap = H → s.WarmedH U.vm → va_Pc As (mm_Bo G T b z n f) As.toArray U := by
  intro U hU hW
  refine ⟨rfl, by rw [hU]; exact hsz, by rw [hU]; exact hO.1, va_K.moved hW.alike E.1.2.2.2.2.2.1, ?_, fun i hi => va_Nw.warmF hW (E.1.2.2.2.2.2.2.2 i hi), by rw [hU]; exact mo_F E hO, mm_N2.warm hW E.2.2.1⟩
  have h1 : mm_Z b z U s.heap := mm_Z.moved hW.alike E.1.2.2.2.2.2.2.1
  exact h1.kept (fun a ha hb => by rw [hU]; exact hO.2.2.1 a ha hb)
theorem mo_go {mc ms n1 : Nat} {st0 : List Value} {a : Array Value} (hO : mm_O G b n f s H locs) (hr : va_Run p l e R s m args below meth c H locs cells slots mc ms (F0 m pc ls st0) rest (mm_Qo G b n1 f1 a) (fun q => b ≤ q))
    (kk : ∀ (H1 : Heap) (locs1 : List Loc), mm_O G b n1 f1 s H1 locs1 → W p l e R s m args below meth c H1 locs1 (cells + mc) (slots + ms) Q (F0 m (pc + 3) ls rest)) : W p l e R s m args below meth c H locs cells slots Q (F0 m pc ls st0) := by
  refine va_callv hr hO.2 (fun q _ h => h) (fun q h => h) (fun u t H1 locs1 ht _ _ hB _ _ hS => ?_)
  subst ht
  exact kk t.heap locs1 ⟨hB.2, hS⟩
theorem mo_ret {av : Array Value} {n1 : Nat} (E : mm_E p m c cc nL s av Ts own G T b z n0) (hO : mm_O G b n f s H locs) (hn : n0 + cells = n) (h1 : n = n1) (hf : ∀ k, k < n → va_at G vwCl (b + k, f k) H → va_at G vwCl (b + k, f1 k) H) (hr : meth.sig.returnType = none) (hlk : meth.locks = false) (hdg : decode cc pc = .ok (.return_, 1)) :
    W p l e R s m av below meth c H locs cells slots (MQ below (mm_Qo G b n1 f1) av s cells slots (fun q => b ≤ q)) (F0 m pc ls []) := by
  subst h1
  refine mo_sz E hO hn (fun hsz => ?_)
  exact W.vret E.1.1 E.1.2.1 hr (fun t ht _ => ⟨⟨(), rfl, trivial, by rw [ht]; exact hsz, by subst ht; exact mm_Pof (fun k hk => hf k hk (mm_Pat hO.1 hk))⟩, hO.2.F ht⟩) hO.2.2.2 hdg hlk
end MMO
section MMP
variable {l : Launch} {y : MethodName} {ws ws' : List Cond} {rm : Room} {cc : ByteArray} {maxL : Nat} {av : List Value} {n n1 mc ms : Nat} {f f1 : Nat → va_E} {G : va_G} {T : Nat → ClassId} {b : Nat} {z : Nat → Nat}
theorem mo_start (hy : plainName y.cls = true) (hy1 : y.name = "<init>") (hw : ws = .code y cc maxL none :: ws') (hav : (lg_sl av).length ≤ maxL)
    (body : ∀ (p : Program) (e : Env) (s : State) (m : MethodId) (below : List Frame) (meth : Method) (c : Code) (ls : Array Slot), mm_E p m c cc maxL s av.toArray ws y.cls G T b z n → meth.sig.returnType = none → meth.locks = false → meth.name = "<init>" → mm_O G b n f s s.heap [] → lv_has ls maxL (lv_args 0 av) → W p l e rm s m av.toArray below meth c s.heap [] 0 0 (MQ below (mm_Qo G b n1 f1) av.toArray s mc ms (fun q => b ≤ q)) (F0 m 0 ls [])) :
    mm_Co l y ws rm G T b z av n f n1 f1 mc ms := by
  refine Met.ofW (cc := cc) (maxL := maxL) (ret := none) hy hw ?_
  intro p e s m args below meth c s₁ B hml hv
  obtain ⟨rfl, hs, hP, hK, hZ, hN, hF, h2⟩ := hv
  have hts := atoms_spec (ws := ws) B.pre
  have hown : s.vm.findClass y.cls = some m.cls := findClass_of_methodNamed B.named
  rw [lg_entry_eq]
  exact body p e s m below meth c _ ⟨⟨B.exec, B.bytes, hml, hown, hts, hK, hZ, hN⟩, hF, h2, hs⟩ B.returns B.notSynchronized ((name_of_methodNamed B.named B.method).1.trans hy1) ⟨hP, va_S.rf⟩ (lv_entry av hav)
end MMP
