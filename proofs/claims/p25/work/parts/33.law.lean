/-! THE LAW'S WORLD: the object's cells, the addresses A that a method of the law may change, and the array d of what was told, at ad -/
def mm_L (A : Nat → Prop) (G : va_G) (T : Nat → ClassId) (b : Nat) (x : mm_M) (s : State) (H : Heap) (locs : List Loc) : Prop := va_P G vwCl (mm_w T b x) H ∧ va_S A s.heap H locs
def mm_D (A : Nat → Prop) (G : va_G) (T : Nat → ClassId) (b : Nat) (x : mm_M) (ad : Nat) (dd : Nat → Int32) (s : State) (H : Heap) (locs : List Loc) : Prop := mm_L A G T b x s H locs ∧ va_P G vwCl [(ad, .inl (T 0, 64, .inl dd))] H ∧ ¬ mm_A b ad
def mm_AA (A : Nat → Prop) (b : Nat) : Prop := (∀ q, mm_A b q → A q) ∧ ∀ q, A q → b ≤ q
theorem mm_AAr {b : Nat} : mm_AA (mm_A b) b := ⟨fun _ h => h, fun _ h => h.1⟩
theorem mm_AAl {b : Nat} : mm_AA (fun q => b ≤ q) b := ⟨fun _ h => h.1, fun _ h => h⟩
def mm_A2 (b n : Nat) : Nat → Prop := fun q => mm_A b q ∨ n ≤ q
theorem mm_AA2 {b n : Nat} (h : b ≤ n) : mm_AA (mm_A2 b n) b := ⟨fun _ h => Or.inl h, fun _ q => q.elim (fun w => w.1) (fun w => Nat.le_trans h w)⟩
def mm_BD (G : va_G) (T : Nat → ClassId) (b : Nat) (z : Nat → Nat) (ad : Nat) (dd : Nat → Int32) (x : mm_M) (U : State) : Prop := mm_B G T b z x U ∧ va_P G vwCl [(ad, .inl (T 0, 64, .inl dd))] U.heap ∧ ¬ mm_A b ad
def mm_CiD (l : Launch) (y : MethodName) (ws : List Cond) (rm : Room) (G : va_G) (T : Nat → ClassId) (b : Nat) (z : Nat → Nat) (ad : Nat) (dd : Nat → Int32) (av : List Value) (x : mm_M) (r : Int32) (x1 : mm_M) : Prop := Met l y ws rm (va_Pc av (mm_BD G T b z ad dd x)) (mm_Qi G T b r x1) 0 0 (mm_A b)
theorem mm_BD.blind {G : va_G} {T : Nat → ClassId} {b : Nat} {z : Nat → Nat} {ad : Nat} {dd : Nat → Int32} {x : mm_M} {av : List Value} : FrameBlind (va_Pc av (mm_BD G T b z ad dd x)) := by
  intro a U g mk q
  obtain ⟨q0, q1, q2⟩ := q
  have h := mm_B.blind (av := av) a U g mk ⟨q0, q1⟩
  exact ⟨h.1, h.2, q2⟩
/-- the methods that make cells: the heap's size at their start -/
def mm_Bn (G : va_G) (T : Nat → ClassId) (b : Nat) (z : Nat → Nat) (n : Nat) (x : mm_M) (U : State) : Prop := U.heap.size = n ∧ mm_B G T b z x U
theorem mm_Bn.blind {G : va_G} {T : Nat → ClassId} {b n : Nat} {z : Nat → Nat} {x : mm_M} {av : List Value} : FrameBlind (va_Pc av (mm_Bn G T b z n x)) := by
  intro a U g mk q
  obtain ⟨q0, q1, q2⟩ := q
  have h := mm_B.blind (av := av) a U g mk ⟨q0, q2⟩
  exact ⟨h.1, q1, h.2⟩
def mm_Qn (G : va_G) (T : Nat → ClassId) (b n : Nat) (r : Int32) (x1 : mm_M) : Array Value → State → Outcome → State → Prop := va_Qi (fun (r' : Int32) (_ : Unit) => r' = r) (fun _ t => va_P G vwCl (mm_w T b x1) t.heap) (mm_A2 b n)
def mm_Qd (G : va_G) (T : Nat → ClassId) (b n : Nat) (x : mm_M) (dd : Nat → Int32) : Array Value → State → Outcome → State → Prop := va_Qr (fun (_ : Unit) => True) (fun _ ad t => va_P G vwCl (mm_w T b x) t.heap ∧ va_P G vwCl [(ad, .inl (T 0, 64, .inl dd))] t.heap ∧ ¬ mm_A b ad) (mm_A2 b n)
def mm_CiN (l : Launch) (y : MethodName) (ws : List Cond) (rm : Room) (G : va_G) (T : Nat → ClassId) (b : Nat) (z : Nat → Nat) (n : Nat) (av : List Value) (x : mm_M) (r : Int32) (x1 : mm_M) : Prop := Met l y ws rm (va_Pc av (mm_Bn G T b z n x)) (mm_Qn G T b n r x1) 1 64 (mm_A2 b n)
def mm_CdN (l : Launch) (y : MethodName) (ws : List Cond) (rm : Room) (G : va_G) (T : Nat → ClassId) (b : Nat) (z : Nat → Nat) (n : Nat) (av : List Value) (x : mm_M) (dd : Nat → Int32) : Prop := Met l y ws rm (va_Pc av (mm_Bn G T b z n x)) (mm_Qd G T b n x dd) 1 64 (mm_A2 b n)
def mm_BX (G : va_G) (T : Nat → ClassId) (b : Nat) (z : Nat → Nat) (b0 L : Nat) (xs : Nat → Int32) (x : mm_M) (U : State) : Prop := mm_B G T b z x U ∧ va_X b0 L xs U U.heap ∧ b0 < b ∧ b0 < U.heap.size
theorem mm_BX.blind {G : va_G} {T : Nat → ClassId} {b b0 L : Nat} {z : Nat → Nat} {xs : Nat → Int32} {x : mm_M} {av : List Value} : FrameBlind (va_Pc av (mm_BX G T b z b0 L xs x)) := by
  intro a U g mk q
  obtain ⟨q0, q1, q2, q3, q4⟩ := q
  have h := mm_B.blind (av := av) a U g mk ⟨q0, q1⟩
  exact ⟨h.1, h.2, va_X.moved (u := U) (U := U.calling g mk a) (Vm.Alike.refl U.vm) q2, q3, q4⟩
section MLW
variable {p : Program} {l : Launch} {e : Env} {R : Room} {s : State} {m : MethodId} {args : Array Value} {below : List Frame} {meth : Method} {c : Code} {H : Heap} {locs : List Loc} {cells slots : Nat} {Q : State → Prop}
variable {cc : ByteArray} {pc nL : Nat} {ls : Array Slot} {rest : List Value} {Ts : List Cond} {own : String} {G : va_G} {T : Nat → ClassId} {b : Nat} {z : Nat → Nat} {x x1 : mm_M} {k ad n : Nat} {dd : Nat → Int32} {A : Nat → Prop}
theorem mm_preL (C : mm_C p m c cc nL s args Ts own G T b z) (hH : mm_L A G T b x s H locs) (hA : mm_AA A b) {As : List Value} : ∀ U : State, U.heap = H → s.WarmedH U.vm → va_Pc As (mm_B G T b z x) As.toArray U := by
  intro U hU hW
  refine ⟨rfl, by rw [hU]; exact hH.1, va_K.moved hW.alike C.2.2.2.2.2.1, ?_, fun i hi => va_Nw.warmF hW (C.2.2.2.2.2.2.2 i hi)⟩
  have h1 : mm_Z b z U s.heap := mm_Z.moved hW.alike C.2.2.2.2.2.2.1
  exact h1.kept (fun a ha hb => by rw [hU]; exact hH.2.2.1 a ha (fun h => hb (hA.2 a h)))
theorem mm_preD (C : mm_C p m c cc nL s args Ts own G T b z) (hH : mm_D A G T b x ad dd s H locs) (hA : mm_AA A b) {As : List Value} : ∀ U : State, U.heap = H → s.WarmedH U.vm → va_Pc As (mm_BD G T b z ad dd x) As.toArray U := fun U hU hW =>
  have h := mm_preL C hH.1 hA (As := As) U hU hW
  ⟨h.1, h.2, by rw [hU]; exact hH.2.1, hH.2.2⟩
theorem mm_preN (C : mm_C p m c cc nL s args Ts own G T b z) (hH : mm_L A G T b x s H locs) (hA : mm_AA A b) {As : List Value} : ∀ U : State, U.heap = H → s.WarmedH U.vm → va_Pc As (mm_Bn G T b z H.size x) As.toArray U := fun U hU hW =>
  have h := mm_preL C hH hA (As := As) U hU hW
  ⟨h.1, by rw [hU], h.2⟩
theorem mm_preX {b0 L : Nat} {xs : Nat → Int32} (C : mm_C p m c cc nL s args Ts own G T b z) (hH : mm_L (fun q => b ≤ q) G T b x s H locs) (hA : mm_AA (fun q => b ≤ q) b) (hX : va_X b0 L xs s s.heap) (hbl : b0 < s.heap.size ∧ b0 < b) {As : List Value} : ∀ U : State, U.heap = H → s.WarmedH U.vm → va_Pc As (mm_BX G T b z b0 L xs x) As.toArray U := fun U hU hW =>
  have h := mm_preL C hH hA (As := As) U hU hW
  ⟨h.1, h.2, va_X.moved hW.alike (hX.kept (by rw [hU]; exact hH.2.2.1 b0 hbl.1 (by have := hbl.2; show ¬ b ≤ b0; omega))), hbl.2, by rw [hU]; exact Nat.lt_of_lt_of_le hbl.1 hH.2.1⟩
theorem mm_recvL {ci : Nat} {fs : List Value} {q : vw_C} (C : mm_C p m c cc nL s args Ts own G T b z) (hH : mm_L A G T b x s H locs) (hk : k < 157) (he : mm_ent T b x k = .inr (ci, fs)) (hc : vwCl[ci]? = some q) : ∃ cell : Cell, H[b + k]? = some cell ∧ cell.vm.isStatics = false ∧ s.vm.findClass q.1 = some cell.cls :=
  va_recv C.2.2.2.2.2.1 hH.1 (q0 := k) hc ((mm_wat hk).trans (by rw [he]))
theorem md_dld {i : Int32} (C : mm_C p m c cc nL s args Ts own G T b z) (hH : mm_D A G T b x ad dd s H locs) (hin : ¬ (i < 0 ∨ 64 ≤ i.toNatClampNeg)) (hdg : decode cc pc = .ok (.iaload, 1))
    (kk : W p l e R s m args below meth c H locs cells slots Q (F0 m (pc + 1) ls (.int (dd i.toNatClampNeg) :: rest))) : W p l e R s m args below meth c H locs cells slots Q (F0 m pc ls (.int i :: .ref ad :: rest)) :=
  va_iald C.1 C.2.1 C.2.2.2.2.2.1 hH.2.1 0 0 rfl rfl hin hdg kk
theorem mm_Dkept {H1 : Heap} (h : va_P G vwCl [(ad, .inl (T 0, 64, .inl dd))] H) (hn : ¬ mm_A b ad) (hk : ∀ q : Nat, q < H.size → ¬ mm_A b q → H1[q]? = H[q]?) : va_P G vwCl [(ad, .inl (T 0, 64, .inl dd))] H1 := by
  intro k q hq
  match k, hq with
  | 0, hq =>
    cases hq
    exact (h 0 _ rfl).kept (hk ad (h 0 _ rfl).lt hn)
  | k + 1, hq => simp at hq
variable {y : MethodName} {ws : List Cond} {rm : Room} {bytes : ByteArray} {maxL index : Nat} {ret : Option FieldType} {As st0 : List Value} {a : Array Value} {r : Int32}
theorem ml_goi (hH : mm_L A G T b x s H locs) (hA : mm_AA A b) (hr : va_Run p l e R s m args below meth c H locs cells slots 0 0 (F0 m pc ls st0) rest (mm_Qi G T b r x1 a) (mm_A b))
    (kk : ∀ (H1 : Heap) (locs1 : List Loc), mm_L A G T b x1 s H1 locs1 → W p l e R s m args below meth c H1 locs1 cells slots Q (F0 m (pc + 3) ls (.int r :: rest))) : W p l e R s m args below meth c H locs cells slots Q (F0 m pc ls st0) := by
  refine va_calli hr hH.2 (fun q _ h => hA.1 q h) (fun q h => hA.1 q h) (fun r' u t H1 locs1 ht _ hp hB _ _ hS => ?_)
  have hp : r' = r := hp
  subst hp; subst ht
  exact kk t.heap locs1 ⟨hB, hS⟩
theorem md_goi (hH : mm_D A G T b x ad dd s H locs) (hA : mm_AA A b) (hr : va_Run p l e R s m args below meth c H locs cells slots 0 0 (F0 m pc ls st0) rest (mm_Qi G T b r x1 a) (mm_A b))
    (kk : ∀ (H1 : Heap) (locs1 : List Loc), mm_D A G T b x1 ad dd s H1 locs1 → W p l e R s m args below meth c H1 locs1 cells slots Q (F0 m (pc + 3) ls (.int r :: rest))) : W p l e R s m args below meth c H locs cells slots Q (F0 m pc ls st0) := by
  refine va_calli hr hH.1.2 (fun q _ h => hA.1 q h) (fun q h => hA.1 q h) (fun r' u t H1 locs1 ht _ hp hB _ hk hS => ?_)
  have hp : r' = r := hp
  subst hp; subst ht
  exact kk t.heap locs1 ⟨⟨hB, hS⟩, mm_Dkept hH.2.1 hH.2.2 hk, hH.2.2⟩
/-- a call of a method of the law that makes a cell, its answer an int -/
theorem ml_gon (hH : mm_L A G T b x s H locs) (hA : mm_AA A b) (hn : ∀ q, H.size ≤ q → A q) (hr : va_Run p l e R s m args below meth c H locs cells slots 1 64 (F0 m pc ls st0) rest (mm_Qn G T b H.size r x1 a) (mm_A2 b H.size))
    (kk : ∀ (H1 : Heap) (locs1 : List Loc), mm_L A G T b x1 s H1 locs1 → W p l e R s m args below meth c H1 locs1 (cells + 1) (slots + 64) Q (F0 m (pc + 3) ls (.int r :: rest))) : W p l e R s m args below meth c H locs cells slots Q (F0 m pc ls st0) := by
  have h2 : ∀ q, mm_A2 b H.size q → A q := fun q h => h.elim (fun w => hA.1 q w) (fun w => hn q w)
  refine va_calli hr hH.2 (fun q _ h => h2 q h) h2 (fun r' u t H1 locs1 ht _ hp hB _ _ hS => ?_)
  have hp : r' = r := hp
  subst hp; subst ht
  exact kk t.heap locs1 ⟨hB, hS⟩
/-- its answer the array -/
theorem ml_god (hH : mm_L A G T b x s H locs) (hA : mm_AA A b) (hn : ∀ q, H.size ≤ q → A q) (hr : va_Run p l e R s m args below meth c H locs cells slots 1 64 (F0 m pc ls st0) rest (mm_Qd G T b H.size x dd a) (mm_A2 b H.size))
    (kk : ∀ (ad : Nat) (H1 : Heap) (locs1 : List Loc), mm_D A G T b x ad dd s H1 locs1 → W p l e R s m args below meth c H1 locs1 (cells + 1) (slots + 64) Q (F0 m (pc + 3) ls (.ref ad :: rest))) : W p l e R s m args below meth c H locs cells slots Q (F0 m pc ls st0) := by
  have h2 : ∀ q, mm_A2 b H.size q → A q := fun q h => h.elim (fun w => hA.1 q w) (fun w => hn q w)
  refine va_callr hr hH.2 (fun q _ h => h2 q h) h2 (fun u ra t H1 locs1 ht _ hp hB _ _ hS => ?_)
  subst ht
  exact kk ra t.heap locs1 ⟨⟨hB.1, hS⟩, hB.2⟩
/-- the ends -/
theorem md_iret {rt : FieldType} {v : Int32} {av : Array Value} (C : mm_C p m c cc nL s av Ts own G T b z) (hH : mm_L (mm_A2 b n) G T b x s H locs) (hr : meth.sig.returnType = some rt) (hlk : meth.locks = false) (hn : narrow rt (.int v) = .int v) (h : (some (x, v) : Option (mm_M × Int32)) = some (x1, r)) (hdg : decode cc pc = .ok (.ireturn, 1)) :
    W p l e R s m av below meth c H locs cells slots (MQ below (mm_Qn G T b n r x1) av s cells slots (mm_A2 b n)) (F0 m pc ls [.int v]) := by
  have e := Option.some.inj h
  have e1 : x = x1 := congrArg Prod.fst e
  have e2 : v = r := congrArg Prod.snd e
  subst e1; subst e2
  exact W.zret C.1 C.2.1 hr hn (fun t ht _ => ⟨⟨v, (), rfl, rfl, by subst ht; exact hH.1⟩, hH.2.F ht⟩) hH.2.2.2 hdg hlk
theorem md_aret {rt : FieldType} {av : Array Value} (C : mm_C p m c cc nL s av Ts own G T b z) (hH : mm_D (mm_A2 b n) G T b x ad dd s H locs) (hr : meth.sig.returnType = some rt) (hrt : (∃ n, rt = .object n) ∨ ∃ t, rt = .array t) (hlk : meth.locks = false) (hdg : decode cc pc = .ok (.areturn, 1)) :
    W p l e R s m av below meth c H locs cells slots (MQ below (mm_Qd G T b n x dd) av s cells slots (mm_A2 b n)) (F0 m pc ls [.ref ad]) :=
  W.aret C.1 C.2.1 hr hrt (Or.inr ⟨_, rfl⟩) (fun t ht _ => ⟨⟨(), ad, rfl, trivial, by subst ht; exact ⟨hH.1.1, hH.2⟩⟩, hH.1.2.F ht⟩) hH.1.2.2.2 hdg hlk
/-- the new array -/
theorem md_newa (C : mm_C p m c cc nL s args Ts own G T b z) (hH : mm_L A G T b x s H locs) (hA : mm_AA A b) (hs : ∀ q, s.heap.size ≤ q → A q) (harr : (Cond.arrayClass .int).before args s = true) (hcells : cells + 1 ≤ R.cells) (hslots : slots + 64 ≤ R.slots) (hdg : decode cc pc = .ok (.newarray .int, 2))
    (kk : ∀ (ad : Nat) (H1 : Heap), A ad → mm_D A G T b x ad (fun _ => 0) s H1 locs → W p l e R s m args below meth c H1 locs (cells + 1) (slots + 64) Q (F0 m (pc + 2) ls (.ref ad :: rest))) : W p l e R s m args below meth c H locs cells slots Q (F0 m pc ls (.int 64 :: rest)) := by
  refine va_newa (atype := .int) (ty := .int) (N' := 64) (a0 := (64, .inl (fun _ => 0))) (A := A) C.1 C.2.1 harr rfl C.2.2.2.2.2.1 hH.1 ⟨(mm_wD T b x).1, fun k q h => hA.1 _ ((mm_wD T b x).2 k q h)⟩ hH.2 hs (fun _ => rfl) (by decide) (by decide) (by decide) hcells hslots hdg (fun q cA H1 hK2 hP hD hS => ?_)
  have hcA := mo_cls (t0 := 0) C.2.2.2.2.2.1 rfl hK2
  subst hcA
  have hl : (mm_w T b x).length = 157 := by simp [mm_w]
  have hq : (mm_w T b x ++ [(q, .inl (T 0, 64, .inl (fun _ => (0 : Int32))))])[157]? = some (q, (.inl (T 0, 64, .inl (fun _ => (0 : Int32))) : va_E)) := by rw [List.getElem?_append_right (by omega), hl]; rfl
  have hPw : ∀ k, k < 157 → (mm_w T b x ++ [(q, .inl (T 0, 64, .inl (fun _ => (0 : Int32))))])[k]? = some (b + k, mm_ent T b x k) := fun k hk => by rw [List.getElem?_append_left (by omega)]; exact mm_wat hk
  refine kk q H1 (hD.2 157 _ hq) ⟨⟨?_, hS⟩, ?_, ?_⟩
  · intro k r h
    obtain ⟨hk, rfl⟩ := mm_wat' h
    exact hP k _ (hPw k hk)
  · intro k r h
    match k, h with
    | 0, h => cases h; exact hP 157 _ hq
    | k + 1, h => simp at h
  · intro h
    have h1 := hD.1 157 (q - b) _ _ hq (hPw (q - b) (by have := h.2; omega)) (by show q = b + (q - b); have := h.1; omega)
    have := h.2
    omega
theorem md_iast {i v : Int32} (C : mm_C p m c cc nL s args Ts own G T b z) (hH : mm_D A G T b x ad dd s H locs) (hAA : mm_AA A b) (hA : A ad) (hin : ¬ (i < 0 ∨ 64 ≤ i.toNatClampNeg)) (hdg : decode cc pc = .ok (.iastore, 1))
    (kk : ∀ (H1 : Heap) (locs1 : List Loc), mm_D A G T b x ad (upd dd i.toNatClampNeg v) s H1 locs1 → W p l e R s m args below meth c H1 locs1 cells slots Q (F0 m (pc + 1) ls rest)) : W p l e R s m args below meth c H locs cells slots Q (F0 m pc ls (.int v :: .int i :: .ref ad :: rest)) := by
  have hl : (mm_w T b x).length = 157 := by simp [mm_w]
  have hD1 : va_D A (mm_w T b x) := ⟨(mm_wD T b x).1, fun k q h => hAA.1 _ ((mm_wD T b x).2 k q h)⟩
  have hD2 : va_D A [(ad, (.inl (T 0, 64, .inl dd) : va_E))] := by
    refine ⟨fun k q a b h1 h2 _ => ?_, fun k q h => ?_⟩
    · have h3 := (List.getElem?_eq_some_iff.mp h1).1
      have h4 := (List.getElem?_eq_some_iff.mp h2).1
      simp only [List.length_cons, List.length_nil] at h3 h4
      omega
    · match k, h with
      | 0, h => cases h; exact hA
      | k + 1, h => simp at h
  have hD : va_D A (mm_w T b x ++ [(ad, .inl (T 0, 64, .inl dd))]) := hD1.app hD2 (fun k q r t h1 h2 h3 => by
    obtain ⟨hk, rfl⟩ := mm_wat' h1
    match q, h2 with
    | 0, h2 =>
      cases h2
      have h3 : b + k = ad := h3
      exact hH.2.2 ⟨by omega, by omega⟩
    | q + 1, h2 => simp at h2)
  refine va_iast C.1 C.2.1 C.2.2.2.2.2.1 (hH.1.1.app hH.2.1) hD hH.1.2 157 0 (by rw [List.getElem?_append_right (by omega), hl]; rfl) rfl hin hdg (fun H1 locs1 hP _ hS => kk H1 locs1 ⟨⟨?_, hS⟩, ?_, hH.2.2⟩)
  · intro k r h
    have h5 := mm_wat' h
    refine hP k r ?_
    rw [List.getElem?_set_ne (by omega), List.getElem?_append_left (by omega)]
    exact h
  · intro k r h
    match k, h with
    | 0, h =>
      cases h
      exact hP 157 _ (List.getElem?_set_self (by rw [List.length_append, hl]; exact Nat.lt_succ_self 157))
    | k + 1, h => simp at h
end MLW
section MLS
variable {l : Launch} {y : MethodName} {ws ws' : List Cond} {rm : Room} {cc : ByteArray} {maxL : Nat} {rt : FieldType} {av : List Value} {x x1 : mm_M} {G : va_G} {T : Nat → ClassId} {b ad n : Nat} {dd : Nat → Int32} {z : Nat → Nat} {mc ms : Nat}
theorem md_start {ret : Option FieldType} {Qc : Array Value → State → Outcome → State → Prop} (hy : plainName y.cls = true) (hw : ws = .code y cc maxL ret :: ws') (hav : (lg_sl av).length ≤ maxL)
    (body : ∀ (p : Program) (e : Env) (s : State) (m : MethodId) (below : List Frame) (meth : Method) (c : Code) (ls : Array Slot), mm_C p m c cc maxL s av.toArray ws y.cls G T b z → meth.sig.returnType = ret → meth.locks = false → mm_D (mm_A b) G T b x ad dd s s.heap [] → lv_has ls maxL (lv_args 0 av) → W p l e rm s m av.toArray below meth c s.heap [] 0 0 (MQ below Qc av.toArray s 0 0 (mm_A b)) (F0 m 0 ls [])) :
    Met l y ws rm (va_Pc av (mm_BD G T b z ad dd x)) Qc 0 0 (mm_A b) := by
  refine Met.ofW (cc := cc) (maxL := maxL) (ret := ret) hy hw ?_
  intro p e s m args below meth c s₁ B hml hv
  obtain ⟨rfl, ⟨hP, hK, hZ, hN⟩, hd⟩ := hv
  have hts := atoms_spec (ws := ws) B.pre
  have hown : s.vm.findClass y.cls = some m.cls := findClass_of_methodNamed B.named
  rw [lg_entry_eq]
  exact body p e s m below meth c _ ⟨B.exec, B.bytes, hml, hown, hts, hK, hZ, hN⟩ B.returns B.notSynchronized ⟨⟨hP, va_S.rf⟩, hd⟩ (lv_entry av hav)
theorem mn_start {ret : Option FieldType} {Qc : Array Value → State → Outcome → State → Prop} (hy : plainName y.cls = true) (hw : ws = .code y cc maxL ret :: ws') (hav : (lg_sl av).length ≤ maxL)
    (body : ∀ (p : Program) (e : Env) (s : State) (m : MethodId) (below : List Frame) (meth : Method) (c : Code) (ls : Array Slot), mm_C p m c cc maxL s av.toArray ws y.cls G T b z → meth.sig.returnType = ret → meth.locks = false → s.heap.size = n → b ≤ n → mm_L (mm_A2 b n) G T b x s s.heap [] → lv_has ls maxL (lv_args 0 av) → W p l e rm s m av.toArray below meth c s.heap [] 0 0 (MQ below Qc av.toArray s mc ms (mm_A2 b n)) (F0 m 0 ls [])) :
    Met l y ws rm (va_Pc av (mm_Bn G T b z n x)) Qc mc ms (mm_A2 b n) := by
  refine Met.ofW (cc := cc) (maxL := maxL) (ret := ret) hy hw ?_
  intro p e s m args below meth c s₁ B hml hv
  obtain ⟨rfl, hs, hP, hK, hZ, hN⟩ := hv
  have hts := atoms_spec (ws := ws) B.pre
  have hown : s.vm.findClass y.cls = some m.cls := findClass_of_methodNamed B.named
  have hb : b ≤ n := by
    have h := (hP 0 _ (mm_wat (by decide))).lt
    have h' : b + 0 < s.heap.size := h
    omega
  rw [lg_entry_eq]
  exact body p e s m below meth c _ ⟨B.exec, B.bytes, hml, hown, hts, hK, hZ, hN⟩ B.returns B.notSynchronized hs hb ⟨hP, va_S.rf⟩ (lv_entry av hav)
end MLS
