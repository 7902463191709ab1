/-! THE LAW FROM ITS ENTRY -/
def mm_least : List Int32 := [0, 0, 0, 1, 1, 1, 1]
theorem ws_len7 {args : Array Value} {s : State} {tm : Term} {t : Nat} {cell : Cell} (h : (Term.length tm).eval args s none [] s = some (.int 7)) (ht : tm.eval args s none [] s = some (.ref t)) (hc : s.heap[t]? = some cell) : cell.slots.size = 7 := by
  obtain ⟨a, cell2, h1, h2, h3⟩ := Term.length_spec h
  cases ht.symm.trans h1
  obtain ⟨h4, -⟩ := State.arrayAt?_spec h2
  cases hc.symm.trans h4
  have h5 := h
  simp only [Term.eval, ht, h2, Option.bind_eq_bind, Option.bind_some] at h5
  have h6 : cell.slots.size < 2 ^ 31 := by
    by_cases q : cell.slots.size < 2 ^ 31
    · exact q
    · simp [q] at h5
  have h7 : cell.slots.size.toInt32 = (7 : Int32) := (Value.int.inj h3).symm
  have h8 : nI cell.slots.size = nI 7 := h7
  have h9 := congrArg Int32.toNatClampNeg h8
  rwa [nI_clamp h6, nI_clamp (by decide)] at h9
theorem ws_arr {args : Array Value} {s : State} {ty : FieldType} (h : (Cond.arrayClass ty).before args s = true) : ∃ c : ClassId, ArrOfT s c ty ∧ s.vm.findClass ("[" ++ ty.toString) = some c := by
  obtain ⟨c, k, comp, h1, h2, h3⟩ := Cond.arrayClass_spec h
  exact ⟨c, fun n z => ⟨(fun k h => by cases h), k, h2, comp, h3⟩, h1⟩
theorem ws_arq {args : Array Value} {s : State} {C : String} (h : (Cond.arrayOver (.object C)).before args s = true) : ∃ c : ClassId, ArrOfT s c (.object C) ∧ va_RA s c (.object C) := by
  obtain ⟨comp, c, k, h1, -, h2, h3, h4⟩ := Cond.arrayOver_spec h
  exact ⟨c, fun n z => ⟨(fun k h => by cases h), k, h2, comp, h3⟩, k, comp, h2, h3, h1, h4⟩
/-- one of the static rows -/
theorem ws_sta {b0 : Nat} {s : State} {i : Nat} (hi : i < 3) (hl : (Cond.laysStatic RX4 (mm_sn i) "[I").before #[Value.ref b0] s = true) (hini : (Cond.initialized RX4).before #[Value.ref b0] s = true) (harr : (Cond.arrayOf (.static RX4 (mm_sn i) "[I") .int).before #[Value.ref b0] s = true) (hlen : (Cond.eq (.length (.static RX4 (mm_sn i) "[I")) (.int 7)).before #[Value.ref b0] s = true)
    (hel : ∀ j, j < 7 → (Cond.eq (.elem (.static RX4 (mm_sn i) "[I") (.int (Int32.ofNat j))) (.int (mm_st i j))).before #[Value.ref b0] s = true) : ∃ t : Nat, (Term.static RX4 (mm_sn i) "[I").eval #[Value.ref b0] s none [] s = some (.ref t) ∧ va_Z RX4 (mm_sn i) "[I" (.ref t) (fun q => s.heap.size ≤ q) s s.heap ∧ va_T .int t 7 (fun j => .int (mm_st i j)) (fun q => s.heap.size ≤ q) s s.heap := by
  have hA : ∀ a : Nat, a < s.heap.size → ¬ (fun q => s.heap.size ≤ q) a := fun a h => Nat.not_le.mpr h
  obtain ⟨t, h1, h2⟩ := va_Tof (f := fun j => .int (mm_st i j)) (N := 7) (by decide) harr (va_eqt hlen) (fun j hj => va_eqt (hel j hj)) hA
  exact ⟨t, h1, va_Zref hl hini h1 hA, h2⟩
set_option maxRecDepth 100000 in
set_option maxHeartbeats 8000000 in
theorem whole_start {p : Program} {e : Env} {s : State} {m : MethodId} {below : List Frame} {meth : Method} {c : Code} (l : Launch) (hflags : l.flags = flags0) {b L : Nat} {xs : Nat → Int32} (hL : L ≤ 260) (C0 : lw_At p s m meth c b L xs) : W p l e room_1 s m #[Value.ref b] below meth c s.heap [] 0 0 (lw_Z below #[Value.ref b] s) (entryFrame m ([Value.ref b] : List Value).toArray 4) := by
  obtain ⟨hx, hb, hr, hml, hown, hts0, hX, hbl, hlk, hgv⟩ := id C0
  have hts : ∀ w ∈ wsL_law, w.before #[Value.ref b] s = true := fun w h => hts0 w (wsL_law_in w h)
  have hs := flat_of_before _ hgv
  obtain ⟨c0, i0, k0⟩ := u_known (C := RX0) (T := TX0) (N := 5) (n := 5) hts0 inX0 (hts (.instantiable RX0 5) (by decide +kernel))
  obtain ⟨c1, i1, k1⟩ := u_known (C := RX1) (T := TX1) (N := 8) (n := 8) hts0 inX1 (hts (.instantiable RX1 8) (by decide +kernel))
  obtain ⟨c2, i2, k2⟩ := u_known (C := RX2) (T := TX2) (N := 6) (n := 6) hts0 inX2 (hts (.instantiable RX2 6) (by decide +kernel))
  obtain ⟨c3, i3, k3⟩ := u_known (C := RX3) (T := TX3) (N := 7) (n := 7) hts0 inX3 (hts (.instantiable RX3 7) (by decide +kernel))
  obtain ⟨c4, i4, k4⟩ := u_known (C := RX4) (T := TX4) (N := 7) (n := 7) hts0 inX4 (hts (.instantiable RX4 7) (by decide +kernel))
  obtain ⟨G, hG⟩ : ∃ G : va_G, ∀ (k : Nat) (q : vw_C), vwCl[k]? = some q → u_Kn s q.1 q.2.1 q.2.2 (G.1 k) (G.2 k) := by
    refine ⟨(fun k => match k with | 0 => c0 | 1 => c1 | 2 => c2 | 3 => c3 | _ => c4, fun k => match k with | 0 => i0 | 1 => i1 | 2 => i2 | 3 => i3 | _ => i4), ?_⟩
    intro k q hq
    match k, hq with
    | 0, hq => cases hq; exact k0
    | 1, hq => cases hq; exact k1
    | 2, hq => cases hq; exact k2
    | 3, hq => cases hq; exact k3
    | 4, hq => cases hq; exact k4
    | k + 5, hq => simp [vwCl] at hq
  obtain ⟨a0, q0, r0⟩ := ws_arr (hts (.arrayClass .int) (by decide +kernel))
  obtain ⟨a1, q1, r1⟩ := ws_arr (hts (.arrayClass .char) (by decide +kernel))
  obtain ⟨a2, q2, r2⟩ := ws_arr (hts (.arrayClass .boolean) (by decide +kernel))
  have hao1 := hts0 (.arrayOver (.object RX1)) (by decide +kernel)
  have hao3 := hts0 (.arrayOver (.object RX3)) (by decide +kernel)
  obtain ⟨a3, q3, r3⟩ := ws_arq hao1
  obtain ⟨a4, q4, r4⟩ := ws_arq hao3
  obtain ⟨T, hT⟩ : ∃ T : Nat → ClassId, ∀ (k : Nat) (q : ClassId × FieldType), (mm_T T)[k]? = some q → ArrOfT s q.1 q.2 ∧ va_RA s q.1 q.2 := by
    refine ⟨fun k => match k with | 0 => a0 | 1 => a1 | 2 => a2 | 3 => a3 | _ => a4, ?_⟩
    intro k q hq
    match k, hq with
    | 0, hq => cases hq; exact ⟨q0, r0⟩
    | 1, hq => cases hq; exact ⟨q1, r1⟩
    | 2, hq => cases hq; exact ⟨q2, r2⟩
    | 3, hq => cases hq; exact ⟨q3, r3⟩
    | 4, hq => cases hq; exact ⟨q4, r4⟩
    | k + 5, hq => simp [mm_T] at hq
  have hK : va_K G vwCl (mm_T T) s := ⟨hG, hT⟩
  have hini : (Cond.initialized RX4).before #[Value.ref b] s = true := hts (.initialized RX4) (by decide +kernel)
  obtain ⟨t0, e0, z0, v0⟩ := ws_sta (i := 0) (by decide) (hts0 (.laysStatic RX4 (mm_sn 0) "[I") (by decide +kernel)) hini (hs _ (by decide +kernel)) (hs _ (by decide +kernel)) (fun j hj => by rcases (show j = 0 ∨ j = 1 ∨ j = 2 ∨ j = 3 ∨ j = 4 ∨ j = 5 ∨ j = 6 by omega) with rfl | rfl | rfl | rfl | rfl | rfl | rfl <;> exact hs _ (by decide +kernel))
  obtain ⟨t1, e1, z1, v1⟩ := ws_sta (i := 1) (by decide) (hts0 (.laysStatic RX4 (mm_sn 1) "[I") (by decide +kernel)) hini (hs _ (by decide +kernel)) (hs _ (by decide +kernel)) (fun j hj => by rcases (show j = 0 ∨ j = 1 ∨ j = 2 ∨ j = 3 ∨ j = 4 ∨ j = 5 ∨ j = 6 by omega) with rfl | rfl | rfl | rfl | rfl | rfl | rfl <;> exact hs _ (by decide +kernel))
  have hlen2 : (Cond.eq (.length (.static RX4 (mm_sn 2) "[I")) (.int 7)).before #[Value.ref b] s = true := hs _ (by decide +kernel)
  obtain ⟨t2, e2, z2, v2⟩ := ws_sta (i := 2) (by decide) (hts0 (.laysStatic RX4 (mm_sn 2) "[I") (by decide +kernel)) hini (hs _ (by decide +kernel)) hlen2 (fun j hj => by rcases (show j = 0 ∨ j = 1 ∨ j = 2 ∨ j = 3 ∨ j = 4 ∨ j = 5 ∨ j = 6 by omega) with rfl | rfl | rfl | rfl | rfl | rfl | rfl <;> exact hs _ (by decide +kernel))
  obtain ⟨z, hz0, hz1, hz2⟩ : ∃ z : Nat → Nat, z 0 = t0 ∧ z 1 = t1 ∧ z 2 = t2 := ⟨fun i => match i with | 0 => t0 | 1 => t1 | _ => t2, rfl, rfl, rfl⟩
  have hZ : mm_Z s.heap.size z s s.heap := by
    intro i hi
    rcases (show i = 0 ∨ i = 1 ∨ i = 2 by omega) with rfl | rfl | rfl
    · rw [hz0]; exact ⟨z0, v0⟩
    · rw [hz1]; exact ⟨z1, v1⟩
    · rw [hz2]; exact ⟨z2, v2⟩
  have hN : mm_N s := by
    intro i hi
    rcases (show i = 0 ∨ i = 1 ∨ i = 2 by omega) with rfl | rfl | rfl
    · exact va_Nw.of rfl (hts0 (.fieldLinkNest RX3 63 RX4 "LEAST_SETTING" "[I" RX4) (by decide +kernel))
    · exact va_Nw.of rfl (hts0 (.fieldLinkNest RX3 66 RX4 "MOST_SETTING" "[I" RX4) (by decide +kernel))
    · exact va_Nw.of rfl (hts0 (.fieldLinkNest RX3 9 RX4 "FIRST_SETTING" "[I" RX4) (by decide +kernel))
  have hN2 : mm_N2 s := ⟨va_Nw.of rfl (hts0 (.methodLinkNest RX4 33 yX2_init RX4) (by decide +kernel)), va_Nw.of rfl (hts0 (.methodLinkNest RX4 40 yX1_init RX4) (by decide +kernel)), va_Nw.of rfl (hts0 (.methodLinkNest RX3 44 yX0_init RX4) (by decide +kernel)), va_Nw.of rfl (hts0 (.methodLinkNest RX3 49 yX1_init RX4) (by decide +kernel)), va_Nw.of rfl (hts0 (.castable "[I" "java/lang/Cloneable") (by decide +kernel)), va_AO.of hao1, va_AO.of hao3⟩
  have hA : ∀ a : Nat, a < s.heap.size → ¬ (fun q => s.heap.size ≤ q) a := fun a h => Nat.not_le.mpr h
  have hF : mm_F T s.heap.size z s.heap := by
    obtain ⟨cell, g1, g2, g3, g4, g5, g6, g7⟩ := v2
    have hsz : cell.slots.size = 7 := ws_len7 (va_eqt hlen2) e2 g1
    obtain ⟨cell', w1, w2, w3, -⟩ := va_Oof (A := fun q => s.heap.size ≤ q) (hs (Cond.exactly (.static RX4 "FIRST_SETTING" "[I") "[I") (by decide +kernel)) e2 hA
    cases g1.symm.trans w1
    refine ⟨by rw [hz2]; exact (Array.getElem?_eq_some_iff.mp g1).1, cell, by rw [hz2]; exact g1, ?_, (fun k h => by rw [h] at w2; cases w2), g3, hsz, fun j hj => g6 j hj⟩
    have h0 := va_nm_int (hT 0 _ rfl).2
    exact Option.some.inj (w3.symm.trans h0)
  have C : mm_C p m c cL_law 4 s #[.ref b] wsL_law RL G T s.heap.size z := ⟨hx, hb, hml, hown, hts, hK, hZ, hN⟩
  have E : mm_E p m c cL_law 4 s #[.ref b] wsL_law RL G T s.heap.size z 0 := ⟨C, hF, hN2, rfl⟩
  have hl := lv_entry ([.ref b]) (n := 4) (Nat.le_of_ble_eq_true rfl)
  rw [lg_entry_eq]
  generalize (lg_sl ([.ref b]) ++ List.replicate (4 - (lg_sl ([.ref b])).length) Slot.unset).toArray = ls at hl ⊢
  have hl : lv_has ls 4 [(0, .ref b)] := hl
  have hO : mm_O G s.heap.size 0 (fun _ => .inr (0, [])) s s.heap [] := ⟨mm_Pof (fun k hk => absurd hk (Nat.not_lt_zero k)), va_S.rf⟩
  obtain ⟨f1, e1'⟩ : ∃ y, va_up (fun _ => (.inr (0, []) : va_E)) 0 (.inr (4, [.null, .null, .int 0, .null, .null, .null, .null])) = y := ⟨_, rfl⟩
  refine mo_new (ci := 4) (fs := [.null, .null, .int 0, .null, .null, .null, .null]) E hO rfl inlX4 tyX4_ok rfl (hts (.classLink RL 10 RX4) (by decide +kernel)) (hts (.instantiable RX4 7) (by decide +kernel)) hini (fun j hj => by rcases (show j = 0 ∨ j = 1 ∨ j = 2 ∨ j = 3 ∨ j = 4 ∨ j = 5 ∨ j = 6 by omega) with rfl | rfl | rfl | rfl | rfl | rfl | rfl <;> rfl) (Nat.le_of_ble_eq_true rfl) (Nat.le_of_ble_eq_true rfl) e1' dL_law_0 (fun H hO => ?_)
  refine lv_dup hx hb dL_law_3 rfl ?_
  refine mo_sz E hO (by omega) (fun hsz => ?_)
  refine mo_go hO (va_runI (As := []) (rest := [.ref (s.heap.size + 0)]) ⟨hx, hb, hml, hown, hts⟩ (co_X4_init l G T s.heap.size z f1 (mm_ups e1')) (cwI 0 hts gL_law_X4_init rfl rfl rfl hini (hts (.methodLink RL 73 yX4_init) (by decide +kernel)) (hts (.instanceMethod yX4_init) (by decide +kernel)) rfl df_X4_init.2 ⟨Nat.le_of_ble_eq_true rfl, Nat.le_of_ble_eq_true rfl⟩) ⟨mm_Bo.blind, mo_pre E hO hsz⟩ rfl rfl hl.1 rfl (lv_room (Nat.le_of_ble_eq_true rfl)) dL_law_4 ⟨Nat.le_of_ble_eq_true rfl, Nat.le_of_ble_eq_true rfl⟩) (fun H locs hO => ?_)
  refine lv_astore_n (lv' := [(1, .ref (s.heap.size + 0)), (0, .ref b)]) hx hb dL_law_7 rfl hl (by decide) rfl (fun ls hl => ?_)
  refine W.widen (k := 959) (n := 97376) (Nat.le_of_ble_eq_true rfl) (Nat.le_of_ble_eq_true rfl) ?_
  exact lp_L_law_8 rfl C hX ⟨hbl, hbl⟩ hr hlk mm_x0 _ _ _ (law_fn L xs hL) ⟨hO.1, hO.2⟩ hl
