theorem lw_fin {p : Program} {l : Launch} {e : Env} {s : State} {m : MethodId} {b0 : Nat} {below : List Frame} {meth : Method} {c : Code} {H : Heap} {locs : List Loc} {G : va_G} {T : Nat → ClassId} {z : Nat → Nat} {x : mm_M} {pc : Nat} {ls : Array Slot} (C : mm_C p m c cL_law 4 s #[.ref b0] wsL_law RL G T s.heap.size z) (hH : mm_L (fun q => s.heap.size ≤ q) G T s.heap.size x s H locs) (hr : meth.sig.returnType = ret) (hlk : meth.locks = false) (hdg : decode code pc = .ok (.ireturn, 1)) : W p l e room_1 s m #[Value.ref b0] below meth c H locs 1000 100000 (lw_Z below #[Value.ref b0] s) (F0 m pc ls [.int 1]) := by
  refine W.widen (k := 600000) (n := 7302250) (Nat.le_of_ble_eq_true rfl) (Nat.le_of_ble_eq_true rfl) (va_forget (fun q hq => hH.2.2.2 q hq) ?_)
  exact lw_ret C.1 C.2.1 hr hlk hdg
def fn_L_law_133 : Nat → Nat → (Nat → Int32) → Int32 → mm_M → Option mm_M
  | 0, _, _, _, _ => none
  | n + 1, L, xs, i3, x => if (3 : Int32) ≤ i3 then some (x) else (fn_L_cell L xs ((3 : Int32) + i3)).bind fun v1 => (fn_L_low v1 40 x).bind fun v2 => mm_b2 (fn_X4_landing v2 x) fun x1 v3 => if v3 = i3 then (some (i3 + 1)).bind fun v4 => fn_L_law_133 n L xs v4 x1 else none
def fn_L_law_168 : Nat → Nat → (Nat → Int32) → Int32 → mm_M → Option mm_M
  | 0, _, _, _, _ => none
  | n + 1, L, xs, i3, x => if (40 : Int32) ≤ i3 then some (x) else (fn_L_cell L xs ((6 : Int32) + ((2 : Int32) * i3))).bind fun v1 => (fn_L_cell L xs ((7 : Int32) + ((2 : Int32) * i3))).bind fun v2 => mm_b2 (fn_L_act v1 v2 x) fun x1 v3 => if v3 = 0 then none else (some (i3 + 1)).bind fun v4 => fn_L_law_168 n L xs v4 x1
set_option maxRecDepth 100000 in
set_option maxHeartbeats 4000000 in
theorem lp_L_law_133 {p : Program} {l : Launch} {e : Env} {s : State} {m : MethodId} {args : Array Value} {below : List Frame} {meth : Method} {c : Code} {Q : State → Prop} {G : va_G} {T : Nat → ClassId} {b : Nat} {z : Nat → Nat} (C : mm_C p m c cL_law 4 s args wsL_law RL G T b z) (L : Nat) (xs : (Nat → Int32)) (hbs : b = s.heap.size) {b0 : Nat} (hX : va_X b0 L xs s s.heap) (hbl : b0 < s.heap.size ∧ b0 < b) : ∀ (n : Nat) (i3 : Int32) (x : mm_M) (H : Heap) (locs : List Loc) (ls : Array Slot) (x1 : mm_M), fn_L_law_133 n L xs i3 x = some (x1) → mm_L (fun q => b ≤ q) G T b x s H locs → lv_has ls 4 [(0, .ref b0), (1, .ref (b + 0)), (3, .int i3)] → (∀ (H1 : Heap) (locs1 : List Loc) (ls1 : Array Slot), mm_L (fun q => b ≤ q) G T b x1 s H1 locs1 → lv_has ls1 4 [(0, .ref b0), (1, .ref (b + 0))] → W p l e room_1 s m args below meth c H1 locs1 959 97376 Q (F0 m 166 ls1 [])) → W p l e room_1 s m args below meth c H locs 959 97376 Q (F0 m 133 ls []) := by
  have hx := C.1
  have hb := C.2.1
  have hA := mm_AAl (b := b)
  intro n
  induction n with
  | zero => intro _ _ _ _ _ _ h; cases (show (none : Option mm_M) = some _ from h)
  | succ n ih =>
    intro i3 x H locs ls x1 h hH hl kk
    rw [fn_L_law_133] at h
    refine lv_iload_n hx hb dL_law_133 rfl (lv_at hl 2 rfl) ?_
    refine lv_iconst (v := 3) hx hb dL_law_134 (by decide) ?_
    refine lv_icmp_ge (tgt := 166) hx hb dL_law_135 (by decide) (fun c1 => ?_) (fun c1 => ?_)
    · have h := mm_pos c1 h
      have hl := lv_sub (l' := [(0, .ref b0), (1, .ref (b + 0))]) hl [0, 1] rfl
      cases h
      exact kk _ _ _ hH (lv_sub hl [0, 1] rfl)
    · have h := mm_neg c1 h
      refine lv_aload_n hx hb dL_law_138 rfl (lv_at hl 1 rfl) ?_
      refine lv_aload_n hx hb dL_law_139 rfl (lv_at hl 0 rfl) ?_
      refine lv_iconst (v := 3) hx hb dL_law_140 (by decide) ?_
      refine lv_iload_n hx hb dL_law_141 rfl (lv_at hl 2 rfl) ?_
      refine lv_iadd hx hb dL_law_142 ?_
      obtain ⟨v1, e1, h⟩ := mm_bnd h
      refine ml_goi hH hA (va_runS (As := [.ref b0, .int ((3 : Int32) + i3)]) (rest := [.ref (b + 0)]) ⟨hx, hb, C.2.2.1, C.2.2.2.1, C.2.2.2.2.1⟩ (ct_L_cell l G T b z b0 L xs ((3 : Int32) + i3) x e1) (va_cwS 2 C.2.2.2.2.1 gL_law_L_cell rfl rfl rfl df_L_cell.2 ⟨Nat.le_of_ble_eq_true rfl, Nat.le_of_ble_eq_true rfl⟩) ⟨mm_BX.blind, mm_preX C hH hA hX hbl⟩ rfl rfl hl.1 rfl (lv_room (Nat.le_of_ble_eq_true rfl)) dL_law_143 ⟨by show _ ≤ 600000; omega, by show _ ≤ 7302250; omega⟩) (fun H locs hH => ?_)
      refine lv_bipush (v := 40) hx hb dL_law_146 (by decide) ?_
      obtain ⟨v2, e2, h⟩ := mm_bnd h
      refine ml_goi hH hA (va_runS (As := [.int v1, .int 40]) (rest := [.ref (b + 0)]) ⟨hx, hb, C.2.2.1, C.2.2.2.1, C.2.2.2.2.1⟩ (ct_L_low l G T b z v1 40 x e2) (va_cwS 2 C.2.2.2.2.1 gL_law_L_low rfl rfl rfl df_L_low.2 ⟨Nat.le_of_ble_eq_true rfl, Nat.le_of_ble_eq_true rfl⟩) ⟨mm_B.blind, mm_preL C hH hA⟩ rfl rfl hl.1 rfl (lv_room (Nat.le_of_ble_eq_true rfl)) dL_law_148 ⟨by show _ ≤ 600000; omega, by show _ ≤ 7302250; omega⟩) (fun H locs hH => ?_)
      obtain ⟨x1, v3, e3, h⟩ := mm_bnd2 h
      refine ml_goi hH hA (va_runV (As := [.int v2]) (rest := []) ⟨hx, hb, C.2.2.1, C.2.2.2.1, C.2.2.2.2.1⟩ (ct_X4_landing l G T b z v2 x e3) (cwV 1 C.2.2.2.2.1 gL_law_X4_landing rfl rfl rfl df_X4_landing ⟨Nat.le_of_ble_eq_true rfl, Nat.le_of_ble_eq_true rfl⟩) ⟨mm_B.blind, mm_recvL (q := (RX4, TX4, 7)) C hH kl_0 (mm_e4 kd_0) rfl, mm_preL C hH hA⟩ rfl rfl hl.1 rfl (lv_room (Nat.le_of_ble_eq_true rfl)) dL_law_151 ⟨by show _ ≤ 600000; omega, by show _ ≤ 7302250; omega⟩) (fun H locs hH => ?_)
      refine lv_iload_n hx hb dL_law_154 rfl (lv_at hl 2 rfl) ?_
      refine lv_icmp_eq (tgt := 160) hx hb dL_law_155 (by decide) (fun c2 => ?_) (fun c2 => ?_)
      · have h := mm_pos c2 h
        obtain ⟨v4, e4, h⟩ := mm_bnd h
        refine lv_iinc (v := v4) (lv' := [(3, .int v4), (0, .ref b0), (1, .ref (b + 0))]) hx hb dL_law_160 hl (k := 2) rfl (Option.some.inj e4) (by decide) rfl (fun ls hl => ?_)
        refine lv_goto (tgt := 133) hx hb dL_law_163 (by decide) ?_
        exact ih v4 x1 _ _ _ _ h hH (lv_sub hl [1, 2, 0] rfl) kk
      · have h := mm_neg c2 h
        have hl := lv_sub (l' := []) hl [] rfl
        cases h
set_option maxRecDepth 100000 in
set_option maxHeartbeats 4000000 in
theorem lp_L_law_168 {p : Program} {l : Launch} {e : Env} {s : State} {m : MethodId} {args : Array Value} {below : List Frame} {meth : Method} {c : Code} {Q : State → Prop} {G : va_G} {T : Nat → ClassId} {b : Nat} {z : Nat → Nat} (C : mm_C p m c cL_law 4 s args wsL_law RL G T b z) (L : Nat) (xs : (Nat → Int32)) (hbs : b = s.heap.size) {b0 : Nat} (hX : va_X b0 L xs s s.heap) (hbl : b0 < s.heap.size ∧ b0 < b) : ∀ (n : Nat) (hn : n ≤ 41) (i3 : Int32) (x : mm_M) (H : Heap) (locs : List Loc) (ls : Array Slot) (x1 : mm_M), fn_L_law_168 n L xs i3 x = some (x1) → mm_L (fun q => b ≤ q) G T b x s H locs → lv_has ls 4 [(0, .ref b0), (1, .ref (b + 0)), (3, .int i3)] → (∀ (H1 : Heap) (locs1 : List Loc) (ls1 : Array Slot), mm_L (fun q => b ≤ q) G T b x1 s H1 locs1 → lv_has ls1 4 [(1, .ref (b + 0))] → W p l e room_1 s m args below meth c H1 locs1 1000 100000 Q (F0 m 209 ls1 [])) → W p l e room_1 s m args below meth c H locs (1000 - n) (100000 - 64 * n) Q (F0 m 168 ls []) := by
  have hx := C.1
  have hb := C.2.1
  have hA := mm_AAl (b := b)
  intro n
  induction n with
  | zero => intro _ _ _ _ _ _ _ h; cases (show (none : Option mm_M) = some _ from h)
  | succ n ih =>
    intro hn i3 x H locs ls x1 h hH hl kk
    rw [fn_L_law_168] at h
    refine lv_iload_n hx hb dL_law_168 rfl (lv_at hl 2 rfl) ?_
    refine lv_bipush (v := 40) hx hb dL_law_169 (by decide) ?_
    refine lv_icmp_ge (tgt := 209) hx hb dL_law_171 (by decide) (fun c1 => ?_) (fun c1 => ?_)
    · have h := mm_pos c1 h
      have hl := lv_sub (l' := [(1, .ref (b + 0))]) hl [1] rfl
      cases h
      refine W.widen (k := 1000) (n := 100000) (by omega) (by omega) ?_
      exact kk _ _ _ hH (lv_sub hl [0] rfl)
    · have h := mm_neg c1 h
      refine lv_aload_n hx hb dL_law_174 rfl (lv_at hl 1 rfl) ?_
      refine lv_aload_n hx hb dL_law_175 rfl (lv_at hl 0 rfl) ?_
      refine lv_bipush (v := 6) hx hb dL_law_176 (by decide) ?_
      refine lv_iconst (v := 2) hx hb dL_law_178 (by decide) ?_
      refine lv_iload_n hx hb dL_law_179 rfl (lv_at hl 2 rfl) ?_
      refine lv_imul hx hb dL_law_180 ?_
      refine lv_iadd hx hb dL_law_181 ?_
      obtain ⟨v1, e1, h⟩ := mm_bnd h
      refine ml_goi hH hA (va_runS (As := [.ref b0, .int ((6 : Int32) + ((2 : Int32) * i3))]) (rest := [.ref (b + 0)]) ⟨hx, hb, C.2.2.1, C.2.2.2.1, C.2.2.2.2.1⟩ (ct_L_cell l G T b z b0 L xs ((6 : Int32) + ((2 : Int32) * i3)) x e1) (va_cwS 2 C.2.2.2.2.1 gL_law_L_cell rfl rfl rfl df_L_cell.2 ⟨Nat.le_of_ble_eq_true rfl, Nat.le_of_ble_eq_true rfl⟩) ⟨mm_BX.blind, mm_preX C hH hA hX hbl⟩ rfl rfl hl.1 rfl (lv_room (Nat.le_of_ble_eq_true rfl)) dL_law_182 ⟨by show _ ≤ 600000; omega, by show _ ≤ 7302250; omega⟩) (fun H locs hH => ?_)
      refine lv_aload_n hx hb dL_law_185 rfl (lv_at hl 0 rfl) ?_
      refine lv_bipush (v := 7) hx hb dL_law_186 (by decide) ?_
      refine lv_iconst (v := 2) hx hb dL_law_188 (by decide) ?_
      refine lv_iload_n hx hb dL_law_189 rfl (lv_at hl 2 rfl) ?_
      refine lv_imul hx hb dL_law_190 ?_
      refine lv_iadd hx hb dL_law_191 ?_
      obtain ⟨v2, e2, h⟩ := mm_bnd h
      refine ml_goi hH hA (va_runS (As := [.ref b0, .int ((7 : Int32) + ((2 : Int32) * i3))]) (rest := [.int v1, .ref (b + 0)]) ⟨hx, hb, C.2.2.1, C.2.2.2.1, C.2.2.2.2.1⟩ (ct_L_cell l G T b z b0 L xs ((7 : Int32) + ((2 : Int32) * i3)) x e2) (va_cwS 2 C.2.2.2.2.1 gL_law_L_cell rfl rfl rfl df_L_cell.2 ⟨Nat.le_of_ble_eq_true rfl, Nat.le_of_ble_eq_true rfl⟩) ⟨mm_BX.blind, mm_preX C hH hA hX hbl⟩ rfl rfl hl.1 rfl (lv_room (Nat.le_of_ble_eq_true rfl)) dL_law_192 ⟨by show _ ≤ 600000; omega, by show _ ≤ 7302250; omega⟩) (fun H locs hH => ?_)
      obtain ⟨x1, v3, e3, h⟩ := mm_bnd2 h
      refine ml_gon hH hA (fun q h => by have := hH.2.1; show b ≤ q; omega) (va_runS (As := [.ref (b + 0), .int v1, .int v2]) (rest := []) ⟨hx, hb, C.2.2.1, C.2.2.2.1, C.2.2.2.2.1⟩ (ct_L_act l G T b z H.size v1 v2 x e3) (va_cwS 3 C.2.2.2.2.1 gL_law_L_act rfl rfl rfl df_L_act.2 ⟨Nat.le_of_ble_eq_true rfl, Nat.le_of_ble_eq_true rfl⟩) ⟨mm_Bn.blind, mm_preN C hH hA⟩ rfl rfl hl.1 rfl (lv_room (Nat.le_of_ble_eq_true rfl)) dL_law_195 ⟨by show _ ≤ 600000; omega, by show _ ≤ 7302250; omega⟩) (fun H locs hH => ?_)
      refine W.widen (k := 1000 - n) (n := 100000 - 64 * n) (by omega) (by omega) ?_
      refine lv_if_ne (tgt := 203) hx hb dL_law_198 (by decide) (fun c2 => ?_) (fun c2 => ?_)
      · have h := mm_neg c2 h
        obtain ⟨v4, e4, h⟩ := mm_bnd h
        refine lv_iinc (v := v4) (lv' := [(3, .int v4), (0, .ref b0), (1, .ref (b + 0))]) hx hb dL_law_203 hl (k := 2) rfl (Option.some.inj e4) (by decide) rfl (fun ls hl => ?_)
        refine lv_goto (tgt := 168) hx hb dL_law_206 (by decide) ?_
        exact ih (by omega) v4 x1 _ _ _ _ h hH (lv_sub hl [1, 2, 0] rfl) kk
      · have h := mm_pos c2 h
        have hl := lv_sub (l' := []) hl [] rfl
        cases h
def fn_L_law (L : Nat) (xs : Nat → Int32) (x : mm_M) : Option Int32 :=
  (fn_L_cell L xs 0).bind fun v1 => (fn_L_low v1 3000 x).bind fun v2 => mm_b2 (fn_X4_set 0 v2 x) fun x1 v3 => (fn_L_low (v1 >>> ((4 : Int32) &&& 31)) 1500 x1).bind fun v4 => mm_b2 (fn_X4_set 1 v4 x1) fun x2 v5 => (fn_L_low (v1 >>> ((8 : Int32) &&& 31)) 2000 x2).bind fun v6 => mm_b2 (fn_X4_set 2 v6 x2) fun x3 v7 => (fn_L_low (v1 >>> ((12 : Int32) &&& 31)) 12 x3).bind fun v8 => mm_b2 (fn_X4_set 3 ((1 : Int32) + v8) x3) fun x4 v9 => (fn_L_cell L xs 1).bind fun v10 => (fn_L_low v10 5000 x4).bind fun v11 => mm_b2 (fn_X4_set 4 ((1 : Int32) + v11) x4) fun x5 v12 => (fn_L_cell L xs 2).bind fun v13 => (fn_L_low v13 2500 x5).bind fun v14 => mm_b2 (fn_X4_set 5 ((1 : Int32) + v14) x5) fun x6 v15 => (fn_L_low (v1 >>> ((16 : Int32) &&& 31)) 30 x6).bind fun v16 => mm_b2 (fn_X4_set 6 ((1 : Int32) + v16) x6) fun x7 v17 => (fn_L_law_133 4 L xs 0 x7).bind fun x8 => (fn_L_law_168 41 L xs 0 x8).bind fun x9 => mm_b2 (fn_X4_landing 1000 x9) fun x10 v18 => if v18 = (-2) then mm_b2 (fn_X4_open 8 x10) fun x11 v19 => if v19 = (-1) then mm_b2 (fn_X4_pass 0 x11) fun x12 v20 => if v20 = (-2) then (fn_X4_of 8 0 x12).bind fun v21 => if v21 = (-1) then (fn_X4_of 0 8 x12).bind fun v22 => if v22 = (-2) then (fn_X4_count 16 x12).bind fun v23 => if v23 = (-2) then some (1 : Int32) else none else none else none else none else none else none
set_option maxRecDepth 100000 in
set_option maxHeartbeats 8000000 in
theorem lp_L_law_8 {p : Program} {l : Launch} {e : Env} {s : State} {m : MethodId} {b0 : Nat} {below : List Frame} {meth : Method} {c : Code} {G : va_G} {T : Nat → ClassId} {b : Nat} {z : Nat → Nat} (hbs : b = s.heap.size) (C : mm_C p m c cL_law 4 s #[.ref b0] wsL_law RL G T b z) {L : Nat} {xs : Nat → Int32} (hX : va_X b0 L xs s s.heap) (hbl : b0 < s.heap.size ∧ b0 < b) (hr : meth.sig.returnType = ret) (hlk : meth.locks = false) (x : mm_M) (H : Heap) (locs : List Loc) (ls : Array Slot) (h : fn_L_law L xs x = some 1) (hH : mm_L (fun q => b ≤ q) G T b x s H locs) (hl : lv_has ls 4 [(1, .ref (b + 0)), (0, .ref b0)]) : W p l e room_1 s m #[Value.ref b0] below meth c H locs 959 97376 (lw_Z below #[Value.ref b0] s) (F0 m 8 ls []) := by
  unfold fn_L_law at h
  have hx := C.1
  have hb := C.2.1
  have hA := mm_AAl (b := b)
  refine lv_aload_n hx hb dL_law_8 rfl (lv_at hl 1 rfl) ?_
  refine lv_iconst (v := 0) hx hb dL_law_9 (by decide) ?_
  obtain ⟨v1, e1, h⟩ := mm_bnd h
  refine ml_goi hH hA (va_runS (As := [.ref b0, .int 0]) (rest := []) ⟨hx, hb, C.2.2.1, C.2.2.2.1, C.2.2.2.2.1⟩ (ct_L_cell l G T b z b0 L xs 0 x e1) (va_cwS 2 C.2.2.2.2.1 gL_law_L_cell rfl rfl rfl df_L_cell.2 ⟨Nat.le_of_ble_eq_true rfl, Nat.le_of_ble_eq_true rfl⟩) ⟨mm_BX.blind, mm_preX C hH hA hX hbl⟩ rfl rfl hl.1 rfl (lv_room (Nat.le_of_ble_eq_true rfl)) dL_law_10 ⟨by show _ ≤ 600000; omega, by show _ ≤ 7302250; omega⟩) (fun H locs hH => ?_)
  refine lv_istore_n (lv' := [(2, .int v1), (1, .ref (b + 0)), (0, .ref b0)]) hx hb dL_law_13 rfl hl (by decide) rfl (fun ls hl => ?_)
  refine lv_aload_n hx hb dL_law_14 rfl (lv_at hl 1 rfl) ?_
  refine lv_iconst (v := 0) hx hb dL_law_15 (by decide) ?_
  refine lv_iload_n hx hb dL_law_16 rfl (lv_at hl 0 rfl) ?_
  refine lv_sipush (v := 3000) hx hb dL_law_17 (by decide) ?_
  obtain ⟨v2, e2, h⟩ := mm_bnd h
  refine ml_goi hH hA (va_runS (As := [.int v1, .int 3000]) (rest := [.int 0, .ref (b + 0)]) ⟨hx, hb, C.2.2.1, C.2.2.2.1, C.2.2.2.2.1⟩ (ct_L_low l G T b z v1 3000 x e2) (va_cwS 2 C.2.2.2.2.1 gL_law_L_low rfl rfl rfl df_L_low.2 ⟨Nat.le_of_ble_eq_true rfl, Nat.le_of_ble_eq_true rfl⟩) ⟨mm_B.blind, mm_preL C hH hA⟩ rfl rfl hl.1 rfl (lv_room (Nat.le_of_ble_eq_true rfl)) dL_law_20 ⟨by show _ ≤ 600000; omega, by show _ ≤ 7302250; omega⟩) (fun H locs hH => ?_)
  obtain ⟨x1, v3, e3, h⟩ := mm_bnd2 h
  refine ml_goi hH hA (va_runV (As := [.int 0, .int v2]) (rest := []) ⟨hx, hb, C.2.2.1, C.2.2.2.1, C.2.2.2.2.1⟩ (ct_X4_set l G T b z 0 v2 x e3) (cwV 2 C.2.2.2.2.1 gL_law_X4_set rfl rfl rfl df_X4_set ⟨Nat.le_of_ble_eq_true rfl, Nat.le_of_ble_eq_true rfl⟩) ⟨mm_B.blind, mm_recvL (q := (RX4, TX4, 7)) C hH kl_0 (mm_e4 kd_0) rfl, mm_preL C hH hA⟩ rfl rfl hl.1 rfl (lv_room (Nat.le_of_ble_eq_true rfl)) dL_law_23 ⟨by show _ ≤ 600000; omega, by show _ ≤ 7302250; omega⟩) (fun H locs hH => ?_)
  refine lv_pop hx hb dL_law_26 rfl ?_
  refine lv_aload_n hx hb dL_law_27 rfl (lv_at hl 1 rfl) ?_
  refine lv_iconst (v := 1) hx hb dL_law_28 (by decide) ?_
  refine lv_iload_n hx hb dL_law_29 rfl (lv_at hl 0 rfl) ?_
  refine lv_iconst (v := 4) hx hb dL_law_30 (by decide) ?_
  refine lv_ishr hx hb dL_law_31 ?_
  refine lv_sipush (v := 1500) hx hb dL_law_32 (by decide) ?_
  obtain ⟨v4, e4, h⟩ := mm_bnd h
  refine ml_goi hH hA (va_runS (As := [.int (v1 >>> ((4 : Int32) &&& 31)), .int 1500]) (rest := [.int 1, .ref (b + 0)]) ⟨hx, hb, C.2.2.1, C.2.2.2.1, C.2.2.2.2.1⟩ (ct_L_low l G T b z (v1 >>> ((4 : Int32) &&& 31)) 1500 x1 e4) (va_cwS 2 C.2.2.2.2.1 gL_law_L_low rfl rfl rfl df_L_low.2 ⟨Nat.le_of_ble_eq_true rfl, Nat.le_of_ble_eq_true rfl⟩) ⟨mm_B.blind, mm_preL C hH hA⟩ rfl rfl hl.1 rfl (lv_room (Nat.le_of_ble_eq_true rfl)) dL_law_35 ⟨by show _ ≤ 600000; omega, by show _ ≤ 7302250; omega⟩) (fun H locs hH => ?_)
  obtain ⟨x2, v5, e5, h⟩ := mm_bnd2 h
  refine ml_goi hH hA (va_runV (As := [.int 1, .int v4]) (rest := []) ⟨hx, hb, C.2.2.1, C.2.2.2.1, C.2.2.2.2.1⟩ (ct_X4_set l G T b z 1 v4 x1 e5) (cwV 2 C.2.2.2.2.1 gL_law_X4_set rfl rfl rfl df_X4_set ⟨Nat.le_of_ble_eq_true rfl, Nat.le_of_ble_eq_true rfl⟩) ⟨mm_B.blind, mm_recvL (q := (RX4, TX4, 7)) C hH kl_0 (mm_e4 kd_0) rfl, mm_preL C hH hA⟩ rfl rfl hl.1 rfl (lv_room (Nat.le_of_ble_eq_true rfl)) dL_law_38 ⟨by show _ ≤ 600000; omega, by show _ ≤ 7302250; omega⟩) (fun H locs hH => ?_)
  refine lv_pop hx hb dL_law_41 rfl ?_
  refine lv_aload_n hx hb dL_law_42 rfl (lv_at hl 1 rfl) ?_
  refine lv_iconst (v := 2) hx hb dL_law_43 (by decide) ?_
  refine lv_iload_n hx hb dL_law_44 rfl (lv_at hl 0 rfl) ?_
  refine lv_bipush (v := 8) hx hb dL_law_45 (by decide) ?_
  refine lv_ishr hx hb dL_law_47 ?_
  refine lv_sipush (v := 2000) hx hb dL_law_48 (by decide) ?_
  obtain ⟨v6, e6, h⟩ := mm_bnd h
  refine ml_goi hH hA (va_runS (As := [.int (v1 >>> ((8 : Int32) &&& 31)), .int 2000]) (rest := [.int 2, .ref (b + 0)]) ⟨hx, hb, C.2.2.1, C.2.2.2.1, C.2.2.2.2.1⟩ (ct_L_low l G T b z (v1 >>> ((8 : Int32) &&& 31)) 2000 x2 e6) (va_cwS 2 C.2.2.2.2.1 gL_law_L_low rfl rfl rfl df_L_low.2 ⟨Nat.le_of_ble_eq_true rfl, Nat.le_of_ble_eq_true rfl⟩) ⟨mm_B.blind, mm_preL C hH hA⟩ rfl rfl hl.1 rfl (lv_room (Nat.le_of_ble_eq_true rfl)) dL_law_51 ⟨by show _ ≤ 600000; omega, by show _ ≤ 7302250; omega⟩) (fun H locs hH => ?_)
  obtain ⟨x3, v7, e7, h⟩ := mm_bnd2 h
  refine ml_goi hH hA (va_runV (As := [.int 2, .int v6]) (rest := []) ⟨hx, hb, C.2.2.1, C.2.2.2.1, C.2.2.2.2.1⟩ (ct_X4_set l G T b z 2 v6 x2 e7) (cwV 2 C.2.2.2.2.1 gL_law_X4_set rfl rfl rfl df_X4_set ⟨Nat.le_of_ble_eq_true rfl, Nat.le_of_ble_eq_true rfl⟩) ⟨mm_B.blind, mm_recvL (q := (RX4, TX4, 7)) C hH kl_0 (mm_e4 kd_0) rfl, mm_preL C hH hA⟩ rfl rfl hl.1 rfl (lv_room (Nat.le_of_ble_eq_true rfl)) dL_law_54 ⟨by show _ ≤ 600000; omega, by show _ ≤ 7302250; omega⟩) (fun H locs hH => ?_)
  refine lv_pop hx hb dL_law_57 rfl ?_
  refine lv_aload_n hx hb dL_law_58 rfl (lv_at hl 1 rfl) ?_
  refine lv_iconst (v := 3) hx hb dL_law_59 (by decide) ?_
  refine lv_iconst (v := 1) hx hb dL_law_60 (by decide) ?_
  refine lv_iload_n hx hb dL_law_61 rfl (lv_at hl 0 rfl) ?_
  refine lv_bipush (v := 12) hx hb dL_law_62 (by decide) ?_
  refine lv_ishr hx hb dL_law_64 ?_
  refine lv_bipush (v := 12) hx hb dL_law_65 (by decide) ?_
  obtain ⟨v8, e8, h⟩ := mm_bnd h
  refine ml_goi hH hA (va_runS (As := [.int (v1 >>> ((12 : Int32) &&& 31)), .int 12]) (rest := [.int 1, .int 3, .ref (b + 0)]) ⟨hx, hb, C.2.2.1, C.2.2.2.1, C.2.2.2.2.1⟩ (ct_L_low l G T b z (v1 >>> ((12 : Int32) &&& 31)) 12 x3 e8) (va_cwS 2 C.2.2.2.2.1 gL_law_L_low rfl rfl rfl df_L_low.2 ⟨Nat.le_of_ble_eq_true rfl, Nat.le_of_ble_eq_true rfl⟩) ⟨mm_B.blind, mm_preL C hH hA⟩ rfl rfl hl.1 rfl (lv_room (Nat.le_of_ble_eq_true rfl)) dL_law_67 ⟨by show _ ≤ 600000; omega, by show _ ≤ 7302250; omega⟩) (fun H locs hH => ?_)
  refine lv_iadd hx hb dL_law_70 ?_
  obtain ⟨x4, v9, e9, h⟩ := mm_bnd2 h
  refine ml_goi hH hA (va_runV (As := [.int 3, .int ((1 : Int32) + v8)]) (rest := []) ⟨hx, hb, C.2.2.1, C.2.2.2.1, C.2.2.2.2.1⟩ (ct_X4_set l G T b z 3 ((1 : Int32) + v8) x3 e9) (cwV 2 C.2.2.2.2.1 gL_law_X4_set rfl rfl rfl df_X4_set ⟨Nat.le_of_ble_eq_true rfl, Nat.le_of_ble_eq_true rfl⟩) ⟨mm_B.blind, mm_recvL (q := (RX4, TX4, 7)) C hH kl_0 (mm_e4 kd_0) rfl, mm_preL C hH hA⟩ rfl rfl hl.1 rfl (lv_room (Nat.le_of_ble_eq_true rfl)) dL_law_71 ⟨by show _ ≤ 600000; omega, by show _ ≤ 7302250; omega⟩) (fun H locs hH => ?_)
  refine lv_pop hx hb dL_law_74 rfl ?_
  refine lv_aload_n hx hb dL_law_75 rfl (lv_at hl 1 rfl) ?_
  refine lv_iconst (v := 4) hx hb dL_law_76 (by decide) ?_
  refine lv_iconst (v := 1) hx hb dL_law_77 (by decide) ?_
  refine lv_aload_n hx hb dL_law_78 rfl (lv_at hl 2 rfl) ?_
  refine lv_iconst (v := 1) hx hb dL_law_79 (by decide) ?_
  obtain ⟨v10, e10, h⟩ := mm_bnd h
  refine ml_goi hH hA (va_runS (As := [.ref b0, .int 1]) (rest := [.int 1, .int 4, .ref (b + 0)]) ⟨hx, hb, C.2.2.1, C.2.2.2.1, C.2.2.2.2.1⟩ (ct_L_cell l G T b z b0 L xs 1 x4 e10) (va_cwS 2 C.2.2.2.2.1 gL_law_L_cell rfl rfl rfl df_L_cell.2 ⟨Nat.le_of_ble_eq_true rfl, Nat.le_of_ble_eq_true rfl⟩) ⟨mm_BX.blind, mm_preX C hH hA hX hbl⟩ rfl rfl hl.1 rfl (lv_room (Nat.le_of_ble_eq_true rfl)) dL_law_80 ⟨by show _ ≤ 600000; omega, by show _ ≤ 7302250; omega⟩) (fun H locs hH => ?_)
  refine lv_sipush (v := 5000) hx hb dL_law_83 (by decide) ?_
  obtain ⟨v11, e11, h⟩ := mm_bnd h
  refine ml_goi hH hA (va_runS (As := [.int v10, .int 5000]) (rest := [.int 1, .int 4, .ref (b + 0)]) ⟨hx, hb, C.2.2.1, C.2.2.2.1, C.2.2.2.2.1⟩ (ct_L_low l G T b z v10 5000 x4 e11) (va_cwS 2 C.2.2.2.2.1 gL_law_L_low rfl rfl rfl df_L_low.2 ⟨Nat.le_of_ble_eq_true rfl, Nat.le_of_ble_eq_true rfl⟩) ⟨mm_B.blind, mm_preL C hH hA⟩ rfl rfl hl.1 rfl (lv_room (Nat.le_of_ble_eq_true rfl)) dL_law_86 ⟨by show _ ≤ 600000; omega, by show _ ≤ 7302250; omega⟩) (fun H locs hH => ?_)
  refine lv_iadd hx hb dL_law_89 ?_
  obtain ⟨x5, v12, e12, h⟩ := mm_bnd2 h
  refine ml_goi hH hA (va_runV (As := [.int 4, .int ((1 : Int32) + v11)]) (rest := []) ⟨hx, hb, C.2.2.1, C.2.2.2.1, C.2.2.2.2.1⟩ (ct_X4_set l G T b z 4 ((1 : Int32) + v11) x4 e12) (cwV 2 C.2.2.2.2.1 gL_law_X4_set rfl rfl rfl df_X4_set ⟨Nat.le_of_ble_eq_true rfl, Nat.le_of_ble_eq_true rfl⟩) ⟨mm_B.blind, mm_recvL (q := (RX4, TX4, 7)) C hH kl_0 (mm_e4 kd_0) rfl, mm_preL C hH hA⟩ rfl rfl hl.1 rfl (lv_room (Nat.le_of_ble_eq_true rfl)) dL_law_90 ⟨by show _ ≤ 600000; omega, by show _ ≤ 7302250; omega⟩) (fun H locs hH => ?_)
  refine lv_pop hx hb dL_law_93 rfl ?_
  refine lv_aload_n hx hb dL_law_94 rfl (lv_at hl 1 rfl) ?_
  refine lv_iconst (v := 5) hx hb dL_law_95 (by decide) ?_
  refine lv_iconst (v := 1) hx hb dL_law_96 (by decide) ?_
  refine lv_aload_n hx hb dL_law_97 rfl (lv_at hl 2 rfl) ?_
  refine lv_iconst (v := 2) hx hb dL_law_98 (by decide) ?_
  obtain ⟨v13, e13, h⟩ := mm_bnd h
  refine ml_goi hH hA (va_runS (As := [.ref b0, .int 2]) (rest := [.int 1, .int 5, .ref (b + 0)]) ⟨hx, hb, C.2.2.1, C.2.2.2.1, C.2.2.2.2.1⟩ (ct_L_cell l G T b z b0 L xs 2 x5 e13) (va_cwS 2 C.2.2.2.2.1 gL_law_L_cell rfl rfl rfl df_L_cell.2 ⟨Nat.le_of_ble_eq_true rfl, Nat.le_of_ble_eq_true rfl⟩) ⟨mm_BX.blind, mm_preX C hH hA hX hbl⟩ rfl rfl hl.1 rfl (lv_room (Nat.le_of_ble_eq_true rfl)) dL_law_99 ⟨by show _ ≤ 600000; omega, by show _ ≤ 7302250; omega⟩) (fun H locs hH => ?_)
  refine lv_sipush (v := 2500) hx hb dL_law_102 (by decide) ?_
  obtain ⟨v14, e14, h⟩ := mm_bnd h
  refine ml_goi hH hA (va_runS (As := [.int v13, .int 2500]) (rest := [.int 1, .int 5, .ref (b + 0)]) ⟨hx, hb, C.2.2.1, C.2.2.2.1, C.2.2.2.2.1⟩ (ct_L_low l G T b z v13 2500 x5 e14) (va_cwS 2 C.2.2.2.2.1 gL_law_L_low rfl rfl rfl df_L_low.2 ⟨Nat.le_of_ble_eq_true rfl, Nat.le_of_ble_eq_true rfl⟩) ⟨mm_B.blind, mm_preL C hH hA⟩ rfl rfl hl.1 rfl (lv_room (Nat.le_of_ble_eq_true rfl)) dL_law_105 ⟨by show _ ≤ 600000; omega, by show _ ≤ 7302250; omega⟩) (fun H locs hH => ?_)
  refine lv_iadd hx hb dL_law_108 ?_
  obtain ⟨x6, v15, e15, h⟩ := mm_bnd2 h
  refine ml_goi hH hA (va_runV (As := [.int 5, .int ((1 : Int32) + v14)]) (rest := []) ⟨hx, hb, C.2.2.1, C.2.2.2.1, C.2.2.2.2.1⟩ (ct_X4_set l G T b z 5 ((1 : Int32) + v14) x5 e15) (cwV 2 C.2.2.2.2.1 gL_law_X4_set rfl rfl rfl df_X4_set ⟨Nat.le_of_ble_eq_true rfl, Nat.le_of_ble_eq_true rfl⟩) ⟨mm_B.blind, mm_recvL (q := (RX4, TX4, 7)) C hH kl_0 (mm_e4 kd_0) rfl, mm_preL C hH hA⟩ rfl rfl hl.1 rfl (lv_room (Nat.le_of_ble_eq_true rfl)) dL_law_109 ⟨by show _ ≤ 600000; omega, by show _ ≤ 7302250; omega⟩) (fun H locs hH => ?_)
  refine lv_pop hx hb dL_law_112 rfl ?_
  refine lv_aload_n hx hb dL_law_113 rfl (lv_at hl 1 rfl) ?_
  refine lv_bipush (v := 6) hx hb dL_law_114 (by decide) ?_
  refine lv_iconst (v := 1) hx hb dL_law_116 (by decide) ?_
  refine lv_iload_n hx hb dL_law_117 rfl (lv_at hl 0 rfl) ?_
  refine lv_bipush (v := 16) hx hb dL_law_118 (by decide) ?_
  refine lv_ishr hx hb dL_law_120 ?_
  refine lv_bipush (v := 30) hx hb dL_law_121 (by decide) ?_
  obtain ⟨v16, e16, h⟩ := mm_bnd h
  refine ml_goi hH hA (va_runS (As := [.int (v1 >>> ((16 : Int32) &&& 31)), .int 30]) (rest := [.int 1, .int 6, .ref (b + 0)]) ⟨hx, hb, C.2.2.1, C.2.2.2.1, C.2.2.2.2.1⟩ (ct_L_low l G T b z (v1 >>> ((16 : Int32) &&& 31)) 30 x6 e16) (va_cwS 2 C.2.2.2.2.1 gL_law_L_low rfl rfl rfl df_L_low.2 ⟨Nat.le_of_ble_eq_true rfl, Nat.le_of_ble_eq_true rfl⟩) ⟨mm_B.blind, mm_preL C hH hA⟩ rfl rfl hl.1 rfl (lv_room (Nat.le_of_ble_eq_true rfl)) dL_law_123 ⟨by show _ ≤ 600000; omega, by show _ ≤ 7302250; omega⟩) (fun H locs hH => ?_)
  refine lv_iadd hx hb dL_law_126 ?_
  obtain ⟨x7, v17, e17, h⟩ := mm_bnd2 h
  refine ml_goi hH hA (va_runV (As := [.int 6, .int ((1 : Int32) + v16)]) (rest := []) ⟨hx, hb, C.2.2.1, C.2.2.2.1, C.2.2.2.2.1⟩ (ct_X4_set l G T b z 6 ((1 : Int32) + v16) x6 e17) (cwV 2 C.2.2.2.2.1 gL_law_X4_set rfl rfl rfl df_X4_set ⟨Nat.le_of_ble_eq_true rfl, Nat.le_of_ble_eq_true rfl⟩) ⟨mm_B.blind, mm_recvL (q := (RX4, TX4, 7)) C hH kl_0 (mm_e4 kd_0) rfl, mm_preL C hH hA⟩ rfl rfl hl.1 rfl (lv_room (Nat.le_of_ble_eq_true rfl)) dL_law_127 ⟨by show _ ≤ 600000; omega, by show _ ≤ 7302250; omega⟩) (fun H locs hH => ?_)
  refine lv_pop hx hb dL_law_130 rfl ?_
  refine lv_iconst (v := 0) hx hb dL_law_131 (by decide) ?_
  refine lv_istore_n (lv' := [(3, .int 0), (2, .int v1), (1, .ref (b + 0)), (0, .ref b0)]) hx hb dL_law_132 rfl hl (by decide) rfl (fun ls hl => ?_)
  have hl := lv_sub (l' := [(3, .int 0), (1, .ref (b + 0)), (0, .ref b0)]) hl [0, 2, 3] rfl
  obtain ⟨x8, e18, h⟩ := mm_bnd h
  refine lp_L_law_133 C L xs hbs hX hbl 4 0 x7 _ _ _ _ e18 hH (lv_sub hl [2, 1, 0] rfl) (fun H locs ls hH hl => ?_)
  refine lv_iconst (v := 0) hx hb dL_law_166 (by decide) ?_
  refine lv_istore_n (lv' := [(3, .int 0), (0, .ref b0), (1, .ref (b + 0))]) hx hb dL_law_167 rfl hl (by decide) rfl (fun ls hl => ?_)
  obtain ⟨x9, e19, h⟩ := mm_bnd h
  refine lp_L_law_168 C L xs hbs hX hbl 41 (by omega) 0 x8 _ _ _ _ e19 hH (lv_sub hl [1, 2, 0] rfl) (fun H locs ls hH hl => ?_)
  refine lv_aload_n hx hb dL_law_209 rfl (lv_at hl 0 rfl) ?_
  refine lv_sipush (v := 1000) hx hb dL_law_210 (by decide) ?_
  obtain ⟨x10, v18, e20, h⟩ := mm_bnd2 h
  refine ml_goi hH hA (va_runV (As := [.int 1000]) (rest := []) ⟨hx, hb, C.2.2.1, C.2.2.2.1, C.2.2.2.2.1⟩ (ct_X4_landing l G T b z 1000 x9 e20) (cwV 1 C.2.2.2.2.1 gL_law_X4_landing rfl rfl rfl df_X4_landing ⟨Nat.le_of_ble_eq_true rfl, Nat.le_of_ble_eq_true rfl⟩) ⟨mm_B.blind, mm_recvL (q := (RX4, TX4, 7)) C hH kl_0 (mm_e4 kd_0) rfl, mm_preL C hH hA⟩ rfl rfl hl.1 rfl (lv_room (Nat.le_of_ble_eq_true rfl)) dL_law_213 ⟨by show _ ≤ 600000; omega, by show _ ≤ 7302250; omega⟩) (fun H locs hH => ?_)
  refine lv_bipush (v := (-2)) hx hb dL_law_216 (by decide) ?_
  refine lv_icmp_ne (tgt := 279) hx hb dL_law_218 (by decide) (fun c1 => ?_) (fun c1 => ?_)
  · have h := mm_neg c1 h
    have hl := lv_sub (l' := []) hl [] rfl
    cases h
  · have h := mm_pos c1 h
    refine lv_aload_n hx hb dL_law_221 rfl (lv_at hl 0 rfl) ?_
    refine lv_bipush (v := 8) hx hb dL_law_222 (by decide) ?_
    obtain ⟨x11, v19, e21, h⟩ := mm_bnd2 h
    refine ml_goi hH hA (va_runV (As := [.int 8]) (rest := []) ⟨hx, hb, C.2.2.1, C.2.2.2.1, C.2.2.2.2.1⟩ (ct_X4_open l G T b z 8 x10 e21) (cwV 1 C.2.2.2.2.1 gL_law_X4_open rfl rfl rfl df_X4_open ⟨Nat.le_of_ble_eq_true rfl, Nat.le_of_ble_eq_true rfl⟩) ⟨mm_B.blind, mm_recvL (q := (RX4, TX4, 7)) C hH kl_0 (mm_e4 kd_0) rfl, mm_preL C hH hA⟩ rfl rfl hl.1 rfl (lv_room (Nat.le_of_ble_eq_true rfl)) dL_law_224 ⟨by show _ ≤ 600000; omega, by show _ ≤ 7302250; omega⟩) (fun H locs hH => ?_)
    refine lv_iconst (v := (-1)) hx hb dL_law_227 (by decide) ?_
    refine lv_icmp_ne (tgt := 279) hx hb dL_law_228 (by decide) (fun c2 => ?_) (fun c2 => ?_)
    · have h := mm_neg c2 h
      have hl := lv_sub (l' := []) hl [] rfl
      cases h
    · have h := mm_pos c2 h
      refine lv_aload_n hx hb dL_law_231 rfl (lv_at hl 0 rfl) ?_
      refine lv_iconst (v := 0) hx hb dL_law_232 (by decide) ?_
      obtain ⟨x12, v20, e22, h⟩ := mm_bnd2 h
      refine ml_goi hH hA (va_runV (As := [.int 0]) (rest := []) ⟨hx, hb, C.2.2.1, C.2.2.2.1, C.2.2.2.2.1⟩ (ct_X4_pass l G T b z 0 x11 e22) (cwV 1 C.2.2.2.2.1 gL_law_X4_pass rfl rfl rfl df_X4_pass ⟨Nat.le_of_ble_eq_true rfl, Nat.le_of_ble_eq_true rfl⟩) ⟨mm_B.blind, mm_recvL (q := (RX4, TX4, 7)) C hH kl_0 (mm_e4 kd_0) rfl, mm_preL C hH hA⟩ rfl rfl hl.1 rfl (lv_room (Nat.le_of_ble_eq_true rfl)) dL_law_233 ⟨by show _ ≤ 600000; omega, by show _ ≤ 7302250; omega⟩) (fun H locs hH => ?_)
      refine lv_bipush (v := (-2)) hx hb dL_law_236 (by decide) ?_
      refine lv_icmp_ne (tgt := 279) hx hb dL_law_238 (by decide) (fun c3 => ?_) (fun c3 => ?_)
      · have h := mm_neg c3 h
        have hl := lv_sub (l' := []) hl [] rfl
        cases h
      · have h := mm_pos c3 h
        refine lv_aload_n hx hb dL_law_241 rfl (lv_at hl 0 rfl) ?_
        refine lv_bipush (v := 8) hx hb dL_law_242 (by decide) ?_
        refine lv_iconst (v := 0) hx hb dL_law_244 (by decide) ?_
        obtain ⟨v21, e23, h⟩ := mm_bnd h
        refine ml_goi hH hA (va_runV (As := [.int 8, .int 0]) (rest := []) ⟨hx, hb, C.2.2.1, C.2.2.2.1, C.2.2.2.2.1⟩ (ct_X4_of l G T b z 8 0 x12 e23) (cwV 2 C.2.2.2.2.1 gL_law_X4_of rfl rfl rfl df_X4_of ⟨Nat.le_of_ble_eq_true rfl, Nat.le_of_ble_eq_true rfl⟩) ⟨mm_B.blind, mm_recvL (q := (RX4, TX4, 7)) C hH kl_0 (mm_e4 kd_0) rfl, mm_preL C hH hA⟩ rfl rfl hl.1 rfl (lv_room (Nat.le_of_ble_eq_true rfl)) dL_law_245 ⟨by show _ ≤ 600000; omega, by show _ ≤ 7302250; omega⟩) (fun H locs hH => ?_)
        refine lv_iconst (v := (-1)) hx hb dL_law_248 (by decide) ?_
        refine lv_icmp_ne (tgt := 279) hx hb dL_law_249 (by decide) (fun c4 => ?_) (fun c4 => ?_)
        · have h := mm_neg c4 h
          have hl := lv_sub (l' := []) hl [] rfl
          cases h
        · have h := mm_pos c4 h
          refine lv_aload_n hx hb dL_law_252 rfl (lv_at hl 0 rfl) ?_
          refine lv_iconst (v := 0) hx hb dL_law_253 (by decide) ?_
          refine lv_bipush (v := 8) hx hb dL_law_254 (by decide) ?_
          obtain ⟨v22, e24, h⟩ := mm_bnd h
          refine ml_goi hH hA (va_runV (As := [.int 0, .int 8]) (rest := []) ⟨hx, hb, C.2.2.1, C.2.2.2.1, C.2.2.2.2.1⟩ (ct_X4_of l G T b z 0 8 x12 e24) (cwV 2 C.2.2.2.2.1 gL_law_X4_of rfl rfl rfl df_X4_of ⟨Nat.le_of_ble_eq_true rfl, Nat.le_of_ble_eq_true rfl⟩) ⟨mm_B.blind, mm_recvL (q := (RX4, TX4, 7)) C hH kl_0 (mm_e4 kd_0) rfl, mm_preL C hH hA⟩ rfl rfl hl.1 rfl (lv_room (Nat.le_of_ble_eq_true rfl)) dL_law_256 ⟨by show _ ≤ 600000; omega, by show _ ≤ 7302250; omega⟩) (fun H locs hH => ?_)
          refine lv_bipush (v := (-2)) hx hb dL_law_259 (by decide) ?_
          refine lv_icmp_ne (tgt := 279) hx hb dL_law_261 (by decide) (fun c5 => ?_) (fun c5 => ?_)
          · have h := mm_neg c5 h
            have hl := lv_sub (l' := []) hl [] rfl
            cases h
          · have h := mm_pos c5 h
            refine lv_aload_n hx hb dL_law_264 rfl (lv_at hl 0 rfl) ?_
            refine lv_bipush (v := 16) hx hb dL_law_265 (by decide) ?_
            obtain ⟨v23, e25, h⟩ := mm_bnd h
            refine ml_goi hH hA (va_runV (As := [.int 16]) (rest := []) ⟨hx, hb, C.2.2.1, C.2.2.2.1, C.2.2.2.2.1⟩ (ct_X4_count l G T b z 16 x12 e25) (cwV 1 C.2.2.2.2.1 gL_law_X4_count rfl rfl rfl df_X4_count ⟨Nat.le_of_ble_eq_true rfl, Nat.le_of_ble_eq_true rfl⟩) ⟨mm_B.blind, mm_recvL (q := (RX4, TX4, 7)) C hH kl_0 (mm_e4 kd_0) rfl, mm_preL C hH hA⟩ rfl rfl hl.1 rfl (lv_room (Nat.le_of_ble_eq_true rfl)) dL_law_267 ⟨by show _ ≤ 600000; omega, by show _ ≤ 7302250; omega⟩) (fun H locs hH => ?_)
            refine lv_bipush (v := (-2)) hx hb dL_law_270 (by decide) ?_
            refine lv_icmp_ne (tgt := 279) hx hb dL_law_272 (by decide) (fun c6 => ?_) (fun c6 => ?_)
            · have h := mm_neg c6 h
              have hl := lv_sub (l' := []) hl [] rfl
              cases h
            · have h := mm_pos c6 h
              have hl := lv_sub (l' := []) hl [] rfl
              refine lv_iconst (v := 1) hx hb dL_law_275 (by decide) ?_
              refine lv_goto (tgt := 280) hx hb dL_law_276 (by decide) ?_
              subst hbs
              exact lw_fin C hH hr hlk dL_law_280
