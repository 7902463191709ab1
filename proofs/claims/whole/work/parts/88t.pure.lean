/-! THE PAD: carrying out -/
def exV (len : Nat) (c : Nat → Nat) (p : Nat) (v : Nat → Int32) : (Nat → Int32) × Int32 := if c p = 43 then comV v (nI (onum len c p)) else if c p = 111 then turnV v (nI (olan c p)) 1 else if c p = 99 then turnV v (nI (olan c p)) 0 else if c p = 112 then costV v (nI (olan c p)) (nI (onum len c p)) else waitV v (nI (onum len c p))
theorem WV_ex {len : Nat} {c : Nat → Nat} {p : Nat} {v : Nat → Int32} (hv : WV v) : WV (exV len c p v).1 := by
  unfold exV
  by_cases k1 : c p = 43
  · rw [if_pos k1]; exact WV_com hv
  rw [if_neg k1]
  by_cases k3 : c p = 111
  · rw [if_pos k3]; exact WV_turn hv (Or.inr rfl)
  rw [if_neg k3]
  by_cases k2 : c p = 99
  · rw [if_pos k2]; exact WV_turn hv (Or.inl rfl)
  rw [if_neg k2]
  by_cases k4 : c p = 112
  · rw [if_pos k4]; exact WV_cost hv
  rw [if_neg k4]; exact WV_wait hv
theorem M_ex {y : mm_M} {u v : Nat → Int32} {len : Nat} {c : Nat → Nat} {p : Nat} (hv : WV v) : ∃ u' : Nat → Int32, (∀ j, j < 10 → u' j = u j) ∧ exM len c p (cs (cs y 157 u) 158 v) = some (cs (cs y 157 u') 158 (exV len c p v).1, (exV len c p v).2) := by
  unfold exV exM
  by_cases k1 : c p = 43
  · rw [if_pos k1, if_pos k1]; exact ⟨u, fun _ _ => rfl, pu_comes hv _⟩
  rw [if_neg k1, if_neg k1]
  by_cases k3 : c p = 111
  · rw [if_pos k3, if_pos k3]; exact ⟨u, fun _ _ => rfl, pu_turns hv _ (Or.inr rfl)⟩
  rw [if_neg k3, if_neg k3]
  by_cases k2 : c p = 99
  · rw [if_pos k2, if_pos k2]; exact ⟨u, fun _ _ => rfl, pu_turns hv _ (Or.inl rfl)⟩
  rw [if_neg k2, if_neg k2]
  by_cases k4 : c p = 112
  · rw [if_pos k4, if_pos k4]; exact ⟨u, fun _ _ => rfl, pu_costs hv _ _⟩
  rw [if_neg k4, if_neg k4]; exact pu_waits hv _
theorem B_ex {x x1 : mm_M} {v : Nat → Int32} {len : Nat} {c : Nat → Nat} {p : Nat} (hT : Tx len c) (hpl : p ≤ len) (hO : Od x x1 len c p) (ok : (ordO len c p).1 = true) (hv : WV v) (hS : Sim x1 1 v) (hB : BZ x1) :
    ∃ x2, fn_X4_carryOutOne x1 = some (x2, (exV len c p v).2) ∧ Sim x2 1 (exV len c p v).1 ∧ BZ x2 ∧ Fr15 x1 x2 := by
  obtain ⟨-, -, -, od⟩ := hO
  obtain ⟨o3, o5, o4⟩ := od ok
  obtain ⟨hlt, hk, -⟩ := (ord_b (c := c) hpl).2 ok
  have cc := hT.2 p hlt
  unfold fn_X4_carryOutOne
  simp only [Option.bind_some, mm_b2_eta]
  rw [o3]
  unfold exV
  by_cases k1 : c p = 43
  · rw [if_pos k1, if_pos (show nI (c p) = 43 by rw [k1]; rfl), o5 (by omega)]; exact B_com hv hS hB _
  rw [if_neg k1, if_neg (show ¬ nI (c p) = 43 from nI_ne (b := 43) (by omega) (by omega) k1)]
  by_cases k2 : c p = 99
  · rw [if_pos (show nI (c p) = 99 by rw [k2]; rfl), if_neg (by omega), if_pos k2, o4 (by omega)]; exact (B_turn hv hS hB _).2
  rw [if_neg (show ¬ nI (c p) = 99 from nI_ne (b := 99) (by omega) (by omega) k2)]
  by_cases k3 : c p = 111
  · rw [if_pos (show nI (c p) = 111 by rw [k3]; rfl), if_pos k3, o4 (by omega)]; exact (B_turn hv hS hB _).1
  rw [if_neg (show ¬ nI (c p) = 111 from nI_ne (b := 111) (by omega) (by omega) k3), if_neg k3, if_neg k2]
  by_cases k4 : c p = 112
  · rw [if_pos (show nI (c p) = 112 by rw [k4]; rfl), if_pos k4, o4 (by omega), o5 (by omega)]; exact B_cost hv hS hB _ _
  rw [if_neg (show ¬ nI (c p) = 112 from nI_ne (b := 112) (by omega) (by omega) k4), if_neg k4, o5 (by omega)]; exact B_pass hv hS hB _
theorem co_eq {len : Nat} {c : Nat → Nat} (hT : Tx len c) : ∀ (n i k f g p : Nat) (x : mm_M) (v : Nat → Int32), n ≤ f → n + 1 ≤ g → 3 * i ≤ p → p ≤ len → (wf len c n p).1 = true → Tc x len c → x 19 2 = nI p → WV v → Sim x 1 v → BZ x →
    ∃ x' r w, fn_X4_carryOut_30 f (nI k) (nI i) x = some (x', r) ∧ Sim x' 1 w ∧ WV w ∧ BZ x' ∧ (∀ a, (a = 0 ∨ 15 < a) → a ≠ 19 → x' a = x a) ∧
      ∀ (y : mm_M) (u : Nat → Int32), Tm (cs (cs y 157 u) 158 v) len c → u 8 = nI p → ∃ u' : Nat → Int32, (∀ j, j < 8 → u' j = u j) ∧ fn_X5_carryOut_23 g (nI k) 1 (cs (cs y 157 u) 158 v) = some (cs (cs y 157 u') 158 w, r) := by
  intro n
  induction n with
  | zero => intro i k f g p x v _ _ _ _ h; exact ffT h
  | succ n ih =>
    intro i k f g p x v hf hg hi hpl hw hC hp hv hS hB
    have hl := hT.1
    obtain ⟨m, rfl⟩ : ∃ m, f = m + 1 := ⟨f - 1, by omega⟩
    obtain ⟨t, rfl⟩ : ∃ m, g = m + 2 := ⟨g - 2, by omega⟩
    obtain ⟨b1, b2⟩ := ord_b (c := c) hpl
    by_cases ok : (ordO len c p).1 = true
    · obtain ⟨b3, -, b4⟩ := b2 ok
      rw [wf, if_pos ok] at hw
      obtain ⟨x1, f1, hO⟩ := rdO hT hC hp hpl
      obtain ⟨T1, P1, O1, -⟩ := id hO
      have S1 : Sim x1 1 v := Sim_keep hS (fun a l1 l2 => O1 a (by omega))
      have B1 : BZ x1 := fun a ha => by rw [O1 a (kd_lt157 ha).2.2.2.2.1]; exact hB a ha
      obtain ⟨x2, f2, S2, B2, F2⟩ := B_ex hT hpl hO ok hv S1 B1
      have hW := WV_ex (len := len) (c := c) (p := p) hv
      have T2 : Tc x2 len c := ⟨by rw [F2 19 (by omega)]; exact T1.1, fun j hj => by rw [F2 20 (by omega)]; exact T1.2 j hj⟩
      have P2 : x2 19 2 = nI (ordO len c p).2 := by rw [F2 19 (by omega)]; exact P1
      have O2 : ∀ a, (a = 0 ∨ 15 < a) → a ≠ 19 → x2 a = x a := fun a h1 h2 => (F2 a h1).trans (O1 a h2)
      have l80 : ¬ (80 : Int32) ≤ nI i := by show ¬ nI 80 ≤ nI i; exact nI_ge (by omega) (by omega)
      -- the reference's first steps
      have G : ∀ (y : mm_M) (u : Nat → Int32), Tm (cs (cs y 157 u) 158 v) len c → u 8 = nI p → ∃ u1 : Nat → Int32, (∀ j, j < 8 → u1 j = u j) ∧ u1 8 = nI (ordO len c p).2 ∧ fn_X5_order 1 (cs (cs y 157 u) 158 v) = some (cs (cs y 157 u1) 158 (exV len c p v).1, (exV len c p v).2) := fun y u hM hu => by
        have e := ((ordM hT hM (by rw [at157]; exact hu) hpl).2 ok).2
        have es : sP (cs (cs y 157 u) 158 v) (ordO len c p).2 = cs (cs y 157 (upd u 8 (nI (ordO len c p).2))) 158 v := up157
        obtain ⟨u1, h1, h2⟩ := M_ex (y := y) (u := upd u 8 (nI (ordO len c p).2)) (len := len) (c := c) (p := p) hv
        refine ⟨u1, fun j hj => by rw [h1 j (by omega), upd_n (by omega)], by rw [h1 8 (by omega), upd_s], ?_⟩
        rw [e, es]; exact h2
      by_cases r0 : 0 ≤ (exV len c p v).2
      · by_cases e : (ordO len c p).2 < len ∧ c (ordO len c p).2 = 59
        · rw [if_pos e] at hw
          obtain ⟨x3, r, w, f3, S3, W3, B3, O3, K⟩ := ih (i + 1) (k + 1) m (t + 1) ((ordO len c p).2 + 1) (mm_up x2 19 2 (nI ((ordO len c p).2 + 1))) (exV len c p v).1 (by omega) (by omega) (by omega) e.1 hw (Tc_up T2 (by omega)) (by rw [mm_up_app, if_pos ⟨rfl, rfl⟩]) hW (Sim_keep S2 (fun a l1 l2 => mm_up_ne (by omega))) (fun a ha => by rw [mm_up_ne (kd_lt157 ha).2.2.2.2.1]; exact B2 a ha)
          refine ⟨x3, r, w, ?_, S3, W3, B3, fun a h1 h2 => by rw [O3 a h1 h2, mm_up_ne h2, O2 a h1 h2], fun y u hM hu => ?_⟩
          · have RS : fn_X2_readSign 59 x2 = if (ordO len c p).2 < len ∧ c (ordO len c p).2 = 59 then some (mm_up x2 19 2 (nI ((ordO len c p).2 + 1)), 1) else some (x2, 0) := rdS (s := 59) hT T2 P2 b1 (by omega)
            rw [fn_X4_carryOut_30, if_neg l80, f1, mm_b2_some, if_pos ok, if_neg (show ¬ (1 : Int32) = 0 by decide), f2, mm_b2_some, if_pos r0]
            simp only [Option.bind_some]
            rw [RS, if_pos e, mm_b2_some, if_neg (show ¬ (1 : Int32) = 0 by decide), nI_1, nI_1]
            exact f3
          · obtain ⟨u1, h1, h8, h2⟩ := G y u hM hu
            obtain ⟨u', h3, h4⟩ := K y (upd u1 8 (nI ((ordO len c p).2 + 1))) ⟨by
              have := hM.1
              rw [at157] at this ⊢
              rw [upd_n (by omega), h1 7 (by omega)]; exact this, fun j hj => by
              have := hM.2 j hj
              rw [cs_ne (by omega), cs_ne (by omega)] at this ⊢
              exact this⟩ (upd_s _ _ _)
            refine ⟨u', fun j hj => by rw [h3 j hj, upd_n (by omega), h1 j hj], ?_⟩
            have hle : ¬ nI len ≤ nI p := nI_ge b3 (by omega)
            rw [fn_X5_carryOut_23, if_neg (show ¬ (1 : Int32) = 0 by decide), hM.1, at157, hu, if_neg hle, h2, mm_b2_some, if_neg (Int32.not_lt.mpr r0)]
            simp only [Option.bind_some]
            rw [at157, h8, nI_1, nI_1, up157]
            exact h4
        · rw [if_neg e] at hw
          by_cases g : (ordO len c p).2 = len
          · refine ⟨x2, nI (k + 1), (exV len c p v).1, ?_, S2, hW, B2, O2, fun y u hM hu => ?_⟩
            · have RS : fn_X2_readSign 59 x2 = if (ordO len c p).2 < len ∧ c (ordO len c p).2 = 59 then some (mm_up x2 19 2 (nI ((ordO len c p).2 + 1)), 1) else some (x2, 0) := rdS (s := 59) hT T2 P2 b1 (by omega)
              rw [fn_X4_carryOut_30, if_neg l80, f1, mm_b2_some, if_pos ok, if_neg (show ¬ (1 : Int32) = 0 by decide), f2, mm_b2_some, if_pos r0]
              simp only [Option.bind_some]
              rw [RS, if_neg e, mm_b2_some, if_pos rfl, nI_1]
            · obtain ⟨u1, h1, h8, h2⟩ := G y u hM hu
              refine ⟨upd u1 8 (nI ((ordO len c p).2 + 1)), fun j hj => by rw [upd_n (by omega), h1 j hj], ?_⟩
              have hle : ¬ nI len ≤ nI p := nI_ge b3 (by omega)
              rw [fn_X5_carryOut_23, if_neg (show ¬ (1 : Int32) = 0 by decide), hM.1, at157, hu, if_neg hle, h2, mm_b2_some, if_neg (Int32.not_lt.mpr r0)]
              simp only [Option.bind_some]
              rw [at157, h8, nI_1, nI_1, up157, fn_X5_carryOut_23, if_neg (show ¬ (1 : Int32) = 0 by decide)]
              have e7 : (cs (cs y 157 (upd u1 8 (nI ((ordO len c p).2 + 1)))) 158 (exV len c p v).1) 157 7 = nI len := by
                have := hM.1
                rw [at157] at this ⊢
                rw [upd_n (by omega), h1 7 (by omega)]; exact this
              have e8 : (cs (cs y 157 (upd u1 8 (nI ((ordO len c p).2 + 1)))) 158 (exV len c p v).1) 157 8 = nI ((ordO len c p).2 + 1) := by rw [at157, upd_s]
              rw [e7, e8, if_pos (nI_le (by omega) (by omega))]
          · rw [if_neg g] at hw; exact ffT hw
      · refine ⟨x2, nI k, (exV len c p v).1, ?_, S2, hW, B2, O2, fun y u hM hu => ?_⟩
        · rw [fn_X4_carryOut_30, if_neg l80, f1, mm_b2_some, if_pos ok, if_neg (show ¬ (1 : Int32) = 0 by decide), f2, mm_b2_some, if_neg r0]
        · obtain ⟨u1, h1, h8, h2⟩ := G y u hM hu
          refine ⟨upd u1 8 (nI ((ordO len c p).2 + 1)), fun j hj => by rw [upd_n (by omega), h1 j hj], ?_⟩
          have hle : ¬ nI len ≤ nI p := nI_ge b3 (by omega)
          rw [fn_X5_carryOut_23, if_neg (show ¬ (1 : Int32) = 0 by decide), hM.1, at157, hu, if_neg hle, h2, mm_b2_some, if_pos (Int32.not_le.mp r0)]
          simp only [Option.bind_some]
          rw [at157, h8, nI_1, up157, Int32.add_zero, fn_X5_carryOut_23, if_pos rfl]
    · rw [wf, if_neg ok] at hw; exact ffT hw
theorem wf_b {len : Nat} {c : Nat → Nat} : ∀ n p, p ≤ len → (wf len c n p).2 ≤ len := by
  intro n
  induction n with
  | zero => intro p hp; exact hp
  | succ n ih =>
    intro p hp
    have b := (ord_b (c := c) hp).1
    rw [wf]
    by_cases ok : (ordO len c p).1 = true
    · rw [if_pos ok]
      by_cases e : (ordO len c p).2 < len ∧ c (ordO len c p).2 = 59
      · rw [if_pos e]; exact ih _ e.1
      · rw [if_neg e]
        by_cases g : (ordO len c p).2 = len
        · rw [if_pos g]; exact b
        · rw [if_neg g]; exact b
    · rw [if_neg ok]; exact b
theorem P_carryOut {x : mm_M} (hI : Inv x) : Pair fn_X4_carryOut fn_X5_carryOut x := by
  obtain ⟨len, c, hT, hC, hM⟩ := Pd_T hI.2.2.2.2.2
  have hl := hT.1
  obtain ⟨x1, f1, T1, O1⟩ := ff_x hT hC
  have M1 : Tm x1 len c := Tm_of hM (by rw [O1 157 (by omega)]) (O1 163 (by omega))
  have I1 : Inv x1 := Inv_pd hI (fun a q1 _ _ _ _ => O1 a q1) (by rw [O1 157 (by omega)]) (IPd_T hT T1 M1)
  by_cases w : (wf len c 27 0).1 = true
  · obtain ⟨x2, h, p, f2, hH, c2, B2, o2, s2, -⟩ := Inv_keep I1
    obtain ⟨-, hv, hS, -, hL, hP⟩ := id I1
    have h6 := hH.1
    have hh := IHi_rg hH (i := h) (by omega)
    have T3 : Tc (mm_up x2 19 2 0) len c := Tc_up (⟨by rw [o2 19 (by omega)]; exact T1.1, fun j hj => by rw [o2 20 (by omega)]; exact T1.2 j hj⟩ : Tc x2 len c) (by omega)
    obtain ⟨x4, r, w4, f4, S4, W4, B4, O4, K⟩ := co_eq hT 27 0 0 81 81 0 (mm_up x2 19 2 0) (x1 158) (by omega) (by omega) (by omega) (by omega) w T3 (by rw [mm_up_app, if_pos ⟨rfl, rfl⟩]; rfl) hv (Sim_keep s2 (fun a l1 l2 => mm_up_ne (by omega))) (fun a ha => by rw [mm_up_ne (kd_lt157 ha).2.2.2.2.1]; exact B2 a ha)
    rw [nI_0] at f4 K
    have o5 : ∀ a, (a = 0 ∨ 15 < a) → a ≠ 19 → (a < p h ∨ p h + 14 < a) → mm_up x4 19 1 0 a = x1 a := fun a q1 q2 q3 => by rw [mm_up_ne q2, O4 a q1 q2, mm_up_ne q2, o2 a q3]
    have oc : ∀ a, p h ≤ a → a ≤ p h + 14 → mm_up x4 19 1 0 a = x2 a := fun a q1 q2 => by rw [mm_up_ne (by omega), O4 a (by omega) (by omega), mm_up_ne (by omega)]
    have c5 : CpEq (mm_up x4 19 1 0) (p h) x1 1 := by
      obtain ⟨a1, a2, a3, a4, a5⟩ := c2
      refine ⟨fun j hj => by rw [oc _ (by omega) (by omega)]; exact a1 j hj, fun j q1 q2 => by rw [oc _ (by omega) (by omega)]; exact a2 j q1 q2, ?_, fun j hj => ?_, fun i hi j hj => by rw [oc _ (by omega) (by omega)]; exact a5 i hi j hj⟩
      · rw [oc _ (by omega) (by omega)]; exact a3
      · rw [oc (p h + 4) (by omega) (by omega), oc (p h + 5) (by omega) (by omega), oc (p h + 6) (by omega) (by omega)]; exact a4 j hj
    obtain ⟨x6, f6, o6, k6⟩ := B_rec (x := x1) (x2 := mm_up x4 19 1 0) (w := w4) r hv hS hH hL c5 (fun a ha => by
      rcases ha with q | q
      · exact o5 a (Or.inl q) (by omega) (by omega)
      · exact o5 a (Or.inr q.1) q.2.1 q.2.2.2.2) (fun a ha => by rw [mm_up_ne (kd_lt157 ha).2.2.2.2.1]; exact B4 a ha) (Sim_keep S4 (fun a l1 l2 => mm_up_ne (by omega))) W4
    have e158 : x6 158 = x1 158 := by rw [o6 158 (by omega) (by omega), o5 158 (by omega) (by omega) (by omega)]
    have e157 : x6 157 = x1 157 := by rw [o6 157 (by omega) (by omega), o5 157 (by omega) (by omega) (by omega)]
    have e163 : x6 163 = x1 163 := by rw [o6 163 (by omega) (by omega), o5 163 (by omega) (by omega) (by omega)]
    have M6 : Tm x6 len c := Tm_of M1 (by rw [e157]) e163
    -- the reference
    have hu : ∀ q, sP x6 q 158 = x1 158 := fun q => by unfold sP; rw [mm_up_ne (by omega)]; exact e158
    have M7 : Tm (sP x6 (wf len c 27 0).2) len c := sP_T M6
    have R := rem_sp (sP x6 (wf len c 27 0).2)
    rw [hu] at R
    have Y : ∀ (y : mm_M) (u v : Nat → Int32) (a : Int32), mm_up (cs (cs y 157 u) 158 v) 157 8 a = cs (cs y 157 (upd u 8 a)) 158 v := fun y u v a => up157
    obtain ⟨u', h3, h4⟩ := K (cs (sP x6 (wf len c 27 0).2) 160 (fun j => if j < 135 then x1 158 j else sP x6 (wf len c 27 0).2 160 j)) (upd (sP x6 (wf len c 27 0).2 157) 8 0) ⟨by rw [at157, upd_n (by omega)]; exact M7.1, fun j hj => by rw [cs_ne (by omega), cs_ne (by omega), cs_ne (by omega)]; exact M7.2 j hj⟩ (upd_s _ _ _)
    have sne : ∀ a, a ≠ 157 → sP x6 (wf len c 27 0).2 a = x6 a := fun a ha => by unfold sP; rw [mm_up_ne ha]
    have s5 : sP x6 (wf len c 27 0).2 157 5 = nI h := by unfold sP; rw [mm_up_app, if_neg (by omega), e157]; exact hH.2.2.1
    obtain ⟨x8, f8, I8⟩ := k6 (cs (cs (cs (sP x6 (wf len c 27 0).2) 160 (fun j => if j < 135 then x1 158 j else sP x6 (wf len c 27 0).2 160 j)) 157 (upd u' 7 0)) 158 w4) (fun a q1 q2 q3 _ _ => by rw [cs_ne q2, cs_ne q1, cs_ne q3, sne a q1]) (cs_k _ _ _) (fun j hj => by
      rw [cs_ne (by omega), cs_ne (by omega), cs_k]
      show (if j < 135 then x1 158 j else _) = _
      rw [if_pos hj]) (by rw [at157, upd_n (by omega), h3 5 (by omega), upd_n (by omega)]; exact s5) ⟨0, by omega, by rw [cs_ne (by omega), cs_ne (by omega), cs_ne (by omega), sne 19 (by omega), o6 19 (by omega) (by omega), mm_up_app, if_pos ⟨rfl, rfl⟩]; rfl, by rw [at157, upd_s]; rfl, fun j hj => by omega⟩
    refine ⟨x6, x8, r, ?_, ?_, I8⟩
    · unfold fn_X4_carryOut
      rw [f1, mm_b2_some, if_pos w, if_pos rfl, f2]
      simp only [Option.bind_some]
      have SR : fn_X2_startReading x2 = some (mm_up x2 19 2 0) := rfl
      rw [SR]
      simp only [Option.bind_some]
      rw [f4, mm_b2_some]
      have CL : fn_X2_clear x4 = some (mm_up x4 19 1 0, x4 19 1) := rfl
      rw [CL, mm_b2_some, f6, mm_b2_some]
    · unfold fn_X5_carryOut
      rw [iw_x hT M6, mm_b2_some, if_pos w, if_neg (show ¬ (1 : Int32) = 0 by decide), R]
      simp only [Option.bind_some]
      rw [Y, h4, mm_b2_some]
      rw [up157, f8, mm_b2_some]
  · refine ⟨x1, sP x1 (wf len c 27 0).2, -3, ?_, ?_, Inv_pd I1 (fun a _ _ q3 _ _ => by unfold sP; rw [mm_up_ne q3]) (by unfold sP; rw [mm_up_app, if_neg (by omega)]) (IPd_T hT (by
      refine ⟨?_, fun j hj => ?_⟩
      · unfold sP; rw [mm_up_ne (by omega)]; exact T1.1
      · unfold sP; rw [mm_up_ne (by omega)]; exact T1.2 j hj) (sP_T M1))⟩
    · unfold fn_X4_carryOut
      have ne : ¬ nI (wf len c 27 0).2 = -6 := fun q => by
        have h0 : ¬ nI (wf len c 27 0).2 < 0 := by
          have := wf_b (c := c) 27 0 (by omega : 0 ≤ len)
          exact nI_pos (by omega)
        rw [q] at h0; exact h0 (by decide)
      rw [f1, mm_b2_some, if_neg w, if_neg ne]
    · unfold fn_X5_carryOut
      rw [iw_x hT M1, mm_b2_some, if_neg w, if_pos rfl]
