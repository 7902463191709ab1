/-! THE PAD: a text of orders -/
theorem nmv_b {len p : Nat} {c : Nat → Nat} (d : dg len c p = true) : p + 1 ≤ (nmv len c p).2 ∧ (nmv len c p).2 ≤ len := by
  have d' := dg_lt d
  unfold nmv
  by_cases z1 : c p - 48 = 0
  · rw [if_pos z1]; exact ⟨by show p + 1 ≤ p + 1; omega, by show p + 1 ≤ len; omega⟩
  · rw [if_neg z1]
    by_cases e1 : dg len c (p + 1) = true
    · have d2 := dg_lt e1
      rw [if_pos e1]
      by_cases e2 : dg len c (p + 2) = true
      · have d3 := dg_lt e2
        rw [if_pos e2]; exact ⟨by show p + 1 ≤ p + 3; omega, by show p + 3 ≤ len; omega⟩
      · rw [if_neg e2]; exact ⟨by show p + 1 ≤ p + 2; omega, by show p + 2 ≤ len; omega⟩
    · rw [if_neg e1]; exact ⟨by show p + 1 ≤ p + 1; omega, by show p + 1 ≤ len; omega⟩
theorem ord_b {len p : Nat} {c : Nat → Nat} (hp : p ≤ len) : (ordO len c p).2 ≤ len ∧ ((ordO len c p).1 = true → p < len ∧ (c p = 43 ∨ c p = 99 ∨ c p = 111 ∨ c p = 112 ∨ c p = 116) ∧ p + 2 ≤ (ordO len c p).2) := by
  unfold ordO
  by_cases l : p < len
  · rw [if_pos l]
    by_cases k1 : c p = 43
    · rw [if_pos k1]
      by_cases d : dg len c (p + 1) = true
      · have b := nmv_b d
        rw [if_pos d]; exact ⟨b.2, fun _ => ⟨l, by omega, b.1⟩⟩
      · rw [if_neg d]; exact ⟨l, fun w => ffT w⟩
    rw [if_neg k1]
    by_cases k2 : c p = 99
    · rw [if_pos k2]
      by_cases d : dg len c (p + 1) = true
      · have b := dg_lt d
        rw [if_pos d]; exact ⟨by show p + 2 ≤ len; omega, fun _ => ⟨l, by omega, Nat.le_refl _⟩⟩
      · rw [if_neg d]; exact ⟨l, fun w => ffT w⟩
    rw [if_neg k2]
    by_cases k3 : c p = 111
    · rw [if_pos k3]
      by_cases d : dg len c (p + 1) = true
      · have b := dg_lt d
        rw [if_pos d]; exact ⟨by show p + 2 ≤ len; omega, fun _ => ⟨l, by omega, Nat.le_refl _⟩⟩
      · rw [if_neg d]; exact ⟨l, fun w => ffT w⟩
    rw [if_neg k3]
    by_cases k4 : c p = 112
    · rw [if_pos k4]
      by_cases d : dg len c (p + 1) = true
      · have b := dg_lt d
        rw [if_pos d]
        by_cases e : p + 2 < len ∧ c (p + 2) = 61
        · rw [if_pos e]
          by_cases f : dg len c (p + 3) = true
          · have b3 := nmv_b f
            rw [if_pos f]; exact ⟨b3.2, fun _ => ⟨l, by omega, by show p + 2 ≤ (nmv len c (p + 3)).2; omega⟩⟩
          · rw [if_neg f]; exact ⟨e.1, fun w => ffT w⟩
        · rw [if_neg e]; exact ⟨by show p + 2 ≤ len; omega, fun w => ffT w⟩
      · rw [if_neg d]; exact ⟨l, fun w => ffT w⟩
    rw [if_neg k4]
    by_cases k5 : c p = 116
    · rw [if_pos k5]
      by_cases d : dg len c (p + 1) = true
      · have b := nmv_b d
        rw [if_pos d]; exact ⟨b.2, fun _ => ⟨l, by omega, b.1⟩⟩
      · rw [if_neg d]; exact ⟨l, fun w => ffT w⟩
    rw [if_neg k5]; exact ⟨hp, fun w => ffT w⟩
  · rw [if_neg l]; exact ⟨hp, fun w => ffT w⟩
def wf (len : Nat) (c : Nat → Nat) : Nat → Nat → Bool × Nat
  | 0, p => (false, p)
  | n + 1, p => if (ordO len c p).1 = true then (if (ordO len c p).2 < len ∧ c (ordO len c p).2 = 59 then wf len c n ((ordO len c p).2 + 1) else if (ordO len c p).2 = len then (true, (ordO len c p).2) else (false, (ordO len c p).2)) else (false, (ordO len c p).2)
theorem ff_cl {len : Nat} {c : Nat → Nat} (hT : Tx len c) : ∀ (n i f p : Nat) (x : mm_M), n ≤ f → 3 * i ≤ p → p ≤ len → len < p + 3 * n → Tc x len c → x 19 2 = nI p →
    ∃ x', fn_X2_findFault_6 f (nI i) x = some (x', if (wf len c n p).1 = true then -6 else nI (wf len c n p).2) ∧ Tc x' len c ∧ ∀ a, a ≠ 19 → x' a = x a := by
  intro n
  induction n with
  | zero => intro i f p x _ _ h1 h2; omega
  | succ n ih =>
    intro i f p x hf hi hpl hn hC hp
    have hl := hT.1
    obtain ⟨m, rfl⟩ : ∃ m, f = m + 1 := ⟨f - 1, by omega⟩
    obtain ⟨x1, f1, T1, P1, O1, -⟩ := rdO hT hC hp hpl
    obtain ⟨b1, b2⟩ := ord_b (c := c) hpl
    have l : ¬ (80 : Int32) ≤ nI i := by show ¬ nI 80 ≤ nI i; exact nI_ge (by omega) (by omega)
    rw [fn_X2_findFault_6, if_neg l, f1, mm_b2_some, wf]
    by_cases ok : (ordO len c p).1 = true
    · obtain ⟨b3, -, b4⟩ := b2 ok
      rw [if_pos ok, if_neg (show ¬ (1 : Int32) = 0 by decide), if_pos ok]
      have RS : fn_X2_readSign 59 x1 = if (ordO len c p).2 < len ∧ c (ordO len c p).2 = 59 then some (mm_up x1 19 2 (nI ((ordO len c p).2 + 1)), 1) else some (x1, 0) := rdS (s := 59) hT T1 P1 b1 (by omega)
      rw [RS]
      by_cases e : (ordO len c p).2 < len ∧ c (ordO len c p).2 = 59
      · rw [if_pos e, if_pos e, mm_b2_some, if_neg (show ¬ (1 : Int32) = 0 by decide)]
        simp only [Option.bind_some, nI_1]
        obtain ⟨x2, f2, T2, O2⟩ := ih (i + 1) m ((ordO len c p).2 + 1) (mm_up x1 19 2 (nI ((ordO len c p).2 + 1))) (by omega) (by omega) e.1 (by omega) (Tc_up T1 (by omega)) (by rw [mm_up_app, if_pos ⟨rfl, rfl⟩])
        exact ⟨x2, f2, T2, fun a ha => by rw [O2 a ha, mm_up_ne ha, O1 a ha]⟩
      · rw [if_neg e, if_neg e, mm_b2_some, if_pos rfl, P1, T1.1]
        by_cases g : (ordO len c p).2 = len
        · rw [if_pos (by rw [g]), if_pos g]; exact ⟨x1, rfl, T1, O1⟩
        · rw [if_neg (fun w => g (by rwa [nI_eq (by omega) (by omega)] at w)), if_neg g]; exact ⟨x1, rfl, T1, O1⟩
    · rw [if_neg ok, if_pos rfl, if_neg ok, P1]; exact ⟨x1, rfl, T1, O1⟩
theorem iw_mo {len : Nat} {c : Nat → Nat} (hT : Tx len c) : ∀ (n f p : Nat) (z : mm_M), n + 1 ≤ f → p ≤ len → len < p + 3 * n → Tm z len c → z 157 8 = nI p →
    (mm_b2 (fn_X5_order 0 z) fun x3 v2 => if v2 = 0 then fn_X5_isWell_19 f 1 x3 else fn_X5_isWell_19 f 0 x3) = some (sP z (wf len c n p).2, if (wf len c n p).1 = true then 1 else 0) := by
  intro n
  induction n with
  | zero => intro f p z _ h1 h2; omega
  | succ n ih =>
    intro f p z hf hpl hn hM hp
    have hl := hT.1
    obtain ⟨m, rfl⟩ : ∃ m, f = m + 2 := ⟨f - 2, by omega⟩
    obtain ⟨b1, b2⟩ := ord_b (c := c) hpl
    obtain ⟨o1, o2⟩ := ordM hT hM hp hpl
    rw [wf]
    by_cases ok : (ordO len c p).1 = true
    · obtain ⟨b3, -, b4⟩ := b2 ok
      rw [if_pos ok, (o2 ok).1, mm_b2_some, if_pos rfl, fn_X5_isWell_19, if_neg (show ¬ (1 : Int32) = 0 by decide), sP_8, (sP_T hM).1]
      by_cases e0 : len ≤ (ordO len c p).2
      · have e0' : nI len ≤ nI (ordO len c p).2 := nI_le e0 (by omega)
        rw [if_pos e0', if_neg (fun w => by omega), if_pos (by omega)]; rfl
      · have e0' : ¬ nI len ≤ nI (ordO len c p).2 := nI_ge (by omega) (by omega)
        have S : fn_X5_sees 59 59 (sP z (ordO len c p).2) = some (if (ordO len c p).2 < len ∧ 59 ≤ c (ordO len c p).2 ∧ c (ordO len c p).2 ≤ 59 then 1 else 0) := sees_m (lo := 59) (hi := 59) hT (sP_T hM) sP_8 (by omega) (by omega) (by omega)
        rw [if_neg e0', S]
        simp only [Option.bind_some]
        by_cases e : (ordO len c p).2 < len ∧ c (ordO len c p).2 = 59
        · have U : mm_up (sP z (ordO len c p).2) 157 8 (nI (ordO len c p).2 + 1) = sP z ((ordO len c p).2 + 1) := by rw [nI_1]; exact sP_sP
          rw [if_pos (show (ordO len c p).2 < len ∧ 59 ≤ c (ordO len c p).2 ∧ c (ordO len c p).2 ≤ 59 from ⟨e.1, by omega, by omega⟩), if_neg (show ¬ (1 : Int32) = 0 by decide), if_neg (show ¬ (1 : Int32) = 0 by decide), U, if_pos e]
          have := ih (m + 1) ((ordO len c p).2 + 1) (sP z ((ordO len c p).2 + 1)) (by omega) e.1 (by omega) (sP_T hM) sP_8
          rw [sP_sP] at this
          exact this
        · have U : mm_up (sP z (ordO len c p).2) 157 8 (nI (ordO len c p).2 + 0) = sP z (ordO len c p).2 := by rw [Int32.add_zero]; exact sP_sP
          rw [if_neg (show ¬ ((ordO len c p).2 < len ∧ 59 ≤ c (ordO len c p).2 ∧ c (ordO len c p).2 ≤ 59) from fun w => e ⟨w.1, by omega⟩), if_pos rfl, U, if_neg e, if_neg (by omega), fn_X5_isWell_19, if_pos rfl]; rfl
    · have ok' : (ordO len c p).1 = false := by cases h : (ordO len c p).1 with
        | false => rfl
        | true => exact absurd h ok
      rw [if_neg ok, o1 ok', mm_b2_some, if_neg (by decide), fn_X5_isWell_19, if_pos rfl]; rfl
theorem Pd_T {x : mm_M} (hP : IPd x) : ∃ len c, Tx len c ∧ Tc x len c ∧ Tm x len c := by
  obtain ⟨len, hl, h1, h2, h3⟩ := hP
  refine ⟨len, fun j => (x 20 j).toNatClampNeg, ⟨hl, fun j hj => ?_⟩, ⟨h1, fun j hj => ?_⟩, ⟨h2, fun j hj => ?_⟩⟩
  · obtain ⟨-, q, q1, q2, e⟩ := h3 j hj
    show 33 ≤ (x 20 j).toNatClampNeg ∧ (x 20 j).toNatClampNeg ≤ 126
    rw [e, nI_clamp (by omega)]; exact ⟨q1, q2⟩
  · obtain ⟨-, q, q1, q2, e⟩ := h3 j hj
    show x 20 j = nI (x 20 j).toNatClampNeg
    rw [e, nI_clamp (by omega)]
  · obtain ⟨e0, q, q1, q2, e⟩ := h3 j hj
    show x 163 j = nI (x 20 j).toNatClampNeg
    rw [← e0, e, nI_clamp (by omega)]
theorem ff_x {x : mm_M} {len : Nat} {c : Nat → Nat} (hT : Tx len c) (hC : Tc x len c) : ∃ x', fn_X2_findFault x = some (x', if (wf len c 27 0).1 = true then -6 else nI (wf len c 27 0).2) ∧ Tc x' len c ∧ ∀ a, a ≠ 19 → x' a = x a := by
  have hl := hT.1
  obtain ⟨x1, f1, T1, O1⟩ := ff_cl hT 27 0 81 0 (mm_up x 19 2 0) (by omega) (by omega) (by omega) (by omega) (Tc_up hC (by omega)) (by rw [mm_up_app, if_pos ⟨rfl, rfl⟩]; rfl)
  rw [nI_0] at f1
  refine ⟨x1, ?_, T1, fun a ha => (O1 a ha).trans (mm_up_ne ha)⟩
  unfold fn_X2_findFault fn_X2_startReading
  exact f1
theorem iw_x {z : mm_M} {len : Nat} {c : Nat → Nat} (hT : Tx len c) (hM : Tm z len c) : fn_X5_isWell z = some (sP z (wf len c 27 0).2, if (wf len c 27 0).1 = true then 1 else 0) := by
  have hl := hT.1
  have A := iw_mo hT 27 81 0 (sP z 0) (by omega) (by omega) (by omega) (sP_T hM) sP_8
  rw [sP_sP] at A
  have U : mm_up z 157 8 0 = sP z 0 := rfl
  have B : ∀ (t : Option (mm_M × Int32)) (r : mm_M) (v : Int32), bz v → (mm_b2 t fun x3 v2 => if v2 = 0 then fn_X5_isWell_19 81 1 x3 else fn_X5_isWell_19 81 0 x3) = some (r, v) → (mm_b2 t fun x2 v1 => if v1 = 0 then mm_b2 (fn_X5_isWell_19 81 1 x2) fun x4 v3 => if vp_nar .boolean v3 = v3 then some (x4, v3) else none else mm_b2 (fn_X5_isWell_19 81 0 x2) fun x3 v2 => if vp_nar .boolean v2 = v2 then some (x3, v2) else none) = some (r, v) := by
    intro t r v hb h
    cases t with
    | none => exact h
    | some a =>
      have h' : (if a.2 = 0 then fn_X5_isWell_19 81 1 a.1 else fn_X5_isWell_19 81 0 a.1) = some (r, v) := h
      show (if a.2 = 0 then mm_b2 (fn_X5_isWell_19 81 1 a.1) fun x4 v3 => if vp_nar .boolean v3 = v3 then some (x4, v3) else none else mm_b2 (fn_X5_isWell_19 81 0 a.1) fun x3 v2 => if vp_nar .boolean v2 = v2 then some (x3, v2) else none) = some (r, v)
      by_cases c0 : a.2 = 0
      · rw [if_pos c0] at h' ⊢
        rw [h', mm_b2_some, if_pos (vz_nar hb)]
      · rw [if_neg c0] at h' ⊢
        rw [h', mm_b2_some, if_pos (vz_nar hb)]
  unfold fn_X5_isWell
  simp only [Option.bind_some, U]
  exact B _ _ _ (by
    by_cases w : (wf len c 27 0).1 = true
    · rw [if_pos w]; exact Or.inr rfl
    · rw [if_neg w]; exact Or.inl rfl) A
theorem Tm_of {x x' : mm_M} {len : Nat} {c : Nat → Nat} (hM : Tm x len c) (h7 : x' 157 7 = x 157 7) (h163 : x' 163 = x 163) : Tm x' len c := ⟨h7.trans hM.1, fun j hj => by rw [h163]; exact hM.2 j hj⟩
theorem IPd_T {x : mm_M} {len : Nat} {c : Nat → Nat} (hT : Tx len c) (hC : Tc x len c) (hM : Tm x len c) : IPd x := ⟨len, hT.1, hC.1, hM.1, fun j hj => ⟨(hC.2 j hj).trans (hM.2 j hj).symm, c j, (hT.2 j hj).1, (hT.2 j hj).2, hC.2 j hj⟩⟩
theorem P_fault {x : mm_M} (hI : Inv x) : Pair fn_X4_fault fn_X5_fault x := by
  obtain ⟨len, c, hT, hC, hM⟩ := Pd_T hI.2.2.2.2.2
  obtain ⟨x1, f1, T1, O1⟩ := ff_x hT hC
  have M1 : Tm x1 len c := Tm_of hM (by rw [O1 157 (by omega)]) (O1 163 (by omega))
  refine ⟨x1, sP x1 (wf len c 27 0).2, (if (wf len c 27 0).1 = true then -6 else nI (wf len c 27 0).2), ?_, ?_, Inv_pd hI (fun a q1 _ q3 _ _ => by unfold sP; rw [mm_up_ne q3, O1 a q1]) (by unfold sP; rw [mm_up_app, if_neg (by omega), O1 157 (by omega)]) (IPd_T hT (by
    refine ⟨?_, fun j hj => ?_⟩
    · unfold sP; rw [mm_up_ne (by omega)]; exact T1.1
    · unfold sP; rw [mm_up_ne (by omega)]; exact T1.2 j hj) (sP_T M1))⟩
  · unfold fn_X4_fault
    rw [f1, mm_b2_some]
  · unfold fn_X5_fault
    rw [iw_x hT M1, mm_b2_some]
    by_cases w : (wf len c 27 0).1 = true
    · rw [if_pos w, if_pos w, if_neg (by decide)]
    · rw [if_neg w, if_neg w, if_pos rfl, sP_8]
