/-! THE PAD: an order -/
def ordO (len : Nat) (c : Nat → Nat) (p : Nat) : Bool × Nat :=
  if p < len then (if c p = 43 then (if dg len c (p + 1) = true then (true, (nmv len c (p + 1)).2) else (false, p + 1)) else if c p = 99 then (if dg len c (p + 1) = true then (true, p + 2) else (false, p + 1)) else if c p = 111 then (if dg len c (p + 1) = true then (true, p + 2) else (false, p + 1)) else if c p = 112 then (if dg len c (p + 1) = true then (if p + 2 < len ∧ c (p + 2) = 61 then (if dg len c (p + 3) = true then (true, (nmv len c (p + 3)).2) else (false, p + 3)) else (false, p + 2)) else (false, p + 1)) else if c p = 116 then (if dg len c (p + 1) = true then (true, (nmv len c (p + 1)).2) else (false, p + 1)) else (false, p)) else (false, p)
theorem ffT {P : Prop} (w : false = true) : P := absurd w (by decide)
theorem ffF {P : Prop} (w : true = false) : P := absurd w (by decide)
def onum (len : Nat) (c : Nat → Nat) (p : Nat) : Nat := if c p = 112 then (nmv len c (p + 3)).1 else (nmv len c (p + 1)).1
def olan (c : Nat → Nat) (p : Nat) : Nat := c (p + 1) - 48
theorem char_m : ∀ m, m < 127 → vp_nar .char (nI m) = nI m := by decide +kernel
theorem rdS {x : mm_M} {len p s : Nat} {c : Nat → Nat} (hT : Tx len c) (hC : Tc x len c) (hp : x 19 2 = nI p) (hpl : p ≤ len) (hs : s < 200) :
    fn_X2_readSign (nI s) x = if p < len ∧ c p = s then some (mm_up x 19 2 (nI (p + 1)), 1) else some (x, 0) := by
  obtain ⟨hl, hc⟩ := hT
  unfold fn_X2_readSign
  rw [hC.1, hp]
  by_cases l : nI len ≤ nI p
  · rw [if_pos l, if_neg]
    rw [nI_leI (by omega) (by omega)] at l
    omega
  · rw [if_neg l]
    rw [nI_leI (by omega) (by omega)] at l
    have cc := hc p (by omega)
    rw [if_neg (nI_in (by omega) (by omega)), nI_clamp (by omega), hC.2 p (by omega)]
    by_cases q : c p = s
    · rw [if_pos (by rw [q]), if_pos ⟨by omega, q⟩]
      simp only [Option.bind_some, nI_1]
    · rw [if_neg (fun w => q (by rwa [nI_eq (by omega) (by omega)] at w)), if_neg (fun w => q w.2)]
theorem rdL {x : mm_M} {len p : Nat} {c : Nat → Nat} (hT : Tx len c) (hC : Tc x len c) (hp : x 19 2 = nI p) (hpl : p ≤ len) :
    fn_X2_readLanding x = if dg len c p = true then some (mm_up (mm_up x 19 4 (nI (c p - 48))) 19 2 (nI (p + 1)), 1) else some (x, 0) := by
  unfold fn_X2_readLanding
  rw [at_dg hT hC hp hpl]
  simp only [Option.bind_some]
  by_cases d : dg len c p = true
  · have d' := dg_i.mp d
    have hl := hT.1
    have e : nI (c p) - 48 = nI (c p - 48) := nI_sub2 (b := 48) (by omega)
    have u : mm_up x 19 4 (nI (c p - 48)) 19 2 = nI p := by rw [mm_up_app, if_neg (by omega)]; exact hp
    rw [if_pos d, if_pos d, if_neg (show ¬ (1 : Int32) = 0 by decide), hp, if_neg (nI_in (by omega) (by omega)), nI_clamp (by omega), hC.2 p d'.1, e, u, nI_1]
  · rw [if_neg d, if_neg d, if_pos rfl]
def Od (x x' : mm_M) (len : Nat) (c : Nat → Nat) (p : Nat) : Prop := Tc x' len c ∧ x' 19 2 = nI (ordO len c p).2 ∧ (∀ a, a ≠ 19 → x' a = x a) ∧ ((ordO len c p).1 = true → x' 19 3 = nI (c p) ∧ ((c p = 43 ∨ c p = 116 ∨ c p = 112) → x' 19 5 = nI (onum len c p)) ∧ ((c p = 99 ∨ c p = 111 ∨ c p = 112) → x' 19 4 = nI (olan c p)))
theorem Tc_up {x : mm_M} {len j : Nat} {c : Nat → Nat} {a : Int32} (hC : Tc x len c) (hj : j ≠ 1) : Tc (mm_up x 19 j a) len c := ⟨by rw [mm_up_app, if_neg (fun w => hj w.2.symm)]; exact hC.1, fun i hi => by rw [mm_up_ne (by omega)]; exact hC.2 i hi⟩
theorem nI_ne {a : Nat} {b : Nat} (ha : a < 127) (hb : b < 127) (h : a ≠ b) : ¬ nI a = nI b := fun w => h (by rwa [nI_eq (by omega) (by omega)] at w)
theorem rdO {x : mm_M} {len p : Nat} {c : Nat → Nat} (hT : Tx len c) (hC : Tc x len c) (hp : x 19 2 = nI p) (hpl : p ≤ len) :
    ∃ x', fn_X2_readOrder x = some (x', if (ordO len c p).1 = true then 1 else 0) ∧ Od x x' len c p := by
  have hl := hT.1
  unfold fn_X2_readOrder Od
  rw [hC.1, hp]
  by_cases l : p < len
  · have cc := hT.2 p l
    have l' : nI p < nI len := nI_lt l (by omega)
    rw [if_pos l', if_neg (nI_in (by omega) (by omega)), nI_clamp (by omega), hC.2 p l, if_pos (char_m _ (by omega))]
    simp only [Option.bind_some]
    have u3 : mm_up x 19 3 (nI (c p)) 19 3 = nI (c p) := by rw [mm_up_app, if_pos ⟨rfl, rfl⟩]
    have u2 : mm_up x 19 3 (nI (c p)) 19 2 = nI p := by rw [mm_up_app, if_neg (by omega)]; exact hp
    rw [u3, u2, nI_1]
    have T2 : Tc (mm_up (mm_up x 19 3 (nI (c p))) 19 2 (nI (p + 1))) len c := Tc_up (Tc_up hC (by omega)) (by omega)
    have P2 : mm_up (mm_up x 19 3 (nI (c p))) 19 2 (nI (p + 1)) 19 2 = nI (p + 1) := by rw [mm_up_app, if_pos ⟨rfl, rfl⟩]
    have O2 : ∀ a, a ≠ 19 → mm_up (mm_up x 19 3 (nI (c p))) 19 2 (nI (p + 1)) a = x a := fun a ha => by rw [mm_up_ne ha, mm_up_ne ha]
    have S3 : mm_up (mm_up x 19 3 (nI (c p))) 19 2 (nI (p + 1)) 19 3 = nI (c p) := by rw [mm_up_app, if_neg (by omega)]; exact u3
    have RN := rdN hT T2 P2 (by omega)
    have RL := rdL hT T2 P2 (by omega)
    generalize mm_up (mm_up x 19 3 (nI (c p))) 19 2 (nI (p + 1)) = y at *
    have b1 : vp_nar .boolean 1 = 1 := rfl
    have b0 : vp_nar .boolean 0 = 0 := rfl
    by_cases k1 : c p = 43
    · have od : ordO len c p = if dg len c (p + 1) = true then (true, (nmv len c (p + 1)).2) else (false, p + 1) := by
        unfold ordO; rw [if_pos l, if_pos k1]
      rw [if_pos (show nI (c p) = 43 by rw [k1]; rfl), RN, od]
      by_cases d : dg len c (p + 1) = true
      · rw [if_pos d, if_pos d, mm_b2_some, if_pos b1]
        refine ⟨_, rfl, sN_T T2, sN_2, fun a ha => (sN_n ha).trans (O2 a ha), fun _ => ⟨(sN_o (by omega) (by omega)).trans S3, fun _ => ?_, fun w => by omega⟩⟩
        rw [sN_5]; unfold onum; rw [if_neg (by omega)]
      · rw [if_neg d, if_neg d, mm_b2_some, if_pos b0]
        exact ⟨_, rfl, T2, P2, O2, fun w => ffT w⟩
    rw [if_neg (show ¬ nI (c p) = 43 from nI_ne (b := 43) (by omega) (by omega) k1)]
    by_cases k2 : c p = 99
    · have od : ordO len c p = if dg len c (p + 1) = true then (true, p + 2) else (false, p + 1) := by
        unfold ordO; rw [if_pos l, if_neg k1, if_pos k2]
      rw [if_pos (show nI (c p) = 99 by rw [k2]; rfl), RL, od]
      by_cases d : dg len c (p + 1) = true
      · rw [if_pos d, if_pos d, mm_b2_some, if_pos b1]
        refine ⟨_, rfl, Tc_up (Tc_up T2 (by omega)) (by omega), by rw [mm_up_app, if_pos ⟨rfl, rfl⟩], fun a ha => by rw [mm_up_ne ha, mm_up_ne ha]; exact O2 a ha, fun _ => ⟨by rw [mm_up_app, if_neg (by omega), mm_up_app, if_neg (by omega)]; exact S3, fun w => by omega, fun _ => ?_⟩⟩
        rw [mm_up_app, if_neg (by omega), mm_up_app, if_pos ⟨rfl, rfl⟩]; rfl
      · rw [if_neg d, if_neg d, mm_b2_some, if_pos b0]
        exact ⟨_, rfl, T2, P2, O2, fun w => ffT w⟩
    rw [if_neg (show ¬ nI (c p) = 99 from nI_ne (b := 99) (by omega) (by omega) k2)]
    by_cases k3 : c p = 111
    · have od : ordO len c p = if dg len c (p + 1) = true then (true, p + 2) else (false, p + 1) := by
        unfold ordO; rw [if_pos l, if_neg k1, if_neg k2, if_pos k3]
      rw [if_pos (show nI (c p) = 111 by rw [k3]; rfl), RL, od]
      by_cases d : dg len c (p + 1) = true
      · rw [if_pos d, if_pos d, mm_b2_some, if_pos b1]
        refine ⟨_, rfl, Tc_up (Tc_up T2 (by omega)) (by omega), by rw [mm_up_app, if_pos ⟨rfl, rfl⟩], fun a ha => by rw [mm_up_ne ha, mm_up_ne ha]; exact O2 a ha, fun _ => ⟨by rw [mm_up_app, if_neg (by omega), mm_up_app, if_neg (by omega)]; exact S3, fun w => by omega, fun _ => ?_⟩⟩
        rw [mm_up_app, if_neg (by omega), mm_up_app, if_pos ⟨rfl, rfl⟩]; rfl
      · rw [if_neg d, if_neg d, mm_b2_some, if_pos b0]
        exact ⟨_, rfl, T2, P2, O2, fun w => ffT w⟩
    rw [if_neg (show ¬ nI (c p) = 111 from nI_ne (b := 111) (by omega) (by omega) k3)]
    by_cases k4 : c p = 112
    · have od : ordO len c p = if dg len c (p + 1) = true then (if p + 2 < len ∧ c (p + 2) = 61 then (if dg len c (p + 3) = true then (true, (nmv len c (p + 3)).2) else (false, p + 3)) else (false, p + 2)) else (false, p + 1) := by
        unfold ordO; rw [if_pos l, if_neg k1, if_neg k2, if_neg k3, if_pos k4]
      rw [if_pos (show nI (c p) = 112 by rw [k4]; rfl), RL, od]
      by_cases d : dg len c (p + 1) = true
      · have d' := dg_lt d
        rw [if_pos d, if_pos d, mm_b2_some, if_neg (show ¬ (1 : Int32) = 0 by decide)]
        have T4 : Tc (mm_up (mm_up y 19 4 (nI (c (p + 1) - 48))) 19 2 (nI (p + 1 + 1))) len c := Tc_up (Tc_up T2 (by omega)) (by omega)
        have P4 : mm_up (mm_up y 19 4 (nI (c (p + 1) - 48))) 19 2 (nI (p + 1 + 1)) 19 2 = nI (p + 2) := by rw [mm_up_app, if_pos ⟨rfl, rfl⟩]
        have O4 : ∀ a, a ≠ 19 → mm_up (mm_up y 19 4 (nI (c (p + 1) - 48))) 19 2 (nI (p + 1 + 1)) a = x a := fun a ha => by rw [mm_up_ne ha, mm_up_ne ha]; exact O2 a ha
        have S4 : mm_up (mm_up y 19 4 (nI (c (p + 1) - 48))) 19 2 (nI (p + 1 + 1)) 19 3 = nI (c p) := by rw [mm_up_app, if_neg (by omega), mm_up_app, if_neg (by omega)]; exact S3
        have L4 : mm_up (mm_up y 19 4 (nI (c (p + 1) - 48))) 19 2 (nI (p + 1 + 1)) 19 4 = nI (olan c p) := by rw [mm_up_app, if_neg (by omega), mm_up_app, if_pos ⟨rfl, rfl⟩]; rfl
        generalize mm_up (mm_up y 19 4 (nI (c (p + 1) - 48))) 19 2 (nI (p + 1 + 1)) = y4 at *
        have RS := rdS (s := 61) hT T4 P4 (by omega) (by omega)
        have RS' : fn_X2_readSign 61 y4 = if p + 2 < len ∧ c (p + 2) = 61 then some (mm_up y4 19 2 (nI (p + 2 + 1)), 1) else some (y4, 0) := RS
        rw [RS']
        by_cases e : p + 2 < len ∧ c (p + 2) = 61
        · rw [if_pos e, if_pos e, mm_b2_some, if_neg (show ¬ (1 : Int32) = 0 by decide)]
          have T5 : Tc (mm_up y4 19 2 (nI (p + 2 + 1))) len c := Tc_up T4 (by omega)
          have P5 : mm_up y4 19 2 (nI (p + 2 + 1)) 19 2 = nI (p + 3) := by rw [mm_up_app, if_pos ⟨rfl, rfl⟩]
          have R5 := rdN hT T5 P5 (by omega)
          rw [R5]
          by_cases f : dg len c (p + 3) = true
          · rw [if_pos f, if_pos f, mm_b2_some, if_neg (show ¬ (1 : Int32) = 0 by decide)]
            refine ⟨_, rfl, sN_T T5, sN_2, fun a ha => by rw [sN_n ha, mm_up_ne ha]; exact O4 a ha, fun _ => ⟨?_, fun _ => ?_, fun _ => ?_⟩⟩
            · rw [sN_o (by omega) (by omega), mm_up_app, if_neg (by omega)]; exact S4
            · rw [sN_5]; unfold onum; rw [if_pos k4]
            · rw [sN_o (by omega) (by omega), mm_up_app, if_neg (by omega)]; exact L4
          · rw [if_neg f, if_neg f, mm_b2_some, if_pos rfl]
            exact ⟨_, rfl, T5, P5, fun a ha => by rw [mm_up_ne ha]; exact O4 a ha, fun w => ffT w⟩
        · rw [if_neg e, if_neg e, mm_b2_some, if_pos rfl]
          exact ⟨_, rfl, T4, P4, O4, fun w => ffT w⟩
      · rw [if_neg d, if_neg d, mm_b2_some, if_pos rfl]
        exact ⟨_, rfl, T2, P2, O2, fun w => ffT w⟩
    rw [if_neg (show ¬ nI (c p) = 112 from nI_ne (b := 112) (by omega) (by omega) k4)]
    by_cases k5 : c p = 116
    · have od : ordO len c p = if dg len c (p + 1) = true then (true, (nmv len c (p + 1)).2) else (false, p + 1) := by
        unfold ordO; rw [if_pos l, if_neg k1, if_neg k2, if_neg k3, if_neg k4, if_pos k5]
      rw [if_pos (show nI (c p) = 116 by rw [k5]; rfl), RN, od]
      by_cases d : dg len c (p + 1) = true
      · rw [if_pos d, if_pos d, mm_b2_some, if_pos b1]
        refine ⟨_, rfl, sN_T T2, sN_2, fun a ha => (sN_n ha).trans (O2 a ha), fun _ => ⟨(sN_o (by omega) (by omega)).trans S3, fun _ => ?_, fun w => by omega⟩⟩
        rw [sN_5]; unfold onum; rw [if_neg (by omega)]
      · rw [if_neg d, if_neg d, mm_b2_some, if_pos b0]
        exact ⟨_, rfl, T2, P2, O2, fun w => ffT w⟩
    rw [if_neg (show ¬ nI (c p) = 116 from nI_ne (b := 116) (by omega) (by omega) k5)]
    have od : ordO len c p = (false, p) := by
      unfold ordO; rw [if_pos l, if_neg k1, if_neg k2, if_neg k3, if_neg k4, if_neg k5]
    rw [od]
    exact ⟨_, rfl, Tc_up hC (by omega), u2, fun a ha => mm_up_ne ha, fun w => ffT w⟩
  · have l' : ¬ nI p < nI len := nI_nlt (by omega) (by omega)
    have od : ordO len c p = (false, p) := by unfold ordO; rw [if_neg l]
    rw [if_neg l', od]
    exact ⟨x, rfl, hC, hp, fun _ _ => rfl, fun w => ffT w⟩
theorem mm_b2_eta (t : Option (mm_M × Int32)) : (mm_b2 t fun x v => some (x, v)) = t := by
  cases t with
  | none => rfl
  | some a => rfl
def exM (len : Nat) (c : Nat → Nat) (p : Nat) (z : mm_M) : Option (mm_M × Int32) := if c p = 43 then fn_X5_comes (nI (onum len c p)) z else if c p = 111 then fn_X5_turns (nI (olan c p)) 1 z else if c p = 99 then fn_X5_turns (nI (olan c p)) 0 z else if c p = 112 then fn_X5_costs (nI (olan c p)) (nI (onum len c p)) z else fn_X5_waits (nI (onum len c p)) z
theorem digM {z : mm_M} {len p : Nat} {c : Nat → Nat} (hT : Tx len c) (hM : Tm z len c) (hp : z 157 8 = nI p) (d : dg len c p = true) : fn_X5_digit z = some (sP z (p + 1), nI (c p - 48)) := by
  have d' := dg_i.mp d
  have hl := hT.1
  have e : nI (c p) - 48 = nI (c p - 48) := nI_sub2 (b := 48) (by omega)
  unfold fn_X5_digit
  rw [hp, nI_1]
  simp only [Option.bind_some]
  have u : mm_up z 157 8 (nI (p + 1)) 157 8 = nI (p + 1) := by rw [mm_up_app, if_pos ⟨rfl, rfl⟩]
  rw [u, nI_pred, if_neg (nI_in (by omega) (by omega)), nI_clamp (by omega), mm_up_ne (by omega), hM.2 p d'.1, e]
  rfl
theorem ordM {z : mm_M} {len p : Nat} {c : Nat → Nat} (hT : Tx len c) (hM : Tm z len c) (hp : z 157 8 = nI p) (hpl : p ≤ len) :
    ((ordO len c p).1 = false → ∀ a, fn_X5_order a z = some (sP z (ordO len c p).2, -3)) ∧ ((ordO len c p).1 = true → fn_X5_order 0 z = some (sP z (ordO len c p).2, 0) ∧ fn_X5_order 1 z = exM len c p (sP z (ordO len c p).2)) := by
  have hl := hT.1
  by_cases l : p < len
  · have cc := hT.2 p l
    have l' : ¬ nI len ≤ nI p := nI_ge l (by omega)
    have SD : fn_X5_sees 48 57 (sP z (p + 1)) = some (if dg len c (p + 1) = true then 1 else 0) := sees_d hT (sP_T hM) sP_8 (by omega)
    have U : mm_up z 157 8 (nI p + 1) = sP z (p + 1) := by rw [nI_1]; rfl
    have z0 : ∀ a : Int32, fn_X5_order a z = (if nI (c p) = 43 then (fn_X5_sees 48 57 (sP z (p + 1))).bind fun v2 => if v2 = 0 then some (sP z (p + 1), (-3)) else mm_b2 (fn_X5_number (sP z (p + 1))) fun x2 v3 => if a = 0 then some (x2, 0) else fn_X5_comes v3 x2 else if nI (c p) = 111 then (fn_X5_sees 48 57 (sP z (p + 1))).bind fun v5 => if v5 = 0 then some (sP z (p + 1), (-3)) else mm_b2 (fn_X5_digit (sP z (p + 1))) fun x5 v6 => if a = 0 then some (x5, 0) else fn_X5_turns v6 1 x5 else if nI (c p) = 99 then (fn_X5_sees 48 57 (sP z (p + 1))).bind fun v8 => if v8 = 0 then some (sP z (p + 1), (-3)) else mm_b2 (fn_X5_digit (sP z (p + 1))) fun x8 v9 => if a = 0 then some (x8, 0) else fn_X5_turns v9 0 x8 else if nI (c p) = 112 then (fn_X5_sees 48 57 (sP z (p + 1))).bind fun v11 => if v11 = 0 then some (sP z (p + 1), (-3)) else mm_b2 (fn_X5_digit (sP z (p + 1))) fun x11 v12 => (fn_X5_sees 61 61 x11).bind fun v13 => if v13 = 0 then some (x11, (-3)) else (some (mm_up x11 157 8 ((x11 157 8) + 1))).bind fun x12 => (fn_X5_sees 48 57 x12).bind fun v14 => if v14 = 0 then some (x12, (-3)) else mm_b2 (fn_X5_number x12) fun x13 v15 => if a = 0 then some (x13, 0) else fn_X5_costs v12 v15 x13 else if nI (c p) = 116 then (fn_X5_sees 48 57 (sP z (p + 1))).bind fun v17 => if v17 = 0 then some (sP z (p + 1), (-3)) else mm_b2 (fn_X5_number (sP z (p + 1))) fun x16 v18 => if a = 0 then some (x16, 0) else fn_X5_waits v18 x16 else some (z, (-3))) := by
      intro a
      unfold fn_X5_order
      rw [hM.1, hp, if_neg l', if_neg (nI_in (by omega) (by omega)), nI_clamp (by omega), hM.2 p l]
      simp only [Option.bind_some, mm_b2_eta, U]
    have RN : dg len c (p + 1) = true → fn_X5_number (sP z (p + 1)) = some (sP z (nmv len c (p + 1)).2, nI (nmv len c (p + 1)).1) := fun d => by
      have := numM hT (sP_T (p := p + 1) hM) sP_8 d
      rwa [sP_sP] at this
    have RD : dg len c (p + 1) = true → fn_X5_digit (sP z (p + 1)) = some (sP z (p + 2), nI (olan c p)) := fun d => by
      have := digM hT (sP_T (p := p + 1) hM) sP_8 d
      rwa [sP_sP] at this
    have n10 : ((1 : Int32) = 0) = False := eq_false (by decide)
    by_cases k1 : c p = 43
    · have od : ordO len c p = if dg len c (p + 1) = true then (true, (nmv len c (p + 1)).2) else (false, p + 1) := by
        unfold ordO; rw [if_pos l, if_pos k1]
      have e1 : nI (c p) = 43 := by rw [k1]; rfl
      simp only [z0, if_pos e1, SD, od, Option.bind_some]
      by_cases d : dg len c (p + 1) = true
      · simp only [if_pos d, RN d, n10, if_false, mm_b2_some, if_true]
        refine ⟨fun w => ffF w, fun _ => ⟨trivial, ?_⟩⟩
        unfold exM onum; rw [if_pos k1, if_neg (by omega)]
      · simp only [if_neg d, if_true]
        exact ⟨fun _ _ => trivial, fun w => ffT w⟩
    have e1 : ¬ nI (c p) = 43 := nI_ne (b := 43) (by omega) (by omega) k1
    by_cases k3 : c p = 111
    · have od : ordO len c p = if dg len c (p + 1) = true then (true, p + 2) else (false, p + 1) := by
        unfold ordO; rw [if_pos l, if_neg k1, if_neg (by omega), if_pos k3]
      have e3 : nI (c p) = 111 := by rw [k3]; rfl
      simp only [z0, if_neg e1, if_pos e3, SD, od, Option.bind_some]
      by_cases d : dg len c (p + 1) = true
      · simp only [if_pos d, RD d, n10, if_false, mm_b2_some, if_true]
        refine ⟨fun w => ffF w, fun _ => ⟨trivial, ?_⟩⟩
        unfold exM; rw [if_neg k1, if_pos k3]
      · simp only [if_neg d, if_true]
        exact ⟨fun _ _ => trivial, fun w => ffT w⟩
    have e3 : ¬ nI (c p) = 111 := nI_ne (b := 111) (by omega) (by omega) k3
    by_cases k2 : c p = 99
    · have od : ordO len c p = if dg len c (p + 1) = true then (true, p + 2) else (false, p + 1) := by
        unfold ordO; rw [if_pos l, if_neg k1, if_pos k2]
      have e2 : nI (c p) = 99 := by rw [k2]; rfl
      simp only [z0, if_neg e1, if_neg e3, if_pos e2, SD, od, Option.bind_some]
      by_cases d : dg len c (p + 1) = true
      · simp only [if_pos d, RD d, n10, if_false, mm_b2_some, if_true]
        refine ⟨fun w => ffF w, fun _ => ⟨trivial, ?_⟩⟩
        unfold exM; rw [if_neg k1, if_neg k3, if_pos k2]
      · simp only [if_neg d, if_true]
        exact ⟨fun _ _ => trivial, fun w => ffT w⟩
    have e2 : ¬ nI (c p) = 99 := nI_ne (b := 99) (by omega) (by omega) k2
    by_cases k4 : c p = 112
    · have od : ordO len c p = if dg len c (p + 1) = true then (if p + 2 < len ∧ c (p + 2) = 61 then (if dg len c (p + 3) = true then (true, (nmv len c (p + 3)).2) else (false, p + 3)) else (false, p + 2)) else (false, p + 1) := by
        unfold ordO; rw [if_pos l, if_neg k1, if_neg k2, if_neg k3, if_pos k4]
      have e4 : nI (c p) = 112 := by rw [k4]; rfl
      simp only [z0, if_neg e1, if_neg e3, if_neg e2, if_pos e4, SD, od, Option.bind_some]
      by_cases d : dg len c (p + 1) = true
      · have d' := dg_lt d
        have S6 : fn_X5_sees 61 61 (sP z (p + 2)) = some (if p + 2 < len ∧ 61 ≤ c (p + 2) ∧ c (p + 2) ≤ 61 then 1 else 0) := sees_m (lo := 61) (hi := 61) hT (sP_T hM) sP_8 (by omega) (by omega) (by omega)
        simp only [if_pos d, RD d, n10, if_false, mm_b2_some, S6, Option.bind_some]
        by_cases e : p + 2 < len ∧ c (p + 2) = 61
        · have U2 : mm_up (sP z (p + 2)) 157 8 (sP z (p + 2) 157 8 + 1) = sP z (p + 3) := by
            rw [sP_8, nI_1]; exact sP_sP
          have S3 : fn_X5_sees 48 57 (sP z (p + 3)) = some (if dg len c (p + 3) = true then 1 else 0) := sees_d hT (sP_T hM) sP_8 (by omega)
          have e' : p + 2 < len ∧ 61 ≤ c (p + 2) ∧ c (p + 2) ≤ 61 := ⟨e.1, by omega, by omega⟩
          simp only [if_pos e', if_pos e, n10, if_false, U2, S3, Option.bind_some]
          by_cases f : dg len c (p + 3) = true
          · have RN3 : fn_X5_number (sP z (p + 3)) = some (sP z (nmv len c (p + 3)).2, nI (nmv len c (p + 3)).1) := by
              have := numM hT (sP_T (p := p + 3) hM) sP_8 f
              rwa [sP_sP] at this
            simp only [if_pos f, n10, if_false, RN3, mm_b2_some, if_true]
            refine ⟨fun w => ffF w, fun _ => ⟨trivial, ?_⟩⟩
            unfold exM onum; rw [if_neg k1, if_neg k3, if_neg k2, if_pos k4, if_pos k4]
          · simp only [if_neg f, if_true]
            exact ⟨fun _ _ => trivial, fun w => ffT w⟩
        · have e' : ¬ (p + 2 < len ∧ 61 ≤ c (p + 2) ∧ c (p + 2) ≤ 61) := fun w => e ⟨w.1, by omega⟩
          simp only [if_neg e', if_neg e, if_true]
          exact ⟨fun _ _ => trivial, fun w => ffT w⟩
      · simp only [if_neg d, if_true]
        exact ⟨fun _ _ => trivial, fun w => ffT w⟩
    have e4 : ¬ nI (c p) = 112 := nI_ne (b := 112) (by omega) (by omega) k4
    by_cases k5 : c p = 116
    · have od : ordO len c p = if dg len c (p + 1) = true then (true, (nmv len c (p + 1)).2) else (false, p + 1) := by
        unfold ordO; rw [if_pos l, if_neg k1, if_neg k2, if_neg k3, if_neg k4, if_pos k5]
      have e5 : nI (c p) = 116 := by rw [k5]; rfl
      simp only [z0, if_neg e1, if_neg e3, if_neg e2, if_neg e4, if_pos e5, SD, od, Option.bind_some]
      by_cases d : dg len c (p + 1) = true
      · simp only [if_pos d, RN d, n10, if_false, mm_b2_some, if_true]
        refine ⟨fun w => ffF w, fun _ => ⟨trivial, ?_⟩⟩
        unfold exM onum; rw [if_neg k1, if_neg k3, if_neg k2, if_neg k4, if_neg k4]
      · simp only [if_neg d, if_true]
        exact ⟨fun _ _ => trivial, fun w => ffT w⟩
    have e5 : ¬ nI (c p) = 116 := nI_ne (b := 116) (by omega) (by omega) k5
    have od : ordO len c p = (false, p) := by
      unfold ordO; rw [if_pos l, if_neg k1, if_neg k2, if_neg k3, if_neg k4, if_neg k5]
    simp only [z0, if_neg e1, if_neg e3, if_neg e2, if_neg e4, if_neg e5, od]
    exact ⟨fun _ _ => by rw [sP_self hp], fun w => ffT w⟩
  · have l' : nI len ≤ nI p := nI_le (by omega) (by omega)
    have od : ordO len c p = (false, p) := by unfold ordO; rw [if_neg l]
    rw [od]
    refine ⟨fun _ a => ?_, fun w => ffT w⟩
    unfold fn_X5_order
    rw [hM.1, hp, if_pos l', sP_self hp]
