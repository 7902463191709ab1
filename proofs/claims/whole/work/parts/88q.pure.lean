/-! THE PAD: digits and numbers -/
def dg (len : Nat) (c : Nat → Nat) (p : Nat) : Bool := decide (p < len ∧ 48 ≤ c p ∧ c p ≤ 57)
theorem dg_i {len : Nat} {c : Nat → Nat} {p : Nat} : dg len c p = true ↔ p < len ∧ 48 ≤ c p ∧ c p ≤ 57 := by unfold dg; exact decide_eq_true_iff
def nmv (len : Nat) (c : Nat → Nat) (p : Nat) : Nat × Nat :=
  if c p - 48 = 0 then (0, p + 1) else if dg len c (p + 1) = true then (if dg len c (p + 2) = true then (((c p - 48) * 10 + (c (p + 1) - 48)) * 10 + (c (p + 2) - 48), p + 3) else ((c p - 48) * 10 + (c (p + 1) - 48), p + 2)) else (c p - 48, p + 1)
def Tc (x : mm_M) (len : Nat) (c : Nat → Nat) : Prop := x 19 1 = nI len ∧ ∀ j, j < len → x 20 j = nI (c j)
def Tm (z : mm_M) (len : Nat) (c : Nat → Nat) : Prop := z 157 7 = nI len ∧ ∀ j, j < len → z 163 j = nI (c j)
def Tx (len : Nat) (c : Nat → Nat) : Prop := len ≤ 80 ∧ ∀ j, j < len → 33 ≤ c j ∧ c j ≤ 126
theorem nI_sub2 {a b : Nat} (h : b ≤ a) : nI a - nI b = nI (a - b) := by
  obtain ⟨m, rfl⟩ : ∃ m, a = m + b := ⟨a - b, by omega⟩
  rw [nI_sub]; congr 1; omega
theorem at_dg {x : mm_M} {len p : Nat} {c : Nat → Nat} (hT : Tx len c) (hC : Tc x len c) (hp : x 19 2 = nI p) (hpl : p ≤ len) : fn_X2_isAtDigit x = some (if dg len c p = true then 1 else 0) := by
  obtain ⟨hl, hc⟩ := hT
  unfold fn_X2_isAtDigit
  rw [hC.1, hp]
  by_cases l : nI len ≤ nI p
  · rw [if_pos l, if_neg]
    rw [nI_leI (by omega) (by omega)] at l
    rw [dg_i]; omega
  · rw [if_neg l]
    rw [nI_leI (by omega) (by omega)] at l
    have cc := hc p (by omega)
    have nn : (nI p < 0 ∨ 80 ≤ Int32.toNatClampNeg (nI p)) = False := eq_false (nI_in (by omega) (by omega))
    simp only [nn, if_false]
    rw [nI_clamp (by omega), hC.2 p (by omega)]
    by_cases c1 : c p < 48
    · have q : nI (c p) < 48 := by show nI (c p) < nI 48; exact nI_lt c1 (by omega)
      rw [if_pos q, if_neg]
      rw [dg_i]; omega
    · have q : ¬ nI (c p) < 48 := by show ¬ nI (c p) < nI 48; exact nI_nlt (by omega) (by omega)
      rw [if_neg q]
      by_cases c2 : 57 < c p
      · have q2 : (57 : Int32) < nI (c p) := by show nI 57 < nI (c p); exact nI_lt c2 (by omega)
        rw [if_pos q2, if_neg]
        rw [dg_i]; omega
      · have q2 : ¬ (57 : Int32) < nI (c p) := by show ¬ nI 57 < nI (c p); exact nI_nlt (by omega) (by omega)
        rw [if_neg q2, if_pos]
        rw [dg_i]; omega
def sN (x : mm_M) (v p : Nat) : mm_M := mm_up (mm_up x 19 5 (nI v)) 19 2 (nI p)
theorem sN_T {x : mm_M} {len v p : Nat} {c : Nat → Nat} (hC : Tc x len c) : Tc (sN x v p) len c := by
  refine ⟨?_, fun j hj => ?_⟩
  · unfold sN; rw [mm_up_app, if_neg (by omega), mm_up_app, if_neg (by omega)]; exact hC.1
  · unfold sN; rw [mm_up_ne (by omega), mm_up_ne (by omega)]; exact hC.2 j hj
theorem sN_2 {x : mm_M} {v p : Nat} : sN x v p 19 2 = nI p := by unfold sN; rw [mm_up_app, if_pos ⟨rfl, rfl⟩]
theorem sN_5 {x : mm_M} {v p : Nat} : sN x v p 19 5 = nI v := by unfold sN; rw [mm_up_app, if_neg (by omega), mm_up_app, if_pos ⟨rfl, rfl⟩]
theorem sN_o {x : mm_M} {v p j : Nat} (h : j ≠ 2) (h5 : j ≠ 5) : sN x v p 19 j = x 19 j := by unfold sN; rw [mm_up_app, if_neg (fun w => h w.2), mm_up_app, if_neg (fun w => h5 w.2)]
theorem sN_n {x : mm_M} {v p a : Nat} (h : a ≠ 19) : sN x v p a = x a := by unfold sN; rw [mm_up_ne h, mm_up_ne h]
theorem sN_sN {x : mm_M} {v p v' p' : Nat} : sN (sN x v p) v' p' = sN x v' p' := by
  refine mm_ext1 19 (fun a ha => by rw [sN_n ha, sN_n ha, sN_n ha]) (fun i => ?_)
  by_cases h2 : i = 2
  · subst h2; rw [sN_2, sN_2]
  · by_cases h5 : i = 5
    · subst h5; rw [sN_5, sN_5]
    · rw [sN_o h2 h5, sN_o h2 h5, sN_o h2 h5]
/-- one digit of the class's number -/
theorem nm_cl {x : mm_M} {len p N i f : Nat} {c : Nat → Nat} (hT : Tx len c) (hC : Tc x len c) (hp : x 19 2 = nI p) (h5 : x 19 5 = nI N) (hpl : p ≤ len) (hN : N < 1000) (hi : i < 10) :
    fn_X2_readNumber_16 (f + 1) (nI i) x = if 3 ≤ i then some x else if dg len c p = true then (if i ≠ 0 ∧ N = 0 then some x else fn_X2_readNumber_16 f (nI (i + 1)) (sN x (N * 10 + (c p - 48)) (p + 1))) else some x := by
  rw [fn_X2_readNumber_16]
  by_cases l : 3 ≤ i
  · have l' : (3 : Int32) ≤ nI i := by show nI 3 ≤ nI i; exact nI_le l (by omega)
    rw [if_pos l, if_pos l']
  · have l' : ¬ (3 : Int32) ≤ nI i := by show ¬ nI 3 ≤ nI i; exact nI_ge (by omega) (by omega)
    rw [if_neg l, if_neg l', at_dg hT hC hp hpl]
    simp only [Option.bind_some]
    by_cases d : dg len c p = true
    · have d' := dg_i.mp d
      have hl := hT.1
      have nn : (nI p < 0 ∨ 80 ≤ Int32.toNatClampNeg (nI p)) = False := eq_false (nI_in (by omega) (by omega))
      have e : nI N * 10 + nI (c p) - 48 = nI (N * 10 + (c p - 48)) := by
        show nI N * nI 10 + nI (c p) - nI 48 = _
        rw [pu_mul, nI_add, nI_sub2 (by omega)]; congr 1; omega
      rw [if_pos d, if_pos d, if_neg (show ¬ (1 : Int32) = 0 by decide), hp, h5]
      simp only [nn, if_false]
      have u : mm_up x 19 5 (nI (N * 10 + (c p - 48))) 19 2 = nI p := by rw [mm_up_app, if_neg (by omega)]; exact hp
      rw [nI_clamp (by omega), hC.2 p d'.1, e, u]
      simp only [nI_1]
      by_cases i0 : i = 0
      · subst i0
        rw [if_pos (show nI 0 = 0 from rfl), if_neg (by omega)]; rfl
      · rw [if_neg (nI_ne0 (by omega) (by omega))]
        by_cases n0 : N = 0
        · subst n0
          rw [if_pos (show nI 0 ≤ 0 by decide), if_pos ⟨i0, rfl⟩]
        · rw [if_neg (nI_nle (by omega) (by omega)), if_neg (fun w => n0 w.2)]; rfl
    · rw [if_neg d, if_neg d, if_pos rfl]
theorem dg_lt {len p : Nat} {c : Nat → Nat} (h : dg len c p = true) : p < len ∧ c p - 48 ≤ 9 := by
  have := dg_i.mp h; omega
theorem rdN {x : mm_M} {len p : Nat} {c : Nat → Nat} (hT : Tx len c) (hC : Tc x len c) (hp : x 19 2 = nI p) (hpl : p ≤ len) :
    fn_X2_readNumber x = if dg len c p = true then some (sN x (nmv len c p).1 (nmv len c p).2, 1) else some (x, 0) := by
  unfold fn_X2_readNumber
  rw [at_dg hT hC hp hpl]
  simp only [Option.bind_some]
  by_cases d : dg len c p = true
  · rw [if_pos d, if_pos d, if_neg (show ¬ (1 : Int32) = 0 by decide)]
    have d1 := dg_lt d
    have T0 : Tc (mm_up x 19 5 0) len c := ⟨by rw [mm_up_app, if_neg (by omega)]; exact hC.1, fun j hj => by rw [mm_up_ne (by omega)]; exact hC.2 j hj⟩
    have p0 : mm_up x 19 5 0 19 2 = nI p := by rw [mm_up_app, if_neg (by omega)]; exact hp
    have f0 : mm_up x 19 5 0 19 5 = nI 0 := by rw [mm_up_app, if_pos ⟨rfl, rfl⟩]; rfl
    have s0 : ∀ v q, sN (mm_up x 19 5 0) v q = sN x v q := fun v q => by
      refine mm_ext1 19 (fun a ha => by rw [sN_n ha, sN_n ha, mm_up_ne ha]) (fun i => ?_)
      by_cases h2 : i = 2
      · subst h2; rw [sN_2, sN_2]
      · by_cases h5 : i = 5
        · subst h5; rw [sN_5, sN_5]
        · rw [sN_o h2 h5, sN_o h2 h5, mm_up_app, if_neg (fun w => h5 w.2)]
    have A := nm_cl (f := 3) (i := 0) hT T0 p0 f0 hpl (by omega) (by omega)
    rw [nI_0, if_neg (by omega), if_pos d, if_neg (by omega), s0, Nat.zero_mul, Nat.zero_add, Nat.zero_add] at A
    rw [A]
    have B := nm_cl (f := 2) (i := 1) (N := c p - 48) (p := p + 1) (x := sN x (c p - 48) (p + 1)) hT (sN_T hC) sN_2 sN_5 (by omega) (by omega) (by omega)
    rw [if_neg (by omega)] at B
    rw [B]
    unfold nmv
    by_cases z1 : c p - 48 = 0
    · rw [if_pos z1]
      by_cases e1 : dg len c (p + 1) = true
      · rw [if_pos e1, if_pos ⟨by omega, z1⟩, z1]; rfl
      · rw [if_neg e1, z1]; rfl
    · rw [if_neg z1]
      by_cases e1 : dg len c (p + 1) = true
      · have d2 := dg_lt e1
        rw [if_pos e1, if_neg (fun w => z1 w.2), if_pos e1, sN_sN]
        have C := nm_cl (f := 1) (i := 2) (N := (c p - 48) * 10 + (c (p + 1) - 48)) (p := p + 1 + 1) (x := sN x ((c p - 48) * 10 + (c (p + 1) - 48)) (p + 1 + 1)) hT (sN_T hC) sN_2 sN_5 (by omega) (by omega) (by omega)
        rw [if_neg (by omega)] at C
        rw [C, show p + 1 + 1 = p + 2 from rfl]
        by_cases e2 : dg len c (p + 2) = true
        · have d3 := dg_lt e2
          rw [if_pos e2, if_neg (fun w => by omega), if_pos e2, sN_sN]
          have D := nm_cl (f := 0) (i := 3) (N := ((c p - 48) * 10 + (c (p + 1) - 48)) * 10 + (c (p + 2) - 48)) (p := p + 2 + 1) (x := sN x (((c p - 48) * 10 + (c (p + 1) - 48)) * 10 + (c (p + 2) - 48)) (p + 2 + 1)) hT (sN_T hC) sN_2 sN_5 (by omega) (by omega) (by omega)
          rw [if_pos (by omega)] at D
          rw [D]; rfl
        · rw [if_neg e2, if_neg e2]; rfl
      · rw [if_neg e1, if_neg e1]; rfl
  · rw [if_neg d, if_neg d, if_pos rfl]
/-! the reference's -/
theorem sees_m {z : mm_M} {len p : Nat} {c : Nat → Nat} {lo hi : Nat} (hT : Tx len c) (hM : Tm z len c) (hp : z 157 8 = nI p) (hpl : p ≤ 200) (h1 : lo < 200) (h2 : hi < 200) : fn_X5_sees (nI lo) (nI hi) z = some (if p < len ∧ lo ≤ c p ∧ c p ≤ hi then 1 else 0) := by
  obtain ⟨hl, hc⟩ := hT
  unfold fn_X5_sees
  rw [hM.1, hp]
  by_cases l : nI len ≤ nI p
  · rw [if_pos l, if_neg]
    rw [nI_leI (by omega) (by omega)] at l
    omega
  · rw [if_neg l]
    rw [nI_leI (by omega) (by omega)] at l
    have cc := hc p (by omega)
    rw [if_neg (nI_in (by omega) (by omega)), nI_clamp (by omega), hM.2 p (by omega), pu_in]
    simp only [Option.bind_some]
    rw [ite01]
    by_cases q : nI lo ≤ nI (c p) ∧ nI (c p) ≤ nI hi
    · rw [if_pos q, if_pos]
      rw [nI_leI (by omega) (by omega), nI_leI (by omega) (by omega)] at q
      exact ⟨by omega, q⟩
    · rw [if_neg q, if_neg]
      rw [nI_leI (by omega) (by omega), nI_leI (by omega) (by omega)] at q
      exact fun w => q w.2
theorem sees_d {z : mm_M} {len p : Nat} {c : Nat → Nat} (hT : Tx len c) (hM : Tm z len c) (hp : z 157 8 = nI p) (hpl : p ≤ 200) : fn_X5_sees 48 57 z = some (if dg len c p = true then 1 else 0) := by
  have := sees_m (lo := 48) (hi := 57) hT hM hp hpl (by omega) (by omega)
  refine this.trans (congrArg some ?_)
  by_cases d : dg len c p = true
  · rw [if_pos d, if_pos (dg_i.mp d)]
  · rw [if_neg d, if_neg (fun w => d (dg_i.mpr w))]
def sP (z : mm_M) (p : Nat) : mm_M := mm_up z 157 8 (nI p)
theorem sP_T {z : mm_M} {len p : Nat} {c : Nat → Nat} (hM : Tm z len c) : Tm (sP z p) len c := ⟨by unfold sP; rw [mm_up_app, if_neg (by omega)]; exact hM.1, fun j hj => by unfold sP; rw [mm_up_ne (by omega)]; exact hM.2 j hj⟩
theorem sP_8 {z : mm_M} {p : Nat} : sP z p 157 8 = nI p := by unfold sP; rw [mm_up_app, if_pos ⟨rfl, rfl⟩]
theorem sP_sP {z : mm_M} {p q : Nat} : sP (sP z p) q = sP z q := by
  refine mm_ext1 157 (fun a ha => by unfold sP; rw [mm_up_ne ha, mm_up_ne ha, mm_up_ne ha]) (fun i => ?_)
  unfold sP
  by_cases h : i = 8
  · subst h; rw [mm_up_app, if_pos ⟨rfl, rfl⟩, mm_up_app, if_pos ⟨rfl, rfl⟩]
  · rw [mm_up_app, if_neg (fun w => h w.2), mm_up_app, if_neg (fun w => h w.2), mm_up_app, if_neg (fun w => h w.2)]
theorem sP_self {z : mm_M} {p : Nat} (h : z 157 8 = nI p) : sP z p = z := by
  refine mm_ext1 157 (fun a ha => by unfold sP; rw [mm_up_ne ha]) (fun i => ?_)
  unfold sP
  by_cases h' : i = 8
  · subst h'; rw [mm_up_app, if_pos ⟨rfl, rfl⟩, h]
  · rw [mm_up_app, if_neg (fun w => h' w.2)]
theorem n23 {z : mm_M} {len p N f : Nat} {c : Nat → Nat} (hT : Tx len c) (hM : Tm z len c) (hp : z 157 8 = nI p) (hpl : p ≤ len) (hN : N < 1000) :
    fn_X5_number_23 (f + 1) (nI N) z = if N = 0 then some (z, nI N) else if dg len c p = true then (if 999 < N * 10 + (c p - 48) then some (z, nI N) else fn_X5_number_23 f (nI (N * 10 + (c p - 48))) (sP z (p + 1))) else some (z, nI N) := by
  rw [fn_X5_number_23]
  by_cases n0 : N = 0
  · subst n0
    rw [if_pos (show nI 0 ≤ 0 by decide), if_pos rfl]
  · rw [if_neg (nI_nle (by omega) (by omega)), if_neg n0, sees_d hT hM hp (by have := hT.1; omega)]
    simp only [Option.bind_some]
    by_cases d : dg len c p = true
    · have d' := dg_i.mp d
      have hl := hT.1
      have nn : (nI p < 0 ∨ 80 ≤ Int32.toNatClampNeg (nI p)) = False := eq_false (nI_in (by omega) (by omega))
      have e : (10 : Int32) * nI N + nI (c p) - 48 = nI (N * 10 + (c p - 48)) := by
        show nI 10 * nI N + nI (c p) - nI 48 = _
        rw [pu_mul, nI_add, nI_sub2 (by omega)]; congr 1; omega
      rw [if_pos d, if_pos d, if_neg (show ¬ (1 : Int32) = 0 by decide), hp]
      simp only [nn, if_false]
      rw [nI_clamp (by omega), hM.2 p d'.1, e]
      simp only [nI_1]
      by_cases b : 999 < N * 10 + (c p - 48)
      · have b' : (999 : Int32) < nI (N * 10 + (c p - 48)) := by show nI 999 < nI (N * 10 + (c p - 48)); exact nI_lt b (by omega)
        rw [if_pos b, if_pos b']
      · have b' : ¬ (999 : Int32) < nI (N * 10 + (c p - 48)) := by show ¬ nI 999 < nI (N * 10 + (c p - 48)); exact nI_nlt (by omega) (by omega)
        rw [if_neg b, if_neg b']; rfl
    · rw [if_neg d, if_neg d, if_pos rfl]
theorem numM {z : mm_M} {len p : Nat} {c : Nat → Nat} (hT : Tx len c) (hM : Tm z len c) (hp : z 157 8 = nI p) (d : dg len c p = true) :
    fn_X5_number z = some (sP z (nmv len c p).2, nI (nmv len c p).1) := by
  have d' := dg_i.mp d
  have hl := hT.1
  have d1 := dg_lt d
  have e : nI (c p) - 48 = nI (c p - 48) := nI_sub2 (b := 48) (by omega)
  unfold fn_X5_number
  rw [hp, if_neg (nI_in (by omega) (by omega)), nI_clamp (by omega), hM.2 p d'.1, e]
  simp only [Option.bind_some, nI_1]
  show (mm_b2 (fn_X5_number_23 5 (nI (c p - 48)) (sP z (p + 1))) fun x2 v2 => some (x2, v2)) = _
  have A := n23 (f := 4) (N := c p - 48) (p := p + 1) (z := sP z (p + 1)) hT (sP_T hM) sP_8 (by omega) (by omega)
  rw [A]
  unfold nmv
  by_cases z1 : c p - 48 = 0
  · rw [if_pos z1, if_pos z1, z1]; rfl
  · rw [if_neg z1, if_neg z1]
    by_cases e1 : dg len c (p + 1) = true
    · have d2 := dg_lt e1
      rw [if_pos e1, if_neg (by omega), if_pos e1, sP_sP]
      have B := n23 (f := 3) (N := (c p - 48) * 10 + (c (p + 1) - 48)) (p := p + 1 + 1) (z := sP z (p + 1 + 1)) hT (sP_T hM) sP_8 (by omega) (by omega)
      rw [B, if_neg (by omega), show p + 1 + 1 = p + 2 from rfl]
      by_cases e2 : dg len c (p + 2) = true
      · have d3 := dg_lt e2
        rw [if_pos e2, if_neg (by omega), if_pos e2, sP_sP]
        have D := n23 (f := 2) (N := ((c p - 48) * 10 + (c (p + 1) - 48)) * 10 + (c (p + 2) - 48)) (p := p + 2 + 1) (z := sP z (p + 2 + 1)) hT (sP_T hM) sP_8 (by omega) (by omega)
        rw [D, if_neg (by omega)]
        by_cases e3 : dg len c (p + 2 + 1) = true
        · rw [if_pos e3, if_pos (by omega)]; rfl
        · rw [if_neg e3]; rfl
      · rw [if_neg e2, if_neg e2]; rfl
    · rw [if_neg e1, if_neg e1]; rfl
