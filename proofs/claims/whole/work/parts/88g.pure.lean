/-! A CHANGE KEPT: the class keeps its rivers, the reference its rows -/
theorem BZ_of {x z : mm_M} (hB : BZ x) (h : ∀ a, 0 < a → a < 157 → a ≠ 16 → z a = x a) : BZ z := fun a ha => by
  have k := kd_lt157 ha
  have n := kd_not ha
  rw [h a (by omega) k.1 k.2.1]; exact hB a ha
theorem ISl_of {x z : mm_M} (h : ISl x) (h18 : z 18 = x 18) (h162 : z 162 = x 162) (h161 : z 161 = x 161) (hr : ∀ a, 127 ≤ a → a < 157 → z a = x a) : ISl z := fun s hs => by
  obtain ⟨a1, a2, a3⟩ := h s hs
  rw [h18, h162, h161]
  exact ⟨a1, a2, fun q => ⟨(a3 q).1, Sim_keep (a3 q).2 (fun a l1 l2 => hr a (by omega) (by omega))⟩⟩
theorem IPd_of {x z : mm_M} (h : IPd x) (h19 : z 19 1 = x 19 1) (h7 : z 157 7 = x 157 7) (h20 : z 20 = x 20) (h163 : z 163 = x 163) : IPd z := by
  obtain ⟨len, a1, a2, a3, a4⟩ := h
  exact ⟨len, a1, h19.trans a2, h7.trans a3, fun j hj => by rw [h20, h163]; exact a4 j hj⟩
/-- what is kept of the history -/
theorem IHi_of {x z : mm_M} {h : Nat} {p : Nat → Nat} (hH : IHi x h p) (h0 : z 0 2 = x 0 2) (h5 : z 157 5 = x 157 5) (h16 : z 16 = x 16) (h159 : z 159 = x 159) (hr : ∀ i a, i < h → p i ≤ a → a ≤ p i + 14 → z a = x a) : IHi z h p := by
  obtain ⟨h6, a1, a2, a3, a4, a5⟩ := hH
  refine ⟨h6, h0.trans a1, h5.trans a2, fun i hi => by rw [h16]; exact a3 i hi, a4, fun i hi => ?_⟩
  rw [h159]
  exact ⟨(a5 i hi).1, Sim_keep (a5 i hi).2 (fun a l1 l2 => hr i a hi l1 l2)⟩
theorem IHi_rg {x : mm_M} {h : Nat} {p : Nat → Nat} (hH : IHi x h p) {i : Nat} (hi : i < 7) : 22 ≤ p i ∧ p i ≤ 112 := by
  obtain ⟨-, t, ht, e⟩ := hH.2.2.2.1 i hi
  omega
theorem IHi_ne {x : mm_M} {h : Nat} {p : Nat → Nat} (hH : IHi x h p) {i j : Nat} (hi : i < 7) (hj : j < 7) (hij : i ≠ j) : p i + 15 ≤ p j ∨ p j + 15 ≤ p i := by
  obtain ⟨-, t, ht, e⟩ := hH.2.2.2.1 i hi
  obtain ⟨-, s, hs, f⟩ := hH.2.2.2.1 j hj
  have := fun q => hij (hH.2.2.2.2.1 i j hi hj q)
  have q : t ≠ s := fun q => this (by omega)
  omega
theorem B_rec {x x2 : mm_M} {h : Nat} {p : Nat → Nat} {w : Nat → Int32} (r : Int32) (hv : WV (x 158)) (hS : Sim x 1 (x 158)) (hH : IHi x h p) (hL : ISl x)
    (hc : CpEq x2 (p h) x 1) (ho : ∀ a, (a = 0 ∨ (15 < a ∧ a ≠ 19 ∧ a ≠ 20 ∧ a ≠ 21 ∧ (a < p h ∨ p h + 14 < a))) → x2 a = x a) (hB2 : BZ x2) (hS2 : Sim x2 1 w) (hw : WV w) :
    ∃ x3, fn_X4_recordUnlessError r x2 = some (x3, r) ∧ (∀ a, a ≠ 0 → a ≠ 16 → x3 a = x2 a) ∧ ∀ z : mm_M, (∀ a, a ≠ 157 → a ≠ 158 → a ≠ 160 → a ≠ 163 → a ≠ 164 → z a = x3 a) → z 158 = w → (∀ j, j < 135 → z 160 j = x 158 j) → z 157 5 = nI h → IPd z → ∃ x4, fn_X5_record r z = some (x4, r) ∧ Inv x4 := by
  have h6 : h ≤ 6 := hH.1
  have hh := IHi_rg hH (i := h) (by omega)
  by_cases hr : 0 ≤ r
  · by_cases hlt : h = 6
    · subst hlt
      have hp2 : ∀ i, i < 7 → x2 16 i = nI (p i) ∧ ∃ t, t < 7 ∧ p i = 22 + 15 * t := fun i hi => by rw [ho 16 (by omega)]; exact hH.2.2.2.1 i hi
      obtain ⟨x3, f3, o3, s3, e3⟩ := B_drop hp2
      refine ⟨x3, ?_, fun a _ h16 => o3 a h16, fun z hz z158 z160 z5 hP => ?_⟩
      · unfold fn_X4_recordUnlessError
        have c : (6 : Int32) ≤ x2 0 2 := by rw [ho 0 (by omega), hH.2.1]; show nI 6 ≤ nI 6; exact nI_le (by omega) (by omega)
        rw [if_pos hr, if_pos c, f3]; rfl
      · refine ⟨_, pu_record (by omega) z5 hr, ?_⟩
        have zz : ∀ a, a ≠ 157 → a ≠ 158 → a ≠ 160 → a ≠ 163 → a ≠ 164 → a ≠ 159 → a ≠ 16 → (cs (cs z 159 (recP (z 159) (z 160) 6)) 157 (upd (z 157) 5 (nI (if 6 = 6 then 6 else 6 + 1)))) a = x2 a := fun a q1 q2 q3 q4 q5 q6 q7 => by rw [cs_ne q1, cs_ne q6, hz a q1 q2 q3 q4 q5, o3 a q7]
        have z159 : z 159 = x 159 := by rw [hz 159 (by omega) (by omega) (by omega) (by omega) (by omega), o3 159 (by omega), ho 159 (by omega)]
        have y159 : (cs (cs z 159 (recP (z 159) (z 160) 6)) 157 (upd (z 157) 5 (nI (if 6 = 6 then 6 else 6 + 1)))) 159 = recP (x 159) (z 160) 6 := by rw [cs_ne (by omega), cs_k, z159]
        have y158 : (cs (cs z 159 (recP (z 159) (z 160) 6)) 157 (upd (z 157) 5 (nI (if 6 = 6 then 6 else 6 + 1)))) 158 = w := by rw [cs_ne (by omega), cs_ne (by omega), z158]
        have y157 : (cs (cs z 159 (recP (z 159) (z 160) 6)) 157 (upd (z 157) 5 (nI (if 6 = 6 then 6 else 6 + 1)))) 157 = upd (z 157) 5 (nI 6) := by rw [cs_k]; rfl
        have y16 : (cs (cs z 159 (recP (z 159) (z 160) 6)) 157 (upd (z 157) 5 (nI (if 6 = 6 then 6 else 6 + 1)))) 16 = x3 16 := by rw [cs_ne (by omega), cs_ne (by omega), hz 16 (by omega) (by omega) (by omega) (by omega) (by omega)]
        have y163 : (cs (cs z 159 (recP (z 159) (z 160) 6)) 157 (upd (z 157) 5 (nI (if 6 = 6 then 6 else 6 + 1)))) 163 = z 163 := by rw [cs_ne (by omega), cs_ne (by omega)]
        have y19 : (cs (cs z 159 (recP (z 159) (z 160) 6)) 157 (upd (z 157) 5 (nI (if 6 = 6 then 6 else 6 + 1)))) 19 = z 19 := by rw [cs_ne (by omega), cs_ne (by omega)]
        have y20 : (cs (cs z 159 (recP (z 159) (z 160) 6)) 157 (upd (z 157) 5 (nI (if 6 = 6 then 6 else 6 + 1)))) 20 = z 20 := by rw [cs_ne (by omega), cs_ne (by omega)]
        generalize cs (cs z 159 (recP (z 159) (z 160) 6)) 157 (upd (z 157) 5 (nI (if 6 = 6 then 6 else 6 + 1))) = y at *
        refine ⟨BZ_of hB2 (fun a q1 q2 q3 => zz a (by omega) (by omega) (by omega) (by omega) (by omega) (by omega) q3), by rw [y158]; exact hw, ?_, ⟨6, fun i => if i < 6 then p (i + 1) else p 0, ?_⟩, ?_, ?_⟩
        · rw [y158]; exact Sim_keep hS2 (fun a l1 l2 => zz a (by omega) (by omega) (by omega) (by omega) (by omega) (by omega) (by omega))
        · refine ⟨by omega, ?_, ?_, ?_, ?_, ?_⟩
          · rw [zz 0 (by omega) (by omega) (by omega) (by omega) (by omega) (by omega) (by omega), ho 0 (by omega)]; exact hH.2.1
          · rw [y157, upd_s]
          · intro i hi
            show y 16 i = nI (if i < 6 then p (i + 1) else p 0) ∧ ∃ t, t < 7 ∧ (if i < 6 then p (i + 1) else p 0) = 22 + 15 * t
            rw [y16]
            by_cases q : i < 6
            · rw [if_pos q]; exact ⟨s3 i q, (hH.2.2.2.1 (i + 1) (by omega)).2⟩
            · rw [if_neg q]; obtain rfl : i = 6 := by omega
              exact ⟨e3, (hH.2.2.2.1 0 (by omega)).2⟩
          · intro i j hi hj hij
            have hij' : (if i < 6 then p (i + 1) else p 0) = (if j < 6 then p (j + 1) else p 0) := hij
            by_cases q : i < 6
            · by_cases q' : j < 6
              · rw [if_pos q, if_pos q'] at hij'
                have := hH.2.2.2.2.1 _ _ (by omega) (by omega) hij'; omega
              · rw [if_pos q, if_neg q'] at hij'
                have := hH.2.2.2.2.1 _ _ (by omega) (by omega) hij'; omega
            · by_cases q' : j < 6
              · rw [if_neg q, if_pos q'] at hij'
                have := hH.2.2.2.2.1 _ _ (by omega) (by omega) hij'; omega
              · omega
          · intro i hi
            show WV (seg (y 159) (135 * i)) ∧ Sim y (if i < 6 then p (i + 1) else p 0) (seg (y 159) (135 * i))
            rw [if_pos hi, y159]
            by_cases q : i = 5
            · subst q
              have e : ∀ j, j < 135 → seg (recP (x 159) (z 160) 6) (135 * 5) j = x 158 j := fun j hj => by
                show recP (x 159) (z 160) 6 (135 * 5 + j) = x 158 j
                unfold recP
                rw [if_pos rfl]
                show (if 675 ≤ 135 * 5 + j ∧ 135 * 5 + j < 810 then z 160 (135 * 5 + j - 675) else _) = _
                rw [if_pos (by omega), show 135 * 5 + j - 675 = j from by omega]; exact z160 j hj
              refine ⟨WV_c135 hv e, Sim_c135 hv (Sim_keep (hc.sim hS) (fun a l1 l2 => ?_)) e⟩
              have m1 : p 6 ≤ a := l1
              have m2 : a ≤ p 6 + 14 := l2
              clear l1 l2
              exact zz a (by omega) (by omega) (by omega) (by omega) (by omega) (by omega) (by omega)
            · have e : ∀ j, j < 135 → seg (recP (x 159) (z 160) 6) (135 * i) j = seg (x 159) (135 * (i + 1)) j := fun j hj => by
                show recP (x 159) (z 160) 6 (135 * i + j) = x 159 (135 * (i + 1) + j)
                unfold recP
                rw [if_pos rfl]
                show (if 675 ≤ 135 * i + j ∧ 135 * i + j < 810 then _ else if 135 * i + j < 675 then x 159 (135 + (135 * i + j)) else _) = _
                rw [if_neg (by omega), if_pos (by omega), show 135 + (135 * i + j) = 135 * (i + 1) + j from by omega]
              obtain ⟨b1, b2⟩ := hH.2.2.2.2.2 (i + 1) (by omega)
              have rg := IHi_rg hH (i := i + 1) (by omega)
              have nn := IHi_ne hH (i := i + 1) (j := 6) (by omega) (by omega) (by omega)
              refine ⟨WV_c135 b1 e, Sim_c135 b1 (Sim_keep b2 (fun a l1 l2 => ?_)) e⟩
              rw [zz a (by omega) (by omega) (by omega) (by omega) (by omega) (by omega) (by omega)]; exact ho a (by omega)
        · refine ISl_of hL ?_ ?_ ?_ (fun a l1 l2 => ?_)
          · rw [zz 18 (by omega) (by omega) (by omega) (by omega) (by omega) (by omega) (by omega)]; exact ho 18 (by omega)
          · rw [zz 162 (by omega) (by omega) (by omega) (by omega) (by omega) (by omega) (by omega)]; exact ho 162 (by omega)
          · rw [zz 161 (by omega) (by omega) (by omega) (by omega) (by omega) (by omega) (by omega)]; exact ho 161 (by omega)
          · rw [zz a (by omega) (by omega) (by omega) (by omega) (by omega) (by omega) (by omega)]; exact ho a (by omega)
        · exact IPd_of hP (by rw [y19]) (by rw [y157, upd_n (by omega)]) y20 y163
    · refine ⟨mm_up x2 0 2 (nI (h + 1)), ?_, fun a q1 _ => mm_up_ne q1, fun z hz z158 z160 z5 hP => ?_⟩
      · unfold fn_X4_recordUnlessError
        have c : ¬ (6 : Int32) ≤ x2 0 2 := by rw [ho 0 (by omega), hH.2.1]; show ¬ nI 6 ≤ nI h; exact nI_ge (by omega) (by omega)
        rw [if_pos hr, if_neg c, ho 0 (by omega), hH.2.1, nI_1]; rfl
      · refine ⟨_, pu_record (by omega) z5 hr, ?_⟩
        rw [if_neg hlt]
        have zz : ∀ a, a ≠ 157 → a ≠ 158 → a ≠ 160 → a ≠ 163 → a ≠ 164 → a ≠ 159 → a ≠ 0 → (cs (cs z 159 (recP (z 159) (z 160) h)) 157 (upd (z 157) 5 (nI (h + 1)))) a = x2 a := fun a q1 q2 q3 q4 q5 q6 q7 => by rw [cs_ne q1, cs_ne q6, hz a q1 q2 q3 q4 q5, mm_up_ne q7]
        have z159 : z 159 = x 159 := by rw [hz 159 (by omega) (by omega) (by omega) (by omega) (by omega), mm_up_ne (by omega), ho 159 (by omega)]
        have y159 : (cs (cs z 159 (recP (z 159) (z 160) h)) 157 (upd (z 157) 5 (nI (h + 1)))) 159 = recP (x 159) (z 160) h := by rw [cs_ne (by omega), cs_k, z159]
        have y158 : (cs (cs z 159 (recP (z 159) (z 160) h)) 157 (upd (z 157) 5 (nI (h + 1)))) 158 = w := by rw [cs_ne (by omega), cs_ne (by omega), z158]
        have y157 : (cs (cs z 159 (recP (z 159) (z 160) h)) 157 (upd (z 157) 5 (nI (h + 1)))) 157 = upd (z 157) 5 (nI (h + 1)) := by rw [cs_k]
        have y0 : (cs (cs z 159 (recP (z 159) (z 160) h)) 157 (upd (z 157) 5 (nI (h + 1)))) 0 2 = nI (h + 1) := by rw [cs_ne (by omega), cs_ne (by omega), hz 0 (by omega) (by omega) (by omega) (by omega) (by omega), mm_up_app, if_pos ⟨rfl, rfl⟩]
        have y163 : (cs (cs z 159 (recP (z 159) (z 160) h)) 157 (upd (z 157) 5 (nI (h + 1)))) 163 = z 163 := by rw [cs_ne (by omega), cs_ne (by omega)]
        have y19 : (cs (cs z 159 (recP (z 159) (z 160) h)) 157 (upd (z 157) 5 (nI (h + 1)))) 19 = z 19 := by rw [cs_ne (by omega), cs_ne (by omega)]
        have y20 : (cs (cs z 159 (recP (z 159) (z 160) h)) 157 (upd (z 157) 5 (nI (h + 1)))) 20 = z 20 := by rw [cs_ne (by omega), cs_ne (by omega)]
        generalize cs (cs z 159 (recP (z 159) (z 160) h)) 157 (upd (z 157) 5 (nI (h + 1))) = y at *
        refine ⟨BZ_of hB2 (fun a q1 q2 q3 => zz a (by omega) (by omega) (by omega) (by omega) (by omega) (by omega) (by omega)), by rw [y158]; exact hw, ?_, ⟨h + 1, p, ?_⟩, ?_, ?_⟩
        · rw [y158]; exact Sim_keep hS2 (fun a l1 l2 => zz a (by omega) (by omega) (by omega) (by omega) (by omega) (by omega) (by omega))
        · refine ⟨by omega, y0, ?_, ?_, hH.2.2.2.2.1, ?_⟩
          · rw [y157, upd_s]
          · intro i hi
            rw [zz 16 (by omega) (by omega) (by omega) (by omega) (by omega) (by omega) (by omega), ho 16 (by omega)]; exact hH.2.2.2.1 i hi
          · intro i hi
            rw [y159]
            by_cases q : i = h
            · subst q
              have e : ∀ j, j < 135 → seg (recP (x 159) (z 160) i) (135 * i) j = x 158 j := fun j hj => by
                show recP (x 159) (z 160) i (135 * i + j) = x 158 j
                unfold recP
                rw [if_neg hlt]
                show (if 135 * i ≤ 135 * i + j ∧ 135 * i + j < 135 * i + 135 then z 160 (135 * i + j - 135 * i) else _) = _
                rw [if_pos (by omega), show 135 * i + j - 135 * i = j from by omega]; exact z160 j hj
              refine ⟨WV_c135 hv e, Sim_c135 hv (Sim_keep (hc.sim hS) (fun a l1 l2 => ?_)) e⟩
              exact zz a (by omega) (by omega) (by omega) (by omega) (by omega) (by omega) (by omega)
            · have e : ∀ j, j < 135 → seg (recP (x 159) (z 160) h) (135 * i) j = seg (x 159) (135 * i) j := fun j hj => by
                show recP (x 159) (z 160) h (135 * i + j) = x 159 (135 * i + j)
                unfold recP
                rw [if_neg hlt]
                show (if 135 * h ≤ 135 * i + j ∧ 135 * i + j < 135 * h + 135 then _ else x 159 (135 * i + j)) = _
                rw [if_neg (by omega)]
              obtain ⟨b1, b2⟩ := hH.2.2.2.2.2 i (by omega)
              have rg := IHi_rg hH (i := i) (by omega)
              have nn := IHi_ne hH (i := i) (j := h) (by omega) (by omega) q
              refine ⟨WV_c135 b1 e, Sim_c135 b1 (Sim_keep b2 (fun a l1 l2 => ?_)) e⟩
              rw [zz a (by omega) (by omega) (by omega) (by omega) (by omega) (by omega) (by omega)]; exact ho a (by omega)
        · refine ISl_of hL ?_ ?_ ?_ (fun a l1 l2 => ?_)
          · rw [zz 18 (by omega) (by omega) (by omega) (by omega) (by omega) (by omega) (by omega)]; exact ho 18 (by omega)
          · rw [zz 162 (by omega) (by omega) (by omega) (by omega) (by omega) (by omega) (by omega)]; exact ho 162 (by omega)
          · rw [zz 161 (by omega) (by omega) (by omega) (by omega) (by omega) (by omega) (by omega)]; exact ho 161 (by omega)
          · rw [zz a (by omega) (by omega) (by omega) (by omega) (by omega) (by omega) (by omega)]; exact ho a (by omega)
        · exact IPd_of hP (by rw [y19]) (by rw [y157, upd_n (by omega)]) y20 y163
  · refine ⟨x2, by unfold fn_X4_recordUnlessError; rw [if_neg hr], fun _ _ _ => rfl, fun z hz z158 z160 z5 hP => ⟨z, pu_record_neg hr, ?_⟩⟩
    refine ⟨BZ_of hB2 (fun a q1 q2 q3 => hz a (by omega) (by omega) (by omega) (by omega) (by omega)), by rw [z158]; exact hw, ?_, ⟨h, p, ?_⟩, ?_, hP⟩
    · rw [z158]; exact Sim_keep hS2 (fun a l1 l2 => hz a (by omega) (by omega) (by omega) (by omega) (by omega))
    · refine IHi_of hH ?_ (z5.trans hH.2.2.1.symm) ?_ ?_ (fun i a hi l1 l2 => ?_)
      · rw [hz 0 (by omega) (by omega) (by omega) (by omega) (by omega), ho 0 (by omega)]
      · rw [hz 16 (by omega) (by omega) (by omega) (by omega) (by omega), ho 16 (by omega)]
      · rw [hz 159 (by omega) (by omega) (by omega) (by omega) (by omega), ho 159 (by omega)]
      · have rg := IHi_rg hH (i := i) (by omega)
        have nn := IHi_ne hH (i := i) (j := h) (by omega) (by omega) (by omega)
        rw [hz a (by omega) (by omega) (by omega) (by omega) (by omega)]; exact ho a (by omega)
    · refine ISl_of hL ?_ ?_ ?_ (fun a l1 l2 => ?_)
      · rw [hz 18 (by omega) (by omega) (by omega) (by omega) (by omega)]; exact ho 18 (by omega)
      · rw [hz 162 (by omega) (by omega) (by omega) (by omega) (by omega)]; exact ho 162 (by omega)
      · rw [hz 161 (by omega) (by omega) (by omega) (by omega) (by omega)]; exact ho 161 (by omega)
      · rw [hz a (by omega) (by omega) (by omega) (by omega) (by omega)]; exact ho a (by omega)
