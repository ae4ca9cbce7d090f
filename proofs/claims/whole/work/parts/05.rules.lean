/-! numbers -/
abbrev vr (x : Int) : Prop := -2147483648 ≤ x ∧ x ≤ 2147483647
abbrev vq (x : Int) : Prop := -9223372036854775808 ≤ x ∧ x ≤ 9223372036854775807
theorem vI {x : Int} (h : vr x) : (Int32.ofInt x).toInt = x := Int32.toInt_ofInt_of_le (by omega) (by omega)
theorem vJ {x : Int} (h : vq x) : (Int64.ofInt x).toInt = x := Int64.toInt_ofInt_of_le (by omega) (by omega)
theorem vI_lt {x y : Int} (hx : vr x) (hy : vr y) : Int32.ofInt x < Int32.ofInt y ↔ x < y := by rw [Int32.lt_iff_toInt_lt, vI hx, vI hy]
theorem vI_le {x y : Int} (hx : vr x) (hy : vr y) : Int32.ofInt x ≤ Int32.ofInt y ↔ x ≤ y := by rw [Int32.le_iff_toInt_le, vI hx, vI hy]
theorem vI_eq {x y : Int} (hx : vr x) (hy : vr y) : Int32.ofInt x = Int32.ofInt y ↔ x = y := by rw [← Int32.toInt_inj, vI hx, vI hy]
theorem vJ_lt {x y : Int} (hx : vq x) (hy : vq y) : Int64.ofInt x < Int64.ofInt y ↔ x < y := by rw [Int64.lt_iff_toInt_lt, vJ hx, vJ hy]
theorem vJ_eq {x y : Int} (hx : vq x) (hy : vq y) : Int64.ofInt x = Int64.ofInt y ↔ x = y := by rw [← Int64.toInt_inj, vJ hx, vJ hy]
theorem vI_0 : (0 : Int32) = Int32.ofInt 0 := by decide
theorem vI_clamp {x : Int} (h : vr x) : (Int32.ofInt x).toNatClampNeg = x.toNat := Int32.toNatClampNeg_ofInt_of_le (by omega) (by omega)
theorem vI_in {x : Int} {n : Nat} (h : 0 ≤ x) (h2 : x < n) (hn : n ≤ 2147483647) : vp_in (Int32.ofInt x) n := vp_in_iff.mpr (by rw [vI ⟨by omega, by omega⟩]; exact ⟨h, h2⟩)
theorem vI_div {x y : Int} (hx : vr x) (hy : vr y) : Int32.ofInt x / Int32.ofInt y = Int32.ofInt (x.tdiv y) := (Int32.ofInt_tdiv hx.1 hx.2 hy.1 hy.2).symm
theorem vJ_div {x y : Int} (hx : vq x) (hy : vq y) : Int64.ofInt x / Int64.ofInt y = Int64.ofInt (x.tdiv y) := (Int64.ofInt_tdiv hx.1 hx.2 hy.1 hy.2).symm
def vcmp (x y : Int) : Int := if y < x then 1 else if x = y then 0 else -1
theorem vcmp_eq {x y : Int} (hx : vq x) (hy : vq y) : lg_cmp (Int64.ofInt x) (Int64.ofInt y) = Int32.ofInt (vcmp x y) := by
  unfold lg_cmp vcmp
  by_cases h1 : y < x
  · rw [if_pos h1, if_pos (by show Int64.ofInt y < Int64.ofInt x; exact (vJ_lt hy hx).mpr h1)]; decide
  · rw [if_neg h1, if_neg (by show ¬ Int64.ofInt y < Int64.ofInt x; exact fun h => h1 ((vJ_lt hy hx).mp h))]
    by_cases h2 : x = y
    · rw [if_pos h2, if_pos ((vJ_eq hx hy).mpr h2)]; decide
    · rw [if_neg h2, if_neg (fun h => h2 ((vJ_eq hx hy).mp h))]; decide
theorem vget_cons1 {i : Nat} {v : Value} {l : List (Nat × Value)} (hv : v.category = 1) {j : Nat} {u : Value} (h : vget ((i, v) :: l) j = some u) : (j = i ∧ u = v) ∨ (j ≠ i ∧ vget l j = some u ∧ ¬ (j + 1 = i ∧ u.category = 2)) := by
  rw [vget] at h
  cases h1 : Nat.beq i j with
  | true => rw [h1] at h; cases h; exact Or.inl ⟨(Nat.eq_of_beq_eq_true h1).symm, rfl⟩
  | false =>
    rw [h1, cond_false, hv, show Nat.beq 1 2 = false from rfl, Bool.and_false, cond_false] at h
    refine Or.inr ⟨fun e => by rw [e] at h1; exact absurd h1 (by simp), ?_⟩
    cases h3 : vget l j with
    | none => rw [h3] at h; cases h
    | some y =>
      rw [h3] at h
      cases h4 : Nat.beq (j + 1) i && Nat.beq y.category 2 with
      | true => simp only [h4, cond_true] at h; cases h
      | false =>
        simp only [h4, cond_false] at h
        cases h
        refine ⟨rfl, fun e => ?_⟩
        rw [e.1, e.2] at h4
        simp at h4
theorem vget_cons2 {i : Nat} {v : Value} {l : List (Nat × Value)} (hv : v.category = 2) {j : Nat} {u : Value} (h : vget ((i, v) :: l) j = some u) : (j = i ∧ u = v) ∨ (j ≠ i ∧ j ≠ i + 1 ∧ vget l j = some u ∧ ¬ (j + 1 = i ∧ u.category = 2)) := by
  rw [vget] at h
  cases h1 : Nat.beq i j with
  | true => rw [h1] at h; cases h; exact Or.inl ⟨(Nat.eq_of_beq_eq_true h1).symm, rfl⟩
  | false =>
    rw [h1, cond_false, hv, show Nat.beq 2 2 = true from rfl, Bool.and_true] at h
    cases h5 : Nat.beq (i + 1) j with
    | true => rw [h5] at h; cases h
    | false =>
      rw [h5, cond_false] at h
      refine Or.inr ⟨fun e => by rw [e] at h1; exact absurd h1 (by simp), fun e => by rw [e] at h5; exact absurd h5 (by simp), ?_⟩
      cases h3 : vget l j with
      | none => rw [h3] at h; cases h
      | some y =>
        rw [h3] at h
        cases h4 : Nat.beq (j + 1) i && Nat.beq y.category 2 with
        | true => simp only [h4, cond_true] at h; cases h
        | false =>
          simp only [h4, cond_false] at h
          cases h
          refine ⟨rfl, fun e => ?_⟩
          rw [e.1, e.2] at h4
          simp at h4
theorem vL_put1 {a : vAd} {ls : Array Slot} {n : Nat} {lv : List (Nat × Value)} {i : Nat} {v : Value} (h : vL a ls n lv) (hi : i < n) (hv : v.category = 1) : ∃ ls', storeLocals ls i (trv a v) = some ls' ∧ vL a ls' n ((i, v) :: lv) := by
  have hL : lv_has ls n ((List.range n).filterMap (fun j => (vget lv j).map (fun u => (j, trv a u)))) := by
    refine ⟨h.1.1, h.1.2.1, fun q hq => ?_⟩
    obtain ⟨j, -, hj⟩ := List.mem_filterMap.mp hq
    cases hg : vget lv j with
    | none => rw [hg] at hj; cases hj
    | some u => rw [hg] at hj; cases hj; exact h.2 j u hg
  obtain ⟨ls', e', h'⟩ := lv_store1 (v := trv a v) hL hi (by rw [trv_cat]; exact hv)
  refine ⟨ls', e', ⟨h'.1, h'.2.1, fun _ h => by cases h⟩, fun j u hu => ?_⟩
  rcases vget_cons1 hv hu with ⟨rfl, rfl⟩ | ⟨h1, h2, h3⟩
  · exact h'.2.2 (j, trv a u) List.mem_cons_self
  · refine h'.2.2 (j, trv a u) (List.mem_cons_of_mem _ (List.mem_filter.mpr ⟨List.mem_filterMap.mpr ⟨j, List.mem_range.mpr ?_, by rw [h2]; rfl⟩, ?_⟩))
    · have := lv_lt (h.2 j u h2); rw [h.1.1] at this; exact this
    · simp only [Bool.and_eq_true, Bool.not_eq_true', beq_eq_false_iff_ne, ne_eq, Bool.and_eq_false_iff, trv_cat]
      refine ⟨h1, ?_⟩
      by_cases h4 : j + 1 = i
      · exact Or.inr (fun h5 => h3 ⟨h4, h5⟩)
      · exact Or.inl h4
theorem vL_put2 {a : vAd} {ls : Array Slot} {n : Nat} {lv : List (Nat × Value)} {i : Nat} {v : Value} (h : vL a ls n lv) (hi : i + 1 < n) (hv : v.category = 2) : ∃ ls', storeLocals ls i (trv a v) = some ls' ∧ vL a ls' n ((i, v) :: lv) := by
  have hL : lv_has ls n ((List.range n).filterMap (fun j => (vget lv j).map (fun u => (j, trv a u)))) := by
    refine ⟨h.1.1, h.1.2.1, fun q hq => ?_⟩
    obtain ⟨j, -, hj⟩ := List.mem_filterMap.mp hq
    cases hg : vget lv j with
    | none => rw [hg] at hj; cases hj
    | some u => rw [hg] at hj; cases hj; exact h.2 j u hg
  obtain ⟨ls', e', h'⟩ := lv_store2 (v := trv a v) hL hi (by rw [trv_cat]; exact hv)
  refine ⟨ls', e', ⟨h'.1, h'.2.1, fun _ h => by cases h⟩, fun j u hu => ?_⟩
  rcases vget_cons2 hv hu with ⟨rfl, rfl⟩ | ⟨h1, h6, h2, h3⟩
  · exact h'.2.2 (j, trv a u) List.mem_cons_self
  · refine h'.2.2 (j, trv a u) (List.mem_cons_of_mem _ (List.mem_filter.mpr ⟨List.mem_filterMap.mpr ⟨j, List.mem_range.mpr ?_, by rw [h2]; rfl⟩, ?_⟩))
    · have := lv_lt (h.2 j u h2); rw [h.1.1] at this; exact this
    · simp only [Bool.and_eq_true, Bool.not_eq_true', beq_eq_false_iff_ne, ne_eq, Bool.and_eq_false_iff, trv_cat]
      refine ⟨h1, h6, ?_⟩
      by_cases h4 : j + 1 = i
      · exact Or.inr (fun h5 => h3 ⟨h4, h5⟩)
      · exact Or.inl h4
section RULES
variable {g : vGl} {M : vMt} {d : Nat} {N : Nat × Nat × Nat × Nat} {Q : Option Value → List mC → Prop} {pc : Nat} {lv : List (Nat × Value)} {st : List Value} {w : List mC}
theorem v_iadd {x y : Int} (hd : decode M.2.2.1 pc = .ok (.iadd, 1))  (k : V g M d N Q (pc + 1) lv (vi (x + y) :: st) w) : V g M d N Q pc lv (vi y :: vi x :: st) w := by
  intro p e R s m args below meth c a cls D H locs ls QQ hF hG hR hl hr
  have k1 : W p g.1 e R s m args below meth c H locs N.2.2.1 N.2.2.2 QQ (F0 m (pc + 1) ls (.int (Int32.ofInt (x + y)) :: st.map (trv a))) := (k p e R s m args below meth c a cls D H locs ls QQ hF hG hR hl hr)
  show W p g.1 e R s m args below meth c H locs N.2.2.1 N.2.2.2 QQ (F0 m pc ls (.int (Int32.ofInt y) :: .int (Int32.ofInt x) :: st.map (trv a)))
  exact lv_iadd hF.1 hF.2.1 hd (by rw [← Int32.ofInt_add]; exact k1)
theorem v_isub {x y : Int} (hd : decode M.2.2.1 pc = .ok (.isub, 1))  (k : V g M d N Q (pc + 1) lv (vi (x - y) :: st) w) : V g M d N Q pc lv (vi y :: vi x :: st) w := by
  intro p e R s m args below meth c a cls D H locs ls QQ hF hG hR hl hr
  have k1 : W p g.1 e R s m args below meth c H locs N.2.2.1 N.2.2.2 QQ (F0 m (pc + 1) ls (.int (Int32.ofInt (x - y)) :: st.map (trv a))) := (k p e R s m args below meth c a cls D H locs ls QQ hF hG hR hl hr)
  show W p g.1 e R s m args below meth c H locs N.2.2.1 N.2.2.2 QQ (F0 m pc ls (.int (Int32.ofInt y) :: .int (Int32.ofInt x) :: st.map (trv a)))
  exact lv_isub hF.1 hF.2.1 hd (by rw [← Int32.ofInt_sub]; exact k1)
theorem v_imul {x y : Int} (hd : decode M.2.2.1 pc = .ok (.imul, 1))  (k : V g M d N Q (pc + 1) lv (vi (x * y) :: st) w) : V g M d N Q pc lv (vi y :: vi x :: st) w := by
  intro p e R s m args below meth c a cls D H locs ls QQ hF hG hR hl hr
  have k1 : W p g.1 e R s m args below meth c H locs N.2.2.1 N.2.2.2 QQ (F0 m (pc + 1) ls (.int (Int32.ofInt (x * y)) :: st.map (trv a))) := (k p e R s m args below meth c a cls D H locs ls QQ hF hG hR hl hr)
  show W p g.1 e R s m args below meth c H locs N.2.2.1 N.2.2.2 QQ (F0 m pc ls (.int (Int32.ofInt y) :: .int (Int32.ofInt x) :: st.map (trv a)))
  exact lv_imul hF.1 hF.2.1 hd (by rw [← Int32.ofInt_mul]; exact k1)
theorem v_ladd {x y : Int} (hd : decode M.2.2.1 pc = .ok (.ladd, 1))  (k : V g M d N Q (pc + 1) lv (vj (x + y) :: st) w) : V g M d N Q pc lv (vj y :: vj x :: st) w := by
  intro p e R s m args below meth c a cls D H locs ls QQ hF hG hR hl hr
  have k1 : W p g.1 e R s m args below meth c H locs N.2.2.1 N.2.2.2 QQ (F0 m (pc + 1) ls (.long (Int64.ofInt (x + y)) :: st.map (trv a))) := (k p e R s m args below meth c a cls D H locs ls QQ hF hG hR hl hr)
  show W p g.1 e R s m args below meth c H locs N.2.2.1 N.2.2.2 QQ (F0 m pc ls (.long (Int64.ofInt y) :: .long (Int64.ofInt x) :: st.map (trv a)))
  exact lv_ladd hF.1 hF.2.1 hd (by rw [← Int64.ofInt_add]; exact k1)
theorem v_lsub {x y : Int} (hd : decode M.2.2.1 pc = .ok (.lsub, 1))  (k : V g M d N Q (pc + 1) lv (vj (x - y) :: st) w) : V g M d N Q pc lv (vj y :: vj x :: st) w := by
  intro p e R s m args below meth c a cls D H locs ls QQ hF hG hR hl hr
  have k1 : W p g.1 e R s m args below meth c H locs N.2.2.1 N.2.2.2 QQ (F0 m (pc + 1) ls (.long (Int64.ofInt (x - y)) :: st.map (trv a))) := (k p e R s m args below meth c a cls D H locs ls QQ hF hG hR hl hr)
  show W p g.1 e R s m args below meth c H locs N.2.2.1 N.2.2.2 QQ (F0 m pc ls (.long (Int64.ofInt y) :: .long (Int64.ofInt x) :: st.map (trv a)))
  exact lv_lsub hF.1 hF.2.1 hd (by rw [← Int64.ofInt_sub]; exact k1)
theorem v_lmul {x y : Int} (hd : decode M.2.2.1 pc = .ok (.lmul, 1))  (k : V g M d N Q (pc + 1) lv (vj (x * y) :: st) w) : V g M d N Q pc lv (vj y :: vj x :: st) w := by
  intro p e R s m args below meth c a cls D H locs ls QQ hF hG hR hl hr
  have k1 : W p g.1 e R s m args below meth c H locs N.2.2.1 N.2.2.2 QQ (F0 m (pc + 1) ls (.long (Int64.ofInt (x * y)) :: st.map (trv a))) := (k p e R s m args below meth c a cls D H locs ls QQ hF hG hR hl hr)
  show W p g.1 e R s m args below meth c H locs N.2.2.1 N.2.2.2 QQ (F0 m pc ls (.long (Int64.ofInt y) :: .long (Int64.ofInt x) :: st.map (trv a)))
  exact lv_lmul hF.1 hF.2.1 hd (by rw [← Int64.ofInt_mul]; exact k1)
theorem v_idiv {x y : Int} (hd : decode M.2.2.1 pc = .ok (.idiv, 1)) (hx : vr x) (hy : vr y) (h0 : y ≠ 0) (k : V g M d N Q (pc + 1) lv (vi (x.tdiv y) :: st) w) : V g M d N Q pc lv (vi y :: vi x :: st) w := by
  intro p e R s m args below meth c a cls D H locs ls QQ hF hG hR hl hr
  have k1 : W p g.1 e R s m args below meth c H locs N.2.2.1 N.2.2.2 QQ (F0 m (pc + 1) ls (.int (Int32.ofInt (x.tdiv y)) :: st.map (trv a))) := (k p e R s m args below meth c a cls D H locs ls QQ hF hG hR hl hr)
  show W p g.1 e R s m args below meth c H locs N.2.2.1 N.2.2.2 QQ (F0 m pc ls (.int (Int32.ofInt y) :: .int (Int32.ofInt x) :: st.map (trv a)))
  exact lv_idiv hF.1 hF.2.1 hd (fun h => h0 ((vI_eq hy (by omega)).mp (by rw [h]; exact vI_0))) (by rw [vI_div hx hy]; exact k1)
theorem v_ldiv {x y : Int} (hd : decode M.2.2.1 pc = .ok (.ldiv, 1)) (hx : vq x) (hy : vq y) (h0 : y ≠ 0) (k : V g M d N Q (pc + 1) lv (vj (x.tdiv y) :: st) w) : V g M d N Q pc lv (vj y :: vj x :: st) w := by
  intro p e R s m args below meth c a cls D H locs ls QQ hF hG hR hl hr
  have k1 : W p g.1 e R s m args below meth c H locs N.2.2.1 N.2.2.2 QQ (F0 m (pc + 1) ls (.long (Int64.ofInt (x.tdiv y)) :: st.map (trv a))) := (k p e R s m args below meth c a cls D H locs ls QQ hF hG hR hl hr)
  show W p g.1 e R s m args below meth c H locs N.2.2.1 N.2.2.2 QQ (F0 m pc ls (.long (Int64.ofInt y) :: .long (Int64.ofInt x) :: st.map (trv a)))
  exact lv_ldiv hF.1 hF.2.1 hd (fun h => h0 ((vJ_eq hy (by omega)).mp (by rw [h]; decide))) (by rw [vJ_div hx hy]; exact k1)
theorem v_irem {x y : Int} (hd : decode M.2.2.1 pc = .ok (.irem, 1)) (hx : vr x) (hy : vr y) (h0 : y ≠ 0) (k : V g M d N Q (pc + 1) lv (vi (x - x.tdiv y * y) :: st) w) : V g M d N Q pc lv (vi y :: vi x :: st) w := by
  intro p e R s m args below meth c a cls D H locs ls QQ hF hG hR hl hr
  have k1 : W p g.1 e R s m args below meth c H locs N.2.2.1 N.2.2.2 QQ (F0 m (pc + 1) ls (.int (Int32.ofInt (x - x.tdiv y * y)) :: st.map (trv a))) := (k p e R s m args below meth c a cls D H locs ls QQ hF hG hR hl hr)
  show W p g.1 e R s m args below meth c H locs N.2.2.1 N.2.2.2 QQ (F0 m pc ls (.int (Int32.ofInt y) :: .int (Int32.ofInt x) :: st.map (trv a)))
  exact lv_irem hF.1 hF.2.1 hd (fun h => h0 ((vI_eq hy (by omega)).mp (by rw [h]; exact vI_0))) (by rw [vI_div hx hy, ← Int32.ofInt_mul, ← Int32.ofInt_sub]; exact k1)
theorem v_ineg {x : Int} (hd : decode M.2.2.1 pc = .ok (.ineg, 1))  (k : V g M d N Q (pc + 1) lv (vi (-x) :: st) w) : V g M d N Q pc lv (vi x :: st) w := by
  intro p e R s m args below meth c a cls D H locs ls QQ hF hG hR hl hr
  have k1 : W p g.1 e R s m args below meth c H locs N.2.2.1 N.2.2.2 QQ (F0 m (pc + 1) ls (.int (Int32.ofInt (-x)) :: st.map (trv a))) := (k p e R s m args below meth c a cls D H locs ls QQ hF hG hR hl hr)
  show W p g.1 e R s m args below meth c H locs N.2.2.1 N.2.2.2 QQ (F0 m pc ls (.int (Int32.ofInt x) :: st.map (trv a)))
  exact lv_ineg hF.1 hF.2.1 hd (by rw [← Int32.ofInt_neg]; exact k1)
theorem v_lneg {x : Int} (hd : decode M.2.2.1 pc = .ok (.lneg, 1))  (k : V g M d N Q (pc + 1) lv (vj (-x) :: st) w) : V g M d N Q pc lv (vj x :: st) w := by
  intro p e R s m args below meth c a cls D H locs ls QQ hF hG hR hl hr
  have k1 : W p g.1 e R s m args below meth c H locs N.2.2.1 N.2.2.2 QQ (F0 m (pc + 1) ls (.long (Int64.ofInt (-x)) :: st.map (trv a))) := (k p e R s m args below meth c a cls D H locs ls QQ hF hG hR hl hr)
  show W p g.1 e R s m args below meth c H locs N.2.2.1 N.2.2.2 QQ (F0 m pc ls (.long (Int64.ofInt x) :: st.map (trv a)))
  exact lv_lneg hF.1 hF.2.1 hd (by rw [← Int64.ofInt_neg]; exact k1)
theorem v_ishl {x y z : Int} (hd : decode M.2.2.1 pc = .ok (.ishl, 1)) (hz : Int32.ofInt x <<< (Int32.ofInt y &&& 31) = Int32.ofInt z) (k : V g M d N Q (pc + 1) lv (vi z :: st) w) : V g M d N Q pc lv (vi y :: vi x :: st) w := by
  intro p e R s m args below meth c a cls D H locs ls QQ hF hG hR hl hr
  have k1 : W p g.1 e R s m args below meth c H locs N.2.2.1 N.2.2.2 QQ (F0 m (pc + 1) ls (.int (Int32.ofInt z) :: st.map (trv a))) := (k p e R s m args below meth c a cls D H locs ls QQ hF hG hR hl hr)
  show W p g.1 e R s m args below meth c H locs N.2.2.1 N.2.2.2 QQ (F0 m pc ls (.int (Int32.ofInt y) :: .int (Int32.ofInt x) :: st.map (trv a)))
  exact lv_ishl hF.1 hF.2.1 hd (by rw [hz]; exact k1)
theorem v_ishr {x y z : Int} (hd : decode M.2.2.1 pc = .ok (.ishr, 1)) (hz : Int32.ofInt x >>> (Int32.ofInt y &&& 31) = Int32.ofInt z) (k : V g M d N Q (pc + 1) lv (vi z :: st) w) : V g M d N Q pc lv (vi y :: vi x :: st) w := by
  intro p e R s m args below meth c a cls D H locs ls QQ hF hG hR hl hr
  have k1 : W p g.1 e R s m args below meth c H locs N.2.2.1 N.2.2.2 QQ (F0 m (pc + 1) ls (.int (Int32.ofInt z) :: st.map (trv a))) := (k p e R s m args below meth c a cls D H locs ls QQ hF hG hR hl hr)
  show W p g.1 e R s m args below meth c H locs N.2.2.1 N.2.2.2 QQ (F0 m pc ls (.int (Int32.ofInt y) :: .int (Int32.ofInt x) :: st.map (trv a)))
  exact lv_ishr hF.1 hF.2.1 hd (by rw [hz]; exact k1)
theorem v_iand {x y z : Int} (hd : decode M.2.2.1 pc = .ok (.iand, 1)) (hz : Int32.ofInt x &&& Int32.ofInt y = Int32.ofInt z) (k : V g M d N Q (pc + 1) lv (vi z :: st) w) : V g M d N Q pc lv (vi y :: vi x :: st) w := by
  intro p e R s m args below meth c a cls D H locs ls QQ hF hG hR hl hr
  have k1 : W p g.1 e R s m args below meth c H locs N.2.2.1 N.2.2.2 QQ (F0 m (pc + 1) ls (.int (Int32.ofInt z) :: st.map (trv a))) := (k p e R s m args below meth c a cls D H locs ls QQ hF hG hR hl hr)
  show W p g.1 e R s m args below meth c H locs N.2.2.1 N.2.2.2 QQ (F0 m pc ls (.int (Int32.ofInt y) :: .int (Int32.ofInt x) :: st.map (trv a)))
  exact lv_iand hF.1 hF.2.1 hd (by rw [hz]; exact k1)
theorem v_ior {x y z : Int} (hd : decode M.2.2.1 pc = .ok (.ior, 1)) (hz : Int32.ofInt x ||| Int32.ofInt y = Int32.ofInt z) (k : V g M d N Q (pc + 1) lv (vi z :: st) w) : V g M d N Q pc lv (vi y :: vi x :: st) w := by
  intro p e R s m args below meth c a cls D H locs ls QQ hF hG hR hl hr
  have k1 : W p g.1 e R s m args below meth c H locs N.2.2.1 N.2.2.2 QQ (F0 m (pc + 1) ls (.int (Int32.ofInt z) :: st.map (trv a))) := (k p e R s m args below meth c a cls D H locs ls QQ hF hG hR hl hr)
  show W p g.1 e R s m args below meth c H locs N.2.2.1 N.2.2.2 QQ (F0 m pc ls (.int (Int32.ofInt y) :: .int (Int32.ofInt x) :: st.map (trv a)))
  exact lv_ior hF.1 hF.2.1 hd (by rw [hz]; exact k1)
theorem v_i2l {x : Int} (hd : decode M.2.2.1 pc = .ok (.i2l, 1)) (hx : vr x) (k : V g M d N Q (pc + 1) lv (vj x :: st) w) : V g M d N Q pc lv (vi x :: st) w := by
  intro p e R s m args below meth c a cls D H locs ls QQ hF hG hR hl hr
  have k1 : W p g.1 e R s m args below meth c H locs N.2.2.1 N.2.2.2 QQ (F0 m (pc + 1) ls (.long (Int64.ofInt x) :: st.map (trv a))) := (k p e R s m args below meth c a cls D H locs ls QQ hF hG hR hl hr)
  show W p g.1 e R s m args below meth c H locs N.2.2.1 N.2.2.2 QQ (F0 m pc ls (.int (Int32.ofInt x) :: st.map (trv a)))
  exact lv_i2l hF.1 hF.2.1 hd (Int32.toInt64_ofInt hx.1 hx.2) k1
theorem v_l2i {x : Int} (hd : decode M.2.2.1 pc = .ok (.l2i, 1))  (k : V g M d N Q (pc + 1) lv (vi x :: st) w) : V g M d N Q pc lv (vj x :: st) w := by
  intro p e R s m args below meth c a cls D H locs ls QQ hF hG hR hl hr
  have k1 : W p g.1 e R s m args below meth c H locs N.2.2.1 N.2.2.2 QQ (F0 m (pc + 1) ls (.int (Int32.ofInt x) :: st.map (trv a))) := (k p e R s m args below meth c a cls D H locs ls QQ hF hG hR hl hr)
  show W p g.1 e R s m args below meth c H locs N.2.2.1 N.2.2.2 QQ (F0 m pc ls (.long (Int64.ofInt x) :: st.map (trv a)))
  exact lv_l2i hF.1 hF.2.1 hd Int64.toInt32_ofInt k1
theorem v_lcmp {x y : Int} (hd : decode M.2.2.1 pc = .ok (.lcmp, 1)) (hx : vq x) (hy : vq y) (k : V g M d N Q (pc + 1) lv (vi (vcmp x y) :: st) w) : V g M d N Q pc lv (vj y :: vj x :: st) w := by
  intro p e R s m args below meth c a cls D H locs ls QQ hF hG hR hl hr
  have k1 : W p g.1 e R s m args below meth c H locs N.2.2.1 N.2.2.2 QQ (F0 m (pc + 1) ls (.int (Int32.ofInt (vcmp x y)) :: st.map (trv a))) := (k p e R s m args below meth c a cls D H locs ls QQ hF hG hR hl hr)
  show W p g.1 e R s m args below meth c H locs N.2.2.1 N.2.2.2 QQ (F0 m pc ls (.long (Int64.ofInt y) :: .long (Int64.ofInt x) :: st.map (trv a)))
  exact W.lcmp hF.1 hF.2.1 hd (by rw [vcmp_eq hx hy]; exact k1)
theorem v_dup {v : Value} (hd : decode M.2.2.1 pc = .ok (.dup, 1)) (hv : v.category = 1) (k : V g M d N Q (pc + 1) lv (v :: v :: st) w) : V g M d N Q pc lv (v :: st) w := by
  intro p e R s m args below meth c a cls D H locs ls QQ hF hG hR hl hr
  have k1 : W p g.1 e R s m args below meth c H locs N.2.2.1 N.2.2.2 QQ (F0 m (pc + 1) ls (trv a v :: trv a v :: st.map (trv a))) := (k p e R s m args below meth c a cls D H locs ls QQ hF hG hR hl hr)
  show W p g.1 e R s m args below meth c H locs N.2.2.1 N.2.2.2 QQ (F0 m pc ls (trv a v :: st.map (trv a)))
  exact lv_dup hF.1 hF.2.1 hd (by rw [trv_cat]; exact hv) k1
theorem v_dup2 {v u : Value} (hd : decode M.2.2.1 pc = .ok (.dup2, 1)) (hv : v.category = 1) (hu : u.category = 1) (k : V g M d N Q (pc + 1) lv (v :: u :: v :: u :: st) w) : V g M d N Q pc lv (v :: u :: st) w := by
  intro p e R s m args below meth c a cls D H locs ls QQ hF hG hR hl hr
  have k1 : W p g.1 e R s m args below meth c H locs N.2.2.1 N.2.2.2 QQ (F0 m (pc + 1) ls (trv a v :: trv a u :: trv a v :: trv a u :: st.map (trv a))) := (k p e R s m args below meth c a cls D H locs ls QQ hF hG hR hl hr)
  show W p g.1 e R s m args below meth c H locs N.2.2.1 N.2.2.2 QQ (F0 m pc ls (trv a v :: trv a u :: st.map (trv a)))
  exact lv_dup2_11 hF.1 hF.2.1 hd (by rw [trv_cat]; exact hv) (by rw [trv_cat]; exact hu) k1
theorem v_iconst (z : Int) {n : Int} (hd : decode M.2.2.1 pc = .ok (.iconst n, 1)) (hv : Int32.ofInt n = Int32.ofInt z) (k : V g M d N Q (pc + 1) lv (vi z :: st) w) : V g M d N Q pc lv st w := by
  intro p e R s m args below meth c a cls D H locs ls QQ hF hG hR hl hr
  have k1 : W p g.1 e R s m args below meth c H locs N.2.2.1 N.2.2.2 QQ (F0 m (pc + 1) ls (.int (Int32.ofInt z) :: st.map (trv a))) := (k p e R s m args below meth c a cls D H locs ls QQ hF hG hR hl hr)
  show W p g.1 e R s m args below meth c H locs N.2.2.1 N.2.2.2 QQ (F0 m pc ls (st.map (trv a)))
  exact lv_iconst hF.1 hF.2.1 hd hv k1
theorem v_bipush (z : Int) {n : Int} (hd : decode M.2.2.1 pc = .ok (.bipush n, 2)) (hv : (Int8.ofInt n).toInt32 = Int32.ofInt z) (k : V g M d N Q (pc + 2) lv (vi z :: st) w) : V g M d N Q pc lv st w := by
  intro p e R s m args below meth c a cls D H locs ls QQ hF hG hR hl hr
  have k1 : W p g.1 e R s m args below meth c H locs N.2.2.1 N.2.2.2 QQ (F0 m (pc + 2) ls (.int (Int32.ofInt z) :: st.map (trv a))) := (k p e R s m args below meth c a cls D H locs ls QQ hF hG hR hl hr)
  show W p g.1 e R s m args below meth c H locs N.2.2.1 N.2.2.2 QQ (F0 m pc ls (st.map (trv a)))
  exact lv_bipush hF.1 hF.2.1 hd hv k1
theorem v_sipush (z : Int) {n : Int} (hd : decode M.2.2.1 pc = .ok (.sipush n, 3)) (hv : (Int16.ofInt n).toInt32 = Int32.ofInt z) (k : V g M d N Q (pc + 3) lv (vi z :: st) w) : V g M d N Q pc lv st w := by
  intro p e R s m args below meth c a cls D H locs ls QQ hF hG hR hl hr
  have k1 : W p g.1 e R s m args below meth c H locs N.2.2.1 N.2.2.2 QQ (F0 m (pc + 3) ls (.int (Int32.ofInt z) :: st.map (trv a))) := (k p e R s m args below meth c a cls D H locs ls QQ hF hG hR hl hr)
  show W p g.1 e R s m args below meth c H locs N.2.2.1 N.2.2.2 QQ (F0 m pc ls (st.map (trv a)))
  exact lv_sipush hF.1 hF.2.1 hd hv k1
theorem v_ldc (z : Int) {n : Nat} (hd : decode M.2.2.1 pc = .ok (.ldc n, 2)) (hw : Cond.constant M.1 n (Int32.ofInt z) ∈ vWords) (k : V g M d N Q (pc + 2) lv (vi z :: st) w) : V g M d N Q pc lv st w := by
  intro p e R s m args below meth c a cls D H locs ls QQ hF hG hR hl hr
  have k1 : W p g.1 e R s m args below meth c H locs N.2.2.1 N.2.2.2 QQ (F0 m (pc + 2) ls (.int (Int32.ofInt z) :: st.map (trv a))) := (k p e R s m args below meth c a cls D H locs ls QQ hF hG hR hl hr)
  show W p g.1 e R s m args below meth c H locs N.2.2.1 N.2.2.2 QQ (F0 m pc ls (st.map (trv a)))
  exact lv_ldc hF.1 hF.2.1 hF.2.2.2.1 (hF.2.2.2.2.1 _ hw) hd k1
theorem v_ldc2 (z : Int) {n : Nat} (hd : decode M.2.2.1 pc = .ok (.ldc2_w n, 3)) (hw : Cond.constantLong M.1 n (Int64.ofInt z) ∈ vWords) (k : V g M d N Q (pc + 3) lv (vj z :: st) w) : V g M d N Q pc lv st w := by
  intro p e R s m args below meth c a cls D H locs ls QQ hF hG hR hl hr
  have k1 : W p g.1 e R s m args below meth c H locs N.2.2.1 N.2.2.2 QQ (F0 m (pc + 3) ls (.long (Int64.ofInt z) :: st.map (trv a))) := (k p e R s m args below meth c a cls D H locs ls QQ hF hG hR hl hr)
  show W p g.1 e R s m args below meth c H locs N.2.2.1 N.2.2.2 QQ (F0 m pc ls (st.map (trv a)))
  exact lv_ldc2 hF.1 hF.2.1 hF.2.2.2.1 (hF.2.2.2.2.1 _ hw) hd k1
theorem v_lconst (z : Int) {n : Fin 2} (hd : decode M.2.2.1 pc = .ok (.lconst n, 1)) (hv : Int64.ofNat (n : Nat) = Int64.ofInt z) (k : V g M d N Q (pc + 1) lv (vj z :: st) w) : V g M d N Q pc lv st w := by
  intro p e R s m args below meth c a cls D H locs ls QQ hF hG hR hl hr
  have k1 : W p g.1 e R s m args below meth c H locs N.2.2.1 N.2.2.2 QQ (F0 m (pc + 1) ls (.long (Int64.ofInt z) :: st.map (trv a))) := (k p e R s m args below meth c a cls D H locs ls QQ hF hG hR hl hr)
  show W p g.1 e R s m args below meth c H locs N.2.2.1 N.2.2.2 QQ (F0 m pc ls (st.map (trv a)))
  exact lv_lconst hF.1 hF.2.1 hd hv k1
theorem v_iload_n {n : Fin 4} {x : Int} (hd : decode M.2.2.1 pc = .ok (.iload_n n, 1)) (hv : vget lv (n : Nat) = some (vi x)) (k : V g M d N Q (pc + 1) lv (vi x :: st) w) : V g M d N Q pc lv st w := by
  intro p e R s m args below meth c a cls D H locs ls QQ hF hG hR hl hr
  have k1 : W p g.1 e R s m args below meth c H locs N.2.2.1 N.2.2.2 QQ (F0 m (pc + 1) ls (.int (Int32.ofInt x) :: st.map (trv a))) := (k p e R s m args below meth c a cls D H locs ls QQ hF hG hR hl hr)
  show W p g.1 e R s m args below meth c H locs N.2.2.1 N.2.2.2 QQ (F0 m pc ls (st.map (trv a)))
  exact lv_iload_n hF.1 hF.2.1 hd rfl (hl.2 _ _ hv) k1
theorem v_iload {i : Nat} {x : Int} (hd : decode M.2.2.1 pc = .ok (.iload i, 2)) (hv : vget lv i = some (vi x)) (k : V g M d N Q (pc + 2) lv (vi x :: st) w) : V g M d N Q pc lv st w := by
  intro p e R s m args below meth c a cls D H locs ls QQ hF hG hR hl hr
  have k1 : W p g.1 e R s m args below meth c H locs N.2.2.1 N.2.2.2 QQ (F0 m (pc + 2) ls (.int (Int32.ofInt x) :: st.map (trv a))) := (k p e R s m args below meth c a cls D H locs ls QQ hF hG hR hl hr)
  show W p g.1 e R s m args below meth c H locs N.2.2.1 N.2.2.2 QQ (F0 m pc ls (st.map (trv a)))
  exact lv_iload hF.1 hF.2.1 hd (hl.2 _ _ hv) k1
theorem v_lload_n {n : Fin 4} {x : Int} (hd : decode M.2.2.1 pc = .ok (.lload_n n, 1)) (hv : vget lv (n : Nat) = some (vj x)) (k : V g M d N Q (pc + 1) lv (vj x :: st) w) : V g M d N Q pc lv st w := by
  intro p e R s m args below meth c a cls D H locs ls QQ hF hG hR hl hr
  have k1 : W p g.1 e R s m args below meth c H locs N.2.2.1 N.2.2.2 QQ (F0 m (pc + 1) ls (.long (Int64.ofInt x) :: st.map (trv a))) := (k p e R s m args below meth c a cls D H locs ls QQ hF hG hR hl hr)
  show W p g.1 e R s m args below meth c H locs N.2.2.1 N.2.2.2 QQ (F0 m pc ls (st.map (trv a)))
  exact lv_lload_n hF.1 hF.2.1 hd rfl (hl.2 _ _ hv) k1
theorem v_lload {i : Nat} {x : Int} (hd : decode M.2.2.1 pc = .ok (.lload i, 2)) (hv : vget lv i = some (vj x)) (k : V g M d N Q (pc + 2) lv (vj x :: st) w) : V g M d N Q pc lv st w := by
  intro p e R s m args below meth c a cls D H locs ls QQ hF hG hR hl hr
  have k1 : W p g.1 e R s m args below meth c H locs N.2.2.1 N.2.2.2 QQ (F0 m (pc + 2) ls (.long (Int64.ofInt x) :: st.map (trv a))) := (k p e R s m args below meth c a cls D H locs ls QQ hF hG hR hl hr)
  show W p g.1 e R s m args below meth c H locs N.2.2.1 N.2.2.2 QQ (F0 m pc ls (st.map (trv a)))
  exact lv_lload hF.1 hF.2.1 hd (hl.2 _ _ hv) k1
theorem trv_ref (a : vAd) (x : Nat) : ∃ y, trv a (.ref x) = .ref y := by cases x <;> exact ⟨_, rfl⟩
theorem v_aload_n {n : Fin 4} {x : Nat} (hd : decode M.2.2.1 pc = .ok (.aload_n n, 1)) (hv : vget lv (n : Nat) = some (.ref x)) (k : V g M d N Q (pc + 1) lv (.ref x :: st) w) : V g M d N Q pc lv st w := by
  intro p e R s m args below meth c a cls D H locs ls QQ hF hG hR hl hr
  obtain ⟨y, hy⟩ := trv_ref a x
  have k1 : W p g.1 e R s m args below meth c H locs N.2.2.1 N.2.2.2 QQ (F0 m (pc + 1) ls (trv a (.ref x) :: st.map (trv a))) := (k p e R s m args below meth c a cls D H locs ls QQ hF hG hR hl hr)
  have h1 := hl.2 _ _ hv
  rw [hy] at k1 h1
  exact lv_aload_n hF.1 hF.2.1 hd rfl h1 k1
theorem v_istore_n {n : Fin 4} {x : Int} (hd : decode M.2.2.1 pc = .ok (.istore_n n, 1)) (hi : (n : Nat) < M.2.2.2.1) (k : V g M d N Q (pc + 1) (((n : Nat), vi x) :: lv) st w) : V g M d N Q pc lv (vi x :: st) w := by
  intro p e R s m args below meth c a cls D H locs ls QQ hF hG hR hl hr
  obtain ⟨ls', e', h'⟩ := vL_put1 (v := vi x) hl hi rfl
  intro T hT X
  obtain ⟨t, b, b2⟩ := k p e R s m args below meth c a cls D H locs ls' QQ hF hG hR h' hr T hT X
  refine ⟨t, ?_, b2⟩
  have e2 : storeLocals ls (n : Nat) (.int (Int32.ofInt x)) = some ls' := e'
  show Steps p.tables e below (T.setTop (F0 m pc ls (.int (Int32.ofInt x) :: st.map (trv a)))) t
  jvm_step X.here [X.here.top, ↓top_set X.here.top, hF.1, hF.2.1, hd, e2]
  exact b
theorem v_istore {i : Nat} {x : Int} (hd : decode M.2.2.1 pc = .ok (.istore i, 2)) (hi : i < M.2.2.2.1) (k : V g M d N Q (pc + 2) ((i, vi x) :: lv) st w) : V g M d N Q pc lv (vi x :: st) w := by
  intro p e R s m args below meth c a cls D H locs ls QQ hF hG hR hl hr
  obtain ⟨ls', e', h'⟩ := vL_put1 (v := vi x) hl hi rfl
  intro T hT X
  obtain ⟨t, b, b2⟩ := k p e R s m args below meth c a cls D H locs ls' QQ hF hG hR h' hr T hT X
  refine ⟨t, ?_, b2⟩
  have e2 : storeLocals ls i (.int (Int32.ofInt x)) = some ls' := e'
  show Steps p.tables e below (T.setTop (F0 m pc ls (.int (Int32.ofInt x) :: st.map (trv a)))) t
  jvm_step X.here [X.here.top, ↓top_set X.here.top, hF.1, hF.2.1, hd, e2]
  exact b
theorem v_lstore_n {n : Fin 4} {x : Int} (hd : decode M.2.2.1 pc = .ok (.lstore_n n, 1)) (hi : (n : Nat) + 1 < M.2.2.2.1) (k : V g M d N Q (pc + 1) (((n : Nat), vj x) :: lv) st w) : V g M d N Q pc lv (vj x :: st) w := by
  intro p e R s m args below meth c a cls D H locs ls QQ hF hG hR hl hr
  obtain ⟨ls', e', h'⟩ := vL_put2 (v := vj x) hl hi rfl
  intro T hT X
  obtain ⟨t, b, b2⟩ := k p e R s m args below meth c a cls D H locs ls' QQ hF hG hR h' hr T hT X
  refine ⟨t, ?_, b2⟩
  have e2 : storeLocals ls (n : Nat) (.long (Int64.ofInt x)) = some ls' := e'
  show Steps p.tables e below (T.setTop (F0 m pc ls (.long (Int64.ofInt x) :: st.map (trv a)))) t
  jvm_step X.here [X.here.top, ↓top_set X.here.top, hF.1, hF.2.1, hd, e2]
  exact b
theorem v_lstore {i : Nat} {x : Int} (hd : decode M.2.2.1 pc = .ok (.lstore i, 2)) (hi : i + 1 < M.2.2.2.1) (k : V g M d N Q (pc + 2) ((i, vj x) :: lv) st w) : V g M d N Q pc lv (vj x :: st) w := by
  intro p e R s m args below meth c a cls D H locs ls QQ hF hG hR hl hr
  obtain ⟨ls', e', h'⟩ := vL_put2 (v := vj x) hl hi rfl
  intro T hT X
  obtain ⟨t, b, b2⟩ := k p e R s m args below meth c a cls D H locs ls' QQ hF hG hR h' hr T hT X
  refine ⟨t, ?_, b2⟩
  have e2 : storeLocals ls i (.long (Int64.ofInt x)) = some ls' := e'
  show Steps p.tables e below (T.setTop (F0 m pc ls (.long (Int64.ofInt x) :: st.map (trv a)))) t
  jvm_step X.here [X.here.top, ↓top_set X.here.top, hF.1, hF.2.1, hd, e2]
  exact b
theorem v_astore_n {n : Fin 4} {x : Nat} (hd : decode M.2.2.1 pc = .ok (.astore_n n, 1)) (hi : (n : Nat) < M.2.2.2.1) (k : V g M d N Q (pc + 1) (((n : Nat), .ref x) :: lv) st w) : V g M d N Q pc lv (.ref x :: st) w := by
  intro p e R s m args below meth c a cls D H locs ls QQ hF hG hR hl hr
  obtain ⟨ls', e', h'⟩ := vL_put1 (v := .ref x) hl hi rfl
  obtain ⟨y, hy⟩ := trv_ref a x
  intro T hT X
  obtain ⟨t, b, b2⟩ := k p e R s m args below meth c a cls D H locs ls' QQ hF hG hR h' hr T hT X
  refine ⟨t, ?_, b2⟩
  rw [hy] at e'
  show Steps p.tables e below (T.setTop (F0 m pc ls (trv a (.ref x) :: st.map (trv a)))) t
  rw [hy]
  jvm_step X.here [X.here.top, ↓top_set X.here.top, hF.1, hF.2.1, hd, e', Value.isRef]
  exact b
theorem v_iinc (z : Int) {i : Nat} {n x : Int} (hd : decode M.2.2.1 pc = .ok (.iinc i n, 3)) (hv : vget lv i = some (vi x)) (hz : Int32.ofInt n = Int32.ofInt z) (hi : i < M.2.2.2.1) (k : V g M d N Q (pc + 3) ((i, vi (x + z)) :: lv) st w) : V g M d N Q pc lv st w := by
  intro p e R s m args below meth c a cls D H locs ls QQ hF hG hR hl hr
  obtain ⟨ls', e', h'⟩ := vL_put1 (v := vi (x + z)) hl hi rfl
  have h1 : ls[i]? = some (.val (.int (Int32.ofInt x))) := hl.2 _ _ hv
  have e2 : storeLocals ls i (.int (Int32.ofInt x + Int32.ofInt n)) = some ls' := by rw [hz, ← Int32.ofInt_add]; exact e'
  intro T hT X
  obtain ⟨t, b, b2⟩ := k p e R s m args below meth c a cls D H locs ls' QQ hF hG hR h' hr T hT X
  refine ⟨t, ?_, b2⟩
  jvm_step X.here [X.here.top, ↓top_set X.here.top, hF.1, hF.2.1, hd, h1, e2]
  exact b
theorem v_goto {off : Int} (tgt : Nat) (hd : decode M.2.2.1 pc = .ok (.goto off, 3)) (ht : (pc : Int) + off = (tgt : Int)) (k : V g M d N Q tgt lv st w) : V g M d N Q pc lv st w := by
  intro p e R s m args below meth c a cls D H locs ls QQ hF hG hR hl hr
  exact lv_goto hF.1 hF.2.1 hd ht (k p e R s m args below meth c a cls D H locs ls QQ hF hG hR hl hr)
theorem v_icmp_eq {x y off : Int} (tgt : Nat) (hd : decode M.2.2.1 pc = .ok (.if_icmp .eq off, 3)) (ht : (pc : Int) + off = (tgt : Int)) (hx : vr x) (hy : vr y) (kt : x = y → V g M d N Q tgt lv st w) (kf : ¬ x = y → V g M d N Q (pc + 3) lv st w) : V g M d N Q pc lv (vi y :: vi x :: st) w := by
  intro p e R s m args below meth c a cls D H locs ls QQ hF hG hR hl hr
  show W p g.1 e R s m args below meth c H locs N.2.2.1 N.2.2.2 QQ (F0 m pc ls (.int (Int32.ofInt y) :: .int (Int32.ofInt x) :: st.map (trv a)))
  exact lv_icmp_eq hF.1 hF.2.1 hd ht (fun h => kt ((vI_eq hx hy).mp h) p e R s m args below meth c a cls D H locs ls QQ hF hG hR hl hr) (fun h => kf (fun q => h ((vI_eq hx hy).mpr q)) p e R s m args below meth c a cls D H locs ls QQ hF hG hR hl hr)
theorem vr0 : vr 0 := by decide
theorem v_if_eq {x off : Int} (tgt : Nat) (hd : decode M.2.2.1 pc = .ok (.ifCond .eq off, 3)) (ht : (pc : Int) + off = (tgt : Int)) (hx : vr x) (kt : x = 0 → V g M d N Q tgt lv st w) (kf : ¬ x = 0 → V g M d N Q (pc + 3) lv st w) : V g M d N Q pc lv (vi x :: st) w := by
  intro p e R s m args below meth c a cls D H locs ls QQ hF hG hR hl hr
  show W p g.1 e R s m args below meth c H locs N.2.2.1 N.2.2.2 QQ (F0 m pc ls (.int (Int32.ofInt x) :: st.map (trv a)))
  exact lv_if_eq hF.1 hF.2.1 hd ht (fun h => kt ((vI_eq hx vr0).mp (by rw [← vI_0]; exact h)) p e R s m args below meth c a cls D H locs ls QQ hF hG hR hl hr) (fun h => kf (fun q => h (by rw [vI_0]; exact (vI_eq hx vr0).mpr q)) p e R s m args below meth c a cls D H locs ls QQ hF hG hR hl hr)
theorem v_icmp_ne {x y off : Int} (tgt : Nat) (hd : decode M.2.2.1 pc = .ok (.if_icmp .ne off, 3)) (ht : (pc : Int) + off = (tgt : Int)) (hx : vr x) (hy : vr y) (kt : ¬ x = y → V g M d N Q tgt lv st w) (kf : x = y → V g M d N Q (pc + 3) lv st w) : V g M d N Q pc lv (vi y :: vi x :: st) w := by
  intro p e R s m args below meth c a cls D H locs ls QQ hF hG hR hl hr
  show W p g.1 e R s m args below meth c H locs N.2.2.1 N.2.2.2 QQ (F0 m pc ls (.int (Int32.ofInt y) :: .int (Int32.ofInt x) :: st.map (trv a)))
  exact lv_icmp_ne hF.1 hF.2.1 hd ht (fun h => kt (fun q => h ((vI_eq hx hy).mpr q)) p e R s m args below meth c a cls D H locs ls QQ hF hG hR hl hr) (fun h => kf ((vI_eq hx hy).mp h) p e R s m args below meth c a cls D H locs ls QQ hF hG hR hl hr)
theorem v_if_ne {x off : Int} (tgt : Nat) (hd : decode M.2.2.1 pc = .ok (.ifCond .ne off, 3)) (ht : (pc : Int) + off = (tgt : Int)) (hx : vr x) (kt : ¬ x = 0 → V g M d N Q tgt lv st w) (kf : x = 0 → V g M d N Q (pc + 3) lv st w) : V g M d N Q pc lv (vi x :: st) w := by
  intro p e R s m args below meth c a cls D H locs ls QQ hF hG hR hl hr
  show W p g.1 e R s m args below meth c H locs N.2.2.1 N.2.2.2 QQ (F0 m pc ls (.int (Int32.ofInt x) :: st.map (trv a)))
  exact lv_if_ne hF.1 hF.2.1 hd ht (fun h => kt (fun q => h (by rw [vI_0]; exact (vI_eq hx vr0).mpr q)) p e R s m args below meth c a cls D H locs ls QQ hF hG hR hl hr) (fun h => kf ((vI_eq hx vr0).mp (by rw [← vI_0]; exact h)) p e R s m args below meth c a cls D H locs ls QQ hF hG hR hl hr)
theorem v_icmp_lt {x y off : Int} (tgt : Nat) (hd : decode M.2.2.1 pc = .ok (.if_icmp .lt off, 3)) (ht : (pc : Int) + off = (tgt : Int)) (hx : vr x) (hy : vr y) (kt : x < y → V g M d N Q tgt lv st w) (kf : ¬ x < y → V g M d N Q (pc + 3) lv st w) : V g M d N Q pc lv (vi y :: vi x :: st) w := by
  intro p e R s m args below meth c a cls D H locs ls QQ hF hG hR hl hr
  show W p g.1 e R s m args below meth c H locs N.2.2.1 N.2.2.2 QQ (F0 m pc ls (.int (Int32.ofInt y) :: .int (Int32.ofInt x) :: st.map (trv a)))
  exact lv_icmp_lt hF.1 hF.2.1 hd ht (fun h => kt ((vI_lt hx hy).mp h) p e R s m args below meth c a cls D H locs ls QQ hF hG hR hl hr) (fun h => kf (fun q => h ((vI_lt hx hy).mpr q)) p e R s m args below meth c a cls D H locs ls QQ hF hG hR hl hr)
theorem v_if_lt {x off : Int} (tgt : Nat) (hd : decode M.2.2.1 pc = .ok (.ifCond .lt off, 3)) (ht : (pc : Int) + off = (tgt : Int)) (hx : vr x) (kt : x < 0 → V g M d N Q tgt lv st w) (kf : ¬ x < 0 → V g M d N Q (pc + 3) lv st w) : V g M d N Q pc lv (vi x :: st) w := by
  intro p e R s m args below meth c a cls D H locs ls QQ hF hG hR hl hr
  show W p g.1 e R s m args below meth c H locs N.2.2.1 N.2.2.2 QQ (F0 m pc ls (.int (Int32.ofInt x) :: st.map (trv a)))
  exact lv_if_lt hF.1 hF.2.1 hd ht (fun h => kt ((vI_lt hx vr0).mp (by rw [← vI_0]; exact h)) p e R s m args below meth c a cls D H locs ls QQ hF hG hR hl hr) (fun h => kf (fun q => h (by rw [vI_0]; exact (vI_lt hx vr0).mpr q)) p e R s m args below meth c a cls D H locs ls QQ hF hG hR hl hr)
theorem v_icmp_ge {x y off : Int} (tgt : Nat) (hd : decode M.2.2.1 pc = .ok (.if_icmp .ge off, 3)) (ht : (pc : Int) + off = (tgt : Int)) (hx : vr x) (hy : vr y) (kt : y ≤ x → V g M d N Q tgt lv st w) (kf : ¬ y ≤ x → V g M d N Q (pc + 3) lv st w) : V g M d N Q pc lv (vi y :: vi x :: st) w := by
  intro p e R s m args below meth c a cls D H locs ls QQ hF hG hR hl hr
  show W p g.1 e R s m args below meth c H locs N.2.2.1 N.2.2.2 QQ (F0 m pc ls (.int (Int32.ofInt y) :: .int (Int32.ofInt x) :: st.map (trv a)))
  exact lv_icmp_ge hF.1 hF.2.1 hd ht (fun h => kt ((vI_le hy hx).mp h) p e R s m args below meth c a cls D H locs ls QQ hF hG hR hl hr) (fun h => kf (fun q => h ((vI_le hy hx).mpr q)) p e R s m args below meth c a cls D H locs ls QQ hF hG hR hl hr)
theorem v_if_ge {x off : Int} (tgt : Nat) (hd : decode M.2.2.1 pc = .ok (.ifCond .ge off, 3)) (ht : (pc : Int) + off = (tgt : Int)) (hx : vr x) (kt : 0 ≤ x → V g M d N Q tgt lv st w) (kf : ¬ 0 ≤ x → V g M d N Q (pc + 3) lv st w) : V g M d N Q pc lv (vi x :: st) w := by
  intro p e R s m args below meth c a cls D H locs ls QQ hF hG hR hl hr
  show W p g.1 e R s m args below meth c H locs N.2.2.1 N.2.2.2 QQ (F0 m pc ls (.int (Int32.ofInt x) :: st.map (trv a)))
  exact lv_if_ge hF.1 hF.2.1 hd ht (fun h => kt ((vI_le vr0 hx).mp (by rw [← vI_0]; exact h)) p e R s m args below meth c a cls D H locs ls QQ hF hG hR hl hr) (fun h => kf (fun q => h (by rw [vI_0]; exact (vI_le vr0 hx).mpr q)) p e R s m args below meth c a cls D H locs ls QQ hF hG hR hl hr)
theorem v_icmp_gt {x y off : Int} (tgt : Nat) (hd : decode M.2.2.1 pc = .ok (.if_icmp .gt off, 3)) (ht : (pc : Int) + off = (tgt : Int)) (hx : vr x) (hy : vr y) (kt : y < x → V g M d N Q tgt lv st w) (kf : ¬ y < x → V g M d N Q (pc + 3) lv st w) : V g M d N Q pc lv (vi y :: vi x :: st) w := by
  intro p e R s m args below meth c a cls D H locs ls QQ hF hG hR hl hr
  show W p g.1 e R s m args below meth c H locs N.2.2.1 N.2.2.2 QQ (F0 m pc ls (.int (Int32.ofInt y) :: .int (Int32.ofInt x) :: st.map (trv a)))
  exact lv_icmp_gt hF.1 hF.2.1 hd ht (fun h => kt ((vI_lt hy hx).mp h) p e R s m args below meth c a cls D H locs ls QQ hF hG hR hl hr) (fun h => kf (fun q => h ((vI_lt hy hx).mpr q)) p e R s m args below meth c a cls D H locs ls QQ hF hG hR hl hr)
theorem v_if_gt {x off : Int} (tgt : Nat) (hd : decode M.2.2.1 pc = .ok (.ifCond .gt off, 3)) (ht : (pc : Int) + off = (tgt : Int)) (hx : vr x) (kt : 0 < x → V g M d N Q tgt lv st w) (kf : ¬ 0 < x → V g M d N Q (pc + 3) lv st w) : V g M d N Q pc lv (vi x :: st) w := by
  intro p e R s m args below meth c a cls D H locs ls QQ hF hG hR hl hr
  show W p g.1 e R s m args below meth c H locs N.2.2.1 N.2.2.2 QQ (F0 m pc ls (.int (Int32.ofInt x) :: st.map (trv a)))
  exact lv_if_gt hF.1 hF.2.1 hd ht (fun h => kt ((vI_lt vr0 hx).mp (by rw [← vI_0]; exact h)) p e R s m args below meth c a cls D H locs ls QQ hF hG hR hl hr) (fun h => kf (fun q => h (by rw [vI_0]; exact (vI_lt vr0 hx).mpr q)) p e R s m args below meth c a cls D H locs ls QQ hF hG hR hl hr)
theorem v_icmp_le {x y off : Int} (tgt : Nat) (hd : decode M.2.2.1 pc = .ok (.if_icmp .le off, 3)) (ht : (pc : Int) + off = (tgt : Int)) (hx : vr x) (hy : vr y) (kt : x ≤ y → V g M d N Q tgt lv st w) (kf : ¬ x ≤ y → V g M d N Q (pc + 3) lv st w) : V g M d N Q pc lv (vi y :: vi x :: st) w := by
  intro p e R s m args below meth c a cls D H locs ls QQ hF hG hR hl hr
  show W p g.1 e R s m args below meth c H locs N.2.2.1 N.2.2.2 QQ (F0 m pc ls (.int (Int32.ofInt y) :: .int (Int32.ofInt x) :: st.map (trv a)))
  exact lv_icmp_le hF.1 hF.2.1 hd ht (fun h => kt ((vI_le hx hy).mp h) p e R s m args below meth c a cls D H locs ls QQ hF hG hR hl hr) (fun h => kf (fun q => h ((vI_le hx hy).mpr q)) p e R s m args below meth c a cls D H locs ls QQ hF hG hR hl hr)
theorem v_if_le {x off : Int} (tgt : Nat) (hd : decode M.2.2.1 pc = .ok (.ifCond .le off, 3)) (ht : (pc : Int) + off = (tgt : Int)) (hx : vr x) (kt : x ≤ 0 → V g M d N Q tgt lv st w) (kf : ¬ x ≤ 0 → V g M d N Q (pc + 3) lv st w) : V g M d N Q pc lv (vi x :: st) w := by
  intro p e R s m args below meth c a cls D H locs ls QQ hF hG hR hl hr
  show W p g.1 e R s m args below meth c H locs N.2.2.1 N.2.2.2 QQ (F0 m pc ls (.int (Int32.ofInt x) :: st.map (trv a)))
  exact lv_if_le hF.1 hF.2.1 hd ht (fun h => kt ((vI_le hx vr0).mp (by rw [← vI_0]; exact h)) p e R s m args below meth c a cls D H locs ls QQ hF hG hR hl hr) (fun h => kf (fun q => h (by rw [vI_0]; exact (vI_le hx vr0).mpr q)) p e R s m args below meth c a cls D H locs ls QQ hF hG hR hl hr)
theorem v_lc_eq {x y off : Int} (tgt : Nat) (hd : decode M.2.2.1 pc = .ok (.lcmp, 1)) (hd2 : decode M.2.2.1 (pc + 1) = .ok (.ifCond .eq off, 3)) (ht : ((pc + 1 : Nat) : Int) + off = (tgt : Int)) (hx : vq x) (hy : vq y) (kt : x = y → V g M d N Q tgt lv st w) (kf : ¬ x = y → V g M d N Q (pc + 4) lv st w) : V g M d N Q pc lv (vj y :: vj x :: st) w := by
  have hc : vr (vcmp x y) := by unfold vcmp; split <;> (try split) <;> omega
  refine v_lcmp hd hx hy (v_if_eq tgt hd2 ht hc (fun h => kt ?_) (fun h => kf ?_)) <;> (unfold vcmp at h; split at h <;> (try split at h) <;> omega)
theorem v_lc_ne {x y off : Int} (tgt : Nat) (hd : decode M.2.2.1 pc = .ok (.lcmp, 1)) (hd2 : decode M.2.2.1 (pc + 1) = .ok (.ifCond .ne off, 3)) (ht : ((pc + 1 : Nat) : Int) + off = (tgt : Int)) (hx : vq x) (hy : vq y) (kt : ¬ x = y → V g M d N Q tgt lv st w) (kf : x = y → V g M d N Q (pc + 4) lv st w) : V g M d N Q pc lv (vj y :: vj x :: st) w := by
  have hc : vr (vcmp x y) := by unfold vcmp; split <;> (try split) <;> omega
  refine v_lcmp hd hx hy (v_if_ne tgt hd2 ht hc (fun h => kt ?_) (fun h => kf ?_)) <;> (unfold vcmp at h; split at h <;> (try split at h) <;> omega)
theorem v_lc_lt {x y off : Int} (tgt : Nat) (hd : decode M.2.2.1 pc = .ok (.lcmp, 1)) (hd2 : decode M.2.2.1 (pc + 1) = .ok (.ifCond .lt off, 3)) (ht : ((pc + 1 : Nat) : Int) + off = (tgt : Int)) (hx : vq x) (hy : vq y) (kt : x < y → V g M d N Q tgt lv st w) (kf : ¬ x < y → V g M d N Q (pc + 4) lv st w) : V g M d N Q pc lv (vj y :: vj x :: st) w := by
  have hc : vr (vcmp x y) := by unfold vcmp; split <;> (try split) <;> omega
  refine v_lcmp hd hx hy (v_if_lt tgt hd2 ht hc (fun h => kt ?_) (fun h => kf ?_)) <;> (unfold vcmp at h; split at h <;> (try split at h) <;> omega)
theorem v_lc_ge {x y off : Int} (tgt : Nat) (hd : decode M.2.2.1 pc = .ok (.lcmp, 1)) (hd2 : decode M.2.2.1 (pc + 1) = .ok (.ifCond .ge off, 3)) (ht : ((pc + 1 : Nat) : Int) + off = (tgt : Int)) (hx : vq x) (hy : vq y) (kt : y ≤ x → V g M d N Q tgt lv st w) (kf : ¬ y ≤ x → V g M d N Q (pc + 4) lv st w) : V g M d N Q pc lv (vj y :: vj x :: st) w := by
  have hc : vr (vcmp x y) := by unfold vcmp; split <;> (try split) <;> omega
  refine v_lcmp hd hx hy (v_if_ge tgt hd2 ht hc (fun h => kt ?_) (fun h => kf ?_)) <;> (unfold vcmp at h; split at h <;> (try split at h) <;> omega)
theorem v_lc_gt {x y off : Int} (tgt : Nat) (hd : decode M.2.2.1 pc = .ok (.lcmp, 1)) (hd2 : decode M.2.2.1 (pc + 1) = .ok (.ifCond .gt off, 3)) (ht : ((pc + 1 : Nat) : Int) + off = (tgt : Int)) (hx : vq x) (hy : vq y) (kt : y < x → V g M d N Q tgt lv st w) (kf : ¬ y < x → V g M d N Q (pc + 4) lv st w) : V g M d N Q pc lv (vj y :: vj x :: st) w := by
  have hc : vr (vcmp x y) := by unfold vcmp; split <;> (try split) <;> omega
  refine v_lcmp hd hx hy (v_if_gt tgt hd2 ht hc (fun h => kt ?_) (fun h => kf ?_)) <;> (unfold vcmp at h; split at h <;> (try split at h) <;> omega)
theorem v_lc_le {x y off : Int} (tgt : Nat) (hd : decode M.2.2.1 pc = .ok (.lcmp, 1)) (hd2 : decode M.2.2.1 (pc + 1) = .ok (.ifCond .le off, 3)) (ht : ((pc + 1 : Nat) : Int) + off = (tgt : Int)) (hx : vq x) (hy : vq y) (kt : x ≤ y → V g M d N Q tgt lv st w) (kf : ¬ x ≤ y → V g M d N Q (pc + 4) lv st w) : V g M d N Q pc lv (vj y :: vj x :: st) w := by
  have hc : vr (vcmp x y) := by unfold vcmp; split <;> (try split) <;> omega
  refine v_lcmp hd hx hy (v_if_le tgt hd2 ht hc (fun h => kt ?_) (fun h => kf ?_)) <;> (unfold vcmp at h; split at h <;> (try split at h) <;> omega)
theorem v_tableIn {dflt lo hi off x : Int} {offs : Array Int} {len : Nat} (tgt : Nat) (hd : decode M.2.2.1 pc = .ok (.tableswitch dflt lo hi offs, len)) (hx : vr x) (h1 : lo ≤ x) (h2 : x ≤ hi) (ho : offs[(x - lo).toNat]? = some off) (ht : (pc : Int) + off = (tgt : Int)) (k : V g M d N Q tgt lv st w) : V g M d N Q pc lv (vi x :: st) w := by
  intro p e R s m args below meth c a cls D H locs ls QQ hF hG hR hl hr
  show W p g.1 e R s m args below meth c H locs N.2.2.1 N.2.2.2 QQ (F0 m pc ls (.int (Int32.ofInt x) :: st.map (trv a)))
  exact lv_tableIn hF.1 hF.2.1 hd (by rw [vI hx]; omega) (by rw [vI hx]; omega) (by rw [vI hx]; exact ho) ht (k p e R s m args below meth c a cls D H locs ls QQ hF hG hR hl hr)
theorem v_tableOut {dflt lo hi x : Int} {offs : Array Int} {len : Nat} (tgt : Nat) (hd : decode M.2.2.1 pc = .ok (.tableswitch dflt lo hi offs, len)) (hx : vr x) (h1 : x < lo ∨ hi < x) (ht : (pc : Int) + dflt = (tgt : Int)) (k : V g M d N Q tgt lv st w) : V g M d N Q pc lv (vi x :: st) w := by
  intro p e R s m args below meth c a cls D H locs ls QQ hF hG hR hl hr
  show W p g.1 e R s m args below meth c H locs N.2.2.1 N.2.2.2 QQ (F0 m pc ls (.int (Int32.ofInt x) :: st.map (trv a)))
  exact lv_tableOut hF.1 hF.2.1 hd (by rw [vI hx]; exact h1) ht (k p e R s m args below meth c a cls D H locs ls QQ hF hG hR hl hr)
def vsub : List (Nat × Value) → List (Nat × Value) → Prop
  | [], _ => True
  | q :: l, lv => vget lv q.1 = some q.2 ∧ vsub l lv
theorem vsub_mem : ∀ (l lv : List (Nat × Value)), vsub l lv → ∀ q ∈ l, vget lv q.1 = some q.2 := by
  intro l
  induction l with
  | nil => intro lv _ q h; cases h
  | cons x l ih =>
    intro lv h q hq
    rcases List.mem_cons.mp hq with rfl | hq
    · exact h.1
    · exact ih lv h.2 q hq
/-- fewer locals, in another order -/
theorem v_lv {lv' : List (Nat × Value)} (k : V g M d N Q pc lv' st w) (h : vsub lv' lv) : V g M d N Q pc lv st w := by
  intro p e R s m args below meth c a cls D H locs ls QQ hF hG hR hl hr
  exact k p e R s m args below meth c a cls D H locs ls QQ hF hG hR ⟨hl.1, fun i v hv => hl.2 i v (vsub_mem _ _ h (i, v) (vget_mem _ _ _ hv))⟩ hr
theorem v_cons {Q' : Option Value → List mC → Prop} (k : V g M d N Q' pc lv st w) (h : ∀ r w', Q' r w' → Q r w') : V g M d N Q pc lv st w := by
  intro p e R s m args below meth c a cls D H locs ls QQ hF hG hR hl hr
  exact k p e R s m args below meth c a cls D H locs ls QQ hF hG hR hl (fun r w' H' locs' pc' ls' nc ns h1 h2 hq h3 h4 => hr r w' H' locs' pc' ls' nc ns h1 h2 (h r w' hq) h3 h4)
theorem v_ireturn {x : Int} {ty : FieldType} (hd : decode M.2.2.1 pc = .ok (.ireturn, 1)) (hty : M.2.2.2.2 = some ty) (hn : narrow ty (.int (Int32.ofInt x)) = .int (Int32.ofInt x)) (hN : N.2.2.1 ≤ N.1 ∧ N.2.2.2 ≤ N.2.1) (k : Q (some (vi x)) w) : V g M d N Q pc lv [vi x] w := by
  intro p e R s m args below meth c a cls D H locs ls QQ hF hG hR hl hr
  exact hr (some (vi x)) w H locs pc ls _ _ hN.1 hN.2 k hR (Or.inl ⟨_, rfl, hd, ty, hty, hn⟩)
theorem vZ {x : Int} (h : x = 0 ∨ x = 1) : narrow .boolean (.int (Int32.ofInt x)) = .int (Int32.ofInt x) := by rcases h with rfl | rfl <;> decide
theorem v_lreturn {x : Int} (hd : decode M.2.2.1 pc = .ok (.lreturn, 1)) (hty : M.2.2.2.2 = some .long) (hN : N.2.2.1 ≤ N.1 ∧ N.2.2.2 ≤ N.2.1) (k : Q (some (vj x)) w) : V g M d N Q pc lv [vj x] w := by
  intro p e R s m args below meth c a cls D H locs ls QQ hF hG hR hl hr
  exact hr (some (vj x)) w H locs pc ls _ _ hN.1 hN.2 k hR (Or.inr (Or.inl ⟨_, rfl, hd, hty⟩))
theorem v_return (hd : decode M.2.2.1 pc = .ok (.return_, 1)) (hty : M.2.2.2.2 = none) (hN : N.2.2.1 ≤ N.1 ∧ N.2.2.2 ≤ N.2.1) (k : Q none w) : V g M d N Q pc lv [] w := by
  intro p e R s m args below meth c a cls D H locs ls QQ hF hG hR hl hr
  exact hr none w H locs pc ls _ _ hN.1 hN.2 k hR (Or.inr (Or.inr ⟨rfl, hd, hty⟩))
theorem v_sum (a : vAd) (st : List Value) : ((st.map (trv a)).map fun v => v.category).sum = vSl st := by
  unfold vSl
  rw [List.map_map]
  congr 1
  exact List.map_congr_left (fun v _ => trv_cat a v)
theorem v_max {x y : Int} {idx : Nat} (hd : decode M.2.2.1 pc = .ok (.invokestatic idx, 3)) (hw : Cond.methodLink M.1 idx Lib.Math.max.name ∈ vWords) (hs : Cond.static Lib.Math.max.name ∈ vWords) (hi : Cond.initialized "java/lang/Math" ∈ vWords) (hc : Cond.code Lib.Math.max.name Lib.Math.max.code 2 (some .int) ∈ vWords) (hx : vr x) (hy : vr y) (h8 : vSl st ≤ 8) (h1 : 1 ≤ d) (hN : N.2.2.1 ≤ N.1 ∧ N.2.2.2 ≤ N.2.1) (k : V g M d N Q (pc + 3) lv (vi (max x y) :: st) w) : V g M d N Q pc lv (vi y :: vi x :: st) w := by
  intro p e R s m args below meth c a cls D H locs ls QQ hF hG hR hl hr
  have hts := hF.2.2.2.2.1
  have k1 : W p g.1 e R s m args below meth c H locs N.2.2.1 N.2.2.2 QQ (F0 m (pc + 3) ls (.int (Int32.ofInt (max x y)) :: st.map (trv a))) := (k p e R s m args below meth c a cls D H locs ls QQ hF hG hR hl hr)
  have e0 : (if Int32.ofInt x < Int32.ofInt y then Int32.ofInt y else Int32.ofInt x) = Int32.ofInt (max x y) := by
    by_cases h : x < y
    · rw [if_pos ((vI_lt hx hy).mpr h), show max x y = y by omega]
    · rw [if_neg (fun q => h ((vI_lt hx hy).mp q)), show max x y = x by omega]
  have hf := hF.2.2.2.2.2.2.1
  have hlo := hF.2.2.2.2.2.2.2.1
  show W p g.1 e R s m args below meth c H locs N.2.2.1 N.2.2.2 QQ (F0 m pc ls (.int (Int32.ofInt y) :: .int (Int32.ofInt x) :: st.map (trv a)))
  exact va_mmax hF.1 hF.2.1 (by rw [hF.2.2.1]; exact hl.1.1.symm) hF.2.2.2.1 (hts _ hw) (hts _ hs) (hts _ hi) (hts _ hc) (by omega) (by rw [v_sum]; omega) (by rw [hF.2.2.2.2.2.2.2.2.1]; exact hN.1) (by rw [hF.2.2.2.2.2.2.2.2.2]; exact hN.2) hd (by rw [e0]; exact k1)
theorem v_min {x y : Int} {idx : Nat} (hd : decode M.2.2.1 pc = .ok (.invokestatic idx, 3)) (hw : Cond.methodLink M.1 idx Lib.Math.min.name ∈ vWords) (hs : Cond.static Lib.Math.min.name ∈ vWords) (hi : Cond.initialized "java/lang/Math" ∈ vWords) (hc : Cond.code Lib.Math.min.name Lib.Math.min.code 2 (some .int) ∈ vWords) (hx : vr x) (hy : vr y) (h8 : vSl st ≤ 8) (h1 : 1 ≤ d) (hN : N.2.2.1 ≤ N.1 ∧ N.2.2.2 ≤ N.2.1) (k : V g M d N Q (pc + 3) lv (vi (min x y) :: st) w) : V g M d N Q pc lv (vi y :: vi x :: st) w := by
  intro p e R s m args below meth c a cls D H locs ls QQ hF hG hR hl hr
  have hts := hF.2.2.2.2.1
  have k1 : W p g.1 e R s m args below meth c H locs N.2.2.1 N.2.2.2 QQ (F0 m (pc + 3) ls (.int (Int32.ofInt (min x y)) :: st.map (trv a))) := (k p e R s m args below meth c a cls D H locs ls QQ hF hG hR hl hr)
  have e0 : (if Int32.ofInt y < Int32.ofInt x then Int32.ofInt y else Int32.ofInt x) = Int32.ofInt (min x y) := by
    by_cases h : y < x
    · rw [if_pos ((vI_lt hy hx).mpr h), show min x y = y by omega]
    · rw [if_neg (fun q => h ((vI_lt hy hx).mp q)), show min x y = x by omega]
  have hf := hF.2.2.2.2.2.2.1
  have hlo := hF.2.2.2.2.2.2.2.1
  show W p g.1 e R s m args below meth c H locs N.2.2.1 N.2.2.2 QQ (F0 m pc ls (.int (Int32.ofInt y) :: .int (Int32.ofInt x) :: st.map (trv a)))
  exact va_mmin hF.1 hF.2.1 (by rw [hF.2.2.1]; exact hl.1.1.symm) hF.2.2.2.1 (hts _ hw) (hts _ hs) (hts _ hi) (hts _ hc) (by omega) (by rw [v_sum]; omega) (by rw [hF.2.2.2.2.2.2.2.2.1]; exact hN.1) (by rw [hF.2.2.2.2.2.2.2.2.2]; exact hN.2) hd (by rw [e0]; exact k1)
end RULES
