set_option maxHeartbeats 4000000 in
set_option maxRecDepth 100000 in
theorem c_X4_has {g : vGl} {d : Nat} {Q : Option Value → List mC → Prop} {σ : vSt} {k : Int} (hk : vr k) (hs : vr (σ 10 6)) (hQ : Q (some (vi (if 0 ≤ k ∧ k < σ 10 6 then 1 else 0))) (hp σ)) : V g mX4_has d (0, 0, 0, 0) Q 0 [(0, .ref 10), (1, vi k)] [] (hp σ) := by
  refine v_iload_n (pc := 0) dX4_has_0 rfl ?_
  refine v_if_lt (pc := 1) 16 dX4_has_1 (by decide) (by omega) (fun h1 => ?_) (fun h1 => ?_)
  · refine v_iconst (pc := 16) (0) dX4_has_16 (by decide) ?_
    refine v_ireturn (pc := 17) dX4_has_17 rfl (vZ (by omega)) ⟨Nat.le_refl _, Nat.le_refl _⟩ ?_
    first | (rw [if_pos (by omega)] at hQ; exact hQ) | (rw [if_neg (by omega)] at hQ; exact hQ)
  · refine v_iload_n (pc := 4) dX4_has_4 rfl ?_
    refine v_aload_n (pc := 5) dX4_has_5 rfl ?_
    refine v_gI (pc := 6) dX4_has_6 fl_X4_24 rfl ?_
    refine v_icmp_ge (pc := 9) 16 dX4_has_9 (by decide) (by omega) (by omega) (fun h9 => ?_) (fun h9 => ?_)
    · refine v_iconst (pc := 16) (0) dX4_has_16 (by decide) ?_
      refine v_ireturn (pc := 17) dX4_has_17 rfl (vZ (by omega)) ⟨Nat.le_refl _, Nat.le_refl _⟩ ?_
      first | (rw [if_pos (by omega)] at hQ; exact hQ) | (rw [if_neg (by omega)] at hQ; exact hQ)
    · refine v_iconst (pc := 12) (1) dX4_has_12 (by decide) ?_
      refine v_goto (pc := 13) 17 dX4_has_13 (by decide) ?_
      refine v_ireturn (pc := 17) dX4_has_17 rfl (vZ (by omega)) ⟨Nat.le_refl _, Nat.le_refl _⟩ ?_
      first | (rw [if_pos (by omega)] at hQ; exact hQ) | (rw [if_neg (by omega)] at hQ; exact hQ)
set_option maxHeartbeats 4000000 in
set_option maxRecDepth 100000 in
theorem c_X4_tankFor {g : vGl} {d : Nat} {Q : Option Value → List mC → Prop} {σ : vSt} {z : Int} (hz : 0 ≤ z ∧ z ≤ 100000) (hs : 0 ≤ σ 2 1 ∧ σ 2 1 ≤ 100) (hQ : Q (some (vi ((z * σ 2 1 + 99).tdiv 100))) (hp σ)) : V g mX4_tankFor d (0, 0, 0, 0) Q 0 [(0, .ref 10), (1, vi z)] [] (hp σ) := by
  have h1 : 0 ≤ z * σ 2 1 := Int.mul_nonneg hz.1 hs.1
  have h2 : z * σ 2 1 ≤ 100000 * 100 := Int.mul_le_mul hz.2 hs.2 hs.1 (by omega)
  refine v_iload_n (pc := 0) dX4_tankFor_0 rfl ?_
  refine v_aload_n (pc := 1) dX4_tankFor_1 rfl ?_
  refine v_gR (pc := 2) dX4_tankFor_2 fl_X4_32 rfl ?_
  refine v_iconst (pc := 5) (1) dX4_tankFor_5 (by decide) ?_
  refine v_aI (pc := 6) (j := 1) dX4_tankFor_6 rfl rfl (by omega) (by omega) ?_
  refine v_imul (pc := 7) dX4_tankFor_7 ?_
  refine v_bipush (pc := 8) (99) dX4_tankFor_8 (by decide) ?_
  refine v_iadd (pc := 10) dX4_tankFor_10 ?_
  refine v_bipush (pc := 11) (100) dX4_tankFor_11 (by decide) ?_
  refine v_idiv (pc := 13) dX4_tankFor_13 (by omega) (by omega) (by omega) ?_
  refine v_ireturn (pc := 14) dX4_tankFor_14 rfl rfl ⟨Nat.le_refl _, Nat.le_refl _⟩ ?_
  exact hQ
