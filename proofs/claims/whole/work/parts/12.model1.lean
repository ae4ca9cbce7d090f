theorem q_eq {Q : Option Value → List mC → Prop} {w : List mC} {a b : Int} (h : Q (some (vi b)) w) (e : a = b) : Q (some (vi a)) w := e ▸ h
theorem q_eqj {Q : Option Value → List mC → Prop} {w : List mC} {a b : Int} (h : Q (some (vj b)) w) (e : a = b) : Q (some (vj a)) w := e ▸ h
theorem div_le {t m : Int} (h : 0 ≤ t) (h1 : 1 ≤ m) : 0 ≤ t / m ∧ t / m ≤ t := ⟨Int.ediv_nonneg h (by omega), Int.ediv_le_self m h⟩
/-- the reference's rows, under the class' places -/
def mY (σ : vSt) : vSt := fun p => match p with
  | 2 => fun k => σ 38 (14 + k)
  | 3 => fun _ => σ 38 12
  | 4 => σ 39
  | 5 => σ 40
  | 6 => σ 41
  | 7 => σ 42
  | 8 => σ 43
  | 9 => σ 44
  | 10 => fun _ => σ 38 13
  | 11 => σ 45
  | 12 => σ 46
  | 13 => σ 47
  | 14 => σ 48
  | _ => fun _ => 0
def MR (σ : vSt) : Prop := (0 ≤ σ 38 14 ∧ σ 38 14 ≤ 999 ∧ 1 ≤ σ 38 15 ∧ σ 38 15 ≤ 50 ∧ 50 ≤ σ 38 16 ∧ σ 38 16 ≤ 100 ∧ 0 ≤ σ 38 12 ∧ σ 38 12 ≤ 6 ∧ 0 ≤ σ 38 13 ∧ σ 38 13 ≤ 4) ∧
  (∀ j : Nat, 0 ≤ σ 39 j ∧ σ 39 j ≤ 999 ∧ 0 ≤ σ 40 j ∧ σ 40 j ≤ 999 ∧ 0 ≤ σ 41 j ∧ σ 41 j ≤ 99 ∧ 0 ≤ σ 42 j ∧ σ 42 j ≤ 9999 ∧ 0 ≤ σ 43 j ∧ σ 43 j ≤ 99 ∧ 0 ≤ σ 44 j ∧ σ 44 j ≤ 900) ∧
  (∀ j : Nat, 0 ≤ σ 45 j ∧ σ 45 j ≤ 5 ∧ 0 ≤ σ 46 j ∧ σ 46 j ≤ 9 ∧ 0 ≤ σ 47 j ∧ σ 47 j ≤ 600 ∧ 0 ≤ σ 48 j ∧ σ 48 j ≤ 99) ∧
  (∀ j : Nat, (j : Int) < σ 38 13 → σ 45 j < σ 38 12 ∧ 1 ≤ σ 46 j) ∧ ∀ j : Nat, (j : Int) < σ 38 12 → 1 ≤ σ 39 j ∧ 1 ≤ σ 40 j ∧ 1 ≤ σ 41 j ∧ 1 ≤ σ 42 j
theorem MR.y {σ : vSt} (h : MR σ) : YR (mY σ) := h
def yLow (σ : vSt) (k : Nat) : Int := qLow (1000 * σ 5 (σ 11 k).toNat) (σ 13 k).toNat (yMass σ k)
def yHigh (σ : vSt) (k : Nat) : Int := qHigh (1000 * σ 5 (σ 11 k).toNat) (σ 13 k).toNat (yMass σ k - 1)
def yGain (σ : vSt) (what : Int) (k : Nat) : Int := if what = 0 then yLow σ k else yHigh σ k
set_option maxHeartbeats 4000000 in
set_option maxRecDepth 100000 in
theorem c_X9_isIn {g : vGl} {d : Nat} {Q : Option Value → List mC → Prop} {σ : vSt} {a b c : Int} (ha : vq a) (hb : vq b) (hc : vq c) (hQ : Q (some (vi (if b ≤ a ∧ a ≤ c then 1 else 0))) (hp σ)) : V g mX9_isIn d (0, 0, 0, 0) Q 0 [(0, vj a), (2, vj b), (4, vj c)] [] (hp σ) := by
  refine v_lload_n (pc := 0) dX9_isIn_0 rfl ?_
  refine v_lload_n (pc := 1) dX9_isIn_1 rfl ?_
  refine v_lc_lt (pc := 2) 17 dX9_isIn_2 dX9_isIn_3 (by decide) (by omega) (by omega) (fun h2 => ?_) (fun h2 => ?_)
  · refine v_iconst (pc := 17) (0) dX9_isIn_17 (by decide) ?_
    refine v_ireturn (pc := 18) dX9_isIn_18 rfl (vZ (by omega)) ⟨Nat.le_refl _, Nat.le_refl _⟩ ?_
    first | (rw [if_pos (by omega)] at hQ; exact hQ) | (rw [if_neg (by omega)] at hQ; exact hQ)
  · refine v_lload_n (pc := 6) dX9_isIn_6 rfl ?_
    refine v_lload (pc := 7) dX9_isIn_7 rfl ?_
    refine v_lc_gt (pc := 9) 17 dX9_isIn_9 dX9_isIn_10 (by decide) (by omega) (by omega) (fun h9 => ?_) (fun h9 => ?_)
    · refine v_iconst (pc := 17) (0) dX9_isIn_17 (by decide) ?_
      refine v_ireturn (pc := 18) dX9_isIn_18 rfl (vZ (by omega)) ⟨Nat.le_refl _, Nat.le_refl _⟩ ?_
      first | (rw [if_pos (by omega)] at hQ; exact hQ) | (rw [if_neg (by omega)] at hQ; exact hQ)
    · refine v_iconst (pc := 13) (1) dX9_isIn_13 (by decide) ?_
      refine v_goto (pc := 14) 18 dX9_isIn_14 (by decide) ?_
      refine v_ireturn (pc := 18) dX9_isIn_18 rfl (vZ (by omega)) ⟨Nat.le_refl _, Nat.le_refl _⟩ ?_
      first | (rw [if_pos (by omega)] at hQ; exact hQ) | (rw [if_neg (by omega)] at hQ; exact hQ)
set_option maxHeartbeats 4000000 in
set_option maxRecDepth 100000 in
theorem c_X9_isEngine {g : vGl} {d : Nat} {Q : Option Value → List mC → Prop} {σ : vSt} {k : Int} (hk : vr k) (hs : vr (σ 38 12)) (hQ : Q (some (vi (if 0 ≤ k ∧ k < σ 38 12 then 1 else 0))) (hp σ)) : V g mX9_isEngine d (0, 0, 0, 0) Q 0 [(0, .ref 38), (1, vi k)] [] (hp σ) := by
  refine v_iload_n (pc := 0) dX9_isEngine_0 rfl ?_
  refine v_if_lt (pc := 1) 16 dX9_isEngine_1 (by decide) (by omega) (fun h1 => ?_) (fun h1 => ?_)
  · refine v_iconst (pc := 16) (0) dX9_isEngine_16 (by decide) ?_
    refine v_ireturn (pc := 17) dX9_isEngine_17 rfl (vZ (by omega)) ⟨Nat.le_refl _, Nat.le_refl _⟩ ?_
    first | (rw [if_pos (by omega)] at hQ; exact hQ) | (rw [if_neg (by omega)] at hQ; exact hQ)
  · refine v_iload_n (pc := 4) dX9_isEngine_4 rfl ?_
    refine v_aload_n (pc := 5) dX9_isEngine_5 rfl ?_
    refine v_gI (pc := 6) dX9_isEngine_6 fl_X9_107 rfl ?_
    refine v_icmp_ge (pc := 9) 16 dX9_isEngine_9 (by decide) (by omega) (by omega) (fun h9 => ?_) (fun h9 => ?_)
    · refine v_iconst (pc := 16) (0) dX9_isEngine_16 (by decide) ?_
      refine v_ireturn (pc := 17) dX9_isEngine_17 rfl (vZ (by omega)) ⟨Nat.le_refl _, Nat.le_refl _⟩ ?_
      first | (rw [if_pos (by omega)] at hQ; exact hQ) | (rw [if_neg (by omega)] at hQ; exact hQ)
    · refine v_iconst (pc := 12) (1) dX9_isEngine_12 (by decide) ?_
      refine v_goto (pc := 13) 17 dX9_isEngine_13 (by decide) ?_
      refine v_ireturn (pc := 17) dX9_isEngine_17 rfl (vZ (by omega)) ⟨Nat.le_refl _, Nat.le_refl _⟩ ?_
      first | (rw [if_pos (by omega)] at hQ; exact hQ) | (rw [if_neg (by omega)] at hQ; exact hQ)
set_option maxHeartbeats 4000000 in
set_option maxRecDepth 100000 in
theorem c_X9_isStage {g : vGl} {d : Nat} {Q : Option Value → List mC → Prop} {σ : vSt} {k : Int} (hk : vr k) (hs : vr (σ 38 13)) (hQ : Q (some (vi (if 0 ≤ k ∧ k < σ 38 13 then 1 else 0))) (hp σ)) : V g mX9_isStage d (0, 0, 0, 0) Q 0 [(0, .ref 38), (1, vi k)] [] (hp σ) := by
  refine v_iload_n (pc := 0) dX9_isStage_0 rfl ?_
  refine v_if_lt (pc := 1) 16 dX9_isStage_1 (by decide) (by omega) (fun h1 => ?_) (fun h1 => ?_)
  · refine v_iconst (pc := 16) (0) dX9_isStage_16 (by decide) ?_
    refine v_ireturn (pc := 17) dX9_isStage_17 rfl (vZ (by omega)) ⟨Nat.le_refl _, Nat.le_refl _⟩ ?_
    first | (rw [if_pos (by omega)] at hQ; exact hQ) | (rw [if_neg (by omega)] at hQ; exact hQ)
  · refine v_iload_n (pc := 4) dX9_isStage_4 rfl ?_
    refine v_aload_n (pc := 5) dX9_isStage_5 rfl ?_
    refine v_gI (pc := 6) dX9_isStage_6 fl_X9_110 rfl ?_
    refine v_icmp_ge (pc := 9) 16 dX9_isStage_9 (by decide) (by omega) (by omega) (fun h9 => ?_) (fun h9 => ?_)
    · refine v_iconst (pc := 16) (0) dX9_isStage_16 (by decide) ?_
      refine v_ireturn (pc := 17) dX9_isStage_17 rfl (vZ (by omega)) ⟨Nat.le_refl _, Nat.le_refl _⟩ ?_
      first | (rw [if_pos (by omega)] at hQ; exact hQ) | (rw [if_neg (by omega)] at hQ; exact hQ)
    · refine v_iconst (pc := 12) (1) dX9_isStage_12 (by decide) ?_
      refine v_goto (pc := 13) 17 dX9_isStage_13 (by decide) ?_
      refine v_ireturn (pc := 17) dX9_isStage_17 rfl (vZ (by omega)) ⟨Nat.le_refl _, Nat.le_refl _⟩ ?_
      first | (rw [if_pos (by omega)] at hQ; exact hQ) | (rw [if_neg (by omega)] at hQ; exact hQ)
set_option maxHeartbeats 4000000 in
set_option maxRecDepth 100000 in
theorem c_X9_tank {g : vGl} {d : Nat} {Q : Option Value → List mC → Prop} {σ : vSt} {z : Int} (hz : 0 ≤ z ∧ z ≤ 100000) (hs : 0 ≤ σ 38 15 ∧ σ 38 15 ≤ 100) (hQ : Q (some (vi (yTank (mY σ) z))) (hp σ)) : V g mX9_tank d (0, 0, 0, 0) Q 0 [(0, .ref 38), (1, vi z)] [] (hp σ) := by
  have h1 := mul_le hz.1 hz.2 hs.1 hs.2
  refine v_iload_n (pc := 0) dX9_tank_0 rfl ?_
  refine v_aload_n (pc := 1) dX9_tank_1 rfl ?_
  refine v_gI (pc := 2) dX9_tank_2 fl_X9_50 rfl ?_
  refine v_imul (pc := 5) dX9_tank_5 ?_
  refine v_bipush (pc := 6) (99) dX9_tank_6 (by decide) ?_
  refine v_iadd (pc := 8) dX9_tank_8 ?_
  refine v_bipush (pc := 9) (100) dX9_tank_9 (by decide) ?_
  refine v_idiv (pc := 11) dX9_tank_11 (by omega) (by omega) (by omega) ?_
  refine v_ireturn (pc := 12) dX9_tank_12 rfl rfl ⟨Nat.le_refl _, Nat.le_refl _⟩ ?_
  rw [tdiv_pos (by omega)]; exact hQ
set_option maxHeartbeats 4000000 in
set_option maxRecDepth 100000 in
theorem c_X9_dry {g : vGl} {d : Nat} {Q : Option Value → List mC → Prop} {σ : vSt} {x : Int} {k : Nat} (hd : 1 ≤ d) (hR : MR σ) (hx : x = k) (hk : (k : Int) < σ 38 13) (hQ : Q (some (vi (yDry (mY σ) k))) (hp σ)) : V g mX9_dry d (0, 0, 0, 0) Q 0 [(0, .ref 38), (1, vi x)] [] (hp σ) := by
  obtain ⟨⟨r0, r1, r2, r3, r4, r5, r6, r7, r8, r9⟩, rE, rS, rT, rF⟩ := id hR
  have s1 := rS k
  have s2 := rE (σ 45 k).toNat
  refine v_aload_n (pc := 0) dX9_dry_0 rfl ?_
  refine v_gR (pc := 1) dX9_dry_1 fl_X9_16 rfl ?_
  refine v_aload_n (pc := 4) dX9_dry_4 rfl ?_
  refine v_gR (pc := 5) dX9_dry_5 fl_X9_28 rfl ?_
  refine v_iload_n (pc := 8) dX9_dry_8 rfl ?_
  refine v_aI (pc := 9) (j := k) dX9_dry_9 rfl (by omega) (by omega) (by omega) ?_
  refine v_aI (pc := 10) (j := (σ 45 k).toNat) dX9_dry_10 rfl rfl (by omega) (by omega) ?_
  refine v_aload_n (pc := 11) dX9_dry_11 rfl ?_
  refine v_gR (pc := 12) dX9_dry_12 fl_X9_31 rfl ?_
  refine v_iload_n (pc := 15) dX9_dry_15 rfl ?_
  refine v_aI (pc := 16) (j := k) dX9_dry_16 rfl (by omega) (by omega) (by omega) ?_
  refine v_imul (pc := 17) dX9_dry_17 ?_
  refine v_aload_n (pc := 18) dX9_dry_18 rfl ?_
  refine v_aload_n (pc := 19) dX9_dry_19 rfl ?_
  refine v_gR (pc := 20) dX9_dry_20 fl_X9_34 rfl ?_
  refine v_iload_n (pc := 23) dX9_dry_23 rfl ?_
  refine v_aI (pc := 24) (j := k) dX9_dry_24 rfl (by omega) (by omega) (by omega) ?_
  refine v_cVi1 (pc := 25) (z := 0) (d' := d - 1) dX9_dry_25 kX9_tank ml_X9_140 iwX9_tank swX9_tank rfl rfl (Nat.le_of_ble_eq_true rfl) (Nat.le_of_ble_eq_true rfl) (by omega) ⟨Nat.le_refl _, Nat.le_refl _⟩ ?_
  refine c_X9_tank (by omega) (by omega) ?_
  refine ⟨_, rfl, ?_⟩
  refine v_iadd (pc := 28) dX9_dry_28 ?_
  refine v_aload_n (pc := 29) dX9_dry_29 rfl ?_
  refine v_gR (pc := 30) dX9_dry_30 fl_X9_37 rfl ?_
  refine v_iload_n (pc := 33) dX9_dry_33 rfl ?_
  refine v_aI (pc := 34) (j := k) dX9_dry_34 rfl (by omega) (by omega) (by omega) ?_
  refine v_iadd (pc := 35) dX9_dry_35 ?_
  refine v_ireturn (pc := 36) dX9_dry_36 rfl rfl ⟨Nat.le_refl _, Nat.le_refl _⟩ ?_
  refine q_eq hQ ?_
  show σ 41 (σ 45 k).toNat * σ 46 k + yTank (mY σ) (σ 47 k) + σ 48 k = σ 46 k * σ 41 (σ 45 k).toNat + σ 48 k + yTank (mY σ) (σ 47 k)
  rw [Int.mul_comm (σ 41 (σ 45 k).toNat)]
  omega
set_option maxHeartbeats 4000000 in
set_option maxRecDepth 100000 in
theorem l_X9_above {g : vGl} {d : Nat} {Q : Option Value → List mC → Prop} {σ : vSt} (hd : 2 ≤ d) (hR : MR σ) : ∀ (n : Nat) (j : Nat) (x s : Int) (hx : x = j) (hn : (j : Int) + n = σ 38 13) (hQ : Q (some (vi (s + qSum (fun j => qDry (mY σ 2 1) (mY σ 6) (mY σ 11) (mY σ 12) (mY σ 13) (mY σ 14) j + mY σ 13 j) n j))) (hp σ)), V g mX9_above d (0, 0, 0, 0) Q 9 [(0, .ref 38), (2, vi s), (3, vi x)] [] (hp σ) := by
  intro n
  induction n with
  | zero =>
    intro j x s hx hn hQ
    obtain ⟨⟨r0, r1, r2, r3, r4, r5, r6, r7, r8, r9⟩, rE, rS, rT, rF⟩ := id hR
    refine v_iload_n (pc := 9) dX9_above_9 rfl ?_
    refine v_aload_n (pc := 10) dX9_above_10 rfl ?_
    refine v_gI (pc := 11) dX9_above_11 fl_X9_110 rfl ?_
    refine v_icmp_ge (pc := 14) 38 dX9_above_14 (by decide) (by omega) (by omega) (fun h14 => ?_) (fun h14 => by exfalso; omega)
    refine v_iload_n (pc := 38) dX9_above_38 rfl ?_
    refine v_ireturn (pc := 39) dX9_above_39 rfl rfl ⟨Nat.le_refl _, Nat.le_refl _⟩ ?_
    simpa [qSum] using hQ
  | succ n ih =>
    intro j x s hx hn hQ
    obtain ⟨⟨r0, r1, r2, r3, r4, r5, r6, r7, r8, r9⟩, rE, rS, rT, rF⟩ := id hR
    have s1 := rS j
    refine v_iload_n (pc := 9) dX9_above_9 rfl ?_
    refine v_aload_n (pc := 10) dX9_above_10 rfl ?_
    refine v_gI (pc := 11) dX9_above_11 fl_X9_110 rfl ?_
    refine v_icmp_ge (pc := 14) 38 dX9_above_14 (by decide) (by omega) (by omega) (fun h14 => by exfalso; omega) (fun h14 => ?_)
    refine v_iload_n (pc := 17) dX9_above_17 rfl ?_
    refine v_aload_n (pc := 18) dX9_above_18 rfl ?_
    refine v_iload_n (pc := 19) dX9_above_19 rfl ?_
    refine v_cVi1 (pc := 20) (z := 0) (d' := d - 1) dX9_above_20 kX9_dry ml_X9_144 iwX9_dry swX9_dry rfl rfl (Nat.le_of_ble_eq_true rfl) (Nat.le_of_ble_eq_true rfl) (by omega) ⟨Nat.le_refl _, Nat.le_refl _⟩ ?_
    refine c_X9_dry (k := j) (by omega) hR (by omega) (by omega) ?_
    refine ⟨_, rfl, ?_⟩
    refine v_aload_n (pc := 23) dX9_above_23 rfl ?_
    refine v_gR (pc := 24) dX9_above_24 fl_X9_34 rfl ?_
    refine v_iload_n (pc := 27) dX9_above_27 rfl ?_
    refine v_aI (pc := 28) (j := j) dX9_above_28 rfl (by omega) (by omega) (by omega) ?_
    refine v_iadd (pc := 29) dX9_above_29 ?_
    refine v_iadd (pc := 30) dX9_above_30 ?_
    refine v_istore_n (pc := 31) dX9_above_31 (by decide) ?_
    refine v_iinc (pc := 32) (1) dX9_above_32 rfl (by decide) (by decide) ?_
    refine v_goto (pc := 35) 9 dX9_above_35 (by decide) ?_
    refine v_lv (ih (j + 1) (x + 1) _ (by omega) (by omega) ?_) ⟨rfl, rfl, rfl, trivial⟩
    rw [show s + qSum (fun j => qDry (mY σ 2 1) (mY σ 6) (mY σ 11) (mY σ 12) (mY σ 13) (mY σ 14) j + mY σ 13 j) (n + 1) j = s + ((fun j => qDry (mY σ 2 1) (mY σ 6) (mY σ 11) (mY σ 12) (mY σ 13) (mY σ 14) j + mY σ 13 j) j + qSum (fun j => qDry (mY σ 2 1) (mY σ 6) (mY σ 11) (mY σ 12) (mY σ 13) (mY σ 14) j + mY σ 13 j) n (j + 1)) from rfl, ← Int.add_assoc] at hQ
    exact hQ
set_option maxHeartbeats 4000000 in
set_option maxRecDepth 100000 in
theorem c_X9_above {g : vGl} {d : Nat} {Q : Option Value → List mC → Prop} {σ : vSt} {x : Int} {k : Nat} (hd : 2 ≤ d) (hR : MR σ) (hx : x = k) (hk : (k : Int) < σ 38 13) (hQ : Q (some (vi (yMass (mY σ) (k + 1)))) (hp σ)) : V g mX9_above d (0, 0, 0, 0) Q 0 [(0, .ref 38), (1, vi x)] [] (hp σ) := by
  obtain ⟨⟨r0, r1, r2, r3, r4, r5, r6, r7, r8, r9⟩, rE, rS, rT, rF⟩ := id hR
  refine v_aload_n (pc := 0) dX9_above_0 rfl ?_
  refine v_gI (pc := 1) dX9_above_1 fl_X9_46 rfl ?_
  refine v_istore_n (pc := 4) dX9_above_4 (by decide) ?_
  refine v_iload_n (pc := 5) dX9_above_5 rfl ?_
  refine v_iconst (pc := 6) (1) dX9_above_6 (by decide) ?_
  refine v_iadd (pc := 7) dX9_above_7 ?_
  refine v_istore_n (pc := 8) dX9_above_8 (by decide) ?_
  refine v_lv (l_X9_above hd hR ((σ 38 13).toNat - (k + 1)) (k + 1) (x + 1) (σ 38 14) (by omega) (by omega) hQ) ⟨rfl, rfl, rfl, trivial⟩
set_option maxHeartbeats 4000000 in
set_option maxRecDepth 100000 in
theorem c_X9_ahead {g : vGl} {d : Nat} {Q : Option Value → List mC → Prop} {σ : vSt} {x : Int} {k : Nat} (hd : 3 ≤ d) (hR : MR σ) (hx : x = k) (hk : (k : Int) < σ 38 13) (hQ : Q (some (vi (yMass (mY σ) k))) (hp σ)) : V g mX9_ahead d (0, 0, 0, 0) Q 0 [(0, .ref 38), (1, vi x)] [] (hp σ) := by
  obtain ⟨⟨r0, r1, r2, r3, r4, r5, r6, r7, r8, r9⟩, rE, rS, rT, rF⟩ := id hR
  have s1 := rS k
  have s2 := rE (σ 45 k).toNat
  refine v_aload_n (pc := 0) dX9_ahead_0 rfl ?_
  refine v_iload_n (pc := 1) dX9_ahead_1 rfl ?_
  refine v_cVi1 (pc := 2) (z := 0) (d' := d - 1) dX9_ahead_2 kX9_above ml_X9_147 iwX9_above swX9_above rfl rfl (Nat.le_of_ble_eq_true rfl) (Nat.le_of_ble_eq_true rfl) (by omega) ⟨Nat.le_refl _, Nat.le_refl _⟩ ?_
  refine c_X9_above (k := k) (by omega) hR (by omega) (by omega) ?_
  refine ⟨_, rfl, ?_⟩
  refine v_aload_n (pc := 5) dX9_ahead_5 rfl ?_
  refine v_iload_n (pc := 6) dX9_ahead_6 rfl ?_
  refine v_cVi1 (pc := 7) (z := 0) (d' := d - 1) dX9_ahead_7 kX9_dry ml_X9_144 iwX9_dry swX9_dry rfl rfl (Nat.le_of_ble_eq_true rfl) (Nat.le_of_ble_eq_true rfl) (by omega) ⟨Nat.le_refl _, Nat.le_refl _⟩ ?_
  refine c_X9_dry (k := k) (by omega) hR (by omega) (by omega) ?_
  refine ⟨_, rfl, ?_⟩
  refine v_iadd (pc := 10) dX9_ahead_10 ?_
  refine v_aload_n (pc := 11) dX9_ahead_11 rfl ?_
  refine v_gR (pc := 12) dX9_ahead_12 fl_X9_34 rfl ?_
  refine v_iload_n (pc := 15) dX9_ahead_15 rfl ?_
  refine v_aI (pc := 16) (j := k) dX9_ahead_16 rfl (by omega) (by omega) (by omega) ?_
  refine v_iadd (pc := 17) dX9_ahead_17 ?_
  refine v_ireturn (pc := 18) dX9_ahead_18 rfl rfl ⟨Nat.le_refl _, Nat.le_refl _⟩ ?_
  refine q_eq hQ ?_
  rw [YR.massS (σ := mY σ) hk]
  show yMass (mY σ) (k + 1) + yDry (mY σ) k + σ 47 k = yDry (mY σ) k + σ 47 k + yMass (mY σ) (k + 1)
  omega
set_option maxHeartbeats 4000000 in
set_option maxRecDepth 100000 in
theorem l_X9_low {g : vGl} {d : Nat} {Q : Option Value → List mC → Prop} {σ : vSt} {ex m bu : Int} (he : 0 ≤ ex ∧ ex ≤ 999) (hm : m ≤ 100000) (hbu : bu ≤ 100000) : ∀ (n : Nat) (b s : Int) (hb : b + n = bu) (hb0 : -1 ≤ b) (hm1 : 1 ≤ m - bu) (hQ : Q (some (vj (s + qLow (ex * 1000) n (m - b)))) (hp σ)), V g mX9_low d (0, 0, 0, 0) Q 5 [(0, vi ex), (1, vi m), (2, vi bu), (3, vj s), (5, vi b)] [] (hp σ) := by
  intro n
  induction n with
  | zero =>
    intro b s hb hb0 hm1 hQ
    refine v_iload (pc := 5) dX9_low_5 rfl ?_
    refine v_iload_n (pc := 7) dX9_low_7 rfl ?_
    refine v_icmp_ge (pc := 8) 31 dX9_low_8 (by decide) (by omega) (by omega) (fun h8 => ?_) (fun h8 => by exfalso; omega)
    refine v_lload_n (pc := 31) dX9_low_31 rfl ?_
    refine v_lreturn (pc := 32) dX9_low_32 rfl ⟨Nat.le_refl _, Nat.le_refl _⟩ ?_
    simpa [qLow] using hQ
  | succ n ih =>
    intro b s hb hb0 hm1 hQ
    have t1 := div_le (t := ex * 1000) (m := m - b) (by omega) (by omega)
    refine v_iload (pc := 5) dX9_low_5 rfl ?_
    refine v_iload_n (pc := 7) dX9_low_7 rfl ?_
    refine v_icmp_ge (pc := 8) 31 dX9_low_8 (by decide) (by omega) (by omega) (fun h8 => by exfalso; omega) (fun h8 => ?_)
    refine v_lload_n (pc := 11) dX9_low_11 rfl ?_
    refine v_iload_n (pc := 12) dX9_low_12 rfl ?_
    refine v_sipush (pc := 13) (1000) dX9_low_13 (by decide) ?_
    refine v_imul (pc := 16) dX9_low_16 ?_
    refine v_iload_n (pc := 17) dX9_low_17 rfl ?_
    refine v_iload (pc := 18) dX9_low_18 rfl ?_
    refine v_isub (pc := 20) dX9_low_20 ?_
    refine v_idiv (pc := 21) dX9_low_21 (by omega) (by omega) (by omega) ?_
    refine v_i2l (pc := 22) dX9_low_22 (by rw [tdiv_pos (by omega)]; omega) ?_
    refine v_ladd (pc := 23) dX9_low_23 ?_
    refine v_lstore_n (pc := 24) dX9_low_24 (by decide) ?_
    refine v_iinc (pc := 25) (1) dX9_low_25 rfl (by decide) (by decide) ?_
    refine v_goto (pc := 28) 5 dX9_low_28 (by decide) ?_
    refine v_lv (ih (b + 1) _ (by omega) (by omega) hm1 ?_) ⟨rfl, rfl, rfl, rfl, rfl, trivial⟩
    rw [show s + qLow (ex * 1000) (n + 1) (m - b) = s + (ex * 1000 / (m - b) + qLow (ex * 1000) n (m - b - 1)) from rfl, ← Int.add_assoc] at hQ
    rw [tdiv_pos (by omega), show m - (b + 1) = m - b - 1 by omega]
    exact hQ
set_option maxHeartbeats 4000000 in
set_option maxRecDepth 100000 in
theorem c_X9_low {g : vGl} {d : Nat} {Q : Option Value → List mC → Prop} {σ : vSt} {ex m bu : Int} (he : 0 ≤ ex ∧ ex ≤ 999) (hm : m ≤ 100000) (hbu : 0 ≤ bu ∧ bu ≤ 100000) (hm1 : 1 ≤ m - bu) (hQ : Q (some (vj (qLow (1000 * ex) bu.toNat m))) (hp σ)) : V g mX9_low d (0, 0, 0, 0) Q 0 [(0, vi ex), (1, vi m), (2, vi bu)] [] (hp σ) := by
  refine v_lconst (pc := 0) (0) dX9_low_0 (by decide) ?_
  refine v_lstore_n (pc := 1) dX9_low_1 (by decide) ?_
  refine v_iconst (pc := 2) (0) dX9_low_2 (by decide) ?_
  refine v_istore (pc := 3) dX9_low_3 (by decide) ?_
  refine v_lv (l_X9_low he hm hbu.2 bu.toNat 0 0 (by omega) (by omega) hm1 ?_) ⟨rfl, rfl, rfl, rfl, rfl, trivial⟩
  rw [Int.zero_add, Int.sub_zero, Int.mul_comm]; exact hQ
set_option maxHeartbeats 4000000 in
set_option maxRecDepth 100000 in
theorem l_X9_high {g : vGl} {d : Nat} {Q : Option Value → List mC → Prop} {σ : vSt} {ex m bu : Int} (he : 0 ≤ ex ∧ ex ≤ 999) (hm : m ≤ 100000) (hbu : bu ≤ 100000) : ∀ (n : Nat) (b s : Int) (hb : b + n = bu) (hb0 : -1 ≤ b) (hm1 : 1 ≤ m - bu) (hQ : Q (some (vj (s + qHigh (ex * 1000) n (m - b - 1)))) (hp σ)), V g mX9_high d (0, 0, 0, 0) Q 5 [(0, vi ex), (1, vi m), (2, vi bu), (3, vj s), (5, vi b)] [] (hp σ) := by
  intro n
  induction n with
  | zero =>
    intro b s hb hb0 hm1 hQ
    refine v_iload (pc := 5) dX9_high_5 rfl ?_
    refine v_iload_n (pc := 7) dX9_high_7 rfl ?_
    refine v_icmp_ge (pc := 8) 40 dX9_high_8 (by decide) (by omega) (by omega) (fun h8 => ?_) (fun h8 => by exfalso; omega)
    refine v_lload_n (pc := 40) dX9_high_40 rfl ?_
    refine v_lreturn (pc := 41) dX9_high_41 rfl ⟨Nat.le_refl _, Nat.le_refl _⟩ ?_
    simpa [qHigh] using hQ
  | succ n ih =>
    intro b s hb hb0 hm1 hQ
    have t1 := div_le (t := ex * 1000 + m - b - 2) (m := m - b - 1) (by omega) (by omega)
    refine v_iload (pc := 5) dX9_high_5 rfl ?_
    refine v_iload_n (pc := 7) dX9_high_7 rfl ?_
    refine v_icmp_ge (pc := 8) 40 dX9_high_8 (by decide) (by omega) (by omega) (fun h8 => by exfalso; omega) (fun h8 => ?_)
    refine v_lload_n (pc := 11) dX9_high_11 rfl ?_
    refine v_iload_n (pc := 12) dX9_high_12 rfl ?_
    refine v_sipush (pc := 13) (1000) dX9_high_13 (by decide) ?_
    refine v_imul (pc := 16) dX9_high_16 ?_
    refine v_iload_n (pc := 17) dX9_high_17 rfl ?_
    refine v_iadd (pc := 18) dX9_high_18 ?_
    refine v_iload (pc := 19) dX9_high_19 rfl ?_
    refine v_isub (pc := 21) dX9_high_21 ?_
    refine v_iconst (pc := 22) (2) dX9_high_22 (by decide) ?_
    refine v_isub (pc := 23) dX9_high_23 ?_
    refine v_iload_n (pc := 24) dX9_high_24 rfl ?_
    refine v_iload (pc := 25) dX9_high_25 rfl ?_
    refine v_isub (pc := 27) dX9_high_27 ?_
    refine v_iconst (pc := 28) (1) dX9_high_28 (by decide) ?_
    refine v_isub (pc := 29) dX9_high_29 ?_
    refine v_idiv (pc := 30) dX9_high_30 (by omega) (by omega) (by omega) ?_
    refine v_i2l (pc := 31) dX9_high_31 (by rw [tdiv_pos (by omega)]; omega) ?_
    refine v_ladd (pc := 32) dX9_high_32 ?_
    refine v_lstore_n (pc := 33) dX9_high_33 (by decide) ?_
    refine v_iinc (pc := 34) (1) dX9_high_34 rfl (by decide) (by decide) ?_
    refine v_goto (pc := 37) 5 dX9_high_37 (by decide) ?_
    refine v_lv (ih (b + 1) _ (by omega) (by omega) hm1 ?_) ⟨rfl, rfl, rfl, rfl, rfl, trivial⟩
    rw [show s + qHigh (ex * 1000) (n + 1) (m - b - 1) = s + ((ex * 1000 + (m - b - 1) - 1) / (m - b - 1) + qHigh (ex * 1000) n (m - b - 1 - 1)) from rfl, ← Int.add_assoc] at hQ
    rw [tdiv_pos (by omega), show m - (b + 1) - 1 = m - b - 1 - 1 by omega, show ex * 1000 + m - b - 2 = ex * 1000 + (m - b - 1) - 1 by omega]
    exact hQ
set_option maxHeartbeats 4000000 in
set_option maxRecDepth 100000 in
theorem c_X9_high {g : vGl} {d : Nat} {Q : Option Value → List mC → Prop} {σ : vSt} {ex m bu : Int} (he : 0 ≤ ex ∧ ex ≤ 999) (hm : m ≤ 100000) (hbu : 0 ≤ bu ∧ bu ≤ 100000) (hm1 : 1 ≤ m - bu) (hQ : Q (some (vj (qHigh (1000 * ex) bu.toNat (m - 1)))) (hp σ)) : V g mX9_high d (0, 0, 0, 0) Q 0 [(0, vi ex), (1, vi m), (2, vi bu)] [] (hp σ) := by
  refine v_lconst (pc := 0) (0) dX9_high_0 (by decide) ?_
  refine v_lstore_n (pc := 1) dX9_high_1 (by decide) ?_
  refine v_iconst (pc := 2) (0) dX9_high_2 (by decide) ?_
  refine v_istore (pc := 3) dX9_high_3 (by decide) ?_
  refine v_lv (l_X9_high he hm hbu.2 bu.toNat 0 0 (by omega) (by omega) hm1 ?_) ⟨rfl, rfl, rfl, rfl, rfl, trivial⟩
  rw [Int.zero_add, Int.sub_zero, Int.mul_comm]; exact hQ
set_option maxHeartbeats 4000000 in
set_option maxRecDepth 100000 in
theorem c_X9_speedOf {g : vGl} {d : Nat} {Q : Option Value → List mC → Prop} {σ : vSt} {x : Int} {k : Nat} (hd : 4 ≤ d) (hR : MR σ) (hx : x = k) (hk : (k : Int) < σ 38 13) {wh : Int} (hw : vr wh) (hQ : Q (some (vj (yGain (mY σ) wh k))) (hp σ)) : V g mX9_speedOf d (0, 0, 0, 0) Q 0 [(0, .ref 38), (1, vi x), (2, vi wh)] [] (hp σ) := by
  obtain ⟨⟨r0, r1, r2, r3, r4, r5, r6, r7, r8, r9⟩, rE, rS, rT, rF⟩ := id hR
  have s1 := rS k
  have s2 := rE (σ 45 k).toNat
  have s3 := hR.y.mass1 (k := k) hk
  have s4 := hR.y.mass k
  have e3 : mY σ 13 k = σ 47 k := rfl
  refine v_iload_n (pc := 0) dX9_speedOf_0 rfl ?_
  refine v_if_ne (pc := 1) 32 dX9_speedOf_1 (by decide) (by omega) (fun h1 => ?_) (fun h1 => ?_)
  · refine v_aload_n (pc := 32) dX9_speedOf_32 rfl ?_
    refine v_gR (pc := 33) dX9_speedOf_33 fl_X9_13 rfl ?_
    refine v_aload_n (pc := 36) dX9_speedOf_36 rfl ?_
    refine v_gR (pc := 37) dX9_speedOf_37 fl_X9_28 rfl ?_
    refine v_iload_n (pc := 40) dX9_speedOf_40 rfl ?_
    refine v_aI (pc := 41) (j := k) dX9_speedOf_41 rfl (by omega) (by omega) (by omega) ?_
    refine v_aI (pc := 42) (j := (σ 45 k).toNat) dX9_speedOf_42 rfl rfl (by omega) (by omega) ?_
    refine v_aload_n (pc := 43) dX9_speedOf_43 rfl ?_
    refine v_iload_n (pc := 44) dX9_speedOf_44 rfl ?_
    refine v_cVi1 (pc := 45) (z := 0) (d' := d - 1) dX9_speedOf_45 kX9_ahead ml_X9_150 iwX9_ahead swX9_ahead rfl rfl (Nat.le_of_ble_eq_true rfl) (Nat.le_of_ble_eq_true rfl) (by omega) ⟨Nat.le_refl _, Nat.le_refl _⟩ ?_
    refine c_X9_ahead (k := k) (by omega) hR (by omega) (by omega) ?_
    refine ⟨_, rfl, ?_⟩
    refine v_aload_n (pc := 48) dX9_speedOf_48 rfl ?_
    refine v_gR (pc := 49) dX9_speedOf_49 fl_X9_34 rfl ?_
    refine v_iload_n (pc := 52) dX9_speedOf_52 rfl ?_
    refine v_aI (pc := 53) (j := k) dX9_speedOf_53 rfl (by omega) (by omega) (by omega) ?_
    refine v_cSl3 (pc := 54) (d' := d - 1) dX9_speedOf_54 kX9_high ml_X9_157 stX9_high (Nat.le_of_ble_eq_true rfl) (Nat.le_of_ble_eq_true rfl) (by omega) ⟨Nat.le_refl _, Nat.le_refl _⟩ ?_
    refine c_X9_high (by omega) (by omega) (by omega) (by omega) ?_
    refine ⟨_, rfl, ?_⟩
    refine v_lreturn (pc := 57) dX9_speedOf_57 rfl ⟨Nat.le_refl _, Nat.le_refl _⟩ ?_
    first | (rw [yGain, if_pos (by omega)] at hQ; exact hQ) | (rw [yGain, if_neg (by omega)] at hQ; exact hQ)
  · refine v_aload_n (pc := 4) dX9_speedOf_4 rfl ?_
    refine v_gR (pc := 5) dX9_speedOf_5 fl_X9_13 rfl ?_
    refine v_aload_n (pc := 8) dX9_speedOf_8 rfl ?_
    refine v_gR (pc := 9) dX9_speedOf_9 fl_X9_28 rfl ?_
    refine v_iload_n (pc := 12) dX9_speedOf_12 rfl ?_
    refine v_aI (pc := 13) (j := k) dX9_speedOf_13 rfl (by omega) (by omega) (by omega) ?_
    refine v_aI (pc := 14) (j := (σ 45 k).toNat) dX9_speedOf_14 rfl rfl (by omega) (by omega) ?_
    refine v_aload_n (pc := 15) dX9_speedOf_15 rfl ?_
    refine v_iload_n (pc := 16) dX9_speedOf_16 rfl ?_
    refine v_cVi1 (pc := 17) (z := 0) (d' := d - 1) dX9_speedOf_17 kX9_ahead ml_X9_150 iwX9_ahead swX9_ahead rfl rfl (Nat.le_of_ble_eq_true rfl) (Nat.le_of_ble_eq_true rfl) (by omega) ⟨Nat.le_refl _, Nat.le_refl _⟩ ?_
    refine c_X9_ahead (k := k) (by omega) hR (by omega) (by omega) ?_
    refine ⟨_, rfl, ?_⟩
    refine v_aload_n (pc := 20) dX9_speedOf_20 rfl ?_
    refine v_gR (pc := 21) dX9_speedOf_21 fl_X9_34 rfl ?_
    refine v_iload_n (pc := 24) dX9_speedOf_24 rfl ?_
    refine v_aI (pc := 25) (j := k) dX9_speedOf_25 rfl (by omega) (by omega) (by omega) ?_
    refine v_cSl3 (pc := 26) (d' := d - 1) dX9_speedOf_26 kX9_low ml_X9_153 stX9_low (Nat.le_of_ble_eq_true rfl) (Nat.le_of_ble_eq_true rfl) (by omega) ⟨Nat.le_refl _, Nat.le_refl _⟩ ?_
    refine c_X9_low (by omega) (by omega) (by omega) (by omega) ?_
    refine ⟨_, rfl, ?_⟩
    refine v_goto (pc := 29) 57 dX9_speedOf_29 (by decide) ?_
    refine v_lreturn (pc := 57) dX9_speedOf_57 rfl ⟨Nat.le_refl _, Nat.le_refl _⟩ ?_
    first | (rw [yGain, if_pos (by omega)] at hQ; exact hQ) | (rw [yGain, if_neg (by omega)] at hQ; exact hQ)
set_option maxHeartbeats 4000000 in
set_option maxRecDepth 100000 in
theorem l_X9_speedOfAll {g : vGl} {d : Nat} {Q : Option Value → List mC → Prop} {σ : vSt} {wh : Int} (hd : 5 ≤ d) (hR : MR σ) (hw : vr wh) : ∀ (n : Nat) (j : Nat) (x s : Int) (hx : x = j) (hn : (j : Int) + n = σ 38 13) (hQ : Q (some (vj (s + qSum (yGain (mY σ) wh) n j))) (hp σ)), V g mX9_speedOfAll d (0, 0, 0, 0) Q 5 [(0, .ref 38), (1, vi wh), (2, vj s), (4, vi x)] [] (hp σ) := by
  intro n
  induction n with
  | zero =>
    intro j x s hx hn hQ
    obtain ⟨⟨r0, r1, r2, r3, r4, r5, r6, r7, r8, r9⟩, rE, rS, rT, rF⟩ := id hR
    refine v_iload (pc := 5) dX9_speedOfAll_5 rfl ?_
    refine v_aload_n (pc := 7) dX9_speedOfAll_7 rfl ?_
    refine v_gI (pc := 8) dX9_speedOfAll_8 fl_X9_110 rfl ?_
    refine v_icmp_ge (pc := 11) 30 dX9_speedOfAll_11 (by decide) (by omega) (by omega) (fun h11 => ?_) (fun h11 => by exfalso; omega)
    refine v_lload_n (pc := 30) dX9_speedOfAll_30 rfl ?_
    refine v_lreturn (pc := 31) dX9_speedOfAll_31 rfl ⟨Nat.le_refl _, Nat.le_refl _⟩ ?_
    simpa [qSum] using hQ
  | succ n ih =>
    intro j x s hx hn hQ
    obtain ⟨⟨r0, r1, r2, r3, r4, r5, r6, r7, r8, r9⟩, rE, rS, rT, rF⟩ := id hR
    refine v_iload (pc := 5) dX9_speedOfAll_5 rfl ?_
    refine v_aload_n (pc := 7) dX9_speedOfAll_7 rfl ?_
    refine v_gI (pc := 8) dX9_speedOfAll_8 fl_X9_110 rfl ?_
    refine v_icmp_ge (pc := 11) 30 dX9_speedOfAll_11 (by decide) (by omega) (by omega) (fun h11 => by exfalso; omega) (fun h11 => ?_)
    refine v_lload_n (pc := 14) dX9_speedOfAll_14 rfl ?_
    refine v_aload_n (pc := 15) dX9_speedOfAll_15 rfl ?_
    refine v_iload (pc := 16) dX9_speedOfAll_16 rfl ?_
    refine v_iload_n (pc := 18) dX9_speedOfAll_18 rfl ?_
    refine v_cVl2 (pc := 19) (z := 0) (d' := d - 1) dX9_speedOfAll_19 kX9_speedOf ml_X9_160 iwX9_speedOf swX9_speedOf rfl rfl (Nat.le_of_ble_eq_true rfl) (Nat.le_of_ble_eq_true rfl) (by omega) ⟨Nat.le_refl _, Nat.le_refl _⟩ ?_
    refine c_X9_speedOf (k := j) (by omega) hR (by omega) (by omega) hw ?_
    refine ⟨_, rfl, ?_⟩
    refine v_ladd (pc := 22) dX9_speedOfAll_22 ?_
    refine v_lstore_n (pc := 23) dX9_speedOfAll_23 (by decide) ?_
    refine v_iinc (pc := 24) (1) dX9_speedOfAll_24 rfl (by decide) (by decide) ?_
    refine v_goto (pc := 27) 5 dX9_speedOfAll_27 (by decide) ?_
    refine v_lv (ih (j + 1) (x + 1) _ (by omega) (by omega) ?_) ⟨rfl, rfl, rfl, rfl, trivial⟩
    rw [show s + qSum (yGain (mY σ) wh) (n + 1) j = s + (yGain (mY σ) wh j + qSum (yGain (mY σ) wh) n (j + 1)) from rfl, ← Int.add_assoc] at hQ
    exact hQ
set_option maxHeartbeats 4000000 in
set_option maxRecDepth 100000 in
theorem c_X9_speedOfAll {g : vGl} {d : Nat} {Q : Option Value → List mC → Prop} {σ : vSt} {wh : Int} (hd : 5 ≤ d) (hR : MR σ) (hw : vr wh) (hQ : Q (some (vj (qSum (yGain (mY σ) wh) (σ 38 13).toNat 0))) (hp σ)) : V g mX9_speedOfAll d (0, 0, 0, 0) Q 0 [(0, .ref 38), (1, vi wh)] [] (hp σ) := by
  obtain ⟨⟨r0, r1, r2, r3, r4, r5, r6, r7, r8, r9⟩, rE, rS, rT, rF⟩ := id hR
  refine v_lconst (pc := 0) (0) dX9_speedOfAll_0 (by decide) ?_
  refine v_lstore_n (pc := 1) dX9_speedOfAll_1 (by decide) ?_
  refine v_iconst (pc := 2) (0) dX9_speedOfAll_2 (by decide) ?_
  refine v_istore (pc := 3) dX9_speedOfAll_3 (by decide) ?_
  refine v_lv (l_X9_speedOfAll hd hR hw (σ 38 13).toNat 0 0 0 rfl (by omega) (by rw [Int.zero_add]; exact hQ)) ⟨rfl, rfl, rfl, rfl, trivial⟩
