def qNext (lr c : Int) : Int := max (c * lr / 100) 1
def qCost (lr : Int) : Int → Nat → Int
  | c, 0 => c
  | c, n + 1 => qCost lr (qNext lr c) n
def qCosts (lr : Int) : Int → Nat → Int
  | _, 0 => 0
  | c, n + 1 => c + qCosts lr (qNext lr c) n
theorem qNext_le {lr c : Int} (h1 : 0 ≤ lr) (h2 : lr ≤ 100) (h3 : 0 ≤ c) (h4 : c ≤ 9999) : 1 ≤ qNext lr c ∧ qNext lr c ≤ 9999 ∧ 0 ≤ c * lr ∧ c * lr ≤ 9999 * 100 := by
  have a := mul_le (a := c) (b := lr) (A := 9999) (B := 100) h3 h4 h1 h2
  unfold qNext
  omega
theorem qNext_one {lr : Int} (h2 : lr ≤ 100) : qNext lr 1 = 1 := by
  unfold qNext
  omega
theorem qCost_one {lr : Int} (h2 : lr ≤ 100) : ∀ n, qCost lr 1 n = 1 := by
  intro n
  induction n with
  | zero => rfl
  | succ n ih => show qCost lr (qNext lr 1) n = 1; rw [qNext_one h2]; exact ih
theorem qCost_le {lr : Int} (h1 : 0 ≤ lr) (h2 : lr ≤ 100) : ∀ (n : Nat) (c : Int), 1 ≤ c → c ≤ 9999 → 1 ≤ qCost lr c n ∧ qCost lr c n ≤ 9999 := by
  intro n
  induction n with
  | zero => intro c h3 h4; exact ⟨h3, h4⟩
  | succ n ih => intro c h3 h4; have a := qNext_le h1 h2 (c := c) (by omega) h4; exact ih _ a.1 a.2.1
set_option maxHeartbeats 4000000 in
set_option maxRecDepth 100000 in
theorem c_X4_has {g : vGl} {d : Nat} {Q : Option Value → List mC → Prop} {σ : vSt} {k : Int} (hk : vr k) (hs : vr (σ 10 6)) (hQ : Q (some (vi (if 0 ≤ k ∧ k < σ 10 6 then 1 else 0))) (hp σ)) : V g mX4_has d (0, 0, 0, 0) Q 0 [(0, .ref 10), (1, vi k)] [] (hp σ) := by
  refine v_iload_n (pc := 0) dX4_has_0 rfl ?_
  refine v_if_lt (pc := 1) 16 dX4_has_1 (by decide) (by omega) (fun h1 => ?_) (fun h1 => ?_)
  · refine v_iconst (pc := 16) (0) dX4_has_16 (by decide) ?_
    refine v_ireturn (pc := 17) dX4_has_17 rfl (vZ (by omega)) ⟨Nat.le_refl _, Nat.le_refl _⟩ ?_
    first | (rw [if_pos (by omega)] at hQ; exact hQ) | (rw [if_neg (by omega)] at hQ; exact hQ)
  · refine v_iload_n (pc := 4) dX4_has_4 rfl ?_
    refine v_aload_n (pc := 5) dX4_has_5 rfl ?_
    refine v_gI (pc := 6) dX4_has_6 fl_X4_24 rfl ?_
    refine v_icmp_ge (pc := 9) 16 dX4_has_9 (by decide) (by omega) (by omega) (fun h9 => ?_) (fun h9 => ?_)
    · refine v_iconst (pc := 16) (0) dX4_has_16 (by decide) ?_
      refine v_ireturn (pc := 17) dX4_has_17 rfl (vZ (by omega)) ⟨Nat.le_refl _, Nat.le_refl _⟩ ?_
      first | (rw [if_pos (by omega)] at hQ; exact hQ) | (rw [if_neg (by omega)] at hQ; exact hQ)
    · refine v_iconst (pc := 12) (1) dX4_has_12 (by decide) ?_
      refine v_goto (pc := 13) 17 dX4_has_13 (by decide) ?_
      refine v_ireturn (pc := 17) dX4_has_17 rfl (vZ (by omega)) ⟨Nat.le_refl _, Nat.le_refl _⟩ ?_
      first | (rw [if_pos (by omega)] at hQ; exact hQ) | (rw [if_neg (by omega)] at hQ; exact hQ)
theorem c_X4_has1 {g : vGl} {d : Nat} {Q : Option Value → List mC → Prop} {σ : vSt} {x : Int} (hR : YR σ) (h0 : 0 ≤ x) (h1 : x < σ 10 6) (hQ : Q (some (vi 1)) (hp σ)) : V g mX4_has d (0, 0, 0, 0) Q 0 [(0, .ref 10), (1, vi x)] [] (hp σ) := by
  have r := hR.1
  refine c_X4_has (by omega) (by omega) ?_
  rw [if_pos ⟨h0, h1⟩]; exact hQ
set_option maxHeartbeats 4000000 in
set_option maxRecDepth 100000 in
theorem c_X4_load {g : vGl} {d : Nat} {Q : Option Value → List mC → Prop} {σ : vSt} (hQ : Q (some (vi (σ 2 0))) (hp σ)) : V g mX4_load d (0, 0, 0, 0) Q 0 [(0, .ref 10)] [] (hp σ) := by
  refine v_aload_n (pc := 0) dX4_load_0 rfl ?_
  refine v_gR (pc := 1) dX4_load_1 fl_X4_32 rfl ?_
  refine v_iconst (pc := 4) (0) dX4_load_4 (by decide) ?_
  refine v_aI (pc := 5) (j := 0) dX4_load_5 rfl rfl (by omega) (by omega) ?_
  refine v_ireturn (pc := 6) dX4_load_6 rfl rfl ⟨Nat.le_refl _, Nat.le_refl _⟩ ?_
  exact hQ
set_option maxHeartbeats 4000000 in
set_option maxRecDepth 100000 in
theorem c_X4_tankFor {g : vGl} {d : Nat} {Q : Option Value → List mC → Prop} {σ : vSt} {z : Int} (hz : 0 ≤ z ∧ z ≤ 100000) (hs : 0 ≤ σ 2 1 ∧ σ 2 1 ≤ 100) (hQ : Q (some (vi (yTank σ z))) (hp σ)) : V g mX4_tankFor d (0, 0, 0, 0) Q 0 [(0, .ref 10), (1, vi z)] [] (hp σ) := by
  have h1 := mul_le hz.1 hz.2 hs.1 hs.2
  refine v_iload_n (pc := 0) dX4_tankFor_0 rfl ?_
  refine v_aload_n (pc := 1) dX4_tankFor_1 rfl ?_
  refine v_gR (pc := 2) dX4_tankFor_2 fl_X4_32 rfl ?_
  refine v_iconst (pc := 5) (1) dX4_tankFor_5 (by decide) ?_
  refine v_aI (pc := 6) (j := 1) dX4_tankFor_6 rfl rfl (by omega) (by omega) ?_
  refine v_imul (pc := 7) dX4_tankFor_7 ?_
  refine v_bipush (pc := 8) (99) dX4_tankFor_8 (by decide) ?_
  refine v_iadd (pc := 10) dX4_tankFor_10 ?_
  refine v_bipush (pc := 11) (100) dX4_tankFor_11 (by decide) ?_
  refine v_idiv (pc := 13) dX4_tankFor_13 (by omega) (by omega) (by omega) ?_
  refine v_ireturn (pc := 14) dX4_tankFor_14 rfl rfl ⟨Nat.le_refl _, Nat.le_refl _⟩ ?_
  rw [tdiv_pos (by omega)]; exact hQ
set_option maxHeartbeats 4000000 in
set_option maxRecDepth 100000 in
theorem c_X4_bareOf {g : vGl} {d : Nat} {Q : Option Value → List mC → Prop} {σ : vSt} {x : Int} {k : Nat} (hd : 1 ≤ d) (hR : YR σ) (hx : x = k) (hk : (k : Int) < σ 10 6) (hQ : Q (some (vi (yBare σ k))) (hp σ)) : V g mX4_bareOf d (0, 0, 0, 0) Q 0 [(0, .ref 10), (1, vi x)] [] (hp σ) := by
  obtain ⟨⟨r0, r1, r2, r3, r4, r5, r6, r7, r8, r9⟩, rE, rS, rT, rF⟩ := id hR
  have s1 := rS k
  have s2 := rE (σ 11 k).toNat
  refine v_aload_n (pc := 0) dX4_bareOf_0 rfl ?_
  refine v_iload_n (pc := 1) dX4_bareOf_1 rfl ?_
  refine v_cVi1 (pc := 2) (z := 0) (d' := d - 1) dX4_bareOf_2 kX4_has ml_X4_35 iwX4_has swX4_has rfl rfl (Nat.le_of_ble_eq_true rfl) (Nat.le_of_ble_eq_true rfl) (by omega) ⟨Nat.le_refl _, Nat.le_refl _⟩ ?_
  refine c_X4_has1 hR (by omega) (by omega) ?_
  refine ⟨_, rfl, ?_⟩
  refine v_if_eq (pc := 5) 39 dX4_bareOf_5 (by decide) (by omega) (fun h5 => by exfalso; omega) (fun h5 => ?_)
  refine v_aload_n (pc := 8) dX4_bareOf_8 rfl ?_
  refine v_gR (pc := 9) dX4_bareOf_9 fl_X4_15 rfl ?_
  refine v_iload_n (pc := 12) dX4_bareOf_12 rfl ?_
  refine v_aI (pc := 13) (j := k) dX4_bareOf_13 rfl (by omega) (by omega) (by omega) ?_
  refine v_aload_n (pc := 14) dX4_bareOf_14 rfl ?_
  refine v_gR (pc := 15) dX4_bareOf_15 fl_X4_28 rfl ?_
  refine v_gR (pc := 18) dX4_bareOf_18 fl_X4_46 rfl ?_
  refine v_aload_n (pc := 21) dX4_bareOf_21 rfl ?_
  refine v_gR (pc := 22) dX4_bareOf_22 fl_X4_9 rfl ?_
  refine v_iload_n (pc := 25) dX4_bareOf_25 rfl ?_
  refine v_aI (pc := 26) (j := k) dX4_bareOf_26 rfl (by omega) (by omega) (by omega) ?_
  refine v_aI (pc := 27) (j := (σ 11 k).toNat) dX4_bareOf_27 rfl rfl (by omega) (by omega) ?_
  refine v_imul (pc := 28) dX4_bareOf_28 ?_
  refine v_aload_n (pc := 29) dX4_bareOf_29 rfl ?_
  refine v_gR (pc := 30) dX4_bareOf_30 fl_X4_21 rfl ?_
  refine v_iload_n (pc := 33) dX4_bareOf_33 rfl ?_
  refine v_aI (pc := 34) (j := k) dX4_bareOf_34 rfl (by omega) (by omega) (by omega) ?_
  refine v_iadd (pc := 35) dX4_bareOf_35 ?_
  refine v_goto (pc := 36) 40 dX4_bareOf_36 (by decide) ?_
  refine v_ireturn (pc := 40) dX4_bareOf_40 rfl rfl ⟨Nat.le_refl _, Nat.le_refl _⟩ ?_
  exact hQ
set_option maxHeartbeats 4000000 in
set_option maxRecDepth 100000 in
theorem c_X4_dryOf {g : vGl} {d : Nat} {Q : Option Value → List mC → Prop} {σ : vSt} {x : Int} {k : Nat} (hd : 2 ≤ d) (hR : YR σ) (hx : x = k) (hk : (k : Int) < σ 10 6) (hQ : Q (some (vi (yDry σ k))) (hp σ)) : V g mX4_dryOf d (0, 0, 0, 0) Q 0 [(0, .ref 10), (1, vi x)] [] (hp σ) := by
  obtain ⟨⟨r0, r1, r2, r3, r4, r5, r6, r7, r8, r9⟩, rE, rS, rT, rF⟩ := id hR
  have s1 := rS k
  have s2 := rE (σ 11 k).toNat
  refine v_aload_n (pc := 0) dX4_dryOf_0 rfl ?_
  refine v_iload_n (pc := 1) dX4_dryOf_1 rfl ?_
  refine v_cVi1 (pc := 2) (z := 0) (d' := d - 1) dX4_dryOf_2 kX4_has ml_X4_35 iwX4_has swX4_has rfl rfl (Nat.le_of_ble_eq_true rfl) (Nat.le_of_ble_eq_true rfl) (by omega) ⟨Nat.le_refl _, Nat.le_refl _⟩ ?_
  refine c_X4_has1 hR (by omega) (by omega) ?_
  refine ⟨_, rfl, ?_⟩
  refine v_if_eq (pc := 5) 27 dX4_dryOf_5 (by decide) (by omega) (fun h5 => by exfalso; omega) (fun h5 => ?_)
  refine v_aload_n (pc := 8) dX4_dryOf_8 rfl ?_
  refine v_iload_n (pc := 9) dX4_dryOf_9 rfl ?_
  refine v_cVi1 (pc := 10) (z := 0) (d' := d - 1) dX4_dryOf_10 kX4_bareOf ml_X4_39 iwX4_bareOf swX4_bareOf rfl rfl (Nat.le_of_ble_eq_true rfl) (Nat.le_of_ble_eq_true rfl) (by omega) ⟨Nat.le_refl _, Nat.le_refl _⟩ ?_
  refine c_X4_bareOf (k := k) (by omega) hR (by omega) (by omega) ?_
  refine ⟨_, rfl, ?_⟩
  refine v_aload_n (pc := 13) dX4_dryOf_13 rfl ?_
  refine v_aload_n (pc := 14) dX4_dryOf_14 rfl ?_
  refine v_gR (pc := 15) dX4_dryOf_15 fl_X4_18 rfl ?_
  refine v_iload_n (pc := 18) dX4_dryOf_18 rfl ?_
  refine v_aI (pc := 19) (j := k) dX4_dryOf_19 rfl (by omega) (by omega) (by omega) ?_
  refine v_cVi1 (pc := 20) (z := 0) (d' := d - 1) dX4_dryOf_20 kX4_tankFor ml_X4_43 iwX4_tankFor swX4_tankFor rfl rfl (Nat.le_of_ble_eq_true rfl) (Nat.le_of_ble_eq_true rfl) (by omega) ⟨Nat.le_refl _, Nat.le_refl _⟩ ?_
  refine c_X4_tankFor (by omega) (by omega) ?_
  refine ⟨_, rfl, ?_⟩
  refine v_iadd (pc := 23) dX4_dryOf_23 ?_
  refine v_goto (pc := 24) 28 dX4_dryOf_24 (by decide) ?_
  refine v_ireturn (pc := 28) dX4_dryOf_28 rfl rfl ⟨Nat.le_refl _, Nat.le_refl _⟩ ?_
  exact hQ
set_option maxHeartbeats 4000000 in
set_option maxRecDepth 100000 in
theorem c_X4_exhaustOf {g : vGl} {d : Nat} {Q : Option Value → List mC → Prop} {σ : vSt} {x : Int} {k : Nat} (hd : 1 ≤ d) (hR : YR σ) (hx : x = k) (hk : (k : Int) < σ 10 6) (hQ : Q (some (vi (σ 5 (σ 11 k).toNat))) (hp σ)) : V g mX4_exhaustOf d (0, 0, 0, 0) Q 0 [(0, .ref 10), (1, vi x)] [] (hp σ) := by
  obtain ⟨⟨r0, r1, r2, r3, r4, r5, r6, r7, r8, r9⟩, rE, rS, rT, rF⟩ := id hR
  have s1 := rS k
  have s2 := rE (σ 11 k).toNat
  refine v_aload_n (pc := 0) dX4_exhaustOf_0 rfl ?_
  refine v_iload_n (pc := 1) dX4_exhaustOf_1 rfl ?_
  refine v_cVi1 (pc := 2) (z := 0) (d' := d - 1) dX4_exhaustOf_2 kX4_has ml_X4_35 iwX4_has swX4_has rfl rfl (Nat.le_of_ble_eq_true rfl) (Nat.le_of_ble_eq_true rfl) (by omega) ⟨Nat.le_refl _, Nat.le_refl _⟩ ?_
  refine c_X4_has1 hR (by omega) (by omega) ?_
  refine ⟨_, rfl, ?_⟩
  refine v_if_eq (pc := 5) 25 dX4_exhaustOf_5 (by decide) (by omega) (fun h5 => by exfalso; omega) (fun h5 => ?_)
  refine v_aload_n (pc := 8) dX4_exhaustOf_8 rfl ?_
  refine v_gR (pc := 9) dX4_exhaustOf_9 fl_X4_28 rfl ?_
  refine v_gR (pc := 12) dX4_exhaustOf_12 fl_X4_51 rfl ?_
  refine v_aload_n (pc := 15) dX4_exhaustOf_15 rfl ?_
  refine v_gR (pc := 16) dX4_exhaustOf_16 fl_X4_9 rfl ?_
  refine v_iload_n (pc := 19) dX4_exhaustOf_19 rfl ?_
  refine v_aI (pc := 20) (j := k) dX4_exhaustOf_20 rfl (by omega) (by omega) (by omega) ?_
  refine v_aI (pc := 21) (j := (σ 11 k).toNat) dX4_exhaustOf_21 rfl rfl (by omega) (by omega) ?_
  refine v_goto (pc := 22) 26 dX4_exhaustOf_22 (by decide) ?_
  refine v_ireturn (pc := 26) dX4_exhaustOf_26 rfl rfl ⟨Nat.le_refl _, Nat.le_refl _⟩ ?_
  exact hQ
set_option maxHeartbeats 4000000 in
set_option maxRecDepth 100000 in
theorem l_X4_massFrom {g : vGl} {d : Nat} {Q : Option Value → List mC → Prop} {σ : vSt} (hd : 3 ≤ d) (hR : YR σ) : ∀ (n : Nat) (j : Nat) (x s : Int) (hx : x = j) (hn : (j : Int) + n = σ 10 6) (hQ : Q (some (vi (s + qSum (fun j => qDry (σ 2 1) (σ 6) (σ 11) (σ 12) (σ 13) (σ 14) j + σ 13 j) n j))) (hp σ)), V g mX4_massFrom d (0, 0, 0, 0) Q 11 [(0, .ref 10), (2, vi s), (3, vi x)] [] (hp σ) := by
  intro n
  induction n with
  | zero =>
    intro j x s hx hn hQ
    obtain ⟨⟨r0, r1, r2, r3, r4, r5, r6, r7, r8, r9⟩, rE, rS, rT, rF⟩ := id hR
    refine v_iload_n (pc := 11) dX4_massFrom_11 rfl ?_
    refine v_aload_n (pc := 12) dX4_massFrom_12 rfl ?_
    refine v_gI (pc := 13) dX4_massFrom_13 fl_X4_24 rfl ?_
    refine v_icmp_ge (pc := 16) 40 dX4_massFrom_16 (by decide) (by omega) (by omega) (fun h16 => ?_) (fun h16 => by exfalso; omega)
    refine v_iload_n (pc := 40) dX4_massFrom_40 rfl ?_
    refine v_ireturn (pc := 41) dX4_massFrom_41 rfl rfl ⟨Nat.le_refl _, Nat.le_refl _⟩ ?_
    simpa [qSum] using hQ
  | succ n ih =>
    intro j x s hx hn hQ
    obtain ⟨⟨r0, r1, r2, r3, r4, r5, r6, r7, r8, r9⟩, rE, rS, rT, rF⟩ := id hR
    have s1 := rS j
    refine v_iload_n (pc := 11) dX4_massFrom_11 rfl ?_
    refine v_aload_n (pc := 12) dX4_massFrom_12 rfl ?_
    refine v_gI (pc := 13) dX4_massFrom_13 fl_X4_24 rfl ?_
    refine v_icmp_ge (pc := 16) 40 dX4_massFrom_16 (by decide) (by omega) (by omega) (fun h16 => by exfalso; omega) (fun h16 => ?_)
    refine v_iload_n (pc := 19) dX4_massFrom_19 rfl ?_
    refine v_aload_n (pc := 20) dX4_massFrom_20 rfl ?_
    refine v_iload_n (pc := 21) dX4_massFrom_21 rfl ?_
    refine v_cVi1 (pc := 22) (z := 0) (d' := d - 1) dX4_massFrom_22 kX4_dryOf ml_X4_64 iwX4_dryOf swX4_dryOf rfl rfl (Nat.le_of_ble_eq_true rfl) (Nat.le_of_ble_eq_true rfl) (by omega) ⟨Nat.le_refl _, Nat.le_refl _⟩ ?_
    refine c_X4_dryOf (k := j) (by omega) hR (by omega) (by omega) ?_
    refine ⟨_, rfl, ?_⟩
    refine v_aload_n (pc := 25) dX4_massFrom_25 rfl ?_
    refine v_gR (pc := 26) dX4_massFrom_26 fl_X4_18 rfl ?_
    refine v_iload_n (pc := 29) dX4_massFrom_29 rfl ?_
    refine v_aI (pc := 30) (j := j) dX4_massFrom_30 rfl (by omega) (by omega) (by omega) ?_
    refine v_iadd (pc := 31) dX4_massFrom_31 ?_
    refine v_iadd (pc := 32) dX4_massFrom_32 ?_
    refine v_istore_n (pc := 33) dX4_massFrom_33 (by decide) ?_
    refine v_iinc (pc := 34) (1) dX4_massFrom_34 rfl (by decide) (by decide) ?_
    refine v_goto (pc := 37) 11 dX4_massFrom_37 (by decide) ?_
    refine v_lv (ih (j + 1) (x + 1) _ (by omega) (by omega) ?_) ⟨rfl, rfl, rfl, trivial⟩
    rw [show s + qSum (fun j => qDry (σ 2 1) (σ 6) (σ 11) (σ 12) (σ 13) (σ 14) j + σ 13 j) (n + 1) j = s + ((fun j => qDry (σ 2 1) (σ 6) (σ 11) (σ 12) (σ 13) (σ 14) j + σ 13 j) j + qSum (fun j => qDry (σ 2 1) (σ 6) (σ 11) (σ 12) (σ 13) (σ 14) j + σ 13 j) n (j + 1)) from rfl, ← Int.add_assoc] at hQ
    exact hQ
set_option maxHeartbeats 4000000 in
set_option maxRecDepth 100000 in
theorem c_X4_massFrom {g : vGl} {d : Nat} {Q : Option Value → List mC → Prop} {σ : vSt} {x : Int} {k : Nat} (hd : 3 ≤ d) (hR : YR σ) (hx : x = k) (hk : (k : Int) ≤ σ 10 6) (hQ : Q (some (vi (yMass σ k))) (hp σ)) : V g mX4_massFrom d (0, 0, 0, 0) Q 0 [(0, .ref 10), (1, vi x)] [] (hp σ) := by
  obtain ⟨⟨r0, r1, r2, r3, r4, r5, r6, r7, r8, r9⟩, rE, rS, rT, rF⟩ := id hR
  refine v_aload_n (pc := 0) dX4_massFrom_0 rfl ?_
  refine v_cVi0 (pc := 1) (z := 0) (d' := d - 1) dX4_massFrom_1 kX4_load ml_X4_54 iwX4_load swX4_load rfl rfl (Nat.le_of_ble_eq_true rfl) (Nat.le_of_ble_eq_true rfl) (by omega) ⟨Nat.le_refl _, Nat.le_refl _⟩ ?_
  refine c_X4_load ?_
  refine ⟨_, rfl, ?_⟩
  refine v_istore_n (pc := 4) dX4_massFrom_4 (by decide) ?_
  refine v_iload_n (pc := 5) dX4_massFrom_5 rfl ?_
  refine v_iconst (pc := 6) (0) dX4_massFrom_6 (by decide) ?_
  refine v_max (pc := 7) dX4_massFrom_7 ml_X4_58 st_max it_Math co_max (by omega) (by omega) (Nat.le_of_ble_eq_true rfl) (by omega) ⟨Nat.le_refl _, Nat.le_refl _⟩ ?_
  refine v_istore_n (pc := 10) dX4_massFrom_10 (by decide) ?_
  refine v_lv (l_X4_massFrom hd hR ((σ 10 6).toNat - k) k (max x 0) (σ 2 0) (by omega) (by omega) hQ) ⟨rfl, rfl, rfl, trivial⟩
set_option maxHeartbeats 4000000 in
set_option maxRecDepth 100000 in
theorem l_X4_allStuff {g : vGl} {d : Nat} {Q : Option Value → List mC → Prop} {σ : vSt} (hR : YR σ) : ∀ (n : Nat) (j : Nat) (x s : Int) (hx : x = j) (hn : (j : Int) + n = σ 10 6) (hQ : Q (some (vi (s + qSum (σ 13) n j))) (hp σ)), V g mX4_allStuff d (0, 0, 0, 0) Q 4 [(0, .ref 10), (1, vi s), (2, vi x)] [] (hp σ) := by
  intro n
  induction n with
  | zero =>
    intro j x s hx hn hQ
    obtain ⟨⟨r0, r1, r2, r3, r4, r5, r6, r7, r8, r9⟩, rE, rS, rT, rF⟩ := id hR
    refine v_iload_n (pc := 4) dX4_allStuff_4 rfl ?_
    refine v_aload_n (pc := 5) dX4_allStuff_5 rfl ?_
    refine v_gI (pc := 6) dX4_allStuff_6 fl_X4_24 rfl ?_
    refine v_icmp_ge (pc := 9) 27 dX4_allStuff_9 (by decide) (by omega) (by omega) (fun h9 => ?_) (fun h9 => by exfalso; omega)
    refine v_iload_n (pc := 27) dX4_allStuff_27 rfl ?_
    refine v_ireturn (pc := 28) dX4_allStuff_28 rfl rfl ⟨Nat.le_refl _, Nat.le_refl _⟩ ?_
    simpa [qSum] using hQ
  | succ n ih =>
    intro j x s hx hn hQ
    obtain ⟨⟨r0, r1, r2, r3, r4, r5, r6, r7, r8, r9⟩, rE, rS, rT, rF⟩ := id hR
    refine v_iload_n (pc := 4) dX4_allStuff_4 rfl ?_
    refine v_aload_n (pc := 5) dX4_allStuff_5 rfl ?_
    refine v_gI (pc := 6) dX4_allStuff_6 fl_X4_24 rfl ?_
    refine v_icmp_ge (pc := 9) 27 dX4_allStuff_9 (by decide) (by omega) (by omega) (fun h9 => by exfalso; omega) (fun h9 => ?_)
    refine v_iload_n (pc := 12) dX4_allStuff_12 rfl ?_
    refine v_aload_n (pc := 13) dX4_allStuff_13 rfl ?_
    refine v_gR (pc := 14) dX4_allStuff_14 fl_X4_18 rfl ?_
    refine v_iload_n (pc := 17) dX4_allStuff_17 rfl ?_
    refine v_aI (pc := 18) (j := j) dX4_allStuff_18 rfl (by omega) (by omega) (by omega) ?_
    refine v_iadd (pc := 19) dX4_allStuff_19 ?_
    refine v_istore_n (pc := 20) dX4_allStuff_20 (by decide) ?_
    refine v_iinc (pc := 21) (1) dX4_allStuff_21 rfl (by decide) (by decide) ?_
    refine v_goto (pc := 24) 4 dX4_allStuff_24 (by decide) ?_
    refine v_lv (ih (j + 1) (x + 1) _ (by omega) (by omega) ?_) ⟨rfl, rfl, rfl, trivial⟩
    rw [show s + qSum (σ 13) (n + 1) j = s + (σ 13 j + qSum (σ 13) n (j + 1)) from rfl, ← Int.add_assoc] at hQ
    exact hQ
set_option maxHeartbeats 4000000 in
set_option maxRecDepth 100000 in
theorem c_X4_allStuff {g : vGl} {d : Nat} {Q : Option Value → List mC → Prop} {σ : vSt} (hR : YR σ) (hQ : Q (some (vi (qSum (σ 13) (σ 10 6).toNat 0))) (hp σ)) : V g mX4_allStuff d (0, 0, 0, 0) Q 0 [(0, .ref 10)] [] (hp σ) := by
  obtain ⟨⟨r0, r1, r2, r3, r4, r5, r6, r7, r8, r9⟩, rE, rS, rT, rF⟩ := id hR
  refine v_iconst (pc := 0) (0) dX4_allStuff_0 (by decide) ?_
  refine v_istore_n (pc := 1) dX4_allStuff_1 (by decide) ?_
  refine v_iconst (pc := 2) (0) dX4_allStuff_2 (by decide) ?_
  refine v_istore_n (pc := 3) dX4_allStuff_3 (by decide) ?_
  refine v_lv (l_X4_allStuff hR (σ 10 6).toNat 0 0 0 rfl (by omega) (by rw [Int.zero_add]; exact hQ)) ⟨rfl, rfl, rfl, trivial⟩
set_option maxHeartbeats 4000000 in
set_option maxRecDepth 100000 in
theorem l_X4_lowOf {g : vGl} {d : Nat} {Q : Option Value → List mC → Prop} {σ : vSt} {y : Int} {k : Nat} {top : Int} (hR : YR σ) (hy : y = k) (hk : k < 4) (ht : 0 ≤ top ∧ top ≤ 999000) : ∀ (n : Nat) (b m s : Int) (hb : b + n = σ 13 k) (hb0 : -1 ≤ b) (hm : 1 ≤ m - n ∧ m ≤ 10000) (hQ : Q (some (vi (s + qLow top n m))) (hp σ)), V g mX4_lowOf d (0, 0, 0, 0) Q 33 [(0, .ref 10), (1, vi y), (3, vi top), (4, vi m), (5, vi s), (6, vi b)] [] (hp σ) := by
  intro n
  induction n with
  | zero =>
    intro b m s hb hb0 hm hQ
    obtain ⟨⟨r0, r1, r2, r3, r4, r5, r6, r7, r8, r9⟩, rE, rS, rT, rF⟩ := id hR
    have s1 := rS k
    refine v_iload (pc := 33) dX4_lowOf_33 rfl ?_
    refine v_aload_n (pc := 35) dX4_lowOf_35 rfl ?_
    refine v_gR (pc := 36) dX4_lowOf_36 fl_X4_18 rfl ?_
    refine v_iload_n (pc := 39) dX4_lowOf_39 rfl ?_
    refine v_aI (pc := 40) (j := k) dX4_lowOf_40 rfl (by omega) (by omega) (by omega) ?_
    refine v_icmp_ge (pc := 41) 67 dX4_lowOf_41 (by decide) (by omega) (by omega) (fun h41 => ?_) (fun h41 => by exfalso; omega)
    refine v_iload (pc := 67) dX4_lowOf_67 rfl ?_
    refine v_ireturn (pc := 69) dX4_lowOf_69 rfl rfl ⟨Nat.le_refl _, Nat.le_refl _⟩ ?_
    simpa [qLow] using hQ
  | succ n ih =>
    intro b m s hb hb0 hm hQ
    obtain ⟨⟨r0, r1, r2, r3, r4, r5, r6, r7, r8, r9⟩, rE, rS, rT, rF⟩ := id hR
    have s1 := rS k
    refine v_iload (pc := 33) dX4_lowOf_33 rfl ?_
    refine v_aload_n (pc := 35) dX4_lowOf_35 rfl ?_
    refine v_gR (pc := 36) dX4_lowOf_36 fl_X4_18 rfl ?_
    refine v_iload_n (pc := 39) dX4_lowOf_39 rfl ?_
    refine v_aI (pc := 40) (j := k) dX4_lowOf_40 rfl (by omega) (by omega) (by omega) ?_
    refine v_icmp_ge (pc := 41) 67 dX4_lowOf_41 (by decide) (by omega) (by omega) (fun h41 => by exfalso; omega) (fun h41 => ?_)
    refine v_iload (pc := 44) dX4_lowOf_44 rfl ?_
    refine v_if_le (pc := 46) 67 dX4_lowOf_46 (by decide) (by omega) (fun h46 => by exfalso; omega) (fun h46 => ?_)
    refine v_iload (pc := 49) dX4_lowOf_49 rfl ?_
    refine v_iload_n (pc := 51) dX4_lowOf_51 rfl ?_
    refine v_iload (pc := 52) dX4_lowOf_52 rfl ?_
    refine v_idiv (pc := 54) dX4_lowOf_54 (by omega) (by omega) (by omega) ?_
    refine v_iadd (pc := 55) dX4_lowOf_55 ?_
    refine v_istore (pc := 56) dX4_lowOf_56 (by decide) ?_
    refine v_iinc (pc := 58) (-1) dX4_lowOf_58 rfl (by decide) (by decide) ?_
    refine v_iinc (pc := 61) (1) dX4_lowOf_61 rfl (by decide) (by decide) ?_
    refine v_goto (pc := 64) 33 dX4_lowOf_64 (by decide) ?_
    refine v_lv (ih (b + 1) (m + -1) _ (by omega) (by omega) (by omega) ?_) ⟨rfl, rfl, rfl, rfl, rfl, rfl, trivial⟩
    rw [show s + qLow top (n + 1) m = s + (top / m + qLow top n (m - 1)) from rfl, ← Int.add_assoc] at hQ
    rw [tdiv_pos ht.1]
    exact hQ
set_option maxHeartbeats 4000000 in
set_option maxRecDepth 100000 in
theorem c_X4_lowOf {g : vGl} {d : Nat} {Q : Option Value → List mC → Prop} {σ : vSt} {x y : Int} {k : Nat} (hd : 4 ≤ d) (hR : YR σ) (hx : x = k) (hk : (k : Int) < σ 10 6) (hy : 0 ≤ y ∧ y ≤ σ 13 k) (hQ : Q (some (vi (qLow (1000 * σ 5 (σ 11 k).toNat) (σ 13 k - y).toNat (yMass σ k)))) (hp σ)) : V g mX4_lowOf d (0, 0, 0, 0) Q 0 [(0, .ref 10), (1, vi x), (2, vi y)] [] (hp σ) := by
  obtain ⟨⟨r0, r1, r2, r3, r4, r5, r6, r7, r8, r9⟩, rE, rS, rT, rF⟩ := id hR
  have s1 := rS k
  have s2 := rE (σ 11 k).toNat
  have s3 := hR.mass1 hk
  have s4 := hR.mass k
  have s5 := rF (σ 11 k).toNat (by have := rT k hk; omega)
  refine v_aload_n (pc := 0) dX4_lowOf_0 rfl ?_
  refine v_iload_n (pc := 1) dX4_lowOf_1 rfl ?_
  refine v_cVi1 (pc := 2) (z := 0) (d' := d - 1) dX4_lowOf_2 kX4_has ml_X4_35 iwX4_has swX4_has rfl rfl (Nat.le_of_ble_eq_true rfl) (Nat.le_of_ble_eq_true rfl) (by omega) ⟨Nat.le_refl _, Nat.le_refl _⟩ ?_
  refine c_X4_has1 hR (by omega) (by omega) ?_
  refine ⟨_, rfl, ?_⟩
  refine v_if_ne (pc := 5) 10 dX4_lowOf_5 (by decide) (by omega) (fun h5 => ?_) (fun h5 => by exfalso; omega)
  refine v_sipush (pc := 10) (1000) dX4_lowOf_10 (by decide) ?_
  refine v_aload_n (pc := 13) dX4_lowOf_13 rfl ?_
  refine v_iload_n (pc := 14) dX4_lowOf_14 rfl ?_
  refine v_cVi1 (pc := 15) (z := 0) (d' := d - 1) dX4_lowOf_15 kX4_exhaustOf ml_X4_67 iwX4_exhaustOf swX4_exhaustOf rfl rfl (Nat.le_of_ble_eq_true rfl) (Nat.le_of_ble_eq_true rfl) (by omega) ⟨Nat.le_refl _, Nat.le_refl _⟩ ?_
  refine c_X4_exhaustOf (k := k) (by omega) hR (by omega) (by omega) ?_
  refine ⟨_, rfl, ?_⟩
  refine v_imul (pc := 18) dX4_lowOf_18 ?_
  refine v_istore_n (pc := 19) dX4_lowOf_19 (by decide) ?_
  refine v_aload_n (pc := 20) dX4_lowOf_20 rfl ?_
  refine v_iload_n (pc := 21) dX4_lowOf_21 rfl ?_
  refine v_cVi1 (pc := 22) (z := 0) (d' := d - 1) dX4_lowOf_22 kX4_massFrom ml_X4_70 iwX4_massFrom swX4_massFrom rfl rfl (Nat.le_of_ble_eq_true rfl) (Nat.le_of_ble_eq_true rfl) (by omega) ⟨Nat.le_refl _, Nat.le_refl _⟩ ?_
  refine c_X4_massFrom (k := k) (by omega) hR (by omega) (by omega) ?_
  refine ⟨_, rfl, ?_⟩
  refine v_istore (pc := 25) dX4_lowOf_25 (by decide) ?_
  refine v_iconst (pc := 27) (0) dX4_lowOf_27 (by decide) ?_
  refine v_istore (pc := 28) dX4_lowOf_28 (by decide) ?_
  refine v_iload_n (pc := 30) dX4_lowOf_30 rfl ?_
  refine v_istore (pc := 31) dX4_lowOf_31 (by decide) ?_
  refine v_lv (l_X4_lowOf (y := x) (k := k) hR hx (by omega) (by omega) (σ 13 k - y).toNat y (yMass σ k) 0 (by omega) (by omega) (by omega) (by rw [Int.zero_add]; exact hQ)) ⟨rfl, rfl, rfl, rfl, rfl, rfl, trivial⟩
set_option maxHeartbeats 4000000 in
set_option maxRecDepth 100000 in
theorem l_X4_highOf {g : vGl} {d : Nat} {Q : Option Value → List mC → Prop} {σ : vSt} {y : Int} {k : Nat} {top : Int} (hR : YR σ) (hy : y = k) (hk : k < 4) (ht : 0 ≤ top ∧ top ≤ 999000) : ∀ (n : Nat) (b m s : Int) (hb : b + n = σ 13 k) (hb0 : -1 ≤ b) (hm : 1 ≤ m + 1 - n ∧ m ≤ 10000) (hQ : Q (some (vi (s + qHigh top n m))) (hp σ)), V g mX4_highOf d (0, 0, 0, 0) Q 34 [(0, .ref 10), (1, vi y), (2, vi top), (3, vi m), (4, vi s), (5, vi b)] [] (hp σ) := by
  intro n
  induction n with
  | zero =>
    intro b m s hb hb0 hm hQ
    obtain ⟨⟨r0, r1, r2, r3, r4, r5, r6, r7, r8, r9⟩, rE, rS, rT, rF⟩ := id hR
    have s1 := rS k
    refine v_iload (pc := 34) dX4_highOf_34 rfl ?_
    refine v_aload_n (pc := 36) dX4_highOf_36 rfl ?_
    refine v_gR (pc := 37) dX4_highOf_37 fl_X4_18 rfl ?_
    refine v_iload_n (pc := 40) dX4_highOf_40 rfl ?_
    refine v_aI (pc := 41) (j := k) dX4_highOf_41 rfl (by omega) (by omega) (by omega) ?_
    refine v_icmp_ge (pc := 42) 70 dX4_highOf_42 (by decide) (by omega) (by omega) (fun h42 => ?_) (fun h42 => by exfalso; omega)
    refine v_iload (pc := 70) dX4_highOf_70 rfl ?_
    refine v_ireturn (pc := 72) dX4_highOf_72 rfl rfl ⟨Nat.le_refl _, Nat.le_refl _⟩ ?_
    simpa [qHigh] using hQ
  | succ n ih =>
    intro b m s hb hb0 hm hQ
    obtain ⟨⟨r0, r1, r2, r3, r4, r5, r6, r7, r8, r9⟩, rE, rS, rT, rF⟩ := id hR
    have s1 := rS k
    refine v_iload (pc := 34) dX4_highOf_34 rfl ?_
    refine v_aload_n (pc := 36) dX4_highOf_36 rfl ?_
    refine v_gR (pc := 37) dX4_highOf_37 fl_X4_18 rfl ?_
    refine v_iload_n (pc := 40) dX4_highOf_40 rfl ?_
    refine v_aI (pc := 41) (j := k) dX4_highOf_41 rfl (by omega) (by omega) (by omega) ?_
    refine v_icmp_ge (pc := 42) 70 dX4_highOf_42 (by decide) (by omega) (by omega) (fun h42 => by exfalso; omega) (fun h42 => ?_)
    refine v_iload_n (pc := 45) dX4_highOf_45 rfl ?_
    refine v_if_le (pc := 46) 70 dX4_highOf_46 (by decide) (by omega) (fun h46 => by exfalso; omega) (fun h46 => ?_)
    refine v_iload (pc := 49) dX4_highOf_49 rfl ?_
    refine v_iload_n (pc := 51) dX4_highOf_51 rfl ?_
    refine v_iload_n (pc := 52) dX4_highOf_52 rfl ?_
    refine v_iadd (pc := 53) dX4_highOf_53 ?_
    refine v_iconst (pc := 54) (1) dX4_highOf_54 (by decide) ?_
    refine v_isub (pc := 55) dX4_highOf_55 ?_
    refine v_iload_n (pc := 56) dX4_highOf_56 rfl ?_
    refine v_idiv (pc := 57) dX4_highOf_57 (by omega) (by omega) (by omega) ?_
    refine v_iadd (pc := 58) dX4_highOf_58 ?_
    refine v_istore (pc := 59) dX4_highOf_59 (by decide) ?_
    refine v_iinc (pc := 61) (-1) dX4_highOf_61 rfl (by decide) (by decide) ?_
    refine v_iinc (pc := 64) (1) dX4_highOf_64 rfl (by decide) (by decide) ?_
    refine v_goto (pc := 67) 34 dX4_highOf_67 (by decide) ?_
    refine v_lv (ih (b + 1) (m + -1) _ (by omega) (by omega) (by omega) ?_) ⟨rfl, rfl, rfl, rfl, rfl, rfl, trivial⟩
    rw [show s + qHigh top (n + 1) m = s + ((top + m - 1) / m + qHigh top n (m - 1)) from rfl, ← Int.add_assoc] at hQ
    rw [tdiv_pos (by omega)]
    exact hQ
set_option maxHeartbeats 4000000 in
set_option maxRecDepth 100000 in
theorem c_X4_highOf {g : vGl} {d : Nat} {Q : Option Value → List mC → Prop} {σ : vSt} {x : Int} {k : Nat} (hd : 4 ≤ d) (hR : YR σ) (hx : x = k) (hk : (k : Int) < σ 10 6) (hQ : Q (some (vi (qHigh (1000 * σ 5 (σ 11 k).toNat) (σ 13 k).toNat (yMass σ k - 1)))) (hp σ)) : V g mX4_highOf d (0, 0, 0, 0) Q 0 [(0, .ref 10), (1, vi x)] [] (hp σ) := by
  obtain ⟨⟨r0, r1, r2, r3, r4, r5, r6, r7, r8, r9⟩, rE, rS, rT, rF⟩ := id hR
  have s1 := rS k
  have s2 := rE (σ 11 k).toNat
  have s3 := hR.mass1 hk
  have s4 := hR.mass k
  have s5 := rF (σ 11 k).toNat (by have := rT k hk; omega)
  refine v_aload_n (pc := 0) dX4_highOf_0 rfl ?_
  refine v_iload_n (pc := 1) dX4_highOf_1 rfl ?_
  refine v_cVi1 (pc := 2) (z := 0) (d' := d - 1) dX4_highOf_2 kX4_has ml_X4_35 iwX4_has swX4_has rfl rfl (Nat.le_of_ble_eq_true rfl) (Nat.le_of_ble_eq_true rfl) (by omega) ⟨Nat.le_refl _, Nat.le_refl _⟩ ?_
  refine c_X4_has1 hR (by omega) (by omega) ?_
  refine ⟨_, rfl, ?_⟩
  refine v_if_ne (pc := 5) 10 dX4_highOf_5 (by decide) (by omega) (fun h5 => ?_) (fun h5 => by exfalso; omega)
  refine v_sipush (pc := 10) (1000) dX4_highOf_10 (by decide) ?_
  refine v_aload_n (pc := 13) dX4_highOf_13 rfl ?_
  refine v_iload_n (pc := 14) dX4_highOf_14 rfl ?_
  refine v_cVi1 (pc := 15) (z := 0) (d' := d - 1) dX4_highOf_15 kX4_exhaustOf ml_X4_67 iwX4_exhaustOf swX4_exhaustOf rfl rfl (Nat.le_of_ble_eq_true rfl) (Nat.le_of_ble_eq_true rfl) (by omega) ⟨Nat.le_refl _, Nat.le_refl _⟩ ?_
  refine c_X4_exhaustOf (k := k) (by omega) hR (by omega) (by omega) ?_
  refine ⟨_, rfl, ?_⟩
  refine v_imul (pc := 18) dX4_highOf_18 ?_
  refine v_istore_n (pc := 19) dX4_highOf_19 (by decide) ?_
  refine v_aload_n (pc := 20) dX4_highOf_20 rfl ?_
  refine v_iload_n (pc := 21) dX4_highOf_21 rfl ?_
  refine v_cVi1 (pc := 22) (z := 0) (d' := d - 1) dX4_highOf_22 kX4_massFrom ml_X4_70 iwX4_massFrom swX4_massFrom rfl rfl (Nat.le_of_ble_eq_true rfl) (Nat.le_of_ble_eq_true rfl) (by omega) ⟨Nat.le_refl _, Nat.le_refl _⟩ ?_
  refine c_X4_massFrom (k := k) (by omega) hR (by omega) (by omega) ?_
  refine ⟨_, rfl, ?_⟩
  refine v_iconst (pc := 25) (1) dX4_highOf_25 (by decide) ?_
  refine v_isub (pc := 26) dX4_highOf_26 ?_
  refine v_istore_n (pc := 27) dX4_highOf_27 (by decide) ?_
  refine v_iconst (pc := 28) (0) dX4_highOf_28 (by decide) ?_
  refine v_istore (pc := 29) dX4_highOf_29 (by decide) ?_
  refine v_iconst (pc := 31) (0) dX4_highOf_31 (by decide) ?_
  refine v_istore (pc := 32) dX4_highOf_32 (by decide) ?_
  refine v_lv (l_X4_highOf (y := x) (k := k) hR hx (by omega) (by omega) (σ 13 k).toNat 0 (yMass σ k - 1) 0 (by omega) (by omega) (by omega) (by rw [Int.zero_add]; exact hQ)) ⟨rfl, rfl, rfl, rfl, rfl, rfl, trivial⟩
set_option maxHeartbeats 4000000 in
set_option maxRecDepth 100000 in
theorem c_X4_liftOf {g : vGl} {d : Nat} {Q : Option Value → List mC → Prop} {σ : vSt} {x : Int} {k : Nat} (hd : 4 ≤ d) (hR : YR σ) (hx : x = k) (hk : (k : Int) < σ 10 6) (hQ : Q (some (vi (100 * σ 4 (σ 11 k).toNat * σ 12 k / yMass σ k))) (hp σ)) : V g mX4_liftOf d (0, 0, 0, 0) Q 0 [(0, .ref 10), (1, vi x)] [] (hp σ) := by
  obtain ⟨⟨r0, r1, r2, r3, r4, r5, r6, r7, r8, r9⟩, rE, rS, rT, rF⟩ := id hR
  have s1 := rS k
  have s2 := rE (σ 11 k).toNat
  have s3 := hR.mass1 hk
  have s4 := hR.mass k
  have s5 := rF (σ 11 k).toNat (by have := rT k hk; omega)
  have s6 := mul_le (a := 100 * σ 4 (σ 11 k).toNat) (b := σ 12 k) (A := 99900) (B := 9) (by omega) (by omega) (by omega) (by omega)
  refine v_aload_n (pc := 0) dX4_liftOf_0 rfl ?_
  refine v_iload_n (pc := 1) dX4_liftOf_1 rfl ?_
  refine v_cVi1 (pc := 2) (z := 0) (d' := d - 1) dX4_liftOf_2 kX4_has ml_X4_35 iwX4_has swX4_has rfl rfl (Nat.le_of_ble_eq_true rfl) (Nat.le_of_ble_eq_true rfl) (by omega) ⟨Nat.le_refl _, Nat.le_refl _⟩ ?_
  refine c_X4_has1 hR (by omega) (by omega) ?_
  refine ⟨_, rfl, ?_⟩
  refine v_if_ne (pc := 5) 10 dX4_liftOf_5 (by decide) (by omega) (fun h5 => ?_) (fun h5 => by exfalso; omega)
  refine v_aload_n (pc := 10) dX4_liftOf_10 rfl ?_
  refine v_iload_n (pc := 11) dX4_liftOf_11 rfl ?_
  refine v_cVi1 (pc := 12) (z := 0) (d' := d - 1) dX4_liftOf_12 kX4_massFrom ml_X4_70 iwX4_massFrom swX4_massFrom rfl rfl (Nat.le_of_ble_eq_true rfl) (Nat.le_of_ble_eq_true rfl) (by omega) ⟨Nat.le_refl _, Nat.le_refl _⟩ ?_
  refine c_X4_massFrom (k := k) (by omega) hR (by omega) (by omega) ?_
  refine ⟨_, rfl, ?_⟩
  refine v_istore_n (pc := 15) dX4_liftOf_15 (by decide) ?_
  refine v_iload_n (pc := 16) dX4_liftOf_16 rfl ?_
  refine v_iconst (pc := 17) (1) dX4_liftOf_17 (by decide) ?_
  refine v_icmp_ge (pc := 18) 25 dX4_liftOf_18 (by decide) (by omega) (by omega) (fun h18 => ?_) (fun h18 => by exfalso; omega)
  refine v_bipush (pc := 25) (100) dX4_liftOf_25 (by decide) ?_
  refine v_aload_n (pc := 27) dX4_liftOf_27 rfl ?_
  refine v_gR (pc := 28) dX4_liftOf_28 fl_X4_28 rfl ?_
  refine v_gR (pc := 31) dX4_liftOf_31 fl_X4_73 rfl ?_
  refine v_aload_n (pc := 34) dX4_liftOf_34 rfl ?_
  refine v_gR (pc := 35) dX4_liftOf_35 fl_X4_9 rfl ?_
  refine v_iload_n (pc := 38) dX4_liftOf_38 rfl ?_
  refine v_aI (pc := 39) (j := k) dX4_liftOf_39 rfl (by omega) (by omega) (by omega) ?_
  refine v_aI (pc := 40) (j := (σ 11 k).toNat) dX4_liftOf_40 rfl rfl (by omega) (by omega) ?_
  refine v_imul (pc := 41) dX4_liftOf_41 ?_
  refine v_aload_n (pc := 42) dX4_liftOf_42 rfl ?_
  refine v_gR (pc := 43) dX4_liftOf_43 fl_X4_15 rfl ?_
  refine v_iload_n (pc := 46) dX4_liftOf_46 rfl ?_
  refine v_aI (pc := 47) (j := k) dX4_liftOf_47 rfl (by omega) (by omega) (by omega) ?_
  refine v_imul (pc := 48) dX4_liftOf_48 ?_
  refine v_iload_n (pc := 49) dX4_liftOf_49 rfl ?_
  refine v_idiv (pc := 50) dX4_liftOf_50 (by omega) (by omega) (by omega) ?_
  refine v_ireturn (pc := 51) dX4_liftOf_51 rfl rfl ⟨Nat.le_refl _, Nat.le_refl _⟩ ?_
  rw [tdiv_pos (by omega)]; exact hQ
set_option maxHeartbeats 4000000 in
set_option maxRecDepth 100000 in
theorem c_X4_enginesCost {g : vGl} {d : Nat} {Q : Option Value → List mC → Prop} {σ : vSt} {x : Int} {k : Nat} (hd : 1 ≤ d) (hR : YR σ) (hx : x = k) (hk : (k : Int) < σ 10 6) (hQ : Q (some (vi (σ 12 k * σ 7 (σ 11 k).toNat))) (hp σ)) : V g mX4_enginesCost d (0, 0, 0, 0) Q 0 [(0, .ref 10), (1, vi x)] [] (hp σ) := by
  obtain ⟨⟨r0, r1, r2, r3, r4, r5, r6, r7, r8, r9⟩, rE, rS, rT, rF⟩ := id hR
  have s1 := rS k
  have s2 := rE (σ 11 k).toNat
  refine v_aload_n (pc := 0) dX4_enginesCost_0 rfl ?_
  refine v_iload_n (pc := 1) dX4_enginesCost_1 rfl ?_
  refine v_cVi1 (pc := 2) (z := 0) (d' := d - 1) dX4_enginesCost_2 kX4_has ml_X4_35 iwX4_has swX4_has rfl rfl (Nat.le_of_ble_eq_true rfl) (Nat.le_of_ble_eq_true rfl) (by omega) ⟨Nat.le_refl _, Nat.le_refl _⟩ ?_
  refine c_X4_has1 hR (by omega) (by omega) ?_
  refine ⟨_, rfl, ?_⟩
  refine v_if_eq (pc := 5) 32 dX4_enginesCost_5 (by decide) (by omega) (fun h5 => by exfalso; omega) (fun h5 => ?_)
  refine v_aload_n (pc := 8) dX4_enginesCost_8 rfl ?_
  refine v_gR (pc := 9) dX4_enginesCost_9 fl_X4_15 rfl ?_
  refine v_iload_n (pc := 12) dX4_enginesCost_12 rfl ?_
  refine v_aI (pc := 13) (j := k) dX4_enginesCost_13 rfl (by omega) (by omega) (by omega) ?_
  refine v_aload_n (pc := 14) dX4_enginesCost_14 rfl ?_
  refine v_gR (pc := 15) dX4_enginesCost_15 fl_X4_28 rfl ?_
  refine v_gR (pc := 18) dX4_enginesCost_18 fl_X4_76 rfl ?_
  refine v_aload_n (pc := 21) dX4_enginesCost_21 rfl ?_
  refine v_gR (pc := 22) dX4_enginesCost_22 fl_X4_9 rfl ?_
  refine v_iload_n (pc := 25) dX4_enginesCost_25 rfl ?_
  refine v_aI (pc := 26) (j := k) dX4_enginesCost_26 rfl (by omega) (by omega) (by omega) ?_
  refine v_aI (pc := 27) (j := (σ 11 k).toNat) dX4_enginesCost_27 rfl rfl (by omega) (by omega) ?_
  refine v_imul (pc := 28) dX4_enginesCost_28 ?_
  refine v_goto (pc := 29) 33 dX4_enginesCost_29 (by decide) ?_
  refine v_ireturn (pc := 33) dX4_enginesCost_33 rfl rfl ⟨Nat.le_refl _, Nat.le_refl _⟩ ?_
  exact hQ
set_option maxHeartbeats 4000000 in
set_option maxRecDepth 100000 in
theorem l_X4_neededOf {g : vGl} {d : Nat} {Q : Option Value → List mC → Prop} {σ : vSt} {e : Int} (hR : YR σ) (he : vr e) : ∀ (n : Nat) (j : Nat) (x s : Int) (hx : x = j) (hn : (j : Int) + n = σ 10 6) (hQ : Q (some (vi (s + qSum (fun k => if σ 11 k = e then σ 12 k else 0) n j))) (hp σ)), V g mX4_neededOf d (0, 0, 0, 0) Q 4 [(0, .ref 10), (1, vi e), (2, vi s), (3, vi x)] [] (hp σ) := by
  intro n
  induction n with
  | zero =>
    intro j x s hx hn hQ
    obtain ⟨⟨r0, r1, r2, r3, r4, r5, r6, r7, r8, r9⟩, rE, rS, rT, rF⟩ := id hR
    refine v_iload_n (pc := 4) dX4_neededOf_4 rfl ?_
    refine v_aload_n (pc := 5) dX4_neededOf_5 rfl ?_
    refine v_gI (pc := 6) dX4_neededOf_6 fl_X4_24 rfl ?_
    refine v_icmp_ge (pc := 9) 37 dX4_neededOf_9 (by decide) (by omega) (by omega) (fun h9 => ?_) (fun h9 => by exfalso; omega)
    refine v_iload_n (pc := 37) dX4_neededOf_37 rfl ?_
    refine v_ireturn (pc := 38) dX4_neededOf_38 rfl rfl ⟨Nat.le_refl _, Nat.le_refl _⟩ ?_
    simpa [qSum] using hQ
  | succ n ih =>
    intro j x s hx hn hQ
    obtain ⟨⟨r0, r1, r2, r3, r4, r5, r6, r7, r8, r9⟩, rE, rS, rT, rF⟩ := id hR
    have s1 := rS j
    refine v_iload_n (pc := 4) dX4_neededOf_4 rfl ?_
    refine v_aload_n (pc := 5) dX4_neededOf_5 rfl ?_
    refine v_gI (pc := 6) dX4_neededOf_6 fl_X4_24 rfl ?_
    refine v_icmp_ge (pc := 9) 37 dX4_neededOf_9 (by decide) (by omega) (by omega) (fun h9 => by exfalso; omega) (fun h9 => ?_)
    refine v_aload_n (pc := 12) dX4_neededOf_12 rfl ?_
    refine v_gR (pc := 13) dX4_neededOf_13 fl_X4_9 rfl ?_
    refine v_iload_n (pc := 16) dX4_neededOf_16 rfl ?_
    refine v_aI (pc := 17) (j := j) dX4_neededOf_17 rfl (by omega) (by omega) (by omega) ?_
    refine v_iload_n (pc := 18) dX4_neededOf_18 rfl ?_
    refine v_icmp_ne (pc := 19) 31 dX4_neededOf_19 (by decide) (by omega) (by omega) (fun h19 => ?_) (fun h19 => ?_)
    · refine v_iinc (pc := 31) (1) dX4_neededOf_31 rfl (by decide) (by decide) ?_
      refine v_goto (pc := 34) 4 dX4_neededOf_34 (by decide) ?_
      refine v_lv (ih (j + 1) (x + 1) _ (by omega) (by omega) ?_) ⟨rfl, rfl, rfl, rfl, trivial⟩
      rw [show s + qSum (fun k => if σ 11 k = e then σ 12 k else 0) (n + 1) j = s + ((if σ 11 j = e then σ 12 j else 0) + qSum (fun k => if σ 11 k = e then σ 12 k else 0) n (j + 1)) from rfl, ← Int.add_assoc] at hQ
      first | (rw [if_pos (by omega)] at hQ; exact hQ) | (rw [if_neg (by omega), Int.add_zero] at hQ; exact hQ)
    · refine v_iload_n (pc := 22) dX4_neededOf_22 rfl ?_
      refine v_aload_n (pc := 23) dX4_neededOf_23 rfl ?_
      refine v_gR (pc := 24) dX4_neededOf_24 fl_X4_15 rfl ?_
      refine v_iload_n (pc := 27) dX4_neededOf_27 rfl ?_
      refine v_aI (pc := 28) (j := j) dX4_neededOf_28 rfl (by omega) (by omega) (by omega) ?_
      refine v_iadd (pc := 29) dX4_neededOf_29 ?_
      refine v_istore_n (pc := 30) dX4_neededOf_30 (by decide) ?_
      refine v_iinc (pc := 31) (1) dX4_neededOf_31 rfl (by decide) (by decide) ?_
      refine v_goto (pc := 34) 4 dX4_neededOf_34 (by decide) ?_
      refine v_lv (ih (j + 1) (x + 1) _ (by omega) (by omega) ?_) ⟨rfl, rfl, rfl, rfl, trivial⟩
      rw [show s + qSum (fun k => if σ 11 k = e then σ 12 k else 0) (n + 1) j = s + ((if σ 11 j = e then σ 12 j else 0) + qSum (fun k => if σ 11 k = e then σ 12 k else 0) n (j + 1)) from rfl, ← Int.add_assoc] at hQ
      first | (rw [if_pos (by omega)] at hQ; exact hQ) | (rw [if_neg (by omega), Int.add_zero] at hQ; exact hQ)
def yNeed (σ : vSt) (e : Int) : Int := qSum (fun k => if σ 11 k = e then σ 12 k else 0) (σ 10 6).toNat 0
set_option maxHeartbeats 4000000 in
set_option maxRecDepth 100000 in
theorem c_X4_neededOf {g : vGl} {d : Nat} {Q : Option Value → List mC → Prop} {σ : vSt} {e : Int} (hR : YR σ) (he : vr e) (hQ : Q (some (vi (yNeed σ e))) (hp σ)) : V g mX4_neededOf d (0, 0, 0, 0) Q 0 [(0, .ref 10), (1, vi e)] [] (hp σ) := by
  obtain ⟨⟨r0, r1, r2, r3, r4, r5, r6, r7, r8, r9⟩, rE, rS, rT, rF⟩ := id hR
  refine v_iconst (pc := 0) (0) dX4_neededOf_0 (by decide) ?_
  refine v_istore_n (pc := 1) dX4_neededOf_1 (by decide) ?_
  refine v_iconst (pc := 2) (0) dX4_neededOf_2 (by decide) ?_
  refine v_istore_n (pc := 3) dX4_neededOf_3 (by decide) ?_
  refine v_lv (l_X4_neededOf hR he (σ 10 6).toNat 0 0 0 rfl (by omega) (by rw [Int.zero_add]; exact hQ)) ⟨rfl, rfl, rfl, rfl, trivial⟩
