set_option maxHeartbeats 4000000 in
set_option maxRecDepth 100000 in
theorem c_X1_has {g : vGl} {d : Nat} {Q : Option Value → List mC → Prop} {σ : vSt} {k : Int} (hk : vr k) (hs : vr (σ 3 6)) (hQ : Q (some (vi (if 0 ≤ k ∧ k < σ 3 6 then 1 else 0))) (hp σ)) : V g mX1_has d (0, 0, 0, 0) Q 0 [(0, .ref 3), (1, vi k)] [] (hp σ) := by
  refine v_iload_n (pc := 0) dX1_has_0 rfl ?_
  refine v_if_lt (pc := 1) 16 dX1_has_1 (by decide) (by omega) (fun h1 => ?_) (fun h1 => ?_)
  · refine v_iconst (pc := 16) (0) dX1_has_16 (by decide) ?_
    refine v_ireturn (pc := 17) dX1_has_17 rfl (vZ (by omega)) ⟨Nat.le_refl _, Nat.le_refl _⟩ ?_
    first | (rw [if_pos (by omega)] at hQ; exact hQ) | (rw [if_neg (by omega)] at hQ; exact hQ)
  · refine v_iload_n (pc := 4) dX1_has_4 rfl ?_
    refine v_aload_n (pc := 5) dX1_has_5 rfl ?_
    refine v_gI (pc := 6) dX1_has_6 fl_X1_30 rfl ?_
    refine v_icmp_ge (pc := 9) 16 dX1_has_9 (by decide) (by omega) (by omega) (fun h9 => ?_) (fun h9 => ?_)
    · refine v_iconst (pc := 16) (0) dX1_has_16 (by decide) ?_
      refine v_ireturn (pc := 17) dX1_has_17 rfl (vZ (by omega)) ⟨Nat.le_refl _, Nat.le_refl _⟩ ?_
      first | (rw [if_pos (by omega)] at hQ; exact hQ) | (rw [if_neg (by omega)] at hQ; exact hQ)
    · refine v_iconst (pc := 12) (1) dX1_has_12 (by decide) ?_
      refine v_goto (pc := 13) 17 dX1_has_13 (by decide) ?_
      refine v_ireturn (pc := 17) dX1_has_17 rfl (vZ (by omega)) ⟨Nat.le_refl _, Nat.le_refl _⟩ ?_
      first | (rw [if_pos (by omega)] at hQ; exact hQ) | (rw [if_neg (by omega)] at hQ; exact hQ)
theorem c_X1_has1 {g : vGl} {d : Nat} {Q : Option Value → List mC → Prop} {σ : vSt} {x : Int} (hR : YR σ) (h0 : 0 ≤ x) (h1 : x < σ 3 6) (hQ : Q (some (vi 1)) (hp σ)) : V g mX1_has d (0, 0, 0, 0) Q 0 [(0, .ref 3), (1, vi x)] [] (hp σ) := by
  have r := hR.1
  refine c_X1_has (by omega) (by omega) ?_
  rw [if_pos ⟨h0, h1⟩]; exact hQ
set_option maxHeartbeats 4000000 in
set_option maxRecDepth 100000 in
theorem c_X1_nextCost {g : vGl} {d : Nat} {Q : Option Value → List mC → Prop} {σ : vSt} {c lr : Int} (hd : 1 ≤ d) (h1 : 0 ≤ lr) (h2 : lr ≤ 100) (h3 : 0 ≤ c) (h4 : c ≤ 9999) (hQ : Q (some (vi (qNext lr c))) (hp σ)) : V g mX1_nextCost d (0, 0, 0, 0) Q 0 [(0, vi c), (1, vi lr)] [] (hp σ) := by
  have a := qNext_le h1 h2 h3 h4
  have e : (c * lr).tdiv 100 = c * lr / 100 := tdiv_pos a.2.2.1
  refine v_iload_n (pc := 0) dX1_nextCost_0 rfl ?_
  refine v_iload_n (pc := 1) dX1_nextCost_1 rfl ?_
  refine v_imul (pc := 2) dX1_nextCost_2 ?_
  refine v_bipush (pc := 3) (100) dX1_nextCost_3 (by decide) ?_
  refine v_idiv (pc := 5) dX1_nextCost_5 (by omega) (by omega) (by omega) ?_
  refine v_iconst (pc := 6) (1) dX1_nextCost_6 (by decide) ?_
  refine v_max (pc := 7) dX1_nextCost_7 ml_X1_42 st_max it_Math co_max (by omega) (by omega) (Nat.le_of_ble_eq_true rfl) (by omega) ⟨Nat.le_refl _, Nat.le_refl _⟩ ?_
  refine v_ireturn (pc := 10) dX1_nextCost_10 rfl rfl ⟨Nat.le_refl _, Nat.le_refl _⟩ ?_
  rw [e]; exact hQ
set_option maxHeartbeats 4000000 in
set_option maxRecDepth 100000 in
theorem l_X1_costAt {g : vGl} {d : Nat} {Q : Option Value → List mC → Prop} {σ : vSt} {i lr : Int} (hd : 2 ≤ d) (hi : vr i) (h1 : 0 ≤ lr) (h2 : lr ≤ 100) : ∀ (n : Nat) (b c : Int) (hb : b + n = i) (hb0 : -1 ≤ b) (h3 : 1 ≤ c) (h4 : c ≤ 9999) (hQ : Q (some (vi (qCost lr c n))) (hp σ)), V g mX1_costAt d (0, 0, 0, 0) Q 21 [(0, .ref 3), (2, vi i), (3, vi lr), (4, vi c), (5, vi b)] [] (hp σ) := by
  intro n
  induction n with
  | zero =>
    intro b c hb hb0 h3 h4 hQ
    refine v_iload (pc := 21) dX1_costAt_21 rfl ?_
    refine v_iload_n (pc := 23) dX1_costAt_23 rfl ?_
    refine v_icmp_ge (pc := 24) 47 dX1_costAt_24 (by decide) (by omega) (by omega) (fun h24 => ?_) (fun h24 => by exfalso; omega)
    refine v_iload (pc := 47) dX1_costAt_47 rfl ?_
    refine v_ireturn (pc := 49) dX1_costAt_49 rfl rfl ⟨Nat.le_refl _, Nat.le_refl _⟩ ?_
    first | exact hQ | (obtain rfl : c = 1 := (by omega); rw [qCost_one h2] at hQ; exact hQ)
  | succ n ih =>
    intro b c hb hb0 h3 h4 hQ
    refine v_iload (pc := 21) dX1_costAt_21 rfl ?_
    refine v_iload_n (pc := 23) dX1_costAt_23 rfl ?_
    refine v_icmp_ge (pc := 24) 47 dX1_costAt_24 (by decide) (by omega) (by omega) (fun h24 => by exfalso; omega) (fun h24 => ?_)
    refine v_iload (pc := 27) dX1_costAt_27 rfl ?_
    refine v_iconst (pc := 29) (1) dX1_costAt_29 (by decide) ?_
    refine v_icmp_le (pc := 30) 47 dX1_costAt_30 (by decide) (by omega) (by omega) (fun h30 => ?_) (fun h30 => ?_)
    · refine v_iload (pc := 47) dX1_costAt_47 rfl ?_
      refine v_ireturn (pc := 49) dX1_costAt_49 rfl rfl ⟨Nat.le_refl _, Nat.le_refl _⟩ ?_
      first | exact hQ | (obtain rfl : c = 1 := (by omega); rw [qCost_one h2] at hQ; exact hQ)
    · refine v_iload (pc := 33) dX1_costAt_33 rfl ?_
      refine v_iload_n (pc := 35) dX1_costAt_35 rfl ?_
      refine v_cSi2 (pc := 36) (d' := d - 1) dX1_costAt_36 kX1_nextCost ml_X1_38 stX1_nextCost (Nat.le_of_ble_eq_true rfl) (Nat.le_of_ble_eq_true rfl) (by omega) ⟨Nat.le_refl _, Nat.le_refl _⟩ ?_
      refine c_X1_nextCost (by omega) h1 h2 (by omega) (by omega) ?_
      refine ⟨_, rfl, ?_⟩
      refine v_istore (pc := 39) dX1_costAt_39 (by decide) ?_
      refine v_iinc (pc := 41) (1) dX1_costAt_41 rfl (by decide) (by decide) ?_
      refine v_goto (pc := 44) 21 dX1_costAt_44 (by decide) ?_
      have a := qNext_le h1 h2 (c := c) (by omega) h4
      exact v_lv (ih (b + 1) _ (by omega) (by omega) a.1 a.2.1 hQ) ⟨rfl, rfl, rfl, rfl, rfl, trivial⟩
set_option maxHeartbeats 4000000 in
set_option maxRecDepth 100000 in
theorem c_X1_costAt {g : vGl} {d : Nat} {Q : Option Value → List mC → Prop} {σ : vSt} {x : Int} {k : Nat} (hd : 3 ≤ d) (hR : YR σ) (hx : x = k) (hk : (k : Int) < σ 3 6) {i lr : Int} (hi : 0 ≤ i ∧ i ≤ 2147483647) (h1 : 0 ≤ lr) (h2 : lr ≤ 100) (hQ : Q (some (vi (qCost lr (σ 7 k) i.toNat))) (hp σ)) : V g mX1_costAt d (0, 0, 0, 0) Q 0 [(0, .ref 3), (1, vi x), (2, vi i), (3, vi lr)] [] (hp σ) := by
  obtain ⟨⟨r0, r1, r2, r3, r4, r5, r6, r7, r8, r9⟩, rE, rS, rT, rF⟩ := id hR
  have s1 := rE k
  have s2 := rF k hk
  refine v_aload_n (pc := 0) dX1_costAt_0 rfl ?_
  refine v_iload_n (pc := 1) dX1_costAt_1 rfl ?_
  refine v_cVi1 (pc := 2) (z := 0) (d' := d - 1) dX1_costAt_2 kX1_has ml_X1_34 iwX1_has swX1_has rfl rfl (Nat.le_of_ble_eq_true rfl) (Nat.le_of_ble_eq_true rfl) (by omega) ⟨Nat.le_refl _, Nat.le_refl _⟩ ?_
  refine c_X1_has1 hR (by omega) (by omega) ?_
  refine ⟨_, rfl, ?_⟩
  refine v_if_ne (pc := 5) 10 dX1_costAt_5 (by decide) (by omega) (fun h5 => ?_) (fun h5 => by exfalso; omega)
  refine v_aload_n (pc := 10) dX1_costAt_10 rfl ?_
  refine v_gR (pc := 11) dX1_costAt_11 fl_X1_21 rfl ?_
  refine v_iload_n (pc := 14) dX1_costAt_14 rfl ?_
  refine v_aI (pc := 15) (j := k) dX1_costAt_15 rfl (by omega) (by omega) (by omega) ?_
  refine v_istore (pc := 16) dX1_costAt_16 (by decide) ?_
  refine v_iconst (pc := 18) (0) dX1_costAt_18 (by decide) ?_
  refine v_istore (pc := 19) dX1_costAt_19 (by decide) ?_
  exact v_lv (l_X1_costAt (by omega) (by omega) h1 h2 i.toNat 0 (σ 7 k) (by omega) (by omega) (by omega) (by omega) hQ) ⟨rfl, rfl, rfl, rfl, rfl, trivial⟩
set_option maxHeartbeats 4000000 in
set_option maxRecDepth 100000 in
theorem c_X1_missing {g : vGl} {d : Nat} {Q : Option Value → List mC → Prop} {σ : vSt} {x : Int} {k : Nat} (hd : 1 ≤ d) (hR : YR σ) (hx : x = k) (hk : (k : Int) < σ 3 6) {nd : Int} (hn : 0 ≤ nd ∧ nd ≤ 1000000) (hQ : Q (some (vi (max (nd - σ 8 k) 0))) (hp σ)) : V g mX1_missing d (0, 0, 0, 0) Q 0 [(0, .ref 3), (1, vi x), (2, vi nd)] [] (hp σ) := by
  obtain ⟨⟨r0, r1, r2, r3, r4, r5, r6, r7, r8, r9⟩, rE, rS, rT, rF⟩ := id hR
  have s1 := rE k
  have s2 := rF k hk
  refine v_aload_n (pc := 0) dX1_missing_0 rfl ?_
  refine v_iload_n (pc := 1) dX1_missing_1 rfl ?_
  refine v_cVi1 (pc := 2) (z := 0) (d' := d - 1) dX1_missing_2 kX1_has ml_X1_34 iwX1_has swX1_has rfl rfl (Nat.le_of_ble_eq_true rfl) (Nat.le_of_ble_eq_true rfl) (by omega) ⟨Nat.le_refl _, Nat.le_refl _⟩ ?_
  refine c_X1_has1 hR (by omega) (by omega) ?_
  refine ⟨_, rfl, ?_⟩
  refine v_if_eq (pc := 5) 23 dX1_missing_5 (by decide) (by omega) (fun h5 => by exfalso; omega) (fun h5 => ?_)
  refine v_iload_n (pc := 8) dX1_missing_8 rfl ?_
  refine v_aload_n (pc := 9) dX1_missing_9 rfl ?_
  refine v_gR (pc := 10) dX1_missing_10 fl_X1_24 rfl ?_
  refine v_iload_n (pc := 13) dX1_missing_13 rfl ?_
  refine v_aI (pc := 14) (j := k) dX1_missing_14 rfl (by omega) (by omega) (by omega) ?_
  refine v_isub (pc := 15) dX1_missing_15 ?_
  refine v_iconst (pc := 16) (0) dX1_missing_16 (by decide) ?_
  refine v_max (pc := 17) dX1_missing_17 ml_X1_42 st_max it_Math co_max (by omega) (by omega) (Nat.le_of_ble_eq_true rfl) (by omega) ⟨Nat.le_refl _, Nat.le_refl _⟩ ?_
  refine v_goto (pc := 20) 24 dX1_missing_20 (by decide) ?_
  refine v_ireturn (pc := 24) dX1_missing_24 rfl rfl ⟨Nat.le_refl _, Nat.le_refl _⟩ ?_
  exact hQ
set_option maxHeartbeats 4000000 in
set_option maxRecDepth 100000 in
theorem l_X1_costOfMissing {g : vGl} {d : Nat} {Q : Option Value → List mC → Prop} {σ : vSt} {m lr : Int} (hd : 2 ≤ d) (hm : vr m) (h1 : 0 ≤ lr) (h2 : lr ≤ 100) : ∀ (n : Nat) (b c s : Int) (hb : b + n = m) (hb0 : -1 ≤ b) (h3 : 1 ≤ c) (h4 : c ≤ 9999) (hQ : Q (some (vi (s + qCosts lr c n))) (hp σ)), V g mX1_costOfMissing d (0, 0, 0, 0) Q 35 [(3, vi lr), (4, vi m), (5, vi c), (6, vi s), (7, vi b)] [] (hp σ) := by
  intro n
  induction n with
  | zero =>
    intro b c s hb hb0 h3 h4 hQ
    refine v_iload (pc := 35) dX1_costOfMissing_35 rfl ?_
    refine v_iload (pc := 37) dX1_costOfMissing_37 rfl ?_
    refine v_icmp_ge (pc := 39) 63 dX1_costOfMissing_39 (by decide) (by omega) (by omega) (fun h39 => ?_) (fun h39 => by exfalso; omega)
    refine v_iload (pc := 63) dX1_costOfMissing_63 rfl ?_
    refine v_ireturn (pc := 65) dX1_costOfMissing_65 rfl rfl ⟨Nat.le_refl _, Nat.le_refl _⟩ ?_
    simpa [qCosts] using hQ
  | succ n ih =>
    intro b c s hb hb0 h3 h4 hQ
    refine v_iload (pc := 35) dX1_costOfMissing_35 rfl ?_
    refine v_iload (pc := 37) dX1_costOfMissing_37 rfl ?_
    refine v_icmp_ge (pc := 39) 63 dX1_costOfMissing_39 (by decide) (by omega) (by omega) (fun h39 => by exfalso; omega) (fun h39 => ?_)
    refine v_iload (pc := 42) dX1_costOfMissing_42 rfl ?_
    refine v_iload (pc := 44) dX1_costOfMissing_44 rfl ?_
    refine v_iadd (pc := 46) dX1_costOfMissing_46 ?_
    refine v_istore (pc := 47) dX1_costOfMissing_47 (by decide) ?_
    refine v_iload (pc := 49) dX1_costOfMissing_49 rfl ?_
    refine v_iload_n (pc := 51) dX1_costOfMissing_51 rfl ?_
    refine v_cSi2 (pc := 52) (d' := d - 1) dX1_costOfMissing_52 kX1_nextCost ml_X1_38 stX1_nextCost (Nat.le_of_ble_eq_true rfl) (Nat.le_of_ble_eq_true rfl) (by omega) ⟨Nat.le_refl _, Nat.le_refl _⟩ ?_
    refine c_X1_nextCost (by omega) h1 h2 (by omega) (by omega) ?_
    refine ⟨_, rfl, ?_⟩
    refine v_istore (pc := 55) dX1_costOfMissing_55 (by decide) ?_
    refine v_iinc (pc := 57) (1) dX1_costOfMissing_57 rfl (by decide) (by decide) ?_
    refine v_goto (pc := 60) 35 dX1_costOfMissing_60 (by decide) ?_
    have a := qNext_le h1 h2 (c := c) (by omega) h4
    refine v_lv (ih (b + 1) _ _ (by omega) (by omega) a.1 a.2.1 ?_) ⟨rfl, rfl, rfl, rfl, rfl, trivial⟩
    rw [show s + qCosts lr c (n + 1) = s + (c + qCosts lr (qNext lr c) n) from rfl, ← Int.add_assoc] at hQ
    exact hQ
set_option maxHeartbeats 4000000 in
set_option maxRecDepth 100000 in
theorem c_X1_costOfMissing {g : vGl} {d : Nat} {Q : Option Value → List mC → Prop} {σ : vSt} {x : Int} {k : Nat} (hd : 4 ≤ d) (hR : YR σ) (hx : x = k) (hk : (k : Int) < σ 3 6) {nd lr : Int} (hn : 0 ≤ nd ∧ nd ≤ 1000000) (h1 : 0 ≤ lr) (h2 : lr ≤ 100) (hQ : Q (some (vi (qCosts lr (qCost lr (σ 7 k) (σ 9 k).toNat) (nd - σ 8 k).toNat))) (hp σ)) : V g mX1_costOfMissing d (0, 0, 0, 0) Q 0 [(0, .ref 3), (1, vi x), (2, vi nd), (3, vi lr)] [] (hp σ) := by
  obtain ⟨⟨r0, r1, r2, r3, r4, r5, r6, r7, r8, r9⟩, rE, rS, rT, rF⟩ := id hR
  have s1 := rE k
  have s2 := rF k hk
  refine v_aload_n (pc := 0) dX1_costOfMissing_0 rfl ?_
  refine v_iload_n (pc := 1) dX1_costOfMissing_1 rfl ?_
  refine v_iload_n (pc := 2) dX1_costOfMissing_2 rfl ?_
  refine v_cVi2 (pc := 3) (z := 0) (d' := d - 1) dX1_costOfMissing_3 kX1_missing ml_X1_47 iwX1_missing swX1_missing rfl rfl (Nat.le_of_ble_eq_true rfl) (Nat.le_of_ble_eq_true rfl) (by omega) ⟨Nat.le_refl _, Nat.le_refl _⟩ ?_
  refine c_X1_missing (k := k) (by omega) hR (by omega) (by omega) (by omega) ?_
  refine ⟨_, rfl, ?_⟩
  refine v_istore (pc := 6) dX1_costOfMissing_6 (by decide) ?_
  refine v_iload (pc := 8) dX1_costOfMissing_8 rfl ?_
  refine v_if_ne (pc := 10) 15 dX1_costOfMissing_10 (by decide) (by omega) (fun h10 => ?_) (fun h10 => ?_)
  · refine v_aload_n (pc := 15) dX1_costOfMissing_15 rfl ?_
    refine v_iload_n (pc := 16) dX1_costOfMissing_16 rfl ?_
    refine v_aload_n (pc := 17) dX1_costOfMissing_17 rfl ?_
    refine v_gR (pc := 18) dX1_costOfMissing_18 fl_X1_27 rfl ?_
    refine v_iload_n (pc := 21) dX1_costOfMissing_21 rfl ?_
    refine v_aI (pc := 22) (j := k) dX1_costOfMissing_22 rfl (by omega) (by omega) (by omega) ?_
    refine v_iload_n (pc := 23) dX1_costOfMissing_23 rfl ?_
    refine v_cVi3 (pc := 24) (z := 0) (d' := d - 1) dX1_costOfMissing_24 kX1_costAt ml_X1_50 iwX1_costAt swX1_costAt rfl rfl (Nat.le_of_ble_eq_true rfl) (Nat.le_of_ble_eq_true rfl) (by omega) ⟨Nat.le_refl _, Nat.le_refl _⟩ ?_
    refine c_X1_costAt (k := k) (by omega) hR (by omega) (by omega) (by omega) h1 h2 ?_
    refine ⟨_, rfl, ?_⟩
    refine v_istore (pc := 27) dX1_costOfMissing_27 (by decide) ?_
    refine v_iconst (pc := 29) (0) dX1_costOfMissing_29 (by decide) ?_
    refine v_istore (pc := 30) dX1_costOfMissing_30 (by decide) ?_
    refine v_iconst (pc := 32) (0) dX1_costOfMissing_32 (by decide) ?_
    refine v_istore (pc := 33) dX1_costOfMissing_33 (by decide) ?_
    have a := qCost_le h1 h2 (σ 9 k).toNat (σ 7 k) (by omega) (by omega)
    refine v_lv (l_X1_costOfMissing (by omega) (by omega) h1 h2 (nd - σ 8 k).toNat 0 _ 0 (by omega) (by omega) a.1 a.2 ?_) ⟨rfl, rfl, rfl, rfl, rfl, trivial⟩
    rw [Int.zero_add]; exact hQ
  · refine v_iconst (pc := 13) (0) dX1_costOfMissing_13 (by decide) ?_
    refine v_ireturn (pc := 14) dX1_costOfMissing_14 rfl rfl ⟨Nat.le_refl _, Nat.le_refl _⟩ ?_
    rw [show (nd - σ 8 k).toNat = 0 by omega] at hQ; exact hQ
set_option maxHeartbeats 4000000 in
set_option maxRecDepth 100000 in
theorem c_X1_take {g : vGl} {d : Nat} {Q : Option Value → List mC → Prop} {σ : vSt} {x : Int} {k : Nat} (hd : 2 ≤ d) (hR : YR σ) (hx : x = k) (hk : (k : Int) < σ 3 6) {nd : Int} (hn : 0 ≤ nd ∧ nd ≤ 1000000) (hQ : Q none (hp (vU (vU σ 8 k (σ 8 k - (nd - max (nd - σ 8 k) 0))) 9 k (σ 9 k + max (nd - σ 8 k) 0)))) : V g mX1_take d (0, 0, 0, 0) Q 0 [(0, .ref 3), (1, vi x), (2, vi nd)] [] (hp σ) := by
  obtain ⟨⟨r0, r1, r2, r3, r4, r5, r6, r7, r8, r9⟩, rE, rS, rT, rF⟩ := id hR
  have s1 := rE k
  have s2 := rF k hk
  refine v_aload_n (pc := 0) dX1_take_0 rfl ?_
  refine v_iload_n (pc := 1) dX1_take_1 rfl ?_
  refine v_cVi1 (pc := 2) (z := 0) (d' := d - 1) dX1_take_2 kX1_has ml_X1_34 iwX1_has swX1_has rfl rfl (Nat.le_of_ble_eq_true rfl) (Nat.le_of_ble_eq_true rfl) (by omega) ⟨Nat.le_refl _, Nat.le_refl _⟩ ?_
  refine c_X1_has1 hR (by omega) (by omega) ?_
  refine ⟨_, rfl, ?_⟩
  refine v_if_ne (pc := 5) 9 dX1_take_5 (by decide) (by omega) (fun h5 => ?_) (fun h5 => by exfalso; omega)
  refine v_aload_n (pc := 9) dX1_take_9 rfl ?_
  refine v_iload_n (pc := 10) dX1_take_10 rfl ?_
  refine v_iload_n (pc := 11) dX1_take_11 rfl ?_
  refine v_cVi2 (pc := 12) (z := 0) (d' := d - 1) dX1_take_12 kX1_missing ml_X1_47 iwX1_missing swX1_missing rfl rfl (Nat.le_of_ble_eq_true rfl) (Nat.le_of_ble_eq_true rfl) (by omega) ⟨Nat.le_refl _, Nat.le_refl _⟩ ?_
  refine c_X1_missing (k := k) (by omega) hR (by omega) (by omega) (by omega) ?_
  refine ⟨_, rfl, ?_⟩
  refine v_istore_n (pc := 15) dX1_take_15 (by decide) ?_
  refine v_aload_n (pc := 16) dX1_take_16 rfl ?_
  refine v_gR (pc := 17) dX1_take_17 fl_X1_24 rfl ?_
  refine v_iload_n (pc := 20) dX1_take_20 rfl ?_
  refine v_dup2 (pc := 21) dX1_take_21 rfl rfl ?_
  refine v_aI (pc := 22) (j := k) dX1_take_22 rfl (by omega) (by omega) (by omega) ?_
  refine v_iload_n (pc := 23) dX1_take_23 rfl ?_
  refine v_iload_n (pc := 24) dX1_take_24 rfl ?_
  refine v_isub (pc := 25) dX1_take_25 ?_
  refine v_isub (pc := 26) dX1_take_26 ?_
  refine v_sI (pc := 27) (j := k) dX1_take_27 rfl (by omega) (by omega) (by omega) ?_
  refine v_aload_n (pc := 28) dX1_take_28 rfl ?_
  refine v_gR (pc := 29) dX1_take_29 fl_X1_27 rfl ?_
  refine v_iload_n (pc := 32) dX1_take_32 rfl ?_
  refine v_dup2 (pc := 33) dX1_take_33 rfl rfl ?_
  refine v_aI (pc := 34) (j := k) dX1_take_34 rfl (by omega) (by omega) (by omega) ?_
  refine v_iload_n (pc := 35) dX1_take_35 rfl ?_
  refine v_iadd (pc := 36) dX1_take_36 ?_
  refine v_sI (pc := 37) (j := k) dX1_take_37 rfl (by omega) (by omega) (by omega) ?_
  refine v_return (pc := 38) dX1_take_38 rfl ⟨Nat.le_refl _, Nat.le_refl _⟩ ?_
  exact hQ
set_option maxHeartbeats 4000000 in
set_option maxRecDepth 100000 in
theorem c_X1_add {g : vGl} {d : Nat} {Q : Option Value → List mC → Prop} {σ : vSt} {t e m q : Int} (hs : 0 ≤ σ 3 6 ∧ σ 3 6 ≤ 6) (hF : σ 3 6 = 6 → Q (some (vi (-4))) (hp σ)) (hQ : σ 3 6 < 6 → ∀ z : Nat, σ 3 6 = z → Q (some (vi z)) (hp (vU (vU (vU (vU (vU σ 4 z t) 5 z e) 6 z m) 7 z q) 3 6 (z + 1)))) : V g mX1_add d (0, 0, 0, 0) Q 0 [(0, .ref 3), (1, vi t), (2, vi e), (3, vi m), (4, vi q)] [] (hp σ) := by
  refine v_aload_n (pc := 0) dX1_add_0 rfl ?_
  refine v_gI (pc := 1) dX1_add_1 fl_X1_30 rfl ?_
  refine v_bipush (pc := 4) (6) dX1_add_4 (by decide) ?_
  refine v_icmp_lt (pc := 6) 12 dX1_add_6 (by decide) (by omega) (by omega) (fun h6 => ?_) (fun h6 => ?_)
  · obtain ⟨z, ez⟩ : ∃ z : Nat, σ 3 6 = z := ⟨(σ 3 6).toNat, by omega⟩
    have hz := hQ (by omega) z ez
    refine v_aload_n (pc := 12) dX1_add_12 rfl ?_
    refine v_gR (pc := 13) dX1_add_13 fl_X1_9 rfl ?_
    refine v_aload_n (pc := 16) dX1_add_16 rfl ?_
    refine v_gI (pc := 17) dX1_add_17 fl_X1_30 rfl ?_
    refine v_iload_n (pc := 20) dX1_add_20 rfl ?_
    refine v_sI (pc := 21) (j := z) dX1_add_21 rfl (by omega) (by omega) (by omega) ?_
    refine v_aload_n (pc := 22) dX1_add_22 rfl ?_
    refine v_gR (pc := 23) dX1_add_23 fl_X1_15 rfl ?_
    refine v_aload_n (pc := 26) dX1_add_26 rfl ?_
    refine v_gI (pc := 27) dX1_add_27 fl_X1_30 rfl ?_
    refine v_iload_n (pc := 30) dX1_add_30 rfl ?_
    refine v_sI (pc := 31) (j := z) dX1_add_31 rfl (by show (σ 3 6).toNat = z; omega) (by show 0 ≤ σ 3 6; omega) (by show σ 3 6 < 6; omega) ?_
    refine v_aload_n (pc := 32) dX1_add_32 rfl ?_
    refine v_gR (pc := 33) dX1_add_33 fl_X1_18 rfl ?_
    refine v_aload_n (pc := 36) dX1_add_36 rfl ?_
    refine v_gI (pc := 37) dX1_add_37 fl_X1_30 rfl ?_
    refine v_iload_n (pc := 40) dX1_add_40 rfl ?_
    refine v_sI (pc := 41) (j := z) dX1_add_41 rfl (by show (σ 3 6).toNat = z; omega) (by show 0 ≤ σ 3 6; omega) (by show σ 3 6 < 6; omega) ?_
    refine v_aload_n (pc := 42) dX1_add_42 rfl ?_
    refine v_gR (pc := 43) dX1_add_43 fl_X1_21 rfl ?_
    refine v_aload_n (pc := 46) dX1_add_46 rfl ?_
    refine v_gI (pc := 47) dX1_add_47 fl_X1_30 rfl ?_
    refine v_iload (pc := 50) dX1_add_50 rfl ?_
    refine v_sI (pc := 52) (j := z) dX1_add_52 rfl (by show (σ 3 6).toNat = z; omega) (by show 0 ≤ σ 3 6; omega) (by show σ 3 6 < 6; omega) ?_
    refine v_aload_n (pc := 53) dX1_add_53 rfl ?_
    refine v_dup (pc := 54) dX1_add_54 rfl ?_
    refine v_gI (pc := 55) dX1_add_55 fl_X1_30 rfl ?_
    refine v_iconst (pc := 58) (1) dX1_add_58 (by decide) ?_
    refine v_iadd (pc := 59) dX1_add_59 ?_
    refine v_pI (pc := 60) dX1_add_60 fl_X1_30 rfl ?_
    refine v_aload_n (pc := 63) dX1_add_63 rfl ?_
    refine v_gI (pc := 64) dX1_add_64 fl_X1_30 rfl ?_
    refine v_iconst (pc := 67) (1) dX1_add_67 (by decide) ?_
    refine v_isub (pc := 68) dX1_add_68 ?_
    refine v_ireturn (pc := 69) dX1_add_69 rfl rfl ⟨Nat.le_refl _, Nat.le_refl _⟩ ?_
    have e1 : vU (vU (vU (vU σ 4 z t) 5 z e) 6 z m) 7 z q 3 6 = z := ez
    rw [vU_same, e1, Int.add_sub_cancel]
    exact hz
  · refine v_bipush (pc := 9) (-4) dX1_add_9 (by decide) ?_
    refine v_ireturn (pc := 11) dX1_add_11 rfl rfl ⟨Nat.le_refl _, Nat.le_refl _⟩ ?_
    exact hF (by omega)
