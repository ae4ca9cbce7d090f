def yFresh (σ : vSt) (e : Nat) : Int := qCosts (σ 2 2) (qCost (σ 2 2) (σ 7 e) (σ 9 e).toNat) (yNeed σ e - σ 8 e).toNat
def yFrame (σ : vSt) (k : Nat) : Int := σ 14 k + (if 0 < σ 13 k then σ 2 1 else 0)
def yPrice (σ : vSt) : Int := qSum (yFresh σ) (σ 3 6).toNat 0 + qSum (yFrame σ) (σ 10 6).toNat 0
theorem YR.need {σ : vSt} (h : YR σ) (e : Int) : 0 ≤ yNeed σ e ∧ yNeed σ e ≤ 36 := by
  have a := qSum_bound (f := fun k => if σ 11 k = e then σ 12 k else 0) (B := 9) (fun j => by
    have b := h.2.2.1 j
    show 0 ≤ (if σ 11 j = e then σ 12 j else 0) ∧ (if σ 11 j = e then σ 12 j else 0) ≤ 9
    omega) (σ 10 6).toNat 0
  have b := h.1
  unfold yNeed
  omega
set_option maxHeartbeats 4000000 in
set_option maxRecDepth 100000 in
theorem l_X4_priceNow2 {g : vGl} {d : Nat} {Q : Option Value → List mC → Prop} {σ : vSt} (hR : YR σ) : ∀ (n : Nat) (j : Nat) (x s : Int) (hx : x = j) (hn : (j : Int) + n = σ 10 6) (hQ : Q (some (vi (s + qSum (yFrame σ) n j))) (hp σ)), V g mX4_priceNow d (0, 0, 0, 0) Q 45 [(0, .ref 10), (1, vi s), (2, vi x)] [] (hp σ) := by
  intro n
  induction n with
  | zero =>
    intro j x s hx hn hQ
    obtain ⟨⟨r0, r1, r2, r3, r4, r5, r6, r7, r8, r9⟩, rE, rS, rT, rF⟩ := id hR
    refine v_iload_n (pc := 45) dX4_priceNow_45 rfl ?_
    refine v_aload_n (pc := 46) dX4_priceNow_46 rfl ?_
    refine v_gI (pc := 47) dX4_priceNow_47 fl_X4_24 rfl ?_
    refine v_icmp_ge (pc := 50) 90 dX4_priceNow_50 (by decide) (by omega) (by omega) (fun h50 => ?_) (fun h50 => by exfalso; omega)
    refine v_iload_n (pc := 90) dX4_priceNow_90 rfl ?_
    refine v_ireturn (pc := 91) dX4_priceNow_91 rfl rfl ⟨Nat.le_refl _, Nat.le_refl _⟩ ?_
    simpa [qSum] using hQ
  | succ n ih =>
    intro j x s hx hn hQ
    obtain ⟨⟨r0, r1, r2, r3, r4, r5, r6, r7, r8, r9⟩, rE, rS, rT, rF⟩ := id hR
    have s1 := rS j
    refine v_iload_n (pc := 45) dX4_priceNow_45 rfl ?_
    refine v_aload_n (pc := 46) dX4_priceNow_46 rfl ?_
    refine v_gI (pc := 47) dX4_priceNow_47 fl_X4_24 rfl ?_
    refine v_icmp_ge (pc := 50) 90 dX4_priceNow_50 (by decide) (by omega) (by omega) (fun h50 => by exfalso; omega) (fun h50 => ?_)
    refine v_iload_n (pc := 53) dX4_priceNow_53 rfl ?_
    refine v_aload_n (pc := 54) dX4_priceNow_54 rfl ?_
    refine v_gR (pc := 55) dX4_priceNow_55 fl_X4_21 rfl ?_
    refine v_iload_n (pc := 58) dX4_priceNow_58 rfl ?_
    refine v_aI (pc := 59) (j := j) dX4_priceNow_59 rfl (by omega) (by omega) (by omega) ?_
    refine v_iadd (pc := 60) dX4_priceNow_60 ?_
    refine v_istore_n (pc := 61) dX4_priceNow_61 (by decide) ?_
    refine v_iload_n (pc := 62) dX4_priceNow_62 rfl ?_
    refine v_aload_n (pc := 63) dX4_priceNow_63 rfl ?_
    refine v_gR (pc := 64) dX4_priceNow_64 fl_X4_18 rfl ?_
    refine v_iload_n (pc := 67) dX4_priceNow_67 rfl ?_
    refine v_aI (pc := 68) (j := j) dX4_priceNow_68 rfl (by omega) (by omega) (by omega) ?_
    refine v_if_le (pc := 69) 81 dX4_priceNow_69 (by decide) (by omega) (fun h69 => ?_) (fun h69 => ?_)
    · refine v_iconst (pc := 81) (0) dX4_priceNow_81 (by decide) ?_
      refine v_iadd (pc := 82) dX4_priceNow_82 ?_
      refine v_istore_n (pc := 83) dX4_priceNow_83 (by decide) ?_
      refine v_iinc (pc := 84) (1) dX4_priceNow_84 rfl (by decide) (by decide) ?_
      refine v_goto (pc := 87) 45 dX4_priceNow_87 (by decide) ?_
      refine v_lv (ih (j + 1) (x + 1) _ (by omega) (by omega) ?_) ⟨rfl, rfl, rfl, trivial⟩
      refine q_eq hQ ?_
      show _ = s + ((σ 14 j + (if 0 < σ 13 j then σ 2 1 else 0)) + qSum (yFrame σ) n (j + 1))
      omega
    · refine v_aload_n (pc := 72) dX4_priceNow_72 rfl ?_
      refine v_gR (pc := 73) dX4_priceNow_73 fl_X4_32 rfl ?_
      refine v_iconst (pc := 76) (1) dX4_priceNow_76 (by decide) ?_
      refine v_aI (pc := 77) (j := 1) dX4_priceNow_77 rfl rfl (by omega) (by omega) ?_
      refine v_goto (pc := 78) 82 dX4_priceNow_78 (by decide) ?_
      refine v_iadd (pc := 82) dX4_priceNow_82 ?_
      refine v_istore_n (pc := 83) dX4_priceNow_83 (by decide) ?_
      refine v_iinc (pc := 84) (1) dX4_priceNow_84 rfl (by decide) (by decide) ?_
      refine v_goto (pc := 87) 45 dX4_priceNow_87 (by decide) ?_
      refine v_lv (ih (j + 1) (x + 1) _ (by omega) (by omega) ?_) ⟨rfl, rfl, rfl, trivial⟩
      refine q_eq hQ ?_
      show _ = s + ((σ 14 j + (if 0 < σ 13 j then σ 2 1 else 0)) + qSum (yFrame σ) n (j + 1))
      omega
set_option maxHeartbeats 4000000 in
set_option maxRecDepth 100000 in
theorem l_X4_priceNow1 {g : vGl} {d : Nat} {Q : Option Value → List mC → Prop} {σ : vSt} (hd : 5 ≤ d) (hR : YR σ) : ∀ (n : Nat) (j : Nat) (x s : Int) (hx : x = j) (hn : (j : Int) + n = σ 3 6) (hQ : Q (some (vi (s + qSum (yFresh σ) n j + qSum (yFrame σ) (σ 10 6).toNat 0))) (hp σ)), V g mX4_priceNow d (0, 0, 0, 0) Q 4 [(0, .ref 10), (1, vi s), (2, vi x)] [] (hp σ) := by
  intro n
  induction n with
  | zero =>
    intro j x s hx hn hQ
    obtain ⟨⟨r0, r1, r2, r3, r4, r5, r6, r7, r8, r9⟩, rE, rS, rT, rF⟩ := id hR
    refine v_iload_n (pc := 4) dX4_priceNow_4 rfl ?_
    refine v_aload_n (pc := 5) dX4_priceNow_5 rfl ?_
    refine v_gR (pc := 6) dX4_priceNow_6 fl_X4_28 rfl ?_
    refine v_gI (pc := 9) dX4_priceNow_9 fl_X4_79 rfl ?_
    refine v_icmp_ge (pc := 12) 43 dX4_priceNow_12 (by decide) (by omega) (by omega) (fun h12 => ?_) (fun h12 => by exfalso; omega)
    refine v_iconst (pc := 43) (0) dX4_priceNow_43 (by decide) ?_
    refine v_istore_n (pc := 44) dX4_priceNow_44 (by decide) ?_
    refine v_lv (l_X4_priceNow2 hR (σ 10 6).toNat 0 0 s rfl (by omega) ?_) ⟨rfl, rfl, rfl, trivial⟩
    simpa [qSum] using hQ
  | succ n ih =>
    intro j x s hx hn hQ
    obtain ⟨⟨r0, r1, r2, r3, r4, r5, r6, r7, r8, r9⟩, rE, rS, rT, rF⟩ := id hR
    have s1 := hR.need x
    refine v_iload_n (pc := 4) dX4_priceNow_4 rfl ?_
    refine v_aload_n (pc := 5) dX4_priceNow_5 rfl ?_
    refine v_gR (pc := 6) dX4_priceNow_6 fl_X4_28 rfl ?_
    refine v_gI (pc := 9) dX4_priceNow_9 fl_X4_79 rfl ?_
    refine v_icmp_ge (pc := 12) 43 dX4_priceNow_12 (by decide) (by omega) (by omega) (fun h12 => by exfalso; omega) (fun h12 => ?_)
    refine v_iload_n (pc := 15) dX4_priceNow_15 rfl ?_
    refine v_aload_n (pc := 16) dX4_priceNow_16 rfl ?_
    refine v_gR (pc := 17) dX4_priceNow_17 fl_X4_28 rfl ?_
    refine v_iload_n (pc := 20) dX4_priceNow_20 rfl ?_
    refine v_aload_n (pc := 21) dX4_priceNow_21 rfl ?_
    refine v_iload_n (pc := 22) dX4_priceNow_22 rfl ?_
    refine v_cVi1 (pc := 23) (z := 0) (d' := d - 1) dX4_priceNow_23 kX4_neededOf ml_X4_80 iwX4_neededOf swX4_neededOf rfl rfl (Nat.le_of_ble_eq_true rfl) (Nat.le_of_ble_eq_true rfl) (by omega) ⟨Nat.le_refl _, Nat.le_refl _⟩ ?_
    refine c_X4_neededOf hR (by omega) ?_
    refine ⟨_, rfl, ?_⟩
    refine v_aload_n (pc := 26) dX4_priceNow_26 rfl ?_
    refine v_gR (pc := 27) dX4_priceNow_27 fl_X4_32 rfl ?_
    refine v_iconst (pc := 30) (2) dX4_priceNow_30 (by decide) ?_
    refine v_aI (pc := 31) (j := 2) dX4_priceNow_31 rfl rfl (by omega) (by omega) ?_
    refine v_cVi3 (pc := 32) (z := 0) (d' := d - 1) dX4_priceNow_32 kX1_costOfMissing ml_X4_83 iwX1_costOfMissing swX1_costOfMissing rfl rfl (Nat.le_of_ble_eq_true rfl) (Nat.le_of_ble_eq_true rfl) (by omega) ⟨Nat.le_refl _, Nat.le_refl _⟩ ?_
    refine c_X1_costOfMissing (k := j) (by omega) hR (by omega) (by omega) (by omega) (by omega) (by omega) ?_
    refine ⟨_, rfl, ?_⟩
    refine v_iadd (pc := 35) dX4_priceNow_35 ?_
    refine v_istore_n (pc := 36) dX4_priceNow_36 (by decide) ?_
    refine v_iinc (pc := 37) (1) dX4_priceNow_37 rfl (by decide) (by decide) ?_
    refine v_goto (pc := 40) 4 dX4_priceNow_40 (by decide) ?_
    refine v_lv (ih (j + 1) (x + 1) _ (by omega) (by omega) ?_) ⟨rfl, rfl, rfl, trivial⟩
    refine q_eq hQ ?_
    show s + qCosts (σ 2 2) (qCost (σ 2 2) (σ 7 j) (σ 9 j).toNat) (yNeed σ x - σ 8 j).toNat + _ + _ = s + (yFresh σ j + qSum (yFresh σ) n (j + 1)) + _
    rw [hx]
    show s + yFresh σ j + _ + _ = _
    omega
set_option maxHeartbeats 4000000 in
set_option maxRecDepth 100000 in
theorem c_X4_priceNow {g : vGl} {d : Nat} {Q : Option Value → List mC → Prop} {σ : vSt} (hd : 5 ≤ d) (hR : YR σ) (hQ : Q (some (vi (yPrice σ))) (hp σ)) : V g mX4_priceNow d (0, 0, 0, 0) Q 0 [(0, .ref 10)] [] (hp σ) := by
  obtain ⟨⟨r0, r1, r2, r3, r4, r5, r6, r7, r8, r9⟩, rE, rS, rT, rF⟩ := id hR
  refine v_iconst (pc := 0) (0) dX4_priceNow_0 (by decide) ?_
  refine v_istore_n (pc := 1) dX4_priceNow_1 (by decide) ?_
  refine v_iconst (pc := 2) (0) dX4_priceNow_2 (by decide) ?_
  refine v_istore_n (pc := 3) dX4_priceNow_3 (by decide) ?_
  refine v_lv (l_X4_priceNow1 hd hR (σ 3 6).toNat 0 0 0 rfl (by omega) ?_) ⟨rfl, rfl, rfl, trivial⟩
  rw [Int.zero_add]; exact hQ
set_option maxHeartbeats 4000000 in
set_option maxRecDepth 100000 in
theorem c_X8_price {g : vGl} {d : Nat} {Q : Option Value → List mC → Prop} {σ : vSt} (hd : 6 ≤ d) (hR : YR σ) (hS : σ 10 6 = 0 → Q (some (vi (-3))) (hp σ)) (hQ : ¬ σ 10 6 = 0 → Q (some (vi (yPrice σ))) (hp σ)) : V g mX8_price d (0, 0, 0, 0) Q 0 [(0, .ref 1)] [] (hp σ) := by
  obtain ⟨⟨r0, r1, r2, r3, r4, r5, r6, r7, r8, r9⟩, rE, rS, rT, rF⟩ := id hR
  refine v_aload_n (pc := 0) dX8_price_0 rfl ?_
  refine v_gR (pc := 1) dX8_price_1 fl_X8_25 rfl ?_
  refine v_gI (pc := 4) dX8_price_4 fl_X8_99 rfl ?_
  refine v_if_ne (pc := 7) 13 dX8_price_7 (by decide) (by omega) (fun h7 => ?_) (fun h7 => ?_)
  · refine v_aload_n (pc := 13) dX8_price_13 rfl ?_
    refine v_gR (pc := 14) dX8_price_14 fl_X8_25 rfl ?_
    refine v_cVi0 (pc := 17) (z := 0) (d' := d - 1) dX8_price_17 kX4_priceNow ml_X8_224 iwX4_priceNow swX4_priceNow rfl rfl (Nat.le_of_ble_eq_true rfl) (Nat.le_of_ble_eq_true rfl) (by omega) ⟨Nat.le_refl _, Nat.le_refl _⟩ ?_
    refine c_X4_priceNow (by omega) hR ?_
    refine ⟨_, rfl, ?_⟩
    refine v_ireturn (pc := 20) dX8_price_20 rfl rfl ⟨Nat.le_refl _, Nat.le_refl _⟩ ?_
    exact hQ (by omega)
  · refine v_bipush (pc := 10) (-3) dX8_price_10 (by decide) ?_
    refine v_ireturn (pc := 12) dX8_price_12 rfl rfl ⟨Nat.le_refl _, Nat.le_refl _⟩ ?_
    exact hS (by omega)
def yMore (σ : vSt) (e : Nat) : Int := max (yNeed σ e - σ 8 e) 0
/-- behind buying: engines below n have been taken -/
def yBuy (σ : vSt) (n : Nat) : vSt := fun p j => if p = 8 ∧ j < n then σ 8 j - (yNeed σ j - yMore σ j) else if p = 9 ∧ j < n then σ 9 j + yMore σ j else σ p j
theorem yBuy_0 (σ : vSt) : yBuy σ 0 = σ := by funext p j; simp [yBuy]
theorem yBuy_o {σ : vSt} {n p : Nat} (h : p ≠ 8) (h2 : p ≠ 9) : yBuy σ n p = σ p := by funext j; simp [yBuy, h, h2]
theorem yBuy_s {σ : vSt} {n : Nat} : vU (vU (yBuy σ n) 8 n (σ 8 n - (yNeed σ n - yMore σ n))) 9 n (σ 9 n + yMore σ n) = yBuy σ (n + 1) := by
  funext p j
  unfold vU yBuy
  by_cases h9 : p = 9
  · subst h9
    by_cases hj : j = n
    · subst hj; simp
    · simp [hj, show (j < n + 1) ↔ j < n by omega]
  · by_cases h8 : p = 8
    · subst h8
      by_cases hj : j = n
      · subst hj; simp
      · simp [hj, show (j < n + 1) ↔ j < n by omega]
    · simp [h9, h8]
theorem yBuy_need {σ : vSt} {n : Nat} (e : Int) : yNeed (yBuy σ n) e = yNeed σ e := by
  unfold yNeed
  rw [yBuy_o (by decide) (by decide), yBuy_o (by decide) (by decide), yBuy_o (by decide) (by decide)]
theorem yBuy_R {σ : vSt} {n : Nat} (h : YR σ) (hn : ∀ j : Nat, j < n → σ 9 j + yMore σ j ≤ 900) : YR (yBuy σ n) := by
  obtain ⟨h0, h1, h2, h3, h4⟩ := id h
  unfold YR
  rw [yBuy_o (p := 2) (by decide) (by decide), yBuy_o (p := 3) (by decide) (by decide), yBuy_o (p := 10) (by decide) (by decide), yBuy_o (p := 4) (by decide) (by decide), yBuy_o (p := 5) (by decide) (by decide), yBuy_o (p := 6) (by decide) (by decide), yBuy_o (p := 7) (by decide) (by decide), yBuy_o (p := 11) (by decide) (by decide), yBuy_o (p := 12) (by decide) (by decide), yBuy_o (p := 13) (by decide) (by decide), yBuy_o (p := 14) (by decide) (by decide)]
  refine ⟨h0, fun j => ?_, h2, h3, h4⟩
  have a := h1 j
  have b := h.need j
  by_cases hj : j < n
  · have c := hn j hj
    have e8 : yBuy σ n 8 j = σ 8 j - (yNeed σ j - yMore σ j) := by simp [yBuy, hj]
    have e9 : yBuy σ n 9 j = σ 9 j + yMore σ j := by simp [yBuy, hj]
    rw [e8, e9]
    unfold yMore at c ⊢
    omega
  · have e8 : yBuy σ n 8 j = σ 8 j := by simp [yBuy, hj]
    have e9 : yBuy σ n 9 j = σ 9 j := by simp [yBuy, hj]
    rw [e8, e9]
    omega
def yCan (σ : vSt) : Prop := ∀ e : Nat, (e : Int) < σ 3 6 → σ 9 e + yMore σ e ≤ 900
set_option maxHeartbeats 4000000 in
set_option maxRecDepth 100000 in
theorem l_X8_buy2 {g : vGl} {d : Nat} {Q : Option Value → List mC → Prop} {σ : vSt} (hd : 4 ≤ d) (hR : YR σ) (hC : yCan σ) {r : Int} : ∀ (n : Nat) (j : Nat) (x : Int) (hx : x = j) (hn : (j : Int) + n = σ 3 6) (hQ : Q (some (vi r)) (hp (yBuy σ (j + n)))), V g mX8_buy d (0, 0, 0, 0) Q 77 [(0, .ref 1), (1, vi r), (2, vi x)] [] (hp (yBuy σ j)) := by
  intro n
  induction n with
  | zero =>
    intro j x hx hn hQ
    obtain ⟨⟨r0, r1, r2, r3, r4, r5, r6, r7, r8, r9⟩, rE, rS, rT, rF⟩ := id hR
    have e3 : yBuy σ j 3 6 = σ 3 6 := by simp [yBuy]
    refine v_iload_n (pc := 77) dX8_buy_77 rfl ?_
    refine v_aload_n (pc := 78) dX8_buy_78 rfl ?_
    refine v_gR (pc := 79) dX8_buy_79 fl_X8_16 rfl ?_
    refine v_gI (pc := 82) dX8_buy_82 fl_X8_156 rfl ?_
    refine v_icmp_ge (pc := 85) 110 dX8_buy_85 (by decide) (by omega) (by rw [e3]; omega) (fun h85 => ?_) (fun h85 => by exfalso; omega)
    refine v_iload_n (pc := 110) dX8_buy_110 rfl ?_
    refine v_ireturn (pc := 111) dX8_buy_111 rfl rfl ⟨Nat.le_refl _, Nat.le_refl _⟩ ?_
    exact hQ
  | succ n ih =>
    intro j x hx hn hQ
    obtain ⟨⟨r0, r1, r2, r3, r4, r5, r6, r7, r8, r9⟩, rE, rS, rT, rF⟩ := id hR
    have e3 : yBuy σ j 3 6 = σ 3 6 := by simp [yBuy]
    have hRj : YR (yBuy σ j) := yBuy_R hR (fun i hi => hC i (by omega))
    have s1 := hR.need x
    have s9 := hRj.1
    refine v_iload_n (pc := 77) dX8_buy_77 rfl ?_
    refine v_aload_n (pc := 78) dX8_buy_78 rfl ?_
    refine v_gR (pc := 79) dX8_buy_79 fl_X8_16 rfl ?_
    refine v_gI (pc := 82) dX8_buy_82 fl_X8_156 rfl ?_
    refine v_icmp_ge (pc := 85) 110 dX8_buy_85 (by decide) (by omega) (by rw [e3]; omega) (fun h85 => by exfalso; omega) (fun h85 => ?_)
    refine v_aload_n (pc := 88) dX8_buy_88 rfl ?_
    refine v_gR (pc := 89) dX8_buy_89 fl_X8_16 rfl ?_
    refine v_iload_n (pc := 92) dX8_buy_92 rfl ?_
    refine v_aload_n (pc := 93) dX8_buy_93 rfl ?_
    refine v_gR (pc := 94) dX8_buy_94 fl_X8_25 rfl ?_
    refine v_iload_n (pc := 97) dX8_buy_97 rfl ?_
    refine v_cVi1 (pc := 98) (z := 0) (d' := d - 1) dX8_buy_98 kX4_neededOf ml_X8_230 iwX4_neededOf swX4_neededOf rfl rfl (Nat.le_of_ble_eq_true rfl) (Nat.le_of_ble_eq_true rfl) (by omega) ⟨Nat.le_refl _, Nat.le_refl _⟩ ?_
    refine c_X4_neededOf hRj (by omega) ?_
    refine ⟨_, rfl, ?_⟩
    refine v_cVv2 (pc := 101) (z := 0) (d' := d - 1) dX8_buy_101 kX1_take ml_X8_236 iwX1_take swX1_take rfl rfl (Nat.le_of_ble_eq_true rfl) (Nat.le_of_ble_eq_true rfl) (by omega) ⟨Nat.le_refl _, Nat.le_refl _⟩ ?_
    refine c_X1_take (k := j) (by omega) hRj (by omega) (by rw [e3]; omega) (by rw [yBuy_need]; omega) ?_
    refine ⟨rfl, ?_⟩
    have e8 : yBuy σ j 8 j = σ 8 j := by simp [yBuy]
    have e9 : yBuy σ j 9 j = σ 9 j := by simp [yBuy]
    rw [yBuy_need, e8, e9, hx, show max (yNeed σ j - σ 8 j) 0 = yMore σ j from rfl, yBuy_s]
    refine v_iinc (pc := 104) (1) dX8_buy_104 rfl (by decide) (by decide) ?_
    refine v_goto (pc := 107) 77 dX8_buy_107 (by decide) ?_
    refine v_lv (ih (j + 1) ((j : Int) + 1) (by omega) (by omega) ?_) ⟨rfl, rfl, rfl, trivial⟩
    rw [show j + 1 + n = j + (n + 1) by omega]; exact hQ
set_option maxHeartbeats 4000000 in
set_option maxRecDepth 100000 in
theorem l_X8_buy1 {g : vGl} {d : Nat} {Q : Option Value → List mC → Prop} {σ : vSt} (hd : 6 ≤ d) (hR : YR σ) (hF : ¬ yCan σ → Q (some (vi (-4))) (hp σ)) (hQ : yCan σ → Q (some (vi (yPrice σ))) (hp (yBuy σ (σ 3 6).toNat))) : ∀ (n : Nat) (j : Nat) (x : Int) (hx : x = j) (hn : (j : Int) + n = σ 3 6) (hb : ∀ e : Nat, e < j → σ 9 e + yMore σ e ≤ 900), V g mX8_buy d (0, 0, 0, 0) Q 15 [(0, .ref 1), (1, vi x)] [] (hp σ) := by
  intro n
  induction n with
  | zero =>
    intro j x hx hn hb
    obtain ⟨⟨r0, r1, r2, r3, r4, r5, r6, r7, r8, r9⟩, rE, rS, rT, rF⟩ := id hR
    refine v_iload_n (pc := 15) dX8_buy_15 rfl ?_
    refine v_aload_n (pc := 16) dX8_buy_16 rfl ?_
    refine v_gR (pc := 17) dX8_buy_17 fl_X8_16 rfl ?_
    refine v_gI (pc := 20) dX8_buy_20 fl_X8_156 rfl ?_
    refine v_icmp_ge (pc := 23) 67 dX8_buy_23 (by decide) (by omega) (by omega) (fun h23 => ?_) (fun h23 => by exfalso; omega)
    refine v_aload_n (pc := 67) dX8_buy_67 rfl ?_
    refine v_gR (pc := 68) dX8_buy_68 fl_X8_25 rfl ?_
    refine v_cVi0 (pc := 71) (z := 0) (d' := d - 1) dX8_buy_71 kX4_priceNow ml_X8_224 iwX4_priceNow swX4_priceNow rfl rfl (Nat.le_of_ble_eq_true rfl) (Nat.le_of_ble_eq_true rfl) (by omega) ⟨Nat.le_refl _, Nat.le_refl _⟩ ?_
    refine c_X4_priceNow (by omega) hR ?_
    refine ⟨_, rfl, ?_⟩
    refine v_istore_n (pc := 74) dX8_buy_74 (by decide) ?_
    refine v_iconst (pc := 75) (0) dX8_buy_75 (by decide) ?_
    refine v_istore_n (pc := 76) dX8_buy_76 (by decide) ?_
    have hC : yCan σ := fun e he => hb e (by omega)
    have k0 := l_X8_buy2 (g := g) (d := d) (Q := Q) (by omega) hR hC (r := yPrice σ) (σ 3 6).toNat 0 0 rfl (by omega) (by rw [Nat.zero_add]; exact hQ hC)
    rw [yBuy_0] at k0
    exact v_lv k0 ⟨rfl, rfl, rfl, trivial⟩
  | succ n ih =>
    intro j x hx hn hb
    obtain ⟨⟨r0, r1, r2, r3, r4, r5, r6, r7, r8, r9⟩, rE, rS, rT, rF⟩ := id hR
    have s1 := hR.need x
    have s2 := rE j
    refine v_iload_n (pc := 15) dX8_buy_15 rfl ?_
    refine v_aload_n (pc := 16) dX8_buy_16 rfl ?_
    refine v_gR (pc := 17) dX8_buy_17 fl_X8_16 rfl ?_
    refine v_gI (pc := 20) dX8_buy_20 fl_X8_156 rfl ?_
    refine v_icmp_ge (pc := 23) 67 dX8_buy_23 (by decide) (by omega) (by omega) (fun h23 => by exfalso; omega) (fun h23 => ?_)
    refine v_aload_n (pc := 26) dX8_buy_26 rfl ?_
    refine v_gR (pc := 27) dX8_buy_27 fl_X8_16 rfl ?_
    refine v_gR (pc := 30) dX8_buy_30 fl_X8_227 rfl ?_
    refine v_iload_n (pc := 33) dX8_buy_33 rfl ?_
    refine v_aI (pc := 34) (j := j) dX8_buy_34 rfl (by omega) (by omega) (by omega) ?_
    refine v_aload_n (pc := 35) dX8_buy_35 rfl ?_
    refine v_gR (pc := 36) dX8_buy_36 fl_X8_16 rfl ?_
    refine v_iload_n (pc := 39) dX8_buy_39 rfl ?_
    refine v_aload_n (pc := 40) dX8_buy_40 rfl ?_
    refine v_gR (pc := 41) dX8_buy_41 fl_X8_25 rfl ?_
    refine v_iload_n (pc := 44) dX8_buy_44 rfl ?_
    refine v_cVi1 (pc := 45) (z := 0) (d' := d - 1) dX8_buy_45 kX4_neededOf ml_X8_230 iwX4_neededOf swX4_neededOf rfl rfl (Nat.le_of_ble_eq_true rfl) (Nat.le_of_ble_eq_true rfl) (by omega) ⟨Nat.le_refl _, Nat.le_refl _⟩ ?_
    refine c_X4_neededOf hR (by omega) ?_
    refine ⟨_, rfl, ?_⟩
    refine v_cVi2 (pc := 48) (z := 0) (d' := d - 1) dX8_buy_48 kX1_missing ml_X8_233 iwX1_missing swX1_missing rfl rfl (Nat.le_of_ble_eq_true rfl) (Nat.le_of_ble_eq_true rfl) (by omega) ⟨Nat.le_refl _, Nat.le_refl _⟩ ?_
    refine c_X1_missing (k := j) (by omega) hR (by omega) (by omega) (by omega) ?_
    refine ⟨_, rfl, ?_⟩
    refine v_iadd (pc := 51) dX8_buy_51 ?_
    refine v_sipush (pc := 52) (900) dX8_buy_52 (by decide) ?_
    refine v_icmp_le (pc := 55) 61 dX8_buy_55 (by decide) (by omega) (by omega) (fun h55 => ?_) (fun h55 => ?_)
    · refine v_iinc (pc := 61) (1) dX8_buy_61 rfl (by decide) (by decide) ?_
      refine v_goto (pc := 64) 15 dX8_buy_64 (by decide) ?_
      refine v_lv (ih (j + 1) (x + 1) (by omega) (by omega) ?_) ⟨rfl, rfl, trivial⟩
      intro e he
      rcases (show e < j ∨ e = j by omega) with h | rfl
      · exact hb e h
      · rw [hx] at h55
        unfold yMore
        omega
    · refine v_bipush (pc := 58) (-4) dX8_buy_58 (by decide) ?_
      refine v_ireturn (pc := 60) dX8_buy_60 rfl rfl ⟨Nat.le_refl _, Nat.le_refl _⟩ ?_
      refine hF (fun hc => ?_)
      have h1 := hc j (by omega)
      unfold yMore at h1
      rw [hx] at h55
      omega
set_option maxHeartbeats 4000000 in
set_option maxRecDepth 100000 in
theorem c_X8_buy {g : vGl} {d : Nat} {Q : Option Value → List mC → Prop} {σ : vSt} (hd : 6 ≤ d) (hR : YR σ) (hS : σ 10 6 = 0 → Q (some (vi (-3))) (hp σ)) (hF : ¬ σ 10 6 = 0 → ¬ yCan σ → Q (some (vi (-4))) (hp σ)) (hQ : ¬ σ 10 6 = 0 → yCan σ → Q (some (vi (yPrice σ))) (hp (yBuy σ (σ 3 6).toNat))) : V g mX8_buy d (0, 0, 0, 0) Q 0 [(0, .ref 1)] [] (hp σ) := by
  obtain ⟨⟨r0, r1, r2, r3, r4, r5, r6, r7, r8, r9⟩, rE, rS, rT, rF⟩ := id hR
  refine v_aload_n (pc := 0) dX8_buy_0 rfl ?_
  refine v_gR (pc := 1) dX8_buy_1 fl_X8_25 rfl ?_
  refine v_gI (pc := 4) dX8_buy_4 fl_X8_99 rfl ?_
  refine v_if_ne (pc := 7) 13 dX8_buy_7 (by decide) (by omega) (fun h7 => ?_) (fun h7 => ?_)
  · refine v_iconst (pc := 13) (0) dX8_buy_13 (by decide) ?_
    refine v_istore_n (pc := 14) dX8_buy_14 (by decide) ?_
    exact v_lv (l_X8_buy1 hd hR (hF (by omega)) (hQ (by omega)) (σ 3 6).toNat 0 0 rfl (by omega) (fun e he => absurd he (by omega))) ⟨rfl, rfl, trivial⟩
  · refine v_bipush (pc := 10) (-3) dX8_buy_10 (by decide) ?_
    refine v_ireturn (pc := 12) dX8_buy_12 rfl rfl ⟨Nat.le_refl _, Nat.le_refl _⟩ ?_
    exact hS (by omega)
def qEven (e m gr : Int) : Nat → Int → Int
  | 0, _ => -5
  | n + 1, f => if 100 * e + 100 * gr + (f - 1) * m * e < 100 * f * e then f else qEven e m gr n (f + 1)
theorem even_rng {e m gr f : Int} (he : 0 ≤ e ∧ e ≤ 90000) (hm : 0 ≤ m ∧ m ≤ 200) (hf : 1 ≤ f ∧ f ≤ 100) : (0 ≤ (f - 1) * m ∧ (f - 1) * m ≤ 99 * 200) ∧ (0 ≤ (f - 1) * m * e ∧ (f - 1) * m * e ≤ 99 * 200 * 90000) ∧ 0 ≤ 100 * f * e ∧ 100 * f * e ≤ 10000 * 90000 := by
  have a := mul_le (a := f - 1) (b := m) (A := 99) (B := 200) (by omega) (by omega) hm.1 hm.2
  have b := mul_le (a := (f - 1) * m) (b := e) (A := 99 * 200) (B := 90000) a.1 a.2 he.1 he.2
  have c := mul_le (a := 100 * f) (b := e) (A := 10000) (B := 90000) (by omega) (by omega) he.1 he.2
  exact ⟨a, b, c⟩
set_option maxHeartbeats 4000000 in
set_option maxRecDepth 100000 in
theorem l_X8_even {g : vGl} {d : Nat} {Q : Option Value → List mC → Prop} {σ : vSt} {e m gr : Int} (he : 0 ≤ e ∧ e ≤ 90000) (hm : 0 ≤ m ∧ m ≤ 200) (hg : 0 ≤ gr ∧ gr ≤ 99999) : ∀ (n : Nat) (f : Int) (hf : f + n = 101) (hf1 : 1 ≤ f) (hQ : Q (some (vi (qEven e m gr n f))) (hp σ)), V g mX8_even d (0, 0, 0, 0) Q 51 [(0, .ref 1), (2, vi m), (3, vi gr), (4, vj e), (6, vi f)] [] (hp σ) := by
  intro n
  induction n with
  | zero =>
    intro f hf hf1 hQ
    refine v_iload (pc := 51) dX8_even_51 rfl ?_
    refine v_bipush (pc := 53) (100) dX8_even_53 (by decide) ?_
    refine v_icmp_gt (pc := 55) 108 dX8_even_55 (by decide) (by omega) (by omega) (fun h55 => ?_) (fun h55 => by exfalso; omega)
    refine v_bipush (pc := 108) (-5) dX8_even_108 (by decide) ?_
    refine v_ireturn (pc := 110) dX8_even_110 rfl rfl ⟨Nat.le_refl _, Nat.le_refl _⟩ ?_
    exact hQ
  | succ n ih =>
    intro f hf hf1 hQ
    have rg := even_rng (f := f) (gr := gr) he hm (by omega)
    refine v_iload (pc := 51) dX8_even_51 rfl ?_
    refine v_bipush (pc := 53) (100) dX8_even_53 (by decide) ?_
    refine v_icmp_gt (pc := 55) 108 dX8_even_55 (by decide) (by omega) (by omega) (fun h55 => by exfalso; omega) (fun h55 => ?_)
    refine v_ldc2 (pc := 58) (100) dX8_even_58 kc_X8_244 ?_
    refine v_lload (pc := 61) dX8_even_61 rfl ?_
    refine v_lmul (pc := 63) dX8_even_63 ?_
    refine v_ldc2 (pc := 64) (100) dX8_even_64 kc_X8_244 ?_
    refine v_iload_n (pc := 67) dX8_even_67 rfl ?_
    refine v_i2l (pc := 68) dX8_even_68 (by omega) ?_
    refine v_lmul (pc := 69) dX8_even_69 ?_
    refine v_ladd (pc := 70) dX8_even_70 ?_
    refine v_iload (pc := 71) dX8_even_71 rfl ?_
    refine v_iconst (pc := 73) (1) dX8_even_73 (by decide) ?_
    refine v_isub (pc := 74) dX8_even_74 ?_
    refine v_iload_n (pc := 75) dX8_even_75 rfl ?_
    refine v_imul (pc := 76) dX8_even_76 ?_
    refine v_i2l (pc := 77) dX8_even_77 (by omega) ?_
    refine v_lload (pc := 78) dX8_even_78 rfl ?_
    refine v_lmul (pc := 80) dX8_even_80 ?_
    refine v_ladd (pc := 81) dX8_even_81 ?_
    refine v_lstore (pc := 82) dX8_even_82 (by decide) ?_
    refine v_lload (pc := 84) dX8_even_84 rfl ?_
    refine v_bipush (pc := 86) (100) dX8_even_86 (by decide) ?_
    refine v_iload (pc := 88) dX8_even_88 rfl ?_
    refine v_imul (pc := 90) dX8_even_90 ?_
    refine v_i2l (pc := 91) dX8_even_91 (by omega) ?_
    refine v_lload (pc := 92) dX8_even_92 rfl ?_
    refine v_lmul (pc := 94) dX8_even_94 ?_
    refine v_lc_ge (pc := 95) 102 dX8_even_95 dX8_even_96 (by decide) (by omega) (by omega) (fun h95 => ?_) (fun h95 => ?_)
    · refine v_iinc (pc := 102) (1) dX8_even_102 rfl (by decide) (by decide) ?_
      refine v_goto (pc := 105) 51 dX8_even_105 (by decide) ?_
      refine v_lv (ih (f + 1) (by omega) (by omega) ?_) ⟨rfl, rfl, rfl, rfl, rfl, trivial⟩
      rw [qEven, if_neg (by omega)] at hQ; exact hQ
    · refine v_iload (pc := 99) dX8_even_99 rfl ?_
      refine v_ireturn (pc := 101) dX8_even_101 rfl rfl ⟨Nat.le_refl _, Nat.le_refl _⟩ ?_
      rw [qEven, if_pos (by omega)] at hQ; exact hQ
set_option maxHeartbeats 4000000 in
set_option maxRecDepth 100000 in
theorem l_X9_even {g : vGl} {d : Nat} {Q : Option Value → List mC → Prop} {σ : vSt} {e m gr : Int} (he : 0 ≤ e ∧ e ≤ 90000) (hm : 0 ≤ m ∧ m ≤ 200) (hg : 0 ≤ gr ∧ gr ≤ 99999) : ∀ (n : Nat) (f : Int) (hf : f + n = 101) (hf1 : 1 ≤ f) (hQ : Q (some (vi (qEven e m gr n f))) (hp σ)), V g mX9_even d (0, 0, 0, 0) Q 62 [(0, .ref 38), (2, vi m), (3, vi gr), (4, vj e), (6, vi f)] [] (hp σ) := by
  intro n
  induction n with
  | zero =>
    intro f hf hf1 hQ
    refine v_iload (pc := 62) dX9_even_62 rfl ?_
    refine v_bipush (pc := 64) (100) dX9_even_64 (by decide) ?_
    refine v_icmp_gt (pc := 66) 116 dX9_even_66 (by decide) (by omega) (by omega) (fun h66 => ?_) (fun h66 => by exfalso; omega)
    refine v_bipush (pc := 116) (-5) dX9_even_116 (by decide) ?_
    refine v_ireturn (pc := 118) dX9_even_118 rfl rfl ⟨Nat.le_refl _, Nat.le_refl _⟩ ?_
    exact hQ
  | succ n ih =>
    intro f hf hf1 hQ
    have rg := even_rng (f := f) (gr := gr) he hm (by omega)
    refine v_iload (pc := 62) dX9_even_62 rfl ?_
    refine v_bipush (pc := 64) (100) dX9_even_64 (by decide) ?_
    refine v_icmp_gt (pc := 66) 116 dX9_even_66 (by decide) (by omega) (by omega) (fun h66 => by exfalso; omega) (fun h66 => ?_)
    refine v_ldc2 (pc := 69) (100) dX9_even_69 kc_X9_138 ?_
    refine v_lload (pc := 72) dX9_even_72 rfl ?_
    refine v_lmul (pc := 74) dX9_even_74 ?_
    refine v_ldc2 (pc := 75) (100) dX9_even_75 kc_X9_138 ?_
    refine v_iload_n (pc := 78) dX9_even_78 rfl ?_
    refine v_i2l (pc := 79) dX9_even_79 (by omega) ?_
    refine v_lmul (pc := 80) dX9_even_80 ?_
    refine v_ladd (pc := 81) dX9_even_81 ?_
    refine v_iload (pc := 82) dX9_even_82 rfl ?_
    refine v_iconst (pc := 84) (1) dX9_even_84 (by decide) ?_
    refine v_isub (pc := 85) dX9_even_85 ?_
    refine v_iload_n (pc := 86) dX9_even_86 rfl ?_
    refine v_imul (pc := 87) dX9_even_87 ?_
    refine v_i2l (pc := 88) dX9_even_88 (by omega) ?_
    refine v_lload (pc := 89) dX9_even_89 rfl ?_
    refine v_lmul (pc := 91) dX9_even_91 ?_
    refine v_ladd (pc := 92) dX9_even_92 ?_
    refine v_ldc2 (pc := 93) (100) dX9_even_93 kc_X9_138 ?_
    refine v_iload (pc := 96) dX9_even_96 rfl ?_
    refine v_i2l (pc := 98) dX9_even_98 (by omega) ?_
    refine v_lmul (pc := 99) dX9_even_99 ?_
    refine v_lload (pc := 100) dX9_even_100 rfl ?_
    refine v_lmul (pc := 102) dX9_even_102 ?_
    refine v_lc_ge (pc := 103) 110 dX9_even_103 dX9_even_104 (by decide) (by omega) (by omega) (fun h103 => ?_) (fun h103 => ?_)
    · refine v_iinc (pc := 110) (1) dX9_even_110 rfl (by decide) (by decide) ?_
      refine v_goto (pc := 113) 62 dX9_even_113 (by decide) ?_
      refine v_lv (ih (f + 1) (by omega) (by omega) ?_) ⟨rfl, rfl, rfl, rfl, rfl, trivial⟩
      rw [qEven, if_neg (by omega)] at hQ; exact hQ
    · refine v_iload (pc := 107) dX9_even_107 rfl ?_
      refine v_ireturn (pc := 109) dX9_even_109 rfl rfl ⟨Nat.le_refl _, Nat.le_refl _⟩ ?_
      rw [qEven, if_pos (by omega)] at hQ; exact hQ
set_option maxHeartbeats 4000000 in
set_option maxRecDepth 100000 in
theorem c_X8_even {g : vGl} {d : Nat} {Q : Option Value → List mC → Prop} {σ : vSt} (hd : 3 ≤ d) (hR : YR σ) {x m gr : Int} (hx : vr x) (hm : vr m) (hg : vr gr) (hN : ¬ (0 ≤ x ∧ x < σ 10 6) → Q (some (vi (-1))) (hp σ)) (hB : 0 ≤ x → x < σ 10 6 → ¬ (0 ≤ m ∧ m ≤ 200 ∧ 0 ≤ gr ∧ gr ≤ 99999) → Q (some (vi (-2))) (hp σ)) (hQ : 0 ≤ x → x < σ 10 6 → (0 ≤ m ∧ m ≤ 200 ∧ 0 ≤ gr ∧ gr ≤ 99999) → Q (some (vi (qEven (σ 12 x.toNat * σ 7 (σ 11 x.toNat).toNat) m gr 100 1))) (hp σ)) : V g mX8_even d (0, 0, 0, 0) Q 0 [(0, .ref 1), (1, vi x), (2, vi m), (3, vi gr)] [] (hp σ) := by
  obtain ⟨⟨r0, r1, r2, r3, r4, r5, r6, r7, r8, r9⟩, rE, rS, rT, rF⟩ := id hR
  refine v_aload_n (pc := 0) dX8_even_0 rfl ?_
  refine v_gR (pc := 1) dX8_even_1 fl_X8_25 rfl ?_
  refine v_iload_n (pc := 4) dX8_even_4 rfl ?_
  refine v_cVi1 (pc := 5) (z := 0) (d' := d - 1) dX8_even_5 kX4_has ml_X8_103 iwX4_has swX4_has rfl rfl (Nat.le_of_ble_eq_true rfl) (Nat.le_of_ble_eq_true rfl) (by omega) ⟨Nat.le_refl _, Nat.le_refl _⟩ ?_
  refine c_X4_has (by omega) (by omega) ?_
  refine ⟨_, rfl, ?_⟩
  refine v_if_ne (pc := 8) 13 dX8_even_8 (by decide) (by omega) (fun h8 => ?_) (fun h8 => ?_)
  · refine v_iload_n (pc := 13) dX8_even_13 rfl ?_
    refine v_iconst (pc := 14) (0) dX8_even_14 (by decide) ?_
    refine v_sipush (pc := 15) (200) dX8_even_15 (by decide) ?_
    refine v_cSi3 (pc := 18) (d' := d - 1) dX8_even_18 kX8_within ml_X8_81 stX8_within (Nat.le_of_ble_eq_true rfl) (Nat.le_of_ble_eq_true rfl) (by omega) ⟨Nat.le_refl _, Nat.le_refl _⟩ ?_
    refine c_X8_within (by omega) (by omega) (by omega) ?_
    refine ⟨_, rfl, ?_⟩
    refine v_if_eq (pc := 21) 34 dX8_even_21 (by decide) (by omega) (fun h21 => ?_) (fun h21 => ?_)
    · refine v_bipush (pc := 34) (-2) dX8_even_34 (by decide) ?_
      refine v_ireturn (pc := 36) dX8_even_36 rfl rfl ⟨Nat.le_refl _, Nat.le_refl _⟩ ?_
      exact hB (by omega) (by omega) (by omega)
    · refine v_iload_n (pc := 24) dX8_even_24 rfl ?_
      refine v_iconst (pc := 25) (0) dX8_even_25 (by decide) ?_
      refine v_ldc (pc := 26) (99999) dX8_even_26 kc_X8_240 ?_
      refine v_cSi3 (pc := 28) (d' := d - 1) dX8_even_28 kX8_within ml_X8_81 stX8_within (Nat.le_of_ble_eq_true rfl) (Nat.le_of_ble_eq_true rfl) (by omega) ⟨Nat.le_refl _, Nat.le_refl _⟩ ?_
      refine c_X8_within (by omega) (by omega) (by omega) ?_
      refine ⟨_, rfl, ?_⟩
      refine v_if_ne (pc := 31) 37 dX8_even_31 (by decide) (by omega) (fun h31 => ?_) (fun h31 => ?_)
      · refine v_aload_n (pc := 37) dX8_even_37 rfl ?_
        refine v_gR (pc := 38) dX8_even_38 fl_X8_25 rfl ?_
        refine v_iload_n (pc := 41) dX8_even_41 rfl ?_
        refine v_cVi1 (pc := 42) (z := 0) (d' := d - 1) dX8_even_42 kX4_enginesCost ml_X8_241 iwX4_enginesCost swX4_enginesCost rfl rfl (Nat.le_of_ble_eq_true rfl) (Nat.le_of_ble_eq_true rfl) (by omega) ⟨Nat.le_refl _, Nat.le_refl _⟩ ?_
        have s1 := rS x.toNat
        have s2 := rE (σ 11 x.toNat).toNat
        have s3 := mul_le (a := σ 12 x.toNat) (b := σ 7 (σ 11 x.toNat).toNat) (A := 9) (B := 9999) (by omega) (by omega) (by omega) (by omega)
        refine c_X4_enginesCost (k := x.toNat) (by omega) hR (by omega) (by omega) ?_
        refine ⟨_, rfl, ?_⟩
        refine v_i2l (pc := 45) dX8_even_45 (by omega) ?_
        refine v_lstore (pc := 46) dX8_even_46 (by decide) ?_
        refine v_iconst (pc := 48) (1) dX8_even_48 (by decide) ?_
        refine v_istore (pc := 49) dX8_even_49 (by decide) ?_
        exact v_lv (l_X8_even (by omega) (by omega) (by omega) 100 1 (by omega) (by omega) (hQ (by omega) (by omega) (by omega))) ⟨rfl, rfl, rfl, rfl, rfl, trivial⟩
      · refine v_bipush (pc := 34) (-2) dX8_even_34 (by decide) ?_
        refine v_ireturn (pc := 36) dX8_even_36 rfl rfl ⟨Nat.le_refl _, Nat.le_refl _⟩ ?_
        exact hB (by omega) (by omega) (by omega)
  · refine v_iconst (pc := 11) (-1) dX8_even_11 (by decide) ?_
    refine v_ireturn (pc := 12) dX8_even_12 rfl rfl ⟨Nat.le_refl _, Nat.le_refl _⟩ ?_
    exact hN (by omega)
set_option maxHeartbeats 4000000 in
set_option maxRecDepth 100000 in
theorem c_X9_even {g : vGl} {d : Nat} {Q : Option Value → List mC → Prop} {σ : vSt} (hd : 3 ≤ d) (hR : MR σ) {x m gr : Int} (hx : vr x) (hm : vr m) (hg : vr gr) (hN : ¬ (0 ≤ x ∧ x < σ 38 13) → Q (some (vi (-1))) (hp σ)) (hB : 0 ≤ x → x < σ 38 13 → ¬ (0 ≤ m ∧ m ≤ 200 ∧ 0 ≤ gr ∧ gr ≤ 99999) → Q (some (vi (-2))) (hp σ)) (hQ : 0 ≤ x → x < σ 38 13 → (0 ≤ m ∧ m ≤ 200 ∧ 0 ≤ gr ∧ gr ≤ 99999) → Q (some (vi (qEven (σ 46 x.toNat * σ 42 (σ 45 x.toNat).toNat) m gr 100 1))) (hp σ)) : V g mX9_even d (0, 0, 0, 0) Q 0 [(0, .ref 38), (1, vi x), (2, vi m), (3, vi gr)] [] (hp σ) := by
  obtain ⟨⟨r0, r1, r2, r3, r4, r5, r6, r7, r8, r9⟩, rE, rS, rT, rF⟩ := id hR
  refine v_aload_n (pc := 0) dX9_even_0 rfl ?_
  refine v_iload_n (pc := 1) dX9_even_1 rfl ?_
  refine v_cVi1 (pc := 2) (z := 0) (d' := d - 1) dX9_even_2 kX9_isStage ml_X9_131 iwX9_isStage swX9_isStage rfl rfl (Nat.le_of_ble_eq_true rfl) (Nat.le_of_ble_eq_true rfl) (by omega) ⟨Nat.le_refl _, Nat.le_refl _⟩ ?_
  refine c_X9_isStage (by omega) (by omega) ?_
  refine ⟨_, rfl, ?_⟩
  refine v_if_ne (pc := 5) 10 dX9_even_5 (by decide) (by omega) (fun h5 => ?_) (fun h5 => ?_)
  · refine v_iload_n (pc := 10) dX9_even_10 rfl ?_
    refine v_i2l (pc := 11) dX9_even_11 (by omega) ?_
    refine v_lconst (pc := 12) (0) dX9_even_12 (by decide) ?_
    refine v_ldc2 (pc := 13) (200) dX9_even_13 kc_X9_255 ?_
    refine v_cSi3 (pc := 16) (d' := d - 1) dX9_even_16 kX9_isIn ml_X9_115 stX9_isIn (Nat.le_of_ble_eq_true rfl) (Nat.le_of_ble_eq_true rfl) (by omega) ⟨Nat.le_refl _, Nat.le_refl _⟩ ?_
    refine c_X9_isIn (by omega) (by omega) (by omega) ?_
    refine ⟨_, rfl, ?_⟩
    refine v_if_eq (pc := 19) 34 dX9_even_19 (by decide) (by omega) (fun h19 => ?_) (fun h19 => ?_)
    · refine v_bipush (pc := 34) (-2) dX9_even_34 (by decide) ?_
      refine v_ireturn (pc := 36) dX9_even_36 rfl rfl ⟨Nat.le_refl _, Nat.le_refl _⟩ ?_
      exact hB (by omega) (by omega) (by omega)
    · refine v_iload_n (pc := 22) dX9_even_22 rfl ?_
      refine v_i2l (pc := 23) dX9_even_23 (by omega) ?_
      refine v_lconst (pc := 24) (0) dX9_even_24 (by decide) ?_
      refine v_ldc2 (pc := 25) (99999) dX9_even_25 kc_X9_257 ?_
      refine v_cSi3 (pc := 28) (d' := d - 1) dX9_even_28 kX9_isIn ml_X9_115 stX9_isIn (Nat.le_of_ble_eq_true rfl) (Nat.le_of_ble_eq_true rfl) (by omega) ⟨Nat.le_refl _, Nat.le_refl _⟩ ?_
      refine c_X9_isIn (by omega) (by omega) (by omega) ?_
      refine ⟨_, rfl, ?_⟩
      refine v_if_ne (pc := 31) 37 dX9_even_31 (by decide) (by omega) (fun h31 => ?_) (fun h31 => ?_)
      · have s1 := rS x.toNat
        have s2 := rE (σ 45 x.toNat).toNat
        have s3 := mul_le (a := σ 46 x.toNat) (b := σ 42 (σ 45 x.toNat).toNat) (A := 9) (B := 9999) (by omega) (by omega) (by omega) (by omega)
        have s4 : σ 42 (σ 45 x.toNat).toNat * σ 46 x.toNat = σ 46 x.toNat * σ 42 (σ 45 x.toNat).toNat := Int.mul_comm _ _
        refine v_aload_n (pc := 37) dX9_even_37 rfl ?_
        refine v_gR (pc := 38) dX9_even_38 fl_X9_19 rfl ?_
        refine v_aload_n (pc := 41) dX9_even_41 rfl ?_
        refine v_gR (pc := 42) dX9_even_42 fl_X9_28 rfl ?_
        refine v_iload_n (pc := 45) dX9_even_45 rfl ?_
        refine v_aI (pc := 46) dX9_even_46 rfl rfl (by omega) (by omega) ?_
        refine v_aI (pc := 47) dX9_even_47 rfl rfl (by omega) (by omega) ?_
        refine v_i2l (pc := 48) dX9_even_48 (by omega) ?_
        refine v_aload_n (pc := 49) dX9_even_49 rfl ?_
        refine v_gR (pc := 50) dX9_even_50 fl_X9_31 rfl ?_
        refine v_iload_n (pc := 53) dX9_even_53 rfl ?_
        refine v_aI (pc := 54) dX9_even_54 rfl rfl (by omega) (by omega) ?_
        refine v_i2l (pc := 55) dX9_even_55 (by omega) ?_
        refine v_lmul (pc := 56) dX9_even_56 ?_
        refine v_lstore (pc := 57) dX9_even_57 (by decide) ?_
        refine v_iconst (pc := 59) (1) dX9_even_59 (by decide) ?_
        refine v_istore (pc := 60) dX9_even_60 (by decide) ?_
        rw [s4]
        exact v_lv (l_X9_even (by omega) (by omega) (by omega) 100 1 (by omega) (by omega) (hQ (by omega) (by omega) (by omega))) ⟨rfl, rfl, rfl, rfl, rfl, trivial⟩
      · refine v_bipush (pc := 34) (-2) dX9_even_34 (by decide) ?_
        refine v_ireturn (pc := 36) dX9_even_36 rfl rfl ⟨Nat.le_refl _, Nat.le_refl _⟩ ?_
        exact hB (by omega) (by omega) (by omega)
  · refine v_iconst (pc := 8) (-1) dX9_even_8 (by decide) ?_
    refine v_ireturn (pc := 9) dX9_even_9 rfl rfl ⟨Nat.le_refl _, Nat.le_refl _⟩ ?_
    exact hN (by omega)
