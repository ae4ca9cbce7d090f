def mBuy (τ : vSt) (n : Nat) : vSt := fun p j => if p = 43 ∧ j < n then τ 43 j - (yNeed (mY τ) j - yMore (mY τ) j) else if p = 44 ∧ j < n then τ 44 j + yMore (mY τ) j else τ p j
theorem mBuy_0 (σ : vSt) : mBuy σ 0 = σ := by funext p j; simp [mBuy]
theorem mBuy_o {σ : vSt} {n p : Nat} (h : p ≠ 43) (h2 : p ≠ 44) : mBuy σ n p = σ p := by funext j; simp [mBuy, h, h2]
theorem mBuy_s {σ : vSt} {n : Nat} : vU (vU (mBuy σ n) 44 n (σ 44 n + yMore (mY σ) n)) 43 n (σ 43 n - (yNeed (mY σ) n - yMore (mY σ) n)) = mBuy σ (n + 1) := by
  funext p j
  unfold vU mBuy
  by_cases h9 : p = 44
  · subst h9
    by_cases hj : j = n
    · subst hj; simp
    · simp [hj, show (j < n + 1) ↔ j < n by omega]
  · by_cases h8 : p = 43
    · subst h8
      by_cases hj : j = n
      · subst hj; simp
      · simp [hj, show (j < n + 1) ↔ j < n by omega]
    · simp [h9, h8]
theorem mBuy_R {σ : vSt} {n : Nat} (h : MR σ) (hn : ∀ j : Nat, j < n → σ 44 j + yMore (mY σ) j ≤ 900) : MR (mBuy σ n) := by
  obtain ⟨h0, h1, h2, h3, h4⟩ := id h
  unfold MR
  rw [mBuy_o (p := 38) (by decide) (by decide), mBuy_o (p := 39) (by decide) (by decide), mBuy_o (p := 40) (by decide) (by decide), mBuy_o (p := 41) (by decide) (by decide), mBuy_o (p := 42) (by decide) (by decide), mBuy_o (p := 45) (by decide) (by decide), mBuy_o (p := 46) (by decide) (by decide), mBuy_o (p := 47) (by decide) (by decide), mBuy_o (p := 48) (by decide) (by decide)]
  refine ⟨h0, fun j => ?_, h2, h3, h4⟩
  have a := h1 j
  have b := h.y.need j
  by_cases hj : j < n
  · have c := hn j hj
    have e8 : mBuy σ n 43 j = σ 43 j - (yNeed (mY σ) j - yMore (mY σ) j) := by simp [mBuy, hj]
    have e9 : mBuy σ n 44 j = σ 44 j + yMore (mY σ) j := by simp [mBuy, hj]
    rw [e8, e9]
    have e : yMore (mY σ) j = max (yNeed (mY σ) j - σ 43 j) 0 := rfl
    rw [e] at c ⊢
    omega
  · have e8 : mBuy σ n 43 j = σ 43 j := by simp [mBuy, hj]
    have e9 : mBuy σ n 44 j = σ 44 j := by simp [mBuy, hj]
    rw [e8, e9]
    omega
def mCan (σ : vSt) : Prop := ∀ e : Nat, (e : Int) < σ 38 12 → σ 44 e + yMore (mY σ) e ≤ 900
set_option maxHeartbeats 4000000 in
set_option maxRecDepth 100000 in
theorem l_X9_buy2 {g : vGl} {d : Nat} {Q : Option Value → List mC → Prop} {τ : vSt} (hR : MR τ) (h62 : ∀ e : Nat, e < 6 → τ 62 e = yNeed (mY τ) e) {r : Int} : ∀ (n : Nat) (j : Nat) (x : Int) (hx : x = j) (hn : (j : Int) + n = τ 38 12) (hQ : Q (some (vi r)) (hp (mBuy τ (j + n)))), V g mX9_buy d (0, 0, 0, 0) Q 68 [(0, .ref 38), (1, vi r), (2, vi x)] [] (hp (mBuy τ j)) := by
  intro n
  induction n with
  | zero =>
    intro j x hx hn hQ
    obtain ⟨⟨r0, r1, r2, r3, r4, r5, r6, r7, r8, r9⟩, rE, rS, rT, rF⟩ := id hR
    refine v_iload_n (pc := 68) dX9_buy_68 rfl ?_
    refine v_aload_n (pc := 69) dX9_buy_69 rfl ?_
    refine v_gIv (pc := 70) (τ 38 12) dX9_buy_70 fl_X9_107 rfl rfl ?_
    refine v_icmp_ge (pc := 73) 130 dX9_buy_73 (by decide) (by omega) (by omega) (fun h73 => ?_) (fun h73 => by exfalso; omega)
    refine v_iload_n (pc := 130) dX9_buy_130 rfl ?_
    refine v_ireturn (pc := 131) dX9_buy_131 rfl rfl ⟨Nat.le_refl _, Nat.le_refl _⟩ ?_
    exact hQ
  | succ n ih =>
    intro j x hx hn hQ
    obtain ⟨⟨r0, r1, r2, r3, r4, r5, r6, r7, r8, r9⟩, rE, rS, rT, rF⟩ := id hR
    have s1 := rE j
    have s3 := hR.y.need (j : Int)
    have s4 := h62 j (by omega)
    have e43 : mBuy τ j 43 j = τ 43 j := by simp [mBuy]
    have e44 : mBuy τ j 44 j = τ 44 j := by simp [mBuy]
    refine v_iload_n (pc := 68) dX9_buy_68 rfl ?_
    refine v_aload_n (pc := 69) dX9_buy_69 rfl ?_
    refine v_gIv (pc := 70) (τ 38 12) dX9_buy_70 fl_X9_107 rfl rfl ?_
    refine v_icmp_ge (pc := 73) 130 dX9_buy_73 (by decide) (by omega) (by omega) (fun h73 => by exfalso; omega) (fun h73 => ?_)
    refine v_aload_n (pc := 76) dX9_buy_76 rfl ?_
    refine v_gR (pc := 77) dX9_buy_77 fl_X9_91 rfl ?_
    refine v_iload_n (pc := 80) dX9_buy_80 rfl ?_
    refine v_aIv (pc := 81) (j := j) (τ 62 j) dX9_buy_81 rfl (by omega) (by omega) (by omega) rfl ?_
    refine v_aload_n (pc := 82) dX9_buy_82 rfl ?_
    refine v_gR (pc := 83) dX9_buy_83 fl_X9_22 rfl ?_
    refine v_iload_n (pc := 86) dX9_buy_86 rfl ?_
    refine v_aI (pc := 87) (j := j) dX9_buy_87 rfl (by omega) (by omega) (by omega) ?_
    refine v_top e43 ?_
    refine v_isub (pc := 88) dX9_buy_88 ?_
    refine v_istore_n (pc := 89) dX9_buy_89 (by decide) ?_
    refine v_aload_n (pc := 90) dX9_buy_90 rfl ?_
    refine v_gR (pc := 91) dX9_buy_91 fl_X9_25 rfl ?_
    refine v_iload_n (pc := 94) dX9_buy_94 rfl ?_
    refine v_dup2 (pc := 95) dX9_buy_95 rfl rfl ?_
    refine v_aI (pc := 96) (j := j) dX9_buy_96 rfl (by omega) (by omega) (by omega) ?_
    refine v_top e44 ?_
    refine v_iload_n (pc := 97) dX9_buy_97 rfl ?_
    refine v_if_le (pc := 98) 105 dX9_buy_98 (by decide) (by omega) (fun h98 => ?_) (fun h98 => ?_)
    · refine v_iconst (pc := 105) (0) dX9_buy_105 (by decide) ?_
      refine v_iadd (pc := 106) dX9_buy_106 ?_
      refine v_sI (pc := 107) (j := j) dX9_buy_107 rfl (by omega) (by omega) (by omega) ?_
      refine v_aload_n (pc := 108) dX9_buy_108 rfl ?_
      refine v_gR (pc := 109) dX9_buy_109 fl_X9_22 rfl ?_
      refine v_iload_n (pc := 112) dX9_buy_112 rfl ?_
      refine v_iload_n (pc := 113) dX9_buy_113 rfl ?_
      refine v_if_le (pc := 114) 121 dX9_buy_114 (by decide) (by omega) (fun h114 => ?_) (fun h114 => ?_)
      · refine v_iload_n (pc := 121) dX9_buy_121 rfl ?_
        refine v_ineg (pc := 122) dX9_buy_122 ?_
        refine v_sI (pc := 123) (j := j) dX9_buy_123 rfl (by omega) (by omega) (by omega) ?_
        refine v_iinc (pc := 124) (1) dX9_buy_124 rfl (by decide) (by decide) ?_
        refine v_goto (pc := 127) 68 dX9_buy_127 (by decide) ?_
        refine v_lv (v_sg (τ := mBuy τ (j + 1)) ?_ (ih (j + 1) (x + 1) (by omega) (by omega) (by rw [show j + 1 + n = j + (n + 1) by omega]; exact hQ))) ⟨rfl, rfl, rfl, trivial⟩
        rw [← mBuy_s]
        have em : yMore (mY τ) j = max (yNeed (mY τ) j - τ 43 j) 0 := rfl
        rw [em]
        congr 2
        · congr 1
          omega
        · omega
      · refine v_iconst (pc := 117) (0) dX9_buy_117 (by decide) ?_
        refine v_goto (pc := 118) 123 dX9_buy_118 (by decide) ?_
        refine v_sI (pc := 123) (j := j) dX9_buy_123 rfl (by omega) (by omega) (by omega) ?_
        refine v_iinc (pc := 124) (1) dX9_buy_124 rfl (by decide) (by decide) ?_
        refine v_goto (pc := 127) 68 dX9_buy_127 (by decide) ?_
        refine v_lv (v_sg (τ := mBuy τ (j + 1)) ?_ (ih (j + 1) (x + 1) (by omega) (by omega) (by rw [show j + 1 + n = j + (n + 1) by omega]; exact hQ))) ⟨rfl, rfl, rfl, trivial⟩
        rw [← mBuy_s]
        have em : yMore (mY τ) j = max (yNeed (mY τ) j - τ 43 j) 0 := rfl
        rw [em]
        congr 2
        · congr 1
          omega
        · omega
    · refine v_iload_n (pc := 101) dX9_buy_101 rfl ?_
      refine v_goto (pc := 102) 106 dX9_buy_102 (by decide) ?_
      refine v_iadd (pc := 106) dX9_buy_106 ?_
      refine v_sI (pc := 107) (j := j) dX9_buy_107 rfl (by omega) (by omega) (by omega) ?_
      refine v_aload_n (pc := 108) dX9_buy_108 rfl ?_
      refine v_gR (pc := 109) dX9_buy_109 fl_X9_22 rfl ?_
      refine v_iload_n (pc := 112) dX9_buy_112 rfl ?_
      refine v_iload_n (pc := 113) dX9_buy_113 rfl ?_
      refine v_if_le (pc := 114) 121 dX9_buy_114 (by decide) (by omega) (fun h114 => ?_) (fun h114 => ?_)
      · refine v_iload_n (pc := 121) dX9_buy_121 rfl ?_
        refine v_ineg (pc := 122) dX9_buy_122 ?_
        refine v_sI (pc := 123) (j := j) dX9_buy_123 rfl (by omega) (by omega) (by omega) ?_
        refine v_iinc (pc := 124) (1) dX9_buy_124 rfl (by decide) (by decide) ?_
        refine v_goto (pc := 127) 68 dX9_buy_127 (by decide) ?_
        refine v_lv (v_sg (τ := mBuy τ (j + 1)) ?_ (ih (j + 1) (x + 1) (by omega) (by omega) (by rw [show j + 1 + n = j + (n + 1) by omega]; exact hQ))) ⟨rfl, rfl, rfl, trivial⟩
        rw [← mBuy_s]
        have em : yMore (mY τ) j = max (yNeed (mY τ) j - τ 43 j) 0 := rfl
        rw [em]
        congr 2
        · congr 1
          omega
        · omega
      · refine v_iconst (pc := 117) (0) dX9_buy_117 (by decide) ?_
        refine v_goto (pc := 118) 123 dX9_buy_118 (by decide) ?_
        refine v_sI (pc := 123) (j := j) dX9_buy_123 rfl (by omega) (by omega) (by omega) ?_
        refine v_iinc (pc := 124) (1) dX9_buy_124 rfl (by decide) (by decide) ?_
        refine v_goto (pc := 127) 68 dX9_buy_127 (by decide) ?_
        refine v_lv (v_sg (τ := mBuy τ (j + 1)) ?_ (ih (j + 1) (x + 1) (by omega) (by omega) (by rw [show j + 1 + n = j + (n + 1) by omega]; exact hQ))) ⟨rfl, rfl, rfl, trivial⟩
        rw [← mBuy_s]
        have em : yMore (mY τ) j = max (yNeed (mY τ) j - τ 43 j) 0 := rfl
        rw [em]
        congr 2
        · congr 1
          omega
        · omega
set_option maxHeartbeats 4000000 in
set_option maxRecDepth 100000 in
theorem l_X9_buy1 {g : vGl} {d : Nat} {Q : Option Value → List mC → Prop} {τ : vSt} (hR : MR τ) (h62 : ∀ e : Nat, e < 6 → τ 62 e = yNeed (mY τ) e) {r : Int} (hF : ¬ mCan τ → Q (some (vi (-4))) (hp τ)) (hQ : mCan τ → Q (some (vi r)) (hp (mBuy τ (τ 38 12).toNat))) : ∀ (n : Nat) (j : Nat) (x : Int) (hx : x = j) (hn : (j : Int) + n = τ 38 12) (hb : ∀ e : Nat, e < j → τ 44 e + yMore (mY τ) e ≤ 900), V g mX9_buy d (0, 0, 0, 0) Q 17 [(0, .ref 38), (1, vi r), (2, vi x)] [] (hp τ) := by
  intro n
  induction n with
  | zero =>
    intro j x hx hn hb
    obtain ⟨⟨r0, r1, r2, r3, r4, r5, r6, r7, r8, r9⟩, rE, rS, rT, rF⟩ := id hR
    refine v_iload_n (pc := 17) dX9_buy_17 rfl ?_
    refine v_aload_n (pc := 18) dX9_buy_18 rfl ?_
    refine v_gI (pc := 19) dX9_buy_19 fl_X9_107 rfl ?_
    refine v_icmp_ge (pc := 22) 66 dX9_buy_22 (by decide) (by omega) (by omega) (fun h22 => ?_) (fun h22 => by exfalso; omega)
    refine v_iconst (pc := 66) (0) dX9_buy_66 (by decide) ?_
    refine v_istore_n (pc := 67) dX9_buy_67 (by decide) ?_
    have hC : mCan τ := fun e he => hb e (by omega)
    have k0 := l_X9_buy2 (g := g) (d := d) (Q := Q) hR h62 (r := r) (τ 38 12).toNat 0 0 rfl (by omega) (by rw [Nat.zero_add]; exact hQ hC)
    rw [mBuy_0] at k0
    exact v_lv k0 ⟨rfl, rfl, rfl, trivial⟩
  | succ n ih =>
    intro j x hx hn hb
    obtain ⟨⟨r0, r1, r2, r3, r4, r5, r6, r7, r8, r9⟩, rE, rS, rT, rF⟩ := id hR
    have s1 := rE j
    have s3 := hR.y.need (j : Int)
    have s4 := h62 j (by omega)
    have em : yMore (mY τ) j = max (yNeed (mY τ) j - τ 43 j) 0 := rfl
    refine v_iload_n (pc := 17) dX9_buy_17 rfl ?_
    refine v_aload_n (pc := 18) dX9_buy_18 rfl ?_
    refine v_gI (pc := 19) dX9_buy_19 fl_X9_107 rfl ?_
    refine v_icmp_ge (pc := 22) 66 dX9_buy_22 (by decide) (by omega) (by omega) (fun h22 => by exfalso; omega) (fun h22 => ?_)
    refine v_aload_n (pc := 25) dX9_buy_25 rfl ?_
    refine v_gR (pc := 26) dX9_buy_26 fl_X9_91 rfl ?_
    refine v_iload_n (pc := 29) dX9_buy_29 rfl ?_
    refine v_aI (pc := 30) (j := j) dX9_buy_30 rfl (by omega) (by omega) (by omega) ?_
    refine v_aload_n (pc := 31) dX9_buy_31 rfl ?_
    refine v_gR (pc := 32) dX9_buy_32 fl_X9_22 rfl ?_
    refine v_iload_n (pc := 35) dX9_buy_35 rfl ?_
    refine v_aI (pc := 36) (j := j) dX9_buy_36 rfl (by omega) (by omega) (by omega) ?_
    refine v_isub (pc := 37) dX9_buy_37 ?_
    refine v_istore_n (pc := 38) dX9_buy_38 (by decide) ?_
    refine v_iload_n (pc := 39) dX9_buy_39 rfl ?_
    refine v_if_le (pc := 40) 60 dX9_buy_40 (by decide) (by omega) (fun h40 => ?_) (fun h40 => ?_)
    · refine v_iinc (pc := 60) (1) dX9_buy_60 rfl (by decide) (by decide) ?_
      refine v_goto (pc := 63) 17 dX9_buy_63 (by decide) ?_
      refine v_lv (ih (j + 1) (x + 1) (by omega) (by omega) ?_) ⟨rfl, rfl, rfl, trivial⟩
      intro e he
      rcases (show e < j ∨ e = j by omega) with h | rfl
      · exact hb e h
      · rw [em]
        omega
    · refine v_aload_n (pc := 43) dX9_buy_43 rfl ?_
      refine v_gR (pc := 44) dX9_buy_44 fl_X9_25 rfl ?_
      refine v_iload_n (pc := 47) dX9_buy_47 rfl ?_
      refine v_aI (pc := 48) (j := j) dX9_buy_48 rfl (by omega) (by omega) (by omega) ?_
      refine v_iload_n (pc := 49) dX9_buy_49 rfl ?_
      refine v_iadd (pc := 50) dX9_buy_50 ?_
      refine v_sipush (pc := 51) (900) dX9_buy_51 (by decide) ?_
      refine v_icmp_le (pc := 54) 60 dX9_buy_54 (by decide) (by omega) (by omega) (fun h54 => ?_) (fun h54 => ?_)
      · refine v_iinc (pc := 60) (1) dX9_buy_60 rfl (by decide) (by decide) ?_
        refine v_goto (pc := 63) 17 dX9_buy_63 (by decide) ?_
        refine v_lv (ih (j + 1) (x + 1) (by omega) (by omega) ?_) ⟨rfl, rfl, rfl, trivial⟩
        intro e he
        rcases (show e < j ∨ e = j by omega) with h | rfl
        · exact hb e h
        · rw [em]
          omega
      · refine v_bipush (pc := 57) (-4) dX9_buy_57 (by decide) ?_
        refine v_ireturn (pc := 59) dX9_buy_59 rfl rfl ⟨Nat.le_refl _, Nat.le_refl _⟩ ?_
        refine hF (fun hc => ?_)
        have h1 := hc j (by omega)
        rw [em] at h1
        omega
set_option maxHeartbeats 4000000 in
set_option maxRecDepth 100000 in
theorem c_X9_buy {g : vGl} {d : Nat} {Q : Option Value → List mC → Prop} {σ : vSt} (hd : 3 ≤ d) (hR : MR σ) (hS : σ 38 13 = 0 → Q (some (vi (-3))) (hp σ)) (hF : ¬ σ 38 13 = 0 → ¬ mCan σ → ∀ τ : vSt, (∀ p, p ≠ 62 → τ p = σ p) → Q (some (vi (-4))) (hp τ)) (hQ : ¬ σ 38 13 = 0 → mCan σ → ∀ τ : vSt, (∀ p, p ≠ 62 → τ p = σ p) → Q (some (vi (yPrice (mY σ)))) (hp (mBuy τ (σ 38 12).toNat))) : V g mX9_buy d (0, 0, 0, 0) Q 0 [(0, .ref 38)] [] (hp σ) := by
  obtain ⟨⟨r0, r1, r2, r3, r4, r5, r6, r7, r8, r9⟩, rE, rS, rT, rF⟩ := id hR
  refine v_aload_n (pc := 0) dX9_buy_0 rfl ?_
  refine v_gI (pc := 1) dX9_buy_1 fl_X9_110 rfl ?_
  refine v_if_ne (pc := 4) 10 dX9_buy_4 (by decide) (by omega) (fun h4 => ?_) (fun h4 => ?_)
  · refine v_aload_n (pc := 10) dX9_buy_10 rfl ?_
    refine v_cVi0 (pc := 11) (z := 0) (d' := d - 1) dX9_buy_11 kX9_costs ml_X9_252 iwX9_costs swX9_costs rfl rfl (Nat.le_of_ble_eq_true rfl) (Nat.le_of_ble_eq_true rfl) (by omega) ⟨Nat.le_refl _, Nat.le_refl _⟩ ?_
    refine c_X9_costs (by omega) hR (fun τ h1 h2 => ?_)
    refine ⟨_, rfl, ?_⟩
    refine v_istore_n (pc := 14) dX9_buy_14 (by decide) ?_
    refine v_iconst (pc := 15) (0) dX9_buy_15 (by decide) ?_
    refine v_istore_n (pc := 16) dX9_buy_16 (by decide) ?_
    have eC : mCan τ ↔ mCan σ := by unfold mCan; rw [mY_of h1 (by omega), h1 38 (by decide), h1 44 (by decide)]
    have e38 : τ 38 = σ 38 := h1 38 (by decide)
    have hRt : MR τ := MR_of hR h1 (by omega)
    have r1 := hRt.1
    refine v_lv (l_X9_buy1 hRt (fun e h => by rw [h2 e h, mY_of h1 (by omega)]) (r := yPrice (mY σ)) (fun hc => hF (by omega) (fun h => hc (eC.mpr h)) τ h1) (fun hc => ?_) (τ 38 12).toNat 0 0 rfl (by omega) (fun e he => absurd he (by omega))) ⟨rfl, rfl, rfl, trivial⟩
    rw [e38]
    exact hQ (by omega) (eC.mp hc) τ h1
  · refine v_bipush (pc := 7) (-3) dX9_buy_7 (by decide) ?_
    refine v_ireturn (pc := 9) dX9_buy_9 rfl rfl ⟨Nat.le_refl _, Nat.le_refl _⟩ ?_
    exact hS (by omega)
def YY (σ : vSt) : Prop := (0 ≤ σ 31 6 ∧ σ 31 6 ≤ 10) ∧ ∀ j : Nat, 0 ≤ σ 32 j ∧ σ 32 j ≤ 9 ∧ 0 ≤ σ 33 j ∧ σ 33 j ≤ 11 ∧ 0 ≤ σ 34 j ∧ σ 34 j ≤ 999 ∧ 0 ≤ σ 35 j ∧ σ 35 j ≤ 9 ∧ 0 ≤ σ 36 j ∧ σ 36 j ≤ 9
def qUp (b : Nat → Int) (k : Nat) (z : Int) : Nat → Int := fun j => if j = k then z else b j
def qIns (en : Nat → Int) (e v : Int) : Nat → (Nat → Int) → (Nat → Int)
  | 0, b => qUp b 0 v
  | n + 1, b => if e < en (b n).toNat then qIns en e v n (qUp b (n + 1) (b n)) else qUp b (n + 1) v
/-- a state with one row put in place of another -/
def vRow (σ : vSt) (p : Nat) (f : Nat → Int) : vSt := fun q j => if q = p then f j else σ q j
theorem vRow_self (σ : vSt) (p : Nat) : vRow σ p (σ p) = σ := by funext q j; unfold vRow; by_cases h : q = p <;> simp [h]
theorem vRow_up (σ : vSt) (p : Nat) (f : Nat → Int) (k : Nat) (z : Int) : vU (vRow σ p f) p k z = vRow σ p (qUp f k z) := by
  funext q j
  unfold vU vRow qUp
  by_cases h : q = p
  · subst h; simp
  · simp [h]
theorem vRow_o {σ : vSt} {p q : Nat} {f : Nat → Int} (h : q ≠ p) : vRow σ p f q = σ q := by funext j; simp [vRow, h]
theorem vRow_s {σ : vSt} {p : Nat} {f : Nat → Int} : vRow σ p f p = f := by funext j; simp [vRow]
set_option maxHeartbeats 4000000 in
set_option maxRecDepth 100000 in
theorem l_X7_add {g : vGl} {d : Nat} {Q : Option Value → List mC → Prop} {σ : vSt} {e : Int} (he : vr e) (h33 : ∀ j : Nat, 0 ≤ σ 33 j ∧ σ 33 j ≤ 11) (hs : 0 ≤ σ 31 6 ∧ σ 31 6 < 10) (hQ : ∀ f : Nat → Int, f = qIns (σ 33) e (σ 31 6) (σ 31 6).toNat (σ 35) → Q (some (vi (σ 31 6))) (hp (vU (vRow σ 35 f) 31 6 (σ 31 6 + 1)))) : ∀ (n : Nat) (b : Nat → Int) (x : Int) (hx : x = n) (hn : (n : Int) ≤ σ 31 6) (hb : ∀ j : Nat, 0 ≤ b j ∧ b j ≤ 9) (hi : qIns (σ 33) e (σ 31 6) n b = qIns (σ 33) e (σ 31 6) (σ 31 6).toNat (σ 35)), V g mX7_add d (0, 0, 0, 0) Q 80 [(0, .ref 31), (4, vi e), (6, vi x)] [] (hp (vRow σ 35 b)) := by
  intro n
  induction n with
  | zero =>
    intro b x hx hn hb hi
    refine v_iload (pc := 80) dX7_add_80 rfl ?_
    refine v_if_le (pc := 82) 126 dX7_add_82 (by decide) (by omega) (fun h82 => ?_) (fun h82 => by exfalso; omega)
    refine v_aload_n (pc := 126) dX7_add_126 rfl ?_
    refine v_gR (pc := 127) dX7_add_127 fl_X7_21 rfl ?_
    refine v_iload (pc := 130) dX7_add_130 rfl ?_
    refine v_aload_n (pc := 132) dX7_add_132 rfl ?_
    refine v_gIv (pc := 133) (σ 31 6) dX7_add_133 fl_X7_30 rfl rfl ?_
    refine v_sI (pc := 136) (j := 0) dX7_add_136 rfl (by omega) (by omega) (by omega) ?_
    rw [vRow_up]
    refine v_aload_n (pc := 137) dX7_add_137 rfl ?_
    refine v_dup (pc := 138) dX7_add_138 rfl ?_
    refine v_gI (pc := 139) dX7_add_139 fl_X7_30 rfl ?_
    refine v_iconst (pc := 142) (1) dX7_add_142 (by decide) ?_
    refine v_iadd (pc := 143) dX7_add_143 ?_
    refine v_pI (pc := 144) dX7_add_144 fl_X7_30 rfl ?_
    refine v_aload_n (pc := 147) dX7_add_147 rfl ?_
    refine v_gI (pc := 148) dX7_add_148 fl_X7_30 rfl ?_
    refine v_iconst (pc := 151) (1) dX7_add_151 (by decide) ?_
    refine v_isub (pc := 152) dX7_add_152 ?_
    refine v_ireturn (pc := 153) dX7_add_153 rfl rfl ⟨Nat.le_refl _, Nat.le_refl _⟩ ?_
    rw [vU_same, show vRow σ 35 (qUp b 0 (σ 31 6)) 31 6 = σ 31 6 from rfl, Int.add_sub_cancel]
    exact hQ _ (by rw [← hi]; rfl)
  | succ n ih =>
    intro b x hx hn hb hi
    refine v_iload (pc := 80) dX7_add_80 rfl ?_
    refine v_if_le (pc := 82) 126 dX7_add_82 (by decide) (by omega) (fun h82 => by exfalso; omega) (fun h82 => ?_)
    refine v_aload_n (pc := 85) dX7_add_85 rfl ?_
    refine v_gR (pc := 86) dX7_add_86 fl_X7_15 rfl ?_
    refine v_aload_n (pc := 89) dX7_add_89 rfl ?_
    refine v_gR (pc := 90) dX7_add_90 fl_X7_21 rfl ?_
    refine v_iload (pc := 93) dX7_add_93 rfl ?_
    refine v_iconst (pc := 95) (1) dX7_add_95 (by decide) ?_
    refine v_isub (pc := 96) dX7_add_96 ?_
    refine v_aI (pc := 97) (j := n) dX7_add_97 rfl (by omega) (by omega) (by omega) ?_
    refine v_top (show vRow σ 35 b 35 n = b n by rw [vRow_s]) ?_
    refine v_aIv (pc := 98) (j := (b n).toNat) (σ 33 (b n).toNat) dX7_add_98 rfl rfl (by have := hb n; omega) (by have := hb n; omega) rfl ?_
    refine v_iload (pc := 99) dX7_add_99 rfl ?_
    refine v_icmp_le (pc := 101) 126 dX7_add_101 (by decide) (by have := h33 (b n).toNat; omega) (by omega) (fun h101 => ?_) (fun h101 => ?_)
    · refine v_aload_n (pc := 126) dX7_add_126 rfl ?_
      refine v_gR (pc := 127) dX7_add_127 fl_X7_21 rfl ?_
      refine v_iload (pc := 130) dX7_add_130 rfl ?_
      refine v_aload_n (pc := 132) dX7_add_132 rfl ?_
      refine v_gIv (pc := 133) (σ 31 6) dX7_add_133 fl_X7_30 rfl rfl ?_
      refine v_sI (pc := 136) (j := n + 1) dX7_add_136 rfl (by omega) (by omega) (by omega) ?_
      rw [vRow_up]
      refine v_aload_n (pc := 137) dX7_add_137 rfl ?_
      refine v_dup (pc := 138) dX7_add_138 rfl ?_
      refine v_gI (pc := 139) dX7_add_139 fl_X7_30 rfl ?_
      refine v_iconst (pc := 142) (1) dX7_add_142 (by decide) ?_
      refine v_iadd (pc := 143) dX7_add_143 ?_
      refine v_pI (pc := 144) dX7_add_144 fl_X7_30 rfl ?_
      refine v_aload_n (pc := 147) dX7_add_147 rfl ?_
      refine v_gI (pc := 148) dX7_add_148 fl_X7_30 rfl ?_
      refine v_iconst (pc := 151) (1) dX7_add_151 (by decide) ?_
      refine v_isub (pc := 152) dX7_add_152 ?_
      refine v_ireturn (pc := 153) dX7_add_153 rfl rfl ⟨Nat.le_refl _, Nat.le_refl _⟩ ?_
      rw [vU_same, show vRow σ 35 (qUp b (n + 1) (σ 31 6)) 31 6 = σ 31 6 from rfl, Int.add_sub_cancel]
      exact hQ _ (by rw [← hi]; show _ = (if e < σ 33 (b n).toNat then _ else _); rw [if_neg (by omega)])
    · refine v_aload_n (pc := 104) dX7_add_104 rfl ?_
      refine v_gR (pc := 105) dX7_add_105 fl_X7_21 rfl ?_
      refine v_iload (pc := 108) dX7_add_108 rfl ?_
      refine v_aload_n (pc := 110) dX7_add_110 rfl ?_
      refine v_gR (pc := 111) dX7_add_111 fl_X7_21 rfl ?_
      refine v_iload (pc := 114) dX7_add_114 rfl ?_
      refine v_iconst (pc := 116) (1) dX7_add_116 (by decide) ?_
      refine v_isub (pc := 117) dX7_add_117 ?_
      refine v_aI (pc := 118) (j := n) dX7_add_118 rfl (by omega) (by omega) (by omega) ?_
      refine v_top (show vRow σ 35 b 35 n = b n by rw [vRow_s]) ?_
      refine v_sI (pc := 119) (j := n + 1) dX7_add_119 rfl (by omega) (by omega) (by omega) ?_
      rw [vRow_up]
      refine v_iinc (pc := 120) (-1) dX7_add_120 rfl (by decide) (by decide) ?_
      refine v_goto (pc := 123) 80 dX7_add_123 (by decide) ?_
      refine v_lv (ih _ (x + -1) (by omega) (by omega) ?_ ?_) ⟨rfl, rfl, rfl, trivial⟩
      · intro j
        unfold qUp
        have := hb n
        have := hb j
        split <;> omega
      · rw [← hi]
        show _ = (if e < σ 33 (b n).toNat then qIns (σ 33) e (σ 31 6) n (qUp b (n + 1) (b n)) else qUp b (n + 1) (σ 31 6))
        rw [if_pos (by omega)]
set_option maxHeartbeats 4000000 in
set_option maxRecDepth 100000 in
theorem c_X7_add {g : vGl} {d : Nat} {Q : Option Value → List mC → Prop} {σ : vSt} {a1 b1 c1 e w : Int} (he : vr e) (hY : YY σ) (hF : σ 31 6 = 10 → Q (some (vi (-4))) (hp σ)) (he2 : 0 ≤ e ∧ e ≤ 11) (hQ : σ 31 6 < 10 → ∀ z : Nat, σ 31 6 = z → Q (some (vi z)) (hp (vU (vRow (vU (vU (vU (vU (vU σ 32 (3 * z) a1) 32 (3 * z + 1) b1) 32 (3 * z + 2) c1) 33 z e) 34 z w) 35 (qIns (qUp (σ 33) z e) e z z (σ 35))) 31 6 (z + 1)))) : V g mX7_add d (0, 0, 0, 0) Q 0 [(0, .ref 31), (1, vi a1), (2, vi b1), (3, vi c1), (4, vi e), (5, vi w)] [] (hp σ) := by
  have hs := hY.1
  refine v_aload_n (pc := 0) dX7_add_0 rfl ?_
  refine v_gI (pc := 1) dX7_add_1 fl_X7_30 rfl ?_
  refine v_bipush (pc := 4) (10) dX7_add_4 (by decide) ?_
  refine v_icmp_lt (pc := 6) 12 dX7_add_6 (by decide) (by omega) (by omega) (fun h6 => ?_) (fun h6 => ?_)
  · obtain ⟨z, ez⟩ : ∃ z : Nat, σ 31 6 = z := ⟨(σ 31 6).toNat, by omega⟩
    have hz := hQ (by omega) z ez
    refine v_aload_n (pc := 12) dX7_add_12 rfl ?_
    refine v_gR (pc := 13) dX7_add_13 fl_X7_9 rfl ?_
    refine v_aload_n (pc := 16) dX7_add_16 rfl ?_
    refine v_gIv (pc := 17) (σ 31 6) dX7_add_17 fl_X7_30 rfl rfl ?_
    refine v_iconst (pc := 20) (3) dX7_add_20 (by decide) ?_
    refine v_imul (pc := 21) dX7_add_21 ?_
    refine v_iload_n (pc := 22) dX7_add_22 rfl ?_
    refine v_sI (pc := 23) (j := 3 * z) dX7_add_23 rfl (by omega) (by omega) (by omega) ?_
    refine v_aload_n (pc := 24) dX7_add_24 rfl ?_
    refine v_gR (pc := 25) dX7_add_25 fl_X7_9 rfl ?_
    refine v_aload_n (pc := 28) dX7_add_28 rfl ?_
    refine v_gIv (pc := 29) (σ 31 6) dX7_add_29 fl_X7_30 rfl rfl ?_
    refine v_iconst (pc := 32) (3) dX7_add_32 (by decide) ?_
    refine v_imul (pc := 33) dX7_add_33 ?_
    refine v_iconst (pc := 34) (1) dX7_add_34 (by decide) ?_
    refine v_iadd (pc := 35) dX7_add_35 ?_
    refine v_iload_n (pc := 36) dX7_add_36 rfl ?_
    refine v_sI (pc := 37) (j := 3 * z + 1) dX7_add_37 rfl (by omega) (by omega) (by omega) ?_
    refine v_aload_n (pc := 38) dX7_add_38 rfl ?_
    refine v_gR (pc := 39) dX7_add_39 fl_X7_9 rfl ?_
    refine v_aload_n (pc := 42) dX7_add_42 rfl ?_
    refine v_gIv (pc := 43) (σ 31 6) dX7_add_43 fl_X7_30 rfl rfl ?_
    refine v_iconst (pc := 46) (3) dX7_add_46 (by decide) ?_
    refine v_imul (pc := 47) dX7_add_47 ?_
    refine v_iconst (pc := 48) (2) dX7_add_48 (by decide) ?_
    refine v_iadd (pc := 49) dX7_add_49 ?_
    refine v_iload_n (pc := 50) dX7_add_50 rfl ?_
    refine v_sI (pc := 51) (j := 3 * z + 2) dX7_add_51 rfl (by omega) (by omega) (by omega) ?_
    refine v_aload_n (pc := 52) dX7_add_52 rfl ?_
    refine v_gR (pc := 53) dX7_add_53 fl_X7_15 rfl ?_
    refine v_aload_n (pc := 56) dX7_add_56 rfl ?_
    refine v_gIv (pc := 57) (σ 31 6) dX7_add_57 fl_X7_30 rfl rfl ?_
    refine v_iload (pc := 60) dX7_add_60 rfl ?_
    refine v_sI (pc := 62) (j := z) dX7_add_62 rfl (by omega) (by omega) (by omega) ?_
    refine v_aload_n (pc := 63) dX7_add_63 rfl ?_
    refine v_gR (pc := 64) dX7_add_64 fl_X7_18 rfl ?_
    refine v_aload_n (pc := 67) dX7_add_67 rfl ?_
    refine v_gIv (pc := 68) (σ 31 6) dX7_add_68 fl_X7_30 rfl rfl ?_
    refine v_iload (pc := 71) dX7_add_71 rfl ?_
    refine v_sI (pc := 73) (j := z) dX7_add_73 rfl (by omega) (by omega) (by omega) ?_
    refine v_aload_n (pc := 74) dX7_add_74 rfl ?_
    refine v_gIv (pc := 75) (σ 31 6) dX7_add_75 fl_X7_30 rfl rfl ?_
    refine v_istore (pc := 78) dX7_add_78 (by decide) ?_
    have k0 := l_X7_add (g := g) (d := d) (Q := Q) (σ := vU (vU (vU (vU (vU σ 32 (3 * z) a1) 32 (3 * z + 1) b1) 32 (3 * z + 2) c1) 33 z e) 34 z w) (e := e) he ?_ (show 0 ≤ σ 31 6 ∧ σ 31 6 < 10 by omega) ?_ z (σ 35) (σ 31 6) ez (show (z : Int) ≤ σ 31 6 by omega) (fun j => by have := hY.2 j; omega) (by rw [show (vU (vU (vU (vU (vU σ 32 (3 * z) a1) 32 (3 * z + 1) b1) 32 (3 * z + 2) c1) 33 z e) 34 z w 31 6).toNat = z from by show (σ 31 6).toNat = z; omega]; rfl)
    · rw [show vRow (vU (vU (vU (vU (vU σ 32 (3 * z) a1) 32 (3 * z + 1) b1) 32 (3 * z + 2) c1) 33 z e) 34 z w) 35 (σ 35) = (vU (vU (vU (vU (vU σ 32 (3 * z) a1) 32 (3 * z + 1) b1) 32 (3 * z + 2) c1) 33 z e) 34 z w) from vRow_self _ 35] at k0
      exact v_lv k0 ⟨rfl, rfl, rfl, trivial⟩
    · intro j
      have := hY.2 j
      show 0 ≤ vU σ 33 z e 33 j ∧ vU σ 33 z e 33 j ≤ 11
      unfold vU
      simp only [if_pos]
      split <;> omega
    · intro f hf
      have e1 : f = qIns (qUp (σ 33) z e) e z z (σ 35) := by
        rw [hf]
        show qIns (vU σ 33 z e 33) e (σ 31 6) (σ 31 6).toNat (σ 35) = _
        rw [show (σ 31 6).toNat = z by omega, ez]
        rfl
      rw [e1]
      show Q (some (vi (σ 31 6))) (hp (vU _ 31 6 (σ 31 6 + 1)))
      rw [ez]
      exact hz
  · refine v_bipush (pc := 9) (-4) dX7_add_9 (by decide) ?_
    refine v_ireturn (pc := 11) dX7_add_11 rfl rfl ⟨Nat.le_refl _, Nat.le_refl _⟩ ?_
    exact hF (by omega)
set_option maxHeartbeats 4000000 in
set_option maxRecDepth 100000 in
theorem c_X8_flight {g : vGl} {d : Nat} {Q : Option Value → List mC → Prop} {σ : vSt} (hd : 2 ≤ d) {a1 b1 c1 e w : Int} (ha : vr a1) (hb : vr b1) (hc : vr c1) (he : vr e) (hw : vr w) (hY : YY σ) (hB : ¬ (0 ≤ a1 ∧ a1 ≤ 9 ∧ 0 ≤ b1 ∧ b1 ≤ 9 ∧ 0 ≤ c1 ∧ c1 ≤ 9 ∧ 0 ≤ e ∧ e ≤ 11 ∧ 0 ≤ w ∧ w ≤ 999) → Q (some (vi (-2))) (hp σ)) (hF : (0 ≤ a1 ∧ a1 ≤ 9 ∧ 0 ≤ b1 ∧ b1 ≤ 9 ∧ 0 ≤ c1 ∧ c1 ≤ 9 ∧ 0 ≤ e ∧ e ≤ 11 ∧ 0 ≤ w ∧ w ≤ 999) → σ 31 6 = 10 → Q (some (vi (-4))) (hp σ)) (hQ : (0 ≤ a1 ∧ a1 ≤ 9 ∧ 0 ≤ b1 ∧ b1 ≤ 9 ∧ 0 ≤ c1 ∧ c1 ≤ 9 ∧ 0 ≤ e ∧ e ≤ 11 ∧ 0 ≤ w ∧ w ≤ 999) → σ 31 6 < 10 → ∀ z : Nat, σ 31 6 = z → Q (some (vi z)) (hp (vU (vRow (vU (vU (vU (vU (vU σ 32 (3 * z) a1) 32 (3 * z + 1) b1) 32 (3 * z + 2) c1) 33 z e) 34 z w) 35 (qIns (qUp (σ 33) z e) e z z (σ 35))) 31 6 (z + 1)))) : V g mX8_flight d (0, 0, 0, 0) Q 0 [(0, .ref 1), (1, vi a1), (2, vi b1), (3, vi c1), (4, vi e), (5, vi w)] [] (hp σ) := by
  refine v_iload_n (pc := 0) dX8_flight_0 rfl ?_
  refine v_iconst (pc := 1) (0) dX8_flight_1 (by decide) ?_
  refine v_bipush (pc := 2) (9) dX8_flight_2 (by decide) ?_
  refine v_cSi3 (pc := 4) (d' := d - 1) dX8_flight_4 kX8_within ml_X8_81 stX8_within (Nat.le_of_ble_eq_true rfl) (Nat.le_of_ble_eq_true rfl) (by omega) ⟨Nat.le_refl _, Nat.le_refl _⟩ ?_
  refine c_X8_within (by omega) (by omega) (by omega) ?_
  refine ⟨_, rfl, ?_⟩
  refine v_if_eq (pc := 7) 30 dX8_flight_7 (by decide) (by omega) (fun h7 => ?_) (fun h7 => ?_)
  · refine v_bipush (pc := 30) (-2) dX8_flight_30 (by decide) ?_
    refine v_ireturn (pc := 32) dX8_flight_32 rfl rfl ⟨Nat.le_refl _, Nat.le_refl _⟩ ?_
    exact hB (by omega)
  · refine v_iload_n (pc := 10) dX8_flight_10 rfl ?_
    refine v_iconst (pc := 11) (0) dX8_flight_11 (by decide) ?_
    refine v_bipush (pc := 12) (9) dX8_flight_12 (by decide) ?_
    refine v_cSi3 (pc := 14) (d' := d - 1) dX8_flight_14 kX8_within ml_X8_81 stX8_within (Nat.le_of_ble_eq_true rfl) (Nat.le_of_ble_eq_true rfl) (by omega) ⟨Nat.le_refl _, Nat.le_refl _⟩ ?_
    refine c_X8_within (by omega) (by omega) (by omega) ?_
    refine ⟨_, rfl, ?_⟩
    refine v_if_eq (pc := 17) 30 dX8_flight_17 (by decide) (by omega) (fun h17 => ?_) (fun h17 => ?_)
    · refine v_bipush (pc := 30) (-2) dX8_flight_30 (by decide) ?_
      refine v_ireturn (pc := 32) dX8_flight_32 rfl rfl ⟨Nat.le_refl _, Nat.le_refl _⟩ ?_
      exact hB (by omega)
    · refine v_iload_n (pc := 20) dX8_flight_20 rfl ?_
      refine v_iconst (pc := 21) (0) dX8_flight_21 (by decide) ?_
      refine v_bipush (pc := 22) (9) dX8_flight_22 (by decide) ?_
      refine v_cSi3 (pc := 24) (d' := d - 1) dX8_flight_24 kX8_within ml_X8_81 stX8_within (Nat.le_of_ble_eq_true rfl) (Nat.le_of_ble_eq_true rfl) (by omega) ⟨Nat.le_refl _, Nat.le_refl _⟩ ?_
      refine c_X8_within (by omega) (by omega) (by omega) ?_
      refine ⟨_, rfl, ?_⟩
      refine v_if_ne (pc := 27) 33 dX8_flight_27 (by decide) (by omega) (fun h27 => ?_) (fun h27 => ?_)
      · refine v_iload (pc := 33) dX8_flight_33 rfl ?_
        refine v_iconst (pc := 35) (0) dX8_flight_35 (by decide) ?_
        refine v_bipush (pc := 36) (11) dX8_flight_36 (by decide) ?_
        refine v_cSi3 (pc := 38) (d' := d - 1) dX8_flight_38 kX8_within ml_X8_81 stX8_within (Nat.le_of_ble_eq_true rfl) (Nat.le_of_ble_eq_true rfl) (by omega) ⟨Nat.le_refl _, Nat.le_refl _⟩ ?_
        refine c_X8_within (by omega) (by omega) (by omega) ?_
        refine ⟨_, rfl, ?_⟩
        refine v_if_eq (pc := 41) 56 dX8_flight_41 (by decide) (by omega) (fun h41 => ?_) (fun h41 => ?_)
        · refine v_bipush (pc := 56) (-2) dX8_flight_56 (by decide) ?_
          refine v_ireturn (pc := 58) dX8_flight_58 rfl rfl ⟨Nat.le_refl _, Nat.le_refl _⟩ ?_
          exact hB (by omega)
        · refine v_iload (pc := 44) dX8_flight_44 rfl ?_
          refine v_iconst (pc := 46) (0) dX8_flight_46 (by decide) ?_
          refine v_sipush (pc := 47) (999) dX8_flight_47 (by decide) ?_
          refine v_cSi3 (pc := 50) (d' := d - 1) dX8_flight_50 kX8_within ml_X8_81 stX8_within (Nat.le_of_ble_eq_true rfl) (Nat.le_of_ble_eq_true rfl) (by omega) ⟨Nat.le_refl _, Nat.le_refl _⟩ ?_
          refine c_X8_within (by omega) (by omega) (by omega) ?_
          refine ⟨_, rfl, ?_⟩
          refine v_if_ne (pc := 53) 59 dX8_flight_53 (by decide) (by omega) (fun h53 => ?_) (fun h53 => ?_)
          · refine v_aload_n (pc := 59) dX8_flight_59 rfl ?_
            refine v_gR (pc := 60) dX8_flight_60 fl_X8_77 rfl ?_
            refine v_iload_n (pc := 63) dX8_flight_63 rfl ?_
            refine v_iload_n (pc := 64) dX8_flight_64 rfl ?_
            refine v_iload_n (pc := 65) dX8_flight_65 rfl ?_
            refine v_iload (pc := 66) dX8_flight_66 rfl ?_
            refine v_iload (pc := 68) dX8_flight_68 rfl ?_
            refine v_cVi5 (pc := 70) (z := 0) (d' := d - 1) dX8_flight_70 kX7_add ml_X8_246 iwX7_add swX7_add rfl rfl (Nat.le_of_ble_eq_true rfl) (Nat.le_of_ble_eq_true rfl) (by omega) ⟨Nat.le_refl _, Nat.le_refl _⟩ ?_
            refine c_X7_add he hY (fun ha => ?_) (by omega) (fun ha z hz => ?_)
            · refine ⟨_, rfl, ?_⟩
              refine v_ireturn (pc := 73) dX8_flight_73 rfl rfl ⟨Nat.le_refl _, Nat.le_refl _⟩ ?_
              exact hF (by omega) ha
            · refine ⟨_, rfl, ?_⟩
              refine v_ireturn (pc := 73) dX8_flight_73 rfl rfl ⟨Nat.le_refl _, Nat.le_refl _⟩ ?_
              exact hQ (by omega) ha z hz
          · refine v_bipush (pc := 56) (-2) dX8_flight_56 (by decide) ?_
            refine v_ireturn (pc := 58) dX8_flight_58 rfl rfl ⟨Nat.le_refl _, Nat.le_refl _⟩ ?_
            exact hB (by omega)
      · refine v_bipush (pc := 30) (-2) dX8_flight_30 (by decide) ?_
        refine v_ireturn (pc := 32) dX8_flight_32 rfl rfl ⟨Nat.le_refl _, Nat.le_refl _⟩ ?_
        exact hB (by omega)
set_option maxHeartbeats 4000000 in
set_option maxRecDepth 100000 in
theorem c_X9_flight {g : vGl} {d : Nat} {Q : Option Value → List mC → Prop} {σ : vSt} (hd : 2 ≤ d) {a1 b1 c1 e w : Int} (ha : vr a1) (hb : vr b1) (hc : vr c1) (he : vr e) (hw : vr w) (hs : 0 ≤ σ 38 45 ∧ σ 38 45 ≤ 10) (hB : ¬ (0 ≤ a1 ∧ a1 ≤ 9 ∧ 0 ≤ b1 ∧ b1 ≤ 9 ∧ 0 ≤ c1 ∧ c1 ≤ 9 ∧ 0 ≤ e ∧ e ≤ 11 ∧ 0 ≤ w ∧ w ≤ 999) → Q (some (vi (-2))) (hp σ)) (hF : (0 ≤ a1 ∧ a1 ≤ 9 ∧ 0 ≤ b1 ∧ b1 ≤ 9 ∧ 0 ≤ c1 ∧ c1 ≤ 9 ∧ 0 ≤ e ∧ e ≤ 11 ∧ 0 ≤ w ∧ w ≤ 999) → σ 38 45 = 10 → Q (some (vi (-4))) (hp σ)) (hQ : (0 ≤ a1 ∧ a1 ≤ 9 ∧ 0 ≤ b1 ∧ b1 ≤ 9 ∧ 0 ≤ c1 ∧ c1 ≤ 9 ∧ 0 ≤ e ∧ e ≤ 11 ∧ 0 ≤ w ∧ w ≤ 999) → σ 38 45 < 10 → ∀ z : Nat, σ 38 45 = z → Q (some (vi z)) (hp (vU (vU (vU (vU (vU (vU σ 63 (3 * z) a1) 63 (3 * z + 1) b1) 63 (3 * z + 2) c1) 64 z e) 65 z w) 38 45 (z + 1)))) : V g mX9_flight d (0, 0, 0, 0) Q 0 [(0, .ref 38), (1, vi a1), (2, vi b1), (3, vi c1), (4, vi e), (5, vi w)] [] (hp σ) := by
  refine v_iload_n (pc := 0) dX9_flight_0 rfl ?_
  refine v_i2l (pc := 1) dX9_flight_1 (by omega) ?_
  refine v_lconst (pc := 2) (0) dX9_flight_2 (by decide) ?_
  refine v_ldc2 (pc := 3) (9) dX9_flight_3 kc_X9_127 ?_
  refine v_cSi3 (pc := 6) (d' := d - 1) dX9_flight_6 kX9_isIn ml_X9_115 stX9_isIn (Nat.le_of_ble_eq_true rfl) (Nat.le_of_ble_eq_true rfl) (by omega) ⟨Nat.le_refl _, Nat.le_refl _⟩ ?_
  refine c_X9_isIn (by omega) (by omega) (by omega) ?_
  refine ⟨_, rfl, ?_⟩
  refine v_if_eq (pc := 9) 62 dX9_flight_9 (by decide) (by omega) (fun h9 => ?_) (fun h9 => ?_)
  · refine v_bipush (pc := 62) (-2) dX9_flight_62 (by decide) ?_
    refine v_ireturn (pc := 64) dX9_flight_64 rfl rfl ⟨Nat.le_refl _, Nat.le_refl _⟩ ?_
    exact hB (by omega)
  · refine v_iload_n (pc := 12) dX9_flight_12 rfl ?_
    refine v_i2l (pc := 13) dX9_flight_13 (by omega) ?_
    refine v_lconst (pc := 14) (0) dX9_flight_14 (by decide) ?_
    refine v_ldc2 (pc := 15) (9) dX9_flight_15 kc_X9_127 ?_
    refine v_cSi3 (pc := 18) (d' := d - 1) dX9_flight_18 kX9_isIn ml_X9_115 stX9_isIn (Nat.le_of_ble_eq_true rfl) (Nat.le_of_ble_eq_true rfl) (by omega) ⟨Nat.le_refl _, Nat.le_refl _⟩ ?_
    refine c_X9_isIn (by omega) (by omega) (by omega) ?_
    refine ⟨_, rfl, ?_⟩
    refine v_if_eq (pc := 21) 62 dX9_flight_21 (by decide) (by omega) (fun h21 => ?_) (fun h21 => ?_)
    · refine v_bipush (pc := 62) (-2) dX9_flight_62 (by decide) ?_
      refine v_ireturn (pc := 64) dX9_flight_64 rfl rfl ⟨Nat.le_refl _, Nat.le_refl _⟩ ?_
      exact hB (by omega)
    · refine v_iload_n (pc := 24) dX9_flight_24 rfl ?_
      refine v_i2l (pc := 25) dX9_flight_25 (by omega) ?_
      refine v_lconst (pc := 26) (0) dX9_flight_26 (by decide) ?_
      refine v_ldc2 (pc := 27) (9) dX9_flight_27 kc_X9_127 ?_
      refine v_cSi3 (pc := 30) (d' := d - 1) dX9_flight_30 kX9_isIn ml_X9_115 stX9_isIn (Nat.le_of_ble_eq_true rfl) (Nat.le_of_ble_eq_true rfl) (by omega) ⟨Nat.le_refl _, Nat.le_refl _⟩ ?_
      refine c_X9_isIn (by omega) (by omega) (by omega) ?_
      refine ⟨_, rfl, ?_⟩
      refine v_if_eq (pc := 33) 62 dX9_flight_33 (by decide) (by omega) (fun h33 => ?_) (fun h33 => ?_)
      · refine v_bipush (pc := 62) (-2) dX9_flight_62 (by decide) ?_
        refine v_ireturn (pc := 64) dX9_flight_64 rfl rfl ⟨Nat.le_refl _, Nat.le_refl _⟩ ?_
        exact hB (by omega)
      · refine v_iload (pc := 36) dX9_flight_36 rfl ?_
        refine v_i2l (pc := 38) dX9_flight_38 (by omega) ?_
        refine v_lconst (pc := 39) (0) dX9_flight_39 (by decide) ?_
        refine v_ldc2 (pc := 40) (11) dX9_flight_40 kc_X9_259 ?_
        refine v_cSi3 (pc := 43) (d' := d - 1) dX9_flight_43 kX9_isIn ml_X9_115 stX9_isIn (Nat.le_of_ble_eq_true rfl) (Nat.le_of_ble_eq_true rfl) (by omega) ⟨Nat.le_refl _, Nat.le_refl _⟩ ?_
        refine c_X9_isIn (by omega) (by omega) (by omega) ?_
        refine ⟨_, rfl, ?_⟩
        refine v_if_eq (pc := 46) 62 dX9_flight_46 (by decide) (by omega) (fun h46 => ?_) (fun h46 => ?_)
        · refine v_bipush (pc := 62) (-2) dX9_flight_62 (by decide) ?_
          refine v_ireturn (pc := 64) dX9_flight_64 rfl rfl ⟨Nat.le_refl _, Nat.le_refl _⟩ ?_
          exact hB (by omega)
        · refine v_iload (pc := 49) dX9_flight_49 rfl ?_
          refine v_i2l (pc := 51) dX9_flight_51 (by omega) ?_
          refine v_lconst (pc := 52) (0) dX9_flight_52 (by decide) ?_
          refine v_ldc2 (pc := 53) (999) dX9_flight_53 kc_X9_113 ?_
          refine v_cSi3 (pc := 56) (d' := d - 1) dX9_flight_56 kX9_isIn ml_X9_115 stX9_isIn (Nat.le_of_ble_eq_true rfl) (Nat.le_of_ble_eq_true rfl) (by omega) ⟨Nat.le_refl _, Nat.le_refl _⟩ ?_
          refine c_X9_isIn (by omega) (by omega) (by omega) ?_
          refine ⟨_, rfl, ?_⟩
          refine v_if_ne (pc := 59) 65 dX9_flight_59 (by decide) (by omega) (fun h59 => ?_) (fun h59 => ?_)
          · refine v_aload_n (pc := 65) dX9_flight_65 rfl ?_
            refine v_gI (pc := 66) dX9_flight_66 fl_X9_261 rfl ?_
            refine v_bipush (pc := 69) (10) dX9_flight_69 (by decide) ?_
            refine v_icmp_ne (pc := 71) 77 dX9_flight_71 (by decide) (by omega) (by omega) (fun h71 => ?_) (fun h71 => ?_)
            · obtain ⟨z, ez⟩ : ∃ z : Nat, σ 38 45 = z := ⟨(σ 38 45).toNat, by omega⟩
              have hz := hQ (by omega) (by omega) z ez
              refine v_aload_n (pc := 77) dX9_flight_77 rfl ?_
              refine v_gR (pc := 78) dX9_flight_78 fl_X9_94 rfl ?_
              refine v_iconst (pc := 81) (3) dX9_flight_81 (by decide) ?_
              refine v_aload_n (pc := 82) dX9_flight_82 rfl ?_
              refine v_gIv (pc := 83) (σ 38 45) dX9_flight_83 fl_X9_261 rfl rfl ?_
              refine v_imul (pc := 86) dX9_flight_86 ?_
              refine v_iload_n (pc := 87) dX9_flight_87 rfl ?_
              refine v_sI (pc := 88) (j := 3 * z) dX9_flight_88 rfl (by omega) (by omega) (by omega) ?_
              refine v_aload_n (pc := 89) dX9_flight_89 rfl ?_
              refine v_gR (pc := 90) dX9_flight_90 fl_X9_94 rfl ?_
              refine v_iconst (pc := 93) (3) dX9_flight_93 (by decide) ?_
              refine v_aload_n (pc := 94) dX9_flight_94 rfl ?_
              refine v_gIv (pc := 95) (σ 38 45) dX9_flight_95 fl_X9_261 rfl rfl ?_
              refine v_imul (pc := 98) dX9_flight_98 ?_
              refine v_iconst (pc := 99) (1) dX9_flight_99 (by decide) ?_
              refine v_iadd (pc := 100) dX9_flight_100 ?_
              refine v_iload_n (pc := 101) dX9_flight_101 rfl ?_
              refine v_sI (pc := 102) (j := 3 * z + 1) dX9_flight_102 rfl (by omega) (by omega) (by omega) ?_
              refine v_aload_n (pc := 103) dX9_flight_103 rfl ?_
              refine v_gR (pc := 104) dX9_flight_104 fl_X9_94 rfl ?_
              refine v_iconst (pc := 107) (3) dX9_flight_107 (by decide) ?_
              refine v_aload_n (pc := 108) dX9_flight_108 rfl ?_
              refine v_gIv (pc := 109) (σ 38 45) dX9_flight_109 fl_X9_261 rfl rfl ?_
              refine v_imul (pc := 112) dX9_flight_112 ?_
              refine v_iconst (pc := 113) (2) dX9_flight_113 (by decide) ?_
              refine v_iadd (pc := 114) dX9_flight_114 ?_
              refine v_iload_n (pc := 115) dX9_flight_115 rfl ?_
              refine v_sI (pc := 116) (j := 3 * z + 2) dX9_flight_116 rfl (by omega) (by omega) (by omega) ?_
              refine v_aload_n (pc := 117) dX9_flight_117 rfl ?_
              refine v_gR (pc := 118) dX9_flight_118 fl_X9_97 rfl ?_
              refine v_aload_n (pc := 121) dX9_flight_121 rfl ?_
              refine v_gIv (pc := 122) (σ 38 45) dX9_flight_122 fl_X9_261 rfl rfl ?_
              refine v_iload (pc := 125) dX9_flight_125 rfl ?_
              refine v_sI (pc := 127) (j := z) dX9_flight_127 rfl (by omega) (by omega) (by omega) ?_
              refine v_aload_n (pc := 128) dX9_flight_128 rfl ?_
              refine v_gR (pc := 129) dX9_flight_129 fl_X9_100 rfl ?_
              refine v_aload_n (pc := 132) dX9_flight_132 rfl ?_
              refine v_gIv (pc := 133) (σ 38 45) dX9_flight_133 fl_X9_261 rfl rfl ?_
              refine v_iload (pc := 136) dX9_flight_136 rfl ?_
              refine v_sI (pc := 138) (j := z) dX9_flight_138 rfl (by omega) (by omega) (by omega) ?_
              refine v_aload_n (pc := 139) dX9_flight_139 rfl ?_
              refine v_dup (pc := 140) dX9_flight_140 rfl ?_
              refine v_gIv (pc := 141) (σ 38 45) dX9_flight_141 fl_X9_261 rfl rfl ?_
              refine v_iconst (pc := 144) (1) dX9_flight_144 (by decide) ?_
              refine v_iadd (pc := 145) dX9_flight_145 ?_
              refine v_pI (pc := 146) dX9_flight_146 fl_X9_261 rfl ?_
              refine v_aload_n (pc := 149) dX9_flight_149 rfl ?_
              refine v_gI (pc := 150) dX9_flight_150 fl_X9_261 rfl ?_
              refine v_iconst (pc := 153) (1) dX9_flight_153 (by decide) ?_
              refine v_isub (pc := 154) dX9_flight_154 ?_
              refine v_ireturn (pc := 155) dX9_flight_155 rfl rfl ⟨Nat.le_refl _, Nat.le_refl _⟩ ?_
              rw [vU_same, ez, Int.add_sub_cancel]
              exact hz
            · refine v_bipush (pc := 74) (-4) dX9_flight_74 (by decide) ?_
              refine v_ireturn (pc := 76) dX9_flight_76 rfl rfl ⟨Nat.le_refl _, Nat.le_refl _⟩ ?_
              exact hF (by omega) (by omega)
          · refine v_bipush (pc := 62) (-2) dX9_flight_62 (by decide) ?_
            refine v_ireturn (pc := 64) dX9_flight_64 rfl rfl ⟨Nat.le_refl _, Nat.le_refl _⟩ ?_
            exact hB (by omega)
