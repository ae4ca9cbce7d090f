theorem MR_of {σ τ : vSt} {q : Nat} (h : MR σ) (e : ∀ p, p ≠ q → τ p = σ p) (hq : q < 38 ∨ 48 < q) : MR τ := by
  unfold MR
  rw [e 38 (by omega), e 39 (by omega), e 40 (by omega), e 41 (by omega), e 42 (by omega), e 43 (by omega), e 44 (by omega), e 45 (by omega), e 46 (by omega), e 47 (by omega), e 48 (by omega)]
  exact h
theorem mY_of {σ τ : vSt} {q : Nat} (e : ∀ p, p ≠ q → τ p = σ p) (hq : q < 38 ∨ 48 < q) : mY τ = mY σ := by
  unfold mY
  rw [e 38 (by omega), e 39 (by omega), e 40 (by omega), e 41 (by omega), e 42 (by omega), e 43 (by omega), e 44 (by omega), e 45 (by omega), e 46 (by omega), e 47 (by omega), e 48 (by omega)]
theorem qCost_snoc (lr : Int) : ∀ (m : Nat) (c : Int), qCost lr c (m + 1) = qNext lr (qCost lr c m) := by
  intro m
  induction m with
  | zero => intro c; rfl
  | succ m ih => intro c; exact ih (qNext lr c)
theorem qCosts_sum (lr c : Int) (B : Nat) : ∀ n b : Nat, qSum (fun i => qCost lr c (B + i)) n b = qCosts lr (qCost lr c (B + b)) n := by
  intro n
  induction n with
  | zero => intro b; rfl
  | succ n ih =>
    intro b
    show qCost lr c (B + b) + qSum _ n (b + 1) = qCost lr c (B + b) + qCosts lr (qNext lr (qCost lr c (B + b))) n
    rw [ih, ← qCost_snoc]
    rfl
set_option maxHeartbeats 4000000 in
set_option maxRecDepth 100000 in
theorem l_X9_costs4 {g : vGl} {d : Nat} {Q : Option Value → List mC → Prop} {τ : vSt} {x fr : Int} {k : Nat} (hd : 1 ≤ d) (hR : MR τ) (hx : x = k) (hk : (k : Int) < τ 38 12) (hfr : fr ≤ 1000) (hlo : -2147483648 ≤ fr) : ∀ (n : Nat) (b : Nat) (y s : Int) (hy : y = b) (hn : (b : Int) + n = max fr 0) (hQ : V g mX9_costs d (0, 0, 0, 0) Q 142 [(0, .ref 38), (1, vi (s + qSum (fun i => qCost (τ 38 16) (τ 42 k) ((τ 44 k).toNat + i)) n b)), (2, vi x)] [] (hp τ)), V g mX9_costs d (0, 0, 0, 0) Q 113 [(0, .ref 38), (1, vi s), (2, vi x), (3, vi fr), (4, vi y)] [] (hp τ) := by
  intro n
  induction n with
  | zero =>
    intro b y s hy hn hQ
    have r9 : fr ≤ 1000 := hfr
    have q9 : -2147483648 ≤ fr := hlo
    refine v_iload (pc := 113) dX9_costs_113 rfl ?_
    refine v_iload_n (pc := 115) dX9_costs_115 rfl ?_
    refine v_icmp_ge (pc := 116) 142 dX9_costs_116 (by decide) (by omega) (by omega) (fun h116 => ?_) (fun h116 => by exfalso; omega)
    refine v_lv hQ ⟨rfl, ?_, rfl, trivial⟩
    show some (vi s) = some (vi (s + qSum _ 0 b))
    rw [show s + qSum (fun i => qCost (τ 38 16) (τ 42 k) ((τ 44 k).toNat + i)) 0 b = s from Int.add_zero s]
  | succ n ih =>
    intro b y s hy hn hQ
    obtain ⟨⟨r0, r1, r2, r3, r4, r5, r6, r7, r8, r9⟩, rE, rS, rT, rF⟩ := id hR
    have s1 := rE k
    have s2 := rF k hk
    refine v_iload (pc := 113) dX9_costs_113 rfl ?_
    refine v_iload_n (pc := 115) dX9_costs_115 rfl ?_
    refine v_icmp_ge (pc := 116) 142 dX9_costs_116 (by decide) (by omega) (by omega) (fun h116 => by exfalso; omega) (fun h116 => ?_)
    refine v_iload_n (pc := 119) dX9_costs_119 rfl ?_
    refine v_aload_n (pc := 120) dX9_costs_120 rfl ?_
    refine v_iload_n (pc := 121) dX9_costs_121 rfl ?_
    refine v_aload_n (pc := 122) dX9_costs_122 rfl ?_
    refine v_gR (pc := 123) dX9_costs_123 fl_X9_25 rfl ?_
    refine v_iload_n (pc := 126) dX9_costs_126 rfl ?_
    refine v_aI (pc := 127) (j := k) dX9_costs_127 rfl (by omega) (by omega) (by omega) ?_
    refine v_iload (pc := 128) dX9_costs_128 rfl ?_
    refine v_iadd (pc := 130) dX9_costs_130 ?_
    refine v_cVi2 (pc := 131) (z := 0) (d' := d - 1) dX9_costs_131 kX9_costOf ml_X9_248 iwX9_costOf swX9_costOf rfl rfl (Nat.le_of_ble_eq_true rfl) (Nat.le_of_ble_eq_true rfl) (by omega) ⟨Nat.le_refl _, Nat.le_refl _⟩ ?_
    refine c_X9_costOf (k := k) hR hx hk (by omega) ?_
    refine ⟨_, rfl, ?_⟩
    refine v_iadd (pc := 134) dX9_costs_134 ?_
    refine v_istore_n (pc := 135) dX9_costs_135 (by decide) ?_
    refine v_iinc (pc := 136) (1) dX9_costs_136 rfl (by decide) (by decide) ?_
    refine v_goto (pc := 139) 113 dX9_costs_139 (by decide) ?_
    refine v_lv (ih (b + 1) (y + 1) _ (by omega) (by omega) ?_) ⟨rfl, rfl, rfl, rfl, rfl, trivial⟩
    refine v_lv hQ ⟨rfl, ?_, rfl, trivial⟩
    show some (vi _) = some (vi _)
    congr 2
    show s + qCost (τ 38 16) (τ 42 k) (τ 44 k + y).toNat + _ = s + (qCost (τ 38 16) (τ 42 k) ((τ 44 k).toNat + b) + _)
    rw [show (τ 44 k + y).toNat = (τ 44 k).toNat + b by omega]
    omega
set_option maxHeartbeats 4000000 in
set_option maxRecDepth 100000 in
theorem l_X9_costs3 {g : vGl} {d : Nat} {Q : Option Value → List mC → Prop} {τ : vSt} (hd : 2 ≤ d) (hR : MR τ) (h62 : ∀ e : Nat, e < 6 → τ 62 e = yNeed (mY τ) e) : ∀ (n : Nat) (j : Nat) (x s : Int) (hx : x = j) (hn : (j : Int) + n = τ 38 12) (hQ : Q (some (vi (s + qSum (yFresh (mY τ)) n j))) (hp τ)), V g mX9_costs d (0, 0, 0, 0) Q 88 [(0, .ref 38), (1, vi s), (2, vi x)] [] (hp τ) := by
  intro n
  induction n with
  | zero =>
    intro j x s hx hn hQ
    obtain ⟨⟨r0, r1, r2, r3, r4, r5, r6, r7, r8, r9⟩, rE, rS, rT, rF⟩ := id hR
    refine v_iload_n (pc := 88) dX9_costs_88 rfl ?_
    refine v_aload_n (pc := 89) dX9_costs_89 rfl ?_
    refine v_gI (pc := 90) dX9_costs_90 fl_X9_107 rfl ?_
    refine v_icmp_ge (pc := 93) 148 dX9_costs_93 (by decide) (by omega) (by omega) (fun h93 => ?_) (fun h93 => by exfalso; omega)
    refine v_iload_n (pc := 148) dX9_costs_148 rfl ?_
    refine v_ireturn (pc := 149) dX9_costs_149 rfl rfl ⟨Nat.le_refl _, Nat.le_refl _⟩ ?_
    simpa [qSum] using hQ
  | succ n ih =>
    intro j x s hx hn hQ
    obtain ⟨⟨r0, r1, r2, r3, r4, r5, r6, r7, r8, r9⟩, rE, rS, rT, rF⟩ := id hR
    have s1 := rE j
    have s3 := hR.y.need (j : Int)
    have s4 := h62 j (by omega)
    refine v_iload_n (pc := 88) dX9_costs_88 rfl ?_
    refine v_aload_n (pc := 89) dX9_costs_89 rfl ?_
    refine v_gI (pc := 90) dX9_costs_90 fl_X9_107 rfl ?_
    refine v_icmp_ge (pc := 93) 148 dX9_costs_93 (by decide) (by omega) (by omega) (fun h93 => by exfalso; omega) (fun h93 => ?_)
    refine v_aload_n (pc := 96) dX9_costs_96 rfl ?_
    refine v_gR (pc := 97) dX9_costs_97 fl_X9_91 rfl ?_
    refine v_iload_n (pc := 100) dX9_costs_100 rfl ?_
    refine v_aI (pc := 101) (j := j) dX9_costs_101 rfl (by omega) (by omega) (by omega) ?_
    refine v_aload_n (pc := 102) dX9_costs_102 rfl ?_
    refine v_gR (pc := 103) dX9_costs_103 fl_X9_22 rfl ?_
    refine v_iload_n (pc := 106) dX9_costs_106 rfl ?_
    refine v_aI (pc := 107) (j := j) dX9_costs_107 rfl (by omega) (by omega) (by omega) ?_
    refine v_isub (pc := 108) dX9_costs_108 ?_
    refine v_istore_n (pc := 109) dX9_costs_109 (by decide) ?_
    refine v_iconst (pc := 110) (0) dX9_costs_110 (by decide) ?_
    refine v_istore (pc := 111) dX9_costs_111 (by decide) ?_
    refine v_lv (l_X9_costs4 (τ := τ) (x := x) (k := j) (by omega) hR hx (by omega) (by omega) (by omega) (τ 62 j - τ 43 j).toNat 0 0 s rfl (by omega) ?_) ⟨rfl, rfl, rfl, rfl, rfl, trivial⟩
    rw [qCosts_sum, Nat.add_zero, s4]
    refine v_iinc (pc := 142) (1) dX9_costs_142 rfl (by decide) (by decide) ?_
    refine v_goto (pc := 145) 88 dX9_costs_145 (by decide) ?_
    refine v_lv (ih (j + 1) (x + 1) _ (by omega) (by omega) ?_) ⟨rfl, rfl, rfl, trivial⟩
    refine q_eq hQ ?_
    show s + yFresh (mY τ) j + _ = s + (yFresh (mY τ) j + _)
    omega
set_option maxHeartbeats 4000000 in
set_option maxRecDepth 100000 in
theorem l_X9_costs2 {g : vGl} {d : Nat} {Q : Option Value → List mC → Prop} {σ : vSt} (hd : 2 ≤ d) (hR0 : MR σ) (hQ : ∀ τ : vSt, (∀ p, p ≠ 62 → τ p = σ p) → (∀ e : Nat, e < 6 → τ 62 e = yNeed (mY σ) e) → Q (some (vi (yPrice (mY σ)))) (hp τ)) : ∀ (n : Nat) (τ : vSt) (he : ∀ p, p ≠ 62 → τ p = σ p) (j : Nat) (x s : Int) (hx : x = j) (hn : (j : Int) + n = τ 38 13) (hs : s = qSum (yFrame (mY τ)) j 0) (hv : ∀ e : Nat, e < 6 → τ 62 e = qSum (fun k => if τ 45 k = (e : Int) then τ 46 k else 0) j 0), V g mX9_costs d (0, 0, 0, 0) Q 25 [(0, .ref 38), (1, vi s), (2, vi x)] [] (hp τ) := by
  intro n
  induction n with
  | zero =>
    intro τ he j x s hx hn hs hv
    have hR : MR τ := MR_of hR0 he (by omega)
    obtain ⟨⟨r0, r1, r2, r3, r4, r5, r6, r7, r8, r9⟩, rE, rS, rT, rF⟩ := id hR
    refine v_iload_n (pc := 25) dX9_costs_25 rfl ?_
    refine v_aload_n (pc := 26) dX9_costs_26 rfl ?_
    refine v_gI (pc := 27) dX9_costs_27 fl_X9_110 rfl ?_
    refine v_icmp_ge (pc := 30) 86 dX9_costs_30 (by decide) (by omega) (by omega) (fun h30 => ?_) (fun h30 => by exfalso; omega)
    refine v_iconst (pc := 86) (0) dX9_costs_86 (by decide) ?_
    refine v_istore_n (pc := 87) dX9_costs_87 (by decide) ?_
    have h62 : ∀ e : Nat, e < 6 → τ 62 e = yNeed (mY τ) e := fun e h => by
      rw [hv e h]
      show qSum _ j 0 = qSum _ (τ 38 13).toNat 0
      rw [show (τ 38 13).toNat = j by omega]
      rfl
    refine v_lv (l_X9_costs3 hd hR h62 (τ 38 12).toNat 0 0 s rfl (by omega) ?_) ⟨rfl, rfl, rfl, trivial⟩
    refine q_eq (hQ τ he (fun e h => by rw [h62 e h, mY_of he (by omega)])) ?_
    rw [hs, ← mY_of he (by omega)]
    show _ = qSum (yFresh (mY τ)) (τ 38 12).toNat 0 + qSum (yFrame (mY τ)) (τ 38 13).toNat 0
    rw [show (τ 38 13).toNat = j by omega]
    omega
  | succ n ih =>
    intro τ he j x s hx hn hs hv
    have hR : MR τ := MR_of hR0 he (by omega)
    obtain ⟨⟨r0, r1, r2, r3, r4, r5, r6, r7, r8, r9⟩, rE, rS, rT, rF⟩ := id hR
    have s1 := rS j
    refine v_iload_n (pc := 25) dX9_costs_25 rfl ?_
    refine v_aload_n (pc := 26) dX9_costs_26 rfl ?_
    refine v_gI (pc := 27) dX9_costs_27 fl_X9_110 rfl ?_
    refine v_icmp_ge (pc := 30) 86 dX9_costs_30 (by decide) (by omega) (by omega) (fun h30 => by exfalso; omega) (fun h30 => ?_)
    refine v_aload_n (pc := 33) dX9_costs_33 rfl ?_
    refine v_gR (pc := 34) dX9_costs_34 fl_X9_91 rfl ?_
    refine v_aload_n (pc := 37) dX9_costs_37 rfl ?_
    refine v_gR (pc := 38) dX9_costs_38 fl_X9_28 rfl ?_
    refine v_iload_n (pc := 41) dX9_costs_41 rfl ?_
    refine v_aI (pc := 42) (j := j) dX9_costs_42 rfl (by omega) (by omega) (by omega) ?_
    refine v_dup2 (pc := 43) dX9_costs_43 rfl rfl ?_
    refine v_aI (pc := 44) (j := (τ 45 j).toNat) dX9_costs_44 rfl rfl (by omega) (by omega) ?_
    refine v_aload_n (pc := 45) dX9_costs_45 rfl ?_
    refine v_gR (pc := 46) dX9_costs_46 fl_X9_31 rfl ?_
    refine v_iload_n (pc := 49) dX9_costs_49 rfl ?_
    refine v_aI (pc := 50) (j := j) dX9_costs_50 rfl (by omega) (by omega) (by omega) ?_
    refine v_iadd (pc := 51) dX9_costs_51 ?_
    refine v_sI (pc := 52) (j := (τ 45 j).toNat) dX9_costs_52 rfl rfl (by omega) (by omega) ?_
    refine v_iload_n (pc := 53) dX9_costs_53 rfl ?_
    refine v_aload_n (pc := 54) dX9_costs_54 rfl ?_
    refine v_gR (pc := 55) dX9_costs_55 fl_X9_37 rfl ?_
    refine v_iload_n (pc := 58) dX9_costs_58 rfl ?_
    refine v_aIv (pc := 59) (j := j) (τ 48 j) dX9_costs_59 rfl (by omega) (by omega) (by omega) rfl ?_
    refine v_aload_n (pc := 60) dX9_costs_60 rfl ?_
    refine v_gR (pc := 61) dX9_costs_61 fl_X9_34 rfl ?_
    refine v_iload_n (pc := 64) dX9_costs_64 rfl ?_
    refine v_aIv (pc := 65) (j := j) (τ 47 j) dX9_costs_65 rfl (by omega) (by omega) (by omega) rfl ?_
    refine v_if_le (pc := 66) 76 dX9_costs_66 (by decide) (by omega) (fun h66 => ?_) (fun h66 => ?_)
    · refine v_iconst (pc := 76) (0) dX9_costs_76 (by decide) ?_
      refine v_iadd (pc := 77) dX9_costs_77 ?_
      refine v_iadd (pc := 78) dX9_costs_78 ?_
      refine v_istore_n (pc := 79) dX9_costs_79 (by decide) ?_
      refine v_iinc (pc := 80) (1) dX9_costs_80 rfl (by decide) (by decide) ?_
      refine v_goto (pc := 83) 25 dX9_costs_83 (by decide) ?_
      refine v_lv (ih _ ?_ (j + 1) (x + 1) _ (by omega) ?_ ?_ ?_) ⟨rfl, rfl, rfl, trivial⟩
      · intro p hp0
        rw [← he p hp0]
        exact vU_ne' hp0
      · show (((j + 1 : Nat)) : Int) + n = τ 38 13
        omega
      · rw [hs]
        show qSum (yFrame (mY τ)) j 0 + _ = qSum (yFrame (mY τ)) (j + 1) 0
        rw [qSum_snoc, Nat.zero_add]
        show _ = _ + (τ 48 j + (if 0 < τ 47 j then τ 38 15 else 0))
        omega
      · intro e h
        show vU τ 62 (τ 45 j).toNat _ 62 e = qSum (fun k => if τ 45 k = (e : Int) then τ 46 k else 0) (j + 1) 0
        rw [qSum_snoc, Nat.zero_add]
        show _ = qSum (fun k => if τ 45 k = (e : Int) then τ 46 k else 0) j 0 + (if τ 45 j = (e : Int) then τ 46 j else 0)
        rw [← hv e h]
        by_cases hk : e = (τ 45 j).toNat
        · subst hk
          rw [vU_same, if_pos (by omega)]
        · rw [vU_nk hk, if_neg (by omega), Int.add_zero]
    · refine v_aload_n (pc := 69) dX9_costs_69 rfl ?_
      refine v_gIv (pc := 70) (τ 38 15) dX9_costs_70 fl_X9_50 rfl rfl ?_
      refine v_goto (pc := 73) 77 dX9_costs_73 (by decide) ?_
      refine v_iadd (pc := 77) dX9_costs_77 ?_
      refine v_iadd (pc := 78) dX9_costs_78 ?_
      refine v_istore_n (pc := 79) dX9_costs_79 (by decide) ?_
      refine v_iinc (pc := 80) (1) dX9_costs_80 rfl (by decide) (by decide) ?_
      refine v_goto (pc := 83) 25 dX9_costs_83 (by decide) ?_
      refine v_lv (ih _ ?_ (j + 1) (x + 1) _ (by omega) ?_ ?_ ?_) ⟨rfl, rfl, rfl, trivial⟩
      · intro p hp0
        rw [← he p hp0]
        exact vU_ne' hp0
      · show (((j + 1 : Nat)) : Int) + n = τ 38 13
        omega
      · rw [hs]
        show qSum (yFrame (mY τ)) j 0 + _ = qSum (yFrame (mY τ)) (j + 1) 0
        rw [qSum_snoc, Nat.zero_add]
        show _ = _ + (τ 48 j + (if 0 < τ 47 j then τ 38 15 else 0))
        omega
      · intro e h
        show vU τ 62 (τ 45 j).toNat _ 62 e = qSum (fun k => if τ 45 k = (e : Int) then τ 46 k else 0) (j + 1) 0
        rw [qSum_snoc, Nat.zero_add]
        show _ = qSum (fun k => if τ 45 k = (e : Int) then τ 46 k else 0) j 0 + (if τ 45 j = (e : Int) then τ 46 j else 0)
        rw [← hv e h]
        by_cases hk : e = (τ 45 j).toNat
        · subst hk
          rw [vU_same, if_pos (by omega)]
        · rw [vU_nk hk, if_neg (by omega), Int.add_zero]
set_option maxHeartbeats 4000000 in
set_option maxRecDepth 100000 in
theorem l_X9_costs1 {g : vGl} {d : Nat} {Q : Option Value → List mC → Prop} {σ : vSt} (hd : 2 ≤ d) (hR0 : MR σ) (hQ : ∀ τ : vSt, (∀ p, p ≠ 62 → τ p = σ p) → (∀ e : Nat, e < 6 → τ 62 e = yNeed (mY σ) e) → Q (some (vi (yPrice (mY σ)))) (hp τ)) : ∀ (n : Nat) (τ : vSt) (he : ∀ p, p ≠ 62 → τ p = σ p) (j : Nat) (x : Int) (hx : x = j) (hn : j + n = 6) (hv : ∀ e : Nat, e < j → τ 62 e = 0), V g mX9_costs d (0, 0, 0, 0) Q 4 [(0, .ref 38), (1, vi 0), (2, vi x)] [] (hp τ) := by
  intro n
  induction n with
  | zero =>
    intro τ he j x hx hn hv
    refine v_iload_n (pc := 4) dX9_costs_4 rfl ?_
    refine v_bipush (pc := 5) (6) dX9_costs_5 (by decide) ?_
    refine v_icmp_ge (pc := 7) 23 dX9_costs_7 (by decide) (by omega) (by omega) (fun h7 => ?_) (fun h7 => by exfalso; omega)
    refine v_iconst (pc := 23) (0) dX9_costs_23 (by decide) ?_
    refine v_istore_n (pc := 24) dX9_costs_24 (by decide) ?_
    have hR : MR τ := MR_of hR0 he (by omega)
    have r1 := hR.1
    refine v_lv (l_X9_costs2 hd hR0 hQ (τ 38 13).toNat τ he 0 0 0 rfl (by omega) rfl (fun e h => ?_)) ⟨rfl, rfl, rfl, trivial⟩
    rw [hv e (by omega)]
    rfl
  | succ n ih =>
    intro τ he j x hx hn hv
    refine v_iload_n (pc := 4) dX9_costs_4 rfl ?_
    refine v_bipush (pc := 5) (6) dX9_costs_5 (by decide) ?_
    refine v_icmp_ge (pc := 7) 23 dX9_costs_7 (by decide) (by omega) (by omega) (fun h7 => by exfalso; omega) (fun h7 => ?_)
    refine v_aload_n (pc := 10) dX9_costs_10 rfl ?_
    refine v_gR (pc := 11) dX9_costs_11 fl_X9_91 rfl ?_
    refine v_iload_n (pc := 14) dX9_costs_14 rfl ?_
    refine v_iconst (pc := 15) (0) dX9_costs_15 (by decide) ?_
    refine v_sI (pc := 16) (j := j) dX9_costs_16 rfl (by omega) (by omega) (by omega) ?_
    refine v_iinc (pc := 17) (1) dX9_costs_17 rfl (by decide) (by decide) ?_
    refine v_goto (pc := 20) 4 dX9_costs_20 (by decide) ?_
    refine v_lv (ih _ ?_ (j + 1) (x + 1) (by omega) (by omega) ?_) ⟨rfl, rfl, rfl, trivial⟩
    · intro p hp0
      rw [← he p hp0]
      exact vU_ne' hp0
    · intro e h
      by_cases hk : e = j
      · subst hk; exact vU_same _ _ _ _
      · rw [vU_nk hk]; exact hv e (by omega)
set_option maxHeartbeats 4000000 in
set_option maxRecDepth 100000 in
theorem c_X9_costs {g : vGl} {d : Nat} {Q : Option Value → List mC → Prop} {σ : vSt} (hd : 2 ≤ d) (hR : MR σ) (hQ : ∀ τ : vSt, (∀ p, p ≠ 62 → τ p = σ p) → (∀ e : Nat, e < 6 → τ 62 e = yNeed (mY σ) e) → Q (some (vi (yPrice (mY σ)))) (hp τ)) : V g mX9_costs d (0, 0, 0, 0) Q 0 [(0, .ref 38)] [] (hp σ) := by
  refine v_iconst (pc := 0) (0) dX9_costs_0 (by decide) ?_
  refine v_istore_n (pc := 1) dX9_costs_1 (by decide) ?_
  refine v_iconst (pc := 2) (0) dX9_costs_2 (by decide) ?_
  refine v_istore_n (pc := 3) dX9_costs_3 (by decide) ?_
  exact v_lv (l_X9_costs1 hd hR hQ 6 σ (fun _ _ => rfl) 0 0 rfl rfl (fun e h => absurd h (by omega))) ⟨rfl, rfl, rfl, trivial⟩
set_option maxHeartbeats 4000000 in
set_option maxRecDepth 100000 in
theorem c_X9_price {g : vGl} {d : Nat} {Q : Option Value → List mC → Prop} {σ : vSt} (hd : 3 ≤ d) (hR : MR σ) (hS : σ 38 13 = 0 → Q (some (vi (-3))) (hp σ)) (hQ : ¬ σ 38 13 = 0 → ∀ τ : vSt, (∀ p, p ≠ 62 → τ p = σ p) → Q (some (vi (yPrice (mY σ)))) (hp τ)) : V g mX9_price d (0, 0, 0, 0) Q 0 [(0, .ref 38)] [] (hp σ) := by
  obtain ⟨⟨r0, r1, r2, r3, r4, r5, r6, r7, r8, r9⟩, rE, rS, rT, rF⟩ := id hR
  refine v_aload_n (pc := 0) dX9_price_0 rfl ?_
  refine v_gI (pc := 1) dX9_price_1 fl_X9_110 rfl ?_
  refine v_if_ne (pc := 4) 12 dX9_price_4 (by decide) (by omega) (fun h4 => ?_) (fun h4 => ?_)
  · refine v_aload_n (pc := 12) dX9_price_12 rfl ?_
    refine v_cVi0 (pc := 13) (z := 0) (d' := d - 1) dX9_price_13 kX9_costs ml_X9_252 iwX9_costs swX9_costs rfl rfl (Nat.le_of_ble_eq_true rfl) (Nat.le_of_ble_eq_true rfl) (by omega) ⟨Nat.le_refl _, Nat.le_refl _⟩ ?_
    refine c_X9_costs (by omega) hR (fun τ h1 h2 => ?_)
    refine ⟨_, rfl, ?_⟩
    refine v_ireturn (pc := 16) dX9_price_16 rfl rfl ⟨Nat.le_refl _, Nat.le_refl _⟩ ?_
    first | exact hS (by omega) | exact hQ (by omega) τ h1
  · refine v_bipush (pc := 7) (-3) dX9_price_7 (by decide) ?_
    refine v_goto (pc := 9) 16 dX9_price_9 (by decide) ?_
    refine v_ireturn (pc := 16) dX9_price_16 rfl rfl ⟨Nat.le_refl _, Nat.le_refl _⟩ ?_
    first | exact hS (by omega) | exact hQ (by omega) τ h1
theorem shr_ok {a : Int} (h : 0 ≤ a) (h2 : a ≤ 2147483647) (t : Int) (k : Nat) (hs : ((Int32.ofInt t &&& 31).toBitVec.smod 32).toNat = k) : Int32.ofInt a >>> (Int32.ofInt t &&& 31) = Int32.ofInt (a / ((2 ^ k : Nat) : Int)) := by
  obtain ⟨n, rfl⟩ : ∃ n : Nat, a = n := ⟨a.toNat, by omega⟩
  have e := pk_shrN (n := n) (by omega) (Int32.ofInt t &&& 31) k hs
  unfold nI at e
  rw [Int32.ofInt_eq_ofNat, e, ← Int32.ofInt_eq_ofNat]
  rfl
theorem and_ok {a m : Int} (h : 0 ≤ a) (h2 : a ≤ 2147483647) (k : Nat) (hm : (Int32.ofInt m).toBitVec.toNat = 2 ^ k - 1) : Int32.ofInt a &&& Int32.ofInt m = Int32.ofInt (a % ((2 ^ k : Nat) : Int)) := by
  obtain ⟨n, rfl⟩ : ∃ n : Nat, a = n := ⟨a.toNat, by omega⟩
  have e := pk_andN (n := n) (by omega) (m := Int32.ofInt m) k hm
  unfold nI at e
  rw [Int32.ofInt_eq_ofNat (n := n), e, ← Int32.ofInt_eq_ofNat]
  rfl
theorem shl_ok {a : Int} (h : 0 ≤ a) (t : Int) (k : Nat) (h2 : a * ((2 ^ k : Nat) : Int) < 4294967296) (hs : ((Int32.ofInt t &&& 31).toBitVec.smod 32).toNat = k) : Int32.ofInt a <<< (Int32.ofInt t &&& 31) = Int32.ofInt (a * ((2 ^ k : Nat) : Int)) := by
  obtain ⟨n, rfl⟩ : ∃ n : Nat, a = n := ⟨a.toNat, by omega⟩
  have h3 : n * 2 ^ k < 2 ^ 32 := by
    have : ((n * 2 ^ k : Nat) : Int) < 4294967296 := by rw [Int.natCast_mul]; exact h2
    omega
  have e := pk_shlN (n := n) (Int32.ofInt t &&& 31) k hs h3
  unfold nI at e
  rw [Int32.ofInt_eq_ofNat, e, ← Int32.ofInt_eq_ofNat, Int.natCast_mul]
def qPow (k : Nat) : Int := if k = 0 then 32768 else if k = 1 then 1024 else if k = 2 then 32 else 1
def qDig (key : Int) (k : Nat) : Int := key / qPow k % 32
set_option maxHeartbeats 4000000 in
set_option maxRecDepth 100000 in
theorem c_X8_digitIn {g : vGl} {d : Nat} {Q : Option Value → List mC → Prop} {σ : vSt} {key x : Int} {k : Nat} (hx : x = k) (hk : k ≤ 3) (hk0 : 0 ≤ key) (hk1 : key ≤ 2147483647) (hQ : Q (some (vi (qDig key k))) (hp σ)) : V g mX8_digitIn d (0, 0, 0, 0) Q 0 [(0, vi key), (1, vi x)] [] (hp σ) := by
  rcases (show k = 0 ∨ k = 1 ∨ k = 2 ∨ k = 3 by omega) with rfl | rfl | rfl | rfl
  · refine v_iload_n (pc := 0) dX8_digitIn_0 rfl ?_
    refine v_iconst (pc := 1) (5) dX8_digitIn_1 (by decide) ?_
    refine v_iconst (pc := 2) (3) dX8_digitIn_2 (by decide) ?_
    refine v_iload_n (pc := 3) dX8_digitIn_3 rfl ?_
    refine v_isub (pc := 4) dX8_digitIn_4 ?_
    refine v_imul (pc := 5) dX8_digitIn_5 ?_
    refine v_ishr (pc := 6) dX8_digitIn_6 (shr_ok (by omega) (by omega) _ 15 (by rw [hx]; decide)) ?_
    refine v_bipush (pc := 7) (31) dX8_digitIn_7 (by decide) ?_
    refine v_iand (pc := 9) dX8_digitIn_9 (and_ok (by have := Int.ediv_nonneg (b := ((2 ^ 15 : Nat) : Int)) hk0 (by decide); exact this) (by have := Int.ediv_le_self ((2 ^ 15 : Nat) : Int) hk0; omega) 5 (by decide)) ?_
    refine v_ireturn (pc := 10) dX8_digitIn_10 rfl rfl ⟨Nat.le_refl _, Nat.le_refl _⟩ ?_
    exact hQ
  · refine v_iload_n (pc := 0) dX8_digitIn_0 rfl ?_
    refine v_iconst (pc := 1) (5) dX8_digitIn_1 (by decide) ?_
    refine v_iconst (pc := 2) (3) dX8_digitIn_2 (by decide) ?_
    refine v_iload_n (pc := 3) dX8_digitIn_3 rfl ?_
    refine v_isub (pc := 4) dX8_digitIn_4 ?_
    refine v_imul (pc := 5) dX8_digitIn_5 ?_
    refine v_ishr (pc := 6) dX8_digitIn_6 (shr_ok (by omega) (by omega) _ 10 (by rw [hx]; decide)) ?_
    refine v_bipush (pc := 7) (31) dX8_digitIn_7 (by decide) ?_
    refine v_iand (pc := 9) dX8_digitIn_9 (and_ok (by have := Int.ediv_nonneg (b := ((2 ^ 10 : Nat) : Int)) hk0 (by decide); exact this) (by have := Int.ediv_le_self ((2 ^ 10 : Nat) : Int) hk0; omega) 5 (by decide)) ?_
    refine v_ireturn (pc := 10) dX8_digitIn_10 rfl rfl ⟨Nat.le_refl _, Nat.le_refl _⟩ ?_
    exact hQ
  · refine v_iload_n (pc := 0) dX8_digitIn_0 rfl ?_
    refine v_iconst (pc := 1) (5) dX8_digitIn_1 (by decide) ?_
    refine v_iconst (pc := 2) (3) dX8_digitIn_2 (by decide) ?_
    refine v_iload_n (pc := 3) dX8_digitIn_3 rfl ?_
    refine v_isub (pc := 4) dX8_digitIn_4 ?_
    refine v_imul (pc := 5) dX8_digitIn_5 ?_
    refine v_ishr (pc := 6) dX8_digitIn_6 (shr_ok (by omega) (by omega) _ 5 (by rw [hx]; decide)) ?_
    refine v_bipush (pc := 7) (31) dX8_digitIn_7 (by decide) ?_
    refine v_iand (pc := 9) dX8_digitIn_9 (and_ok (by have := Int.ediv_nonneg (b := ((2 ^ 5 : Nat) : Int)) hk0 (by decide); exact this) (by have := Int.ediv_le_self ((2 ^ 5 : Nat) : Int) hk0; omega) 5 (by decide)) ?_
    refine v_ireturn (pc := 10) dX8_digitIn_10 rfl rfl ⟨Nat.le_refl _, Nat.le_refl _⟩ ?_
    exact hQ
  · refine v_iload_n (pc := 0) dX8_digitIn_0 rfl ?_
    refine v_iconst (pc := 1) (5) dX8_digitIn_1 (by decide) ?_
    refine v_iconst (pc := 2) (3) dX8_digitIn_2 (by decide) ?_
    refine v_iload_n (pc := 3) dX8_digitIn_3 rfl ?_
    refine v_isub (pc := 4) dX8_digitIn_4 ?_
    refine v_imul (pc := 5) dX8_digitIn_5 ?_
    refine v_ishr (pc := 6) dX8_digitIn_6 (shr_ok (by omega) (by omega) _ 0 (by rw [hx]; decide)) ?_
    refine v_bipush (pc := 7) (31) dX8_digitIn_7 (by decide) ?_
    refine v_iand (pc := 9) dX8_digitIn_9 (and_ok (by have := Int.ediv_nonneg (b := ((2 ^ 0 : Nat) : Int)) hk0 (by decide); exact this) (by have := Int.ediv_le_self ((2 ^ 0 : Nat) : Int) hk0; omega) 5 (by decide)) ?_
    refine v_ireturn (pc := 10) dX8_digitIn_10 rfl rfl ⟨Nat.le_refl _, Nat.le_refl _⟩ ?_
    exact hQ
set_option maxHeartbeats 4000000 in
set_option maxRecDepth 100000 in
theorem c_X8_digitFor {g : vGl} {d : Nat} {Q : Option Value → List mC → Prop} {σ : vSt} {v x : Int} {k : Nat} (hx : x = k) (hk : k ≤ 3) (hv0 : 0 ≤ v) (hv1 : v ≤ 31) (hQ : Q (some (vi (v * qPow k))) (hp σ)) : V g mX8_digitFor d (0, 0, 0, 0) Q 0 [(0, vi x), (1, vi v)] [] (hp σ) := by
  rcases (show k = 0 ∨ k = 1 ∨ k = 2 ∨ k = 3 by omega) with rfl | rfl | rfl | rfl
  · refine v_iload_n (pc := 0) dX8_digitFor_0 rfl ?_
    refine v_iconst (pc := 1) (5) dX8_digitFor_1 (by decide) ?_
    refine v_iconst (pc := 2) (3) dX8_digitFor_2 (by decide) ?_
    refine v_iload_n (pc := 3) dX8_digitFor_3 rfl ?_
    refine v_isub (pc := 4) dX8_digitFor_4 ?_
    refine v_imul (pc := 5) dX8_digitFor_5 ?_
    refine v_ishl (pc := 6) dX8_digitFor_6 (shl_ok hv0 _ 15 (by omega) (by rw [hx]; decide)) ?_
    refine v_ireturn (pc := 7) dX8_digitFor_7 rfl rfl ⟨Nat.le_refl _, Nat.le_refl _⟩ ?_
    exact hQ
  · refine v_iload_n (pc := 0) dX8_digitFor_0 rfl ?_
    refine v_iconst (pc := 1) (5) dX8_digitFor_1 (by decide) ?_
    refine v_iconst (pc := 2) (3) dX8_digitFor_2 (by decide) ?_
    refine v_iload_n (pc := 3) dX8_digitFor_3 rfl ?_
    refine v_isub (pc := 4) dX8_digitFor_4 ?_
    refine v_imul (pc := 5) dX8_digitFor_5 ?_
    refine v_ishl (pc := 6) dX8_digitFor_6 (shl_ok hv0 _ 10 (by omega) (by rw [hx]; decide)) ?_
    refine v_ireturn (pc := 7) dX8_digitFor_7 rfl rfl ⟨Nat.le_refl _, Nat.le_refl _⟩ ?_
    exact hQ
  · refine v_iload_n (pc := 0) dX8_digitFor_0 rfl ?_
    refine v_iconst (pc := 1) (5) dX8_digitFor_1 (by decide) ?_
    refine v_iconst (pc := 2) (3) dX8_digitFor_2 (by decide) ?_
    refine v_iload_n (pc := 3) dX8_digitFor_3 rfl ?_
    refine v_isub (pc := 4) dX8_digitFor_4 ?_
    refine v_imul (pc := 5) dX8_digitFor_5 ?_
    refine v_ishl (pc := 6) dX8_digitFor_6 (shl_ok hv0 _ 5 (by omega) (by rw [hx]; decide)) ?_
    refine v_ireturn (pc := 7) dX8_digitFor_7 rfl rfl ⟨Nat.le_refl _, Nat.le_refl _⟩ ?_
    exact hQ
  · refine v_iload_n (pc := 0) dX8_digitFor_0 rfl ?_
    refine v_iconst (pc := 1) (5) dX8_digitFor_1 (by decide) ?_
    refine v_iconst (pc := 2) (3) dX8_digitFor_2 (by decide) ?_
    refine v_iload_n (pc := 3) dX8_digitFor_3 rfl ?_
    refine v_isub (pc := 4) dX8_digitFor_4 ?_
    refine v_imul (pc := 5) dX8_digitFor_5 ?_
    refine v_ishl (pc := 6) dX8_digitFor_6 (shl_ok hv0 _ 0 (by omega) (by rw [hx]; decide)) ?_
    refine v_ireturn (pc := 7) dX8_digitFor_7 rfl rfl ⟨Nat.le_refl _, Nat.le_refl _⟩ ?_
    exact hQ
set_option maxHeartbeats 4000000 in
set_option maxRecDepth 100000 in
theorem c_X8_lots {g : vGl} {d : Nat} {Q : Option Value → List mC → Prop} {σ : vSt} (hd : 1 ≤ d) {x : Int} (hx : vr x) (hs : 0 ≤ σ 17 6 ∧ σ 17 6 ≤ 4) (hk : 0 ≤ σ 17 5 ∧ σ 17 5 ≤ 2147483647) (hN : ¬ (0 ≤ x ∧ x < σ 17 6) → Q (some (vi (-1))) (hp σ)) (hQ : 0 ≤ x → x < σ 17 6 → Q (some (vi (qDig (σ 17 5) x.toNat))) (hp σ)) : V g mX8_lots d (0, 0, 0, 0) Q 0 [(0, .ref 1), (1, vi x)] [] (hp σ) := by
  refine v_iload_n (pc := 0) dX8_lots_0 rfl ?_
  refine v_iconst (pc := 1) (0) dX8_lots_1 (by decide) ?_
  refine v_aload_n (pc := 2) dX8_lots_2 rfl ?_
  refine v_gR (pc := 3) dX8_lots_3 fl_X8_37 rfl ?_
  refine v_gI (pc := 6) dX8_lots_6 fl_X8_146 rfl ?_
  refine v_iconst (pc := 9) (1) dX8_lots_9 (by decide) ?_
  refine v_isub (pc := 10) dX8_lots_10 ?_
  refine v_cSi3 (pc := 11) (d' := d - 1) dX8_lots_11 kX8_within ml_X8_81 stX8_within (Nat.le_of_ble_eq_true rfl) (Nat.le_of_ble_eq_true rfl) (by omega) ⟨Nat.le_refl _, Nat.le_refl _⟩ ?_
  refine c_X8_within (by omega) (by omega) (by omega) ?_
  refine ⟨_, rfl, ?_⟩
  refine v_if_ne (pc := 14) 19 dX8_lots_14 (by decide) (by omega) (fun h14 => ?_) (fun h14 => ?_)
  · refine v_aload_n (pc := 19) dX8_lots_19 rfl ?_
    refine v_gR (pc := 20) dX8_lots_20 fl_X8_37 rfl ?_
    refine v_gI (pc := 23) dX8_lots_23 fl_X8_149 rfl ?_
    refine v_iload_n (pc := 26) dX8_lots_26 rfl ?_
    refine v_cSi2 (pc := 27) (d' := d - 1) dX8_lots_27 kX8_digitIn ml_X8_152 stX8_digitIn (Nat.le_of_ble_eq_true rfl) (Nat.le_of_ble_eq_true rfl) (by omega) ⟨Nat.le_refl _, Nat.le_refl _⟩ ?_
    refine c_X8_digitIn (k := x.toNat) (by omega) (by omega) hk.1 hk.2 ?_
    refine ⟨_, rfl, ?_⟩
    refine v_ireturn (pc := 30) dX8_lots_30 rfl rfl ⟨Nat.le_refl _, Nat.le_refl _⟩ ?_
    exact hQ (by omega) (by omega)
  · refine v_iconst (pc := 17) (-1) dX8_lots_17 (by decide) ?_
    refine v_ireturn (pc := 18) dX8_lots_18 rfl rfl ⟨Nat.le_refl _, Nat.le_refl _⟩ ?_
    exact hN (by omega)
set_option maxHeartbeats 4000000 in
set_option maxRecDepth 100000 in
theorem c_X9_lots {g : vGl} {d : Nat} {Q : Option Value → List mC → Prop} {σ : vSt} (hd : 1 ≤ d) {x : Int} (hx : vr x) (hs : 0 ≤ σ 38 20 ∧ σ 38 20 ≤ 4) (hN : ¬ (0 ≤ x ∧ x < σ 38 20) → Q (some (vi (-1))) (hp σ)) (hQ : 0 ≤ x → x < σ 38 20 → Q (some (vi (σ 53 x.toNat))) (hp σ)) : V g mX9_lots d (0, 0, 0, 0) Q 0 [(0, .ref 38), (1, vi x)] [] (hp σ) := by
  refine v_iload_n (pc := 0) dX9_lots_0 rfl ?_
  refine v_i2l (pc := 1) dX9_lots_1 (by omega) ?_
  refine v_lconst (pc := 2) (0) dX9_lots_2 (by decide) ?_
  refine v_aload_n (pc := 3) dX9_lots_3 rfl ?_
  refine v_gI (pc := 4) dX9_lots_4 fl_X9_177 rfl ?_
  refine v_iconst (pc := 7) (1) dX9_lots_7 (by decide) ?_
  refine v_isub (pc := 8) dX9_lots_8 ?_
  refine v_i2l (pc := 9) dX9_lots_9 (by omega) ?_
  refine v_cSi3 (pc := 10) (d' := d - 1) dX9_lots_10 kX9_isIn ml_X9_115 stX9_isIn (Nat.le_of_ble_eq_true rfl) (Nat.le_of_ble_eq_true rfl) (by omega) ⟨Nat.le_refl _, Nat.le_refl _⟩ ?_
  refine c_X9_isIn (by omega) (by omega) (by omega) ?_
  refine ⟨_, rfl, ?_⟩
  refine v_if_eq (pc := 13) 25 dX9_lots_13 (by decide) (by omega) (fun h13 => ?_) (fun h13 => ?_)
  · refine v_iconst (pc := 25) (-1) dX9_lots_25 (by decide) ?_
    refine v_ireturn (pc := 26) dX9_lots_26 rfl rfl ⟨Nat.le_refl _, Nat.le_refl _⟩ ?_
    first | exact hN (by omega) | exact hQ (by omega) (by omega)
  · refine v_aload_n (pc := 16) dX9_lots_16 rfl ?_
    refine v_gR (pc := 17) dX9_lots_17 fl_X9_62 rfl ?_
    refine v_iload_n (pc := 20) dX9_lots_20 rfl ?_
    refine v_aI (pc := 21) dX9_lots_21 rfl rfl (by omega) (by omega) ?_
    refine v_goto (pc := 22) 26 dX9_lots_22 (by decide) ?_
    refine v_ireturn (pc := 26) dX9_lots_26 rfl rfl ⟨Nat.le_refl _, Nat.le_refl _⟩ ?_
    first | exact hN (by omega) | exact hQ (by omega) (by omega)
set_option maxHeartbeats 4000000 in
set_option maxRecDepth 100000 in
theorem c_X0_engineIn {g : vGl} {d : Nat} {Q : Option Value → List mC → Prop} {σ : vSt} {x : Int} (hx : 0 ≤ x ∧ x ≤ 100000) (hQ : Q (some (vi (x / 3))) (hp σ)) : V g mX0_engineIn d (0, 0, 0, 0) Q 0 [(0, vi x)] [] (hp σ) := by
  refine v_iload_n (pc := 0) dX0_engineIn_0 rfl ?_
  refine v_iconst (pc := 1) (3) dX0_engineIn_1 (by decide) ?_
  refine v_idiv (pc := 2) dX0_engineIn_2 (by omega) (by omega) (by omega) ?_
  refine v_ireturn (pc := 3) dX0_engineIn_3 rfl rfl ⟨Nat.le_refl _, Nat.le_refl _⟩ ?_
  rw [tdiv_pos hx.1]; exact hQ
set_option maxHeartbeats 4000000 in
set_option maxRecDepth 100000 in
theorem c_X0_manyIn {g : vGl} {d : Nat} {Q : Option Value → List mC → Prop} {σ : vSt} {x : Int} (hx : 0 ≤ x ∧ x ≤ 100000) (hQ : Q (some (vi (x % 3 + 1))) (hp σ)) : V g mX0_manyIn d (0, 0, 0, 0) Q 0 [(0, vi x)] [] (hp σ) := by
  refine v_iload_n (pc := 0) dX0_manyIn_0 rfl ?_
  refine v_iconst (pc := 1) (3) dX0_manyIn_1 (by decide) ?_
  refine v_irem (pc := 2) dX0_manyIn_2 (by omega) (by omega) (by omega) ?_
  refine v_iconst (pc := 3) (1) dX0_manyIn_3 (by decide) ?_
  refine v_iadd (pc := 4) dX0_manyIn_4 ?_
  refine v_ireturn (pc := 5) dX0_manyIn_5 rfl rfl ⟨Nat.le_refl _, Nat.le_refl _⟩ ?_
  rw [tdiv_pos hx.1]; exact q_eq hQ (by omega)
set_option maxHeartbeats 4000000 in
set_option maxRecDepth 100000 in
theorem c_X0_optionOf {g : vGl} {d : Nat} {Q : Option Value → List mC → Prop} {σ : vSt} {x y : Int} (hQ : Q (some (vi (x * 3 + y - 1))) (hp σ)) : V g mX0_optionOf d (0, 0, 0, 0) Q 0 [(0, vi x), (1, vi y)] [] (hp σ) := by
  refine v_iload_n (pc := 0) dX0_optionOf_0 rfl ?_
  refine v_iconst (pc := 1) (3) dX0_optionOf_1 (by decide) ?_
  refine v_imul (pc := 2) dX0_optionOf_2 ?_
  refine v_iload_n (pc := 3) dX0_optionOf_3 rfl ?_
  refine v_iadd (pc := 4) dX0_optionOf_4 ?_
  refine v_iconst (pc := 5) (1) dX0_optionOf_5 (by decide) ?_
  refine v_isub (pc := 6) dX0_optionOf_6 ?_
  refine v_ireturn (pc := 7) dX0_optionOf_7 rfl rfl ⟨Nat.le_refl _, Nat.le_refl _⟩ ?_
  exact hQ
def qPick (wh v : Int) : Int := if wh = 0 then v / 3 else v % 3 + 1
set_option maxHeartbeats 4000000 in
set_option maxRecDepth 100000 in
theorem c_X8_chosen {g : vGl} {d : Nat} {Q : Option Value → List mC → Prop} {σ : vSt} (hd : 2 ≤ d) {x wh : Int} (hx : vr x) (hw : vr wh) (hs : 0 ≤ σ 20 13 ∧ σ 20 13 ≤ 3) (hk : 0 ≤ σ 20 12 ∧ σ 20 12 ≤ 2147483647) (hN : ¬ (0 ≤ x ∧ x < σ 20 13 ∧ 0 ≤ wh ∧ wh ≤ 1) → Q (some (vi (-1))) (hp σ)) (hQ : 0 ≤ x → x < σ 20 13 → 0 ≤ wh → wh ≤ 1 → Q (some (vi (qPick wh (qDig (σ 20 12) x.toNat)))) (hp σ)) : V g mX8_chosen d (0, 0, 0, 0) Q 0 [(0, .ref 1), (1, vi x), (2, vi wh)] [] (hp σ) := by
  refine v_iload_n (pc := 0) dX8_chosen_0 rfl ?_
  refine v_iconst (pc := 1) (0) dX8_chosen_1 (by decide) ?_
  refine v_aload_n (pc := 2) dX8_chosen_2 rfl ?_
  refine v_gR (pc := 3) dX8_chosen_3 fl_X8_44 rfl ?_
  refine v_gI (pc := 6) dX8_chosen_6 fl_X8_158 rfl ?_
  refine v_iconst (pc := 9) (1) dX8_chosen_9 (by decide) ?_
  refine v_isub (pc := 10) dX8_chosen_10 ?_
  refine v_cSi3 (pc := 11) (d' := d - 1) dX8_chosen_11 kX8_within ml_X8_81 stX8_within (Nat.le_of_ble_eq_true rfl) (Nat.le_of_ble_eq_true rfl) (by omega) ⟨Nat.le_refl _, Nat.le_refl _⟩ ?_
  refine c_X8_within (by omega) (by omega) (by omega) ?_
  refine ⟨_, rfl, ?_⟩
  refine v_if_eq (pc := 14) 26 dX8_chosen_14 (by decide) (by omega) (fun h14 => ?_) (fun h14 => ?_)
  · refine v_iconst (pc := 26) (-1) dX8_chosen_26 (by decide) ?_
    refine v_ireturn (pc := 27) dX8_chosen_27 rfl rfl ⟨Nat.le_refl _, Nat.le_refl _⟩ ?_
    exact hN (by omega)
  · refine v_iload_n (pc := 17) dX8_chosen_17 rfl ?_
    refine v_iconst (pc := 18) (0) dX8_chosen_18 (by decide) ?_
    refine v_iconst (pc := 19) (1) dX8_chosen_19 (by decide) ?_
    refine v_cSi3 (pc := 20) (d' := d - 1) dX8_chosen_20 kX8_within ml_X8_81 stX8_within (Nat.le_of_ble_eq_true rfl) (Nat.le_of_ble_eq_true rfl) (by omega) ⟨Nat.le_refl _, Nat.le_refl _⟩ ?_
    refine c_X8_within (by omega) (by omega) (by omega) ?_
    refine ⟨_, rfl, ?_⟩
    refine v_if_ne (pc := 23) 28 dX8_chosen_23 (by decide) (by omega) (fun h23 => ?_) (fun h23 => ?_)
    · refine v_aload_n (pc := 28) dX8_chosen_28 rfl ?_
      refine v_gR (pc := 29) dX8_chosen_29 fl_X8_44 rfl ?_
      refine v_gI (pc := 32) dX8_chosen_32 fl_X8_159 rfl ?_
      refine v_iload_n (pc := 35) dX8_chosen_35 rfl ?_
      refine v_cSi2 (pc := 36) (d' := d - 1) dX8_chosen_36 kX8_digitIn ml_X8_152 stX8_digitIn (Nat.le_of_ble_eq_true rfl) (Nat.le_of_ble_eq_true rfl) (by omega) ⟨Nat.le_refl _, Nat.le_refl _⟩ ?_
      refine c_X8_digitIn (k := x.toNat) (by omega) (by omega) hk.1 hk.2 ?_
      refine ⟨_, rfl, ?_⟩
      have dg : 0 ≤ qDig (σ 20 12) x.toNat ∧ qDig (σ 20 12) x.toNat < 32 := by unfold qDig; omega
      refine v_istore_n (pc := 39) dX8_chosen_39 (by decide) ?_
      refine v_iload_n (pc := 40) dX8_chosen_40 rfl ?_
      refine v_if_ne (pc := 41) 51 dX8_chosen_41 (by decide) (by omega) (fun h41 => ?_) (fun h41 => ?_)
      · refine v_iload_n (pc := 51) dX8_chosen_51 rfl ?_
        refine v_cSi1 (pc := 52) (d' := d - 1) dX8_chosen_52 kX0_manyIn ml_X8_165 stX0_manyIn (Nat.le_of_ble_eq_true rfl) (Nat.le_of_ble_eq_true rfl) (by omega) ⟨Nat.le_refl _, Nat.le_refl _⟩ ?_
        refine c_X0_manyIn (by omega) ?_
        refine ⟨_, rfl, ?_⟩
        refine v_ireturn (pc := 55) dX8_chosen_55 rfl rfl ⟨Nat.le_refl _, Nat.le_refl _⟩ ?_
        first | (refine q_eq (hQ (by omega) (by omega) (by omega) (by omega)) ?_; rw [qPick, if_pos (by omega)]) | (refine q_eq (hQ (by omega) (by omega) (by omega) (by omega)) ?_; rw [qPick, if_neg (by omega)])
      · refine v_iload_n (pc := 44) dX8_chosen_44 rfl ?_
        refine v_cSi1 (pc := 45) (d' := d - 1) dX8_chosen_45 kX0_engineIn ml_X8_162 stX0_engineIn (Nat.le_of_ble_eq_true rfl) (Nat.le_of_ble_eq_true rfl) (by omega) ⟨Nat.le_refl _, Nat.le_refl _⟩ ?_
        refine c_X0_engineIn (by omega) ?_
        refine ⟨_, rfl, ?_⟩
        refine v_goto (pc := 48) 55 dX8_chosen_48 (by decide) ?_
        refine v_ireturn (pc := 55) dX8_chosen_55 rfl rfl ⟨Nat.le_refl _, Nat.le_refl _⟩ ?_
        first | (refine q_eq (hQ (by omega) (by omega) (by omega) (by omega)) ?_; rw [qPick, if_pos (by omega)]) | (refine q_eq (hQ (by omega) (by omega) (by omega) (by omega)) ?_; rw [qPick, if_neg (by omega)])
    · refine v_iconst (pc := 26) (-1) dX8_chosen_26 (by decide) ?_
      refine v_ireturn (pc := 27) dX8_chosen_27 rfl rfl ⟨Nat.le_refl _, Nat.le_refl _⟩ ?_
      exact hN (by omega)
set_option maxHeartbeats 4000000 in
set_option maxRecDepth 100000 in
theorem c_X9_chosen {g : vGl} {d : Nat} {Q : Option Value → List mC → Prop} {σ : vSt} (hd : 2 ≤ d) {x wh : Int} (hx : vr x) (hw : vr wh) (hs : 0 ≤ σ 38 27 ∧ σ 38 27 ≤ 3) (hc : ∀ k : Nat, 0 ≤ σ 54 k ∧ σ 54 k ≤ 100000) (hN : ¬ (0 ≤ x ∧ x < σ 38 27 ∧ 0 ≤ wh ∧ wh ≤ 1) → Q (some (vi (-1))) (hp σ)) (hQ : 0 ≤ x → x < σ 38 27 → 0 ≤ wh → wh ≤ 1 → Q (some (vi (qPick wh (σ 54 x.toNat)))) (hp σ)) : V g mX9_chosen d (0, 0, 0, 0) Q 0 [(0, .ref 38), (1, vi x), (2, vi wh)] [] (hp σ) := by
  have c1 := hc x.toNat
  refine v_iload_n (pc := 0) dX9_chosen_0 rfl ?_
  refine v_i2l (pc := 1) dX9_chosen_1 (by omega) ?_
  refine v_lconst (pc := 2) (0) dX9_chosen_2 (by decide) ?_
  refine v_aload_n (pc := 3) dX9_chosen_3 rfl ?_
  refine v_gI (pc := 4) dX9_chosen_4 fl_X9_188 rfl ?_
  refine v_iconst (pc := 7) (1) dX9_chosen_7 (by decide) ?_
  refine v_isub (pc := 8) dX9_chosen_8 ?_
  refine v_i2l (pc := 9) dX9_chosen_9 (by omega) ?_
  refine v_cSi3 (pc := 10) (d' := d - 1) dX9_chosen_10 kX9_isIn ml_X9_115 stX9_isIn (Nat.le_of_ble_eq_true rfl) (Nat.le_of_ble_eq_true rfl) (by omega) ⟨Nat.le_refl _, Nat.le_refl _⟩ ?_
  refine c_X9_isIn (by omega) (by omega) (by omega) ?_
  refine ⟨_, rfl, ?_⟩
  refine v_if_eq (pc := 13) 26 dX9_chosen_13 (by decide) (by omega) (fun h13 => ?_) (fun h13 => ?_)
  · refine v_iconst (pc := 26) (-1) dX9_chosen_26 (by decide) ?_
    refine v_ireturn (pc := 27) dX9_chosen_27 rfl rfl ⟨Nat.le_refl _, Nat.le_refl _⟩ ?_
    exact hN (by omega)
  · refine v_iload_n (pc := 16) dX9_chosen_16 rfl ?_
    refine v_i2l (pc := 17) dX9_chosen_17 (by omega) ?_
    refine v_lconst (pc := 18) (0) dX9_chosen_18 (by decide) ?_
    refine v_lconst (pc := 19) (1) dX9_chosen_19 (by decide) ?_
    refine v_cSi3 (pc := 20) (d' := d - 1) dX9_chosen_20 kX9_isIn ml_X9_115 stX9_isIn (Nat.le_of_ble_eq_true rfl) (Nat.le_of_ble_eq_true rfl) (by omega) ⟨Nat.le_refl _, Nat.le_refl _⟩ ?_
    refine c_X9_isIn (by omega) (by omega) (by omega) ?_
    refine ⟨_, rfl, ?_⟩
    refine v_if_ne (pc := 23) 28 dX9_chosen_23 (by decide) (by omega) (fun h23 => ?_) (fun h23 => ?_)
    · refine v_iload_n (pc := 28) dX9_chosen_28 rfl ?_
      refine v_if_ne (pc := 29) 43 dX9_chosen_29 (by decide) (by omega) (fun h29 => ?_) (fun h29 => ?_)
      · refine v_aload_n (pc := 43) dX9_chosen_43 rfl ?_
        refine v_gR (pc := 44) dX9_chosen_44 fl_X9_65 rfl ?_
        refine v_iload_n (pc := 47) dX9_chosen_47 rfl ?_
        refine v_aI (pc := 48) dX9_chosen_48 rfl rfl (by omega) (by omega) ?_
        refine v_iconst (pc := 49) (3) dX9_chosen_49 (by decide) ?_
        refine v_irem (pc := 50) dX9_chosen_50 (by omega) (by omega) (by omega) ?_
        refine v_iconst (pc := 51) (1) dX9_chosen_51 (by decide) ?_
        refine v_iadd (pc := 52) dX9_chosen_52 ?_
        refine v_ireturn (pc := 53) dX9_chosen_53 rfl rfl ⟨Nat.le_refl _, Nat.le_refl _⟩ ?_
        first | (refine q_eq (hQ (by omega) (by omega) (by omega) (by omega)) ?_; rw [qPick, if_pos (by omega), tdiv_pos c1.1]) | (refine q_eq (hQ (by omega) (by omega) (by omega) (by omega)) ?_; rw [qPick, if_neg (by omega), tdiv_pos c1.1]; omega)
      · refine v_aload_n (pc := 32) dX9_chosen_32 rfl ?_
        refine v_gR (pc := 33) dX9_chosen_33 fl_X9_65 rfl ?_
        refine v_iload_n (pc := 36) dX9_chosen_36 rfl ?_
        refine v_aI (pc := 37) dX9_chosen_37 rfl rfl (by omega) (by omega) ?_
        refine v_iconst (pc := 38) (3) dX9_chosen_38 (by decide) ?_
        refine v_idiv (pc := 39) dX9_chosen_39 (by omega) (by omega) (by omega) ?_
        refine v_goto (pc := 40) 53 dX9_chosen_40 (by decide) ?_
        refine v_ireturn (pc := 53) dX9_chosen_53 rfl rfl ⟨Nat.le_refl _, Nat.le_refl _⟩ ?_
        first | (refine q_eq (hQ (by omega) (by omega) (by omega) (by omega)) ?_; rw [qPick, if_pos (by omega), tdiv_pos c1.1]) | (refine q_eq (hQ (by omega) (by omega) (by omega) (by omega)) ?_; rw [qPick, if_neg (by omega), tdiv_pos c1.1]; omega)
    · refine v_iconst (pc := 26) (-1) dX9_chosen_26 (by decide) ?_
      refine v_ireturn (pc := 27) dX9_chosen_27 rfl rfl ⟨Nat.le_refl _, Nat.le_refl _⟩ ?_
      exact hN (by omega)
