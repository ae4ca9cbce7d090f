/-! the class' cheapest engines -/
def cW (σ : vSt) (f r c M L C K : Nat → Int) : vSt := vRow (vRow (vRow (vRow (vRow (vRow (vRow σ 20 c) 21 M) 22 L) 23 C) 24 K) 15 f) 16 r
section CW
variable (σ : vSt) (f r c M L C K : Nat → Int) (k : Nat) (z : Int)
theorem cW_20 : vU (cW σ f r c M L C K) 20 k z = cW σ f r (qUp c k z) M L C K := by
  unfold cW
  rw [vU_row_o (by decide), vU_row_o (by decide), vU_row_o (by decide), vU_row_o (by decide), vU_row_o (by decide), vU_row_o (by decide), vRow_up]
theorem cW_21 : vU (cW σ f r c M L C K) 21 k z = cW σ f r c (qUp M k z) L C K := by
  unfold cW
  rw [vU_row_o (by decide), vU_row_o (by decide), vU_row_o (by decide), vU_row_o (by decide), vU_row_o (by decide), vRow_up]
theorem cW_22 : vU (cW σ f r c M L C K) 22 k z = cW σ f r c M (qUp L k z) C K := by
  unfold cW
  rw [vU_row_o (by decide), vU_row_o (by decide), vU_row_o (by decide), vU_row_o (by decide), vRow_up]
theorem cW_23 : vU (cW σ f r c M L C K) 23 k z = cW σ f r c M L (qUp C k z) K := by
  unfold cW
  rw [vU_row_o (by decide), vU_row_o (by decide), vU_row_o (by decide), vRow_up]
theorem cW_24 : vU (cW σ f r c M L C K) 24 k z = cW σ f r c M L C (qUp K k z) := by
  unfold cW
  rw [vU_row_o (by decide), vU_row_o (by decide), vRow_up]
end CW
theorem cW_self (σ : vSt) : cW σ (σ 15) (σ 16) (σ 20) (σ 21) (σ 22) (σ 23) (σ 24) = σ := by
  funext p j
  unfold cW vRow
  by_cases h16 : p = 16
  · rw [if_pos h16, h16]
  rw [if_neg h16]
  by_cases h15 : p = 15
  · rw [if_pos h15, h15]
  rw [if_neg h15]
  by_cases h24 : p = 24
  · rw [if_pos h24, h24]
  rw [if_neg h24]
  by_cases h23 : p = 23
  · rw [if_pos h23, h23]
  rw [if_neg h23]
  by_cases h22 : p = 22
  · rw [if_pos h22, h22]
  rw [if_neg h22]
  by_cases h21 : p = 21
  · rw [if_pos h21, h21]
  rw [if_neg h21]
  by_cases h20 : p = 20
  · rw [if_pos h20, h20]
  rw [if_neg h20]
set_option maxHeartbeats 4000000 in
set_option maxRecDepth 100000 in
theorem c_X0_keep {g : vGl} {d : Nat} {Q : Option Value → List mC → Prop} {σ : vSt} {f r c M L C K : Nat → Int} {hi : Nat} {m l co q : Int} (hk7 : c 7 = hi) (h343 : hi < 343) (hQ : Q none (hp (cW σ f r (qUp c 7 ((hi : Int) + 1)) (qUp M hi m) (qUp L hi l) (qUp C hi co) (qUp K hi q)))) : V g mX0_keep d (0, 0, 0, 0) Q 0 [(0, .ref 20), (1, vi m), (2, vi l), (3, vi co), (4, vi q)] [] (hp (cW σ f r c M L C K)) := by
  refine v_aload_n (pc := 0) dX0_keep_0 rfl ?_
  refine v_gIv (pc := 1) ((hi : Int)) dX0_keep_1 fl_X0_24 rfl hk7 ?_
  refine v_sipush (pc := 4) (343) dX0_keep_4 (by decide) ?_
  refine v_icmp_lt (pc := 7) 11 dX0_keep_7 (by decide) (by omega) (by omega) (fun h7 => ?_) (fun h7 => by exfalso; omega)
  refine v_aload_n (pc := 11) dX0_keep_11 rfl ?_
  refine v_gR (pc := 12) dX0_keep_12 fl_X0_11 rfl ?_
  refine v_aload_n (pc := 15) dX0_keep_15 rfl ?_
  refine v_gIv (pc := 16) ((hi : Int)) dX0_keep_16 fl_X0_24 rfl hk7 ?_
  refine v_iload_n (pc := 19) dX0_keep_19 rfl ?_
  refine v_sI (pc := 20) (j := hi) dX0_keep_20 rfl (by omega) (by omega) (by omega) ?_
  refine v_aload_n (pc := 21) dX0_keep_21 rfl ?_
  refine v_gR (pc := 22) dX0_keep_22 fl_X0_15 rfl ?_
  refine v_aload_n (pc := 25) dX0_keep_25 rfl ?_
  refine v_gIv (pc := 26) ((hi : Int)) dX0_keep_26 fl_X0_24 rfl hk7 ?_
  refine v_iload_n (pc := 29) dX0_keep_29 rfl ?_
  refine v_sI (pc := 30) (j := hi) dX0_keep_30 rfl (by omega) (by omega) (by omega) ?_
  refine v_aload_n (pc := 31) dX0_keep_31 rfl ?_
  refine v_gR (pc := 32) dX0_keep_32 fl_X0_18 rfl ?_
  refine v_aload_n (pc := 35) dX0_keep_35 rfl ?_
  refine v_gIv (pc := 36) ((hi : Int)) dX0_keep_36 fl_X0_24 rfl hk7 ?_
  refine v_iload_n (pc := 39) dX0_keep_39 rfl ?_
  refine v_sI (pc := 40) (j := hi) dX0_keep_40 rfl (by omega) (by omega) (by omega) ?_
  refine v_aload_n (pc := 41) dX0_keep_41 rfl ?_
  refine v_gR (pc := 42) dX0_keep_42 fl_X0_21 rfl ?_
  refine v_aload_n (pc := 45) dX0_keep_45 rfl ?_
  refine v_gIv (pc := 46) ((hi : Int)) dX0_keep_46 fl_X0_24 rfl hk7 ?_
  refine v_iload (pc := 49) dX0_keep_49 rfl ?_
  refine v_sI (pc := 51) (j := hi) dX0_keep_51 rfl (by omega) (by omega) (by omega) ?_
  refine v_aload_n (pc := 52) dX0_keep_52 rfl ?_
  refine v_dup (pc := 53) dX0_keep_53 rfl ?_
  refine v_gIv (pc := 54) ((hi : Int)) dX0_keep_54 fl_X0_24 rfl hk7 ?_
  refine v_iconst (pc := 57) (1) dX0_keep_57 (by decide) ?_
  refine v_iadd (pc := 58) dX0_keep_58 ?_
  refine v_pI (pc := 59) dX0_keep_59 fl_X0_24 rfl ?_
  refine v_return (pc := 62) dX0_keep_62 rfl ⟨Nat.le_refl _, Nat.le_refl _⟩ ?_
  rw [cW_21, cW_22, cW_23, cW_24, cW_20]
  exact hQ
set_option maxHeartbeats 4000000 in
set_option maxRecDepth 100000 in
theorem c_X0_offer {g : vGl} {d : Nat} {Q : Option Value → List mC → Prop} {σ : vSt} {f r c M L C K : Nat → Int} {l co q : Int} (hl : vr l) (h8 : vr (c 8)) (hc : vr co) (h10 : vr (c 10)) (hq : co = c 10 → vr q ∧ vr (c 11)) (hQ : Q none (hp (cW σ f r (if l < c 8 then c else if co < c 10 ∨ (co = c 10 ∧ q < c 11) then qUp (qUp c 10 co) 11 q else c) M L C K))) : V g mX0_offer d (0, 0, 0, 0) Q 0 [(0, .ref 20), (1, vi l), (2, vi co), (3, vi q)] [] (hp (cW σ f r c M L C K)) := by
  refine v_iload_n (pc := 0) dX0_offer_0 rfl ?_
  refine v_aload_n (pc := 1) dX0_offer_1 rfl ?_
  refine v_gIv (pc := 2) (c 8) dX0_offer_2 fl_X0_28 rfl rfl ?_
  refine v_icmp_ge (pc := 5) 9 dX0_offer_5 (by decide) (by omega) (by omega) (fun h5 => ?_) (fun h5 => ?_)
  · refine v_iload_n (pc := 9) dX0_offer_9 rfl ?_
    refine v_aload_n (pc := 10) dX0_offer_10 rfl ?_
    refine v_gIv (pc := 11) (c 10) dX0_offer_11 fl_X0_35 rfl rfl ?_
    refine v_icmp_lt (pc := 14) 33 dX0_offer_14 (by decide) (by omega) (by omega) (fun h14 => ?_) (fun h14 => ?_)
    · refine v_aload_n (pc := 33) dX0_offer_33 rfl ?_
      refine v_iload_n (pc := 34) dX0_offer_34 rfl ?_
      refine v_pI (pc := 35) dX0_offer_35 fl_X0_35 rfl ?_
      refine v_aload_n (pc := 38) dX0_offer_38 rfl ?_
      refine v_iload_n (pc := 39) dX0_offer_39 rfl ?_
      refine v_pI (pc := 40) dX0_offer_40 fl_X0_38 rfl ?_
      refine v_return (pc := 43) dX0_offer_43 rfl ⟨Nat.le_refl _, Nat.le_refl _⟩ ?_
      first | (rw [if_pos (by omega)] at hQ; exact hQ) | (rw [if_neg (by omega), if_neg (by omega)] at hQ; exact hQ) | (rw [if_neg (by omega), if_pos (by omega)] at hQ; rw [cW_20, cW_20]; exact hQ)
    · refine v_iload_n (pc := 17) dX0_offer_17 rfl ?_
      refine v_aload_n (pc := 18) dX0_offer_18 rfl ?_
      refine v_gIv (pc := 19) (c 10) dX0_offer_19 fl_X0_35 rfl rfl ?_
      refine v_icmp_ne (pc := 22) 43 dX0_offer_22 (by decide) (by omega) (by omega) (fun h22 => ?_) (fun h22 => ?_)
      · refine v_return (pc := 43) dX0_offer_43 rfl ⟨Nat.le_refl _, Nat.le_refl _⟩ ?_
        first | (rw [if_pos (by omega)] at hQ; exact hQ) | (rw [if_neg (by omega), if_neg (by omega)] at hQ; exact hQ) | (rw [if_neg (by omega), if_pos (by omega)] at hQ; rw [cW_20, cW_20]; exact hQ)
      · refine v_iload_n (pc := 25) dX0_offer_25 rfl ?_
        refine v_aload_n (pc := 26) dX0_offer_26 rfl ?_
        refine v_gIv (pc := 27) (c 11) dX0_offer_27 fl_X0_38 rfl rfl ?_
        refine v_icmp_ge (pc := 30) 43 dX0_offer_30 (by decide) (hq (by omega)).1 (hq (by omega)).2 (fun h30 => ?_) (fun h30 => ?_)
        · refine v_return (pc := 43) dX0_offer_43 rfl ⟨Nat.le_refl _, Nat.le_refl _⟩ ?_
          first | (rw [if_pos (by omega)] at hQ; exact hQ) | (rw [if_neg (by omega), if_neg (by omega)] at hQ; exact hQ) | (rw [if_neg (by omega), if_pos (by omega)] at hQ; rw [cW_20, cW_20]; exact hQ)
        · refine v_aload_n (pc := 33) dX0_offer_33 rfl ?_
          refine v_iload_n (pc := 34) dX0_offer_34 rfl ?_
          refine v_pI (pc := 35) dX0_offer_35 fl_X0_35 rfl ?_
          refine v_aload_n (pc := 38) dX0_offer_38 rfl ?_
          refine v_iload_n (pc := 39) dX0_offer_39 rfl ?_
          refine v_pI (pc := 40) dX0_offer_40 fl_X0_38 rfl ?_
          refine v_return (pc := 43) dX0_offer_43 rfl ⟨Nat.le_refl _, Nat.le_refl _⟩ ?_
          first | (rw [if_pos (by omega)] at hQ; exact hQ) | (rw [if_neg (by omega), if_neg (by omega)] at hQ; exact hQ) | (rw [if_neg (by omega), if_pos (by omega)] at hQ; rw [cW_20, cW_20]; exact hQ)
  · refine v_return (pc := 8) dX0_offer_8 rfl ⟨Nat.le_refl _, Nat.le_refl _⟩ ?_
    first | (rw [if_pos (by omega)] at hQ; exact hQ) | (rw [if_neg (by omega), if_neg (by omega)] at hQ; exact hQ) | (rw [if_neg (by omega), if_pos (by omega)] at hQ; rw [cW_20, cW_20]; exact hQ)
set_option maxHeartbeats 4000000 in
set_option maxRecDepth 100000 in
theorem c_X0_lifts {g : vGl} {d : Nat} {Q : Option Value → List mC → Prop} {σ : vSt} {f r c M L C K : Nat → Int} {e1 : Nat} {x j ah u : Int} (hR : YR σ) (hx : x = e1) (he : e1 < 6) (hj : 1 ≤ j ∧ j ≤ 3) (ha : 1 ≤ ah ∧ ah ≤ 100000) (c9 : c 9 = u) (hu : vr u) (hQ : Q (some (vi (if u ≤ 100 * σ 4 e1 * j / ah then 1 else 0))) (hp (cW σ f r c M L C K))) : V g mX0_lifts d (0, 0, 0, 0) Q 0 [(0, .ref 20), (1, vi x), (2, vi j), (3, vi ah)] [] (hp (cW σ f r c M L C K)) := by
  have t := hR.2.1 e1
  have m := mul_le (a := 100 * σ 4 e1) (b := j) (A := 99900) (B := 3) (by omega) (by omega) (by omega) (by omega)
  have dq : 0 ≤ 100 * σ 4 e1 * j / ah := Int.ediv_nonneg (by omega) (by omega)
  have dq2 : 100 * σ 4 e1 * j / ah ≤ 100 * σ 4 e1 * j := Int.ediv_le_self _ (by omega)
  refine v_iload_n (pc := 0) dX0_lifts_0 rfl ?_
  refine v_if_le (pc := 1) 31 dX0_lifts_1 (by decide) (by omega) (fun h1 => by exfalso; omega) (fun h1 => ?_)
  refine v_bipush (pc := 4) (100) dX0_lifts_4 (by decide) ?_
  refine v_iload_n (pc := 6) dX0_lifts_6 rfl ?_
  refine v_imul (pc := 7) dX0_lifts_7 ?_
  refine v_aload_n (pc := 8) dX0_lifts_8 rfl ?_
  refine v_gR (pc := 9) dX0_lifts_9 fl_X0_57 rfl ?_
  refine v_gR (pc := 12) dX0_lifts_12 fl_X0_136 rfl ?_
  refine v_iload_n (pc := 15) dX0_lifts_15 rfl ?_
  refine v_aIv (pc := 16) (j := e1) (σ 4 e1) dX0_lifts_16 rfl (by omega) (by omega) (by omega) rfl ?_
  refine v_imul (pc := 17) dX0_lifts_17 ?_
  refine v_top (show _ = 100 * σ 4 e1 * j from Int.mul_right_comm _ _ _) ?_
  refine v_iload_n (pc := 18) dX0_lifts_18 rfl ?_
  refine v_idiv (pc := 19) dX0_lifts_19 (by omega) (by omega) (by omega) ?_
  refine v_top (show _ = 100 * σ 4 e1 * j / ah from tdiv_pos (by omega)) ?_
  refine v_aload_n (pc := 20) dX0_lifts_20 rfl ?_
  refine v_gIv (pc := 21) (u) dX0_lifts_21 fl_X0_31 rfl c9 ?_
  refine v_icmp_lt (pc := 24) 31 dX0_lifts_24 (by decide) (by omega) (by omega) (fun h24 => ?_) (fun h24 => ?_)
  · refine v_iconst (pc := 31) (0) dX0_lifts_31 (by decide) ?_
    refine v_ireturn (pc := 32) dX0_lifts_32 rfl (vZ (by omega)) ⟨Nat.le_refl _, Nat.le_refl _⟩ ?_
    first | (rw [if_pos (by omega)] at hQ; exact hQ) | (rw [if_neg (by omega)] at hQ; exact hQ)
  · refine v_iconst (pc := 27) (1) dX0_lifts_27 (by decide) ?_
    refine v_goto (pc := 28) 32 dX0_lifts_28 (by decide) ?_
    refine v_ireturn (pc := 32) dX0_lifts_32 rfl (vZ (by omega)) ⟨Nat.le_refl _, Nat.le_refl _⟩ ?_
    first | (rw [if_pos (by omega)] at hQ; exact hQ) | (rw [if_neg (by omega)] at hQ; exact hQ)
set_option maxHeartbeats 4000000 in
set_option maxRecDepth 100000 in
theorem l_ce3 {g : vGl} {d : Nat} {Q : Option Value → List mC → Prop} {σ : vSt} {f r w : Nat → Int} {u sp fr hi bare : Int} {k lo e1 p : Nat} {P : (Nat → Int) → Prop} (hd : 3 ≤ d) (hR : YR σ) (hn3 : sN σ ≤ 3) (hkn : k < sN σ) (he1 : (e1 : Int) < σ 3 6) (hplo : p < lo) (hp343 : p < 343) (ho : cOk σ (k + 1) w) (hli : cLi σ u (k + 1) w) (hu : 0 ≤ u ∧ u ≤ 1000) (hsp : 0 ≤ sp ∧ sp ≤ 1000000) (hb : bare = cMa σ (k + 1) w + cSh σ k) (f1 : f 1 = fr) (f2 : f 2 = hi) (hr : ∀ j : Nat, fr + j ≤ hi → r j = qLow (1000 * σ 5 e1) j (fr + j)) (h0 : 0 ≤ fr ∧ fr ≤ 10000) (hhi : hi ≤ fr + 1491) (hfr : fr ≤ bare) (hto : bare + 3 * σ 6 e1 + σ 13 k ≤ hi)  : ∀ (m j : Nat) (x : Int) (c M L C K : Nat → Int) (hx : x = j) (hj : j + m = 4) (hj1 : 1 ≤ j) (c8 : c 8 = sp) (c9 : c 9 = u) (h7 : 0 ≤ c 7) (h7l : (lo : Int) ≤ c 7) (hcap : ¬ k = 0 → c 7 + m ≤ 343) (hv : cV σ (k + 1) w (M p) (L p) (C p) (K p)) (hJ : cJ σ u sp k lo (cPj (sN σ) k e1 x w P) c M L C K) (hQ : ∀ c' M' L' C' K' : Nat → Int, cFr lo c M L C K c' M' L' C' K' → c' 7 ≤ c 7 + m → cJ σ u sp k lo (cPj (sN σ) k e1 4 w P) c' M' L' C' K' → Q none (hp (cW σ f r c' M' L' C' K'))), V g mX0_chooseEngine d (0, 0, 0, 0) Q 3 [(0, .ref 20), (1, vi (k : Int)), (2, vi (e1 : Int)), (3, vi (p : Int)), (4, vi bare), (5, vi x)] [] (hp (cW σ f r c M L C K)) := by
  have nn := sN_le hR
  have r36 := hR.1
  have g4 := hR.2.1 e1
  have g13 := hR.2.2.1 k
  have sh := cSh_rng hR k
  have ma := cMa_r hR w (k + 1)
  intro m
  induction m with
  | zero =>
    intro j x c M L C K hx hj hj1 c8 c9 h7 h7l hcap hv hJ hQ
    subst hx
    refine v_iload (pc := 3) dX0_chooseEngine_3 rfl ?_
    refine v_iconst (pc := 5) (3) dX0_chooseEngine_5 (by decide) ?_
    refine v_icmp_gt (pc := 6) 160 dX0_chooseEngine_6 (by decide) (by omega) (by omega) (fun h6 => ?_) (fun h6 => by exfalso; omega)
    refine v_return (pc := 160) dX0_chooseEngine_160 rfl ⟨Nat.le_refl _, Nat.le_refl _⟩ ?_
    have e4 : ((j : Nat) : Int) = 4 := by omega
    rw [e4] at hJ
    exact hQ c M L C K cFr_r (by omega) hJ
  | succ m ih =>
    intro j x c M L C K hx hj hj1 c8 c9 h7 h7l hcap hv hJ hQ
    subst hx
    have oo : 0 ≤ (e1 : Int) * 3 + j - 1 ∧ (e1 : Int) * 3 + j - 1 < 3 * σ 3 6 := by omega
    obtain ⟨u1, u2, u3, u4, u5, u6, u7, u8⟩ := cUp (u := u) hkn ho oo.1 oo.2
    have d1 : ((e1 : Int) * 3 + j - 1) / 3 = e1 := by omega
    have d2 : ((e1 : Int) * 3 + j - 1) % 3 + 1 = j := by omega
    have t1 : ((e1 : Int)).toNat = e1 := by omega
    have w1 : cWt σ ((e1 : Int) * 3 + j - 1) = j * σ 6 e1 := by unfold cWt; rw [d1, d2, t1]
    have p1 : cPr σ ((e1 : Int) * 3 + j - 1) = j * σ 7 e1 := by unfold cPr; rw [d1, d2, t1]
    rw [d1, t1] at u3 u6
    rw [d2] at u6
    rw [w1] at u2
    rw [p1] at u4
    obtain ⟨v1, v2, v3, v4⟩ := id hv
    have jw := mul_le (a := (j : Int)) (b := σ 6 e1) (A := 3) (B := 99) (by omega) (by omega) (by omega) (by omega)
    have jw3 : (j : Int) * σ 6 e1 ≤ 3 * σ 6 e1 := Int.mul_le_mul_of_nonneg_right (by omega) (by omega)
    have m0 := cMa_1 hR hkn u1
    have m1 := cMa_r hR (qUp w k ((e1 : Int) * 3 + j - 1)) k
    have lr := cLo_rng (w := (qUp w k ((e1 : Int) * 3 + j - 1))) hR (sN σ - k) k rfl
    have cr := cCo_rng (w := (qUp w k ((e1 : Int) * 3 + j - 1))) hR (sN σ - k) k rfl
    have c10 : 0 ≤ c 10 ∧ c 10 ≤ 1000000 := by
      by_cases q : k = 0
      · have := cO_rng hR hn3 (hJ.2 q)
        omega
      · have := (hJ.1 q).1
        omega
    have hi7 : c 7 = ((c 7).toNat : Int) := by omega
    refine v_iload (pc := 3) dX0_chooseEngine_3 rfl ?_
    refine v_iconst (pc := 5) (3) dX0_chooseEngine_5 (by decide) ?_
    refine v_icmp_gt (pc := 6) 160 dX0_chooseEngine_6 (by decide) (by omega) (by omega) (fun h6 => by exfalso; omega) (fun h6 => ?_)
    refine v_aload_n (pc := 9) dX0_chooseEngine_9 rfl ?_
    refine v_gR (pc := 10) dX0_chooseEngine_10 fl_X0_18 rfl ?_
    refine v_iload_n (pc := 13) dX0_chooseEngine_13 rfl ?_
    refine v_aIv (pc := 14) (j := p) (C p) dX0_chooseEngine_14 rfl (by omega) (by omega) (by omega) rfl ?_
    refine v_iload (pc := 15) dX0_chooseEngine_15 rfl ?_
    refine v_aload_n (pc := 17) dX0_chooseEngine_17 rfl ?_
    refine v_gR (pc := 18) dX0_chooseEngine_18 fl_X0_57 rfl ?_
    refine v_gR (pc := 21) dX0_chooseEngine_21 fl_X0_117 rfl ?_
    refine v_iload_n (pc := 24) dX0_chooseEngine_24 rfl ?_
    refine v_aIv (pc := 25) (j := e1) (σ 7 e1) dX0_chooseEngine_25 rfl (by omega) (by omega) (by omega) rfl ?_
    refine v_imul (pc := 26) dX0_chooseEngine_26 ?_
    refine v_iadd (pc := 27) dX0_chooseEngine_27 ?_
    refine v_top (show _ = cCo σ k (qUp w k ((e1 : Int) * 3 + j - 1)) by omega) ?_
    refine v_istore (pc := 28) dX0_chooseEngine_28 (by decide) ?_
    refine v_iload (pc := 30) dX0_chooseEngine_30 rfl ?_
    refine v_aload_n (pc := 32) dX0_chooseEngine_32 rfl ?_
    refine v_gIv (pc := 33) (c 10) dX0_chooseEngine_33 fl_X0_35 rfl rfl ?_
    refine v_icmp_le (pc := 36) 40 dX0_chooseEngine_36 (by decide) (by omega) (by omega) (fun h36 => ?_) (fun h36 => ?_)
    · refine v_iload (pc := 40) dX0_chooseEngine_40 rfl ?_
      refine v_iload (pc := 42) dX0_chooseEngine_42 rfl ?_
      refine v_aload_n (pc := 44) dX0_chooseEngine_44 rfl ?_
      refine v_gR (pc := 45) dX0_chooseEngine_45 fl_X0_57 rfl ?_
      refine v_gR (pc := 48) dX0_chooseEngine_48 fl_X0_103 rfl ?_
      refine v_iload_n (pc := 51) dX0_chooseEngine_51 rfl ?_
      refine v_aIv (pc := 52) (j := e1) (σ 6 e1) dX0_chooseEngine_52 rfl (by omega) (by omega) (by omega) rfl ?_
      refine v_imul (pc := 53) dX0_chooseEngine_53 ?_
      refine v_iadd (pc := 54) dX0_chooseEngine_54 ?_
      refine v_istore (pc := 55) dX0_chooseEngine_55 (by decide) ?_
      refine v_iload (pc := 57) dX0_chooseEngine_57 rfl ?_
      refine v_aload_n (pc := 59) dX0_chooseEngine_59 rfl ?_
      refine v_gR (pc := 60) dX0_chooseEngine_60 fl_X0_47 rfl ?_
      refine v_gR (pc := 63) dX0_chooseEngine_63 fl_X0_84 rfl ?_
      refine v_iload_n (pc := 66) dX0_chooseEngine_66 rfl ?_
      refine v_aIv (pc := 67) (j := k) (σ 13 k) dX0_chooseEngine_67 rfl (by omega) (by omega) (by omega) rfl ?_
      refine v_iadd (pc := 68) dX0_chooseEngine_68 ?_
      refine v_top (show _ = cMa σ k (qUp w k ((e1 : Int) * 3 + j - 1)) by omega) ?_
      refine v_istore (pc := 69) dX0_chooseEngine_69 (by decide) ?_
      refine v_aload_n (pc := 71) dX0_chooseEngine_71 rfl ?_
      refine v_iload_n (pc := 72) dX0_chooseEngine_72 rfl ?_
      refine v_iload (pc := 73) dX0_chooseEngine_73 rfl ?_
      refine v_iload (pc := 75) dX0_chooseEngine_75 rfl ?_
      refine v_cVi3 (pc := 77) (z := 0) (d' := d - 1) dX0_chooseEngine_77 kX0_lifts ml_X0_120 iwX0_lifts swX0_lifts rfl rfl (Nat.le_of_ble_eq_true rfl) (Nat.le_of_ble_eq_true rfl) (by omega) ⟨Nat.le_refl _, Nat.le_refl _⟩ ?_
      refine c_X0_lifts (e1 := e1) (u := u) hR rfl (by omega) (by omega) (by omega) c9 (by omega) ?_
      refine ⟨_, rfl, ?_⟩
      refine v_if_ne (pc := 80) 86 dX0_chooseEngine_80 (by decide) (by omega) (fun h80 => ?_) (fun h80 => ?_)
      · have hl2 : cLi σ u k (qUp w k ((e1 : Int) * 3 + j - 1)) := u6.mpr ⟨by omega, hli⟩
        refine v_aload_n (pc := 86) dX0_chooseEngine_86 rfl ?_
        refine v_gR (pc := 87) dX0_chooseEngine_87 fl_X0_15 rfl ?_
        refine v_iload_n (pc := 90) dX0_chooseEngine_90 rfl ?_
        refine v_aIv (pc := 91) (j := p) (L p) dX0_chooseEngine_91 rfl (by omega) (by omega) (by omega) rfl ?_
        refine v_aload_n (pc := 92) dX0_chooseEngine_92 rfl ?_
        refine v_gR (pc := 93) dX0_chooseEngine_93 fl_X0_58 rfl ?_
        refine v_iload (pc := 96) dX0_chooseEngine_96 rfl ?_
        refine v_iload (pc := 98) dX0_chooseEngine_98 rfl ?_
        refine v_cVi2 (pc := 100) (z := 0) (d' := d - 1) dX0_chooseEngine_100 kX3_between ml_X0_124 iwX3_between swX3_between rfl rfl (Nat.le_of_ble_eq_true rfl) (Nat.le_of_ble_eq_true rfl) (by omega) ⟨Nat.le_refl _, Nat.le_refl _⟩ ?_
        refine c_X3_between (σ := vRow (vRow (vRow (vRow (vRow σ 20 c) 21 M) 22 L) 23 C) 24 K) (top := 1000 * σ 5 e1) f1 f2 hr h0 hhi (by omega) (by omega) (by omega) ?_
        refine ⟨_, rfl, ?_⟩
        refine v_iadd (pc := 103) dX0_chooseEngine_103 ?_
        refine v_top (show _ = cLo σ k (qUp w k ((e1 : Int) * 3 + j - 1)) by rw [show (cMa σ k (qUp w k ((e1 : Int) * 3 + j - 1)) - (bare + (j : Int) * σ 6 e1)).toNat = (σ 13 k).toNat by omega]; omega) ?_
        refine v_istore (pc := 104) dX0_chooseEngine_104 (by decide) ?_
        refine v_aload_n (pc := 106) dX0_chooseEngine_106 rfl ?_
        refine v_gR (pc := 107) dX0_chooseEngine_107 fl_X0_21 rfl ?_
        refine v_iload_n (pc := 110) dX0_chooseEngine_110 rfl ?_
        refine v_aIv (pc := 111) (j := p) (K p) dX0_chooseEngine_111 rfl (by omega) (by omega) (by omega) rfl ?_
        refine v_iload_n (pc := 112) dX0_chooseEngine_112 rfl ?_
        refine v_iload_n (pc := 113) dX0_chooseEngine_113 rfl ?_
        refine v_iload (pc := 114) dX0_chooseEngine_114 rfl ?_
        refine v_cSi2 (pc := 116) (d' := d - 1) dX0_chooseEngine_116 kX0_optionOf ml_X0_127 stX0_optionOf (Nat.le_of_ble_eq_true rfl) (Nat.le_of_ble_eq_true rfl) (by omega) ⟨Nat.le_refl _, Nat.le_refl _⟩ ?_
        refine c_X0_optionOf ?_
        refine ⟨_, rfl, ?_⟩
        refine v_cSNi2 (pc := 119) (d' := d - 1) dX0_chooseEngine_119 kX8_digitFor (by unfold vNest; simp [RX6, RX0, RX8]) stX8_digitFor (Nat.le_of_ble_eq_true rfl) (Nat.le_of_ble_eq_true rfl) (by omega) ⟨Nat.le_refl _, Nat.le_refl _⟩ ?_
        refine c_X8_digitFor (k := k) rfl (by omega) (by omega) (by omega) ?_
        refine ⟨_, rfl, ?_⟩
        refine v_iadd (pc := 122) dX0_chooseEngine_122 ?_
        refine v_top (show _ = sKe (sN σ) k (qUp w k ((e1 : Int) * 3 + j - 1)) by omega) ?_
        refine v_istore (pc := 123) dX0_chooseEngine_123 (by decide) ?_
        refine v_iload_n (pc := 125) dX0_chooseEngine_125 rfl ?_
        refine v_if_ne (pc := 126) 142 dX0_chooseEngine_126 (by decide) (by omega) (fun h126 => ?_) (fun h126 => ?_)
        · refine v_aload_n (pc := 142) dX0_chooseEngine_142 rfl ?_
          refine v_iload (pc := 143) dX0_chooseEngine_143 rfl ?_
          refine v_iload (pc := 145) dX0_chooseEngine_145 rfl ?_
          refine v_iload (pc := 147) dX0_chooseEngine_147 rfl ?_
          refine v_iload (pc := 149) dX0_chooseEngine_149 rfl ?_
          refine v_cVv4 (pc := 151) (z := 0) (d' := d - 1) dX0_chooseEngine_151 kX0_keep ml_X0_66 iwX0_keep swX0_keep rfl rfl (Nat.le_of_ble_eq_true rfl) (Nat.le_of_ble_eq_true rfl) (by omega) ⟨Nat.le_refl _, Nat.le_refl _⟩ ?_
          refine c_X0_keep (hi := (c 7).toNat) hi7 (by have := hcap (by omega); omega) ?_
          refine ⟨rfl, ?_⟩
          refine v_iinc (pc := 154) (1) dX0_chooseEngine_154 rfl (by decide) (by decide) ?_
          refine v_goto (pc := 157) 3 dX0_chooseEngine_157 (by decide) ?_
          have fk := cFr_k (lo := lo) (M := M) (L := L) (C := C) (K := K) (m := cMa σ k (qUp w k ((e1 : Int) * 3 + j - 1))) (l := cLo σ k (qUp w k ((e1 : Int) * 3 + j - 1))) (co := cCo σ k (qUp w k ((e1 : Int) * 3 + j - 1))) (q := sKe (sN σ) k (qUp w k ((e1 : Int) * 3 + j - 1))) hi7 (by omega)
          have ek : ∀ (X : Nat → Int) (z : Int), qUp X (c 7).toNat z p = X p := fun X z => if_neg (by omega)
          have e7 : qUp c 7 (((c 7).toNat : Int) + 1) 7 = c 7 + 1 := by
            show ((c 7).toNat : Int) + 1 = _
            omega
          refine v_lv (ih (j + 1) ((j : Int) + 1) _ _ _ _ _ (by omega) (by omega) (by omega) c8 c9 (by omega) (by omega) (fun q => by have := hcap q; omega) ?_ (cJ_keep hj1 (by omega) hJ hi7 (by omega) u1 hl2 ⟨rfl, rfl, rfl, rfl⟩) (fun c2 M2 L2 C2 K2 a1 a2 a3 => hQ c2 M2 L2 C2 K2 (cFr_t fk a1) (by omega) a3)) ⟨rfl, rfl, rfl, rfl, rfl, rfl, trivial⟩
          rw [ek, ek, ek, ek]
          exact hv
        · refine v_aload_n (pc := 129) dX0_chooseEngine_129 rfl ?_
          refine v_iload (pc := 130) dX0_chooseEngine_130 rfl ?_
          refine v_iload (pc := 132) dX0_chooseEngine_132 rfl ?_
          refine v_iload (pc := 134) dX0_chooseEngine_134 rfl ?_
          refine v_cVv3 (pc := 136) (z := 0) (d' := d - 1) dX0_chooseEngine_136 kX0_offer ml_X0_133 iwX0_offer swX0_offer rfl rfl (Nat.le_of_ble_eq_true rfl) (Nat.le_of_ble_eq_true rfl) (by omega) ⟨Nat.le_refl _, Nat.le_refl _⟩ ?_
          refine c_X0_offer (by omega) (by omega) (by omega) (by omega) (fun q => ?_) ?_
          · have kb := sKe_0 (x := (qUp w k ((e1 : Int) * 3 + j - 1))) (n := sN σ) (by omega) (fun i q => cOk_31 hR u1 i (by omega) q)
            have ck := cO_rng hR hn3 (hJ.2 (by omega))
            have k0 : k = 0 := by omega
            rw [k0] at q kb cr ⊢
            exact ⟨by omega, by omega⟩
          refine ⟨rfl, ?_⟩
          refine v_goto (pc := 139) 154 dX0_chooseEngine_139 (by decide) ?_
          refine v_iinc (pc := 154) (1) dX0_chooseEngine_154 rfl (by decide) (by decide) ?_
          refine v_goto (pc := 157) 3 dX0_chooseEngine_157 (by decide) ?_
          have fo := cFr_o (lo := lo) (c := c) (M := M) (L := L) (C := C) (K := K) (l := cLo σ k (qUp w k ((e1 : Int) * 3 + j - 1))) (co := cCo σ k (qUp w k ((e1 : Int) * 3 + j - 1))) (q := sKe (sN σ) k (qUp w k ((e1 : Int) * 3 + j - 1)))
          have f7 := cO_7 (c := c) (l := cLo σ k (qUp w k ((e1 : Int) * 3 + j - 1))) (co := cCo σ k (qUp w k ((e1 : Int) * 3 + j - 1))) (q := sKe (sN σ) k (qUp w k ((e1 : Int) * 3 + j - 1)))
          exact v_lv (ih (j + 1) ((j : Int) + 1) _ M L C K (by omega) (by omega) (by omega) ((fo.2.1 8 (by decide) (by decide) (by decide)).trans c8) ((fo.2.1 9 (by decide) (by decide) (by decide)).trans c9) (by omega) (by omega) (fun q => absurd (show k = 0 by omega) q) hv (cJ_offer hR hj1 (by omega) hJ u1 hl2 ⟨rfl, rfl, rfl⟩ c8) (fun c2 M2 L2 C2 K2 a1 a2 a3 => hQ c2 M2 L2 C2 K2 (cFr_t fo a1) (by omega) a3)) ⟨rfl, rfl, rfl, rfl, rfl, rfl, trivial⟩
      · refine v_goto (pc := 83) 154 dX0_chooseEngine_83 (by decide) ?_
        refine v_iinc (pc := 154) (1) dX0_chooseEngine_154 rfl (by decide) (by decide) ?_
        refine v_goto (pc := 157) 3 dX0_chooseEngine_157 (by decide) ?_
        exact v_lv (ih (j + 1) ((j : Int) + 1) c M L C K (by omega) (by omega) (by omega) c8 c9 h7 h7l (fun q => by have := hcap q; omega) hv (cJ_skip hj1 hJ (fun q => by have := (u6.mp q).1; omega)) (fun c2 M2 L2 C2 K2 a1 a2 a3 => hQ c2 M2 L2 C2 K2 a1 (by omega) a3)) ⟨rfl, rfl, rfl, rfl, rfl, rfl, trivial⟩
    · refine v_return (pc := 39) dX0_chooseEngine_39 rfl ⟨Nat.le_refl _, Nat.le_refl _⟩ ?_
      exact hQ c M L C K cFr_r (by omega) (cJ_prune hR hkn hJ (by omega) hj1 u1 (by omega))
set_option maxHeartbeats 4000000 in
set_option maxRecDepth 100000 in
theorem c_X0_chooseEngine {g : vGl} {d : Nat} {Q : Option Value → List mC → Prop} {σ : vSt} {f r w : Nat → Int} {u sp fr hi bare : Int} {k lo e1 p : Nat} {P : (Nat → Int) → Prop} (hd : 3 ≤ d) (hR : YR σ) (hn3 : sN σ ≤ 3) (hkn : k < sN σ) (he1 : (e1 : Int) < σ 3 6) (hplo : p < lo) (hp343 : p < 343) (ho : cOk σ (k + 1) w) (hli : cLi σ u (k + 1) w) (hu : 0 ≤ u ∧ u ≤ 1000) (hsp : 0 ≤ sp ∧ sp ≤ 1000000) (hb : bare = cMa σ (k + 1) w + cSh σ k) (f1 : f 1 = fr) (f2 : f 2 = hi) (hr : ∀ j : Nat, fr + j ≤ hi → r j = qLow (1000 * σ 5 e1) j (fr + j)) (h0 : 0 ≤ fr ∧ fr ≤ 10000) (hhi : hi ≤ fr + 1491) (hfr : fr ≤ bare) (hto : bare + 3 * σ 6 e1 + σ 13 k ≤ hi) {c M L C K : Nat → Int} (c8 : c 8 = sp) (c9 : c 9 = u) (h7 : 0 ≤ c 7) (h7l : (lo : Int) ≤ c 7) (hcap : ¬ k = 0 → c 7 + 3 ≤ 343) (hv : cV σ (k + 1) w (M p) (L p) (C p) (K p)) (hJ : cJ σ u sp k lo P c M L C K) (hQ : ∀ c' M' L' C' K' : Nat → Int, cFr lo c M L C K c' M' L' C' K' → c' 7 ≤ c 7 + 3 → cJ σ u sp k lo (cPj (sN σ) k e1 4 w P) c' M' L' C' K' → Q none (hp (cW σ f r c' M' L' C' K'))) {x y z : Int} (hx : x = k) (hy : y = e1) (hz : z = p) : V g mX0_chooseEngine d (0, 0, 0, 0) Q 0 [(0, .ref 20), (1, vi x), (2, vi y), (3, vi z), (4, vi bare)] [] (hp (cW σ f r c M L C K)) := by
  subst hx
  subst hy
  subst hz
  refine v_iconst (pc := 0) (1) dX0_chooseEngine_0 (by decide) ?_
  refine v_istore (pc := 1) dX0_chooseEngine_1 (by decide) ?_
  refine v_lv (l_ce3 hd hR hn3 hkn he1 hplo hp343 ho hli hu hsp hb f1 f2 hr h0 hhi hfr hto 3 1 1 c M L C K rfl rfl (Nat.le_refl _) c8 c9 h7 h7l hcap hv (cJ_m hJ (fun x _ _ q => ?_)) hQ) ⟨rfl, rfl, rfl, rfl, rfl, rfl, trivial⟩
  rcases q with q | ⟨q1, q2, q3⟩
  · exact q
  · exfalso; omega
set_option maxHeartbeats 4000000 in
set_option maxRecDepth 100000 in
theorem l_cf71 {g : vGl} {d : Nat} {Q : Option Value → List mC → Prop} {σ : vSt} {f r c M L C K : Nat → Int} {k lo0 hi0 : Nat} {sh B0 B1 : Int} (hd : 1 ≤ d) (h343 : hi0 ≤ 343) (hB : 0 ≤ B0 ∧ B1 ≤ 10000) (hM : ∀ i, lo0 ≤ i → i < hi0 → B0 ≤ M i ∧ M i ≤ B1) (K0 : ∀ a b : Int, (∀ i, lo0 ≤ i → i < hi0 → a ≤ M i ∧ M i ≤ b) → (B0 ≤ a ∧ b ≤ B1 ∧ a ≤ b) → V g mX0_chooseFor d (0, 0, 0, 0) Q 111 [(0, .ref 20), (1, vi (k : Int)), (2, vi (lo0 : Int)), (3, vi (hi0 : Int)), (4, vi sh), (5, vi a), (6, vi b)] [] (hp (cW σ f r c M L C K))) : ∀ (m p : Nat) (x a b : Int) (hx : x = p) (hm : p + m = hi0) (hl : lo0 ≤ p) (hab : B0 ≤ a ∧ b ≤ B1 ∧ a ≤ b) (ha : ∀ i, lo0 ≤ i → i < p → a ≤ M i) (hb : ∀ i, lo0 ≤ i → i < p → M i ≤ b), V g mX0_chooseFor d (0, 0, 0, 0) Q 71 [(0, .ref 20), (1, vi (k : Int)), (2, vi (lo0 : Int)), (3, vi (hi0 : Int)), (4, vi sh), (5, vi a), (6, vi b), (7, vi x)] [] (hp (cW σ f r c M L C K)) := by
  intro m
  induction m with
  | zero =>
    intro p x a b hx hm hl hab ha hb
    refine v_iload (pc := 71) dX0_chooseFor_71 rfl ?_
    refine v_iload_n (pc := 73) dX0_chooseFor_73 rfl ?_
    refine v_icmp_ge (pc := 74) 111 dX0_chooseFor_74 (by decide) (by omega) (by omega) (fun h74 => ?_) (fun h74 => by exfalso; omega)
    exact v_lv (K0 a b (fun i h1 h2 => ⟨ha i h1 (by omega), hb i h1 (by omega)⟩) hab) ⟨rfl, rfl, rfl, rfl, rfl, rfl, rfl, trivial⟩
  | succ m ih =>
    intro p x a b hx hm hl hab ha hb
    have mp := hM p (by omega) (by omega)
    refine v_iload (pc := 71) dX0_chooseFor_71 rfl ?_
    refine v_iload_n (pc := 73) dX0_chooseFor_73 rfl ?_
    refine v_icmp_ge (pc := 74) 111 dX0_chooseFor_74 (by decide) (by omega) (by omega) (fun h74 => by exfalso; omega) (fun h74 => ?_)
    refine v_iload (pc := 77) dX0_chooseFor_77 rfl ?_
    refine v_aload_n (pc := 79) dX0_chooseFor_79 rfl ?_
    refine v_gR (pc := 80) dX0_chooseFor_80 fl_X0_11 rfl ?_
    refine v_iload (pc := 83) dX0_chooseFor_83 rfl ?_
    refine v_aIv (pc := 85) (j := p) (M p) dX0_chooseFor_85 rfl (by omega) (by omega) (by omega) rfl ?_
    refine v_min (pc := 86) dX0_chooseFor_86 ml_X0_91 st_min it_Math co_min (by omega) (by omega) (Nat.le_of_ble_eq_true rfl) (by omega) ⟨Nat.le_refl _, Nat.le_refl _⟩ ?_
    refine v_istore (pc := 89) dX0_chooseFor_89 (by decide) ?_
    refine v_iload (pc := 91) dX0_chooseFor_91 rfl ?_
    refine v_aload_n (pc := 93) dX0_chooseFor_93 rfl ?_
    refine v_gR (pc := 94) dX0_chooseFor_94 fl_X0_11 rfl ?_
    refine v_iload (pc := 97) dX0_chooseFor_97 rfl ?_
    refine v_aIv (pc := 99) (j := p) (M p) dX0_chooseFor_99 rfl (by omega) (by omega) (by omega) rfl ?_
    refine v_max (pc := 100) dX0_chooseFor_100 ml_X0_97 st_max it_Math co_max (by omega) (by omega) (Nat.le_of_ble_eq_true rfl) (by omega) ⟨Nat.le_refl _, Nat.le_refl _⟩ ?_
    refine v_istore (pc := 103) dX0_chooseFor_103 (by decide) ?_
    refine v_iinc (pc := 105) (1) dX0_chooseFor_105 rfl (by decide) (by decide) ?_
    refine v_goto (pc := 108) 71 dX0_chooseFor_108 (by decide) ?_
    refine v_lv (ih (p + 1) (x + 1) _ _ (by omega) (by omega) (by omega) (by omega) (fun i h1 h2 => ?_) (fun i h1 h2 => ?_)) ⟨rfl, rfl, rfl, rfl, rfl, rfl, rfl, rfl, trivial⟩
    · rcases (show i < p ∨ i = p by omega) with t | t
      · have := ha i h1 t
        omega
      · rw [t]
        omega
    · rcases (show i < p ∨ i = p by omega) with t | t
      · have := hb i h1 t
        omega
      · rw [t]
        omega
set_option maxHeartbeats 4000000 in
set_option maxRecDepth 100000 in
theorem l_cf183 {g : vGl} {d : Nat} {Q : Option Value → List mC → Prop} {σ : vSt} {u sp a b : Int} {k lo0 hi0 : Nat} {M0 L0 C0 K0 : Nat → Int} (hd : 4 ≤ d) (hR : YR σ) (hn3 : sN σ ≤ 3) (hkn : k < sN σ) (h343 : hi0 ≤ 343) (hu : 0 ≤ u ∧ u ≤ 1000) (hsp : 0 ≤ sp ∧ sp ≤ 1000000) (hI : cI σ u (k + 1) lo0 hi0 (fun _ => True) M0 L0 C0 K0) (hab : ∀ i, lo0 ≤ i → i < hi0 → a ≤ M0 i ∧ M0 i ≤ b) {f r : Nat → Int} {fr hi : Int} {e1 : Nat} (he1 : (e1 : Int) < σ 3 6) (f1 : f 1 = fr) (f2 : f 2 = hi) (hr : ∀ j : Nat, fr + j ≤ hi → r j = qLow (1000 * σ 5 e1) j (fr + j)) (h0 : 0 ≤ fr ∧ fr ≤ 10000) (hhi : hi ≤ fr + 1491) (hfr : fr = a + cSh σ k) (hto : hi = b + cSh σ k + 3 * σ 6 e1 + σ 13 k) : ∀ (m p : Nat) (x : Int) (c M L C K : Nat → Int) (hx : x = p) (hm : p + m = hi0) (hl : lo0 ≤ p) (c8 : c 8 = sp) (c9 : c 9 = u) (h7 : (hi0 : Int) ≤ c 7) (hF : ∀ i, i < hi0 → M i = M0 i ∧ L i = L0 i ∧ C i = C0 i ∧ K i = K0 i) (hcap : ¬ k = 0 → c 7 + 3 * m ≤ 343) (hJ : cJ σ u sp k hi0 (cPa σ k e1 lo0 p M0 L0 C0 K0) c M L C K) (KK : ∀ c' M' L' C' K' : Nat → Int, cFr hi0 c M L C K c' M' L' C' K' → c' 7 ≤ c 7 + 3 * m → cJ σ u sp k hi0 (cPa σ k e1 lo0 hi0 M0 L0 C0 K0) c' M' L' C' K' → V g mX0_chooseFor d (0, 0, 0, 0) Q 214 [(0, .ref 20), (1, vi (k : Int)), (2, vi (lo0 : Int)), (3, vi (hi0 : Int)), (4, vi (cSh σ k)), (5, vi a), (6, vi b), (7, vi (e1 : Int))] [] (hp (cW σ f r c' M' L' C' K'))), V g mX0_chooseFor d (0, 0, 0, 0) Q 183 [(0, .ref 20), (1, vi (k : Int)), (2, vi (lo0 : Int)), (3, vi (hi0 : Int)), (4, vi (cSh σ k)), (5, vi a), (6, vi b), (7, vi (e1 : Int)), (9, vi x)] [] (hp (cW σ f r c M L C K)) := by
  intro m
  induction m with
  | zero =>
    intro p x c M L C K hx hm hl c8 c9 h7 hF hcap hJ KK
    subst hx
    refine v_iload (pc := 183) dX0_chooseFor_183 rfl ?_
    refine v_iload_n (pc := 185) dX0_chooseFor_185 rfl ?_
    refine v_icmp_ge (pc := 186) 214 dX0_chooseFor_186 (by decide) (by omega) (by omega) (fun h186 => ?_) (fun h186 => by exfalso; omega)
    have ep : p = hi0 := by omega
    rw [ep] at hJ
    exact v_lv (KK c M L C K cFr_r (by omega) hJ) ⟨rfl, rfl, rfl, rfl, rfl, rfl, rfl, rfl, trivial⟩
  | succ m ih =>
    intro p x c M L C K hx hm hl c8 c9 h7 hF hcap hJ KK
    subst hx
    obtain ⟨w, w1, w2, w3⟩ := hI.1 p hl (by omega)
    have fp := hF p (by omega)
    have bp := hab p hl (by omega)
    have r6 := hR.2.1 e1
    have hv : cV σ (k + 1) w (M p) (L p) (C p) (K p) := by rw [fp.1, fp.2.1, fp.2.2.1, fp.2.2.2]; exact w3
    have mp : M p = cMa σ (k + 1) w := hv.1
    refine v_iload (pc := 183) dX0_chooseFor_183 rfl ?_
    refine v_iload_n (pc := 185) dX0_chooseFor_185 rfl ?_
    refine v_icmp_ge (pc := 186) 214 dX0_chooseFor_186 (by decide) (by omega) (by omega) (fun h186 => by exfalso; omega) (fun h186 => ?_)
    refine v_aload_n (pc := 189) dX0_chooseFor_189 rfl ?_
    refine v_iload_n (pc := 190) dX0_chooseFor_190 rfl ?_
    refine v_iload (pc := 191) dX0_chooseFor_191 rfl ?_
    refine v_iload (pc := 193) dX0_chooseFor_193 rfl ?_
    refine v_aload_n (pc := 195) dX0_chooseFor_195 rfl ?_
    refine v_gR (pc := 196) dX0_chooseFor_196 fl_X0_11 rfl ?_
    refine v_iload (pc := 199) dX0_chooseFor_199 rfl ?_
    refine v_aIv (pc := 201) (j := p) (M p) dX0_chooseFor_201 rfl (by omega) (by omega) (by omega) rfl ?_
    refine v_iload (pc := 202) dX0_chooseFor_202 rfl ?_
    refine v_iadd (pc := 204) dX0_chooseFor_204 ?_
    refine v_cVv4 (pc := 205) (z := 0) (d' := d - 1) dX0_chooseFor_205 kX0_chooseEngine ml_X0_114 iwX0_chooseEngine swX0_chooseEngine rfl rfl (Nat.le_of_ble_eq_true rfl) (Nat.le_of_ble_eq_true rfl) (by omega) ⟨Nat.le_refl _, Nat.le_refl _⟩ ?_
    refine c_X0_chooseEngine (w := w) (u := u) (sp := sp) (k := k) (lo := hi0) (e1 := e1) (p := p) (by omega) hR hn3 hkn he1 (by omega) (by omega) w1 w2 hu hsp (by omega) f1 f2 hr h0 hhi (by omega) (by omega) c8 c9 (by omega) h7 (fun q => by have := hcap q; omega) hv hJ (fun c2 M2 L2 C2 K2 a1 a2 a3 => ?_) rfl rfl rfl
    refine ⟨rfl, ?_⟩
    refine v_iinc (pc := 208) (1) dX0_chooseFor_208 rfl (by decide) (by decide) ?_
    refine v_goto (pc := 211) 183 dX0_chooseFor_211 (by decide) ?_
    refine v_lv (ih (p + 1) ((p : Int) + 1) c2 M2 L2 C2 K2 (by omega) (by omega) (by omega) ((a1.2.1 8 (by decide) (by decide) (by decide)).trans c8) ((a1.2.1 9 (by decide) (by decide) (by decide)).trans c9) (by have := a1.2.2; omega) (fun i hi => ?_) (fun q => by have := hcap q; omega) (cJ_m a3 (fun x h1 h2 q => cPa_s hR w1 w3 x h1 q)) (fun c3 M3 L3 C3 K3 b1 b2 b3 => KK c3 M3 L3 C3 K3 (cFr_t a1 b1) (by omega) b3)) ⟨rfl, rfl, rfl, rfl, rfl, rfl, rfl, rfl, rfl, trivial⟩
    have t1 := a1.1 i hi
    have t2 := hF i hi
    exact ⟨t1.1.trans t2.1, t1.2.1.trans t2.2.1, t1.2.2.1.trans t2.2.2.1, t1.2.2.2.trans t2.2.2.2⟩
set_option maxHeartbeats 4000000 in
set_option maxRecDepth 100000 in
theorem l_cf114 {g : vGl} {d : Nat} {Q : Option Value → List mC → Prop} {σ : vSt} {u sp a b : Int} {k lo0 hi0 : Nat} {M0 L0 C0 K0 : Nat → Int} (hd : 4 ≤ d) (hR : YR σ) (hn3 : sN σ ≤ 3) (hkn : k < sN σ) (h343 : hi0 ≤ 343) (hu : 0 ≤ u ∧ u ≤ 1000) (hsp : 0 ≤ sp ∧ sp ≤ 1000000) (hI : cI σ u (k + 1) lo0 hi0 (fun _ => True) M0 L0 C0 K0) (hab : ∀ i, lo0 ≤ i → i < hi0 → a ≤ M0 i ∧ M0 i ≤ b) (hlh : lo0 < hi0) (hB : 0 ≤ a ∧ b ≤ a + 594 ∧ b ≤ 8000 ∧ a ≤ b) : ∀ (m e1 : Nat) (x : Int) (f r c M L C K : Nat → Int) (hx : x = e1) (hm : (e1 : Int) + m = σ 3 6) (r0 : r 0 = 0) (c8 : c 8 = sp) (c9 : c 9 = u) (h7 : (hi0 : Int) ≤ c 7) (hF : ∀ i, i < hi0 → M i = M0 i ∧ L i = L0 i ∧ C i = C0 i ∧ K i = K0 i) (hcap : ¬ k = 0 → c 7 + 3 * ((hi0 : Int) - lo0) * m ≤ 343) (hJ : cJ σ u sp k hi0 (cPe k e1) c M L C K) (hQ : ∀ f' r' c' M' L' C' K' : Nat → Int, r' 0 = 0 → cFr hi0 c M L C K c' M' L' C' K' → c' 7 ≤ c 7 + 3 * ((hi0 : Int) - lo0) * m → cJ σ u sp k hi0 (fun _ => True) c' M' L' C' K' → Q none (hp (cW σ f' r' c' M' L' C' K'))), V g mX0_chooseFor d (0, 0, 0, 0) Q 114 [(0, .ref 20), (1, vi (k : Int)), (2, vi (lo0 : Int)), (3, vi (hi0 : Int)), (4, vi (cSh σ k)), (5, vi a), (6, vi b), (7, vi x)] [] (hp (cW σ f r c M L C K)) := by
  have r36 := hR.1
  have g13 := hR.2.2.1 k
  have sh := cSh_rng hR k
  intro m
  induction m with
  | zero =>
    intro e1 x f r c M L C K hx hm r0 c8 c9 h7 hF hcap hJ hQ
    subst hx
    refine v_iload (pc := 114) dX0_chooseFor_114 rfl ?_
    refine v_aload_n (pc := 116) dX0_chooseFor_116 rfl ?_
    refine v_gR (pc := 117) dX0_chooseFor_117 fl_X0_57 rfl ?_
    refine v_gIv (pc := 120) (σ 3 6) dX0_chooseFor_120 fl_X0_100 rfl rfl ?_
    refine v_icmp_ge (pc := 123) 220 dX0_chooseFor_123 (by decide) (by omega) (by omega) (fun h123 => ?_) (fun h123 => by exfalso; omega)
    refine v_return (pc := 220) dX0_chooseFor_220 rfl ⟨Nat.le_refl _, Nat.le_refl _⟩ ?_
    refine hQ f r c M L C K r0 cFr_r (by omega) (cJ_m hJ (fun x h1 _ _ => ?_))
    have := h1 k (Nat.le_refl _) hkn
    show x k / 3 < (e1 : Int)
    omega
  | succ m ih =>
    intro e1 x f r c M L C K hx hm r0 c8 c9 h7 hF hcap hJ hQ
    subst hx
    have r6 := hR.2.1 e1
    have em : 3 * ((hi0 : Int) - lo0) * ((m + 1 : Nat) : Int) = 3 * ((hi0 : Int) - lo0) * m + 3 * ((hi0 : Int) - lo0) := by rw [show ((m + 1 : Nat) : Int) = (m : Int) + 1 by omega, Int.mul_add, Int.mul_one]
    have en : 0 ≤ 3 * ((hi0 : Int) - lo0) * m := Int.mul_nonneg (by omega) (by omega)
    refine v_iload (pc := 114) dX0_chooseFor_114 rfl ?_
    refine v_aload_n (pc := 116) dX0_chooseFor_116 rfl ?_
    refine v_gR (pc := 117) dX0_chooseFor_117 fl_X0_57 rfl ?_
    refine v_gIv (pc := 120) (σ 3 6) dX0_chooseFor_120 fl_X0_100 rfl rfl ?_
    refine v_icmp_ge (pc := 123) 220 dX0_chooseFor_123 (by decide) (by omega) (by omega) (fun h123 => by exfalso; omega) (fun h123 => ?_)
    refine v_iload (pc := 126) dX0_chooseFor_126 rfl ?_
    refine v_iload (pc := 128) dX0_chooseFor_128 rfl ?_
    refine v_iadd (pc := 130) dX0_chooseFor_130 ?_
    refine v_iconst (pc := 131) (3) dX0_chooseFor_131 (by decide) ?_
    refine v_aload_n (pc := 132) dX0_chooseFor_132 rfl ?_
    refine v_gR (pc := 133) dX0_chooseFor_133 fl_X0_57 rfl ?_
    refine v_gR (pc := 136) dX0_chooseFor_136 fl_X0_103 rfl ?_
    refine v_iload (pc := 139) dX0_chooseFor_139 rfl ?_
    refine v_aIv (pc := 141) (j := e1) (σ 6 e1) dX0_chooseFor_141 rfl (by omega) (by omega) (by omega) rfl ?_
    refine v_imul (pc := 142) dX0_chooseFor_142 ?_
    refine v_iadd (pc := 143) dX0_chooseFor_143 ?_
    refine v_aload_n (pc := 144) dX0_chooseFor_144 rfl ?_
    refine v_gR (pc := 145) dX0_chooseFor_145 fl_X0_47 rfl ?_
    refine v_gR (pc := 148) dX0_chooseFor_148 fl_X0_84 rfl ?_
    refine v_iload_n (pc := 151) dX0_chooseFor_151 rfl ?_
    refine v_aIv (pc := 152) (j := k) (σ 13 k) dX0_chooseFor_152 rfl (by omega) (by omega) (by omega) rfl ?_
    refine v_iadd (pc := 153) dX0_chooseFor_153 ?_
    refine v_istore (pc := 154) dX0_chooseFor_154 (by decide) ?_
    refine v_aload_n (pc := 156) dX0_chooseFor_156 rfl ?_
    refine v_gR (pc := 157) dX0_chooseFor_157 fl_X0_58 rfl ?_
    refine v_aload_n (pc := 160) dX0_chooseFor_160 rfl ?_
    refine v_gR (pc := 161) dX0_chooseFor_161 fl_X0_57 rfl ?_
    refine v_gR (pc := 164) dX0_chooseFor_164 fl_X0_106 rfl ?_
    refine v_iload (pc := 167) dX0_chooseFor_167 rfl ?_
    refine v_aIv (pc := 169) (j := e1) (σ 5 e1) dX0_chooseFor_169 rfl (by omega) (by omega) (by omega) rfl ?_
    refine v_iload (pc := 170) dX0_chooseFor_170 rfl ?_
    refine v_iload (pc := 172) dX0_chooseFor_172 rfl ?_
    refine v_iadd (pc := 174) dX0_chooseFor_174 ?_
    refine v_iload (pc := 175) dX0_chooseFor_175 rfl ?_
    refine v_cVv3 (pc := 177) (z := 0) (d' := d - 1) dX0_chooseFor_177 kX3_ready ml_X0_109 iwX3_ready swX3_ready rfl rfl (Nat.le_of_ble_eq_true rfl) (Nat.le_of_ble_eq_true rfl) (by omega) ⟨Nat.le_refl _, Nat.le_refl _⟩ ?_
    refine c_X3_ready (σ := vRow (vRow (vRow (vRow (vRow σ 20 c) 21 M) 22 L) 23 C) 24 K) (by omega) (by omega) (by omega) (by omega) r0 (fun f2 r2 e1h e2h e3h => ?_)
    refine ⟨rfl, ?_⟩
    refine v_iload_n (pc := 180) dX0_chooseFor_180 rfl ?_
    refine v_istore (pc := 181) dX0_chooseFor_181 (by decide) ?_
    refine v_lv (l_cf183 (f := f2) (r := r2) (e1 := e1) hd hR hn3 hkn h343 hu hsp hI hab (by omega) e1h e2h e3h (by omega) (by omega) rfl rfl (hi0 - lo0) lo0 (lo0 : Int) c M L C K rfl (by omega) (Nat.le_refl _) c8 c9 h7 hF (fun q => by have := hcap q; omega) (cJ_m hJ (fun x _ _ q => ?_)) (fun c3 M3 L3 C3 K3 b1 b2 b3 => ?_)) ⟨rfl, rfl, rfl, rfl, rfl, rfl, rfl, rfl, rfl, trivial⟩
    · rcases q with q | ⟨q1, i, i1, i2, -⟩
      · exact q
      · omega
    · refine v_iinc (pc := 214) (1) dX0_chooseFor_214 rfl (by decide) (by decide) ?_
      refine v_goto (pc := 217) 114 dX0_chooseFor_217 (by decide) ?_
      refine v_lv (ih (e1 + 1) ((e1 : Int) + 1) f2 r2 c3 M3 L3 C3 K3 (by omega) (by omega) (e3h 0 (by omega)) ((b1.2.1 8 (by decide) (by decide) (by decide)).trans c8) ((b1.2.1 9 (by decide) (by decide) (by decide)).trans c9) (by have := b1.2.2; omega) (fun i hi => ?_) (fun q => by have := hcap q; omega) (cJ_m b3 (fun x h1 h2 q => ?_)) (fun f4 r4 c4 M4 L4 C4 K4 d0 d1 d2 d3 => hQ f4 r4 c4 M4 L4 C4 K4 d0 (cFr_t b1 d1) (by omega) d3)) ⟨rfl, rfl, rfl, rfl, rfl, rfl, rfl, rfl, trivial⟩
      · have t1 := b1.1 i hi
        have t2 := hF i hi
        exact ⟨t1.1.trans t2.1, t1.2.1.trans t2.2.1, t1.2.2.1.trans t2.2.2.1, t1.2.2.2.trans t2.2.2.2⟩
      · have q2 : x k / 3 < ((e1 + 1 : Nat) : Int) := q
        rcases (show x k / 3 < (e1 : Int) ∨ x k / 3 = (e1 : Int) by omega) with t | t
        · exact Or.inl t
        · obtain ⟨i, i1, i2, i3⟩ := hI.2 x (fun j p q => h1 j (by omega) q) (fun j p q => h2 j (by omega) q) trivial
          exact Or.inr ⟨t, i, i1, i2, i3⟩
set_option maxHeartbeats 4000000 in
set_option maxRecDepth 100000 in
theorem c_X0_chooseFor {g : vGl} {d : Nat} {Q : Option Value → List mC → Prop} {σ : vSt} {u sp : Int} {k lo0 hi0 : Nat} {f r c M L C K : Nat → Int} (hd : 4 ≤ d) (hR : YR σ) (hn3 : sN σ ≤ 3) (hkn : k < sN σ) (hlh : lo0 ≤ hi0) (h343 : hi0 ≤ 343) (hu : 0 ≤ u ∧ u ≤ 1000) (hsp : 0 ≤ sp ∧ sp ≤ 1000000) (hI : cI σ u (k + 1) lo0 hi0 (fun _ => True) M L C K) (rz : r 0 = 0) (c8 : c 8 = sp) (c9 : c 9 = u) (h7 : c 7 = hi0) (h10 : c 10 = 1000000) (hcap : ¬ k = 0 → (hi0 : Int) + 3 * ((hi0 : Int) - lo0) * σ 3 6 ≤ 343) (hQ : ∀ f' r' c' M' L' C' K' : Nat → Int, r' 0 = 0 → cFr hi0 c M L C K c' M' L' C' K' → c' 7 ≤ c 7 + 3 * ((hi0 : Int) - lo0) * σ 3 6 → cJ σ u sp k hi0 (fun _ => True) c' M' L' C' K' → Q none (hp (cW σ f' r' c' M' L' C' K'))) {x y z : Int} (hx : x = k) (hy : y = lo0) (hz : z = hi0) : V g mX0_chooseFor d (0, 0, 0, 0) Q 0 [(0, .ref 20), (1, vi x), (2, vi y), (3, vi z)] [] (hp (cW σ f r c M L C K)) := by
  obtain ⟨⟨r0, r1, r2, r3, r4, r5, r6, r7, r8, r9⟩, rE, rS, rT, rF⟩ := id hR
  subst hx
  subst hy
  subst hz
  have eN : ((sN σ : Nat) : Int) = σ 10 6 := by show (((σ 10 6).toNat : Nat) : Int) = σ 10 6; omega
  have g13 := rS k
  have e14 : σ 14 k + qTank (σ 2 1) (σ 13 k) = cSh σ k := rfl
  have ms : ∀ i, lo0 ≤ i → i < hi0 → cBs σ (k + 1) ≤ M i ∧ M i ≤ cBs σ (k + 1) + 594 := by
    intro i h1 h2
    obtain ⟨w, -, -, w3⟩ := hI.1 i h1 h2
    have a := cMa_rng (w := w) hR (sN σ - (k + 1)) (k + 1) rfl
    have b := w3.1
    omega
  have bs := cBs_rng hR (sN σ - (k + 1)) (k + 1) rfl
  refine v_aload_n (pc := 0) dX0_chooseFor_0 rfl ?_
  refine v_gR (pc := 1) dX0_chooseFor_1 fl_X0_47 rfl ?_
  refine v_iload_n (pc := 4) dX0_chooseFor_4 rfl ?_
  refine v_cVi1 (pc := 5) (z := 0) (d' := d - 1) dX0_chooseFor_5 kX4_has ml_X0_77 iwX4_has swX4_has rfl rfl (Nat.le_of_ble_eq_true rfl) (Nat.le_of_ble_eq_true rfl) (by omega) ⟨Nat.le_refl _, Nat.le_refl _⟩ ?_
  refine c_X4_has1 (by exact hR) (by omega) (by show (k : Int) < σ 10 6; omega) ?_
  refine ⟨_, rfl, ?_⟩
  refine v_if_eq (pc := 8) 27 dX0_chooseFor_8 (by decide) (by omega) (fun h8 => by exfalso; omega) (fun h8 => ?_)
  refine v_iload_n (pc := 11) dX0_chooseFor_11 rfl ?_
  refine v_if_lt (pc := 12) 27 dX0_chooseFor_12 (by decide) (by omega) (fun h12 => by exfalso; omega) (fun h12 => ?_)
  refine v_iload_n (pc := 15) dX0_chooseFor_15 rfl ?_
  refine v_iload_n (pc := 16) dX0_chooseFor_16 rfl ?_
  refine v_icmp_ge (pc := 17) 27 dX0_chooseFor_17 (by decide) (by omega) (by omega) (fun h17 => ?_) (fun h17 => ?_)
  · refine v_return (pc := 27) dX0_chooseFor_27 rfl ⟨Nat.le_refl _, Nat.le_refl _⟩ ?_
    have el : lo0 = hi0 := by omega
    refine hQ f r c M L C K rz cFr_r ?_ ⟨fun q => ⟨h10, ?_⟩, fun q => ?_⟩
    · have : 0 ≤ 3 * ((hi0 : Int) - lo0) * σ 3 6 := Int.mul_nonneg (by omega) (by omega)
      omega
    · rw [show (c 7).toNat = hi0 by omega]
      refine ⟨fun i h1 h2 => by omega, fun w h1 h2 _ => ?_⟩
      obtain ⟨i, i1, i2, -⟩ := hI.2 w (fun j p q => h1 j (by omega) q) (fun j p q => h2 j (by omega) q) trivial
      omega
    · refine Or.inl ⟨h10, fun w h1 h2 _ => ?_⟩
      obtain ⟨i, i1, i2, -⟩ := hI.2 w (fun j p q => h1 j (by omega) q) (fun j p q => h2.1 j (by omega) q) trivial
      omega
  · refine v_iload_n (pc := 20) dX0_chooseFor_20 rfl ?_
    refine v_sipush (pc := 21) (343) dX0_chooseFor_21 (by decide) ?_
    refine v_icmp_le (pc := 24) 28 dX0_chooseFor_24 (by decide) (by omega) (by omega) (fun h24 => ?_) (fun h24 => by exfalso; omega)
    refine v_aload_n (pc := 28) dX0_chooseFor_28 rfl ?_
    refine v_gR (pc := 29) dX0_chooseFor_29 fl_X0_47 rfl ?_
    refine v_gR (pc := 32) dX0_chooseFor_32 fl_X0_81 rfl ?_
    refine v_iload_n (pc := 35) dX0_chooseFor_35 rfl ?_
    refine v_aIv (pc := 36) (j := k) (σ 14 k) dX0_chooseFor_36 rfl (by omega) (by omega) (by omega) rfl ?_
    refine v_aload_n (pc := 37) dX0_chooseFor_37 rfl ?_
    refine v_gR (pc := 38) dX0_chooseFor_38 fl_X0_47 rfl ?_
    refine v_aload_n (pc := 41) dX0_chooseFor_41 rfl ?_
    refine v_gR (pc := 42) dX0_chooseFor_42 fl_X0_47 rfl ?_
    refine v_gR (pc := 45) dX0_chooseFor_45 fl_X0_84 rfl ?_
    refine v_iload_n (pc := 48) dX0_chooseFor_48 rfl ?_
    refine v_aIv (pc := 49) (j := k) (σ 13 k) dX0_chooseFor_49 rfl (by omega) (by omega) (by omega) rfl ?_
    refine v_cVi1 (pc := 50) (z := 0) (d' := d - 1) dX0_chooseFor_50 kX4_tankFor ml_X0_87 iwX4_tankFor swX4_tankFor rfl rfl (Nat.le_of_ble_eq_true rfl) (Nat.le_of_ble_eq_true rfl) (by omega) ⟨Nat.le_refl _, Nat.le_refl _⟩ ?_
    refine c_X4_tankFor (by omega) (show 0 ≤ σ 2 1 ∧ σ 2 1 ≤ 100 by omega) ?_
    refine ⟨_, rfl, ?_⟩
    refine v_iadd (pc := 53) dX0_chooseFor_53 ?_
    refine v_top (show _ = cSh σ k from rfl) ?_
    refine v_istore (pc := 54) dX0_chooseFor_54 (by decide) ?_
    refine v_aload_n (pc := 56) dX0_chooseFor_56 rfl ?_
    refine v_gR (pc := 57) dX0_chooseFor_57 fl_X0_11 rfl ?_
    refine v_iload_n (pc := 60) dX0_chooseFor_60 rfl ?_
    refine v_aIv (pc := 61) (j := lo0) (M lo0) dX0_chooseFor_61 rfl (by omega) (by omega) (by omega) rfl ?_
    refine v_istore (pc := 62) dX0_chooseFor_62 (by decide) ?_
    refine v_iload (pc := 64) dX0_chooseFor_64 rfl ?_
    refine v_istore (pc := 66) dX0_chooseFor_66 (by decide) ?_
    refine v_iload_n (pc := 68) dX0_chooseFor_68 rfl ?_
    refine v_istore (pc := 69) dX0_chooseFor_69 (by decide) ?_
    have m0 := ms lo0 (Nat.le_refl _) (by omega)
    refine v_lv (l_cf71 (B0 := cBs σ (k + 1)) (B1 := cBs σ (k + 1) + 594) (by omega) h343 (by omega) ms (fun a b ab1 ab2 => ?_) (hi0 - lo0) lo0 (lo0 : Int) (M lo0) (M lo0) rfl (by omega) (Nat.le_refl _) (by omega) (fun i h1 h2 => by omega) (fun i h1 h2 => by omega)) ⟨rfl, rfl, rfl, rfl, rfl, rfl, rfl, rfl, trivial⟩
    refine v_iconst (pc := 111) (0) dX0_chooseFor_111 (by decide) ?_
    refine v_istore (pc := 112) dX0_chooseFor_112 (by decide) ?_
    have e6 : (((σ 3 6).toNat : Nat) : Int) = σ 3 6 := by omega
    refine v_lv (l_cf114 (a := a) (b := b) hd hR hn3 hkn h343 hu hsp hI ab1 (by omega) (by omega) (σ 3 6).toNat 0 0 f r c M L C K rfl (by omega) rz c8 c9 (by omega) (fun i _ => ⟨rfl, rfl, rfl, rfl⟩) (fun q => by rw [e6, h7]; exact hcap q) ⟨fun q => ⟨h10, ?_⟩, fun q => Or.inl ⟨h10, fun w h1 _ h3 => ?_⟩⟩ (by rw [e6]; exact hQ)) ⟨rfl, rfl, rfl, rfl, rfl, rfl, rfl, rfl, trivial⟩
    · rw [show (c 7).toNat = hi0 by omega]
      refine ⟨fun i h1 h2 => by omega, fun w h1 _ h3 => ?_⟩
      have := h1 k (Nat.le_refl _) hkn
      have h4 : w k / 3 < ((0 : Nat) : Int) := h3
      omega
    · have := h1 k (by omega) hkn
      have h4 : w k / 3 < ((0 : Nat) : Int) := h3
      omega
set_option maxHeartbeats 4000000 in
set_option maxRecDepth 100000 in
theorem l_sr48 {g : vGl} {d : Nat} {Q : Option Value → List mC → Prop} {σ : vSt} {u sp : Int} (hd : 5 ≤ d) (hR : YR σ) (hn0 : 0 < sN σ) (hn3 : sN σ ≤ 3) (hu : 0 ≤ u ∧ u ≤ 1000) (hsp : 0 ≤ sp ∧ sp ≤ 1000000) (hQ : ∀ f' r' c' M' L' C' K' : Nat → Int, r' 0 = 0 → (∀ j, j < 7 ∨ 12 ≤ j → c' j = σ 20 j) → cO σ u sp (fun _ => True) (c' 10) (c' 11) → V g mX0_search d (0, 0, 0, 0) Q 77 [(0, .ref 20)] [] (hp (cW σ f' r' c' M' L' C' K'))) : ∀ (m lo0 hi0 : Nat) (x y : Int) (f r c M L C K : Nat → Int) (hx : x + 1 = m) (hy : y = lo0) (hm : m ≤ sN σ) (hlh : lo0 ≤ hi0) (r0 : r 0 = 0) (c8 : c 8 = sp) (c9 : c 9 = u) (h7 : c 7 = hi0) (hc : ∀ j, j < 7 ∨ 12 ≤ j → c j = σ 20 j) (hcap : (m = sN σ ∧ lo0 = 0 ∧ hi0 = 1) ∨ (m + 1 = sN σ ∧ lo0 = 1 ∧ hi0 ≤ 19) ∨ (m + 2 = sN σ ∧ hi0 ≤ 343) ∨ m = 0) (hI : ¬ m = 0 → cI σ u m lo0 hi0 (fun _ => True) M L C K) (h10 : ¬ m = 0 → c 10 = 1000000) (h0 : m = 0 → cO σ u sp (fun _ => True) (c 10) (c 11)), V g mX0_search d (0, 0, 0, 0) Q 48 [(0, .ref 20), (3, vi y), (4, vi x)] [] (hp (cW σ f r c M L C K)) := by
  obtain ⟨⟨r0, r1, r2, r3, r4, r5, r6, r7, r8, r9⟩, rE, rS, rT, rF⟩ := id hR
  intro m
  induction m with
  | zero =>
    intro lo0 hi0 x y f r c M L C K hx hy hm hlh r0 c8 c9 h7 hc hcap hI h10 h0
    have h00 := h0 rfl
    refine v_iload (pc := 48) dX0_search_48 rfl ?_
    refine v_if_lt (pc := 50) 77 dX0_search_50 (by decide) (by omega) (fun h50 => ?_) (fun h50 => by exfalso; omega)
    exact v_lv (hQ f r c M L C K r0 hc h00) ⟨rfl, trivial⟩
  | succ k ih =>
    intro lo0 hi0 x y f r c M L C K hx hy hm hlh r0 c8 c9 h7 hc hcap hI h10 h0
    have nl : ∀ t : Int, 0 ≤ t → 3 * t * σ 3 6 ≤ 3 * t * 6 := fun t ht => Int.mul_le_mul_of_nonneg_left (by omega) (by omega)
    have n1 := nl ((hi0 : Int) - lo0) (by omega)
    have hI2 := hI (by omega)
    have h102 := h10 (by omega)
    refine v_iload (pc := 48) dX0_search_48 rfl ?_
    refine v_if_lt (pc := 50) 77 dX0_search_50 (by decide) (by omega) (fun h50 => by exfalso; omega) (fun h50 => ?_)
    refine v_aload_n (pc := 53) dX0_search_53 rfl ?_
    refine v_gIv (pc := 54) ((hi0 : Int)) dX0_search_54 fl_X0_24 rfl h7 ?_
    refine v_istore (pc := 57) dX0_search_57 (by decide) ?_
    refine v_aload_n (pc := 59) dX0_search_59 rfl ?_
    refine v_iload (pc := 60) dX0_search_60 rfl ?_
    refine v_iload_n (pc := 62) dX0_search_62 rfl ?_
    refine v_iload (pc := 63) dX0_search_63 rfl ?_
    refine v_cVv3 (pc := 65) (z := 0) (d' := d - 1) dX0_search_65 kX0_chooseFor ml_X0_73 iwX0_chooseFor swX0_chooseFor rfl rfl (Nat.le_of_ble_eq_true rfl) (Nat.le_of_ble_eq_true rfl) (by omega) ⟨Nat.le_refl _, Nat.le_refl _⟩ ?_
    refine c_X0_chooseFor (u := u) (sp := sp) (k := k) (lo0 := lo0) (hi0 := hi0) (by omega) hR hn3 (by omega) hlh (by omega) hu hsp hI2 r0 c8 c9 h7 h102 (fun q => by omega) (fun f2 r2 c2 M2 L2 C2 K2 a0 a1 a2 a3 => ?_) (by omega) hy rfl
    refine ⟨rfl, ?_⟩
    refine v_iload (pc := 68) dX0_search_68 rfl ?_
    refine v_istore_n (pc := 70) dX0_search_70 (by decide) ?_
    refine v_iinc (pc := 71) (-1) dX0_search_71 rfl (by decide) (by decide) ?_
    refine v_goto (pc := 74) 48 dX0_search_74 (by decide) ?_
    have a13 := a1.2.2
    refine v_lv (ih hi0 (c2 7).toNat (x + (-1)) (hi0 : Int) f2 r2 c2 M2 L2 C2 K2 (by omega) rfl (by omega) (by omega) a0 ((a1.2.1 8 (by decide) (by decide) (by decide)).trans c8) ((a1.2.1 9 (by decide) (by decide) (by decide)).trans c9) (by omega) (fun j hj => (a1.2.1 j (by omega) (by omega) (by omega)).trans (hc j hj)) ?_ (fun q => (a3.1 (by omega)).2) (fun q => (a3.1 (by omega)).1) (fun q => a3.2 q)) ⟨rfl, rfl, rfl, trivial⟩
    omega
set_option maxHeartbeats 4000000 in
set_option maxRecDepth 100000 in
theorem c_X0_search {g : vGl} {d : Nat} {Q : Option Value → List mC → Prop} {σ : vSt} {u sp : Int} (hd : 5 ≤ d) (hR : YR σ) (hn0 : 0 < sN σ) (hn3 : sN σ ≤ 3) (hu : 0 ≤ u ∧ u ≤ 1000) (hsp : 0 ≤ sp ∧ sp ≤ 1000000) (e16 : σ 16 0 = 0) (hQ : ∀ f' r' c' M' L' C' K' : Nat → Int, r' 0 = 0 → (∀ j, j < 7 ∨ 12 ≤ j → c' j = σ 20 j) → cO σ u sp (fun _ => True) (c' 10) (c' 11) → (c' 10 = 1000000 → Q (some (vi (-5))) (hp (cW σ f' r' c' M' L' C' K'))) ∧ (¬ c' 10 = 1000000 → Q (some (vi (c' 10))) (hp (cW σ f' r' (qUp (qUp c' 12 (c' 11)) 13 (σ 10 6)) M' L' C' K')))) : V g mX0_search d (0, 0, 0, 0) Q 0 [(0, .ref 20), (1, vi sp), (2, vi u)] [] (hp σ) := by
  obtain ⟨⟨r0, r1, r2, r3, r4, r5, r6, r7, r8, r9⟩, rE, rS, rT, rF⟩ := id hR
  have eN : ((sN σ : Nat) : Int) = σ 10 6 := by show (((σ 10 6).toNat : Nat) : Int) = σ 10 6; omega
  refine v_sg (cW_self σ).symm ?_
  refine v_aload_n (pc := 0) dX0_search_0 rfl ?_
  refine v_iload_n (pc := 1) dX0_search_1 rfl ?_
  refine v_pI (pc := 2) dX0_search_2 fl_X0_28 rfl ?_
  refine v_aload_n (pc := 5) dX0_search_5 rfl ?_
  refine v_iload_n (pc := 6) dX0_search_6 rfl ?_
  refine v_pI (pc := 7) dX0_search_7 fl_X0_31 rfl ?_
  refine v_aload_n (pc := 10) dX0_search_10 rfl ?_
  refine v_ldc (pc := 11) (1000000) dX0_search_11 kc_X0_34 ?_
  refine v_pI (pc := 13) dX0_search_13 fl_X0_35 rfl ?_
  refine v_aload_n (pc := 16) dX0_search_16 rfl ?_
  refine v_iconst (pc := 17) (0) dX0_search_17 (by decide) ?_
  refine v_pI (pc := 18) dX0_search_18 fl_X0_24 rfl ?_
  rw [cW_20, cW_20, cW_20, cW_20]
  refine v_aload_n (pc := 21) dX0_search_21 rfl ?_
  refine v_aload_n (pc := 22) dX0_search_22 rfl ?_
  refine v_gR (pc := 23) dX0_search_23 fl_X0_47 rfl ?_
  refine v_cVi0 (pc := 26) (z := 0) (d' := d - 1) dX0_search_26 kX4_load ml_X0_62 iwX4_load swX4_load rfl rfl (Nat.le_of_ble_eq_true rfl) (Nat.le_of_ble_eq_true rfl) (by omega) ⟨Nat.le_refl _, Nat.le_refl _⟩ ?_
  refine c_X4_load ?_
  refine ⟨_, rfl, ?_⟩
  refine v_iconst (pc := 29) (0) dX0_search_29 (by decide) ?_
  refine v_iconst (pc := 30) (0) dX0_search_30 (by decide) ?_
  refine v_iconst (pc := 31) (0) dX0_search_31 (by decide) ?_
  refine v_cVv4 (pc := 32) (z := 0) (d' := d - 1) dX0_search_32 kX0_keep ml_X0_66 iwX0_keep swX0_keep rfl rfl (Nat.le_of_ble_eq_true rfl) (Nat.le_of_ble_eq_true rfl) (by omega) ⟨Nat.le_refl _, Nat.le_refl _⟩ ?_
  refine c_X0_keep (hi := 0) rfl (by decide) ?_
  refine ⟨rfl, ?_⟩
  refine v_iconst (pc := 35) (0) dX0_search_35 (by decide) ?_
  refine v_istore_n (pc := 36) dX0_search_36 (by decide) ?_
  refine v_aload_n (pc := 37) dX0_search_37 rfl ?_
  refine v_gR (pc := 38) dX0_search_38 fl_X0_47 rfl ?_
  refine v_gIv (pc := 41) (σ 10 6) dX0_search_41 fl_X0_70 rfl rfl ?_
  refine v_iconst (pc := 44) (1) dX0_search_44 (by decide) ?_
  refine v_isub (pc := 45) dX0_search_45 ?_
  refine v_istore (pc := 46) dX0_search_46 (by decide) ?_
  refine v_lv (l_sr48 (u := u) (sp := sp) hd hR hn0 hn3 hu hsp (fun f2 r2 c2 M2 L2 C2 K2 a0 a1 a2 => ?_) (sN σ) 0 1 (σ 10 6 - 1) 0 _ _ _ _ _ _ _ (by omega) rfl (Nat.le_refl _) (by decide) e16 rfl rfl rfl (fun j hj => ?_) (Or.inl ⟨rfl, rfl, rfl⟩) (fun _ => ?_) (fun _ => rfl) (fun q => by omega)) ⟨rfl, rfl, rfl, trivial⟩
  · have hq := hQ f2 r2 c2 M2 L2 C2 K2 a0 a1 a2
    have cr := cO_rng hR hn3 a2
    refine v_aload_n (pc := 77) dX0_search_77 rfl ?_
    refine v_gIv (pc := 78) (c2 10) dX0_search_78 fl_X0_35 rfl rfl ?_
    refine v_ldc (pc := 81) (1000000) dX0_search_81 kc_X0_34 ?_
    refine v_icmp_ne (pc := 83) 89 dX0_search_83 (by decide) (by omega) (by omega) (fun h83 => ?_) (fun h83 => ?_)
    · refine v_aload_n (pc := 89) dX0_search_89 rfl ?_
      refine v_aload_n (pc := 90) dX0_search_90 rfl ?_
      refine v_gIv (pc := 91) (c2 11) dX0_search_91 fl_X0_38 rfl rfl ?_
      refine v_pI (pc := 94) dX0_search_94 fl_X0_41 rfl ?_
      refine v_aload_n (pc := 97) dX0_search_97 rfl ?_
      refine v_aload_n (pc := 98) dX0_search_98 rfl ?_
      refine v_gR (pc := 99) dX0_search_99 fl_X0_47 rfl ?_
      refine v_gIv (pc := 102) (σ 10 6) dX0_search_102 fl_X0_70 rfl rfl ?_
      refine v_pI (pc := 105) dX0_search_105 fl_X0_44 rfl ?_
      refine v_aload_n (pc := 108) dX0_search_108 rfl ?_
      refine v_gIv (pc := 109) (c2 10) dX0_search_109 fl_X0_35 rfl rfl ?_
      refine v_ireturn (pc := 112) dX0_search_112 rfl rfl ⟨Nat.le_refl _, Nat.le_refl _⟩ ?_
      rw [cW_20, cW_20]
      exact hq.2 (by omega)
    · refine v_bipush (pc := 86) (-5) dX0_search_86 (by decide) ?_
      refine v_ireturn (pc := 88) dX0_search_88 rfl rfl ⟨Nat.le_refl _, Nat.le_refl _⟩ ?_
      exact hq.1 (by omega)
  · unfold qUp
    rw [if_neg (by omega), if_neg (by omega), if_neg (by omega), if_neg (by omega), if_neg (by omega)]
  · have vl : ∀ w, cV σ (sN σ) w (σ 2 0) 0 0 0 := by
      intro w
      refine ⟨?_, (qSum_e (Nat.le_refl _)).symm, (qSum_e (Nat.le_refl _)).symm, (qSum_e (Nat.le_refl _)).symm⟩
      unfold cMa
      rw [qSum_e (Nat.le_refl _)]
      omega
    refine ⟨fun i h1 h2 => ⟨fun _ => 0, fun j p q => by omega, fun j p q => by omega, ?_⟩, fun w _ _ _ => ⟨0, Nat.le_refl _, by decide, vl w⟩⟩
    rw [show i = 0 by omega]
    exact vl _
set_option maxHeartbeats 4000000 in
set_option maxRecDepth 100000 in
theorem c_X8_cheapest {g : vGl} {d : Nat} {Q : Option Value → List mC → Prop} {σ : vSt} {sp u : Int} (hd : 6 ≤ d) (hR : YR σ) (hx : vr sp) (hz : vr u) (e16 : σ 16 0 = 0) (hB : ¬ ((0 ≤ sp ∧ sp ≤ 1000000) ∧ 0 ≤ u ∧ u ≤ 1000) → Q (some (vi (-2))) (hp σ)) (hE : 0 ≤ sp → sp ≤ 1000000 → 0 ≤ u → u ≤ 1000 → (σ 10 6 = 0 ∨ σ 3 6 = 0 ∨ 3 < σ 10 6) → Q (some (vi (-3))) (hp σ)) (hQ0 : 0 ≤ sp → sp ≤ 1000000 → 0 ≤ u → u ≤ 1000 → 0 < sN σ → sN σ ≤ 3 → 0 < σ 3 6 → ∀ f' r' c' M' L' C' K' : Nat → Int, r' 0 = 0 → (∀ j, j < 7 ∨ 12 ≤ j → c' j = σ 20 j) → cO σ u sp (fun _ => True) (c' 10) (c' 11) → (c' 10 = 1000000 → Q (some (vi (-5))) (hp (cW σ f' r' c' M' L' C' K'))) ∧ (¬ c' 10 = 1000000 → Q (some (vi (c' 10))) (hp (cW σ f' r' (qUp (qUp c' 12 (c' 11)) 13 (σ 10 6)) M' L' C' K')))) : V g mX8_cheapest d (0, 0, 0, 0) Q 0 [(0, .ref 1), (1, vi sp), (2, vi u)] [] (hp σ) := by
  obtain ⟨⟨r0, r1, r2, r3, r4, r5, r6, r7, r8, r9⟩, rE, rS, rT, rF⟩ := id hR
  refine v_iload_n (pc := 0) dX8_cheapest_0 rfl ?_
  refine v_iconst (pc := 1) (0) dX8_cheapest_1 (by decide) ?_
  refine v_ldc (pc := 2) (1000000) dX8_cheapest_2 kc_X8_155 ?_
  refine v_cSi3 (pc := 4) (d' := d - 1) dX8_cheapest_4 kX8_within ml_X8_81 stX8_within (Nat.le_of_ble_eq_true rfl) (Nat.le_of_ble_eq_true rfl) (by omega) ⟨Nat.le_refl _, Nat.le_refl _⟩ ?_
  refine c_X8_within (by omega) (by omega) (by omega) ?_
  refine ⟨_, rfl, ?_⟩
  refine v_if_eq (pc := 7) 21 dX8_cheapest_7 (by decide) (by omega) (fun h7 => ?_) (fun h7 => ?_)
  · refine v_bipush (pc := 21) (-2) dX8_cheapest_21 (by decide) ?_
    refine v_ireturn (pc := 23) dX8_cheapest_23 rfl rfl ⟨Nat.le_refl _, Nat.le_refl _⟩ ?_
    exact hB (by omega)
  · refine v_iload_n (pc := 10) dX8_cheapest_10 rfl ?_
    refine v_iconst (pc := 11) (0) dX8_cheapest_11 (by decide) ?_
    refine v_sipush (pc := 12) (1000) dX8_cheapest_12 (by decide) ?_
    refine v_cSi3 (pc := 15) (d' := d - 1) dX8_cheapest_15 kX8_within ml_X8_81 stX8_within (Nat.le_of_ble_eq_true rfl) (Nat.le_of_ble_eq_true rfl) (by omega) ⟨Nat.le_refl _, Nat.le_refl _⟩ ?_
    refine c_X8_within (by omega) (by omega) (by omega) ?_
    refine ⟨_, rfl, ?_⟩
    refine v_if_ne (pc := 18) 24 dX8_cheapest_18 (by decide) (by omega) (fun h18 => ?_) (fun h18 => ?_)
    · refine v_aload_n (pc := 24) dX8_cheapest_24 rfl ?_
      refine v_gR (pc := 25) dX8_cheapest_25 fl_X8_25 rfl ?_
      refine v_gI (pc := 28) dX8_cheapest_28 fl_X8_99 rfl ?_
      refine v_if_eq (pc := 31) 55 dX8_cheapest_31 (by decide) (by omega) (fun h31 => ?_) (fun h31 => ?_)
      · refine v_bipush (pc := 55) (-3) dX8_cheapest_55 (by decide) ?_
        refine v_ireturn (pc := 57) dX8_cheapest_57 rfl rfl ⟨Nat.le_refl _, Nat.le_refl _⟩ ?_
        exact hE (by omega) (by omega) (by omega) (by omega) (by omega)
      · refine v_aload_n (pc := 34) dX8_cheapest_34 rfl ?_
        refine v_gR (pc := 35) dX8_cheapest_35 fl_X8_16 rfl ?_
        refine v_gI (pc := 38) dX8_cheapest_38 fl_X8_156 rfl ?_
        refine v_if_eq (pc := 41) 55 dX8_cheapest_41 (by decide) (by omega) (fun h41 => ?_) (fun h41 => ?_)
        · refine v_bipush (pc := 55) (-3) dX8_cheapest_55 (by decide) ?_
          refine v_ireturn (pc := 57) dX8_cheapest_57 rfl rfl ⟨Nat.le_refl _, Nat.le_refl _⟩ ?_
          exact hE (by omega) (by omega) (by omega) (by omega) (by omega)
        · refine v_aload_n (pc := 44) dX8_cheapest_44 rfl ?_
          refine v_gR (pc := 45) dX8_cheapest_45 fl_X8_25 rfl ?_
          refine v_gI (pc := 48) dX8_cheapest_48 fl_X8_99 rfl ?_
          refine v_iconst (pc := 51) (3) dX8_cheapest_51 (by decide) ?_
          refine v_icmp_le (pc := 52) 58 dX8_cheapest_52 (by decide) (by omega) (by omega) (fun h52 => ?_) (fun h52 => ?_)
          · refine v_aload_n (pc := 58) dX8_cheapest_58 rfl ?_
            refine v_gR (pc := 59) dX8_cheapest_59 fl_X8_44 rfl ?_
            refine v_iload_n (pc := 62) dX8_cheapest_62 rfl ?_
            refine v_iload_n (pc := 63) dX8_cheapest_63 rfl ?_
            refine v_cVi2 (pc := 64) (z := 0) (d' := d - 1) dX8_cheapest_64 kX0_search ml_X8_157 iwX0_search swX0_search rfl rfl (Nat.le_of_ble_eq_true rfl) (Nat.le_of_ble_eq_true rfl) (by omega) ⟨Nat.le_refl _, Nat.le_refl _⟩ ?_
            have n1 : 0 < sN σ := by show 0 < (σ 10 6).toNat; omega
            have n3 : sN σ ≤ 3 := by show (σ 10 6).toNat ≤ 3; omega
            have hq0 := hQ0 (by omega) (by omega) (by omega) (by omega) n1 n3 (by omega)
            refine c_X0_search (u := u) (sp := sp) (by omega) hR n1 n3 (by omega) (by omega) e16 (fun f2 r2 c2 M2 L2 C2 K2 a0 a1 a2 => ?_)
            have hq := hq0 f2 r2 c2 M2 L2 C2 K2 a0 a1 a2
            refine ⟨fun t => ?_, fun t => ?_⟩
            · refine ⟨_, rfl, ?_⟩
              refine v_ireturn (pc := 67) dX8_cheapest_67 rfl rfl ⟨Nat.le_refl _, Nat.le_refl _⟩ ?_
              exact hq.1 t
            · refine ⟨_, rfl, ?_⟩
              refine v_ireturn (pc := 67) dX8_cheapest_67 rfl rfl ⟨Nat.le_refl _, Nat.le_refl _⟩ ?_
              exact hq.2 t
          · refine v_bipush (pc := 55) (-3) dX8_cheapest_55 (by decide) ?_
            refine v_ireturn (pc := 57) dX8_cheapest_57 rfl rfl ⟨Nat.le_refl _, Nat.le_refl _⟩ ?_
            exact hE (by omega) (by omega) (by omega) (by omega) (by omega)
    · refine v_bipush (pc := 21) (-2) dX8_cheapest_21 (by decide) ?_
      refine v_ireturn (pc := 23) dX8_cheapest_23 rfl rfl ⟨Nat.le_refl _, Nat.le_refl _⟩ ?_
      exact hB (by omega)
