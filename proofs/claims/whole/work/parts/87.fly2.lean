theorem tdiv_rng {a b : Int} (hb : 0 < b) (ha : -2000000000 ≤ a ∧ a ≤ 2000000000) : -2000000000 ≤ a.tdiv b ∧ a.tdiv b ≤ 2000000000 := by
  rcases (show 0 ≤ a ∨ a < 0 by omega) with h | h
  · rw [tdiv_pos h]
    have := Int.ediv_nonneg h (show 0 ≤ b by omega)
    have := Int.ediv_le_self b h
    omega
  · have e : a.tdiv b = -((-a).tdiv b) := by rw [Int.neg_tdiv, Int.neg_neg]
    rw [e, tdiv_pos (by omega)]
    have := Int.ediv_nonneg (a := -a) (show 0 ≤ -a by omega) (show 0 ≤ b by omega)
    have := Int.ediv_le_self (a := -a) b (by omega)
    omega
theorem q_row {Q : Option Value → List mC → Prop} {r : Option Value} {σ : vSt} {p : Nat} {f h : Nat → Int} (hQ : Q r (hp (vRow σ p f))) (e : h = f) : Q r (hp (vRow σ p h)) := e ▸ hQ
theorem v_row {g : vGl} {M : vMt} {d : Nat} {N : Nat × Nat × Nat × Nat} {Q : Option Value → List mC → Prop} {pc : Nat} {lv : List (Nat × Value)} {st : List Value} {σ : vSt} {p : Nat} {f h : Nat → Int} (e : h = f) (k : V g M d N Q pc lv st (hp (vRow σ p f))) : V g M d N Q pc lv st (hp (vRow σ p h)) := e ▸ k
def fOb (o f : Nat → Int) : Prop := (∀ j, j ≠ 3 → j ≠ 6 → j ≠ 7 → j ≠ 8 → j ≠ 9 → j ≠ 10 → o j = f j) ∧ o 7 - o 3 = f 7 - f 3
theorem fBs_WF {e : vSt} {U hs : Int} (hS : WS e) (hU : U ≤ 2000) : ∀ (m : Nat) (f : Nat → Int), WF e f → f 2 < e 10 6 → WF e (fBs e U hs m f) ∧ fBs e U hs m f 2 = f 2 := by
  intro m
  induction m with
  | zero => intro f w _; exact ⟨w, rfl⟩
  | succ m ih =>
    intro f w lt
    by_cases q : 0 < f 3 ∧ f 8 < U
    · have e0 : fBs e U hs (m + 1) f = if hs = 1 ∧ ¬ fB e f 13 = -1 then fB e f else fBs e U hs m (fB e f) := if_pos q
      obtain ⟨w1, w2, w3, w3b, w4, w5⟩ := WF_B hS w lt q.1 (by omega)
      rw [e0]
      split
      · exact ⟨w1, w4⟩
      · have i := ih (fB e f) w1 (by omega)
        exact ⟨i.1, i.2.trans w4⟩
    · rw [fBs_stop q]
      exact ⟨w, rfl⟩
theorem fRd_WF {e : vSt} {U hs : Int} {f : Nat → Int} (hR : YR e) (hS : WS e) (hU : U ≤ 2000) (w : WF e f) (lt : f 2 < e 10 6) : WF e (fRd e U hs f) := by
  have b := fBs_WF (hs := hs) hS hU (f 3).toNat f w lt
  unfold fRd
  split
  · exact (WF_D hR b.1.1 b.1.2.2 (by omega)).1
  · exact b.1
theorem WF.rng {e : vSt} {f : Nat → Int} (hR : YR e) (w : WF e f) : (0 ≤ f 2 ∧ f 2 ≤ 4) ∧ (0 ≤ f 3 ∧ f 3 ≤ 600) ∧ (0 ≤ f 4 ∧ f 4 ≤ 9) ∧ (0 ≤ f 5 ∧ f 5 ≤ 999) ∧ (0 ≤ f 6 ∧ f 6 ≤ 20000) ∧ (0 ≤ f 7 ∧ f 7 ≤ 3000) ∧ (0 ≤ f 8 ∧ f 8 ≤ 2000) ∧ (0 ≤ f 9 ∧ f 9 ≤ 200000000) ∧ (-100000 ≤ f 10 ∧ f 10 ≤ 100000) ∧ (0 ≤ f 11 ∧ f 11 ≤ 1000000000) ∧ (0 ≤ f 12 ∧ f 12 ≤ 2000) ∧ (-1 ≤ f 13 ∧ f 13 ≤ 2000) ∧ (f 2 < e 10 6 → 1 ≤ f 4 ∧ f 3 < f 6) := by
  have p7 := w.p7 hR
  obtain ⟨⟨a1, a2, a3, a4⟩, w1, t1, t2, t3, t4, t5, t6, t7, t8⟩ := id w
  have r := hR.1
  have x1 := hR.mass ((f 2).toNat + 1)
  have x2 := hR.dry (f 2).toNat
  have x3 := eAll_le hR ((f 2).toNat + 1)
  have x4 := hR.2.1 (e 11 (f 2).toNat).toNat
  have e5 : eTh e (f 2).toNat = e 4 (e 11 (f 2).toNat).toNat := rfl
  rcases (show f 2 < e 10 6 ∨ f 2 = e 10 6 by omega) with q | q
  · have y := a3 q
    have z := w1 q
    have x5 := hR.bare1 (k := (f 2).toNat) (by omega)
    have x6 := qTank_le (sr := e 2 1) (z := e 13 (f 2).toNat) (by omega) (by omega) (hR.2.2.1 (f 2).toNat).2.2.2.2.1 (hR.2.2.1 (f 2).toNat).2.2.2.2.2.1
    have x7 : yDry e (f 2).toNat = yBare e (f 2).toNat + qTank (e 2 1) (e 13 (f 2).toNat) := rfl
    refine ⟨by omega, by omega, by omega, by omega, by omega, by omega, by omega, by omega, by omega, by omega, by omega, by omega, fun _ => by omega⟩
  · have y := a4 q
    refine ⟨by omega, by omega, by omega, by omega, by omega, by omega, by omega, by omega, by omega, by omega, by omega, by omega, fun _ => by omega⟩
theorem hp_fl {σ τ : vSt} (h : ∀ p j, p ≠ 30 → τ p j = σ p j) (h2 : ∀ j, 2 ≤ j → j ≤ 13 → τ 30 j = σ 30 j) : hp τ = hp σ := by
  have hs : vSh[29]? = some (3, 2, [(3, 10), (3, 25), (0, 0), (0, 0), (0, 0), (0, 0), (0, 0), (0, 0), (0, 0), (0, 0), (0, 0), (0, 0), (0, 0), (0, 0)]) := rfl
  have a := hp_set (σ := σ) (τ := τ) hs (fun p j hp => h p j hp)
  have b := hp_set (σ := σ) (τ := σ) hs (fun p j _ => rfl)
  have c : vcell τ 30 (3, 2, [(3, 10), (3, 25), (0, 0), (0, 0), (0, 0), (0, 0), (0, 0), (0, 0), (0, 0), (0, 0), (0, 0), (0, 0), (0, 0), (0, 0)]) = vcell σ 30 (3, 2, [(3, 10), (3, 25), (0, 0), (0, 0), (0, 0), (0, 0), (0, 0), (0, 0), (0, 0), (0, 0), (0, 0), (0, 0), (0, 0), (0, 0)]) := by
    show Sum.inr (2, [Value.ref 10, Value.ref 25, vi (τ 30 2), vi (τ 30 3), vi (τ 30 4), vi (τ 30 5), vi (τ 30 6), vi (τ 30 7), vi (τ 30 8), vi (τ 30 9), vi (τ 30 10), vi (τ 30 11), vi (τ 30 12), vi (τ 30 13)]) = Sum.inr (2, [Value.ref 10, Value.ref 25, vi (σ 30 2), vi (σ 30 3), vi (σ 30 4), vi (σ 30 5), vi (σ 30 6), vi (σ 30 7), vi (σ 30 8), vi (σ 30 9), vi (σ 30 10), vi (σ 30 11), vi (σ 30 12), vi (σ 30 13)])
    rw [h2 2 (by omega) (by omega), h2 3 (by omega) (by omega), h2 4 (by omega) (by omega), h2 5 (by omega) (by omega), h2 6 (by omega) (by omega), h2 7 (by omega) (by omega), h2 8 (by omega) (by omega), h2 9 (by omega) (by omega), h2 10 (by omega) (by omega), h2 11 (by omega) (by omega), h2 12 (by omega) (by omega), h2 13 (by omega) (by omega)]
  rw [← a, ← b]
  exact congrArg _ c
set_option maxHeartbeats 4000000 in
set_option maxRecDepth 100000 in
theorem c_X5_dragOf {g : vGl} {d : Nat} {Q : Option Value → List mC → Prop} {σ : vSt} {p h : Int} (hS : WS σ) (hp1 : -100000 ≤ p ∧ p ≤ 100000) (hh : 0 ≤ h ∧ h ≤ 200000000) (hQ : Q (some (vi (fDrag (σ 26) p h))) (hp σ)) : V g mX5_dragOf d (0, 0, 0, 0) Q 0 [(0, .ref 25), (1, vi p), (2, vi h)] [] (hp σ) := by
  have s1 := sq_rng hp1.1 hp1.2
  have s2 := drag_rng (ar := σ 26) (fun j => ⟨(hS j).1, (hS j).2.1⟩) (h := h) hp1.1 hp1.2
  have s3 := hS (h / 1000).toNat
  refine v_iload_n (pc := 0) dX5_dragOf_0 rfl ?_
  refine v_if_eq (pc := 1) 15 dX5_dragOf_1 (by decide) (by omega) (fun h1 => ?_) (fun h1 => ?_)
  · refine v_iconst (pc := 15) (0) dX5_dragOf_15 (by decide) ?_
    refine v_ireturn (pc := 16) dX5_dragOf_16 rfl rfl ⟨Nat.le_refl _, Nat.le_refl _⟩ ?_
    have e0 : fDrag (σ 26) p h = 0 := if_pos (by omega)
    rw [e0] at hQ
    exact hQ
  · refine v_iload_n (pc := 4) dX5_dragOf_4 rfl ?_
    refine v_if_lt (pc := 5) 15 dX5_dragOf_5 (by decide) (by omega) (fun h5 => ?_) (fun h5 => ?_)
    · refine v_iconst (pc := 15) (0) dX5_dragOf_15 (by decide) ?_
      refine v_ireturn (pc := 16) dX5_dragOf_16 rfl rfl ⟨Nat.le_refl _, Nat.le_refl _⟩ ?_
      have e0 : fDrag (σ 26) p h = 0 := if_pos (by omega)
      rw [e0] at hQ
      exact hQ
    · refine v_iload_n (pc := 8) dX5_dragOf_8 rfl ?_
      refine v_sipush (pc := 9) (10000) dX5_dragOf_9 (by decide) ?_
      refine v_icmp_lt (pc := 12) 17 dX5_dragOf_12 (by decide) (by omega) (by omega) (fun h12 => ?_) (fun h12 => ?_)
      · refine v_iload_n (pc := 17) dX5_dragOf_17 rfl ?_
        refine v_i2l (pc := 18) dX5_dragOf_18 (by omega) ?_
        refine v_iload_n (pc := 19) dX5_dragOf_19 rfl ?_
        refine v_i2l (pc := 20) dX5_dragOf_20 (by omega) ?_
        refine v_lmul (pc := 21) dX5_dragOf_21 ?_
        refine v_ldc2 (pc := 22) (100) dX5_dragOf_22 kc_X5_19 ?_
        refine v_ldiv (pc := 25) dX5_dragOf_25 (by omega) (by omega) (by omega) ?_
        refine v_topj (tdiv_pos (by omega)) ?_
        refine v_lstore_n (pc := 26) dX5_dragOf_26 (by decide) ?_
        refine v_lload_n (pc := 27) dX5_dragOf_27 rfl ?_
        refine v_aload_n (pc := 28) dX5_dragOf_28 rfl ?_
        refine v_gR (pc := 29) dX5_dragOf_29 fl_X5_9 rfl ?_
        refine v_iload_n (pc := 32) dX5_dragOf_32 rfl ?_
        refine v_sipush (pc := 33) (1000) dX5_dragOf_33 (by decide) ?_
        refine v_idiv (pc := 36) dX5_dragOf_36 (by omega) (by omega) (by omega) ?_
        refine v_top (tdiv_pos (by omega)) ?_
        refine v_aI (pc := 37) (j := (h / 1000).toNat) dX5_dragOf_37 rfl rfl (by omega) (by omega) ?_
        refine v_i2l (pc := 38) dX5_dragOf_38 (by omega) ?_
        refine v_lmul (pc := 39) dX5_dragOf_39 ?_
        refine v_ldc2 (pc := 40) (100) dX5_dragOf_40 kc_X5_19 ?_
        refine v_ldiv (pc := 43) dX5_dragOf_43 (by omega) (by omega) (by omega) ?_
        refine v_topj (tdiv_pos (by omega)) ?_
        refine v_l2i (pc := 44) dX5_dragOf_44 ?_
        refine v_ireturn (pc := 45) dX5_dragOf_45 rfl rfl ⟨Nat.le_refl _, Nat.le_refl _⟩ ?_
        have e0 : fDrag (σ 26) p h = p * p / 100 * σ 26 (h / 1000).toNat / 100 := if_neg (by omega)
        rw [e0] at hQ
        exact hQ
      · refine v_iconst (pc := 15) (0) dX5_dragOf_15 (by decide) ?_
        refine v_ireturn (pc := 16) dX5_dragOf_16 rfl rfl ⟨Nat.le_refl _, Nat.le_refl _⟩ ?_
        have e0 : fDrag (σ 26) p h = 0 := if_pos (by omega)
        rw [e0] at hQ
        exact hQ
set_option maxHeartbeats 4000000 in
set_option maxRecDepth 100000 in
theorem c_noteLoading28 {g : vGl} {d : Nat} {Q : Option Value → List mC → Prop} {σ : vSt} {f : Nat → Int} {dg t : Int} (hS : WS σ) (h13 : vr (f 13)) (hdg : vr dg) (hQ : Q none (hp (vRow σ 28 (fun j => if j = 11 then dg else if j = 12 then t else if j = 13 then (if f 13 = -1 ∧ σ 27 0 < dg then t else f 13) else f j)))) : V g mX2_noteLoading d (0, 0, 0, 0) Q 0 [(0, .ref 28), (1, vi dg), (2, vi t)] [] (hp (vRow σ 28 f)) := by
  have s := hS 0
  refine v_aload_n (pc := 0) dX2_noteLoading_0 rfl ?_
  refine v_iload_n (pc := 1) dX2_noteLoading_1 rfl ?_
  refine v_pI (pc := 2) dX2_noteLoading_2 fl_X2_39 rfl ?_
  refine v_aload_n (pc := 5) dX2_noteLoading_5 rfl ?_
  refine v_iload_n (pc := 6) dX2_noteLoading_6 rfl ?_
  refine v_pI (pc := 7) dX2_noteLoading_7 fl_X2_42 rfl ?_
  refine v_aload_n (pc := 10) dX2_noteLoading_10 rfl ?_
  refine v_gIv (pc := 11) (f 13) dX2_noteLoading_11 fl_X2_45 rfl rfl ?_
  refine v_iconst (pc := 14) (-1) dX2_noteLoading_14 (by decide) ?_
  refine v_icmp_ne (pc := 15) 36 dX2_noteLoading_15 (by decide) (by omega) (by omega) (fun h15 => ?_) (fun h15 => ?_)
  · refine v_return (pc := 36) dX2_noteLoading_36 rfl ⟨Nat.le_refl _, Nat.le_refl _⟩ ?_
    (first | rw [vRow_up, vRow_up, vRow_up] | rw [vRow_up, vRow_up])
    refine q_row hQ ?_
    funext j
    by_cases k13 : j = 13
    · subst k13; simp only [qUp, ite_true, ite_false]; omega
    · simp only [qUp]; omega
  · refine v_iload_n (pc := 18) dX2_noteLoading_18 rfl ?_
    refine v_aload_n (pc := 19) dX2_noteLoading_19 rfl ?_
    refine v_gR (pc := 20) dX2_noteLoading_20 fl_X2_52 rfl ?_
    refine v_gR (pc := 23) dX2_noteLoading_23 fl_X2_125 rfl ?_
    refine v_iconst (pc := 26) (0) dX2_noteLoading_26 (by decide) ?_
    refine v_aIv (pc := 27) (j := 0) (σ 27 0) dX2_noteLoading_27 rfl rfl (by omega) (by omega) rfl ?_
    refine v_icmp_le (pc := 28) 36 dX2_noteLoading_28 (by decide) (by omega) (by omega) (fun h28 => ?_) (fun h28 => ?_)
    · refine v_return (pc := 36) dX2_noteLoading_36 rfl ⟨Nat.le_refl _, Nat.le_refl _⟩ ?_
      (first | rw [vRow_up, vRow_up, vRow_up] | rw [vRow_up, vRow_up])
      refine q_row hQ ?_
      funext j
      by_cases k13 : j = 13
      · subst k13; simp only [qUp, ite_true, ite_false]; omega
      · simp only [qUp]; omega
    · refine v_aload_n (pc := 31) dX2_noteLoading_31 rfl ?_
      refine v_iload_n (pc := 32) dX2_noteLoading_32 rfl ?_
      refine v_pI (pc := 33) dX2_noteLoading_33 fl_X2_45 rfl ?_
      refine v_return (pc := 36) dX2_noteLoading_36 rfl ⟨Nat.le_refl _, Nat.le_refl _⟩ ?_
      (first | rw [vRow_up, vRow_up, vRow_up] | rw [vRow_up, vRow_up])
      refine q_row hQ ?_
      funext j
      by_cases k13 : j = 13
      · subst k13; simp only [qUp, ite_true, ite_false]; omega
      · simp only [qUp]; omega
set_option maxHeartbeats 4000000 in
set_option maxRecDepth 100000 in
theorem c_ready28a {g : vGl} {d : Nat} {Q : Option Value → List mC → Prop} {σ : vSt} {f : Nat → Int} (hd : 1 ≤ d) (hR : YR σ) (h2 : 0 ≤ f 2) (h3 : f 2 < σ 10 6) (hQ : Q none (hp (vRow σ 28 (fRdy σ (f 2) f)))) : V g mX2_readyLowest d (0, 0, 0, 0) Q 0 [(0, .ref 28)] [] (hp (vRow σ 28 f)) := by
  obtain ⟨⟨r0, r1, r2, r3, r4, r5, r6, r7, r8, r9⟩, rE, rS, rT, rF⟩ := id hR
  have s1 := rS (f 2).toNat
  refine v_aload_n (pc := 0) dX2_readyLowest_0 rfl ?_
  refine v_gR (pc := 1) dX2_readyLowest_1 fl_X2_48 rfl ?_
  refine v_aload_n (pc := 4) dX2_readyLowest_4 rfl ?_
  refine v_gIv (pc := 5) (f 2) dX2_readyLowest_5 fl_X2_9 rfl rfl ?_
  refine v_cVi1 (pc := 8) (z := 0) (d' := d - 1) dX2_readyLowest_8 kX4_has ml_X2_69 iwX4_has swX4_has rfl rfl (Nat.le_of_ble_eq_true rfl) (Nat.le_of_ble_eq_true rfl) (by omega) ⟨Nat.le_refl _, Nat.le_refl _⟩ ?_
  refine c_X4_has1 (by exact hR) h2 h3 ?_
  refine ⟨_, rfl, ?_⟩
  refine v_istore_n (pc := 11) dX2_readyLowest_11 (by decide) ?_
  refine v_aload_n (pc := 12) dX2_readyLowest_12 rfl ?_
  refine v_iload_n (pc := 13) dX2_readyLowest_13 rfl ?_
  refine v_if_eq (pc := 14) 32 dX2_readyLowest_14 (by decide) (by omega) (fun h14 => by exfalso; omega) (fun h14 => ?_)
  refine v_aload_n (pc := 17) dX2_readyLowest_17 rfl ?_
  refine v_gR (pc := 18) dX2_readyLowest_18 fl_X2_48 rfl ?_
  refine v_gR (pc := 21) dX2_readyLowest_21 fl_X2_73 rfl ?_
  refine v_aload_n (pc := 24) dX2_readyLowest_24 rfl ?_
  refine v_gIv (pc := 25) (f 2) dX2_readyLowest_25 fl_X2_9 rfl rfl ?_
  refine v_aIv (pc := 28) (j := (f 2).toNat) (σ 13 (f 2).toNat) dX2_readyLowest_28 rfl rfl (by omega) (by omega) rfl ?_
  refine v_goto (pc := 29) 33 dX2_readyLowest_29 (by decide) ?_
  refine v_pI (pc := 33) dX2_readyLowest_33 fl_X2_15 rfl ?_
  refine v_aload_n (pc := 36) dX2_readyLowest_36 rfl ?_
  refine v_iload_n (pc := 37) dX2_readyLowest_37 rfl ?_
  refine v_if_eq (pc := 38) 56 dX2_readyLowest_38 (by decide) (by omega) (fun h38 => by exfalso; omega) (fun h38 => ?_)
  refine v_aload_n (pc := 41) dX2_readyLowest_41 rfl ?_
  refine v_gR (pc := 42) dX2_readyLowest_42 fl_X2_48 rfl ?_
  refine v_gR (pc := 45) dX2_readyLowest_45 fl_X2_77 rfl ?_
  refine v_aload_n (pc := 48) dX2_readyLowest_48 rfl ?_
  refine v_gIv (pc := 49) (f 2) dX2_readyLowest_49 fl_X2_9 rfl rfl ?_
  refine v_aIv (pc := 52) (j := (f 2).toNat) (σ 12 (f 2).toNat) dX2_readyLowest_52 rfl rfl (by omega) (by omega) rfl ?_
  refine v_goto (pc := 53) 57 dX2_readyLowest_53 (by decide) ?_
  refine v_pI (pc := 57) dX2_readyLowest_57 fl_X2_18 rfl ?_
  refine v_aload_n (pc := 60) dX2_readyLowest_60 rfl ?_
  refine v_iload_n (pc := 61) dX2_readyLowest_61 rfl ?_
  refine v_if_eq (pc := 62) 91 dX2_readyLowest_62 (by decide) (by omega) (fun h62 => by exfalso; omega) (fun h62 => ?_)
  refine v_aload_n (pc := 65) dX2_readyLowest_65 rfl ?_
  refine v_gR (pc := 66) dX2_readyLowest_66 fl_X2_48 rfl ?_
  refine v_gR (pc := 69) dX2_readyLowest_69 fl_X2_80 rfl ?_
  refine v_gR (pc := 72) dX2_readyLowest_72 fl_X2_84 rfl ?_
  refine v_aload_n (pc := 75) dX2_readyLowest_75 rfl ?_
  refine v_gR (pc := 76) dX2_readyLowest_76 fl_X2_48 rfl ?_
  refine v_gR (pc := 79) dX2_readyLowest_79 fl_X2_88 rfl ?_
  refine v_aload_n (pc := 82) dX2_readyLowest_82 rfl ?_
  refine v_gIv (pc := 83) (f 2) dX2_readyLowest_83 fl_X2_9 rfl rfl ?_
  refine v_aIv (pc := 86) (j := (f 2).toNat) (σ 11 (f 2).toNat) dX2_readyLowest_86 rfl rfl (by omega) (by omega) rfl ?_
  refine v_aIv (pc := 87) (j := (σ 11 (f 2).toNat).toNat) (σ 4 (σ 11 (f 2).toNat).toNat) dX2_readyLowest_87 rfl rfl (by omega) (by omega) rfl ?_
  refine v_goto (pc := 88) 92 dX2_readyLowest_88 (by decide) ?_
  refine v_pI (pc := 92) dX2_readyLowest_92 fl_X2_21 rfl ?_
  refine v_return (pc := 95) dX2_readyLowest_95 rfl ⟨Nat.le_refl _, Nat.le_refl _⟩ ?_
  rw [vRow_up, vRow_up, vRow_up]
  refine q_row hQ ?_
  funext j
  unfold fRdy qUp eTh
  rw [if_pos (show 0 ≤ f 2 ∧ f 2 < σ 10 6 from ⟨h2, h3⟩), if_pos (show 0 ≤ f 2 ∧ f 2 < σ 10 6 from ⟨h2, h3⟩), if_pos (show 0 ≤ f 2 ∧ f 2 < σ 10 6 from ⟨h2, h3⟩)]
  omega
set_option maxHeartbeats 4000000 in
set_option maxRecDepth 100000 in
theorem c_ready28b {g : vGl} {d : Nat} {Q : Option Value → List mC → Prop} {σ : vSt} {f : Nat → Int} (hd : 1 ≤ d) (hR : YR σ) (h2 : 0 ≤ f 2) (h3 : σ 10 6 ≤ f 2) (h4 : f 2 ≤ 10) (hQ : Q none (hp (vRow σ 28 (fRdy σ (f 2) f)))) : V g mX2_readyLowest d (0, 0, 0, 0) Q 0 [(0, .ref 28)] [] (hp (vRow σ 28 f)) := by
  obtain ⟨⟨r0, r1, r2, r3, r4, r5, r6, r7, r8, r9⟩, rE, rS, rT, rF⟩ := id hR
  refine v_aload_n (pc := 0) dX2_readyLowest_0 rfl ?_
  refine v_gR (pc := 1) dX2_readyLowest_1 fl_X2_48 rfl ?_
  refine v_aload_n (pc := 4) dX2_readyLowest_4 rfl ?_
  refine v_gIv (pc := 5) (f 2) dX2_readyLowest_5 fl_X2_9 rfl rfl ?_
  refine v_cVi1 (pc := 8) (z := 0) (d' := d - 1) dX2_readyLowest_8 kX4_has ml_X2_69 iwX4_has swX4_has rfl rfl (Nat.le_of_ble_eq_true rfl) (Nat.le_of_ble_eq_true rfl) (by omega) ⟨Nat.le_refl _, Nat.le_refl _⟩ ?_
  refine c_X4_has (by omega) (show vr (σ 10 6) by omega) ?_
  rw [if_neg (show ¬ (0 ≤ f 2 ∧ f 2 < vRow σ 28 f 10 6) from fun t => by have t2 : f 2 < σ 10 6 := t.2; omega)]
  refine ⟨_, rfl, ?_⟩
  refine v_istore_n (pc := 11) dX2_readyLowest_11 (by decide) ?_
  refine v_aload_n (pc := 12) dX2_readyLowest_12 rfl ?_
  refine v_iload_n (pc := 13) dX2_readyLowest_13 rfl ?_
  refine v_if_eq (pc := 14) 32 dX2_readyLowest_14 (by decide) (by omega) (fun h14 => ?_) (fun h14 => by exfalso; omega)
  refine v_iconst (pc := 32) (0) dX2_readyLowest_32 (by decide) ?_
  refine v_pI (pc := 33) dX2_readyLowest_33 fl_X2_15 rfl ?_
  refine v_aload_n (pc := 36) dX2_readyLowest_36 rfl ?_
  refine v_iload_n (pc := 37) dX2_readyLowest_37 rfl ?_
  refine v_if_eq (pc := 38) 56 dX2_readyLowest_38 (by decide) (by omega) (fun h38 => ?_) (fun h38 => by exfalso; omega)
  refine v_iconst (pc := 56) (0) dX2_readyLowest_56 (by decide) ?_
  refine v_pI (pc := 57) dX2_readyLowest_57 fl_X2_18 rfl ?_
  refine v_aload_n (pc := 60) dX2_readyLowest_60 rfl ?_
  refine v_iload_n (pc := 61) dX2_readyLowest_61 rfl ?_
  refine v_if_eq (pc := 62) 91 dX2_readyLowest_62 (by decide) (by omega) (fun h62 => ?_) (fun h62 => by exfalso; omega)
  refine v_iconst (pc := 91) (0) dX2_readyLowest_91 (by decide) ?_
  refine v_pI (pc := 92) dX2_readyLowest_92 fl_X2_21 rfl ?_
  refine v_return (pc := 95) dX2_readyLowest_95 rfl ⟨Nat.le_refl _, Nat.le_refl _⟩ ?_
  rw [vRow_up, vRow_up, vRow_up]
  refine q_row hQ ?_
  funext j
  unfold fRdy qUp eTh
  rw [if_neg (show ¬ (0 ≤ f 2 ∧ f 2 < σ 10 6) by omega), if_neg (show ¬ (0 ≤ f 2 ∧ f 2 < σ 10 6) by omega), if_neg (show ¬ (0 ≤ f 2 ∧ f 2 < σ 10 6) by omega)]
  omega
theorem c_ready28 {g : vGl} {d : Nat} {Q : Option Value → List mC → Prop} {σ : vSt} {f : Nat → Int} (hd : 1 ≤ d) (hR : YR σ) (h2 : 0 ≤ f 2) (h4 : f 2 ≤ 10) (hQ : Q none (hp (vRow σ 28 (fRdy σ (f 2) f)))) : V g mX2_readyLowest d (0, 0, 0, 0) Q 0 [(0, .ref 28)] [] (hp (vRow σ 28 f)) := by
  by_cases q : f 2 < σ 10 6
  · exact c_ready28a hd hR h2 q hQ
  · exact c_ready28b hd hR h2 (by omega) h4 hQ
set_option maxHeartbeats 4000000 in
set_option maxRecDepth 100000 in
theorem c_drop28 {g : vGl} {d : Nat} {Q : Option Value → List mC → Prop} {σ : vSt} {f : Nat → Int} (hd : 3 ≤ d) (hR : YR σ) (h2 : 0 ≤ f 2) (h3 : f 2 < σ 10 6) (hQ : Q none (hp (vRow σ 28 (fD σ f)))) : V g mX2_dropLowest d (0, 0, 0, 0) Q 0 [(0, .ref 28)] [] (hp (vRow σ 28 f)) := by
  obtain ⟨⟨r0, r1, r2, r3, r4, r5, r6, r7, r8, r9⟩, rE, rS, rT, rF⟩ := id hR
  refine v_aload_n (pc := 0) dX2_dropLowest_0 rfl ?_
  refine v_dup (pc := 1) dX2_dropLowest_1 rfl ?_
  refine v_gIv (pc := 2) (f 6) dX2_dropLowest_2 fl_X2_24 rfl rfl ?_
  refine v_aload_n (pc := 5) dX2_dropLowest_5 rfl ?_
  refine v_gR (pc := 6) dX2_dropLowest_6 fl_X2_48 rfl ?_
  refine v_aload_n (pc := 9) dX2_dropLowest_9 rfl ?_
  refine v_gIv (pc := 10) (f 2) dX2_dropLowest_10 fl_X2_9 rfl rfl ?_
  refine v_cVi1 (pc := 13) (z := 0) (d' := d - 1) dX2_dropLowest_13 kX4_dryOf ml_X2_91 iwX4_dryOf swX4_dryOf rfl rfl (Nat.le_of_ble_eq_true rfl) (Nat.le_of_ble_eq_true rfl) (by omega) ⟨Nat.le_refl _, Nat.le_refl _⟩ ?_
  refine c_X4_dryOf (k := (f 2).toNat) (by omega) (by exact hR) (by omega) (show ((f 2).toNat : Int) < σ 10 6 by omega) ?_
  refine ⟨_, rfl, ?_⟩
  refine v_aload_n (pc := 16) dX2_dropLowest_16 rfl ?_
  refine v_gIv (pc := 17) (f 3) dX2_dropLowest_17 fl_X2_15 rfl rfl ?_
  refine v_iadd (pc := 20) dX2_dropLowest_20 ?_
  refine v_isub (pc := 21) dX2_dropLowest_21 ?_
  refine v_pI (pc := 22) dX2_dropLowest_22 fl_X2_24 rfl ?_
  refine v_aload_n (pc := 25) dX2_dropLowest_25 rfl ?_
  refine v_dup (pc := 26) dX2_dropLowest_26 rfl ?_
  refine v_gIv (pc := 27) (f 7) dX2_dropLowest_27 fl_X2_27 rfl rfl ?_
  refine v_aload_n (pc := 30) dX2_dropLowest_30 rfl ?_
  refine v_gIv (pc := 31) (f 3) dX2_dropLowest_31 fl_X2_15 rfl rfl ?_
  refine v_isub (pc := 34) dX2_dropLowest_34 ?_
  refine v_pI (pc := 35) dX2_dropLowest_35 fl_X2_27 rfl ?_
  refine v_aload_n (pc := 38) dX2_dropLowest_38 rfl ?_
  refine v_dup (pc := 39) dX2_dropLowest_39 rfl ?_
  refine v_gIv (pc := 40) (f 2) dX2_dropLowest_40 fl_X2_9 rfl rfl ?_
  refine v_iconst (pc := 43) (1) dX2_dropLowest_43 (by decide) ?_
  refine v_iadd (pc := 44) dX2_dropLowest_44 ?_
  refine v_pI (pc := 45) dX2_dropLowest_45 fl_X2_9 rfl ?_
  refine v_aload_n (pc := 48) dX2_dropLowest_48 rfl ?_
  refine v_cVv0 (pc := 49) (z := 0) (d' := d - 1) dX2_dropLowest_49 kX2_readyLowest ml_X2_66 iwX2_readyLowest swX2_readyLowest rfl rfl (Nat.le_of_ble_eq_true rfl) (Nat.le_of_ble_eq_true rfl) (by omega) ⟨Nat.le_refl _, Nat.le_refl _⟩ ?_
  rw [vRow_up, vRow_up, vRow_up]
  refine c_ready28 (by omega) hR (show 0 ≤ f 2 + 1 by omega) (show f 2 + 1 ≤ 10 by omega) ?_
  refine ⟨rfl, ?_⟩
  refine v_return (pc := 52) dX2_dropLowest_52 rfl ⟨Nat.le_refl _, Nat.le_refl _⟩ ?_
  refine q_row hQ ?_
  show fRdy σ (f 2 + 1) _ = fRdy σ (f 2 + 1) _
  congr 1
  funext j
  unfold qUp
  show (if j = 2 then f 2 + 1 else if j = 7 then f 7 - f 3 else if j = 6 then f 6 - (yDry σ (f 2).toNat + f 3) else f j) = _
  omega
set_option maxHeartbeats 4000000 in
set_option maxRecDepth 100000 in
theorem c_goesOn28 {g : vGl} {d : Nat} {Q : Option Value → List mC → Prop} {σ : vSt} {f : Nat → Int} (h7 : vr (f 7)) (h8 : vr (f 8)) (hQ : Q (some (vi (if 0 < f 7 ∧ f 8 < 2000 then 1 else 0))) (hp (vRow σ 28 f))) : V g mX2_goesOn d (0, 0, 0, 0) Q 0 [(0, .ref 28)] [] (hp (vRow σ 28 f)) := by
  refine v_aload_n (pc := 0) dX2_goesOn_0 rfl ?_
  refine v_gIv (pc := 1) (f 7) dX2_goesOn_1 fl_X2_27 rfl rfl ?_
  refine v_if_le (pc := 4) 21 dX2_goesOn_4 (by decide) (by omega) (fun h4 => ?_) (fun h4 => ?_)
  · refine v_iconst (pc := 21) (0) dX2_goesOn_21 (by decide) ?_
    refine v_ireturn (pc := 22) dX2_goesOn_22 rfl (vZ (by omega)) ⟨Nat.le_refl _, Nat.le_refl _⟩ ?_
    first | (rw [if_pos (by omega)] at hQ; exact hQ) | (rw [if_neg (by omega)] at hQ; exact hQ)
  · refine v_aload_n (pc := 7) dX2_goesOn_7 rfl ?_
    refine v_gIv (pc := 8) (f 8) dX2_goesOn_8 fl_X2_30 rfl rfl ?_
    refine v_sipush (pc := 11) (2000) dX2_goesOn_11 (by decide) ?_
    refine v_icmp_ge (pc := 14) 21 dX2_goesOn_14 (by decide) (by omega) (by omega) (fun h14 => ?_) (fun h14 => ?_)
    · refine v_iconst (pc := 21) (0) dX2_goesOn_21 (by decide) ?_
      refine v_ireturn (pc := 22) dX2_goesOn_22 rfl (vZ (by omega)) ⟨Nat.le_refl _, Nat.le_refl _⟩ ?_
      first | (rw [if_pos (by omega)] at hQ; exact hQ) | (rw [if_neg (by omega)] at hQ; exact hQ)
    · refine v_iconst (pc := 17) (1) dX2_goesOn_17 (by decide) ?_
      refine v_goto (pc := 18) 22 dX2_goesOn_18 (by decide) ?_
      refine v_ireturn (pc := 22) dX2_goesOn_22 rfl (vZ (by omega)) ⟨Nat.le_refl _, Nat.le_refl _⟩ ?_
      first | (rw [if_pos (by omega)] at hQ; exact hQ) | (rw [if_neg (by omega)] at hQ; exact hQ)
set_option maxHeartbeats 4000000 in
set_option maxRecDepth 100000 in
theorem c_break28 {g : vGl} {d : Nat} {Q : Option Value → List mC → Prop} {σ : vSt} {f : Nat → Int} (hS : WS σ) (h9 : vr (f 9)) (h10 : vr (f 10)) (h13 : vr (f 13)) (hQ : Q (some (vi (fBk σ f))) (hp (vRow σ 28 f))) : V g mX2_breakNow d (0, 0, 0, 0) Q 0 [(0, .ref 28)] [] (hp (vRow σ 28 f)) := by
  have s1 := hS 1
  have s2 := hS 2
  unfold fBk at hQ
  refine v_aload_n (pc := 0) dX2_breakNow_0 rfl ?_
  refine v_gIv (pc := 1) (f 13) dX2_breakNow_1 fl_X2_45 rfl rfl ?_
  refine v_iconst (pc := 4) (-1) dX2_breakNow_4 (by decide) ?_
  refine v_icmp_eq (pc := 5) 10 dX2_breakNow_5 (by decide) (by omega) (by omega) (fun h5 => ?_) (fun h5 => ?_)
  · refine v_aload_n (pc := 10) dX2_breakNow_10 rfl ?_
    refine v_gIv (pc := 11) (f 9) dX2_breakNow_11 fl_X2_33 rfl rfl ?_
    refine v_aload_n (pc := 14) dX2_breakNow_14 rfl ?_
    refine v_gR (pc := 15) dX2_breakNow_15 fl_X2_52 rfl ?_
    refine v_gR (pc := 18) dX2_breakNow_18 fl_X2_125 rfl ?_
    refine v_iconst (pc := 21) (1) dX2_breakNow_21 (by decide) ?_
    refine v_aIv (pc := 22) (j := 1) (σ 27 1) dX2_breakNow_22 rfl rfl (by omega) (by omega) rfl ?_
    refine v_icmp_ge (pc := 23) 28 dX2_breakNow_23 (by decide) (by omega) (by omega) (fun h23 => ?_) (fun h23 => ?_)
    · refine v_aload_n (pc := 28) dX2_breakNow_28 rfl ?_
      refine v_gIv (pc := 29) (f 10) dX2_breakNow_29 fl_X2_36 rfl rfl ?_
      refine v_aload_n (pc := 32) dX2_breakNow_32 rfl ?_
      refine v_gR (pc := 33) dX2_breakNow_33 fl_X2_52 rfl ?_
      refine v_gR (pc := 36) dX2_breakNow_36 fl_X2_125 rfl ?_
      refine v_iconst (pc := 39) (2) dX2_breakNow_39 (by decide) ?_
      refine v_aIv (pc := 40) (j := 2) (σ 27 2) dX2_breakNow_40 rfl rfl (by omega) (by omega) rfl ?_
      refine v_icmp_ge (pc := 41) 48 dX2_breakNow_41 (by decide) (by omega) (by omega) (fun h41 => ?_) (fun h41 => ?_)
      · refine v_iconst (pc := 48) (0) dX2_breakNow_48 (by decide) ?_
        refine v_ireturn (pc := 49) dX2_breakNow_49 rfl rfl ⟨Nat.le_refl _, Nat.le_refl _⟩ ?_
        first | (rw [if_pos (by omega)] at hQ; exact hQ) | (rw [if_neg (by omega), if_pos (by omega)] at hQ; exact hQ) | (rw [if_neg (by omega), if_neg (by omega), if_pos (by omega)] at hQ; exact hQ) | (rw [if_neg (by omega), if_neg (by omega), if_neg (by omega)] at hQ; exact hQ)
      · refine v_iconst (pc := 44) (3) dX2_breakNow_44 (by decide) ?_
        refine v_goto (pc := 45) 49 dX2_breakNow_45 (by decide) ?_
        refine v_ireturn (pc := 49) dX2_breakNow_49 rfl rfl ⟨Nat.le_refl _, Nat.le_refl _⟩ ?_
        first | (rw [if_pos (by omega)] at hQ; exact hQ) | (rw [if_neg (by omega), if_pos (by omega)] at hQ; exact hQ) | (rw [if_neg (by omega), if_neg (by omega), if_pos (by omega)] at hQ; exact hQ) | (rw [if_neg (by omega), if_neg (by omega), if_neg (by omega)] at hQ; exact hQ)
    · refine v_iconst (pc := 26) (2) dX2_breakNow_26 (by decide) ?_
      refine v_ireturn (pc := 27) dX2_breakNow_27 rfl rfl ⟨Nat.le_refl _, Nat.le_refl _⟩ ?_
      first | (rw [if_pos (by omega)] at hQ; exact hQ) | (rw [if_neg (by omega), if_pos (by omega)] at hQ; exact hQ) | (rw [if_neg (by omega), if_neg (by omega), if_pos (by omega)] at hQ; exact hQ) | (rw [if_neg (by omega), if_neg (by omega), if_neg (by omega)] at hQ; exact hQ)
  · refine v_iconst (pc := 8) (1) dX2_breakNow_8 (by decide) ?_
    refine v_ireturn (pc := 9) dX2_breakNow_9 rfl rfl ⟨Nat.le_refl _, Nat.le_refl _⟩ ?_
    first | (rw [if_pos (by omega)] at hQ; exact hQ) | (rw [if_neg (by omega), if_pos (by omega)] at hQ; exact hQ) | (rw [if_neg (by omega), if_neg (by omega), if_pos (by omega)] at hQ; exact hQ) | (rw [if_neg (by omega), if_neg (by omega), if_neg (by omega)] at hQ; exact hQ)
set_option maxHeartbeats 4000000 in
set_option maxRecDepth 100000 in
theorem l_burnX28 {g : vGl} {d : Nat} {Q : Option Value → List mC → Prop} {σ : vSt} {o f : Nat → Int} {U hs : Int} (ho : fOb o f) (hQ : Q none (hp (vRow σ 28 f))) : V g mX2_burnLowest d (0, 0, 0, 0) Q 204 [(0, .ref 28), (1, vi U), (2, vi hs), (3, vi (f 9)), (4, vi (f 10)), (5, vi (f 6)), (6, vi (f 3)), (7, vi (f 8))] [] (hp (vRow σ 28 o)) := by
  refine v_aload_n (pc := 204) dX2_burnLowest_204 rfl ?_
  refine v_iload_n (pc := 205) dX2_burnLowest_205 rfl ?_
  refine v_pI (pc := 206) dX2_burnLowest_206 fl_X2_33 rfl ?_
  refine v_aload_n (pc := 209) dX2_burnLowest_209 rfl ?_
  refine v_iload (pc := 210) dX2_burnLowest_210 rfl ?_
  refine v_pI (pc := 212) dX2_burnLowest_212 fl_X2_36 rfl ?_
  refine v_aload_n (pc := 215) dX2_burnLowest_215 rfl ?_
  refine v_iload (pc := 216) dX2_burnLowest_216 rfl ?_
  refine v_pI (pc := 218) dX2_burnLowest_218 fl_X2_24 rfl ?_
  refine v_aload_n (pc := 221) dX2_burnLowest_221 rfl ?_
  refine v_dup (pc := 222) dX2_burnLowest_222 rfl ?_
  refine v_gIv (pc := 223) (o 7) dX2_burnLowest_223 fl_X2_27 rfl rfl ?_
  refine v_aload_n (pc := 226) dX2_burnLowest_226 rfl ?_
  refine v_gIv (pc := 227) (o 3) dX2_burnLowest_227 fl_X2_15 rfl rfl ?_
  refine v_iload (pc := 230) dX2_burnLowest_230 rfl ?_
  refine v_isub (pc := 232) dX2_burnLowest_232 ?_
  refine v_isub (pc := 233) dX2_burnLowest_233 ?_
  refine v_pI (pc := 234) dX2_burnLowest_234 fl_X2_27 rfl ?_
  refine v_aload_n (pc := 237) dX2_burnLowest_237 rfl ?_
  refine v_iload (pc := 238) dX2_burnLowest_238 rfl ?_
  refine v_pI (pc := 240) dX2_burnLowest_240 fl_X2_15 rfl ?_
  refine v_aload_n (pc := 243) dX2_burnLowest_243 rfl ?_
  refine v_iload (pc := 244) dX2_burnLowest_244 rfl ?_
  refine v_pI (pc := 246) dX2_burnLowest_246 fl_X2_30 rfl ?_
  refine v_return (pc := 249) dX2_burnLowest_249 rfl ⟨Nat.le_refl _, Nat.le_refl _⟩ ?_
  rw [vRow_up, vRow_up, vRow_up, vRow_up, vRow_up, vRow_up]
  refine q_row hQ ?_
  have e7 := ho.2
  funext j
  simp only [qUp]
  by_cases k3 : j = 3
  · subst k3; omega
  by_cases k6 : j = 6
  · subst k6; omega
  by_cases k7 : j = 7
  · subst k7; omega
  by_cases k8 : j = 8
  · subst k8; omega
  by_cases k9 : j = 9
  · subst k9; omega
  by_cases k10 : j = 10
  · subst k10; omega
  have := ho.1 j k3 k6 k7 k8 k9 k10
  omega
set_option maxHeartbeats 4000000 in
set_option maxRecDepth 100000 in
theorem l_burn428 {g : vGl} {d : Nat} {Q : Option Value → List mC → Prop} {σ : vSt} {o f : Nat → Int} {U hs : Int} (hh : hs = 0 ∨ hs = 1) (ho : fOb o (fB σ f)) (h13 : vr (fB σ f 13)) (hX : (hs = 1 ∧ ¬ fB σ f 13 = -1) → V g mX2_burnLowest d (0, 0, 0, 0) Q 204 [(0, .ref 28), (1, vi U), (2, vi hs), (3, vi (fB σ f 9)), (4, vi (fB σ f 10)), (5, vi (fB σ f 6)), (6, vi (fB σ f 3)), (7, vi (fB σ f 8))] [] (hp (vRow σ 28 o))) (hL : ¬ (hs = 1 ∧ ¬ fB σ f 13 = -1) → V g mX2_burnLowest d (0, 0, 0, 0) Q 29 [(0, .ref 28), (1, vi U), (2, vi hs), (3, vi (fB σ f 9)), (4, vi (fB σ f 10)), (5, vi (fB σ f 6)), (6, vi (fB σ f 3)), (7, vi (fB σ f 8))] [] (hp (vRow σ 28 o))) : V g mX2_burnLowest d (0, 0, 0, 0) Q 169 [(0, .ref 28), (1, vi U), (2, vi hs), (3, vi (fB σ f 9)), (4, vi (fB σ f 10)), (5, vi (f 6)), (6, vi (f 3)), (7, vi (f 8)), (8, vi (fBu f))] [] (hp (vRow σ 28 o)) := by
  refine v_iload (pc := 169) dX2_burnLowest_169 rfl ?_
  refine v_iload (pc := 171) dX2_burnLowest_171 rfl ?_
  refine v_isub (pc := 173) dX2_burnLowest_173 ?_
  refine v_istore (pc := 174) dX2_burnLowest_174 (by decide) ?_
  refine v_iload (pc := 176) dX2_burnLowest_176 rfl ?_
  refine v_iload (pc := 178) dX2_burnLowest_178 rfl ?_
  refine v_isub (pc := 180) dX2_burnLowest_180 ?_
  refine v_istore (pc := 181) dX2_burnLowest_181 (by decide) ?_
  refine v_iinc (pc := 183) (1) dX2_burnLowest_183 rfl (by decide) (by decide) ?_
  refine v_iload_n (pc := 186) dX2_burnLowest_186 rfl ?_
  refine v_if_eq (pc := 187) 201 dX2_burnLowest_187 (by decide) (by omega) (fun h187 => ?_) (fun h187 => ?_)
  · refine v_goto (pc := 201) 29 dX2_burnLowest_201 (by decide) ?_
    exact v_lv (hL (by omega)) ⟨rfl, rfl, rfl, rfl, rfl, rfl, rfl, rfl, trivial⟩
  · refine v_aload_n (pc := 190) dX2_burnLowest_190 rfl ?_
    refine v_gIv (pc := 191) (fB σ f 13) dX2_burnLowest_191 fl_X2_45 rfl (ho.1 13 (by decide) (by decide) (by decide) (by decide) (by decide) (by decide)) ?_
    refine v_iconst (pc := 194) (-1) dX2_burnLowest_194 (by decide) ?_
    refine v_icmp_eq (pc := 195) 201 dX2_burnLowest_195 (by decide) (by omega) (by omega) (fun h195 => ?_) (fun h195 => ?_)
    · refine v_goto (pc := 201) 29 dX2_burnLowest_201 (by decide) ?_
      exact v_lv (hL (by omega)) ⟨rfl, rfl, rfl, rfl, rfl, rfl, rfl, rfl, trivial⟩
    · refine v_goto (pc := 198) 204 dX2_burnLowest_198 (by decide) ?_
      exact v_lv (hX (by omega)) ⟨rfl, rfl, rfl, rfl, rfl, rfl, rfl, rfl, trivial⟩
set_option maxHeartbeats 4000000 in
set_option maxRecDepth 100000 in
theorem l_burn328 {g : vGl} {d : Nat} {Q : Option Value → List mC → Prop} {σ : vSt} {o f : Nat → Int} {U hs : Int} (hd : 1 ≤ d) (h9 : 0 ≤ f 9 ∧ f 9 ≤ 200000000) (h10 : -100000 ≤ f 10 ∧ f 10 ≤ 100000) (h6 : 0 < f 6 ∧ f 6 ≤ 20000) (hpu : -2000000000 ≤ fPu σ f ∧ fPu σ f ≤ 2000000000) (K : V g mX2_burnLowest d (0, 0, 0, 0) Q 169 [(0, .ref 28), (1, vi U), (2, vi hs), (3, vi (fB σ f 9)), (4, vi (fB σ f 10)), (5, vi (f 6)), (6, vi (f 3)), (7, vi (f 8)), (8, vi (fBu f))] [] (hp (vRow σ 28 o))) : V g mX2_burnLowest d (0, 0, 0, 0) Q 135 [(0, .ref 28), (1, vi U), (2, vi hs), (3, vi (f 9)), (4, vi (f 10)), (5, vi (f 6)), (6, vi (f 3)), (7, vi (f 8)), (8, vi (fBu f))] [vi (fPu σ f), vi (f 10)] (hp (vRow σ 28 o)) := by
  refine v_iload (pc := 135) dX2_burnLowest_135 rfl ?_
  refine v_idiv (pc := 137) dX2_burnLowest_137 (by omega) (by omega) (by omega) ?_
  refine v_iadd (pc := 138) dX2_burnLowest_138 ?_
  refine v_istore (pc := 139) dX2_burnLowest_139 (by decide) ?_
  have hq : -2000000000 ≤ (fPu σ f).tdiv (f 6) ∧ (fPu σ f).tdiv (f 6) ≤ 2000000000 := tdiv_rng h6.1 hpu
  refine v_ldc (pc := 141) (-100000) dX2_burnLowest_141 kc_X2_120 ?_
  refine v_iload (pc := 143) dX2_burnLowest_143 rfl ?_
  refine v_ldc (pc := 145) (100000) dX2_burnLowest_145 kc_X2_121 ?_
  refine v_min (pc := 147) dX2_burnLowest_147 ml_X2_105 st_min it_Math co_min (by omega) (by omega) (Nat.le_of_ble_eq_true rfl) (by omega) ⟨Nat.le_refl _, Nat.le_refl _⟩ ?_
  refine v_max (pc := 150) dX2_burnLowest_150 ml_X2_122 st_max it_Math co_max (by omega) (by omega) (Nat.le_of_ble_eq_true rfl) (by omega) ⟨Nat.le_refl _, Nat.le_refl _⟩ ?_
  refine v_top (show max (-100000) (min (f 10 + (fPu σ f).tdiv (f 6)) 100000) = fPa σ f from rfl) ?_
  refine v_istore (pc := 153) dX2_burnLowest_153 (by decide) ?_
  have pa : -100000 ≤ fPa σ f ∧ fPa σ f ≤ 100000 := by unfold fPa; omega
  refine v_iload_n (pc := 155) dX2_burnLowest_155 rfl ?_
  refine v_iload (pc := 156) dX2_burnLowest_156 rfl ?_
  refine v_iadd (pc := 158) dX2_burnLowest_158 ?_
  refine v_istore_n (pc := 159) dX2_burnLowest_159 (by decide) ?_
  refine v_iload_n (pc := 160) dX2_burnLowest_160 rfl ?_
  refine v_if_ge (pc := 161) 169 dX2_burnLowest_161 (by decide) (by omega) (fun h161 => ?_) (fun h161 => ?_)
  · have e9 : fB σ f 9 = if f 9 + fPa σ f < 0 then 0 else f 9 + fPa σ f := rfl
    have e10 : fB σ f 10 = if f 9 + fPa σ f < 0 then 0 else fPa σ f := rfl
    first | (rw [if_pos (by omega)] at e9 e10) | (rw [if_neg (by omega)] at e9 e10)
    rw [e9, e10] at K
    exact v_lv K ⟨rfl, rfl, rfl, rfl, rfl, rfl, rfl, rfl, rfl, trivial⟩
  · refine v_iconst (pc := 164) (0) dX2_burnLowest_164 (by decide) ?_
    refine v_istore_n (pc := 165) dX2_burnLowest_165 (by decide) ?_
    refine v_iconst (pc := 166) (0) dX2_burnLowest_166 (by decide) ?_
    refine v_istore (pc := 167) dX2_burnLowest_167 (by decide) ?_
    have e9 : fB σ f 9 = if f 9 + fPa σ f < 0 then 0 else f 9 + fPa σ f := rfl
    have e10 : fB σ f 10 = if f 9 + fPa σ f < 0 then 0 else fPa σ f := rfl
    first | (rw [if_pos (by omega)] at e9 e10) | (rw [if_neg (by omega)] at e9 e10)
    rw [e9, e10] at K
    exact v_lv K ⟨rfl, rfl, rfl, rfl, rfl, rfl, rfl, rfl, rfl, trivial⟩
set_option maxHeartbeats 4000000 in
set_option maxRecDepth 100000 in
theorem l_burn228 {g : vGl} {d : Nat} {Q : Option Value → List mC → Prop} {σ : vSt} {o f : Nat → Int} {U hs : Int} (ho : fOb o (fB σ f)) (h10 : -100000 ≤ f 10 ∧ f 10 ≤ 100000) (K : V g mX2_burnLowest d (0, 0, 0, 0) Q 135 [(0, .ref 28), (1, vi U), (2, vi hs), (3, vi (f 9)), (4, vi (f 10)), (5, vi (f 6)), (6, vi (f 3)), (7, vi (f 8)), (8, vi (fBu f))] [vi (fPu σ f), vi (f 10)] (hp (vRow σ 28 o))) : V g mX2_burnLowest d (0, 0, 0, 0) Q 100 [(0, .ref 28), (1, vi U), (2, vi hs), (3, vi (f 9)), (4, vi (f 10)), (5, vi (f 6)), (6, vi (f 3)), (7, vi (f 8)), (8, vi (fBu f)), (9, vi (fDg σ f))] [] (hp (vRow σ 28 o)) := by
  refine v_bipush (pc := 100) (100) dX2_burnLowest_100 (by decide) ?_
  refine v_aload_n (pc := 102) dX2_burnLowest_102 rfl ?_
  refine v_gIv (pc := 103) (f 5) dX2_burnLowest_103 fl_X2_21 rfl (ho.1 5 (by decide) (by decide) (by decide) (by decide) (by decide) (by decide)) ?_
  refine v_iload (pc := 106) dX2_burnLowest_106 rfl ?_
  refine v_imul (pc := 108) dX2_burnLowest_108 ?_
  refine v_iload (pc := 109) dX2_burnLowest_109 rfl ?_
  refine v_isub (pc := 111) dX2_burnLowest_111 ?_
  refine v_imul (pc := 112) dX2_burnLowest_112 ?_
  refine v_istore (pc := 113) dX2_burnLowest_113 (by decide) ?_
  refine v_iload (pc := 115) dX2_burnLowest_115 rfl ?_
  refine v_iload (pc := 117) dX2_burnLowest_117 rfl ?_
  refine v_if_ge (pc := 119) 130 dX2_burnLowest_119 (by decide) (by omega) (fun h119 => ?_) (fun h119 => ?_)
  · refine v_iload (pc := 130) dX2_burnLowest_130 rfl ?_
    refine v_iload (pc := 132) dX2_burnLowest_132 rfl ?_
    refine v_isub (pc := 134) dX2_burnLowest_134 ?_
    have e0 : fPu σ f = if f 10 < 0 then 100 * (f 5 * fBu f - f 6) + fDg σ f else 100 * (f 5 * fBu f - f 6) - fDg σ f := rfl
    first | rw [if_pos (by omega)] at e0 | rw [if_neg (by omega)] at e0
    rw [e0] at K
    exact v_lv K ⟨rfl, rfl, rfl, rfl, rfl, rfl, rfl, rfl, rfl, trivial⟩
  · refine v_iload (pc := 122) dX2_burnLowest_122 rfl ?_
    refine v_iload (pc := 124) dX2_burnLowest_124 rfl ?_
    refine v_iadd (pc := 126) dX2_burnLowest_126 ?_
    refine v_goto (pc := 127) 135 dX2_burnLowest_127 (by decide) ?_
    have e0 : fPu σ f = if f 10 < 0 then 100 * (f 5 * fBu f - f 6) + fDg σ f else 100 * (f 5 * fBu f - f 6) - fDg σ f := rfl
    first | rw [if_pos (by omega)] at e0 | rw [if_neg (by omega)] at e0
    rw [e0] at K
    exact v_lv K ⟨rfl, rfl, rfl, rfl, rfl, rfl, rfl, rfl, rfl, trivial⟩
theorem fOb_a28 {σ : vSt} {o f : Nat → Int} (ho : fOb o f) (h : ¬ f 11 < fDg σ f) : fOb o (fB σ f) := by
  refine ⟨fun j k3 k6 k7 k8 k9 k10 => ?_, ?_⟩
  · have e1 := ho.1 j k3 k6 k7 k8 k9 k10
    unfold fB
    rw [if_neg k3, if_neg k6, if_neg k7, if_neg k8, if_neg k9, if_neg k10, if_neg h, if_neg h, if_neg (show ¬ (f 11 < fDg σ f ∧ f 13 = -1 ∧ σ 27 0 < fDg σ f) from fun t => h t.1)]
    by_cases k11 : j = 11
    · subst k11; rw [if_pos rfl]; exact e1
    by_cases k12 : j = 12
    · subst k12; exact e1
    by_cases k13 : j = 13
    · subst k13; exact e1
    rw [if_neg k11, if_neg k12, if_neg k13]; exact e1
  · have := ho.2
    show _ = f 7 - fBu f - (f 3 - fBu f)
    omega
theorem fOb_b28 {σ : vSt} {o f : Nat → Int} (ho : fOb o f) (h : f 11 < fDg σ f) : fOb (fun j => if j = 11 then fDg σ f else if j = 12 then f 8 else if j = 13 then (if o 13 = -1 ∧ σ 27 0 < fDg σ f then f 8 else o 13) else o j) (fB σ f) := by
  refine ⟨fun j k3 k6 k7 k8 k9 k10 => ?_, ?_⟩
  · have e1 := ho.1 j k3 k6 k7 k8 k9 k10
    have e2 := ho.1 13 (by decide) (by decide) (by decide) (by decide) (by decide) (by decide)
    unfold fB
    rw [if_neg k3, if_neg k6, if_neg k7, if_neg k8, if_neg k9, if_neg k10, if_pos h, if_pos h]
    by_cases k11 : j = 11
    · subst k11; rfl
    by_cases k12 : j = 12
    · subst k12; rfl
    by_cases k13 : j = 13
    · subst k13
      show (if o 13 = -1 ∧ σ 27 0 < fDg σ f then f 8 else o 13) = if f 11 < fDg σ f ∧ f 13 = -1 ∧ σ 27 0 < fDg σ f then f 8 else f 13
      rw [e2]
      omega
    simp only [if_neg k11, if_neg k12, if_neg k13]; exact e1
  · have := ho.2
    show o 7 - o 3 = f 7 - fBu f - (f 3 - fBu f)
    omega
set_option maxHeartbeats 4000000 in
set_option maxRecDepth 100000 in
theorem l_burn28 {g : vGl} {d : Nat} {Q : Option Value → List mC → Prop} {σ : vSt} {U hs : Int} (hd : 2 ≤ d) (hR : YR σ) (hS : WS σ) (hU : 0 ≤ U ∧ U ≤ 2000) (hh : hs = 0 ∨ hs = 1) : ∀ (n : Nat) (f o : Nat → Int) (h3 : f 3 ≤ n) (w : WF σ f) (lt : f 2 < σ 10 6) (ho : fOb o f) (hQ : Q none (hp (vRow σ 28 (fBs σ U hs n f)))), V g mX2_burnLowest d (0, 0, 0, 0) Q 29 [(0, .ref 28), (1, vi U), (2, vi hs), (3, vi (f 9)), (4, vi (f 10)), (5, vi (f 6)), (6, vi (f 3)), (7, vi (f 8))] [] (hp (vRow σ 28 o)) := by
  intro n
  induction n with
  | zero =>
    intro f o h3 w lt ho hQ
    have rg := w.rng hR
    refine v_iload (pc := 29) dX2_burnLowest_29 rfl ?_
    refine v_if_le (pc := 31) 204 dX2_burnLowest_31 (by decide) (by omega) (fun h31 => ?_) (fun h31 => by exfalso; omega)
    refine v_lv (l_burnX28 ho ?_) ⟨rfl, rfl, rfl, rfl, rfl, rfl, rfl, rfl, trivial⟩
    exact hQ
  | succ n ih =>
    intro f o h3 w lt ho hQ
    have rg := w.rng hR
    by_cases q : 0 < f 3 ∧ f 8 < U
    · have e0 : fBs σ U hs (n + 1) f = if hs = 1 ∧ ¬ fB σ f 13 = -1 then fB σ f else fBs σ U hs n (fB σ f) := if_pos q
      rw [e0] at hQ
      have wb := WF_B hS w lt q.1 (by omega)
      have rb := wb.1.rng hR
      have o4 := ho.1 4 (by decide) (by decide) (by decide) (by decide) (by decide) (by decide)
      have o11 := ho.1 11 (by decide) (by decide) (by decide) (by decide) (by decide) (by decide)
      have o13 := ho.1 13 (by decide) (by decide) (by decide) (by decide) (by decide) (by decide)
      have dg : 0 ≤ fDg σ f ∧ fDg σ f ≤ 1000000000 := by
        have := drag_rng (ar := σ 26) (fun j => ⟨(hS j).1, (hS j).2.1⟩) (p := f 10) (h := f 9) (by omega) (by omega)
        exact ⟨this.1, this.2.1⟩
      have bu : 1 ≤ fBu f ∧ fBu f ≤ 9 := by unfold fBu; omega
      have th := mul_le (a := f 5) (b := fBu f) (A := 999) (B := 9) (by omega) (by omega) (by omega) (by omega)
      have pu : -2000000000 ≤ fPu σ f ∧ fPu σ f ≤ 2000000000 := by unfold fPu; omega
      refine v_iload (pc := 29) dX2_burnLowest_29 rfl ?_
      refine v_if_le (pc := 31) 204 dX2_burnLowest_31 (by decide) (by omega) (fun h31 => by exfalso; omega) (fun h31 => ?_)
      refine v_iload (pc := 34) dX2_burnLowest_34 rfl ?_
      refine v_iload_n (pc := 36) dX2_burnLowest_36 rfl ?_
      refine v_icmp_ge (pc := 37) 204 dX2_burnLowest_37 (by decide) (by omega) (by omega) (fun h37 => by exfalso; omega) (fun h37 => ?_)
      refine v_iload (pc := 40) dX2_burnLowest_40 rfl ?_
      refine v_sipush (pc := 42) (2000) dX2_burnLowest_42 (by decide) ?_
      refine v_icmp_ge (pc := 45) 204 dX2_burnLowest_45 (by decide) (by omega) (by omega) (fun h45 => by exfalso; omega) (fun h45 => ?_)
      refine v_iload (pc := 48) dX2_burnLowest_48 rfl ?_
      refine v_if_le (pc := 50) 204 dX2_burnLowest_50 (by decide) (by omega) (fun h50 => by exfalso; omega) (fun h50 => ?_)
      refine v_aload_n (pc := 53) dX2_burnLowest_53 rfl ?_
      refine v_gIv (pc := 54) (f 4) dX2_burnLowest_54 fl_X2_18 rfl o4 ?_
      refine v_if_le (pc := 57) 204 dX2_burnLowest_57 (by decide) (by omega) (fun h57 => by exfalso; omega) (fun h57 => ?_)
      refine v_iload (pc := 60) dX2_burnLowest_60 rfl ?_
      refine v_aload_n (pc := 62) dX2_burnLowest_62 rfl ?_
      refine v_gIv (pc := 63) (f 4) dX2_burnLowest_63 fl_X2_18 rfl o4 ?_
      refine v_min (pc := 66) dX2_burnLowest_66 ml_X2_105 st_min it_Math co_min (by omega) (by omega) (Nat.le_of_ble_eq_true rfl) (by omega) ⟨Nat.le_refl _, Nat.le_refl _⟩ ?_
      refine v_top (show min (f 3) (f 4) = fBu f from rfl) ?_
      refine v_istore (pc := 69) dX2_burnLowest_69 (by decide) ?_
      refine v_aload_n (pc := 71) dX2_burnLowest_71 rfl ?_
      refine v_gR (pc := 72) dX2_burnLowest_72 fl_X2_52 rfl ?_
      refine v_iload (pc := 75) dX2_burnLowest_75 rfl ?_
      refine v_iload_n (pc := 77) dX2_burnLowest_77 rfl ?_
      refine v_cVi2 (pc := 78) (z := 0) (d' := d - 1) dX2_burnLowest_78 kX5_dragOf ml_X2_111 iwX5_dragOf swX5_dragOf rfl rfl (Nat.le_of_ble_eq_true rfl) (Nat.le_of_ble_eq_true rfl) (by omega) ⟨Nat.le_refl _, Nat.le_refl _⟩ ?_
      refine c_X5_dragOf (by exact hS) (by omega) (by omega) ?_
      refine ⟨_, rfl, ?_⟩
      refine v_top (show fDrag (σ 26) (f 10) (f 9) = fDg σ f from rfl) ?_
      refine v_istore (pc := 81) dX2_burnLowest_81 (by decide) ?_
      refine v_iload (pc := 83) dX2_burnLowest_83 rfl ?_
      refine v_aload_n (pc := 85) dX2_burnLowest_85 rfl ?_
      refine v_gIv (pc := 86) (f 11) dX2_burnLowest_86 fl_X2_39 rfl o11 ?_
      refine v_icmp_le (pc := 89) 100 dX2_burnLowest_89 (by decide) (by omega) (by omega) (fun h89 => ?_) (fun h89 => ?_)
      · refine v_lv (l_burn228 (f := f) (by first | exact fOb_a28 ho (by omega) | exact fOb_b28 ho (by omega)) (by omega) (l_burn328 (by omega) (by omega) (by omega) (by omega) (by omega) (l_burn428 hh (by first | exact fOb_a28 ho (by omega) | exact fOb_b28 ho (by omega)) (by omega) (fun q => ?_) (fun q => ?_)))) ⟨rfl, rfl, rfl, rfl, rfl, rfl, rfl, rfl, rfl, rfl, trivial⟩
        · rw [if_pos q] at hQ
          exact l_burnX28 (by first | exact fOb_a28 ho (by omega) | exact fOb_b28 ho (by omega)) hQ
        · rw [if_neg q] at hQ
          exact ih (fB σ f) _ (by omega) wb.1 (by omega) (by first | exact fOb_a28 ho (by omega) | exact fOb_b28 ho (by omega)) hQ
      · refine v_aload_n (pc := 92) dX2_burnLowest_92 rfl ?_
        refine v_iload (pc := 93) dX2_burnLowest_93 rfl ?_
        refine v_iload (pc := 95) dX2_burnLowest_95 rfl ?_
        refine v_cVv2 (pc := 97) (z := 0) (d' := d - 1) dX2_burnLowest_97 kX2_noteLoading ml_X2_116 iwX2_noteLoading swX2_noteLoading rfl rfl (Nat.le_of_ble_eq_true rfl) (Nat.le_of_ble_eq_true rfl) (by omega) ⟨Nat.le_refl _, Nat.le_refl _⟩ ?_
        refine c_noteLoading28 hS (by rw [o13]; omega) (by omega) ?_
        refine ⟨rfl, ?_⟩
        refine v_lv (l_burn228 (f := f) (by first | exact fOb_a28 ho (by omega) | exact fOb_b28 ho (by omega)) (by omega) (l_burn328 (by omega) (by omega) (by omega) (by omega) (by omega) (l_burn428 hh (by first | exact fOb_a28 ho (by omega) | exact fOb_b28 ho (by omega)) (by omega) (fun q => ?_) (fun q => ?_)))) ⟨rfl, rfl, rfl, rfl, rfl, rfl, rfl, rfl, rfl, rfl, trivial⟩
        · rw [if_pos q] at hQ
          exact l_burnX28 (by first | exact fOb_a28 ho (by omega) | exact fOb_b28 ho (by omega)) hQ
        · rw [if_neg q] at hQ
          exact ih (fB σ f) _ (by omega) wb.1 (by omega) (by first | exact fOb_a28 ho (by omega) | exact fOb_b28 ho (by omega)) hQ
    · rw [fBs_stop q] at hQ
      refine v_iload (pc := 29) dX2_burnLowest_29 rfl ?_
      refine v_if_le (pc := 31) 204 dX2_burnLowest_31 (by decide) (by omega) (fun h31 => ?_) (fun h31 => ?_)
      · refine v_lv (l_burnX28 ho ?_) ⟨rfl, rfl, rfl, rfl, rfl, rfl, rfl, rfl, trivial⟩
        exact hQ
      · refine v_iload (pc := 34) dX2_burnLowest_34 rfl ?_
        refine v_iload_n (pc := 36) dX2_burnLowest_36 rfl ?_
        refine v_icmp_ge (pc := 37) 204 dX2_burnLowest_37 (by decide) (by omega) (by omega) (fun h37 => ?_) (fun h37 => ?_)
        · refine v_lv (l_burnX28 ho ?_) ⟨rfl, rfl, rfl, rfl, rfl, rfl, rfl, rfl, trivial⟩
          exact hQ
        · refine v_iload (pc := 40) dX2_burnLowest_40 rfl ?_
          refine v_sipush (pc := 42) (2000) dX2_burnLowest_42 (by decide) ?_
          refine v_icmp_ge (pc := 45) 204 dX2_burnLowest_45 (by decide) (by omega) (by omega) (fun h45 => by exfalso; omega) (fun h45 => ?_)
          refine v_iload (pc := 48) dX2_burnLowest_48 rfl ?_
          refine v_if_le (pc := 50) 204 dX2_burnLowest_50 (by decide) (by omega) (fun h50 => by exfalso; omega) (fun h50 => ?_)
          refine v_aload_n (pc := 53) dX2_burnLowest_53 rfl ?_
          refine v_gI (pc := 54) dX2_burnLowest_54 fl_X2_18 rfl ?_
          refine v_if_le (pc := 57) 204 dX2_burnLowest_57 (by decide) (by omega) (fun h57 => by exfalso; omega) (fun h57 => ?_)
          exfalso; omega
set_option maxHeartbeats 4000000 in
set_option maxRecDepth 100000 in
theorem c_burn28 {g : vGl} {d : Nat} {Q : Option Value → List mC → Prop} {σ : vSt} {f : Nat → Int} {U hs : Int} (hd : 2 ≤ d) (hR : YR σ) (hS : WS σ) (hU : 0 ≤ U ∧ U ≤ 2000) (hh : hs = 0 ∨ hs = 1) (w : WF σ f) (lt : f 2 < σ 10 6) (hQ : Q none (hp (vRow σ 28 (fBs σ U hs (f 3).toNat f)))) : V g mX2_burnLowest d (0, 0, 0, 0) Q 0 [(0, .ref 28), (1, vi U), (2, vi hs)] [] (hp (vRow σ 28 f)) := by
  refine v_aload_n (pc := 0) dX2_burnLowest_0 rfl ?_
  refine v_gIv (pc := 1) (f 9) dX2_burnLowest_1 fl_X2_33 rfl rfl ?_
  refine v_istore_n (pc := 4) dX2_burnLowest_4 (by decide) ?_
  refine v_aload_n (pc := 5) dX2_burnLowest_5 rfl ?_
  refine v_gIv (pc := 6) (f 10) dX2_burnLowest_6 fl_X2_36 rfl rfl ?_
  refine v_istore (pc := 9) dX2_burnLowest_9 (by decide) ?_
  refine v_aload_n (pc := 11) dX2_burnLowest_11 rfl ?_
  refine v_gIv (pc := 12) (f 6) dX2_burnLowest_12 fl_X2_24 rfl rfl ?_
  refine v_istore (pc := 15) dX2_burnLowest_15 (by decide) ?_
  refine v_aload_n (pc := 17) dX2_burnLowest_17 rfl ?_
  refine v_gIv (pc := 18) (f 3) dX2_burnLowest_18 fl_X2_15 rfl rfl ?_
  refine v_istore (pc := 21) dX2_burnLowest_21 (by decide) ?_
  refine v_aload_n (pc := 23) dX2_burnLowest_23 rfl ?_
  refine v_gIv (pc := 24) (f 8) dX2_burnLowest_24 fl_X2_30 rfl rfl ?_
  refine v_istore (pc := 27) dX2_burnLowest_27 (by decide) ?_
  exact v_lv (l_burn28 hd hR hS hU hh (f 3).toNat f f (by omega) w lt ⟨fun _ _ _ _ _ _ _ => rfl, rfl⟩ hQ) ⟨rfl, rfl, rfl, rfl, rfl, rfl, rfl, rfl, trivial⟩
set_option maxHeartbeats 4000000 in
set_option maxRecDepth 100000 in
theorem c_noteLoading29 {g : vGl} {d : Nat} {Q : Option Value → List mC → Prop} {σ : vSt} {f : Nat → Int} {dg t : Int} (hS : WS σ) (h13 : vr (f 13)) (hdg : vr dg) (hQ : Q none (hp (vRow σ 29 (fun j => if j = 11 then dg else if j = 12 then t else if j = 13 then (if f 13 = -1 ∧ σ 27 0 < dg then t else f 13) else f j)))) : V g mX2_noteLoading d (0, 0, 0, 0) Q 0 [(0, .ref 29), (1, vi dg), (2, vi t)] [] (hp (vRow σ 29 f)) := by
  have s := hS 0
  refine v_aload_n (pc := 0) dX2_noteLoading_0 rfl ?_
  refine v_iload_n (pc := 1) dX2_noteLoading_1 rfl ?_
  refine v_pI (pc := 2) dX2_noteLoading_2 fl_X2_39 rfl ?_
  refine v_aload_n (pc := 5) dX2_noteLoading_5 rfl ?_
  refine v_iload_n (pc := 6) dX2_noteLoading_6 rfl ?_
  refine v_pI (pc := 7) dX2_noteLoading_7 fl_X2_42 rfl ?_
  refine v_aload_n (pc := 10) dX2_noteLoading_10 rfl ?_
  refine v_gIv (pc := 11) (f 13) dX2_noteLoading_11 fl_X2_45 rfl rfl ?_
  refine v_iconst (pc := 14) (-1) dX2_noteLoading_14 (by decide) ?_
  refine v_icmp_ne (pc := 15) 36 dX2_noteLoading_15 (by decide) (by omega) (by omega) (fun h15 => ?_) (fun h15 => ?_)
  · refine v_return (pc := 36) dX2_noteLoading_36 rfl ⟨Nat.le_refl _, Nat.le_refl _⟩ ?_
    (first | rw [vRow_up, vRow_up, vRow_up] | rw [vRow_up, vRow_up])
    refine q_row hQ ?_
    funext j
    by_cases k13 : j = 13
    · subst k13; simp only [qUp, ite_true, ite_false]; omega
    · simp only [qUp]; omega
  · refine v_iload_n (pc := 18) dX2_noteLoading_18 rfl ?_
    refine v_aload_n (pc := 19) dX2_noteLoading_19 rfl ?_
    refine v_gR (pc := 20) dX2_noteLoading_20 fl_X2_52 rfl ?_
    refine v_gR (pc := 23) dX2_noteLoading_23 fl_X2_125 rfl ?_
    refine v_iconst (pc := 26) (0) dX2_noteLoading_26 (by decide) ?_
    refine v_aIv (pc := 27) (j := 0) (σ 27 0) dX2_noteLoading_27 rfl rfl (by omega) (by omega) rfl ?_
    refine v_icmp_le (pc := 28) 36 dX2_noteLoading_28 (by decide) (by omega) (by omega) (fun h28 => ?_) (fun h28 => ?_)
    · refine v_return (pc := 36) dX2_noteLoading_36 rfl ⟨Nat.le_refl _, Nat.le_refl _⟩ ?_
      (first | rw [vRow_up, vRow_up, vRow_up] | rw [vRow_up, vRow_up])
      refine q_row hQ ?_
      funext j
      by_cases k13 : j = 13
      · subst k13; simp only [qUp, ite_true, ite_false]; omega
      · simp only [qUp]; omega
    · refine v_aload_n (pc := 31) dX2_noteLoading_31 rfl ?_
      refine v_iload_n (pc := 32) dX2_noteLoading_32 rfl ?_
      refine v_pI (pc := 33) dX2_noteLoading_33 fl_X2_45 rfl ?_
      refine v_return (pc := 36) dX2_noteLoading_36 rfl ⟨Nat.le_refl _, Nat.le_refl _⟩ ?_
      (first | rw [vRow_up, vRow_up, vRow_up] | rw [vRow_up, vRow_up])
      refine q_row hQ ?_
      funext j
      by_cases k13 : j = 13
      · subst k13; simp only [qUp, ite_true, ite_false]; omega
      · simp only [qUp]; omega
set_option maxHeartbeats 4000000 in
set_option maxRecDepth 100000 in
theorem c_ready29a {g : vGl} {d : Nat} {Q : Option Value → List mC → Prop} {σ : vSt} {f : Nat → Int} (hd : 1 ≤ d) (hR : YR σ) (h2 : 0 ≤ f 2) (h3 : f 2 < σ 10 6) (hQ : Q none (hp (vRow σ 29 (fRdy σ (f 2) f)))) : V g mX2_readyLowest d (0, 0, 0, 0) Q 0 [(0, .ref 29)] [] (hp (vRow σ 29 f)) := by
  obtain ⟨⟨r0, r1, r2, r3, r4, r5, r6, r7, r8, r9⟩, rE, rS, rT, rF⟩ := id hR
  have s1 := rS (f 2).toNat
  refine v_aload_n (pc := 0) dX2_readyLowest_0 rfl ?_
  refine v_gR (pc := 1) dX2_readyLowest_1 fl_X2_48 rfl ?_
  refine v_aload_n (pc := 4) dX2_readyLowest_4 rfl ?_
  refine v_gIv (pc := 5) (f 2) dX2_readyLowest_5 fl_X2_9 rfl rfl ?_
  refine v_cVi1 (pc := 8) (z := 0) (d' := d - 1) dX2_readyLowest_8 kX4_has ml_X2_69 iwX4_has swX4_has rfl rfl (Nat.le_of_ble_eq_true rfl) (Nat.le_of_ble_eq_true rfl) (by omega) ⟨Nat.le_refl _, Nat.le_refl _⟩ ?_
  refine c_X4_has1 (by exact hR) h2 h3 ?_
  refine ⟨_, rfl, ?_⟩
  refine v_istore_n (pc := 11) dX2_readyLowest_11 (by decide) ?_
  refine v_aload_n (pc := 12) dX2_readyLowest_12 rfl ?_
  refine v_iload_n (pc := 13) dX2_readyLowest_13 rfl ?_
  refine v_if_eq (pc := 14) 32 dX2_readyLowest_14 (by decide) (by omega) (fun h14 => by exfalso; omega) (fun h14 => ?_)
  refine v_aload_n (pc := 17) dX2_readyLowest_17 rfl ?_
  refine v_gR (pc := 18) dX2_readyLowest_18 fl_X2_48 rfl ?_
  refine v_gR (pc := 21) dX2_readyLowest_21 fl_X2_73 rfl ?_
  refine v_aload_n (pc := 24) dX2_readyLowest_24 rfl ?_
  refine v_gIv (pc := 25) (f 2) dX2_readyLowest_25 fl_X2_9 rfl rfl ?_
  refine v_aIv (pc := 28) (j := (f 2).toNat) (σ 13 (f 2).toNat) dX2_readyLowest_28 rfl rfl (by omega) (by omega) rfl ?_
  refine v_goto (pc := 29) 33 dX2_readyLowest_29 (by decide) ?_
  refine v_pI (pc := 33) dX2_readyLowest_33 fl_X2_15 rfl ?_
  refine v_aload_n (pc := 36) dX2_readyLowest_36 rfl ?_
  refine v_iload_n (pc := 37) dX2_readyLowest_37 rfl ?_
  refine v_if_eq (pc := 38) 56 dX2_readyLowest_38 (by decide) (by omega) (fun h38 => by exfalso; omega) (fun h38 => ?_)
  refine v_aload_n (pc := 41) dX2_readyLowest_41 rfl ?_
  refine v_gR (pc := 42) dX2_readyLowest_42 fl_X2_48 rfl ?_
  refine v_gR (pc := 45) dX2_readyLowest_45 fl_X2_77 rfl ?_
  refine v_aload_n (pc := 48) dX2_readyLowest_48 rfl ?_
  refine v_gIv (pc := 49) (f 2) dX2_readyLowest_49 fl_X2_9 rfl rfl ?_
  refine v_aIv (pc := 52) (j := (f 2).toNat) (σ 12 (f 2).toNat) dX2_readyLowest_52 rfl rfl (by omega) (by omega) rfl ?_
  refine v_goto (pc := 53) 57 dX2_readyLowest_53 (by decide) ?_
  refine v_pI (pc := 57) dX2_readyLowest_57 fl_X2_18 rfl ?_
  refine v_aload_n (pc := 60) dX2_readyLowest_60 rfl ?_
  refine v_iload_n (pc := 61) dX2_readyLowest_61 rfl ?_
  refine v_if_eq (pc := 62) 91 dX2_readyLowest_62 (by decide) (by omega) (fun h62 => by exfalso; omega) (fun h62 => ?_)
  refine v_aload_n (pc := 65) dX2_readyLowest_65 rfl ?_
  refine v_gR (pc := 66) dX2_readyLowest_66 fl_X2_48 rfl ?_
  refine v_gR (pc := 69) dX2_readyLowest_69 fl_X2_80 rfl ?_
  refine v_gR (pc := 72) dX2_readyLowest_72 fl_X2_84 rfl ?_
  refine v_aload_n (pc := 75) dX2_readyLowest_75 rfl ?_
  refine v_gR (pc := 76) dX2_readyLowest_76 fl_X2_48 rfl ?_
  refine v_gR (pc := 79) dX2_readyLowest_79 fl_X2_88 rfl ?_
  refine v_aload_n (pc := 82) dX2_readyLowest_82 rfl ?_
  refine v_gIv (pc := 83) (f 2) dX2_readyLowest_83 fl_X2_9 rfl rfl ?_
  refine v_aIv (pc := 86) (j := (f 2).toNat) (σ 11 (f 2).toNat) dX2_readyLowest_86 rfl rfl (by omega) (by omega) rfl ?_
  refine v_aIv (pc := 87) (j := (σ 11 (f 2).toNat).toNat) (σ 4 (σ 11 (f 2).toNat).toNat) dX2_readyLowest_87 rfl rfl (by omega) (by omega) rfl ?_
  refine v_goto (pc := 88) 92 dX2_readyLowest_88 (by decide) ?_
  refine v_pI (pc := 92) dX2_readyLowest_92 fl_X2_21 rfl ?_
  refine v_return (pc := 95) dX2_readyLowest_95 rfl ⟨Nat.le_refl _, Nat.le_refl _⟩ ?_
  rw [vRow_up, vRow_up, vRow_up]
  refine q_row hQ ?_
  funext j
  unfold fRdy qUp eTh
  rw [if_pos (show 0 ≤ f 2 ∧ f 2 < σ 10 6 from ⟨h2, h3⟩), if_pos (show 0 ≤ f 2 ∧ f 2 < σ 10 6 from ⟨h2, h3⟩), if_pos (show 0 ≤ f 2 ∧ f 2 < σ 10 6 from ⟨h2, h3⟩)]
  omega
set_option maxHeartbeats 4000000 in
set_option maxRecDepth 100000 in
theorem c_ready29b {g : vGl} {d : Nat} {Q : Option Value → List mC → Prop} {σ : vSt} {f : Nat → Int} (hd : 1 ≤ d) (hR : YR σ) (h2 : 0 ≤ f 2) (h3 : σ 10 6 ≤ f 2) (h4 : f 2 ≤ 10) (hQ : Q none (hp (vRow σ 29 (fRdy σ (f 2) f)))) : V g mX2_readyLowest d (0, 0, 0, 0) Q 0 [(0, .ref 29)] [] (hp (vRow σ 29 f)) := by
  obtain ⟨⟨r0, r1, r2, r3, r4, r5, r6, r7, r8, r9⟩, rE, rS, rT, rF⟩ := id hR
  refine v_aload_n (pc := 0) dX2_readyLowest_0 rfl ?_
  refine v_gR (pc := 1) dX2_readyLowest_1 fl_X2_48 rfl ?_
  refine v_aload_n (pc := 4) dX2_readyLowest_4 rfl ?_
  refine v_gIv (pc := 5) (f 2) dX2_readyLowest_5 fl_X2_9 rfl rfl ?_
  refine v_cVi1 (pc := 8) (z := 0) (d' := d - 1) dX2_readyLowest_8 kX4_has ml_X2_69 iwX4_has swX4_has rfl rfl (Nat.le_of_ble_eq_true rfl) (Nat.le_of_ble_eq_true rfl) (by omega) ⟨Nat.le_refl _, Nat.le_refl _⟩ ?_
  refine c_X4_has (by omega) (show vr (σ 10 6) by omega) ?_
  rw [if_neg (show ¬ (0 ≤ f 2 ∧ f 2 < vRow σ 29 f 10 6) from fun t => by have t2 : f 2 < σ 10 6 := t.2; omega)]
  refine ⟨_, rfl, ?_⟩
  refine v_istore_n (pc := 11) dX2_readyLowest_11 (by decide) ?_
  refine v_aload_n (pc := 12) dX2_readyLowest_12 rfl ?_
  refine v_iload_n (pc := 13) dX2_readyLowest_13 rfl ?_
  refine v_if_eq (pc := 14) 32 dX2_readyLowest_14 (by decide) (by omega) (fun h14 => ?_) (fun h14 => by exfalso; omega)
  refine v_iconst (pc := 32) (0) dX2_readyLowest_32 (by decide) ?_
  refine v_pI (pc := 33) dX2_readyLowest_33 fl_X2_15 rfl ?_
  refine v_aload_n (pc := 36) dX2_readyLowest_36 rfl ?_
  refine v_iload_n (pc := 37) dX2_readyLowest_37 rfl ?_
  refine v_if_eq (pc := 38) 56 dX2_readyLowest_38 (by decide) (by omega) (fun h38 => ?_) (fun h38 => by exfalso; omega)
  refine v_iconst (pc := 56) (0) dX2_readyLowest_56 (by decide) ?_
  refine v_pI (pc := 57) dX2_readyLowest_57 fl_X2_18 rfl ?_
  refine v_aload_n (pc := 60) dX2_readyLowest_60 rfl ?_
  refine v_iload_n (pc := 61) dX2_readyLowest_61 rfl ?_
  refine v_if_eq (pc := 62) 91 dX2_readyLowest_62 (by decide) (by omega) (fun h62 => ?_) (fun h62 => by exfalso; omega)
  refine v_iconst (pc := 91) (0) dX2_readyLowest_91 (by decide) ?_
  refine v_pI (pc := 92) dX2_readyLowest_92 fl_X2_21 rfl ?_
  refine v_return (pc := 95) dX2_readyLowest_95 rfl ⟨Nat.le_refl _, Nat.le_refl _⟩ ?_
  rw [vRow_up, vRow_up, vRow_up]
  refine q_row hQ ?_
  funext j
  unfold fRdy qUp eTh
  rw [if_neg (show ¬ (0 ≤ f 2 ∧ f 2 < σ 10 6) by omega), if_neg (show ¬ (0 ≤ f 2 ∧ f 2 < σ 10 6) by omega), if_neg (show ¬ (0 ≤ f 2 ∧ f 2 < σ 10 6) by omega)]
  omega
theorem c_ready29 {g : vGl} {d : Nat} {Q : Option Value → List mC → Prop} {σ : vSt} {f : Nat → Int} (hd : 1 ≤ d) (hR : YR σ) (h2 : 0 ≤ f 2) (h4 : f 2 ≤ 10) (hQ : Q none (hp (vRow σ 29 (fRdy σ (f 2) f)))) : V g mX2_readyLowest d (0, 0, 0, 0) Q 0 [(0, .ref 29)] [] (hp (vRow σ 29 f)) := by
  by_cases q : f 2 < σ 10 6
  · exact c_ready29a hd hR h2 q hQ
  · exact c_ready29b hd hR h2 (by omega) h4 hQ
set_option maxHeartbeats 4000000 in
set_option maxRecDepth 100000 in
theorem c_drop29 {g : vGl} {d : Nat} {Q : Option Value → List mC → Prop} {σ : vSt} {f : Nat → Int} (hd : 3 ≤ d) (hR : YR σ) (h2 : 0 ≤ f 2) (h3 : f 2 < σ 10 6) (hQ : Q none (hp (vRow σ 29 (fD σ f)))) : V g mX2_dropLowest d (0, 0, 0, 0) Q 0 [(0, .ref 29)] [] (hp (vRow σ 29 f)) := by
  obtain ⟨⟨r0, r1, r2, r3, r4, r5, r6, r7, r8, r9⟩, rE, rS, rT, rF⟩ := id hR
  refine v_aload_n (pc := 0) dX2_dropLowest_0 rfl ?_
  refine v_dup (pc := 1) dX2_dropLowest_1 rfl ?_
  refine v_gIv (pc := 2) (f 6) dX2_dropLowest_2 fl_X2_24 rfl rfl ?_
  refine v_aload_n (pc := 5) dX2_dropLowest_5 rfl ?_
  refine v_gR (pc := 6) dX2_dropLowest_6 fl_X2_48 rfl ?_
  refine v_aload_n (pc := 9) dX2_dropLowest_9 rfl ?_
  refine v_gIv (pc := 10) (f 2) dX2_dropLowest_10 fl_X2_9 rfl rfl ?_
  refine v_cVi1 (pc := 13) (z := 0) (d' := d - 1) dX2_dropLowest_13 kX4_dryOf ml_X2_91 iwX4_dryOf swX4_dryOf rfl rfl (Nat.le_of_ble_eq_true rfl) (Nat.le_of_ble_eq_true rfl) (by omega) ⟨Nat.le_refl _, Nat.le_refl _⟩ ?_
  refine c_X4_dryOf (k := (f 2).toNat) (by omega) (by exact hR) (by omega) (show ((f 2).toNat : Int) < σ 10 6 by omega) ?_
  refine ⟨_, rfl, ?_⟩
  refine v_aload_n (pc := 16) dX2_dropLowest_16 rfl ?_
  refine v_gIv (pc := 17) (f 3) dX2_dropLowest_17 fl_X2_15 rfl rfl ?_
  refine v_iadd (pc := 20) dX2_dropLowest_20 ?_
  refine v_isub (pc := 21) dX2_dropLowest_21 ?_
  refine v_pI (pc := 22) dX2_dropLowest_22 fl_X2_24 rfl ?_
  refine v_aload_n (pc := 25) dX2_dropLowest_25 rfl ?_
  refine v_dup (pc := 26) dX2_dropLowest_26 rfl ?_
  refine v_gIv (pc := 27) (f 7) dX2_dropLowest_27 fl_X2_27 rfl rfl ?_
  refine v_aload_n (pc := 30) dX2_dropLowest_30 rfl ?_
  refine v_gIv (pc := 31) (f 3) dX2_dropLowest_31 fl_X2_15 rfl rfl ?_
  refine v_isub (pc := 34) dX2_dropLowest_34 ?_
  refine v_pI (pc := 35) dX2_dropLowest_35 fl_X2_27 rfl ?_
  refine v_aload_n (pc := 38) dX2_dropLowest_38 rfl ?_
  refine v_dup (pc := 39) dX2_dropLowest_39 rfl ?_
  refine v_gIv (pc := 40) (f 2) dX2_dropLowest_40 fl_X2_9 rfl rfl ?_
  refine v_iconst (pc := 43) (1) dX2_dropLowest_43 (by decide) ?_
  refine v_iadd (pc := 44) dX2_dropLowest_44 ?_
  refine v_pI (pc := 45) dX2_dropLowest_45 fl_X2_9 rfl ?_
  refine v_aload_n (pc := 48) dX2_dropLowest_48 rfl ?_
  refine v_cVv0 (pc := 49) (z := 0) (d' := d - 1) dX2_dropLowest_49 kX2_readyLowest ml_X2_66 iwX2_readyLowest swX2_readyLowest rfl rfl (Nat.le_of_ble_eq_true rfl) (Nat.le_of_ble_eq_true rfl) (by omega) ⟨Nat.le_refl _, Nat.le_refl _⟩ ?_
  rw [vRow_up, vRow_up, vRow_up]
  refine c_ready29 (by omega) hR (show 0 ≤ f 2 + 1 by omega) (show f 2 + 1 ≤ 10 by omega) ?_
  refine ⟨rfl, ?_⟩
  refine v_return (pc := 52) dX2_dropLowest_52 rfl ⟨Nat.le_refl _, Nat.le_refl _⟩ ?_
  refine q_row hQ ?_
  show fRdy σ (f 2 + 1) _ = fRdy σ (f 2 + 1) _
  congr 1
  funext j
  unfold qUp
  show (if j = 2 then f 2 + 1 else if j = 7 then f 7 - f 3 else if j = 6 then f 6 - (yDry σ (f 2).toNat + f 3) else f j) = _
  omega
set_option maxHeartbeats 4000000 in
set_option maxRecDepth 100000 in
theorem c_goesOn29 {g : vGl} {d : Nat} {Q : Option Value → List mC → Prop} {σ : vSt} {f : Nat → Int} (h7 : vr (f 7)) (h8 : vr (f 8)) (hQ : Q (some (vi (if 0 < f 7 ∧ f 8 < 2000 then 1 else 0))) (hp (vRow σ 29 f))) : V g mX2_goesOn d (0, 0, 0, 0) Q 0 [(0, .ref 29)] [] (hp (vRow σ 29 f)) := by
  refine v_aload_n (pc := 0) dX2_goesOn_0 rfl ?_
  refine v_gIv (pc := 1) (f 7) dX2_goesOn_1 fl_X2_27 rfl rfl ?_
  refine v_if_le (pc := 4) 21 dX2_goesOn_4 (by decide) (by omega) (fun h4 => ?_) (fun h4 => ?_)
  · refine v_iconst (pc := 21) (0) dX2_goesOn_21 (by decide) ?_
    refine v_ireturn (pc := 22) dX2_goesOn_22 rfl (vZ (by omega)) ⟨Nat.le_refl _, Nat.le_refl _⟩ ?_
    first | (rw [if_pos (by omega)] at hQ; exact hQ) | (rw [if_neg (by omega)] at hQ; exact hQ)
  · refine v_aload_n (pc := 7) dX2_goesOn_7 rfl ?_
    refine v_gIv (pc := 8) (f 8) dX2_goesOn_8 fl_X2_30 rfl rfl ?_
    refine v_sipush (pc := 11) (2000) dX2_goesOn_11 (by decide) ?_
    refine v_icmp_ge (pc := 14) 21 dX2_goesOn_14 (by decide) (by omega) (by omega) (fun h14 => ?_) (fun h14 => ?_)
    · refine v_iconst (pc := 21) (0) dX2_goesOn_21 (by decide) ?_
      refine v_ireturn (pc := 22) dX2_goesOn_22 rfl (vZ (by omega)) ⟨Nat.le_refl _, Nat.le_refl _⟩ ?_
      first | (rw [if_pos (by omega)] at hQ; exact hQ) | (rw [if_neg (by omega)] at hQ; exact hQ)
    · refine v_iconst (pc := 17) (1) dX2_goesOn_17 (by decide) ?_
      refine v_goto (pc := 18) 22 dX2_goesOn_18 (by decide) ?_
      refine v_ireturn (pc := 22) dX2_goesOn_22 rfl (vZ (by omega)) ⟨Nat.le_refl _, Nat.le_refl _⟩ ?_
      first | (rw [if_pos (by omega)] at hQ; exact hQ) | (rw [if_neg (by omega)] at hQ; exact hQ)
set_option maxHeartbeats 4000000 in
set_option maxRecDepth 100000 in
theorem c_break29 {g : vGl} {d : Nat} {Q : Option Value → List mC → Prop} {σ : vSt} {f : Nat → Int} (hS : WS σ) (h9 : vr (f 9)) (h10 : vr (f 10)) (h13 : vr (f 13)) (hQ : Q (some (vi (fBk σ f))) (hp (vRow σ 29 f))) : V g mX2_breakNow d (0, 0, 0, 0) Q 0 [(0, .ref 29)] [] (hp (vRow σ 29 f)) := by
  have s1 := hS 1
  have s2 := hS 2
  unfold fBk at hQ
  refine v_aload_n (pc := 0) dX2_breakNow_0 rfl ?_
  refine v_gIv (pc := 1) (f 13) dX2_breakNow_1 fl_X2_45 rfl rfl ?_
  refine v_iconst (pc := 4) (-1) dX2_breakNow_4 (by decide) ?_
  refine v_icmp_eq (pc := 5) 10 dX2_breakNow_5 (by decide) (by omega) (by omega) (fun h5 => ?_) (fun h5 => ?_)
  · refine v_aload_n (pc := 10) dX2_breakNow_10 rfl ?_
    refine v_gIv (pc := 11) (f 9) dX2_breakNow_11 fl_X2_33 rfl rfl ?_
    refine v_aload_n (pc := 14) dX2_breakNow_14 rfl ?_
    refine v_gR (pc := 15) dX2_breakNow_15 fl_X2_52 rfl ?_
    refine v_gR (pc := 18) dX2_breakNow_18 fl_X2_125 rfl ?_
    refine v_iconst (pc := 21) (1) dX2_breakNow_21 (by decide) ?_
    refine v_aIv (pc := 22) (j := 1) (σ 27 1) dX2_breakNow_22 rfl rfl (by omega) (by omega) rfl ?_
    refine v_icmp_ge (pc := 23) 28 dX2_breakNow_23 (by decide) (by omega) (by omega) (fun h23 => ?_) (fun h23 => ?_)
    · refine v_aload_n (pc := 28) dX2_breakNow_28 rfl ?_
      refine v_gIv (pc := 29) (f 10) dX2_breakNow_29 fl_X2_36 rfl rfl ?_
      refine v_aload_n (pc := 32) dX2_breakNow_32 rfl ?_
      refine v_gR (pc := 33) dX2_breakNow_33 fl_X2_52 rfl ?_
      refine v_gR (pc := 36) dX2_breakNow_36 fl_X2_125 rfl ?_
      refine v_iconst (pc := 39) (2) dX2_breakNow_39 (by decide) ?_
      refine v_aIv (pc := 40) (j := 2) (σ 27 2) dX2_breakNow_40 rfl rfl (by omega) (by omega) rfl ?_
      refine v_icmp_ge (pc := 41) 48 dX2_breakNow_41 (by decide) (by omega) (by omega) (fun h41 => ?_) (fun h41 => ?_)
      · refine v_iconst (pc := 48) (0) dX2_breakNow_48 (by decide) ?_
        refine v_ireturn (pc := 49) dX2_breakNow_49 rfl rfl ⟨Nat.le_refl _, Nat.le_refl _⟩ ?_
        first | (rw [if_pos (by omega)] at hQ; exact hQ) | (rw [if_neg (by omega), if_pos (by omega)] at hQ; exact hQ) | (rw [if_neg (by omega), if_neg (by omega), if_pos (by omega)] at hQ; exact hQ) | (rw [if_neg (by omega), if_neg (by omega), if_neg (by omega)] at hQ; exact hQ)
      · refine v_iconst (pc := 44) (3) dX2_breakNow_44 (by decide) ?_
        refine v_goto (pc := 45) 49 dX2_breakNow_45 (by decide) ?_
        refine v_ireturn (pc := 49) dX2_breakNow_49 rfl rfl ⟨Nat.le_refl _, Nat.le_refl _⟩ ?_
        first | (rw [if_pos (by omega)] at hQ; exact hQ) | (rw [if_neg (by omega), if_pos (by omega)] at hQ; exact hQ) | (rw [if_neg (by omega), if_neg (by omega), if_pos (by omega)] at hQ; exact hQ) | (rw [if_neg (by omega), if_neg (by omega), if_neg (by omega)] at hQ; exact hQ)
    · refine v_iconst (pc := 26) (2) dX2_breakNow_26 (by decide) ?_
      refine v_ireturn (pc := 27) dX2_breakNow_27 rfl rfl ⟨Nat.le_refl _, Nat.le_refl _⟩ ?_
      first | (rw [if_pos (by omega)] at hQ; exact hQ) | (rw [if_neg (by omega), if_pos (by omega)] at hQ; exact hQ) | (rw [if_neg (by omega), if_neg (by omega), if_pos (by omega)] at hQ; exact hQ) | (rw [if_neg (by omega), if_neg (by omega), if_neg (by omega)] at hQ; exact hQ)
  · refine v_iconst (pc := 8) (1) dX2_breakNow_8 (by decide) ?_
    refine v_ireturn (pc := 9) dX2_breakNow_9 rfl rfl ⟨Nat.le_refl _, Nat.le_refl _⟩ ?_
    first | (rw [if_pos (by omega)] at hQ; exact hQ) | (rw [if_neg (by omega), if_pos (by omega)] at hQ; exact hQ) | (rw [if_neg (by omega), if_neg (by omega), if_pos (by omega)] at hQ; exact hQ) | (rw [if_neg (by omega), if_neg (by omega), if_neg (by omega)] at hQ; exact hQ)
set_option maxHeartbeats 4000000 in
set_option maxRecDepth 100000 in
theorem l_burnX29 {g : vGl} {d : Nat} {Q : Option Value → List mC → Prop} {σ : vSt} {o f : Nat → Int} {U hs : Int} (ho : fOb o f) (hQ : Q none (hp (vRow σ 29 f))) : V g mX2_burnLowest d (0, 0, 0, 0) Q 204 [(0, .ref 29), (1, vi U), (2, vi hs), (3, vi (f 9)), (4, vi (f 10)), (5, vi (f 6)), (6, vi (f 3)), (7, vi (f 8))] [] (hp (vRow σ 29 o)) := by
  refine v_aload_n (pc := 204) dX2_burnLowest_204 rfl ?_
  refine v_iload_n (pc := 205) dX2_burnLowest_205 rfl ?_
  refine v_pI (pc := 206) dX2_burnLowest_206 fl_X2_33 rfl ?_
  refine v_aload_n (pc := 209) dX2_burnLowest_209 rfl ?_
  refine v_iload (pc := 210) dX2_burnLowest_210 rfl ?_
  refine v_pI (pc := 212) dX2_burnLowest_212 fl_X2_36 rfl ?_
  refine v_aload_n (pc := 215) dX2_burnLowest_215 rfl ?_
  refine v_iload (pc := 216) dX2_burnLowest_216 rfl ?_
  refine v_pI (pc := 218) dX2_burnLowest_218 fl_X2_24 rfl ?_
  refine v_aload_n (pc := 221) dX2_burnLowest_221 rfl ?_
  refine v_dup (pc := 222) dX2_burnLowest_222 rfl ?_
  refine v_gIv (pc := 223) (o 7) dX2_burnLowest_223 fl_X2_27 rfl rfl ?_
  refine v_aload_n (pc := 226) dX2_burnLowest_226 rfl ?_
  refine v_gIv (pc := 227) (o 3) dX2_burnLowest_227 fl_X2_15 rfl rfl ?_
  refine v_iload (pc := 230) dX2_burnLowest_230 rfl ?_
  refine v_isub (pc := 232) dX2_burnLowest_232 ?_
  refine v_isub (pc := 233) dX2_burnLowest_233 ?_
  refine v_pI (pc := 234) dX2_burnLowest_234 fl_X2_27 rfl ?_
  refine v_aload_n (pc := 237) dX2_burnLowest_237 rfl ?_
  refine v_iload (pc := 238) dX2_burnLowest_238 rfl ?_
  refine v_pI (pc := 240) dX2_burnLowest_240 fl_X2_15 rfl ?_
  refine v_aload_n (pc := 243) dX2_burnLowest_243 rfl ?_
  refine v_iload (pc := 244) dX2_burnLowest_244 rfl ?_
  refine v_pI (pc := 246) dX2_burnLowest_246 fl_X2_30 rfl ?_
  refine v_return (pc := 249) dX2_burnLowest_249 rfl ⟨Nat.le_refl _, Nat.le_refl _⟩ ?_
  rw [vRow_up, vRow_up, vRow_up, vRow_up, vRow_up, vRow_up]
  refine q_row hQ ?_
  have e7 := ho.2
  funext j
  simp only [qUp]
  by_cases k3 : j = 3
  · subst k3; omega
  by_cases k6 : j = 6
  · subst k6; omega
  by_cases k7 : j = 7
  · subst k7; omega
  by_cases k8 : j = 8
  · subst k8; omega
  by_cases k9 : j = 9
  · subst k9; omega
  by_cases k10 : j = 10
  · subst k10; omega
  have := ho.1 j k3 k6 k7 k8 k9 k10
  omega
set_option maxHeartbeats 4000000 in
set_option maxRecDepth 100000 in
theorem l_burn429 {g : vGl} {d : Nat} {Q : Option Value → List mC → Prop} {σ : vSt} {o f : Nat → Int} {U hs : Int} (hh : hs = 0 ∨ hs = 1) (ho : fOb o (fB σ f)) (h13 : vr (fB σ f 13)) (hX : (hs = 1 ∧ ¬ fB σ f 13 = -1) → V g mX2_burnLowest d (0, 0, 0, 0) Q 204 [(0, .ref 29), (1, vi U), (2, vi hs), (3, vi (fB σ f 9)), (4, vi (fB σ f 10)), (5, vi (fB σ f 6)), (6, vi (fB σ f 3)), (7, vi (fB σ f 8))] [] (hp (vRow σ 29 o))) (hL : ¬ (hs = 1 ∧ ¬ fB σ f 13 = -1) → V g mX2_burnLowest d (0, 0, 0, 0) Q 29 [(0, .ref 29), (1, vi U), (2, vi hs), (3, vi (fB σ f 9)), (4, vi (fB σ f 10)), (5, vi (fB σ f 6)), (6, vi (fB σ f 3)), (7, vi (fB σ f 8))] [] (hp (vRow σ 29 o))) : V g mX2_burnLowest d (0, 0, 0, 0) Q 169 [(0, .ref 29), (1, vi U), (2, vi hs), (3, vi (fB σ f 9)), (4, vi (fB σ f 10)), (5, vi (f 6)), (6, vi (f 3)), (7, vi (f 8)), (8, vi (fBu f))] [] (hp (vRow σ 29 o)) := by
  refine v_iload (pc := 169) dX2_burnLowest_169 rfl ?_
  refine v_iload (pc := 171) dX2_burnLowest_171 rfl ?_
  refine v_isub (pc := 173) dX2_burnLowest_173 ?_
  refine v_istore (pc := 174) dX2_burnLowest_174 (by decide) ?_
  refine v_iload (pc := 176) dX2_burnLowest_176 rfl ?_
  refine v_iload (pc := 178) dX2_burnLowest_178 rfl ?_
  refine v_isub (pc := 180) dX2_burnLowest_180 ?_
  refine v_istore (pc := 181) dX2_burnLowest_181 (by decide) ?_
  refine v_iinc (pc := 183) (1) dX2_burnLowest_183 rfl (by decide) (by decide) ?_
  refine v_iload_n (pc := 186) dX2_burnLowest_186 rfl ?_
  refine v_if_eq (pc := 187) 201 dX2_burnLowest_187 (by decide) (by omega) (fun h187 => ?_) (fun h187 => ?_)
  · refine v_goto (pc := 201) 29 dX2_burnLowest_201 (by decide) ?_
    exact v_lv (hL (by omega)) ⟨rfl, rfl, rfl, rfl, rfl, rfl, rfl, rfl, trivial⟩
  · refine v_aload_n (pc := 190) dX2_burnLowest_190 rfl ?_
    refine v_gIv (pc := 191) (fB σ f 13) dX2_burnLowest_191 fl_X2_45 rfl (ho.1 13 (by decide) (by decide) (by decide) (by decide) (by decide) (by decide)) ?_
    refine v_iconst (pc := 194) (-1) dX2_burnLowest_194 (by decide) ?_
    refine v_icmp_eq (pc := 195) 201 dX2_burnLowest_195 (by decide) (by omega) (by omega) (fun h195 => ?_) (fun h195 => ?_)
    · refine v_goto (pc := 201) 29 dX2_burnLowest_201 (by decide) ?_
      exact v_lv (hL (by omega)) ⟨rfl, rfl, rfl, rfl, rfl, rfl, rfl, rfl, trivial⟩
    · refine v_goto (pc := 198) 204 dX2_burnLowest_198 (by decide) ?_
      exact v_lv (hX (by omega)) ⟨rfl, rfl, rfl, rfl, rfl, rfl, rfl, rfl, trivial⟩
set_option maxHeartbeats 4000000 in
set_option maxRecDepth 100000 in
theorem l_burn329 {g : vGl} {d : Nat} {Q : Option Value → List mC → Prop} {σ : vSt} {o f : Nat → Int} {U hs : Int} (hd : 1 ≤ d) (h9 : 0 ≤ f 9 ∧ f 9 ≤ 200000000) (h10 : -100000 ≤ f 10 ∧ f 10 ≤ 100000) (h6 : 0 < f 6 ∧ f 6 ≤ 20000) (hpu : -2000000000 ≤ fPu σ f ∧ fPu σ f ≤ 2000000000) (K : V g mX2_burnLowest d (0, 0, 0, 0) Q 169 [(0, .ref 29), (1, vi U), (2, vi hs), (3, vi (fB σ f 9)), (4, vi (fB σ f 10)), (5, vi (f 6)), (6, vi (f 3)), (7, vi (f 8)), (8, vi (fBu f))] [] (hp (vRow σ 29 o))) : V g mX2_burnLowest d (0, 0, 0, 0) Q 135 [(0, .ref 29), (1, vi U), (2, vi hs), (3, vi (f 9)), (4, vi (f 10)), (5, vi (f 6)), (6, vi (f 3)), (7, vi (f 8)), (8, vi (fBu f))] [vi (fPu σ f), vi (f 10)] (hp (vRow σ 29 o)) := by
  refine v_iload (pc := 135) dX2_burnLowest_135 rfl ?_
  refine v_idiv (pc := 137) dX2_burnLowest_137 (by omega) (by omega) (by omega) ?_
  refine v_iadd (pc := 138) dX2_burnLowest_138 ?_
  refine v_istore (pc := 139) dX2_burnLowest_139 (by decide) ?_
  have hq : -2000000000 ≤ (fPu σ f).tdiv (f 6) ∧ (fPu σ f).tdiv (f 6) ≤ 2000000000 := tdiv_rng h6.1 hpu
  refine v_ldc (pc := 141) (-100000) dX2_burnLowest_141 kc_X2_120 ?_
  refine v_iload (pc := 143) dX2_burnLowest_143 rfl ?_
  refine v_ldc (pc := 145) (100000) dX2_burnLowest_145 kc_X2_121 ?_
  refine v_min (pc := 147) dX2_burnLowest_147 ml_X2_105 st_min it_Math co_min (by omega) (by omega) (Nat.le_of_ble_eq_true rfl) (by omega) ⟨Nat.le_refl _, Nat.le_refl _⟩ ?_
  refine v_max (pc := 150) dX2_burnLowest_150 ml_X2_122 st_max it_Math co_max (by omega) (by omega) (Nat.le_of_ble_eq_true rfl) (by omega) ⟨Nat.le_refl _, Nat.le_refl _⟩ ?_
  refine v_top (show max (-100000) (min (f 10 + (fPu σ f).tdiv (f 6)) 100000) = fPa σ f from rfl) ?_
  refine v_istore (pc := 153) dX2_burnLowest_153 (by decide) ?_
  have pa : -100000 ≤ fPa σ f ∧ fPa σ f ≤ 100000 := by unfold fPa; omega
  refine v_iload_n (pc := 155) dX2_burnLowest_155 rfl ?_
  refine v_iload (pc := 156) dX2_burnLowest_156 rfl ?_
  refine v_iadd (pc := 158) dX2_burnLowest_158 ?_
  refine v_istore_n (pc := 159) dX2_burnLowest_159 (by decide) ?_
  refine v_iload_n (pc := 160) dX2_burnLowest_160 rfl ?_
  refine v_if_ge (pc := 161) 169 dX2_burnLowest_161 (by decide) (by omega) (fun h161 => ?_) (fun h161 => ?_)
  · have e9 : fB σ f 9 = if f 9 + fPa σ f < 0 then 0 else f 9 + fPa σ f := rfl
    have e10 : fB σ f 10 = if f 9 + fPa σ f < 0 then 0 else fPa σ f := rfl
    first | (rw [if_pos (by omega)] at e9 e10) | (rw [if_neg (by omega)] at e9 e10)
    rw [e9, e10] at K
    exact v_lv K ⟨rfl, rfl, rfl, rfl, rfl, rfl, rfl, rfl, rfl, trivial⟩
  · refine v_iconst (pc := 164) (0) dX2_burnLowest_164 (by decide) ?_
    refine v_istore_n (pc := 165) dX2_burnLowest_165 (by decide) ?_
    refine v_iconst (pc := 166) (0) dX2_burnLowest_166 (by decide) ?_
    refine v_istore (pc := 167) dX2_burnLowest_167 (by decide) ?_
    have e9 : fB σ f 9 = if f 9 + fPa σ f < 0 then 0 else f 9 + fPa σ f := rfl
    have e10 : fB σ f 10 = if f 9 + fPa σ f < 0 then 0 else fPa σ f := rfl
    first | (rw [if_pos (by omega)] at e9 e10) | (rw [if_neg (by omega)] at e9 e10)
    rw [e9, e10] at K
    exact v_lv K ⟨rfl, rfl, rfl, rfl, rfl, rfl, rfl, rfl, rfl, trivial⟩
set_option maxHeartbeats 4000000 in
set_option maxRecDepth 100000 in
theorem l_burn229 {g : vGl} {d : Nat} {Q : Option Value → List mC → Prop} {σ : vSt} {o f : Nat → Int} {U hs : Int} (ho : fOb o (fB σ f)) (h10 : -100000 ≤ f 10 ∧ f 10 ≤ 100000) (K : V g mX2_burnLowest d (0, 0, 0, 0) Q 135 [(0, .ref 29), (1, vi U), (2, vi hs), (3, vi (f 9)), (4, vi (f 10)), (5, vi (f 6)), (6, vi (f 3)), (7, vi (f 8)), (8, vi (fBu f))] [vi (fPu σ f), vi (f 10)] (hp (vRow σ 29 o))) : V g mX2_burnLowest d (0, 0, 0, 0) Q 100 [(0, .ref 29), (1, vi U), (2, vi hs), (3, vi (f 9)), (4, vi (f 10)), (5, vi (f 6)), (6, vi (f 3)), (7, vi (f 8)), (8, vi (fBu f)), (9, vi (fDg σ f))] [] (hp (vRow σ 29 o)) := by
  refine v_bipush (pc := 100) (100) dX2_burnLowest_100 (by decide) ?_
  refine v_aload_n (pc := 102) dX2_burnLowest_102 rfl ?_
  refine v_gIv (pc := 103) (f 5) dX2_burnLowest_103 fl_X2_21 rfl (ho.1 5 (by decide) (by decide) (by decide) (by decide) (by decide) (by decide)) ?_
  refine v_iload (pc := 106) dX2_burnLowest_106 rfl ?_
  refine v_imul (pc := 108) dX2_burnLowest_108 ?_
  refine v_iload (pc := 109) dX2_burnLowest_109 rfl ?_
  refine v_isub (pc := 111) dX2_burnLowest_111 ?_
  refine v_imul (pc := 112) dX2_burnLowest_112 ?_
  refine v_istore (pc := 113) dX2_burnLowest_113 (by decide) ?_
  refine v_iload (pc := 115) dX2_burnLowest_115 rfl ?_
  refine v_iload (pc := 117) dX2_burnLowest_117 rfl ?_
  refine v_if_ge (pc := 119) 130 dX2_burnLowest_119 (by decide) (by omega) (fun h119 => ?_) (fun h119 => ?_)
  · refine v_iload (pc := 130) dX2_burnLowest_130 rfl ?_
    refine v_iload (pc := 132) dX2_burnLowest_132 rfl ?_
    refine v_isub (pc := 134) dX2_burnLowest_134 ?_
    have e0 : fPu σ f = if f 10 < 0 then 100 * (f 5 * fBu f - f 6) + fDg σ f else 100 * (f 5 * fBu f - f 6) - fDg σ f := rfl
    first | rw [if_pos (by omega)] at e0 | rw [if_neg (by omega)] at e0
    rw [e0] at K
    exact v_lv K ⟨rfl, rfl, rfl, rfl, rfl, rfl, rfl, rfl, rfl, trivial⟩
  · refine v_iload (pc := 122) dX2_burnLowest_122 rfl ?_
    refine v_iload (pc := 124) dX2_burnLowest_124 rfl ?_
    refine v_iadd (pc := 126) dX2_burnLowest_126 ?_
    refine v_goto (pc := 127) 135 dX2_burnLowest_127 (by decide) ?_
    have e0 : fPu σ f = if f 10 < 0 then 100 * (f 5 * fBu f - f 6) + fDg σ f else 100 * (f 5 * fBu f - f 6) - fDg σ f := rfl
    first | rw [if_pos (by omega)] at e0 | rw [if_neg (by omega)] at e0
    rw [e0] at K
    exact v_lv K ⟨rfl, rfl, rfl, rfl, rfl, rfl, rfl, rfl, rfl, trivial⟩
set_option maxHeartbeats 4000000 in
set_option maxRecDepth 100000 in
theorem l_burn29 {g : vGl} {d : Nat} {Q : Option Value → List mC → Prop} {σ : vSt} {U hs : Int} (hd : 2 ≤ d) (hR : YR σ) (hS : WS σ) (hU : 0 ≤ U ∧ U ≤ 2000) (hh : hs = 0 ∨ hs = 1) : ∀ (n : Nat) (f o : Nat → Int) (h3 : f 3 ≤ n) (w : WF σ f) (lt : f 2 < σ 10 6) (ho : fOb o f) (hQ : Q none (hp (vRow σ 29 (fBs σ U hs n f)))), V g mX2_burnLowest d (0, 0, 0, 0) Q 29 [(0, .ref 29), (1, vi U), (2, vi hs), (3, vi (f 9)), (4, vi (f 10)), (5, vi (f 6)), (6, vi (f 3)), (7, vi (f 8))] [] (hp (vRow σ 29 o)) := by
  intro n
  induction n with
  | zero =>
    intro f o h3 w lt ho hQ
    have rg := w.rng hR
    refine v_iload (pc := 29) dX2_burnLowest_29 rfl ?_
    refine v_if_le (pc := 31) 204 dX2_burnLowest_31 (by decide) (by omega) (fun h31 => ?_) (fun h31 => by exfalso; omega)
    refine v_lv (l_burnX29 ho ?_) ⟨rfl, rfl, rfl, rfl, rfl, rfl, rfl, rfl, trivial⟩
    exact hQ
  | succ n ih =>
    intro f o h3 w lt ho hQ
    have rg := w.rng hR
    by_cases q : 0 < f 3 ∧ f 8 < U
    · have e0 : fBs σ U hs (n + 1) f = if hs = 1 ∧ ¬ fB σ f 13 = -1 then fB σ f else fBs σ U hs n (fB σ f) := if_pos q
      rw [e0] at hQ
      have wb := WF_B hS w lt q.1 (by omega)
      have rb := wb.1.rng hR
      have o4 := ho.1 4 (by decide) (by decide) (by decide) (by decide) (by decide) (by decide)
      have o11 := ho.1 11 (by decide) (by decide) (by decide) (by decide) (by decide) (by decide)
      have o13 := ho.1 13 (by decide) (by decide) (by decide) (by decide) (by decide) (by decide)
      have dg : 0 ≤ fDg σ f ∧ fDg σ f ≤ 1000000000 := by
        have := drag_rng (ar := σ 26) (fun j => ⟨(hS j).1, (hS j).2.1⟩) (p := f 10) (h := f 9) (by omega) (by omega)
        exact ⟨this.1, this.2.1⟩
      have bu : 1 ≤ fBu f ∧ fBu f ≤ 9 := by unfold fBu; omega
      have th := mul_le (a := f 5) (b := fBu f) (A := 999) (B := 9) (by omega) (by omega) (by omega) (by omega)
      have pu : -2000000000 ≤ fPu σ f ∧ fPu σ f ≤ 2000000000 := by unfold fPu; omega
      refine v_iload (pc := 29) dX2_burnLowest_29 rfl ?_
      refine v_if_le (pc := 31) 204 dX2_burnLowest_31 (by decide) (by omega) (fun h31 => by exfalso; omega) (fun h31 => ?_)
      refine v_iload (pc := 34) dX2_burnLowest_34 rfl ?_
      refine v_iload_n (pc := 36) dX2_burnLowest_36 rfl ?_
      refine v_icmp_ge (pc := 37) 204 dX2_burnLowest_37 (by decide) (by omega) (by omega) (fun h37 => by exfalso; omega) (fun h37 => ?_)
      refine v_iload (pc := 40) dX2_burnLowest_40 rfl ?_
      refine v_sipush (pc := 42) (2000) dX2_burnLowest_42 (by decide) ?_
      refine v_icmp_ge (pc := 45) 204 dX2_burnLowest_45 (by decide) (by omega) (by omega) (fun h45 => by exfalso; omega) (fun h45 => ?_)
      refine v_iload (pc := 48) dX2_burnLowest_48 rfl ?_
      refine v_if_le (pc := 50) 204 dX2_burnLowest_50 (by decide) (by omega) (fun h50 => by exfalso; omega) (fun h50 => ?_)
      refine v_aload_n (pc := 53) dX2_burnLowest_53 rfl ?_
      refine v_gIv (pc := 54) (f 4) dX2_burnLowest_54 fl_X2_18 rfl o4 ?_
      refine v_if_le (pc := 57) 204 dX2_burnLowest_57 (by decide) (by omega) (fun h57 => by exfalso; omega) (fun h57 => ?_)
      refine v_iload (pc := 60) dX2_burnLowest_60 rfl ?_
      refine v_aload_n (pc := 62) dX2_burnLowest_62 rfl ?_
      refine v_gIv (pc := 63) (f 4) dX2_burnLowest_63 fl_X2_18 rfl o4 ?_
      refine v_min (pc := 66) dX2_burnLowest_66 ml_X2_105 st_min it_Math co_min (by omega) (by omega) (Nat.le_of_ble_eq_true rfl) (by omega) ⟨Nat.le_refl _, Nat.le_refl _⟩ ?_
      refine v_top (show min (f 3) (f 4) = fBu f from rfl) ?_
      refine v_istore (pc := 69) dX2_burnLowest_69 (by decide) ?_
      refine v_aload_n (pc := 71) dX2_burnLowest_71 rfl ?_
      refine v_gR (pc := 72) dX2_burnLowest_72 fl_X2_52 rfl ?_
      refine v_iload (pc := 75) dX2_burnLowest_75 rfl ?_
      refine v_iload_n (pc := 77) dX2_burnLowest_77 rfl ?_
      refine v_cVi2 (pc := 78) (z := 0) (d' := d - 1) dX2_burnLowest_78 kX5_dragOf ml_X2_111 iwX5_dragOf swX5_dragOf rfl rfl (Nat.le_of_ble_eq_true rfl) (Nat.le_of_ble_eq_true rfl) (by omega) ⟨Nat.le_refl _, Nat.le_refl _⟩ ?_
      refine c_X5_dragOf (by exact hS) (by omega) (by omega) ?_
      refine ⟨_, rfl, ?_⟩
      refine v_top (show fDrag (σ 26) (f 10) (f 9) = fDg σ f from rfl) ?_
      refine v_istore (pc := 81) dX2_burnLowest_81 (by decide) ?_
      refine v_iload (pc := 83) dX2_burnLowest_83 rfl ?_
      refine v_aload_n (pc := 85) dX2_burnLowest_85 rfl ?_
      refine v_gIv (pc := 86) (f 11) dX2_burnLowest_86 fl_X2_39 rfl o11 ?_
      refine v_icmp_le (pc := 89) 100 dX2_burnLowest_89 (by decide) (by omega) (by omega) (fun h89 => ?_) (fun h89 => ?_)
      · refine v_lv (l_burn229 (f := f) (by first | exact fOb_a28 ho (by omega) | exact fOb_b28 ho (by omega)) (by omega) (l_burn329 (by omega) (by omega) (by omega) (by omega) (by omega) (l_burn429 hh (by first | exact fOb_a28 ho (by omega) | exact fOb_b28 ho (by omega)) (by omega) (fun q => ?_) (fun q => ?_)))) ⟨rfl, rfl, rfl, rfl, rfl, rfl, rfl, rfl, rfl, rfl, trivial⟩
        · rw [if_pos q] at hQ
          exact l_burnX29 (by first | exact fOb_a28 ho (by omega) | exact fOb_b28 ho (by omega)) hQ
        · rw [if_neg q] at hQ
          exact ih (fB σ f) _ (by omega) wb.1 (by omega) (by first | exact fOb_a28 ho (by omega) | exact fOb_b28 ho (by omega)) hQ
      · refine v_aload_n (pc := 92) dX2_burnLowest_92 rfl ?_
        refine v_iload (pc := 93) dX2_burnLowest_93 rfl ?_
        refine v_iload (pc := 95) dX2_burnLowest_95 rfl ?_
        refine v_cVv2 (pc := 97) (z := 0) (d' := d - 1) dX2_burnLowest_97 kX2_noteLoading ml_X2_116 iwX2_noteLoading swX2_noteLoading rfl rfl (Nat.le_of_ble_eq_true rfl) (Nat.le_of_ble_eq_true rfl) (by omega) ⟨Nat.le_refl _, Nat.le_refl _⟩ ?_
        refine c_noteLoading29 hS (by rw [o13]; omega) (by omega) ?_
        refine ⟨rfl, ?_⟩
        refine v_lv (l_burn229 (f := f) (by first | exact fOb_a28 ho (by omega) | exact fOb_b28 ho (by omega)) (by omega) (l_burn329 (by omega) (by omega) (by omega) (by omega) (by omega) (l_burn429 hh (by first | exact fOb_a28 ho (by omega) | exact fOb_b28 ho (by omega)) (by omega) (fun q => ?_) (fun q => ?_)))) ⟨rfl, rfl, rfl, rfl, rfl, rfl, rfl, rfl, rfl, rfl, trivial⟩
        · rw [if_pos q] at hQ
          exact l_burnX29 (by first | exact fOb_a28 ho (by omega) | exact fOb_b28 ho (by omega)) hQ
        · rw [if_neg q] at hQ
          exact ih (fB σ f) _ (by omega) wb.1 (by omega) (by first | exact fOb_a28 ho (by omega) | exact fOb_b28 ho (by omega)) hQ
    · rw [fBs_stop q] at hQ
      refine v_iload (pc := 29) dX2_burnLowest_29 rfl ?_
      refine v_if_le (pc := 31) 204 dX2_burnLowest_31 (by decide) (by omega) (fun h31 => ?_) (fun h31 => ?_)
      · refine v_lv (l_burnX29 ho ?_) ⟨rfl, rfl, rfl, rfl, rfl, rfl, rfl, rfl, trivial⟩
        exact hQ
      · refine v_iload (pc := 34) dX2_burnLowest_34 rfl ?_
        refine v_iload_n (pc := 36) dX2_burnLowest_36 rfl ?_
        refine v_icmp_ge (pc := 37) 204 dX2_burnLowest_37 (by decide) (by omega) (by omega) (fun h37 => ?_) (fun h37 => ?_)
        · refine v_lv (l_burnX29 ho ?_) ⟨rfl, rfl, rfl, rfl, rfl, rfl, rfl, rfl, trivial⟩
          exact hQ
        · refine v_iload (pc := 40) dX2_burnLowest_40 rfl ?_
          refine v_sipush (pc := 42) (2000) dX2_burnLowest_42 (by decide) ?_
          refine v_icmp_ge (pc := 45) 204 dX2_burnLowest_45 (by decide) (by omega) (by omega) (fun h45 => by exfalso; omega) (fun h45 => ?_)
          refine v_iload (pc := 48) dX2_burnLowest_48 rfl ?_
          refine v_if_le (pc := 50) 204 dX2_burnLowest_50 (by decide) (by omega) (fun h50 => by exfalso; omega) (fun h50 => ?_)
          refine v_aload_n (pc := 53) dX2_burnLowest_53 rfl ?_
          refine v_gI (pc := 54) dX2_burnLowest_54 fl_X2_18 rfl ?_
          refine v_if_le (pc := 57) 204 dX2_burnLowest_57 (by decide) (by omega) (fun h57 => by exfalso; omega) (fun h57 => ?_)
          exfalso; omega
set_option maxHeartbeats 4000000 in
set_option maxRecDepth 100000 in
theorem c_burn29 {g : vGl} {d : Nat} {Q : Option Value → List mC → Prop} {σ : vSt} {f : Nat → Int} {U hs : Int} (hd : 2 ≤ d) (hR : YR σ) (hS : WS σ) (hU : 0 ≤ U ∧ U ≤ 2000) (hh : hs = 0 ∨ hs = 1) (w : WF σ f) (lt : f 2 < σ 10 6) (hQ : Q none (hp (vRow σ 29 (fBs σ U hs (f 3).toNat f)))) : V g mX2_burnLowest d (0, 0, 0, 0) Q 0 [(0, .ref 29), (1, vi U), (2, vi hs)] [] (hp (vRow σ 29 f)) := by
  refine v_aload_n (pc := 0) dX2_burnLowest_0 rfl ?_
  refine v_gIv (pc := 1) (f 9) dX2_burnLowest_1 fl_X2_33 rfl rfl ?_
  refine v_istore_n (pc := 4) dX2_burnLowest_4 (by decide) ?_
  refine v_aload_n (pc := 5) dX2_burnLowest_5 rfl ?_
  refine v_gIv (pc := 6) (f 10) dX2_burnLowest_6 fl_X2_36 rfl rfl ?_
  refine v_istore (pc := 9) dX2_burnLowest_9 (by decide) ?_
  refine v_aload_n (pc := 11) dX2_burnLowest_11 rfl ?_
  refine v_gIv (pc := 12) (f 6) dX2_burnLowest_12 fl_X2_24 rfl rfl ?_
  refine v_istore (pc := 15) dX2_burnLowest_15 (by decide) ?_
  refine v_aload_n (pc := 17) dX2_burnLowest_17 rfl ?_
  refine v_gIv (pc := 18) (f 3) dX2_burnLowest_18 fl_X2_15 rfl rfl ?_
  refine v_istore (pc := 21) dX2_burnLowest_21 (by decide) ?_
  refine v_aload_n (pc := 23) dX2_burnLowest_23 rfl ?_
  refine v_gIv (pc := 24) (f 8) dX2_burnLowest_24 fl_X2_30 rfl rfl ?_
  refine v_istore (pc := 27) dX2_burnLowest_27 (by decide) ?_
  exact v_lv (l_burn29 hd hR hS hU hh (f 3).toNat f f (by omega) w lt ⟨fun _ _ _ _ _ _ _ => rfl, rfl⟩ hQ) ⟨rfl, rfl, rfl, rfl, rfl, rfl, rfl, rfl, trivial⟩
set_option maxHeartbeats 4000000 in
set_option maxRecDepth 100000 in
theorem c_noteLoading30 {g : vGl} {d : Nat} {Q : Option Value → List mC → Prop} {σ : vSt} {f : Nat → Int} {dg t : Int} (hS : WS σ) (h13 : vr (f 13)) (hdg : vr dg) (hQ : Q none (hp (vRow σ 30 (fun j => if j = 11 then dg else if j = 12 then t else if j = 13 then (if f 13 = -1 ∧ σ 27 0 < dg then t else f 13) else f j)))) : V g mX2_noteLoading d (0, 0, 0, 0) Q 0 [(0, .ref 30), (1, vi dg), (2, vi t)] [] (hp (vRow σ 30 f)) := by
  have s := hS 0
  refine v_aload_n (pc := 0) dX2_noteLoading_0 rfl ?_
  refine v_iload_n (pc := 1) dX2_noteLoading_1 rfl ?_
  refine v_pI (pc := 2) dX2_noteLoading_2 fl_X2_39 rfl ?_
  refine v_aload_n (pc := 5) dX2_noteLoading_5 rfl ?_
  refine v_iload_n (pc := 6) dX2_noteLoading_6 rfl ?_
  refine v_pI (pc := 7) dX2_noteLoading_7 fl_X2_42 rfl ?_
  refine v_aload_n (pc := 10) dX2_noteLoading_10 rfl ?_
  refine v_gIv (pc := 11) (f 13) dX2_noteLoading_11 fl_X2_45 rfl rfl ?_
  refine v_iconst (pc := 14) (-1) dX2_noteLoading_14 (by decide) ?_
  refine v_icmp_ne (pc := 15) 36 dX2_noteLoading_15 (by decide) (by omega) (by omega) (fun h15 => ?_) (fun h15 => ?_)
  · refine v_return (pc := 36) dX2_noteLoading_36 rfl ⟨Nat.le_refl _, Nat.le_refl _⟩ ?_
    (first | rw [vRow_up, vRow_up, vRow_up] | rw [vRow_up, vRow_up])
    refine q_row hQ ?_
    funext j
    by_cases k13 : j = 13
    · subst k13; simp only [qUp, ite_true, ite_false]; omega
    · simp only [qUp]; omega
  · refine v_iload_n (pc := 18) dX2_noteLoading_18 rfl ?_
    refine v_aload_n (pc := 19) dX2_noteLoading_19 rfl ?_
    refine v_gR (pc := 20) dX2_noteLoading_20 fl_X2_52 rfl ?_
    refine v_gR (pc := 23) dX2_noteLoading_23 fl_X2_125 rfl ?_
    refine v_iconst (pc := 26) (0) dX2_noteLoading_26 (by decide) ?_
    refine v_aIv (pc := 27) (j := 0) (σ 27 0) dX2_noteLoading_27 rfl rfl (by omega) (by omega) rfl ?_
    refine v_icmp_le (pc := 28) 36 dX2_noteLoading_28 (by decide) (by omega) (by omega) (fun h28 => ?_) (fun h28 => ?_)
    · refine v_return (pc := 36) dX2_noteLoading_36 rfl ⟨Nat.le_refl _, Nat.le_refl _⟩ ?_
      (first | rw [vRow_up, vRow_up, vRow_up] | rw [vRow_up, vRow_up])
      refine q_row hQ ?_
      funext j
      by_cases k13 : j = 13
      · subst k13; simp only [qUp, ite_true, ite_false]; omega
      · simp only [qUp]; omega
    · refine v_aload_n (pc := 31) dX2_noteLoading_31 rfl ?_
      refine v_iload_n (pc := 32) dX2_noteLoading_32 rfl ?_
      refine v_pI (pc := 33) dX2_noteLoading_33 fl_X2_45 rfl ?_
      refine v_return (pc := 36) dX2_noteLoading_36 rfl ⟨Nat.le_refl _, Nat.le_refl _⟩ ?_
      (first | rw [vRow_up, vRow_up, vRow_up] | rw [vRow_up, vRow_up])
      refine q_row hQ ?_
      funext j
      by_cases k13 : j = 13
      · subst k13; simp only [qUp, ite_true, ite_false]; omega
      · simp only [qUp]; omega
set_option maxHeartbeats 4000000 in
set_option maxRecDepth 100000 in
theorem c_ready30a {g : vGl} {d : Nat} {Q : Option Value → List mC → Prop} {σ : vSt} {f : Nat → Int} (hd : 1 ≤ d) (hR : YR σ) (h2 : 0 ≤ f 2) (h3 : f 2 < σ 10 6) (hQ : Q none (hp (vRow σ 30 (fRdy σ (f 2) f)))) : V g mX2_readyLowest d (0, 0, 0, 0) Q 0 [(0, .ref 30)] [] (hp (vRow σ 30 f)) := by
  obtain ⟨⟨r0, r1, r2, r3, r4, r5, r6, r7, r8, r9⟩, rE, rS, rT, rF⟩ := id hR
  have s1 := rS (f 2).toNat
  refine v_aload_n (pc := 0) dX2_readyLowest_0 rfl ?_
  refine v_gR (pc := 1) dX2_readyLowest_1 fl_X2_48 rfl ?_
  refine v_aload_n (pc := 4) dX2_readyLowest_4 rfl ?_
  refine v_gIv (pc := 5) (f 2) dX2_readyLowest_5 fl_X2_9 rfl rfl ?_
  refine v_cVi1 (pc := 8) (z := 0) (d' := d - 1) dX2_readyLowest_8 kX4_has ml_X2_69 iwX4_has swX4_has rfl rfl (Nat.le_of_ble_eq_true rfl) (Nat.le_of_ble_eq_true rfl) (by omega) ⟨Nat.le_refl _, Nat.le_refl _⟩ ?_
  refine c_X4_has1 (by exact hR) h2 h3 ?_
  refine ⟨_, rfl, ?_⟩
  refine v_istore_n (pc := 11) dX2_readyLowest_11 (by decide) ?_
  refine v_aload_n (pc := 12) dX2_readyLowest_12 rfl ?_
  refine v_iload_n (pc := 13) dX2_readyLowest_13 rfl ?_
  refine v_if_eq (pc := 14) 32 dX2_readyLowest_14 (by decide) (by omega) (fun h14 => by exfalso; omega) (fun h14 => ?_)
  refine v_aload_n (pc := 17) dX2_readyLowest_17 rfl ?_
  refine v_gR (pc := 18) dX2_readyLowest_18 fl_X2_48 rfl ?_
  refine v_gR (pc := 21) dX2_readyLowest_21 fl_X2_73 rfl ?_
  refine v_aload_n (pc := 24) dX2_readyLowest_24 rfl ?_
  refine v_gIv (pc := 25) (f 2) dX2_readyLowest_25 fl_X2_9 rfl rfl ?_
  refine v_aIv (pc := 28) (j := (f 2).toNat) (σ 13 (f 2).toNat) dX2_readyLowest_28 rfl rfl (by omega) (by omega) rfl ?_
  refine v_goto (pc := 29) 33 dX2_readyLowest_29 (by decide) ?_
  refine v_pI (pc := 33) dX2_readyLowest_33 fl_X2_15 rfl ?_
  refine v_aload_n (pc := 36) dX2_readyLowest_36 rfl ?_
  refine v_iload_n (pc := 37) dX2_readyLowest_37 rfl ?_
  refine v_if_eq (pc := 38) 56 dX2_readyLowest_38 (by decide) (by omega) (fun h38 => by exfalso; omega) (fun h38 => ?_)
  refine v_aload_n (pc := 41) dX2_readyLowest_41 rfl ?_
  refine v_gR (pc := 42) dX2_readyLowest_42 fl_X2_48 rfl ?_
  refine v_gR (pc := 45) dX2_readyLowest_45 fl_X2_77 rfl ?_
  refine v_aload_n (pc := 48) dX2_readyLowest_48 rfl ?_
  refine v_gIv (pc := 49) (f 2) dX2_readyLowest_49 fl_X2_9 rfl rfl ?_
  refine v_aIv (pc := 52) (j := (f 2).toNat) (σ 12 (f 2).toNat) dX2_readyLowest_52 rfl rfl (by omega) (by omega) rfl ?_
  refine v_goto (pc := 53) 57 dX2_readyLowest_53 (by decide) ?_
  refine v_pI (pc := 57) dX2_readyLowest_57 fl_X2_18 rfl ?_
  refine v_aload_n (pc := 60) dX2_readyLowest_60 rfl ?_
  refine v_iload_n (pc := 61) dX2_readyLowest_61 rfl ?_
  refine v_if_eq (pc := 62) 91 dX2_readyLowest_62 (by decide) (by omega) (fun h62 => by exfalso; omega) (fun h62 => ?_)
  refine v_aload_n (pc := 65) dX2_readyLowest_65 rfl ?_
  refine v_gR (pc := 66) dX2_readyLowest_66 fl_X2_48 rfl ?_
  refine v_gR (pc := 69) dX2_readyLowest_69 fl_X2_80 rfl ?_
  refine v_gR (pc := 72) dX2_readyLowest_72 fl_X2_84 rfl ?_
  refine v_aload_n (pc := 75) dX2_readyLowest_75 rfl ?_
  refine v_gR (pc := 76) dX2_readyLowest_76 fl_X2_48 rfl ?_
  refine v_gR (pc := 79) dX2_readyLowest_79 fl_X2_88 rfl ?_
  refine v_aload_n (pc := 82) dX2_readyLowest_82 rfl ?_
  refine v_gIv (pc := 83) (f 2) dX2_readyLowest_83 fl_X2_9 rfl rfl ?_
  refine v_aIv (pc := 86) (j := (f 2).toNat) (σ 11 (f 2).toNat) dX2_readyLowest_86 rfl rfl (by omega) (by omega) rfl ?_
  refine v_aIv (pc := 87) (j := (σ 11 (f 2).toNat).toNat) (σ 4 (σ 11 (f 2).toNat).toNat) dX2_readyLowest_87 rfl rfl (by omega) (by omega) rfl ?_
  refine v_goto (pc := 88) 92 dX2_readyLowest_88 (by decide) ?_
  refine v_pI (pc := 92) dX2_readyLowest_92 fl_X2_21 rfl ?_
  refine v_return (pc := 95) dX2_readyLowest_95 rfl ⟨Nat.le_refl _, Nat.le_refl _⟩ ?_
  rw [vRow_up, vRow_up, vRow_up]
  refine q_row hQ ?_
  funext j
  unfold fRdy qUp eTh
  rw [if_pos (show 0 ≤ f 2 ∧ f 2 < σ 10 6 from ⟨h2, h3⟩), if_pos (show 0 ≤ f 2 ∧ f 2 < σ 10 6 from ⟨h2, h3⟩), if_pos (show 0 ≤ f 2 ∧ f 2 < σ 10 6 from ⟨h2, h3⟩)]
  omega
set_option maxHeartbeats 4000000 in
set_option maxRecDepth 100000 in
theorem c_ready30b {g : vGl} {d : Nat} {Q : Option Value → List mC → Prop} {σ : vSt} {f : Nat → Int} (hd : 1 ≤ d) (hR : YR σ) (h2 : 0 ≤ f 2) (h3 : σ 10 6 ≤ f 2) (h4 : f 2 ≤ 10) (hQ : Q none (hp (vRow σ 30 (fRdy σ (f 2) f)))) : V g mX2_readyLowest d (0, 0, 0, 0) Q 0 [(0, .ref 30)] [] (hp (vRow σ 30 f)) := by
  obtain ⟨⟨r0, r1, r2, r3, r4, r5, r6, r7, r8, r9⟩, rE, rS, rT, rF⟩ := id hR
  refine v_aload_n (pc := 0) dX2_readyLowest_0 rfl ?_
  refine v_gR (pc := 1) dX2_readyLowest_1 fl_X2_48 rfl ?_
  refine v_aload_n (pc := 4) dX2_readyLowest_4 rfl ?_
  refine v_gIv (pc := 5) (f 2) dX2_readyLowest_5 fl_X2_9 rfl rfl ?_
  refine v_cVi1 (pc := 8) (z := 0) (d' := d - 1) dX2_readyLowest_8 kX4_has ml_X2_69 iwX4_has swX4_has rfl rfl (Nat.le_of_ble_eq_true rfl) (Nat.le_of_ble_eq_true rfl) (by omega) ⟨Nat.le_refl _, Nat.le_refl _⟩ ?_
  refine c_X4_has (by omega) (show vr (σ 10 6) by omega) ?_
  rw [if_neg (show ¬ (0 ≤ f 2 ∧ f 2 < vRow σ 30 f 10 6) from fun t => by have t2 : f 2 < σ 10 6 := t.2; omega)]
  refine ⟨_, rfl, ?_⟩
  refine v_istore_n (pc := 11) dX2_readyLowest_11 (by decide) ?_
  refine v_aload_n (pc := 12) dX2_readyLowest_12 rfl ?_
  refine v_iload_n (pc := 13) dX2_readyLowest_13 rfl ?_
  refine v_if_eq (pc := 14) 32 dX2_readyLowest_14 (by decide) (by omega) (fun h14 => ?_) (fun h14 => by exfalso; omega)
  refine v_iconst (pc := 32) (0) dX2_readyLowest_32 (by decide) ?_
  refine v_pI (pc := 33) dX2_readyLowest_33 fl_X2_15 rfl ?_
  refine v_aload_n (pc := 36) dX2_readyLowest_36 rfl ?_
  refine v_iload_n (pc := 37) dX2_readyLowest_37 rfl ?_
  refine v_if_eq (pc := 38) 56 dX2_readyLowest_38 (by decide) (by omega) (fun h38 => ?_) (fun h38 => by exfalso; omega)
  refine v_iconst (pc := 56) (0) dX2_readyLowest_56 (by decide) ?_
  refine v_pI (pc := 57) dX2_readyLowest_57 fl_X2_18 rfl ?_
  refine v_aload_n (pc := 60) dX2_readyLowest_60 rfl ?_
  refine v_iload_n (pc := 61) dX2_readyLowest_61 rfl ?_
  refine v_if_eq (pc := 62) 91 dX2_readyLowest_62 (by decide) (by omega) (fun h62 => ?_) (fun h62 => by exfalso; omega)
  refine v_iconst (pc := 91) (0) dX2_readyLowest_91 (by decide) ?_
  refine v_pI (pc := 92) dX2_readyLowest_92 fl_X2_21 rfl ?_
  refine v_return (pc := 95) dX2_readyLowest_95 rfl ⟨Nat.le_refl _, Nat.le_refl _⟩ ?_
  rw [vRow_up, vRow_up, vRow_up]
  refine q_row hQ ?_
  funext j
  unfold fRdy qUp eTh
  rw [if_neg (show ¬ (0 ≤ f 2 ∧ f 2 < σ 10 6) by omega), if_neg (show ¬ (0 ≤ f 2 ∧ f 2 < σ 10 6) by omega), if_neg (show ¬ (0 ≤ f 2 ∧ f 2 < σ 10 6) by omega)]
  omega
theorem c_ready30 {g : vGl} {d : Nat} {Q : Option Value → List mC → Prop} {σ : vSt} {f : Nat → Int} (hd : 1 ≤ d) (hR : YR σ) (h2 : 0 ≤ f 2) (h4 : f 2 ≤ 10) (hQ : Q none (hp (vRow σ 30 (fRdy σ (f 2) f)))) : V g mX2_readyLowest d (0, 0, 0, 0) Q 0 [(0, .ref 30)] [] (hp (vRow σ 30 f)) := by
  by_cases q : f 2 < σ 10 6
  · exact c_ready30a hd hR h2 q hQ
  · exact c_ready30b hd hR h2 (by omega) h4 hQ
set_option maxHeartbeats 4000000 in
set_option maxRecDepth 100000 in
theorem c_drop30 {g : vGl} {d : Nat} {Q : Option Value → List mC → Prop} {σ : vSt} {f : Nat → Int} (hd : 3 ≤ d) (hR : YR σ) (h2 : 0 ≤ f 2) (h3 : f 2 < σ 10 6) (hQ : Q none (hp (vRow σ 30 (fD σ f)))) : V g mX2_dropLowest d (0, 0, 0, 0) Q 0 [(0, .ref 30)] [] (hp (vRow σ 30 f)) := by
  obtain ⟨⟨r0, r1, r2, r3, r4, r5, r6, r7, r8, r9⟩, rE, rS, rT, rF⟩ := id hR
  refine v_aload_n (pc := 0) dX2_dropLowest_0 rfl ?_
  refine v_dup (pc := 1) dX2_dropLowest_1 rfl ?_
  refine v_gIv (pc := 2) (f 6) dX2_dropLowest_2 fl_X2_24 rfl rfl ?_
  refine v_aload_n (pc := 5) dX2_dropLowest_5 rfl ?_
  refine v_gR (pc := 6) dX2_dropLowest_6 fl_X2_48 rfl ?_
  refine v_aload_n (pc := 9) dX2_dropLowest_9 rfl ?_
  refine v_gIv (pc := 10) (f 2) dX2_dropLowest_10 fl_X2_9 rfl rfl ?_
  refine v_cVi1 (pc := 13) (z := 0) (d' := d - 1) dX2_dropLowest_13 kX4_dryOf ml_X2_91 iwX4_dryOf swX4_dryOf rfl rfl (Nat.le_of_ble_eq_true rfl) (Nat.le_of_ble_eq_true rfl) (by omega) ⟨Nat.le_refl _, Nat.le_refl _⟩ ?_
  refine c_X4_dryOf (k := (f 2).toNat) (by omega) (by exact hR) (by omega) (show ((f 2).toNat : Int) < σ 10 6 by omega) ?_
  refine ⟨_, rfl, ?_⟩
  refine v_aload_n (pc := 16) dX2_dropLowest_16 rfl ?_
  refine v_gIv (pc := 17) (f 3) dX2_dropLowest_17 fl_X2_15 rfl rfl ?_
  refine v_iadd (pc := 20) dX2_dropLowest_20 ?_
  refine v_isub (pc := 21) dX2_dropLowest_21 ?_
  refine v_pI (pc := 22) dX2_dropLowest_22 fl_X2_24 rfl ?_
  refine v_aload_n (pc := 25) dX2_dropLowest_25 rfl ?_
  refine v_dup (pc := 26) dX2_dropLowest_26 rfl ?_
  refine v_gIv (pc := 27) (f 7) dX2_dropLowest_27 fl_X2_27 rfl rfl ?_
  refine v_aload_n (pc := 30) dX2_dropLowest_30 rfl ?_
  refine v_gIv (pc := 31) (f 3) dX2_dropLowest_31 fl_X2_15 rfl rfl ?_
  refine v_isub (pc := 34) dX2_dropLowest_34 ?_
  refine v_pI (pc := 35) dX2_dropLowest_35 fl_X2_27 rfl ?_
  refine v_aload_n (pc := 38) dX2_dropLowest_38 rfl ?_
  refine v_dup (pc := 39) dX2_dropLowest_39 rfl ?_
  refine v_gIv (pc := 40) (f 2) dX2_dropLowest_40 fl_X2_9 rfl rfl ?_
  refine v_iconst (pc := 43) (1) dX2_dropLowest_43 (by decide) ?_
  refine v_iadd (pc := 44) dX2_dropLowest_44 ?_
  refine v_pI (pc := 45) dX2_dropLowest_45 fl_X2_9 rfl ?_
  refine v_aload_n (pc := 48) dX2_dropLowest_48 rfl ?_
  refine v_cVv0 (pc := 49) (z := 0) (d' := d - 1) dX2_dropLowest_49 kX2_readyLowest ml_X2_66 iwX2_readyLowest swX2_readyLowest rfl rfl (Nat.le_of_ble_eq_true rfl) (Nat.le_of_ble_eq_true rfl) (by omega) ⟨Nat.le_refl _, Nat.le_refl _⟩ ?_
  rw [vRow_up, vRow_up, vRow_up]
  refine c_ready30 (by omega) hR (show 0 ≤ f 2 + 1 by omega) (show f 2 + 1 ≤ 10 by omega) ?_
  refine ⟨rfl, ?_⟩
  refine v_return (pc := 52) dX2_dropLowest_52 rfl ⟨Nat.le_refl _, Nat.le_refl _⟩ ?_
  refine q_row hQ ?_
  show fRdy σ (f 2 + 1) _ = fRdy σ (f 2 + 1) _
  congr 1
  funext j
  unfold qUp
  show (if j = 2 then f 2 + 1 else if j = 7 then f 7 - f 3 else if j = 6 then f 6 - (yDry σ (f 2).toNat + f 3) else f j) = _
  omega
set_option maxHeartbeats 4000000 in
set_option maxRecDepth 100000 in
theorem c_goesOn30 {g : vGl} {d : Nat} {Q : Option Value → List mC → Prop} {σ : vSt} {f : Nat → Int} (h7 : vr (f 7)) (h8 : vr (f 8)) (hQ : Q (some (vi (if 0 < f 7 ∧ f 8 < 2000 then 1 else 0))) (hp (vRow σ 30 f))) : V g mX2_goesOn d (0, 0, 0, 0) Q 0 [(0, .ref 30)] [] (hp (vRow σ 30 f)) := by
  refine v_aload_n (pc := 0) dX2_goesOn_0 rfl ?_
  refine v_gIv (pc := 1) (f 7) dX2_goesOn_1 fl_X2_27 rfl rfl ?_
  refine v_if_le (pc := 4) 21 dX2_goesOn_4 (by decide) (by omega) (fun h4 => ?_) (fun h4 => ?_)
  · refine v_iconst (pc := 21) (0) dX2_goesOn_21 (by decide) ?_
    refine v_ireturn (pc := 22) dX2_goesOn_22 rfl (vZ (by omega)) ⟨Nat.le_refl _, Nat.le_refl _⟩ ?_
    first | (rw [if_pos (by omega)] at hQ; exact hQ) | (rw [if_neg (by omega)] at hQ; exact hQ)
  · refine v_aload_n (pc := 7) dX2_goesOn_7 rfl ?_
    refine v_gIv (pc := 8) (f 8) dX2_goesOn_8 fl_X2_30 rfl rfl ?_
    refine v_sipush (pc := 11) (2000) dX2_goesOn_11 (by decide) ?_
    refine v_icmp_ge (pc := 14) 21 dX2_goesOn_14 (by decide) (by omega) (by omega) (fun h14 => ?_) (fun h14 => ?_)
    · refine v_iconst (pc := 21) (0) dX2_goesOn_21 (by decide) ?_
      refine v_ireturn (pc := 22) dX2_goesOn_22 rfl (vZ (by omega)) ⟨Nat.le_refl _, Nat.le_refl _⟩ ?_
      first | (rw [if_pos (by omega)] at hQ; exact hQ) | (rw [if_neg (by omega)] at hQ; exact hQ)
    · refine v_iconst (pc := 17) (1) dX2_goesOn_17 (by decide) ?_
      refine v_goto (pc := 18) 22 dX2_goesOn_18 (by decide) ?_
      refine v_ireturn (pc := 22) dX2_goesOn_22 rfl (vZ (by omega)) ⟨Nat.le_refl _, Nat.le_refl _⟩ ?_
      first | (rw [if_pos (by omega)] at hQ; exact hQ) | (rw [if_neg (by omega)] at hQ; exact hQ)
set_option maxHeartbeats 4000000 in
set_option maxRecDepth 100000 in
theorem c_break30 {g : vGl} {d : Nat} {Q : Option Value → List mC → Prop} {σ : vSt} {f : Nat → Int} (hS : WS σ) (h9 : vr (f 9)) (h10 : vr (f 10)) (h13 : vr (f 13)) (hQ : Q (some (vi (fBk σ f))) (hp (vRow σ 30 f))) : V g mX2_breakNow d (0, 0, 0, 0) Q 0 [(0, .ref 30)] [] (hp (vRow σ 30 f)) := by
  have s1 := hS 1
  have s2 := hS 2
  unfold fBk at hQ
  refine v_aload_n (pc := 0) dX2_breakNow_0 rfl ?_
  refine v_gIv (pc := 1) (f 13) dX2_breakNow_1 fl_X2_45 rfl rfl ?_
  refine v_iconst (pc := 4) (-1) dX2_breakNow_4 (by decide) ?_
  refine v_icmp_eq (pc := 5) 10 dX2_breakNow_5 (by decide) (by omega) (by omega) (fun h5 => ?_) (fun h5 => ?_)
  · refine v_aload_n (pc := 10) dX2_breakNow_10 rfl ?_
    refine v_gIv (pc := 11) (f 9) dX2_breakNow_11 fl_X2_33 rfl rfl ?_
    refine v_aload_n (pc := 14) dX2_breakNow_14 rfl ?_
    refine v_gR (pc := 15) dX2_breakNow_15 fl_X2_52 rfl ?_
    refine v_gR (pc := 18) dX2_breakNow_18 fl_X2_125 rfl ?_
    refine v_iconst (pc := 21) (1) dX2_breakNow_21 (by decide) ?_
    refine v_aIv (pc := 22) (j := 1) (σ 27 1) dX2_breakNow_22 rfl rfl (by omega) (by omega) rfl ?_
    refine v_icmp_ge (pc := 23) 28 dX2_breakNow_23 (by decide) (by omega) (by omega) (fun h23 => ?_) (fun h23 => ?_)
    · refine v_aload_n (pc := 28) dX2_breakNow_28 rfl ?_
      refine v_gIv (pc := 29) (f 10) dX2_breakNow_29 fl_X2_36 rfl rfl ?_
      refine v_aload_n (pc := 32) dX2_breakNow_32 rfl ?_
      refine v_gR (pc := 33) dX2_breakNow_33 fl_X2_52 rfl ?_
      refine v_gR (pc := 36) dX2_breakNow_36 fl_X2_125 rfl ?_
      refine v_iconst (pc := 39) (2) dX2_breakNow_39 (by decide) ?_
      refine v_aIv (pc := 40) (j := 2) (σ 27 2) dX2_breakNow_40 rfl rfl (by omega) (by omega) rfl ?_
      refine v_icmp_ge (pc := 41) 48 dX2_breakNow_41 (by decide) (by omega) (by omega) (fun h41 => ?_) (fun h41 => ?_)
      · refine v_iconst (pc := 48) (0) dX2_breakNow_48 (by decide) ?_
        refine v_ireturn (pc := 49) dX2_breakNow_49 rfl rfl ⟨Nat.le_refl _, Nat.le_refl _⟩ ?_
        first | (rw [if_pos (by omega)] at hQ; exact hQ) | (rw [if_neg (by omega), if_pos (by omega)] at hQ; exact hQ) | (rw [if_neg (by omega), if_neg (by omega), if_pos (by omega)] at hQ; exact hQ) | (rw [if_neg (by omega), if_neg (by omega), if_neg (by omega)] at hQ; exact hQ)
      · refine v_iconst (pc := 44) (3) dX2_breakNow_44 (by decide) ?_
        refine v_goto (pc := 45) 49 dX2_breakNow_45 (by decide) ?_
        refine v_ireturn (pc := 49) dX2_breakNow_49 rfl rfl ⟨Nat.le_refl _, Nat.le_refl _⟩ ?_
        first | (rw [if_pos (by omega)] at hQ; exact hQ) | (rw [if_neg (by omega), if_pos (by omega)] at hQ; exact hQ) | (rw [if_neg (by omega), if_neg (by omega), if_pos (by omega)] at hQ; exact hQ) | (rw [if_neg (by omega), if_neg (by omega), if_neg (by omega)] at hQ; exact hQ)
    · refine v_iconst (pc := 26) (2) dX2_breakNow_26 (by decide) ?_
      refine v_ireturn (pc := 27) dX2_breakNow_27 rfl rfl ⟨Nat.le_refl _, Nat.le_refl _⟩ ?_
      first | (rw [if_pos (by omega)] at hQ; exact hQ) | (rw [if_neg (by omega), if_pos (by omega)] at hQ; exact hQ) | (rw [if_neg (by omega), if_neg (by omega), if_pos (by omega)] at hQ; exact hQ) | (rw [if_neg (by omega), if_neg (by omega), if_neg (by omega)] at hQ; exact hQ)
  · refine v_iconst (pc := 8) (1) dX2_breakNow_8 (by decide) ?_
    refine v_ireturn (pc := 9) dX2_breakNow_9 rfl rfl ⟨Nat.le_refl _, Nat.le_refl _⟩ ?_
    first | (rw [if_pos (by omega)] at hQ; exact hQ) | (rw [if_neg (by omega), if_pos (by omega)] at hQ; exact hQ) | (rw [if_neg (by omega), if_neg (by omega), if_pos (by omega)] at hQ; exact hQ) | (rw [if_neg (by omega), if_neg (by omega), if_neg (by omega)] at hQ; exact hQ)
set_option maxHeartbeats 4000000 in
set_option maxRecDepth 100000 in
theorem l_burnX30 {g : vGl} {d : Nat} {Q : Option Value → List mC → Prop} {σ : vSt} {o f : Nat → Int} {U hs : Int} (ho : fOb o f) (hQ : Q none (hp (vRow σ 30 f))) : V g mX2_burnLowest d (0, 0, 0, 0) Q 204 [(0, .ref 30), (1, vi U), (2, vi hs), (3, vi (f 9)), (4, vi (f 10)), (5, vi (f 6)), (6, vi (f 3)), (7, vi (f 8))] [] (hp (vRow σ 30 o)) := by
  refine v_aload_n (pc := 204) dX2_burnLowest_204 rfl ?_
  refine v_iload_n (pc := 205) dX2_burnLowest_205 rfl ?_
  refine v_pI (pc := 206) dX2_burnLowest_206 fl_X2_33 rfl ?_
  refine v_aload_n (pc := 209) dX2_burnLowest_209 rfl ?_
  refine v_iload (pc := 210) dX2_burnLowest_210 rfl ?_
  refine v_pI (pc := 212) dX2_burnLowest_212 fl_X2_36 rfl ?_
  refine v_aload_n (pc := 215) dX2_burnLowest_215 rfl ?_
  refine v_iload (pc := 216) dX2_burnLowest_216 rfl ?_
  refine v_pI (pc := 218) dX2_burnLowest_218 fl_X2_24 rfl ?_
  refine v_aload_n (pc := 221) dX2_burnLowest_221 rfl ?_
  refine v_dup (pc := 222) dX2_burnLowest_222 rfl ?_
  refine v_gIv (pc := 223) (o 7) dX2_burnLowest_223 fl_X2_27 rfl rfl ?_
  refine v_aload_n (pc := 226) dX2_burnLowest_226 rfl ?_
  refine v_gIv (pc := 227) (o 3) dX2_burnLowest_227 fl_X2_15 rfl rfl ?_
  refine v_iload (pc := 230) dX2_burnLowest_230 rfl ?_
  refine v_isub (pc := 232) dX2_burnLowest_232 ?_
  refine v_isub (pc := 233) dX2_burnLowest_233 ?_
  refine v_pI (pc := 234) dX2_burnLowest_234 fl_X2_27 rfl ?_
  refine v_aload_n (pc := 237) dX2_burnLowest_237 rfl ?_
  refine v_iload (pc := 238) dX2_burnLowest_238 rfl ?_
  refine v_pI (pc := 240) dX2_burnLowest_240 fl_X2_15 rfl ?_
  refine v_aload_n (pc := 243) dX2_burnLowest_243 rfl ?_
  refine v_iload (pc := 244) dX2_burnLowest_244 rfl ?_
  refine v_pI (pc := 246) dX2_burnLowest_246 fl_X2_30 rfl ?_
  refine v_return (pc := 249) dX2_burnLowest_249 rfl ⟨Nat.le_refl _, Nat.le_refl _⟩ ?_
  rw [vRow_up, vRow_up, vRow_up, vRow_up, vRow_up, vRow_up]
  refine q_row hQ ?_
  have e7 := ho.2
  funext j
  simp only [qUp]
  by_cases k3 : j = 3
  · subst k3; omega
  by_cases k6 : j = 6
  · subst k6; omega
  by_cases k7 : j = 7
  · subst k7; omega
  by_cases k8 : j = 8
  · subst k8; omega
  by_cases k9 : j = 9
  · subst k9; omega
  by_cases k10 : j = 10
  · subst k10; omega
  have := ho.1 j k3 k6 k7 k8 k9 k10
  omega
set_option maxHeartbeats 4000000 in
set_option maxRecDepth 100000 in
theorem l_burn430 {g : vGl} {d : Nat} {Q : Option Value → List mC → Prop} {σ : vSt} {o f : Nat → Int} {U hs : Int} (hh : hs = 0 ∨ hs = 1) (ho : fOb o (fB σ f)) (h13 : vr (fB σ f 13)) (hX : (hs = 1 ∧ ¬ fB σ f 13 = -1) → V g mX2_burnLowest d (0, 0, 0, 0) Q 204 [(0, .ref 30), (1, vi U), (2, vi hs), (3, vi (fB σ f 9)), (4, vi (fB σ f 10)), (5, vi (fB σ f 6)), (6, vi (fB σ f 3)), (7, vi (fB σ f 8))] [] (hp (vRow σ 30 o))) (hL : ¬ (hs = 1 ∧ ¬ fB σ f 13 = -1) → V g mX2_burnLowest d (0, 0, 0, 0) Q 29 [(0, .ref 30), (1, vi U), (2, vi hs), (3, vi (fB σ f 9)), (4, vi (fB σ f 10)), (5, vi (fB σ f 6)), (6, vi (fB σ f 3)), (7, vi (fB σ f 8))] [] (hp (vRow σ 30 o))) : V g mX2_burnLowest d (0, 0, 0, 0) Q 169 [(0, .ref 30), (1, vi U), (2, vi hs), (3, vi (fB σ f 9)), (4, vi (fB σ f 10)), (5, vi (f 6)), (6, vi (f 3)), (7, vi (f 8)), (8, vi (fBu f))] [] (hp (vRow σ 30 o)) := by
  refine v_iload (pc := 169) dX2_burnLowest_169 rfl ?_
  refine v_iload (pc := 171) dX2_burnLowest_171 rfl ?_
  refine v_isub (pc := 173) dX2_burnLowest_173 ?_
  refine v_istore (pc := 174) dX2_burnLowest_174 (by decide) ?_
  refine v_iload (pc := 176) dX2_burnLowest_176 rfl ?_
  refine v_iload (pc := 178) dX2_burnLowest_178 rfl ?_
  refine v_isub (pc := 180) dX2_burnLowest_180 ?_
  refine v_istore (pc := 181) dX2_burnLowest_181 (by decide) ?_
  refine v_iinc (pc := 183) (1) dX2_burnLowest_183 rfl (by decide) (by decide) ?_
  refine v_iload_n (pc := 186) dX2_burnLowest_186 rfl ?_
  refine v_if_eq (pc := 187) 201 dX2_burnLowest_187 (by decide) (by omega) (fun h187 => ?_) (fun h187 => ?_)
  · refine v_goto (pc := 201) 29 dX2_burnLowest_201 (by decide) ?_
    exact v_lv (hL (by omega)) ⟨rfl, rfl, rfl, rfl, rfl, rfl, rfl, rfl, trivial⟩
  · refine v_aload_n (pc := 190) dX2_burnLowest_190 rfl ?_
    refine v_gIv (pc := 191) (fB σ f 13) dX2_burnLowest_191 fl_X2_45 rfl (ho.1 13 (by decide) (by decide) (by decide) (by decide) (by decide) (by decide)) ?_
    refine v_iconst (pc := 194) (-1) dX2_burnLowest_194 (by decide) ?_
    refine v_icmp_eq (pc := 195) 201 dX2_burnLowest_195 (by decide) (by omega) (by omega) (fun h195 => ?_) (fun h195 => ?_)
    · refine v_goto (pc := 201) 29 dX2_burnLowest_201 (by decide) ?_
      exact v_lv (hL (by omega)) ⟨rfl, rfl, rfl, rfl, rfl, rfl, rfl, rfl, trivial⟩
    · refine v_goto (pc := 198) 204 dX2_burnLowest_198 (by decide) ?_
      exact v_lv (hX (by omega)) ⟨rfl, rfl, rfl, rfl, rfl, rfl, rfl, rfl, trivial⟩
set_option maxHeartbeats 4000000 in
set_option maxRecDepth 100000 in
theorem l_burn330 {g : vGl} {d : Nat} {Q : Option Value → List mC → Prop} {σ : vSt} {o f : Nat → Int} {U hs : Int} (hd : 1 ≤ d) (h9 : 0 ≤ f 9 ∧ f 9 ≤ 200000000) (h10 : -100000 ≤ f 10 ∧ f 10 ≤ 100000) (h6 : 0 < f 6 ∧ f 6 ≤ 20000) (hpu : -2000000000 ≤ fPu σ f ∧ fPu σ f ≤ 2000000000) (K : V g mX2_burnLowest d (0, 0, 0, 0) Q 169 [(0, .ref 30), (1, vi U), (2, vi hs), (3, vi (fB σ f 9)), (4, vi (fB σ f 10)), (5, vi (f 6)), (6, vi (f 3)), (7, vi (f 8)), (8, vi (fBu f))] [] (hp (vRow σ 30 o))) : V g mX2_burnLowest d (0, 0, 0, 0) Q 135 [(0, .ref 30), (1, vi U), (2, vi hs), (3, vi (f 9)), (4, vi (f 10)), (5, vi (f 6)), (6, vi (f 3)), (7, vi (f 8)), (8, vi (fBu f))] [vi (fPu σ f), vi (f 10)] (hp (vRow σ 30 o)) := by
  refine v_iload (pc := 135) dX2_burnLowest_135 rfl ?_
  refine v_idiv (pc := 137) dX2_burnLowest_137 (by omega) (by omega) (by omega) ?_
  refine v_iadd (pc := 138) dX2_burnLowest_138 ?_
  refine v_istore (pc := 139) dX2_burnLowest_139 (by decide) ?_
  have hq : -2000000000 ≤ (fPu σ f).tdiv (f 6) ∧ (fPu σ f).tdiv (f 6) ≤ 2000000000 := tdiv_rng h6.1 hpu
  refine v_ldc (pc := 141) (-100000) dX2_burnLowest_141 kc_X2_120 ?_
  refine v_iload (pc := 143) dX2_burnLowest_143 rfl ?_
  refine v_ldc (pc := 145) (100000) dX2_burnLowest_145 kc_X2_121 ?_
  refine v_min (pc := 147) dX2_burnLowest_147 ml_X2_105 st_min it_Math co_min (by omega) (by omega) (Nat.le_of_ble_eq_true rfl) (by omega) ⟨Nat.le_refl _, Nat.le_refl _⟩ ?_
  refine v_max (pc := 150) dX2_burnLowest_150 ml_X2_122 st_max it_Math co_max (by omega) (by omega) (Nat.le_of_ble_eq_true rfl) (by omega) ⟨Nat.le_refl _, Nat.le_refl _⟩ ?_
  refine v_top (show max (-100000) (min (f 10 + (fPu σ f).tdiv (f 6)) 100000) = fPa σ f from rfl) ?_
  refine v_istore (pc := 153) dX2_burnLowest_153 (by decide) ?_
  have pa : -100000 ≤ fPa σ f ∧ fPa σ f ≤ 100000 := by unfold fPa; omega
  refine v_iload_n (pc := 155) dX2_burnLowest_155 rfl ?_
  refine v_iload (pc := 156) dX2_burnLowest_156 rfl ?_
  refine v_iadd (pc := 158) dX2_burnLowest_158 ?_
  refine v_istore_n (pc := 159) dX2_burnLowest_159 (by decide) ?_
  refine v_iload_n (pc := 160) dX2_burnLowest_160 rfl ?_
  refine v_if_ge (pc := 161) 169 dX2_burnLowest_161 (by decide) (by omega) (fun h161 => ?_) (fun h161 => ?_)
  · have e9 : fB σ f 9 = if f 9 + fPa σ f < 0 then 0 else f 9 + fPa σ f := rfl
    have e10 : fB σ f 10 = if f 9 + fPa σ f < 0 then 0 else fPa σ f := rfl
    first | (rw [if_pos (by omega)] at e9 e10) | (rw [if_neg (by omega)] at e9 e10)
    rw [e9, e10] at K
    exact v_lv K ⟨rfl, rfl, rfl, rfl, rfl, rfl, rfl, rfl, rfl, trivial⟩
  · refine v_iconst (pc := 164) (0) dX2_burnLowest_164 (by decide) ?_
    refine v_istore_n (pc := 165) dX2_burnLowest_165 (by decide) ?_
    refine v_iconst (pc := 166) (0) dX2_burnLowest_166 (by decide) ?_
    refine v_istore (pc := 167) dX2_burnLowest_167 (by decide) ?_
    have e9 : fB σ f 9 = if f 9 + fPa σ f < 0 then 0 else f 9 + fPa σ f := rfl
    have e10 : fB σ f 10 = if f 9 + fPa σ f < 0 then 0 else fPa σ f := rfl
    first | (rw [if_pos (by omega)] at e9 e10) | (rw [if_neg (by omega)] at e9 e10)
    rw [e9, e10] at K
    exact v_lv K ⟨rfl, rfl, rfl, rfl, rfl, rfl, rfl, rfl, rfl, trivial⟩
set_option maxHeartbeats 4000000 in
set_option maxRecDepth 100000 in
theorem l_burn230 {g : vGl} {d : Nat} {Q : Option Value → List mC → Prop} {σ : vSt} {o f : Nat → Int} {U hs : Int} (ho : fOb o (fB σ f)) (h10 : -100000 ≤ f 10 ∧ f 10 ≤ 100000) (K : V g mX2_burnLowest d (0, 0, 0, 0) Q 135 [(0, .ref 30), (1, vi U), (2, vi hs), (3, vi (f 9)), (4, vi (f 10)), (5, vi (f 6)), (6, vi (f 3)), (7, vi (f 8)), (8, vi (fBu f))] [vi (fPu σ f), vi (f 10)] (hp (vRow σ 30 o))) : V g mX2_burnLowest d (0, 0, 0, 0) Q 100 [(0, .ref 30), (1, vi U), (2, vi hs), (3, vi (f 9)), (4, vi (f 10)), (5, vi (f 6)), (6, vi (f 3)), (7, vi (f 8)), (8, vi (fBu f)), (9, vi (fDg σ f))] [] (hp (vRow σ 30 o)) := by
  refine v_bipush (pc := 100) (100) dX2_burnLowest_100 (by decide) ?_
  refine v_aload_n (pc := 102) dX2_burnLowest_102 rfl ?_
  refine v_gIv (pc := 103) (f 5) dX2_burnLowest_103 fl_X2_21 rfl (ho.1 5 (by decide) (by decide) (by decide) (by decide) (by decide) (by decide)) ?_
  refine v_iload (pc := 106) dX2_burnLowest_106 rfl ?_
  refine v_imul (pc := 108) dX2_burnLowest_108 ?_
  refine v_iload (pc := 109) dX2_burnLowest_109 rfl ?_
  refine v_isub (pc := 111) dX2_burnLowest_111 ?_
  refine v_imul (pc := 112) dX2_burnLowest_112 ?_
  refine v_istore (pc := 113) dX2_burnLowest_113 (by decide) ?_
  refine v_iload (pc := 115) dX2_burnLowest_115 rfl ?_
  refine v_iload (pc := 117) dX2_burnLowest_117 rfl ?_
  refine v_if_ge (pc := 119) 130 dX2_burnLowest_119 (by decide) (by omega) (fun h119 => ?_) (fun h119 => ?_)
  · refine v_iload (pc := 130) dX2_burnLowest_130 rfl ?_
    refine v_iload (pc := 132) dX2_burnLowest_132 rfl ?_
    refine v_isub (pc := 134) dX2_burnLowest_134 ?_
    have e0 : fPu σ f = if f 10 < 0 then 100 * (f 5 * fBu f - f 6) + fDg σ f else 100 * (f 5 * fBu f - f 6) - fDg σ f := rfl
    first | rw [if_pos (by omega)] at e0 | rw [if_neg (by omega)] at e0
    rw [e0] at K
    exact v_lv K ⟨rfl, rfl, rfl, rfl, rfl, rfl, rfl, rfl, rfl, trivial⟩
  · refine v_iload (pc := 122) dX2_burnLowest_122 rfl ?_
    refine v_iload (pc := 124) dX2_burnLowest_124 rfl ?_
    refine v_iadd (pc := 126) dX2_burnLowest_126 ?_
    refine v_goto (pc := 127) 135 dX2_burnLowest_127 (by decide) ?_
    have e0 : fPu σ f = if f 10 < 0 then 100 * (f 5 * fBu f - f 6) + fDg σ f else 100 * (f 5 * fBu f - f 6) - fDg σ f := rfl
    first | rw [if_pos (by omega)] at e0 | rw [if_neg (by omega)] at e0
    rw [e0] at K
    exact v_lv K ⟨rfl, rfl, rfl, rfl, rfl, rfl, rfl, rfl, rfl, trivial⟩
set_option maxHeartbeats 4000000 in
set_option maxRecDepth 100000 in
theorem l_burn30 {g : vGl} {d : Nat} {Q : Option Value → List mC → Prop} {σ : vSt} {U hs : Int} (hd : 2 ≤ d) (hR : YR σ) (hS : WS σ) (hU : 0 ≤ U ∧ U ≤ 2000) (hh : hs = 0 ∨ hs = 1) : ∀ (n : Nat) (f o : Nat → Int) (h3 : f 3 ≤ n) (w : WF σ f) (lt : f 2 < σ 10 6) (ho : fOb o f) (hQ : Q none (hp (vRow σ 30 (fBs σ U hs n f)))), V g mX2_burnLowest d (0, 0, 0, 0) Q 29 [(0, .ref 30), (1, vi U), (2, vi hs), (3, vi (f 9)), (4, vi (f 10)), (5, vi (f 6)), (6, vi (f 3)), (7, vi (f 8))] [] (hp (vRow σ 30 o)) := by
  intro n
  induction n with
  | zero =>
    intro f o h3 w lt ho hQ
    have rg := w.rng hR
    refine v_iload (pc := 29) dX2_burnLowest_29 rfl ?_
    refine v_if_le (pc := 31) 204 dX2_burnLowest_31 (by decide) (by omega) (fun h31 => ?_) (fun h31 => by exfalso; omega)
    refine v_lv (l_burnX30 ho ?_) ⟨rfl, rfl, rfl, rfl, rfl, rfl, rfl, rfl, trivial⟩
    exact hQ
  | succ n ih =>
    intro f o h3 w lt ho hQ
    have rg := w.rng hR
    by_cases q : 0 < f 3 ∧ f 8 < U
    · have e0 : fBs σ U hs (n + 1) f = if hs = 1 ∧ ¬ fB σ f 13 = -1 then fB σ f else fBs σ U hs n (fB σ f) := if_pos q
      rw [e0] at hQ
      have wb := WF_B hS w lt q.1 (by omega)
      have rb := wb.1.rng hR
      have o4 := ho.1 4 (by decide) (by decide) (by decide) (by decide) (by decide) (by decide)
      have o11 := ho.1 11 (by decide) (by decide) (by decide) (by decide) (by decide) (by decide)
      have o13 := ho.1 13 (by decide) (by decide) (by decide) (by decide) (by decide) (by decide)
      have dg : 0 ≤ fDg σ f ∧ fDg σ f ≤ 1000000000 := by
        have := drag_rng (ar := σ 26) (fun j => ⟨(hS j).1, (hS j).2.1⟩) (p := f 10) (h := f 9) (by omega) (by omega)
        exact ⟨this.1, this.2.1⟩
      have bu : 1 ≤ fBu f ∧ fBu f ≤ 9 := by unfold fBu; omega
      have th := mul_le (a := f 5) (b := fBu f) (A := 999) (B := 9) (by omega) (by omega) (by omega) (by omega)
      have pu : -2000000000 ≤ fPu σ f ∧ fPu σ f ≤ 2000000000 := by unfold fPu; omega
      refine v_iload (pc := 29) dX2_burnLowest_29 rfl ?_
      refine v_if_le (pc := 31) 204 dX2_burnLowest_31 (by decide) (by omega) (fun h31 => by exfalso; omega) (fun h31 => ?_)
      refine v_iload (pc := 34) dX2_burnLowest_34 rfl ?_
      refine v_iload_n (pc := 36) dX2_burnLowest_36 rfl ?_
      refine v_icmp_ge (pc := 37) 204 dX2_burnLowest_37 (by decide) (by omega) (by omega) (fun h37 => by exfalso; omega) (fun h37 => ?_)
      refine v_iload (pc := 40) dX2_burnLowest_40 rfl ?_
      refine v_sipush (pc := 42) (2000) dX2_burnLowest_42 (by decide) ?_
      refine v_icmp_ge (pc := 45) 204 dX2_burnLowest_45 (by decide) (by omega) (by omega) (fun h45 => by exfalso; omega) (fun h45 => ?_)
      refine v_iload (pc := 48) dX2_burnLowest_48 rfl ?_
      refine v_if_le (pc := 50) 204 dX2_burnLowest_50 (by decide) (by omega) (fun h50 => by exfalso; omega) (fun h50 => ?_)
      refine v_aload_n (pc := 53) dX2_burnLowest_53 rfl ?_
      refine v_gIv (pc := 54) (f 4) dX2_burnLowest_54 fl_X2_18 rfl o4 ?_
      refine v_if_le (pc := 57) 204 dX2_burnLowest_57 (by decide) (by omega) (fun h57 => by exfalso; omega) (fun h57 => ?_)
      refine v_iload (pc := 60) dX2_burnLowest_60 rfl ?_
      refine v_aload_n (pc := 62) dX2_burnLowest_62 rfl ?_
      refine v_gIv (pc := 63) (f 4) dX2_burnLowest_63 fl_X2_18 rfl o4 ?_
      refine v_min (pc := 66) dX2_burnLowest_66 ml_X2_105 st_min it_Math co_min (by omega) (by omega) (Nat.le_of_ble_eq_true rfl) (by omega) ⟨Nat.le_refl _, Nat.le_refl _⟩ ?_
      refine v_top (show min (f 3) (f 4) = fBu f from rfl) ?_
      refine v_istore (pc := 69) dX2_burnLowest_69 (by decide) ?_
      refine v_aload_n (pc := 71) dX2_burnLowest_71 rfl ?_
      refine v_gR (pc := 72) dX2_burnLowest_72 fl_X2_52 rfl ?_
      refine v_iload (pc := 75) dX2_burnLowest_75 rfl ?_
      refine v_iload_n (pc := 77) dX2_burnLowest_77 rfl ?_
      refine v_cVi2 (pc := 78) (z := 0) (d' := d - 1) dX2_burnLowest_78 kX5_dragOf ml_X2_111 iwX5_dragOf swX5_dragOf rfl rfl (Nat.le_of_ble_eq_true rfl) (Nat.le_of_ble_eq_true rfl) (by omega) ⟨Nat.le_refl _, Nat.le_refl _⟩ ?_
      refine c_X5_dragOf (by exact hS) (by omega) (by omega) ?_
      refine ⟨_, rfl, ?_⟩
      refine v_top (show fDrag (σ 26) (f 10) (f 9) = fDg σ f from rfl) ?_
      refine v_istore (pc := 81) dX2_burnLowest_81 (by decide) ?_
      refine v_iload (pc := 83) dX2_burnLowest_83 rfl ?_
      refine v_aload_n (pc := 85) dX2_burnLowest_85 rfl ?_
      refine v_gIv (pc := 86) (f 11) dX2_burnLowest_86 fl_X2_39 rfl o11 ?_
      refine v_icmp_le (pc := 89) 100 dX2_burnLowest_89 (by decide) (by omega) (by omega) (fun h89 => ?_) (fun h89 => ?_)
      · refine v_lv (l_burn230 (f := f) (by first | exact fOb_a28 ho (by omega) | exact fOb_b28 ho (by omega)) (by omega) (l_burn330 (by omega) (by omega) (by omega) (by omega) (by omega) (l_burn430 hh (by first | exact fOb_a28 ho (by omega) | exact fOb_b28 ho (by omega)) (by omega) (fun q => ?_) (fun q => ?_)))) ⟨rfl, rfl, rfl, rfl, rfl, rfl, rfl, rfl, rfl, rfl, trivial⟩
        · rw [if_pos q] at hQ
          exact l_burnX30 (by first | exact fOb_a28 ho (by omega) | exact fOb_b28 ho (by omega)) hQ
        · rw [if_neg q] at hQ
          exact ih (fB σ f) _ (by omega) wb.1 (by omega) (by first | exact fOb_a28 ho (by omega) | exact fOb_b28 ho (by omega)) hQ
      · refine v_aload_n (pc := 92) dX2_burnLowest_92 rfl ?_
        refine v_iload (pc := 93) dX2_burnLowest_93 rfl ?_
        refine v_iload (pc := 95) dX2_burnLowest_95 rfl ?_
        refine v_cVv2 (pc := 97) (z := 0) (d' := d - 1) dX2_burnLowest_97 kX2_noteLoading ml_X2_116 iwX2_noteLoading swX2_noteLoading rfl rfl (Nat.le_of_ble_eq_true rfl) (Nat.le_of_ble_eq_true rfl) (by omega) ⟨Nat.le_refl _, Nat.le_refl _⟩ ?_
        refine c_noteLoading30 hS (by rw [o13]; omega) (by omega) ?_
        refine ⟨rfl, ?_⟩
        refine v_lv (l_burn230 (f := f) (by first | exact fOb_a28 ho (by omega) | exact fOb_b28 ho (by omega)) (by omega) (l_burn330 (by omega) (by omega) (by omega) (by omega) (by omega) (l_burn430 hh (by first | exact fOb_a28 ho (by omega) | exact fOb_b28 ho (by omega)) (by omega) (fun q => ?_) (fun q => ?_)))) ⟨rfl, rfl, rfl, rfl, rfl, rfl, rfl, rfl, rfl, rfl, trivial⟩
        · rw [if_pos q] at hQ
          exact l_burnX30 (by first | exact fOb_a28 ho (by omega) | exact fOb_b28 ho (by omega)) hQ
        · rw [if_neg q] at hQ
          exact ih (fB σ f) _ (by omega) wb.1 (by omega) (by first | exact fOb_a28 ho (by omega) | exact fOb_b28 ho (by omega)) hQ
    · rw [fBs_stop q] at hQ
      refine v_iload (pc := 29) dX2_burnLowest_29 rfl ?_
      refine v_if_le (pc := 31) 204 dX2_burnLowest_31 (by decide) (by omega) (fun h31 => ?_) (fun h31 => ?_)
      · refine v_lv (l_burnX30 ho ?_) ⟨rfl, rfl, rfl, rfl, rfl, rfl, rfl, rfl, trivial⟩
        exact hQ
      · refine v_iload (pc := 34) dX2_burnLowest_34 rfl ?_
        refine v_iload_n (pc := 36) dX2_burnLowest_36 rfl ?_
        refine v_icmp_ge (pc := 37) 204 dX2_burnLowest_37 (by decide) (by omega) (by omega) (fun h37 => ?_) (fun h37 => ?_)
        · refine v_lv (l_burnX30 ho ?_) ⟨rfl, rfl, rfl, rfl, rfl, rfl, rfl, rfl, trivial⟩
          exact hQ
        · refine v_iload (pc := 40) dX2_burnLowest_40 rfl ?_
          refine v_sipush (pc := 42) (2000) dX2_burnLowest_42 (by decide) ?_
          refine v_icmp_ge (pc := 45) 204 dX2_burnLowest_45 (by decide) (by omega) (by omega) (fun h45 => by exfalso; omega) (fun h45 => ?_)
          refine v_iload (pc := 48) dX2_burnLowest_48 rfl ?_
          refine v_if_le (pc := 50) 204 dX2_burnLowest_50 (by decide) (by omega) (fun h50 => by exfalso; omega) (fun h50 => ?_)
          refine v_aload_n (pc := 53) dX2_burnLowest_53 rfl ?_
          refine v_gI (pc := 54) dX2_burnLowest_54 fl_X2_18 rfl ?_
          refine v_if_le (pc := 57) 204 dX2_burnLowest_57 (by decide) (by omega) (fun h57 => by exfalso; omega) (fun h57 => ?_)
          exfalso; omega
set_option maxHeartbeats 4000000 in
set_option maxRecDepth 100000 in
theorem c_burn30 {g : vGl} {d : Nat} {Q : Option Value → List mC → Prop} {σ : vSt} {f : Nat → Int} {U hs : Int} (hd : 2 ≤ d) (hR : YR σ) (hS : WS σ) (hU : 0 ≤ U ∧ U ≤ 2000) (hh : hs = 0 ∨ hs = 1) (w : WF σ f) (lt : f 2 < σ 10 6) (hQ : Q none (hp (vRow σ 30 (fBs σ U hs (f 3).toNat f)))) : V g mX2_burnLowest d (0, 0, 0, 0) Q 0 [(0, .ref 30), (1, vi U), (2, vi hs)] [] (hp (vRow σ 30 f)) := by
  refine v_aload_n (pc := 0) dX2_burnLowest_0 rfl ?_
  refine v_gIv (pc := 1) (f 9) dX2_burnLowest_1 fl_X2_33 rfl rfl ?_
  refine v_istore_n (pc := 4) dX2_burnLowest_4 (by decide) ?_
  refine v_aload_n (pc := 5) dX2_burnLowest_5 rfl ?_
  refine v_gIv (pc := 6) (f 10) dX2_burnLowest_6 fl_X2_36 rfl rfl ?_
  refine v_istore (pc := 9) dX2_burnLowest_9 (by decide) ?_
  refine v_aload_n (pc := 11) dX2_burnLowest_11 rfl ?_
  refine v_gIv (pc := 12) (f 6) dX2_burnLowest_12 fl_X2_24 rfl rfl ?_
  refine v_istore (pc := 15) dX2_burnLowest_15 (by decide) ?_
  refine v_aload_n (pc := 17) dX2_burnLowest_17 rfl ?_
  refine v_gIv (pc := 18) (f 3) dX2_burnLowest_18 fl_X2_15 rfl rfl ?_
  refine v_istore (pc := 21) dX2_burnLowest_21 (by decide) ?_
  refine v_aload_n (pc := 23) dX2_burnLowest_23 rfl ?_
  refine v_gIv (pc := 24) (f 8) dX2_burnLowest_24 fl_X2_30 rfl rfl ?_
  refine v_istore (pc := 27) dX2_burnLowest_27 (by decide) ?_
  exact v_lv (l_burn30 hd hR hS hU hh (f 3).toNat f f (by omega) w lt ⟨fun _ _ _ _ _ _ _ => rfl, rfl⟩ hQ) ⟨rfl, rfl, rfl, rfl, rfl, rfl, rfl, rfl, trivial⟩
