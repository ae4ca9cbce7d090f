/-! the reference's split -/
def nS (σ : vSt) (y kp x b : Nat → Int) : vSt := vRow (vRow (vRow (vRow σ 47 y) 51 kp) 52 x) 53 b
theorem nS_47 (σ : vSt) (y kp x b : Nat → Int) (k : Nat) (z : Int) : vU (nS σ y kp x b) 47 k z = nS σ (qUp y k z) kp x b := by
  unfold nS
  rw [vU_row_o (by decide), vU_row_o (by decide), vU_row_o (by decide), vRow_up]
theorem nS_51 (σ : vSt) (y kp x b : Nat → Int) (k : Nat) (z : Int) : vU (nS σ y kp x b) 51 k z = nS σ y (qUp kp k z) x b := by
  unfold nS
  rw [vU_row_o (by decide), vU_row_o (by decide), vRow_up]
theorem nS_52 (σ : vSt) (y kp x b : Nat → Int) (k : Nat) (z : Int) : vU (nS σ y kp x b) 52 k z = nS σ y kp (qUp x k z) b := by
  unfold nS
  rw [vU_row_o (by decide), vRow_up]
theorem nS_53 (σ : vSt) (y kp x b : Nat → Int) (k : Nat) (z : Int) : vU (nS σ y kp x b) 53 k z = nS σ y kp x (qUp b k z) := by
  unfold nS
  rw [vRow_up]
theorem nS_self (σ : vSt) : nS σ (σ 47) (σ 51) (σ 52) (σ 53) = σ := by
  unfold nS
  rw [vRow_self]
  have a : ∀ f : Nat → Int, (vRow σ 51 f) 52 = σ 52 := fun f => rfl
  rw [vRow_self]
  have h53 : vRow σ 53 (σ 53) = σ := vRow_self σ 53
  have h52 : vRow σ 52 (σ 52) = σ := vRow_self σ 52
  have h51 : vRow σ 51 (σ 51) = σ := vRow_self σ 51
  rw [h52, h53]
theorem sLow_m {σ : vSt} {y kp x b : Nat → Int} {z : Int} (hm : IM σ) (hy : ∀ j, j < sN σ → y j = x j * z) (k : Nat) (hk : k < sN σ) : yLow (mY (nS σ y kp x b)) k = sGa σ z x k := by
  obtain ⟨⟨a1, a2, a3, a4, a5⟩, ⟨b1, b2, b3, b4, b5, b6⟩, c1, c2, c3, c4⟩ := hm
  rw [← sYlow]
  have m1 : yMass (mY (nS σ y kp x b)) k = yMass (sY σ z x) k := by
    show qMass (σ 38 14) (σ 38 15) (σ 41) (σ 45) (σ 46) y (σ 48) (σ 38 13).toNat k = qMass (σ 2 0) (σ 2 1) (σ 6) (σ 11) (σ 12) (fun j => x j * z) (σ 14) (σ 10 6).toNat k
    rw [a3, a4, b3, c1, c2, c4, a2]
    unfold qMass
    have hsum := qSum_cong (f := fun j => qDry (σ 2 1) (σ 6) (σ 11) (σ 12) y (σ 14) j + y j) (g := fun j => qDry (σ 2 1) (σ 6) (σ 11) (σ 12) (fun j => x j * z) (σ 14) j + x j * z) ((σ 10 6).toNat - k) k (fun i h1 h2 => by
      have hi : i < sN σ := by show i < (σ 10 6).toNat; omega
      unfold qDry
      rw [hy i hi])
    rw [hsum]
  unfold yLow
  rw [m1]
  show qLow (1000 * σ 40 (σ 45 k).toNat) (y k).toNat _ = qLow (1000 * σ 5 (σ 11 k).toNat) (x k * z).toNat _
  rw [b2, c1, hy k hk]
theorem sGain_m {σ : vSt} {y kp x b : Nat → Int} {z : Int} (hm : IM σ) (hy : ∀ j, j < sN σ → y j = x j * z) : qSum (yGain (mY (nS σ y kp x b)) 0) (nS σ y kp x b 38 13).toNat 0 = sLo σ z 0 x := by
  have e1 : (nS σ y kp x b 38 13).toNat = sN σ - 0 := by
    show (σ 38 13).toNat = sN σ
    rw [hm.1.2.1]
  rw [e1]
  exact qSum_cong _ _ (fun i h1 h2 => by
    show (if (0 : Int) = 0 then yLow _ i else _) = _
    rw [if_pos rfl]
    exact sLow_m hm hy i (by omega))
theorem MR_nS {σ : vSt} {y kp x b : Nat → Int} (h : MR σ) (hy : ∀ j, 0 ≤ y j ∧ y j ≤ 600) : MR (nS σ y kp x b) := by
  obtain ⟨h1, h2, h3, h4, h5⟩ := h
  refine ⟨h1, h2, fun j => ?_, h4, h5⟩
  have a := h3 j
  have c := hy j
  exact ⟨a.1, a.2.1, a.2.2.1, a.2.2.2.1, c.1, c.2, a.2.2.2.2.2.2⟩
set_option maxHeartbeats 4000000 in
set_option maxRecDepth 100000 in
theorem l_next {g : vGl} {d : Nat} {Q : Option Value → List mC → Prop} {σ : vSt} {y kp b : Nat → Int} {n : Nat} (hn : σ 38 13 = n) (hn1 : 1 ≤ n) (hn4 : n ≤ 4)  : ∀ (m : Nat) (x : Nat → Int) (q : Int) (hq : q + 1 = m) (hm : m < n) (hx : ∀ j, j < n → 0 ≤ x j ∧ x j ≤ 20) (hN : qNx (n - 1) m x = none → ∀ w : Nat → Int, Q (some (vi 0)) (hp (nS σ y kp w b))) (hS : ∀ w, qNx (n - 1) m x = some w → Q (some (vi 1)) (hp (nS σ y kp w b))), V g mX9_next d (0, 0, 0, 0) Q 11 [(0, .ref 38), (2, vi ((n : Int) - 1)), (3, vi q)] [] (hp (nS σ y kp x b)) := by
  intro m
  induction m with
  | zero =>
    intro x q hq hm hx hN hS
    refine v_iload_n (pc := 11) dX9_next_11 rfl ?_
    refine v_if_lt (pc := 12) 49 dX9_next_12 (by decide) (by omega) (fun h12 => ?_) (fun h12 => by exfalso; omega)
    refine v_iload_n (pc := 49) dX9_next_49 rfl ?_
    refine v_if_ge (pc := 50) 55 dX9_next_50 (by decide) (by omega) (fun h50 => by exfalso; omega) (fun h50 => ?_)
    refine v_iconst (pc := 53) (0) dX9_next_53 (by decide) ?_
    refine v_ireturn (pc := 54) dX9_next_54 rfl (vZ (by omega)) ⟨Nat.le_refl _, Nat.le_refl _⟩ ?_
    exact hN rfl x
  | succ m ih =>
    intro x q hq hm hx hN hS
    have r1 := hx (n - 1) (by omega)
    have r2 := hx m (by omega)
    refine v_iload_n (pc := 11) dX9_next_11 rfl ?_
    refine v_if_lt (pc := 12) 49 dX9_next_12 (by decide) (by omega) (fun h12 => by exfalso; omega) (fun h12 => ?_)
    refine v_aload_n (pc := 15) dX9_next_15 rfl ?_
    refine v_gR (pc := 16) dX9_next_16 fl_X9_59 rfl ?_
    refine v_iload_n (pc := 19) dX9_next_19 rfl ?_
    refine v_aIv (pc := 20) (j := n - 1) (x (n - 1)) dX9_next_20 rfl (by omega) (by omega) (by omega) rfl ?_
    refine v_if_ne (pc := 21) 49 dX9_next_21 (by decide) (by omega) (fun h21 => ?_) (fun h21 => ?_)
    · refine v_iload_n (pc := 49) dX9_next_49 rfl ?_
      refine v_if_ge (pc := 50) 55 dX9_next_50 (by decide) (by omega) (fun h50 => ?_) (fun h50 => by exfalso; omega)
      refine v_aload_n (pc := 55) dX9_next_55 rfl ?_
      refine v_gR (pc := 56) dX9_next_56 fl_X9_59 rfl ?_
      refine v_iload_n (pc := 59) dX9_next_59 rfl ?_
      refine v_dup2 (pc := 60) dX9_next_60 rfl rfl ?_
      refine v_aIv (pc := 61) (j := m) (x m) dX9_next_61 rfl (by omega) (by omega) (by omega) rfl ?_
      refine v_iconst (pc := 62) (1) dX9_next_62 (by decide) ?_
      refine v_iadd (pc := 63) dX9_next_63 ?_
      refine v_sI (pc := 64) (j := m) dX9_next_64 rfl (by omega) (by omega) (by omega) ?_
      rw [nS_52]
      refine v_aload_n (pc := 65) dX9_next_65 rfl ?_
      refine v_gR (pc := 66) dX9_next_66 fl_X9_59 rfl ?_
      refine v_iload_n (pc := 69) dX9_next_69 rfl ?_
      refine v_dup2 (pc := 70) dX9_next_70 rfl rfl ?_
      refine v_aIv (pc := 71) (j := n - 1) (x (n - 1)) dX9_next_71 rfl (by omega) (by omega) (by omega) (if_neg (by omega)) ?_
      refine v_iconst (pc := 72) (1) dX9_next_72 (by decide) ?_
      refine v_isub (pc := 73) dX9_next_73 ?_
      refine v_sI (pc := 74) (j := n - 1) dX9_next_74 rfl (by omega) (by omega) (by omega) ?_
      refine v_iconst (pc := 75) (1) dX9_next_75 (by decide) ?_
      refine v_ireturn (pc := 76) dX9_next_76 rfl (vZ (by omega)) ⟨Nat.le_refl _, Nat.le_refl _⟩ ?_
      rw [nS_52]
      refine hS _ ?_
      exact if_neg (by omega)
    · refine v_aload_n (pc := 24) dX9_next_24 rfl ?_
      refine v_gR (pc := 25) dX9_next_25 fl_X9_59 rfl ?_
      refine v_iload_n (pc := 28) dX9_next_28 rfl ?_
      refine v_aload_n (pc := 29) dX9_next_29 rfl ?_
      refine v_gR (pc := 30) dX9_next_30 fl_X9_59 rfl ?_
      refine v_iload_n (pc := 33) dX9_next_33 rfl ?_
      refine v_aIv (pc := 34) (j := m) (x m) dX9_next_34 rfl (by omega) (by omega) (by omega) rfl ?_
      refine v_sI (pc := 35) (j := n - 1) dX9_next_35 rfl (by omega) (by omega) (by omega) ?_
      refine v_aload_n (pc := 36) dX9_next_36 rfl ?_
      refine v_gR (pc := 37) dX9_next_37 fl_X9_59 rfl ?_
      refine v_iload_n (pc := 40) dX9_next_40 rfl ?_
      refine v_iconst (pc := 41) (0) dX9_next_41 (by decide) ?_
      refine v_sI (pc := 42) (j := m) dX9_next_42 rfl (by omega) (by omega) (by omega) ?_
      refine v_iinc (pc := 43) (-1) dX9_next_43 rfl (by decide) (by decide) ?_
      refine v_goto (pc := 46) 11 dX9_next_46 (by decide) ?_
      rw [nS_52, nS_52]
      have e0 : qNx (n - 1) (m + 1) x = qNx (n - 1) m (qUp (qUp x (n - 1) (x m)) m 0) := if_pos (by omega)
      rw [e0] at hN
      have hS2 : ∀ w, qNx (n - 1) m (qUp (qUp x (n - 1) (x m)) m 0) = some w → Q (some (vi 1)) (hp (nS σ y kp w b)) := fun w t => hS w (e0.trans t)
      refine v_lv (ih _ (q + (-1)) (by omega) (by omega) (fun j hj => ?_) hN hS2) ⟨rfl, rfl, rfl, trivial⟩
      unfold qUp
      split
      · omega
      · split
        · exact r2
        · exact hx j hj
set_option maxHeartbeats 4000000 in
set_option maxRecDepth 100000 in
theorem c_X9_next {g : vGl} {d : Nat} {Q : Option Value → List mC → Prop} {σ : vSt} {y kp x b : Nat → Int} {n : Nat} {u : Int} (hn : σ 38 13 = n) (hn1 : 1 ≤ n) (hn4 : n ≤ 4) (hx : ∀ j, j < n → 0 ≤ x j ∧ x j ≤ 20) (hN : qNx (n - 1) (n - 1) x = none → ∀ w : Nat → Int, Q (some (vi 0)) (hp (nS σ y kp w b))) (hS : ∀ w, qNx (n - 1) (n - 1) x = some w → Q (some (vi 1)) (hp (nS σ y kp w b))) : V g mX9_next d (0, 0, 0, 0) Q 0 [(0, .ref 38), (1, vi u)] [] (hp (nS σ y kp x b)) := by
  refine v_aload_n (pc := 0) dX9_next_0 rfl ?_
  refine v_gIv (pc := 1) ((n : Int)) dX9_next_1 fl_X9_110 rfl hn ?_
  refine v_iconst (pc := 4) (1) dX9_next_4 (by decide) ?_
  refine v_isub (pc := 5) dX9_next_5 ?_
  refine v_istore_n (pc := 6) dX9_next_6 (by decide) ?_
  refine v_iload_n (pc := 7) dX9_next_7 rfl ?_
  refine v_iconst (pc := 8) (1) dX9_next_8 (by decide) ?_
  refine v_isub (pc := 9) dX9_next_9 ?_
  refine v_istore_n (pc := 10) dX9_next_10 (by decide) ?_
  exact v_lv (l_next hn hn1 hn4 (n - 1) x ((n : Int) - 1 - 1) (by omega) (by omega) hx hN hS) ⟨rfl, rfl, rfl, trivial⟩
set_option maxHeartbeats 4000000 in
set_option maxRecDepth 100000 in
theorem l_sp39 {g : vGl} {d : Nat} {Q : Option Value → List mC → Prop} {σ : vSt} {z : Int} {L n : Nat} (hn : σ 38 13 = n) (hn1 : 1 ≤ n) (hn4 : n ≤ 4) {y b : Nat → Int} (K : ∀ kp x : Nat → Int, (∀ i, i < n → kp i = y i) → (∀ i, i < n → x i = if i = n - 1 then (L : Int) else 0) → V g mX9_split d (0, 0, 0, 0) Q 86 [(0, .ref 38), (1, vi (L : Int)), (2, vi z)] [] (hp (nS σ y kp x b))) : ∀ (m j : Nat) (s : Int) (kp x : Nat → Int) (hs : s = j) (hm : j + m = n) (hk : ∀ i, i < j → kp i = y i) (hx : ∀ i, i < j → x i = if i = n - 1 then (L : Int) else 0), V g mX9_split d (0, 0, 0, 0) Q 39 [(0, .ref 38), (1, vi (L : Int)), (2, vi z), (3, vi s)] [] (hp (nS σ y kp x b)) := by
  intro m
  induction m with
  | zero =>
    intro j s kp x hs hm hk hx
    refine v_iload_n (pc := 39) dX9_split_39 rfl ?_
    refine v_aload_n (pc := 40) dX9_split_40 rfl ?_
    refine v_gIv (pc := 41) ((n : Int)) dX9_split_41 fl_X9_110 rfl hn ?_
    refine v_icmp_ge (pc := 44) 86 dX9_split_44 (by decide) (by omega) (by omega) (fun h44 => ?_) (fun h44 => by exfalso; omega)
    exact v_lv (K kp x (fun i hi => hk i (by omega)) (fun i hi => hx i (by omega))) ⟨rfl, rfl, rfl, trivial⟩
  | succ m ih =>
    intro j s kp x hs hm hk hx
    refine v_iload_n (pc := 39) dX9_split_39 rfl ?_
    refine v_aload_n (pc := 40) dX9_split_40 rfl ?_
    refine v_gIv (pc := 41) ((n : Int)) dX9_split_41 fl_X9_110 rfl hn ?_
    refine v_icmp_ge (pc := 44) 86 dX9_split_44 (by decide) (by omega) (by omega) (fun h44 => by exfalso; omega) (fun h44 => ?_)
    refine v_aload_n (pc := 47) dX9_split_47 rfl ?_
    refine v_gR (pc := 48) dX9_split_48 fl_X9_56 rfl ?_
    refine v_iload_n (pc := 51) dX9_split_51 rfl ?_
    refine v_aload_n (pc := 52) dX9_split_52 rfl ?_
    refine v_gR (pc := 53) dX9_split_53 fl_X9_34 rfl ?_
    refine v_iload_n (pc := 56) dX9_split_56 rfl ?_
    refine v_aIv (pc := 57) (j := j) (y j) dX9_split_57 rfl (by omega) (by omega) (by omega) rfl ?_
    refine v_sI (pc := 58) (j := j) dX9_split_58 rfl (by omega) (by omega) (by omega) ?_
    refine v_aload_n (pc := 59) dX9_split_59 rfl ?_
    refine v_gR (pc := 60) dX9_split_60 fl_X9_59 rfl ?_
    refine v_iload_n (pc := 63) dX9_split_63 rfl ?_
    refine v_iload_n (pc := 64) dX9_split_64 rfl ?_
    refine v_aload_n (pc := 65) dX9_split_65 rfl ?_
    refine v_gIv (pc := 66) ((n : Int)) dX9_split_66 fl_X9_110 rfl hn ?_
    refine v_iconst (pc := 69) (1) dX9_split_69 (by decide) ?_
    refine v_isub (pc := 70) dX9_split_70 ?_
    refine v_icmp_ne (pc := 71) 78 dX9_split_71 (by decide) (by omega) (by omega) (fun h71 => ?_) (fun h71 => ?_)
    · refine v_iconst (pc := 78) (0) dX9_split_78 (by decide) ?_
      refine v_sI (pc := 79) (j := j) dX9_split_79 rfl (by omega) (by omega) (by omega) ?_
      refine v_iinc (pc := 80) (1) dX9_split_80 rfl (by decide) (by decide) ?_
      refine v_goto (pc := 83) 39 dX9_split_83 (by decide) ?_
      rw [nS_51, nS_52]
      refine v_lv (ih (j + 1) (s + 1) _ _ (by omega) (by omega) (fun i hi => ?_) (fun i hi => ?_)) ⟨rfl, rfl, rfl, rfl, trivial⟩
      · by_cases e : i = j
        · rw [e]; exact if_pos rfl
        · exact (if_neg e).trans (hk i (by omega))
      · by_cases e : i = j
        · refine (if_pos e).trans ?_
          rw [e]
          first | rw [if_pos (by omega)] | rw [if_neg (by omega)]
        · exact (if_neg e).trans (hx i (by omega))
    · refine v_iload_n (pc := 74) dX9_split_74 rfl ?_
      refine v_goto (pc := 75) 79 dX9_split_75 (by decide) ?_
      refine v_sI (pc := 79) (j := j) dX9_split_79 rfl (by omega) (by omega) (by omega) ?_
      refine v_iinc (pc := 80) (1) dX9_split_80 rfl (by decide) (by decide) ?_
      refine v_goto (pc := 83) 39 dX9_split_83 (by decide) ?_
      rw [nS_51, nS_52]
      refine v_lv (ih (j + 1) (s + 1) _ _ (by omega) (by omega) (fun i hi => ?_) (fun i hi => ?_)) ⟨rfl, rfl, rfl, rfl, trivial⟩
      · by_cases e : i = j
        · rw [e]; exact if_pos rfl
        · exact (if_neg e).trans (hk i (by omega))
      · by_cases e : i = j
        · refine (if_pos e).trans ?_
          rw [e]
          first | rw [if_pos (by omega)] | rw [if_neg (by omega)]
        · exact (if_neg e).trans (hx i (by omega))
set_option maxHeartbeats 4000000 in
set_option maxRecDepth 100000 in
theorem l_sp101 {g : vGl} {d : Nat} {Q : Option Value → List mC → Prop} {σ : vSt} {z : Int} {L n : Nat} (hn : σ 38 13 = n) (hn1 : 1 ≤ n) (hn4 : n ≤ 4) {y0 kp x b : Nat → Int} {best : Int} (K : ∀ y : Nat → Int, (∀ i, i < n → y i = x i * z) → (∀ i, n ≤ i → y i = y0 i) → V g mX9_split d (0, 0, 0, 0) Q 132 [(0, .ref 38), (1, vi (L : Int)), (2, vi z), (3, vj best)] [] (hp (nS σ y kp x b))) : ∀ (m j : Nat) (s : Int) (y : Nat → Int) (hs : s = j) (hm : j + m = n) (hk : ∀ i, i < j → y i = x i * z) (hf : ∀ i, n ≤ i → y i = y0 i), V g mX9_split d (0, 0, 0, 0) Q 101 [(0, .ref 38), (1, vi (L : Int)), (2, vi z), (3, vj best), (6, vi s)] [] (hp (nS σ y kp x b)) := by
  intro m
  induction m with
  | zero =>
    intro j s y hs hm hk hf
    refine v_iload (pc := 101) dX9_split_101 rfl ?_
    refine v_aload_n (pc := 103) dX9_split_103 rfl ?_
    refine v_gIv (pc := 104) ((n : Int)) dX9_split_104 fl_X9_110 rfl hn ?_
    refine v_icmp_ge (pc := 107) 132 dX9_split_107 (by decide) (by omega) (by omega) (fun h107 => ?_) (fun h107 => by exfalso; omega)
    exact v_lv (K y (fun i hi => hk i (by omega)) hf) ⟨rfl, rfl, rfl, rfl, trivial⟩
  | succ m ih =>
    intro j s y hs hm hk hf
    refine v_iload (pc := 101) dX9_split_101 rfl ?_
    refine v_aload_n (pc := 103) dX9_split_103 rfl ?_
    refine v_gIv (pc := 104) ((n : Int)) dX9_split_104 fl_X9_110 rfl hn ?_
    refine v_icmp_ge (pc := 107) 132 dX9_split_107 (by decide) (by omega) (by omega) (fun h107 => by exfalso; omega) (fun h107 => ?_)
    refine v_aload_n (pc := 110) dX9_split_110 rfl ?_
    refine v_gR (pc := 111) dX9_split_111 fl_X9_34 rfl ?_
    refine v_iload (pc := 114) dX9_split_114 rfl ?_
    refine v_aload_n (pc := 116) dX9_split_116 rfl ?_
    refine v_gR (pc := 117) dX9_split_117 fl_X9_59 rfl ?_
    refine v_iload (pc := 120) dX9_split_120 rfl ?_
    refine v_aIv (pc := 122) (j := j) (x j) dX9_split_122 rfl (by omega) (by omega) (by omega) rfl ?_
    refine v_iload_n (pc := 123) dX9_split_123 rfl ?_
    refine v_imul (pc := 124) dX9_split_124 ?_
    refine v_sI (pc := 125) (j := j) dX9_split_125 rfl (by omega) (by omega) (by omega) ?_
    refine v_iinc (pc := 126) (1) dX9_split_126 rfl (by decide) (by decide) ?_
    refine v_goto (pc := 129) 101 dX9_split_129 (by decide) ?_
    rw [nS_47]
    refine v_lv (ih (j + 1) (s + 1) _ (by omega) (by omega) (fun i hi => ?_) (fun i hi => (if_neg (show ¬ i = j by omega)).trans (hf i hi))) ⟨rfl, rfl, rfl, rfl, rfl, trivial⟩
    by_cases e : i = j
    · rw [e]; exact if_pos rfl
    · exact (if_neg e).trans (hk i (by omega))
set_option maxHeartbeats 4000000 in
set_option maxRecDepth 100000 in
theorem l_sp152 {g : vGl} {d : Nat} {Q : Option Value → List mC → Prop} {σ : vSt} {z : Int} {L n : Nat} (hn : σ 38 13 = n) (hn1 : 1 ≤ n) (hn4 : n ≤ 4) {y kp x : Nat → Int} {best : Int} (K : ∀ b : Nat → Int, (∀ i, i < n → b i = x i) → V g mX9_split d (0, 0, 0, 0) Q 181 [(0, .ref 38), (1, vi (L : Int)), (2, vi z), (3, vj best)] [] (hp (nS σ y kp x b))) : ∀ (m j : Nat) (s : Int) (b : Nat → Int) (hs : s = j) (hm : j + m = n) (hk : ∀ i, i < j → b i = x i), V g mX9_split d (0, 0, 0, 0) Q 152 [(0, .ref 38), (1, vi (L : Int)), (2, vi z), (3, vj best), (8, vi s)] [] (hp (nS σ y kp x b)) := by
  intro m
  induction m with
  | zero =>
    intro j s b hs hm hk
    refine v_iload (pc := 152) dX9_split_152 rfl ?_
    refine v_aload_n (pc := 154) dX9_split_154 rfl ?_
    refine v_gIv (pc := 155) ((n : Int)) dX9_split_155 fl_X9_110 rfl hn ?_
    refine v_icmp_ge (pc := 158) 181 dX9_split_158 (by decide) (by omega) (by omega) (fun h158 => ?_) (fun h158 => by exfalso; omega)
    exact v_lv (K b (fun i hi => hk i (by omega))) ⟨rfl, rfl, rfl, rfl, trivial⟩
  | succ m ih =>
    intro j s b hs hm hk
    refine v_iload (pc := 152) dX9_split_152 rfl ?_
    refine v_aload_n (pc := 154) dX9_split_154 rfl ?_
    refine v_gIv (pc := 155) ((n : Int)) dX9_split_155 fl_X9_110 rfl hn ?_
    refine v_icmp_ge (pc := 158) 181 dX9_split_158 (by decide) (by omega) (by omega) (fun h158 => by exfalso; omega) (fun h158 => ?_)
    refine v_aload_n (pc := 161) dX9_split_161 rfl ?_
    refine v_gR (pc := 162) dX9_split_162 fl_X9_62 rfl ?_
    refine v_iload (pc := 165) dX9_split_165 rfl ?_
    refine v_aload_n (pc := 167) dX9_split_167 rfl ?_
    refine v_gR (pc := 168) dX9_split_168 fl_X9_59 rfl ?_
    refine v_iload (pc := 171) dX9_split_171 rfl ?_
    refine v_aIv (pc := 173) (j := j) (x j) dX9_split_173 rfl (by omega) (by omega) (by omega) rfl ?_
    refine v_sI (pc := 174) (j := j) dX9_split_174 rfl (by omega) (by omega) (by omega) ?_
    refine v_iinc (pc := 175) (1) dX9_split_175 rfl (by decide) (by decide) ?_
    refine v_goto (pc := 178) 152 dX9_split_178 (by decide) ?_
    rw [nS_53]
    refine v_lv (ih (j + 1) (s + 1) _ (by omega) (by omega) (fun i hi => ?_)) ⟨rfl, rfl, rfl, rfl, rfl, trivial⟩
    by_cases e : i = j
    · rw [e]; exact if_pos rfl
    · exact (if_neg e).trans (hk i (by omega))
set_option maxHeartbeats 4000000 in
set_option maxRecDepth 100000 in
theorem l_sp194 {g : vGl} {d : Nat} {Q : Option Value → List mC → Prop} {σ : vSt} {n : Nat} (hn : σ 38 13 = n) (hn1 : 1 ≤ n) (hn4 : n ≤ 4) {y0 kp x b : Nat → Int} {best : Int} (hkp : ∀ i, i < n → kp i = y0 i) (hQ : Q (some (vi best)) (hp (vU (nS σ y0 kp x b) 38 20 n))) : ∀ (m j : Nat) (s : Int) (y : Nat → Int) (hs : s = j) (hm : j + m = n) (hk : ∀ i, i < j → y i = kp i) (hf : ∀ i, n ≤ i → y i = y0 i), V g mX9_split d (0, 0, 0, 0) Q 194 [(0, .ref 38), (3, vj best), (6, vi s)] [] (hp (nS σ y kp x b)) := by
  intro m
  induction m with
  | zero =>
    intro j s y hs hm hk hf
    refine v_iload (pc := 194) dX9_split_194 rfl ?_
    refine v_aload_n (pc := 196) dX9_split_196 rfl ?_
    refine v_gIv (pc := 197) ((n : Int)) dX9_split_197 fl_X9_110 rfl hn ?_
    refine v_icmp_ge (pc := 200) 223 dX9_split_200 (by decide) (by omega) (by omega) (fun h200 => ?_) (fun h200 => by exfalso; omega)
    refine v_aload_n (pc := 223) dX9_split_223 rfl ?_
    refine v_aload_n (pc := 224) dX9_split_224 rfl ?_
    refine v_gIv (pc := 225) ((n : Int)) dX9_split_225 fl_X9_110 rfl hn ?_
    refine v_pI (pc := 228) dX9_split_228 fl_X9_177 rfl ?_
    refine v_lload_n (pc := 231) dX9_split_231 rfl ?_
    refine v_l2i (pc := 232) dX9_split_232 ?_
    refine v_ireturn (pc := 233) dX9_split_233 rfl rfl ⟨Nat.le_refl _, Nat.le_refl _⟩ ?_
    have ey : y = y0 := by
      funext i
      rcases (show i < n ∨ n ≤ i by omega) with t | t
      · exact (hk i (by omega)).trans (hkp i t)
      · exact hf i t
    rw [ey]
    exact hQ
  | succ m ih =>
    intro j s y hs hm hk hf
    refine v_iload (pc := 194) dX9_split_194 rfl ?_
    refine v_aload_n (pc := 196) dX9_split_196 rfl ?_
    refine v_gIv (pc := 197) ((n : Int)) dX9_split_197 fl_X9_110 rfl hn ?_
    refine v_icmp_ge (pc := 200) 223 dX9_split_200 (by decide) (by omega) (by omega) (fun h200 => by exfalso; omega) (fun h200 => ?_)
    refine v_aload_n (pc := 203) dX9_split_203 rfl ?_
    refine v_gR (pc := 204) dX9_split_204 fl_X9_34 rfl ?_
    refine v_iload (pc := 207) dX9_split_207 rfl ?_
    refine v_aload_n (pc := 209) dX9_split_209 rfl ?_
    refine v_gR (pc := 210) dX9_split_210 fl_X9_56 rfl ?_
    refine v_iload (pc := 213) dX9_split_213 rfl ?_
    refine v_aIv (pc := 215) (j := j) (kp j) dX9_split_215 rfl (by omega) (by omega) (by omega) rfl ?_
    refine v_sI (pc := 216) (j := j) dX9_split_216 rfl (by omega) (by omega) (by omega) ?_
    refine v_iinc (pc := 217) (1) dX9_split_217 rfl (by decide) (by decide) ?_
    refine v_goto (pc := 220) 194 dX9_split_220 (by decide) ?_
    rw [nS_47]
    refine v_lv (ih (j + 1) (s + 1) _ (by omega) (by omega) (fun i hi => ?_) (fun i hi => (if_neg (show ¬ i = j by omega)).trans (hf i hi))) ⟨rfl, rfl, rfl, trivial⟩
    by_cases e : i = j
    · rw [e]; exact if_pos rfl
    · exact (if_neg e).trans (hk i (by omega))
set_option maxHeartbeats 4000000 in
set_option maxRecDepth 100000 in
theorem l_sp181 {g : vGl} {d : Nat} {Q : Option Value → List mC → Prop} {σ : vSt} {z : Int} {L n : Nat} (hd : 6 ≤ d) (hR : YR σ) (hm : IM σ) (hn : σ 38 13 = n) (hn1 : 1 ≤ n) (hn4 : n ≤ 4) (hz : 1 ≤ z ∧ z ≤ 30) (hL : L ≤ 20) {kp : Nat → Int} (hkp : ∀ i, i < n → kp i = σ 47 i) (hQ0 : ∀ (best : Int) (x w b : Nat → Int), sRC σ z L x b best → sNo (sN σ) L x → Q (some (vi best)) (hp (vU (nS σ (σ 47) kp w b) 38 20 n))) {y x b : Nat → Int} {best : Int} (cx : sCd (sN σ) L x) (hC : sRC σ z L x b best) (hf : ∀ i, n ≤ i → y i = σ 47 i) (K : ∀ w, sNw (sN σ) L x w → V g mX9_split d (0, 0, 0, 0) Q 93 [(0, .ref 38), (1, vi (L : Int)), (2, vi z), (3, vj best), (5, vi 1)] [] (hp (nS σ y kp w b))) : V g mX9_split d (0, 0, 0, 0) Q 181 [(0, .ref 38), (1, vi (L : Int)), (2, vi z), (3, vj best)] [] (hp (nS σ y kp x b)) := by
  have eN : sN σ = n := by show (σ 10 6).toNat = n; have := hm.1.2.1; omega
  have ss := (sSu_nn (sN σ - 0) 0 rfl cx.1).2
  rw [cx.2] at ss
  have nx := nx_ok (n := sN σ) (by omega) (by omega) (show (L : Int) ≤ 20 by omega) cx
  rw [eN] at nx
  refine v_aload_n (pc := 181) dX9_split_181 rfl ?_
  refine v_iload_n (pc := 182) dX9_split_182 rfl ?_
  refine v_cVi1 (pc := 183) (z := 0) (d' := d - 1) dX9_split_183 kX9_next ml_X9_174 iwX9_next swX9_next rfl rfl (Nat.le_of_ble_eq_true rfl) (Nat.le_of_ble_eq_true rfl) (by omega) ⟨Nat.le_refl _, Nat.le_refl _⟩ ?_
  refine c_X9_next hn hn1 hn4 (fun j hj => ⟨cx.1 j (Nat.zero_le _) (by omega), by have := ss j (Nat.zero_le _) (by omega); omega⟩) (fun t w => ?_) (fun w t => ?_)
  · refine ⟨_, rfl, ?_⟩
    refine v_istore (pc := 186) dX9_split_186 (by decide) ?_
    refine v_goto (pc := 188) 93 dX9_split_188 (by decide) ?_
    first
    | exact v_lv (K w (by rw [eN]; exact nx.2 w t)) ⟨rfl, rfl, rfl, rfl, rfl, trivial⟩
    | (refine v_iload (pc := 93) dX9_split_93 rfl ?_
       refine v_if_eq (pc := 95) 191 dX9_split_95 (by decide) (by omega) (fun h95 => ?_) (fun h95 => by exfalso; omega)
       refine v_iconst (pc := 191) (0) dX9_split_191 (by decide) ?_
       refine v_istore (pc := 192) dX9_split_192 (by decide) ?_
       exact v_lv (l_sp194 hn hn1 hn4 hkp (hQ0 best x w b hC (by rw [eN]; exact nx.1 t)) n 0 0 y rfl (by omega) (fun i hi => by omega) hf) ⟨rfl, rfl, rfl, trivial⟩)
  · refine ⟨_, rfl, ?_⟩
    refine v_istore (pc := 186) dX9_split_186 (by decide) ?_
    refine v_goto (pc := 188) 93 dX9_split_188 (by decide) ?_
    first
    | exact v_lv (K w (by rw [eN]; exact nx.2 w t)) ⟨rfl, rfl, rfl, rfl, rfl, trivial⟩
    | (refine v_iload (pc := 93) dX9_split_93 rfl ?_
       refine v_if_eq (pc := 95) 191 dX9_split_95 (by decide) (by omega) (fun h95 => ?_) (fun h95 => by exfalso; omega)
       refine v_iconst (pc := 191) (0) dX9_split_191 (by decide) ?_
       refine v_istore (pc := 192) dX9_split_192 (by decide) ?_
       exact v_lv (l_sp194 hn hn1 hn4 hkp (hQ0 best x w b hC (by rw [eN]; exact nx.1 t)) n 0 0 y rfl (by omega) (fun i hi => by omega) hf) ⟨rfl, rfl, rfl, trivial⟩)
set_option maxHeartbeats 4000000 in
set_option maxRecDepth 100000 in
theorem l_sp93 {g : vGl} {d : Nat} {Q : Option Value → List mC → Prop} {σ : vSt} {z : Int} {L n : Nat} (hd : 6 ≤ d) (hR : YR σ) (hm : IM σ) (hn : σ 38 13 = n) (hn1 : 1 ≤ n) (hn4 : n ≤ 4) (hz : 1 ≤ z ∧ z ≤ 30) (hL : L ≤ 20) {kp : Nat → Int} (hkp : ∀ i, i < n → kp i = σ 47 i) (hQ : ∀ (best : Int) (x w b : Nat → Int), sRC σ z L x b best → sNo (sN σ) L x → Q (some (vi best)) (hp (vU (nS σ (σ 47) kp w b) 38 20 n)))  : ∀ (m : Nat) (y x b : Nat → Int) (best : Int) (hmm : 1048576 ≤ sKe (sN σ) 0 x + m) (cx : sCd (sN σ) L x) (hB : sRB σ z L x b best) (hf : ∀ i, n ≤ i → y i = σ 47 i), V g mX9_split d (0, 0, 0, 0) Q 93 [(0, .ref 38), (1, vi (L : Int)), (2, vi z), (3, vj best), (5, vi 1)] [] (hp (nS σ y kp x b)) := by
  have eN : sN σ = n := by show (σ 10 6).toNat = n; have := hm.1.2.1; omega
  have zz : 0 ≤ z := by omega
  have hM := hm.r hR
  have m1 := mul_le (a := (L : Int)) (b := z) (A := 20) (B := 30) (by omega) (by omega) zz hz.2
  intro m
  induction m with
  | zero =>
    intro y x b best hmm cx hB hf
    have ss := (sSu_nn (sN σ - 0) 0 rfl cx.1).2
    rw [cx.2] at ss
    have := sKe_0 (x := x) (by omega) (fun j q => ⟨cx.1 j (by omega) q, by have := ss j (by omega) q; omega⟩)
    exfalso
    omega
  | succ m ih =>
    intro y x b best hmm cx hB hf
    have ss := (sSu_nn (sN σ - 0) 0 rfl cx.1).2
    rw [cx.2] at ss
    have lr := sLo_rng hR zz (sN σ - 0) 0 rfl cx.1
    rw [cx.2] at lr
    have br : -1 ≤ best ∧ best ≤ 600000000 := by
      rcases hB with ⟨h1, -⟩ | ⟨h1, h2, h3, -⟩
      · omega
      · have lb := sLo_rng hR zz (sN σ - 0) 0 rfl h2.1
        rw [h2.2] at lb
        omega
    have rc := sRC_of hR zz (show (L : Int) ≤ 20 by omega) cx hB
    refine v_iload (pc := 93) dX9_split_93 rfl ?_
    refine v_if_eq (pc := 95) 191 dX9_split_95 (by decide) (by omega) (fun h95 => by exfalso; omega) (fun h95 => ?_)
    refine v_iconst (pc := 98) (0) dX9_split_98 (by decide) ?_
    refine v_istore (pc := 99) dX9_split_99 (by decide) ?_
    refine v_lv (l_sp101 hn hn1 hn4 (fun y2 hy2 hf2 => ?_) n 0 0 y rfl (by omega) (fun i hi => by omega) hf) ⟨rfl, rfl, rfl, rfl, rfl, trivial⟩
    have hy600 : ∀ j, 0 ≤ y2 j ∧ y2 j ≤ 600 := by
      intro j
      rcases (show j < n ∨ n ≤ j by omega) with t | t
      · rw [hy2 j t]
        have := mul_le (a := x j) (b := z) (A := 20) (B := 30) (cx.1 j (by omega) (by omega)) (by have := ss j (by omega) (by omega); omega) zz hz.2
        omega
      · rw [hf2 j t]
        have := hM.2.2.1 j
        omega
    refine v_aload_n (pc := 132) dX9_split_132 rfl ?_
    refine v_iconst (pc := 133) (0) dX9_split_133 (by decide) ?_
    refine v_cVl1 (pc := 134) (z := 0) (d' := d - 1) dX9_split_134 kX9_speedOfAll ml_X9_164 iwX9_speedOfAll swX9_speedOfAll rfl rfl (Nat.le_of_ble_eq_true rfl) (Nat.le_of_ble_eq_true rfl) (by omega) ⟨Nat.le_refl _, Nat.le_refl _⟩ ?_
    refine c_X9_speedOfAll (by omega) (MR_nS hM hy600) (by omega) ?_
    rw [sGain_m (z := z) hm (fun j hj => hy2 j (by omega))]
    refine ⟨_, rfl, ?_⟩
    refine v_lstore (pc := 137) dX9_split_137 (by decide) ?_
    refine v_lload (pc := 139) dX9_split_139 rfl ?_
    refine v_lload_n (pc := 141) dX9_split_141 rfl ?_
    refine v_lc_le (pc := 142) 181 dX9_split_142 dX9_split_143 (by decide) (by omega) (by omega) (fun h142 => ?_) (fun h142 => ?_)
    · exact v_lv (l_sp181 hd hR hm hn hn1 hn4 hz hL hkp hQ cx (rc.2 (by omega)) hf2 (fun w hw => ih _ w _ _ (by have := hw.2.1; omega) hw.1 (sRB_next (rc.2 (by omega)) hw) hf2)) ⟨rfl, rfl, rfl, rfl, trivial⟩
    · refine v_lload (pc := 146) dX9_split_146 rfl ?_
      refine v_lstore_n (pc := 148) dX9_split_148 (by decide) ?_
      refine v_iconst (pc := 149) (0) dX9_split_149 (by decide) ?_
      refine v_istore (pc := 150) dX9_split_150 (by decide) ?_
      refine v_lv (l_sp152 hn hn1 hn4 (fun b2 hb2 => ?_) n 0 0 b rfl (by omega) (fun i hi => by omega)) ⟨rfl, rfl, rfl, rfl, rfl, trivial⟩
      have r2 := rc.1 (by omega) b2 (fun j _ hj => hb2 j (by omega))
      exact l_sp181 hd hR hm hn hn1 hn4 hz hL hkp hQ cx r2 hf2 (fun w hw => ih _ w _ _ (by have := hw.2.1; omega) hw.1 (sRB_next r2 hw) hf2)
set_option maxHeartbeats 4000000 in
set_option maxRecDepth 100000 in
theorem c_X9_split {g : vGl} {d : Nat} {Q : Option Value → List mC → Prop} {σ : vSt} {u z : Int} (hd : 6 ≤ d) (hR : YR σ) (hm : IM σ) (hu : vr u) (hz : vr z) (hB : ¬ ((0 ≤ u ∧ u ≤ 20) ∧ 1 ≤ z ∧ z ≤ 30) → Q (some (vi (-2))) (hp σ)) (hE : 0 ≤ u → u ≤ 20 → 1 ≤ z → z ≤ 30 → σ 10 6 = 0 → Q (some (vi (-3))) (hp σ)) (hQ : ∀ L : Nat, u = L → L ≤ 20 → 1 ≤ z → z ≤ 30 → 0 < σ 10 6 → ∀ (best : Int) (kp x w b : Nat → Int), sRC σ z L x b best → sNo (sN σ) L x → Q (some (vi best)) (hp (vU (nS σ (σ 47) kp w b) 38 20 (σ 10 6)))) : V g mX9_split d (0, 0, 0, 0) Q 0 [(0, .ref 38), (1, vi u), (2, vi z)] [] (hp σ) := by
  obtain ⟨⟨r0, r1, r2, r3, r4, r5, r6, r7, r8, r9⟩, rE, rS, rT, rF⟩ := id hR
  refine v_iload_n (pc := 0) dX9_split_0 rfl ?_
  refine v_i2l (pc := 1) dX9_split_1 (by omega) ?_
  refine v_lconst (pc := 2) (0) dX9_split_2 (by decide) ?_
  refine v_ldc2 (pc := 3) (20) dX9_split_3 kc_X9_168 ?_
  refine v_cSi3 (pc := 6) (d' := d - 1) dX9_split_6 kX9_isIn ml_X9_115 stX9_isIn (Nat.le_of_ble_eq_true rfl) (Nat.le_of_ble_eq_true rfl) (by omega) ⟨Nat.le_refl _, Nat.le_refl _⟩ ?_
  refine c_X9_isIn (by omega) (by omega) (by omega) ?_
  refine ⟨_, rfl, ?_⟩
  refine v_if_eq (pc := 9) 24 dX9_split_9 (by decide) (by omega) (fun h9 => ?_) (fun h9 => ?_)
  · refine v_bipush (pc := 24) (-2) dX9_split_24 (by decide) ?_
    refine v_ireturn (pc := 26) dX9_split_26 rfl rfl ⟨Nat.le_refl _, Nat.le_refl _⟩ ?_
    exact hB (by omega)
  · refine v_iload_n (pc := 12) dX9_split_12 rfl ?_
    refine v_i2l (pc := 13) dX9_split_13 (by omega) ?_
    refine v_lconst (pc := 14) (1) dX9_split_14 (by decide) ?_
    refine v_ldc2 (pc := 15) (30) dX9_split_15 kc_X9_170 ?_
    refine v_cSi3 (pc := 18) (d' := d - 1) dX9_split_18 kX9_isIn ml_X9_115 stX9_isIn (Nat.le_of_ble_eq_true rfl) (Nat.le_of_ble_eq_true rfl) (by omega) ⟨Nat.le_refl _, Nat.le_refl _⟩ ?_
    refine c_X9_isIn (by omega) (by omega) (by omega) ?_
    refine ⟨_, rfl, ?_⟩
    refine v_if_ne (pc := 21) 27 dX9_split_21 (by decide) (by omega) (fun h21 => ?_) (fun h21 => ?_)
    · refine v_aload_n (pc := 27) dX9_split_27 rfl ?_
      refine v_gIv (pc := 28) (σ 10 6) dX9_split_28 fl_X9_110 rfl hm.1.2.1 ?_
      refine v_if_ne (pc := 31) 37 dX9_split_31 (by decide) (by omega) (fun h31 => ?_) (fun h31 => ?_)
      · obtain ⟨L, rfl⟩ : ∃ L : Nat, u = L := ⟨u.toNat, by omega⟩
        obtain ⟨n, en⟩ : ∃ n : Nat, σ 10 6 = n := ⟨(σ 10 6).toNat, by omega⟩
        have hn : σ 38 13 = n := hm.1.2.1.trans en
        have eN : sN σ = n := by show (σ 10 6).toNat = n; omega
        refine v_sg (nS_self σ).symm ?_
        refine v_iconst (pc := 37) (0) dX9_split_37 (by decide) ?_
        refine v_istore_n (pc := 38) dX9_split_38 (by decide) ?_
        refine v_lv (l_sp39 (n := n) hn (by omega) (by omega) (fun kp x hk hx => ?_) n 0 0 (σ 51) (σ 52) rfl (by omega) (fun i hi => by omega) (fun i hi => by omega)) ⟨rfl, rfl, rfl, rfl, trivial⟩
        have x0 := nx_0 (n := sN σ) (L := (L : Int)) (x := x) (by omega) (by omega) (by omega) (by omega) (fun j hj => by rw [eN]; exact hx j (by omega))
        refine v_ldc2 (pc := 86) (-1) dX9_split_86 kc_X9_172 ?_
        refine v_lstore_n (pc := 89) dX9_split_89 (by decide) ?_
        refine v_iconst (pc := 90) (1) dX9_split_90 (by decide) ?_
        refine v_istore (pc := 91) dX9_split_91 (by decide) ?_
        refine v_lv (l_sp93 hd hR hm hn (by omega) (by omega) (by omega) (by omega) hk (fun best x2 w b h1 h2 => ?_) 1048576 (σ 47) x (σ 53) (-1) ?_ x0.1 (Or.inl ⟨rfl, x0.2⟩) (fun i _ => rfl)) ⟨rfl, rfl, rfl, rfl, rfl, trivial⟩
        · rw [← en]
          exact hQ L rfl (by omega) (by omega) (by omega) (by omega) best kp x2 w b h1 h2
        · have ss := (sSu_nn (sN σ - 0) 0 rfl x0.1.1).2
          rw [x0.1.2] at ss
          have := sKe_0 (x := x) (n := sN σ) (by omega) (fun j q => ⟨x0.1.1 j (by omega) q, by have := ss j (by omega) q; omega⟩)
          omega
      · refine v_bipush (pc := 34) (-3) dX9_split_34 (by decide) ?_
        refine v_ireturn (pc := 36) dX9_split_36 rfl rfl ⟨Nat.le_refl _, Nat.le_refl _⟩ ?_
        exact hE (by omega) (by omega) (by omega) (by omega) (by omega)
    · refine v_bipush (pc := 24) (-2) dX9_split_24 (by decide) ?_
      refine v_ireturn (pc := 26) dX9_split_26 rfl rfl ⟨Nat.le_refl _, Nat.le_refl _⟩ ?_
      exact hB (by omega)
theorem IAll_split {σ : vSt} {f r c A B kp w b : Nat → Int} {z best : Int} {L : Nat} {x : Nat → Int} (hI : IAll σ) (hL : L ≤ 20) (r0 : r 0 = 0) (c5 : 0 ≤ c 5 ∧ c 5 ≤ 1048575) (c6 : c 6 = σ 10 6) (hc : sRC σ z L x b best) (hk : c 5 = sKe (sN σ) 0 b) : IAll (vU (nS (sW σ f r c A B) (σ 47) kp w b) 38 20 (σ 10 6)) := by
  obtain ⟨hR, hm, hz, hsk, hfl, hsp, hch, hye, h16⟩ := hI
  have r1 := hR.1
  refine ⟨hR, hm, hz, hsk, hfl, ⟨c6.symm, ?_, c5, fun k hk2 => ?_⟩, hch, hye, r0⟩
  · show 0 ≤ c 6 ∧ c 6 ≤ 4
    omega
  · show qDig (c 5) k = b k
    have hk3 : (k : Int) < c 6 := hk2
    rw [hk]
    exact sKe_dig (sN_le hR) (show (L : Int) ≤ 20 by omega) hc.2.1 k (by show k < (σ 10 6).toNat; omega)
set_option maxHeartbeats 4000000 in
set_option maxRecDepth 100000 in
theorem pair_split (g : vGl) : vP_split IAll g := by
  intro a b ha hb σ Q hI K
  obtain ⟨hR, hm, hz, hsk, hfl, hsp, hch, hye, h16⟩ := id hI
  refine c_X8_split (by omega) hR ha hb hsp.2.2.1 h16 (fun h => ?_) (fun h1 h2 h3 h4 h5 => ?_) (fun L h1 h2 h3 h4 h5 v f r c A B q1 q2 q3 q4 => ?_)
  · refine K _ _ (fun Q' hQ' => ?_)
    exact c_X9_split (by omega) hR hm ha hb (fun _ => hQ' _ hI) (fun h1 h2 h3 h4 => absurd ⟨⟨h1, h2⟩, h3, h4⟩ h) (fun L h1 h2 h3 h4 => absurd ⟨⟨by omega, by omega⟩, h3, h4⟩ h)
  · refine K _ _ (fun Q' hQ' => ?_)
    exact c_X9_split (by omega) hR hm ha hb (fun h => absurd ⟨⟨h1, h2⟩, h3, h4⟩ h) (fun _ _ _ _ _ => hQ' _ hI) (fun L _ _ _ _ h => by exfalso; omega)
  · refine K _ _ (fun Q' hQ' => ?_)
    refine c_X9_split (σ := sW σ f r c A B) (by omega) hR hm ha hb (fun h => absurd ⟨⟨by omega, by omega⟩, h3, h4⟩ h) (fun _ _ _ _ h => by have h' : σ 10 6 = 0 := h; exfalso; omega) (fun L2 e1 _ _ _ _ best kp x w d hC hN => ?_)
    have eL : L2 = L := by omega
    subst eL
    have hC2 : sRC σ b L2 x d best := hC
    have hN2 : sNo (sN σ) L2 x := hN
    have e := sBest q4 hC2 hN2
    rw [← e.1]
    exact hQ' _ (IAll_split hI h2 q1 q2 q3 hC2 e.2)
