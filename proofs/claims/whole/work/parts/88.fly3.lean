theorem vU_row_o {σ : vSt} {p q k : Nat} {f : Nat → Int} {z : Int} (h : q ≠ p) : vU (vRow σ p f) q k z = vRow (vU σ q k z) p f := by
  funext a b
  unfold vU vRow
  by_cases h1 : a = q
  · subst h1; simp [h]
  · by_cases h2 : a = p <;> simp [h1, h2, Ne.symm h]
theorem vRow_comm (σ : vSt) {p q : Nat} (f h : Nat → Int) (hpq : p ≠ q) : vRow (vRow σ p f) q h = vRow (vRow σ q h) p f := by
  funext a b
  unfold vRow
  by_cases h1 : a = q
  · subst h1; simp [Ne.symm hpq]
  · by_cases h2 : a = p <;> simp [h1, h2, hpq]
theorem q_hp {Q : Option Value → List mC → Prop} {r : Option Value} {w w' : List mC} (h : Q r w) (e : w' = w) : Q r w' := e ▸ h
def fEq (e e' : vSt) : Prop := e 2 = e' 2 ∧ e 4 = e' 4 ∧ e 6 = e' 6 ∧ e 10 = e' 10 ∧ e 11 = e' 11 ∧ e 12 = e' 12 ∧ e 13 = e' 13 ∧ e 14 = e' 14 ∧ e 26 = e' 26 ∧ e 27 = e' 27
theorem fB_c {e e' : vSt} (h : fEq e e') (f : Nat → Int) : fB e f = fB e' f := by
  obtain ⟨h1, h2, h3, h4, h5, h6, h7, h8, h9, h10⟩ := h
  unfold fB fPa fPu fDg
  rw [h9, h10]
theorem fD_c {e e' : vSt} (h : fEq e e') (f : Nat → Int) : fD e f = fD e' f := by
  obtain ⟨h1, h2, h3, h4, h5, h6, h7, h8, h9, h10⟩ := h
  unfold fD fRdy eTh yDry
  rw [h1, h2, h3, h4, h5, h6, h7, h8]
theorem fBs_c {e e' : vSt} (h : fEq e e') (U hs : Int) : ∀ (n : Nat) (f : Nat → Int), fBs e U hs n f = fBs e' U hs n f := by
  intro n
  induction n with
  | zero => intro f; rfl
  | succ n ih =>
    intro f
    show (if _ then (if _ then _ else _) else _) = (if _ then (if _ then _ else _) else _)
    rw [fB_c h, ih]
theorem fGo_c {e e' : vSt} (h : fEq e e') (U hs : Int) : ∀ (n : Nat) (f : Nat → Int), fGo e U hs n f = fGo e' U hs n f := by
  intro n
  induction n with
  | zero => intro f; rfl
  | succ n ih =>
    intro f
    have e1 : fRd e U hs f = fRd e' U hs f := by
      unfold fRd
      rw [fBs_c h, fD_c h]
    show (if _ then (if _ then _ else _) else _) = (if _ then (if _ then _ else _) else _)
    rw [e1, ih]
theorem fZ_c {e e' : vSt} (h : fEq e e') : ∀ (n : Nat) (f : Nat → Int), fZ e n f = fZ e' n f := by
  intro n
  induction n with
  | zero => intro f; rfl
  | succ n ih =>
    intro f
    show (if _ then _ else _) = (if _ then _ else _)
    rw [ih, fD_c h]
theorem fLose_c {e e' : vSt} (h : fEq e e') (f : Nat → Int) : fLose e f = fLose e' f := by
  unfold fLose fLs
  rw [fZ_c h, fD_c h]
def fSafe (e : vSt) : Nat → (Nat → Int) → Int
  | 0, _ => 0
  | n + 1, f => if 0 < f 7 ∧ f 8 < 2000 ∧ f 13 = -1 then (if fBk e (fGo e 2000 1 4 (fLose e f)) = 0 then 1 else 0) + fSafe e n (fGo e (2000 - n) 1 4 f) else 0
set_option maxHeartbeats 4000000 in
set_option maxRecDepth 100000 in
theorem c_begin28 {g : vGl} {d : Nat} {Q : Option Value → List mC → Prop} {σ : vSt} {f : Nat → Int} (hd : 4 ≤ d) (hR : YR σ) (hQ : Q none (hp (vRow σ 28 (fBeg σ f)))) : V g mX2_begin d (0, 0, 0, 0) Q 0 [(0, .ref 28)] [] (hp (vRow σ 28 f)) := by
  obtain ⟨⟨r0, r1, r2, r3, r4, r5, r6, r7, r8, r9⟩, rE, rS, rT, rF⟩ := id hR
  refine v_aload_n (pc := 0) dX2_begin_0 rfl ?_
  refine v_iconst (pc := 1) (0) dX2_begin_1 (by decide) ?_
  refine v_pI (pc := 2) dX2_begin_2 fl_X2_9 rfl ?_
  refine v_aload_n (pc := 5) dX2_begin_5 rfl ?_
  refine v_aload_n (pc := 6) dX2_begin_6 rfl ?_
  refine v_gR (pc := 7) dX2_begin_7 fl_X2_48 rfl ?_
  refine v_iconst (pc := 10) (0) dX2_begin_10 (by decide) ?_
  refine v_cVi1 (pc := 11) (z := 0) (d' := d - 1) dX2_begin_11 kX4_massFrom ml_X2_56 iwX4_massFrom swX4_massFrom rfl rfl (Nat.le_of_ble_eq_true rfl) (Nat.le_of_ble_eq_true rfl) (by omega) ⟨Nat.le_refl _, Nat.le_refl _⟩ ?_
  refine c_X4_massFrom (k := 0) (by omega) (by exact hR) rfl (show (0 : Int) ≤ σ 10 6 by omega) ?_
  refine ⟨_, rfl, ?_⟩
  refine v_pI (pc := 14) dX2_begin_14 fl_X2_24 rfl ?_
  refine v_aload_n (pc := 17) dX2_begin_17 rfl ?_
  refine v_aload_n (pc := 18) dX2_begin_18 rfl ?_
  refine v_gR (pc := 19) dX2_begin_19 fl_X2_48 rfl ?_
  refine v_cVi0 (pc := 22) (z := 0) (d' := d - 1) dX2_begin_22 kX4_allStuff ml_X2_62 iwX4_allStuff swX4_allStuff rfl rfl (Nat.le_of_ble_eq_true rfl) (Nat.le_of_ble_eq_true rfl) (by omega) ⟨Nat.le_refl _, Nat.le_refl _⟩ ?_
  refine c_X4_allStuff (by exact hR) ?_
  refine ⟨_, rfl, ?_⟩
  refine v_pI (pc := 25) dX2_begin_25 fl_X2_27 rfl ?_
  refine v_aload_n (pc := 28) dX2_begin_28 rfl ?_
  refine v_iconst (pc := 29) (0) dX2_begin_29 (by decide) ?_
  refine v_pI (pc := 30) dX2_begin_30 fl_X2_30 rfl ?_
  refine v_aload_n (pc := 33) dX2_begin_33 rfl ?_
  refine v_iconst (pc := 34) (0) dX2_begin_34 (by decide) ?_
  refine v_pI (pc := 35) dX2_begin_35 fl_X2_33 rfl ?_
  refine v_aload_n (pc := 38) dX2_begin_38 rfl ?_
  refine v_iconst (pc := 39) (0) dX2_begin_39 (by decide) ?_
  refine v_pI (pc := 40) dX2_begin_40 fl_X2_36 rfl ?_
  refine v_aload_n (pc := 43) dX2_begin_43 rfl ?_
  refine v_iconst (pc := 44) (0) dX2_begin_44 (by decide) ?_
  refine v_pI (pc := 45) dX2_begin_45 fl_X2_39 rfl ?_
  refine v_aload_n (pc := 48) dX2_begin_48 rfl ?_
  refine v_iconst (pc := 49) (0) dX2_begin_49 (by decide) ?_
  refine v_pI (pc := 50) dX2_begin_50 fl_X2_42 rfl ?_
  refine v_aload_n (pc := 53) dX2_begin_53 rfl ?_
  refine v_iconst (pc := 54) (-1) dX2_begin_54 (by decide) ?_
  refine v_pI (pc := 55) dX2_begin_55 fl_X2_45 rfl ?_
  refine v_aload_n (pc := 58) dX2_begin_58 rfl ?_
  refine v_cVv0 (pc := 59) (z := 0) (d' := d - 1) dX2_begin_59 kX2_readyLowest ml_X2_66 iwX2_readyLowest swX2_readyLowest rfl rfl (Nat.le_of_ble_eq_true rfl) (Nat.le_of_ble_eq_true rfl) (by omega) ⟨Nat.le_refl _, Nat.le_refl _⟩ ?_
  rw [vRow_up, vRow_up, vRow_up, vRow_up, vRow_up, vRow_up, vRow_up, vRow_up, vRow_up]
  refine c_ready28 (by omega) hR (show (0 : Int) ≤ 0 by omega) (show (0 : Int) ≤ 10 by omega) ?_
  refine ⟨rfl, ?_⟩
  refine v_return (pc := 62) dX2_begin_62 rfl ⟨Nat.le_refl _, Nat.le_refl _⟩ ?_
  refine q_row hQ ?_
  show fRdy σ 0 _ = fRdy σ 0 _
  congr 1
  funext j
  unfold qUp
  show (if j = 13 then -1 else if j = 12 then 0 else if j = 11 then 0 else if j = 10 then 0 else if j = 9 then 0 else if j = 8 then 0 else if j = 7 then qSum (σ 13) (σ 10 6).toNat 0 else if j = 6 then yMass σ 0 else if j = 2 then 0 else f j) = _
  omega
set_option maxHeartbeats 4000000 in
set_option maxRecDepth 100000 in
theorem l_go3928 {g : vGl} {d : Nat} {Q : Option Value → List mC → Prop} {σ : vSt} {f : Nat → Int} {U hs k : Int} (hh : hs = 0 ∨ hs = 1) (h13 : vr (f 13)) (hX : (hs = 1 ∧ ¬ f 13 = -1) → Q none (hp (vRow σ 28 f))) (hL : ¬ (hs = 1 ∧ ¬ f 13 = -1) → V g mX2_goOn d (0, 0, 0, 0) Q 2 [(0, .ref 28), (1, vi U), (2, vi hs), (3, vi (k + 1))] [] (hp (vRow σ 28 f))) : V g mX2_goOn d (0, 0, 0, 0) Q 39 [(0, .ref 28), (1, vi U), (2, vi hs), (3, vi (k))] [] (hp (vRow σ 28 f)) := by
  refine v_iload_n (pc := 39) dX2_goOn_39 rfl ?_
  refine v_if_eq (pc := 40) 52 dX2_goOn_40 (by decide) (by omega) (fun h40 => ?_) (fun h40 => ?_)
  · refine v_iinc (pc := 52) (1) dX2_goOn_52 rfl (by decide) (by decide) ?_
    refine v_goto (pc := 55) 2 dX2_goOn_55 (by decide) ?_
    exact v_lv (hL (by omega)) ⟨rfl, rfl, rfl, rfl, trivial⟩
  · refine v_aload_n (pc := 43) dX2_goOn_43 rfl ?_
    refine v_gIv (pc := 44) (f 13) dX2_goOn_44 fl_X2_45 rfl rfl ?_
    refine v_iconst (pc := 47) (-1) dX2_goOn_47 (by decide) ?_
    refine v_icmp_eq (pc := 48) 52 dX2_goOn_48 (by decide) (by omega) (by omega) (fun h48 => ?_) (fun h48 => ?_)
    · refine v_iinc (pc := 52) (1) dX2_goOn_52 rfl (by decide) (by decide) ?_
      refine v_goto (pc := 55) 2 dX2_goOn_55 (by decide) ?_
      exact v_lv (hL (by omega)) ⟨rfl, rfl, rfl, rfl, trivial⟩
    · refine v_return (pc := 51) dX2_goOn_51 rfl ⟨Nat.le_refl _, Nat.le_refl _⟩ ?_
      exact hX (by omega)
set_option maxHeartbeats 4000000 in
set_option maxRecDepth 100000 in
theorem l_goOn28 {g : vGl} {d : Nat} {Q : Option Value → List mC → Prop} {σ : vSt} {U hs : Int} (hd : 4 ≤ d) (hR : YR σ) (hS : WS σ) (hU : 0 ≤ U ∧ U ≤ 2000) (hh : hs = 0 ∨ hs = 1) : ∀ (n : Nat) (f : Nat → Int) (k : Int) (hk : k + n = 4) (hk0 : 0 ≤ k) (w : WF σ f) (hQ : Q none (hp (vRow σ 28 (fGo σ U hs n f)))), V g mX2_goOn d (0, 0, 0, 0) Q 2 [(0, .ref 28), (1, vi U), (2, vi hs), (3, vi (k))] [] (hp (vRow σ 28 f)) := by
  intro n
  induction n with
  | zero =>
    intro f k hk hk0 w hQ
    refine v_iload_n (pc := 2) dX2_goOn_2 rfl ?_
    refine v_iconst (pc := 3) (4) dX2_goOn_3 (by decide) ?_
    refine v_icmp_ge (pc := 4) 58 dX2_goOn_4 (by decide) (by omega) (by omega) (fun h4 => ?_) (fun h4 => by exfalso; omega)
    refine v_return (pc := 58) dX2_goOn_58 rfl ⟨Nat.le_refl _, Nat.le_refl _⟩ ?_
    exact hQ
  | succ n ih =>
    intro f k hk hk0 w hQ
    have rg := w.rng hR
    by_cases q : 0 < f 7 ∧ f 8 < U
    · have e0 : fGo σ U hs (n + 1) f = if hs = 1 ∧ ¬ fRd σ U hs f 13 = -1 then fRd σ U hs f else fGo σ U hs n (fRd σ U hs f) := if_pos q
      rw [e0] at hQ
      have lt := w.lt q.1
      have wb := fBs_WF (hs := hs) hS hU.2 (f 3).toNat f w lt
      have rb := wb.1.rng hR
      have wr := fRd_WF (hs := hs) hR hS hU.2 w lt
      have rr := wr.rng hR
      refine v_iload_n (pc := 2) dX2_goOn_2 rfl ?_
      refine v_iconst (pc := 3) (4) dX2_goOn_3 (by decide) ?_
      refine v_icmp_ge (pc := 4) 58 dX2_goOn_4 (by decide) (by omega) (by omega) (fun h4 => by exfalso; omega) (fun h4 => ?_)
      refine v_aload_n (pc := 7) dX2_goOn_7 rfl ?_
      refine v_cVi0 (pc := 8) (z := 0) (d' := d - 1) dX2_goOn_8 kX2_goesOn ml_X2_94 iwX2_goesOn swX2_goesOn rfl rfl (Nat.le_of_ble_eq_true rfl) (Nat.le_of_ble_eq_true rfl) (by omega) ⟨Nat.le_refl _, Nat.le_refl _⟩ ?_
      refine c_goesOn28 (by omega) (by omega) ?_
      rw [if_pos (show 0 < f 7 ∧ f 8 < 2000 by omega)]
      refine ⟨_, rfl, ?_⟩
      refine v_if_eq (pc := 11) 58 dX2_goOn_11 (by decide) (by omega) (fun h11 => by exfalso; omega) (fun h11 => ?_)
      refine v_aload_n (pc := 14) dX2_goOn_14 rfl ?_
      refine v_gIv (pc := 15) (f 8) dX2_goOn_15 fl_X2_30 rfl rfl ?_
      refine v_iload_n (pc := 18) dX2_goOn_18 rfl ?_
      refine v_icmp_ge (pc := 19) 58 dX2_goOn_19 (by decide) (by omega) (by omega) (fun h19 => by exfalso; omega) (fun h19 => ?_)
      refine v_aload_n (pc := 22) dX2_goOn_22 rfl ?_
      refine v_iload_n (pc := 23) dX2_goOn_23 rfl ?_
      refine v_iload_n (pc := 24) dX2_goOn_24 rfl ?_
      refine v_cVv2 (pc := 25) (z := 0) (d' := d - 1) dX2_goOn_25 kX2_burnLowest ml_X2_101 iwX2_burnLowest swX2_burnLowest rfl rfl (Nat.le_of_ble_eq_true rfl) (Nat.le_of_ble_eq_true rfl) (by omega) ⟨Nat.le_refl _, Nat.le_refl _⟩ ?_
      refine c_burn28 (by omega) hR hS hU hh w lt ?_
      refine ⟨rfl, ?_⟩
      refine v_aload_n (pc := 28) dX2_goOn_28 rfl ?_
      refine v_gIv (pc := 29) (fBs σ U hs (f 3).toNat f 3) dX2_goOn_29 fl_X2_15 rfl rfl ?_
      refine v_if_ne (pc := 32) 39 dX2_goOn_32 (by decide) (by omega) (fun h32 => ?_) (fun h32 => ?_)
      · refine v_row (f := fRd σ U hs f) (by unfold fRd; first | rw [if_pos (by omega)] | rw [if_neg (by omega)]) ?_
        refine l_go3928 hh (by omega) (fun x => ?_) (fun x => ?_)
        · rw [if_pos x] at hQ
          exact hQ
        · rw [if_neg x] at hQ
          exact ih _ _ (by omega) (by omega) wr hQ
      · refine v_aload_n (pc := 35) dX2_goOn_35 rfl ?_
        refine v_cVv0 (pc := 36) (z := 0) (d' := d - 1) dX2_goOn_36 kX2_dropLowest ml_X2_98 iwX2_dropLowest swX2_dropLowest rfl rfl (Nat.le_of_ble_eq_true rfl) (Nat.le_of_ble_eq_true rfl) (by omega) ⟨Nat.le_refl _, Nat.le_refl _⟩ ?_
        refine c_drop28 (by omega) hR (by omega) (by omega) ?_
        refine ⟨rfl, ?_⟩
        refine v_row (f := fRd σ U hs f) (by unfold fRd; first | rw [if_pos (by omega)] | rw [if_neg (by omega)]) ?_
        refine l_go3928 hh (by omega) (fun x => ?_) (fun x => ?_)
        · rw [if_pos x] at hQ
          exact hQ
        · rw [if_neg x] at hQ
          exact ih _ _ (by omega) (by omega) wr hQ
    · rw [fGo_stop q] at hQ
      refine v_iload_n (pc := 2) dX2_goOn_2 rfl ?_
      refine v_iconst (pc := 3) (4) dX2_goOn_3 (by decide) ?_
      refine v_icmp_ge (pc := 4) 58 dX2_goOn_4 (by decide) (by omega) (by omega) (fun h4 => by exfalso; omega) (fun h4 => ?_)
      refine v_aload_n (pc := 7) dX2_goOn_7 rfl ?_
      refine v_cVi0 (pc := 8) (z := 0) (d' := d - 1) dX2_goOn_8 kX2_goesOn ml_X2_94 iwX2_goesOn swX2_goesOn rfl rfl (Nat.le_of_ble_eq_true rfl) (Nat.le_of_ble_eq_true rfl) (by omega) ⟨Nat.le_refl _, Nat.le_refl _⟩ ?_
      refine c_goesOn28 (by omega) (by omega) ?_
      refine ⟨_, rfl, ?_⟩
      refine v_if_eq (pc := 11) 58 dX2_goOn_11 (by decide) (by omega) (fun h11 => ?_) (fun h11 => ?_)
      · refine v_return (pc := 58) dX2_goOn_58 rfl ⟨Nat.le_refl _, Nat.le_refl _⟩ ?_
        exact hQ
      · refine v_aload_n (pc := 14) dX2_goOn_14 rfl ?_
        refine v_gIv (pc := 15) (f 8) dX2_goOn_15 fl_X2_30 rfl rfl ?_
        refine v_iload_n (pc := 18) dX2_goOn_18 rfl ?_
        refine v_icmp_ge (pc := 19) 58 dX2_goOn_19 (by decide) (by omega) (by omega) (fun h19 => ?_) (fun h19 => ?_)
        · refine v_return (pc := 58) dX2_goOn_58 rfl ⟨Nat.le_refl _, Nat.le_refl _⟩ ?_
          exact hQ
        · exfalso; omega
set_option maxHeartbeats 4000000 in
set_option maxRecDepth 100000 in
theorem c_goOn28 {g : vGl} {d : Nat} {Q : Option Value → List mC → Prop} {σ : vSt} {f : Nat → Int} {U hs : Int} (hd : 4 ≤ d) (hR : YR σ) (hS : WS σ) (hU : 0 ≤ U ∧ U ≤ 2000) (hh : hs = 0 ∨ hs = 1) (w : WF σ f) (hQ : Q none (hp (vRow σ 28 (fGo σ U hs 4 f)))) : V g mX2_goOn d (0, 0, 0, 0) Q 0 [(0, .ref 28), (1, vi U), (2, vi hs)] [] (hp (vRow σ 28 f)) := by
  refine v_iconst (pc := 0) (0) dX2_goOn_0 (by decide) ?_
  refine v_istore_n (pc := 1) dX2_goOn_1 (by decide) ?_
  exact v_lv (l_goOn28 hd hR hS hU hh 4 f 0 (by decide) (by decide) w hQ) ⟨rfl, rfl, rfl, rfl, trivial⟩
set_option maxHeartbeats 4000000 in
set_option maxRecDepth 100000 in
theorem c_begin29 {g : vGl} {d : Nat} {Q : Option Value → List mC → Prop} {σ : vSt} {f : Nat → Int} (hd : 4 ≤ d) (hR : YR σ) (hQ : Q none (hp (vRow σ 29 (fBeg σ f)))) : V g mX2_begin d (0, 0, 0, 0) Q 0 [(0, .ref 29)] [] (hp (vRow σ 29 f)) := by
  obtain ⟨⟨r0, r1, r2, r3, r4, r5, r6, r7, r8, r9⟩, rE, rS, rT, rF⟩ := id hR
  refine v_aload_n (pc := 0) dX2_begin_0 rfl ?_
  refine v_iconst (pc := 1) (0) dX2_begin_1 (by decide) ?_
  refine v_pI (pc := 2) dX2_begin_2 fl_X2_9 rfl ?_
  refine v_aload_n (pc := 5) dX2_begin_5 rfl ?_
  refine v_aload_n (pc := 6) dX2_begin_6 rfl ?_
  refine v_gR (pc := 7) dX2_begin_7 fl_X2_48 rfl ?_
  refine v_iconst (pc := 10) (0) dX2_begin_10 (by decide) ?_
  refine v_cVi1 (pc := 11) (z := 0) (d' := d - 1) dX2_begin_11 kX4_massFrom ml_X2_56 iwX4_massFrom swX4_massFrom rfl rfl (Nat.le_of_ble_eq_true rfl) (Nat.le_of_ble_eq_true rfl) (by omega) ⟨Nat.le_refl _, Nat.le_refl _⟩ ?_
  refine c_X4_massFrom (k := 0) (by omega) (by exact hR) rfl (show (0 : Int) ≤ σ 10 6 by omega) ?_
  refine ⟨_, rfl, ?_⟩
  refine v_pI (pc := 14) dX2_begin_14 fl_X2_24 rfl ?_
  refine v_aload_n (pc := 17) dX2_begin_17 rfl ?_
  refine v_aload_n (pc := 18) dX2_begin_18 rfl ?_
  refine v_gR (pc := 19) dX2_begin_19 fl_X2_48 rfl ?_
  refine v_cVi0 (pc := 22) (z := 0) (d' := d - 1) dX2_begin_22 kX4_allStuff ml_X2_62 iwX4_allStuff swX4_allStuff rfl rfl (Nat.le_of_ble_eq_true rfl) (Nat.le_of_ble_eq_true rfl) (by omega) ⟨Nat.le_refl _, Nat.le_refl _⟩ ?_
  refine c_X4_allStuff (by exact hR) ?_
  refine ⟨_, rfl, ?_⟩
  refine v_pI (pc := 25) dX2_begin_25 fl_X2_27 rfl ?_
  refine v_aload_n (pc := 28) dX2_begin_28 rfl ?_
  refine v_iconst (pc := 29) (0) dX2_begin_29 (by decide) ?_
  refine v_pI (pc := 30) dX2_begin_30 fl_X2_30 rfl ?_
  refine v_aload_n (pc := 33) dX2_begin_33 rfl ?_
  refine v_iconst (pc := 34) (0) dX2_begin_34 (by decide) ?_
  refine v_pI (pc := 35) dX2_begin_35 fl_X2_33 rfl ?_
  refine v_aload_n (pc := 38) dX2_begin_38 rfl ?_
  refine v_iconst (pc := 39) (0) dX2_begin_39 (by decide) ?_
  refine v_pI (pc := 40) dX2_begin_40 fl_X2_36 rfl ?_
  refine v_aload_n (pc := 43) dX2_begin_43 rfl ?_
  refine v_iconst (pc := 44) (0) dX2_begin_44 (by decide) ?_
  refine v_pI (pc := 45) dX2_begin_45 fl_X2_39 rfl ?_
  refine v_aload_n (pc := 48) dX2_begin_48 rfl ?_
  refine v_iconst (pc := 49) (0) dX2_begin_49 (by decide) ?_
  refine v_pI (pc := 50) dX2_begin_50 fl_X2_42 rfl ?_
  refine v_aload_n (pc := 53) dX2_begin_53 rfl ?_
  refine v_iconst (pc := 54) (-1) dX2_begin_54 (by decide) ?_
  refine v_pI (pc := 55) dX2_begin_55 fl_X2_45 rfl ?_
  refine v_aload_n (pc := 58) dX2_begin_58 rfl ?_
  refine v_cVv0 (pc := 59) (z := 0) (d' := d - 1) dX2_begin_59 kX2_readyLowest ml_X2_66 iwX2_readyLowest swX2_readyLowest rfl rfl (Nat.le_of_ble_eq_true rfl) (Nat.le_of_ble_eq_true rfl) (by omega) ⟨Nat.le_refl _, Nat.le_refl _⟩ ?_
  rw [vRow_up, vRow_up, vRow_up, vRow_up, vRow_up, vRow_up, vRow_up, vRow_up, vRow_up]
  refine c_ready29 (by omega) hR (show (0 : Int) ≤ 0 by omega) (show (0 : Int) ≤ 10 by omega) ?_
  refine ⟨rfl, ?_⟩
  refine v_return (pc := 62) dX2_begin_62 rfl ⟨Nat.le_refl _, Nat.le_refl _⟩ ?_
  refine q_row hQ ?_
  show fRdy σ 0 _ = fRdy σ 0 _
  congr 1
  funext j
  unfold qUp
  show (if j = 13 then -1 else if j = 12 then 0 else if j = 11 then 0 else if j = 10 then 0 else if j = 9 then 0 else if j = 8 then 0 else if j = 7 then qSum (σ 13) (σ 10 6).toNat 0 else if j = 6 then yMass σ 0 else if j = 2 then 0 else f j) = _
  omega
set_option maxHeartbeats 4000000 in
set_option maxRecDepth 100000 in
theorem l_go3929 {g : vGl} {d : Nat} {Q : Option Value → List mC → Prop} {σ : vSt} {f : Nat → Int} {U hs k : Int} (hh : hs = 0 ∨ hs = 1) (h13 : vr (f 13)) (hX : (hs = 1 ∧ ¬ f 13 = -1) → Q none (hp (vRow σ 29 f))) (hL : ¬ (hs = 1 ∧ ¬ f 13 = -1) → V g mX2_goOn d (0, 0, 0, 0) Q 2 [(0, .ref 29), (1, vi U), (2, vi hs), (3, vi (k + 1))] [] (hp (vRow σ 29 f))) : V g mX2_goOn d (0, 0, 0, 0) Q 39 [(0, .ref 29), (1, vi U), (2, vi hs), (3, vi (k))] [] (hp (vRow σ 29 f)) := by
  refine v_iload_n (pc := 39) dX2_goOn_39 rfl ?_
  refine v_if_eq (pc := 40) 52 dX2_goOn_40 (by decide) (by omega) (fun h40 => ?_) (fun h40 => ?_)
  · refine v_iinc (pc := 52) (1) dX2_goOn_52 rfl (by decide) (by decide) ?_
    refine v_goto (pc := 55) 2 dX2_goOn_55 (by decide) ?_
    exact v_lv (hL (by omega)) ⟨rfl, rfl, rfl, rfl, trivial⟩
  · refine v_aload_n (pc := 43) dX2_goOn_43 rfl ?_
    refine v_gIv (pc := 44) (f 13) dX2_goOn_44 fl_X2_45 rfl rfl ?_
    refine v_iconst (pc := 47) (-1) dX2_goOn_47 (by decide) ?_
    refine v_icmp_eq (pc := 48) 52 dX2_goOn_48 (by decide) (by omega) (by omega) (fun h48 => ?_) (fun h48 => ?_)
    · refine v_iinc (pc := 52) (1) dX2_goOn_52 rfl (by decide) (by decide) ?_
      refine v_goto (pc := 55) 2 dX2_goOn_55 (by decide) ?_
      exact v_lv (hL (by omega)) ⟨rfl, rfl, rfl, rfl, trivial⟩
    · refine v_return (pc := 51) dX2_goOn_51 rfl ⟨Nat.le_refl _, Nat.le_refl _⟩ ?_
      exact hX (by omega)
set_option maxHeartbeats 4000000 in
set_option maxRecDepth 100000 in
theorem l_goOn29 {g : vGl} {d : Nat} {Q : Option Value → List mC → Prop} {σ : vSt} {U hs : Int} (hd : 4 ≤ d) (hR : YR σ) (hS : WS σ) (hU : 0 ≤ U ∧ U ≤ 2000) (hh : hs = 0 ∨ hs = 1) : ∀ (n : Nat) (f : Nat → Int) (k : Int) (hk : k + n = 4) (hk0 : 0 ≤ k) (w : WF σ f) (hQ : Q none (hp (vRow σ 29 (fGo σ U hs n f)))), V g mX2_goOn d (0, 0, 0, 0) Q 2 [(0, .ref 29), (1, vi U), (2, vi hs), (3, vi (k))] [] (hp (vRow σ 29 f)) := by
  intro n
  induction n with
  | zero =>
    intro f k hk hk0 w hQ
    refine v_iload_n (pc := 2) dX2_goOn_2 rfl ?_
    refine v_iconst (pc := 3) (4) dX2_goOn_3 (by decide) ?_
    refine v_icmp_ge (pc := 4) 58 dX2_goOn_4 (by decide) (by omega) (by omega) (fun h4 => ?_) (fun h4 => by exfalso; omega)
    refine v_return (pc := 58) dX2_goOn_58 rfl ⟨Nat.le_refl _, Nat.le_refl _⟩ ?_
    exact hQ
  | succ n ih =>
    intro f k hk hk0 w hQ
    have rg := w.rng hR
    by_cases q : 0 < f 7 ∧ f 8 < U
    · have e0 : fGo σ U hs (n + 1) f = if hs = 1 ∧ ¬ fRd σ U hs f 13 = -1 then fRd σ U hs f else fGo σ U hs n (fRd σ U hs f) := if_pos q
      rw [e0] at hQ
      have lt := w.lt q.1
      have wb := fBs_WF (hs := hs) hS hU.2 (f 3).toNat f w lt
      have rb := wb.1.rng hR
      have wr := fRd_WF (hs := hs) hR hS hU.2 w lt
      have rr := wr.rng hR
      refine v_iload_n (pc := 2) dX2_goOn_2 rfl ?_
      refine v_iconst (pc := 3) (4) dX2_goOn_3 (by decide) ?_
      refine v_icmp_ge (pc := 4) 58 dX2_goOn_4 (by decide) (by omega) (by omega) (fun h4 => by exfalso; omega) (fun h4 => ?_)
      refine v_aload_n (pc := 7) dX2_goOn_7 rfl ?_
      refine v_cVi0 (pc := 8) (z := 0) (d' := d - 1) dX2_goOn_8 kX2_goesOn ml_X2_94 iwX2_goesOn swX2_goesOn rfl rfl (Nat.le_of_ble_eq_true rfl) (Nat.le_of_ble_eq_true rfl) (by omega) ⟨Nat.le_refl _, Nat.le_refl _⟩ ?_
      refine c_goesOn29 (by omega) (by omega) ?_
      rw [if_pos (show 0 < f 7 ∧ f 8 < 2000 by omega)]
      refine ⟨_, rfl, ?_⟩
      refine v_if_eq (pc := 11) 58 dX2_goOn_11 (by decide) (by omega) (fun h11 => by exfalso; omega) (fun h11 => ?_)
      refine v_aload_n (pc := 14) dX2_goOn_14 rfl ?_
      refine v_gIv (pc := 15) (f 8) dX2_goOn_15 fl_X2_30 rfl rfl ?_
      refine v_iload_n (pc := 18) dX2_goOn_18 rfl ?_
      refine v_icmp_ge (pc := 19) 58 dX2_goOn_19 (by decide) (by omega) (by omega) (fun h19 => by exfalso; omega) (fun h19 => ?_)
      refine v_aload_n (pc := 22) dX2_goOn_22 rfl ?_
      refine v_iload_n (pc := 23) dX2_goOn_23 rfl ?_
      refine v_iload_n (pc := 24) dX2_goOn_24 rfl ?_
      refine v_cVv2 (pc := 25) (z := 0) (d' := d - 1) dX2_goOn_25 kX2_burnLowest ml_X2_101 iwX2_burnLowest swX2_burnLowest rfl rfl (Nat.le_of_ble_eq_true rfl) (Nat.le_of_ble_eq_true rfl) (by omega) ⟨Nat.le_refl _, Nat.le_refl _⟩ ?_
      refine c_burn29 (by omega) hR hS hU hh w lt ?_
      refine ⟨rfl, ?_⟩
      refine v_aload_n (pc := 28) dX2_goOn_28 rfl ?_
      refine v_gIv (pc := 29) (fBs σ U hs (f 3).toNat f 3) dX2_goOn_29 fl_X2_15 rfl rfl ?_
      refine v_if_ne (pc := 32) 39 dX2_goOn_32 (by decide) (by omega) (fun h32 => ?_) (fun h32 => ?_)
      · refine v_row (f := fRd σ U hs f) (by unfold fRd; first | rw [if_pos (by omega)] | rw [if_neg (by omega)]) ?_
        refine l_go3929 hh (by omega) (fun x => ?_) (fun x => ?_)
        · rw [if_pos x] at hQ
          exact hQ
        · rw [if_neg x] at hQ
          exact ih _ _ (by omega) (by omega) wr hQ
      · refine v_aload_n (pc := 35) dX2_goOn_35 rfl ?_
        refine v_cVv0 (pc := 36) (z := 0) (d' := d - 1) dX2_goOn_36 kX2_dropLowest ml_X2_98 iwX2_dropLowest swX2_dropLowest rfl rfl (Nat.le_of_ble_eq_true rfl) (Nat.le_of_ble_eq_true rfl) (by omega) ⟨Nat.le_refl _, Nat.le_refl _⟩ ?_
        refine c_drop29 (by omega) hR (by omega) (by omega) ?_
        refine ⟨rfl, ?_⟩
        refine v_row (f := fRd σ U hs f) (by unfold fRd; first | rw [if_pos (by omega)] | rw [if_neg (by omega)]) ?_
        refine l_go3929 hh (by omega) (fun x => ?_) (fun x => ?_)
        · rw [if_pos x] at hQ
          exact hQ
        · rw [if_neg x] at hQ
          exact ih _ _ (by omega) (by omega) wr hQ
    · rw [fGo_stop q] at hQ
      refine v_iload_n (pc := 2) dX2_goOn_2 rfl ?_
      refine v_iconst (pc := 3) (4) dX2_goOn_3 (by decide) ?_
      refine v_icmp_ge (pc := 4) 58 dX2_goOn_4 (by decide) (by omega) (by omega) (fun h4 => by exfalso; omega) (fun h4 => ?_)
      refine v_aload_n (pc := 7) dX2_goOn_7 rfl ?_
      refine v_cVi0 (pc := 8) (z := 0) (d' := d - 1) dX2_goOn_8 kX2_goesOn ml_X2_94 iwX2_goesOn swX2_goesOn rfl rfl (Nat.le_of_ble_eq_true rfl) (Nat.le_of_ble_eq_true rfl) (by omega) ⟨Nat.le_refl _, Nat.le_refl _⟩ ?_
      refine c_goesOn29 (by omega) (by omega) ?_
      refine ⟨_, rfl, ?_⟩
      refine v_if_eq (pc := 11) 58 dX2_goOn_11 (by decide) (by omega) (fun h11 => ?_) (fun h11 => ?_)
      · refine v_return (pc := 58) dX2_goOn_58 rfl ⟨Nat.le_refl _, Nat.le_refl _⟩ ?_
        exact hQ
      · refine v_aload_n (pc := 14) dX2_goOn_14 rfl ?_
        refine v_gIv (pc := 15) (f 8) dX2_goOn_15 fl_X2_30 rfl rfl ?_
        refine v_iload_n (pc := 18) dX2_goOn_18 rfl ?_
        refine v_icmp_ge (pc := 19) 58 dX2_goOn_19 (by decide) (by omega) (by omega) (fun h19 => ?_) (fun h19 => ?_)
        · refine v_return (pc := 58) dX2_goOn_58 rfl ⟨Nat.le_refl _, Nat.le_refl _⟩ ?_
          exact hQ
        · exfalso; omega
set_option maxHeartbeats 4000000 in
set_option maxRecDepth 100000 in
theorem c_goOn29 {g : vGl} {d : Nat} {Q : Option Value → List mC → Prop} {σ : vSt} {f : Nat → Int} {U hs : Int} (hd : 4 ≤ d) (hR : YR σ) (hS : WS σ) (hU : 0 ≤ U ∧ U ≤ 2000) (hh : hs = 0 ∨ hs = 1) (w : WF σ f) (hQ : Q none (hp (vRow σ 29 (fGo σ U hs 4 f)))) : V g mX2_goOn d (0, 0, 0, 0) Q 0 [(0, .ref 29), (1, vi U), (2, vi hs)] [] (hp (vRow σ 29 f)) := by
  refine v_iconst (pc := 0) (0) dX2_goOn_0 (by decide) ?_
  refine v_istore_n (pc := 1) dX2_goOn_1 (by decide) ?_
  exact v_lv (l_goOn29 hd hR hS hU hh 4 f 0 (by decide) (by decide) w hQ) ⟨rfl, rfl, rfl, rfl, trivial⟩
set_option maxHeartbeats 4000000 in
set_option maxRecDepth 100000 in
theorem c_begin30 {g : vGl} {d : Nat} {Q : Option Value → List mC → Prop} {σ : vSt} {f : Nat → Int} (hd : 4 ≤ d) (hR : YR σ) (hQ : Q none (hp (vRow σ 30 (fBeg σ f)))) : V g mX2_begin d (0, 0, 0, 0) Q 0 [(0, .ref 30)] [] (hp (vRow σ 30 f)) := by
  obtain ⟨⟨r0, r1, r2, r3, r4, r5, r6, r7, r8, r9⟩, rE, rS, rT, rF⟩ := id hR
  refine v_aload_n (pc := 0) dX2_begin_0 rfl ?_
  refine v_iconst (pc := 1) (0) dX2_begin_1 (by decide) ?_
  refine v_pI (pc := 2) dX2_begin_2 fl_X2_9 rfl ?_
  refine v_aload_n (pc := 5) dX2_begin_5 rfl ?_
  refine v_aload_n (pc := 6) dX2_begin_6 rfl ?_
  refine v_gR (pc := 7) dX2_begin_7 fl_X2_48 rfl ?_
  refine v_iconst (pc := 10) (0) dX2_begin_10 (by decide) ?_
  refine v_cVi1 (pc := 11) (z := 0) (d' := d - 1) dX2_begin_11 kX4_massFrom ml_X2_56 iwX4_massFrom swX4_massFrom rfl rfl (Nat.le_of_ble_eq_true rfl) (Nat.le_of_ble_eq_true rfl) (by omega) ⟨Nat.le_refl _, Nat.le_refl _⟩ ?_
  refine c_X4_massFrom (k := 0) (by omega) (by exact hR) rfl (show (0 : Int) ≤ σ 10 6 by omega) ?_
  refine ⟨_, rfl, ?_⟩
  refine v_pI (pc := 14) dX2_begin_14 fl_X2_24 rfl ?_
  refine v_aload_n (pc := 17) dX2_begin_17 rfl ?_
  refine v_aload_n (pc := 18) dX2_begin_18 rfl ?_
  refine v_gR (pc := 19) dX2_begin_19 fl_X2_48 rfl ?_
  refine v_cVi0 (pc := 22) (z := 0) (d' := d - 1) dX2_begin_22 kX4_allStuff ml_X2_62 iwX4_allStuff swX4_allStuff rfl rfl (Nat.le_of_ble_eq_true rfl) (Nat.le_of_ble_eq_true rfl) (by omega) ⟨Nat.le_refl _, Nat.le_refl _⟩ ?_
  refine c_X4_allStuff (by exact hR) ?_
  refine ⟨_, rfl, ?_⟩
  refine v_pI (pc := 25) dX2_begin_25 fl_X2_27 rfl ?_
  refine v_aload_n (pc := 28) dX2_begin_28 rfl ?_
  refine v_iconst (pc := 29) (0) dX2_begin_29 (by decide) ?_
  refine v_pI (pc := 30) dX2_begin_30 fl_X2_30 rfl ?_
  refine v_aload_n (pc := 33) dX2_begin_33 rfl ?_
  refine v_iconst (pc := 34) (0) dX2_begin_34 (by decide) ?_
  refine v_pI (pc := 35) dX2_begin_35 fl_X2_33 rfl ?_
  refine v_aload_n (pc := 38) dX2_begin_38 rfl ?_
  refine v_iconst (pc := 39) (0) dX2_begin_39 (by decide) ?_
  refine v_pI (pc := 40) dX2_begin_40 fl_X2_36 rfl ?_
  refine v_aload_n (pc := 43) dX2_begin_43 rfl ?_
  refine v_iconst (pc := 44) (0) dX2_begin_44 (by decide) ?_
  refine v_pI (pc := 45) dX2_begin_45 fl_X2_39 rfl ?_
  refine v_aload_n (pc := 48) dX2_begin_48 rfl ?_
  refine v_iconst (pc := 49) (0) dX2_begin_49 (by decide) ?_
  refine v_pI (pc := 50) dX2_begin_50 fl_X2_42 rfl ?_
  refine v_aload_n (pc := 53) dX2_begin_53 rfl ?_
  refine v_iconst (pc := 54) (-1) dX2_begin_54 (by decide) ?_
  refine v_pI (pc := 55) dX2_begin_55 fl_X2_45 rfl ?_
  refine v_aload_n (pc := 58) dX2_begin_58 rfl ?_
  refine v_cVv0 (pc := 59) (z := 0) (d' := d - 1) dX2_begin_59 kX2_readyLowest ml_X2_66 iwX2_readyLowest swX2_readyLowest rfl rfl (Nat.le_of_ble_eq_true rfl) (Nat.le_of_ble_eq_true rfl) (by omega) ⟨Nat.le_refl _, Nat.le_refl _⟩ ?_
  rw [vRow_up, vRow_up, vRow_up, vRow_up, vRow_up, vRow_up, vRow_up, vRow_up, vRow_up]
  refine c_ready30 (by omega) hR (show (0 : Int) ≤ 0 by omega) (show (0 : Int) ≤ 10 by omega) ?_
  refine ⟨rfl, ?_⟩
  refine v_return (pc := 62) dX2_begin_62 rfl ⟨Nat.le_refl _, Nat.le_refl _⟩ ?_
  refine q_row hQ ?_
  show fRdy σ 0 _ = fRdy σ 0 _
  congr 1
  funext j
  unfold qUp
  show (if j = 13 then -1 else if j = 12 then 0 else if j = 11 then 0 else if j = 10 then 0 else if j = 9 then 0 else if j = 8 then 0 else if j = 7 then qSum (σ 13) (σ 10 6).toNat 0 else if j = 6 then yMass σ 0 else if j = 2 then 0 else f j) = _
  omega
set_option maxHeartbeats 4000000 in
set_option maxRecDepth 100000 in
theorem l_go3930 {g : vGl} {d : Nat} {Q : Option Value → List mC → Prop} {σ : vSt} {f : Nat → Int} {U hs k : Int} (hh : hs = 0 ∨ hs = 1) (h13 : vr (f 13)) (hX : (hs = 1 ∧ ¬ f 13 = -1) → Q none (hp (vRow σ 30 f))) (hL : ¬ (hs = 1 ∧ ¬ f 13 = -1) → V g mX2_goOn d (0, 0, 0, 0) Q 2 [(0, .ref 30), (1, vi U), (2, vi hs), (3, vi (k + 1))] [] (hp (vRow σ 30 f))) : V g mX2_goOn d (0, 0, 0, 0) Q 39 [(0, .ref 30), (1, vi U), (2, vi hs), (3, vi (k))] [] (hp (vRow σ 30 f)) := by
  refine v_iload_n (pc := 39) dX2_goOn_39 rfl ?_
  refine v_if_eq (pc := 40) 52 dX2_goOn_40 (by decide) (by omega) (fun h40 => ?_) (fun h40 => ?_)
  · refine v_iinc (pc := 52) (1) dX2_goOn_52 rfl (by decide) (by decide) ?_
    refine v_goto (pc := 55) 2 dX2_goOn_55 (by decide) ?_
    exact v_lv (hL (by omega)) ⟨rfl, rfl, rfl, rfl, trivial⟩
  · refine v_aload_n (pc := 43) dX2_goOn_43 rfl ?_
    refine v_gIv (pc := 44) (f 13) dX2_goOn_44 fl_X2_45 rfl rfl ?_
    refine v_iconst (pc := 47) (-1) dX2_goOn_47 (by decide) ?_
    refine v_icmp_eq (pc := 48) 52 dX2_goOn_48 (by decide) (by omega) (by omega) (fun h48 => ?_) (fun h48 => ?_)
    · refine v_iinc (pc := 52) (1) dX2_goOn_52 rfl (by decide) (by decide) ?_
      refine v_goto (pc := 55) 2 dX2_goOn_55 (by decide) ?_
      exact v_lv (hL (by omega)) ⟨rfl, rfl, rfl, rfl, trivial⟩
    · refine v_return (pc := 51) dX2_goOn_51 rfl ⟨Nat.le_refl _, Nat.le_refl _⟩ ?_
      exact hX (by omega)
set_option maxHeartbeats 4000000 in
set_option maxRecDepth 100000 in
theorem l_goOn30 {g : vGl} {d : Nat} {Q : Option Value → List mC → Prop} {σ : vSt} {U hs : Int} (hd : 4 ≤ d) (hR : YR σ) (hS : WS σ) (hU : 0 ≤ U ∧ U ≤ 2000) (hh : hs = 0 ∨ hs = 1) : ∀ (n : Nat) (f : Nat → Int) (k : Int) (hk : k + n = 4) (hk0 : 0 ≤ k) (w : WF σ f) (hQ : Q none (hp (vRow σ 30 (fGo σ U hs n f)))), V g mX2_goOn d (0, 0, 0, 0) Q 2 [(0, .ref 30), (1, vi U), (2, vi hs), (3, vi (k))] [] (hp (vRow σ 30 f)) := by
  intro n
  induction n with
  | zero =>
    intro f k hk hk0 w hQ
    refine v_iload_n (pc := 2) dX2_goOn_2 rfl ?_
    refine v_iconst (pc := 3) (4) dX2_goOn_3 (by decide) ?_
    refine v_icmp_ge (pc := 4) 58 dX2_goOn_4 (by decide) (by omega) (by omega) (fun h4 => ?_) (fun h4 => by exfalso; omega)
    refine v_return (pc := 58) dX2_goOn_58 rfl ⟨Nat.le_refl _, Nat.le_refl _⟩ ?_
    exact hQ
  | succ n ih =>
    intro f k hk hk0 w hQ
    have rg := w.rng hR
    by_cases q : 0 < f 7 ∧ f 8 < U
    · have e0 : fGo σ U hs (n + 1) f = if hs = 1 ∧ ¬ fRd σ U hs f 13 = -1 then fRd σ U hs f else fGo σ U hs n (fRd σ U hs f) := if_pos q
      rw [e0] at hQ
      have lt := w.lt q.1
      have wb := fBs_WF (hs := hs) hS hU.2 (f 3).toNat f w lt
      have rb := wb.1.rng hR
      have wr := fRd_WF (hs := hs) hR hS hU.2 w lt
      have rr := wr.rng hR
      refine v_iload_n (pc := 2) dX2_goOn_2 rfl ?_
      refine v_iconst (pc := 3) (4) dX2_goOn_3 (by decide) ?_
      refine v_icmp_ge (pc := 4) 58 dX2_goOn_4 (by decide) (by omega) (by omega) (fun h4 => by exfalso; omega) (fun h4 => ?_)
      refine v_aload_n (pc := 7) dX2_goOn_7 rfl ?_
      refine v_cVi0 (pc := 8) (z := 0) (d' := d - 1) dX2_goOn_8 kX2_goesOn ml_X2_94 iwX2_goesOn swX2_goesOn rfl rfl (Nat.le_of_ble_eq_true rfl) (Nat.le_of_ble_eq_true rfl) (by omega) ⟨Nat.le_refl _, Nat.le_refl _⟩ ?_
      refine c_goesOn30 (by omega) (by omega) ?_
      rw [if_pos (show 0 < f 7 ∧ f 8 < 2000 by omega)]
      refine ⟨_, rfl, ?_⟩
      refine v_if_eq (pc := 11) 58 dX2_goOn_11 (by decide) (by omega) (fun h11 => by exfalso; omega) (fun h11 => ?_)
      refine v_aload_n (pc := 14) dX2_goOn_14 rfl ?_
      refine v_gIv (pc := 15) (f 8) dX2_goOn_15 fl_X2_30 rfl rfl ?_
      refine v_iload_n (pc := 18) dX2_goOn_18 rfl ?_
      refine v_icmp_ge (pc := 19) 58 dX2_goOn_19 (by decide) (by omega) (by omega) (fun h19 => by exfalso; omega) (fun h19 => ?_)
      refine v_aload_n (pc := 22) dX2_goOn_22 rfl ?_
      refine v_iload_n (pc := 23) dX2_goOn_23 rfl ?_
      refine v_iload_n (pc := 24) dX2_goOn_24 rfl ?_
      refine v_cVv2 (pc := 25) (z := 0) (d' := d - 1) dX2_goOn_25 kX2_burnLowest ml_X2_101 iwX2_burnLowest swX2_burnLowest rfl rfl (Nat.le_of_ble_eq_true rfl) (Nat.le_of_ble_eq_true rfl) (by omega) ⟨Nat.le_refl _, Nat.le_refl _⟩ ?_
      refine c_burn30 (by omega) hR hS hU hh w lt ?_
      refine ⟨rfl, ?_⟩
      refine v_aload_n (pc := 28) dX2_goOn_28 rfl ?_
      refine v_gIv (pc := 29) (fBs σ U hs (f 3).toNat f 3) dX2_goOn_29 fl_X2_15 rfl rfl ?_
      refine v_if_ne (pc := 32) 39 dX2_goOn_32 (by decide) (by omega) (fun h32 => ?_) (fun h32 => ?_)
      · refine v_row (f := fRd σ U hs f) (by unfold fRd; first | rw [if_pos (by omega)] | rw [if_neg (by omega)]) ?_
        refine l_go3930 hh (by omega) (fun x => ?_) (fun x => ?_)
        · rw [if_pos x] at hQ
          exact hQ
        · rw [if_neg x] at hQ
          exact ih _ _ (by omega) (by omega) wr hQ
      · refine v_aload_n (pc := 35) dX2_goOn_35 rfl ?_
        refine v_cVv0 (pc := 36) (z := 0) (d' := d - 1) dX2_goOn_36 kX2_dropLowest ml_X2_98 iwX2_dropLowest swX2_dropLowest rfl rfl (Nat.le_of_ble_eq_true rfl) (Nat.le_of_ble_eq_true rfl) (by omega) ⟨Nat.le_refl _, Nat.le_refl _⟩ ?_
        refine c_drop30 (by omega) hR (by omega) (by omega) ?_
        refine ⟨rfl, ?_⟩
        refine v_row (f := fRd σ U hs f) (by unfold fRd; first | rw [if_pos (by omega)] | rw [if_neg (by omega)]) ?_
        refine l_go3930 hh (by omega) (fun x => ?_) (fun x => ?_)
        · rw [if_pos x] at hQ
          exact hQ
        · rw [if_neg x] at hQ
          exact ih _ _ (by omega) (by omega) wr hQ
    · rw [fGo_stop q] at hQ
      refine v_iload_n (pc := 2) dX2_goOn_2 rfl ?_
      refine v_iconst (pc := 3) (4) dX2_goOn_3 (by decide) ?_
      refine v_icmp_ge (pc := 4) 58 dX2_goOn_4 (by decide) (by omega) (by omega) (fun h4 => by exfalso; omega) (fun h4 => ?_)
      refine v_aload_n (pc := 7) dX2_goOn_7 rfl ?_
      refine v_cVi0 (pc := 8) (z := 0) (d' := d - 1) dX2_goOn_8 kX2_goesOn ml_X2_94 iwX2_goesOn swX2_goesOn rfl rfl (Nat.le_of_ble_eq_true rfl) (Nat.le_of_ble_eq_true rfl) (by omega) ⟨Nat.le_refl _, Nat.le_refl _⟩ ?_
      refine c_goesOn30 (by omega) (by omega) ?_
      refine ⟨_, rfl, ?_⟩
      refine v_if_eq (pc := 11) 58 dX2_goOn_11 (by decide) (by omega) (fun h11 => ?_) (fun h11 => ?_)
      · refine v_return (pc := 58) dX2_goOn_58 rfl ⟨Nat.le_refl _, Nat.le_refl _⟩ ?_
        exact hQ
      · refine v_aload_n (pc := 14) dX2_goOn_14 rfl ?_
        refine v_gIv (pc := 15) (f 8) dX2_goOn_15 fl_X2_30 rfl rfl ?_
        refine v_iload_n (pc := 18) dX2_goOn_18 rfl ?_
        refine v_icmp_ge (pc := 19) 58 dX2_goOn_19 (by decide) (by omega) (by omega) (fun h19 => ?_) (fun h19 => ?_)
        · refine v_return (pc := 58) dX2_goOn_58 rfl ⟨Nat.le_refl _, Nat.le_refl _⟩ ?_
          exact hQ
        · exfalso; omega
set_option maxHeartbeats 4000000 in
set_option maxRecDepth 100000 in
theorem c_goOn30 {g : vGl} {d : Nat} {Q : Option Value → List mC → Prop} {σ : vSt} {f : Nat → Int} {U hs : Int} (hd : 4 ≤ d) (hR : YR σ) (hS : WS σ) (hU : 0 ≤ U ∧ U ≤ 2000) (hh : hs = 0 ∨ hs = 1) (w : WF σ f) (hQ : Q none (hp (vRow σ 30 (fGo σ U hs 4 f)))) : V g mX2_goOn d (0, 0, 0, 0) Q 0 [(0, .ref 30), (1, vi U), (2, vi hs)] [] (hp (vRow σ 30 f)) := by
  refine v_iconst (pc := 0) (0) dX2_goOn_0 (by decide) ?_
  refine v_istore_n (pc := 1) dX2_goOn_1 (by decide) ?_
  exact v_lv (l_goOn30 hd hR hS hU hh 4 f 0 (by decide) (by decide) w hQ) ⟨rfl, rfl, rfl, rfl, trivial⟩
set_option maxHeartbeats 4000000 in
set_option maxRecDepth 100000 in
theorem l_lose3230 {g : vGl} {d : Nat} {Q : Option Value → List mC → Prop} {σ : vSt} {f : Nat → Int} (hd : 4 ≤ d) (hR : YR σ) (h2 : 0 ≤ f 2) (h3 : f 2 < σ 10 6) (h4 : 0 ≤ f 4 ∧ f 4 ≤ 9) (hQ : Q none (hp (vRow σ 30 (fLs σ f)))) : V g mX2_loseEngine d (0, 0, 0, 0) Q 32 [(0, .ref 30)] [] (hp (vRow σ 30 f)) := by
  refine v_aload_n (pc := 32) dX2_loseEngine_32 rfl ?_
  refine v_dup (pc := 33) dX2_loseEngine_33 rfl ?_
  refine v_gIv (pc := 34) (f 4) dX2_loseEngine_34 fl_X2_18 rfl rfl ?_
  refine v_iconst (pc := 37) (1) dX2_loseEngine_37 (by decide) ?_
  refine v_isub (pc := 38) dX2_loseEngine_38 ?_
  refine v_pI (pc := 39) dX2_loseEngine_39 fl_X2_18 rfl ?_
  refine v_aload_n (pc := 42) dX2_loseEngine_42 rfl ?_
  refine v_gIv (pc := 43) (f 4 - 1) dX2_loseEngine_43 fl_X2_18 rfl rfl ?_
  refine v_iconst (pc := 46) (1) dX2_loseEngine_46 (by decide) ?_
  refine v_icmp_ge (pc := 47) 54 dX2_loseEngine_47 (by decide) (by omega) (by omega) (fun h47 => ?_) (fun h47 => ?_)
  · refine v_return (pc := 54) dX2_loseEngine_54 rfl ⟨Nat.le_refl _, Nat.le_refl _⟩ ?_
    (try rw [vRow_up])
    refine q_row hQ ?_
    unfold fLs
    first | rw [if_pos (by omega)] | rw [if_neg (by omega)]
  · refine v_aload_n (pc := 50) dX2_loseEngine_50 rfl ?_
    refine v_cVv0 (pc := 51) (z := 0) (d' := d - 1) dX2_loseEngine_51 kX2_dropLowest ml_X2_98 iwX2_dropLowest swX2_dropLowest rfl rfl (Nat.le_of_ble_eq_true rfl) (Nat.le_of_ble_eq_true rfl) (by omega) ⟨Nat.le_refl _, Nat.le_refl _⟩ ?_
    rw [vRow_up]
    refine c_drop30 (by omega) hR (by exact h2) (by exact h3) ?_
    refine ⟨rfl, ?_⟩
    refine v_return (pc := 54) dX2_loseEngine_54 rfl ⟨Nat.le_refl _, Nat.le_refl _⟩ ?_
    (try rw [vRow_up])
    refine q_row hQ ?_
    unfold fLs
    first | rw [if_pos (by omega)] | rw [if_neg (by omega)]
set_option maxHeartbeats 4000000 in
set_option maxRecDepth 100000 in
theorem l_lose30 {g : vGl} {d : Nat} {Q : Option Value → List mC → Prop} {σ : vSt} (hd : 4 ≤ d) (hR : YR σ) : ∀ (n : Nat) (f : Nat → Int) (k : Int) (hk : k + n = 4) (hk0 : 0 ≤ k) (hn : σ 10 6 ≤ f 2 + n) (w : WF σ f) (h7 : 0 < f 7) (K : V g mX2_loseEngine d (0, 0, 0, 0) Q 32 [(0, .ref 30)] [] (hp (vRow σ 30 (fZ σ n f)))), V g mX2_loseEngine d (0, 0, 0, 0) Q 10 [(0, .ref 30), (1, vi k)] [] (hp (vRow σ 30 f)) := by
  intro n
  induction n with
  | zero =>
    intro f k hk hk0 hn w h7 K
    have := w.lt h7
    exfalso
    omega
  | succ n ih =>
    intro f k hk hk0 hn w h7 K
    have rg := w.rng hR
    have lt := w.lt h7
    refine v_iload_n (pc := 10) dX2_loseEngine_10 rfl ?_
    refine v_iconst (pc := 11) (4) dX2_loseEngine_11 (by decide) ?_
    refine v_icmp_ge (pc := 12) 32 dX2_loseEngine_12 (by decide) (by omega) (by omega) (fun h12 => by exfalso; omega) (fun h12 => ?_)
    refine v_aload_n (pc := 15) dX2_loseEngine_15 rfl ?_
    refine v_gIv (pc := 16) (f 3) dX2_loseEngine_16 fl_X2_15 rfl rfl ?_
    refine v_if_ne (pc := 19) 32 dX2_loseEngine_19 (by decide) (by omega) (fun h19 => ?_) (fun h19 => ?_)
    · have e0 : fZ σ (n + 1) f = f := if_neg (by omega)
      rw [e0] at K
      exact v_lv K ⟨rfl, trivial⟩
    · refine v_aload_n (pc := 22) dX2_loseEngine_22 rfl ?_
      refine v_cVv0 (pc := 23) (z := 0) (d' := d - 1) dX2_loseEngine_23 kX2_dropLowest ml_X2_98 iwX2_dropLowest swX2_dropLowest rfl rfl (Nat.le_of_ble_eq_true rfl) (Nat.le_of_ble_eq_true rfl) (by omega) ⟨Nat.le_refl _, Nat.le_refl _⟩ ?_
      refine c_drop30 (by omega) hR (by omega) (by omega) ?_
      refine ⟨rfl, ?_⟩
      refine v_iinc (pc := 26) (1) dX2_loseEngine_26 rfl (by decide) (by decide) ?_
      refine v_goto (pc := 29) 10 dX2_loseEngine_29 (by decide) ?_
      have z : f 3 = 0 := by omega
      have e0 : fZ σ (n + 1) f = fZ σ n (fD σ f) := if_pos z
      rw [e0] at K
      obtain ⟨d1, d2, d3, d4⟩ := WF_D hR w.1 w.2.2 lt
      exact v_lv (ih (fD σ f) (k + 1) (by omega) (by omega) (by omega) d1 (by omega) K) ⟨rfl, rfl, trivial⟩
set_option maxHeartbeats 4000000 in
set_option maxRecDepth 100000 in
theorem c_lose30 {g : vGl} {d : Nat} {Q : Option Value → List mC → Prop} {σ : vSt} {f : Nat → Int} (hd : 5 ≤ d) (hR : YR σ) (w : WF σ f) (hQ : Q none (hp (vRow σ 30 (fLose σ f)))) : V g mX2_loseEngine d (0, 0, 0, 0) Q 0 [(0, .ref 30)] [] (hp (vRow σ 30 f)) := by
  obtain ⟨⟨r0, r1, r2, r3, r4, r5, r6, r7, r8, r9⟩, rE, rS, rT, rF⟩ := id hR
  have rg := w.rng hR
  by_cases q : 0 < f 7 ∧ f 8 < 2000
  · have e0 : fLose σ f = fLs σ (fZ σ 4 f) := if_pos q
    rw [e0] at hQ
    obtain ⟨i1, i2, i3, i4, i5, -⟩ := fZ_ok hR 4 f (by omega) w q.1
    have rz := i1.rng hR
    refine v_aload_n (pc := 0) dX2_loseEngine_0 rfl ?_
    refine v_cVi0 (pc := 1) (z := 0) (d' := d - 1) dX2_loseEngine_1 kX2_goesOn ml_X2_94 iwX2_goesOn swX2_goesOn rfl rfl (Nat.le_of_ble_eq_true rfl) (Nat.le_of_ble_eq_true rfl) (by omega) ⟨Nat.le_refl _, Nat.le_refl _⟩ ?_
    refine c_goesOn30 (by omega) (by omega) ?_
    rw [if_pos q]
    refine ⟨_, rfl, ?_⟩
    refine v_if_ne (pc := 4) 8 dX2_loseEngine_4 (by decide) (by omega) (fun h4 => ?_) (fun h4 => by exfalso; omega)
    refine v_iconst (pc := 8) (0) dX2_loseEngine_8 (by decide) ?_
    refine v_istore_n (pc := 9) dX2_loseEngine_9 (by decide) ?_
    exact v_lv (l_lose30 (by omega) hR 4 f 0 (by decide) (by decide) (by omega) w q.1 (l_lose3230 (by omega) hR (by omega) i3 (by omega) hQ)) ⟨rfl, rfl, trivial⟩
  · have e0 : fLose σ f = f := if_neg q
    rw [e0] at hQ
    refine v_aload_n (pc := 0) dX2_loseEngine_0 rfl ?_
    refine v_cVi0 (pc := 1) (z := 0) (d' := d - 1) dX2_loseEngine_1 kX2_goesOn ml_X2_94 iwX2_goesOn swX2_goesOn rfl rfl (Nat.le_of_ble_eq_true rfl) (Nat.le_of_ble_eq_true rfl) (by omega) ⟨Nat.le_refl _, Nat.le_refl _⟩ ?_
    refine c_goesOn30 (by omega) (by omega) ?_
    rw [if_neg q]
    refine ⟨_, rfl, ?_⟩
    refine v_if_ne (pc := 4) 8 dX2_loseEngine_4 (by decide) (by omega) (fun h4 => by exfalso; omega) (fun h4 => ?_)
    refine v_return (pc := 7) dX2_loseEngine_7 rfl ⟨Nat.le_refl _, Nat.le_refl _⟩ ?_
    exact hQ
set_option maxHeartbeats 4000000 in
set_option maxRecDepth 100000 in
theorem c_copy {g : vGl} {d : Nat} {Q : Option Value → List mC → Prop} {σ : vSt} {f h : Nat → Int} (hQ : Q none (hp (vRow (vRow σ 29 f) 30 f))) : V g mX2_copyOf d (0, 0, 0, 0) Q 0 [(0, .ref 30), (1, .ref 29)] [] (hp (vRow (vRow σ 29 f) 30 h)) := by
  refine v_aload_n (pc := 0) dX2_copyOf_0 rfl ?_
  refine v_aload_n (pc := 1) dX2_copyOf_1 rfl ?_
  refine v_gIv (pc := 2) (f 2) dX2_copyOf_2 fl_X2_9 rfl rfl ?_
  refine v_pI (pc := 5) dX2_copyOf_5 fl_X2_9 rfl ?_
  refine v_aload_n (pc := 8) dX2_copyOf_8 rfl ?_
  refine v_aload_n (pc := 9) dX2_copyOf_9 rfl ?_
  refine v_gIv (pc := 10) (f 3) dX2_copyOf_10 fl_X2_15 rfl rfl ?_
  refine v_pI (pc := 13) dX2_copyOf_13 fl_X2_15 rfl ?_
  refine v_aload_n (pc := 16) dX2_copyOf_16 rfl ?_
  refine v_aload_n (pc := 17) dX2_copyOf_17 rfl ?_
  refine v_gIv (pc := 18) (f 4) dX2_copyOf_18 fl_X2_18 rfl rfl ?_
  refine v_pI (pc := 21) dX2_copyOf_21 fl_X2_18 rfl ?_
  refine v_aload_n (pc := 24) dX2_copyOf_24 rfl ?_
  refine v_aload_n (pc := 25) dX2_copyOf_25 rfl ?_
  refine v_gIv (pc := 26) (f 5) dX2_copyOf_26 fl_X2_21 rfl rfl ?_
  refine v_pI (pc := 29) dX2_copyOf_29 fl_X2_21 rfl ?_
  refine v_aload_n (pc := 32) dX2_copyOf_32 rfl ?_
  refine v_aload_n (pc := 33) dX2_copyOf_33 rfl ?_
  refine v_gIv (pc := 34) (f 6) dX2_copyOf_34 fl_X2_24 rfl rfl ?_
  refine v_pI (pc := 37) dX2_copyOf_37 fl_X2_24 rfl ?_
  refine v_aload_n (pc := 40) dX2_copyOf_40 rfl ?_
  refine v_aload_n (pc := 41) dX2_copyOf_41 rfl ?_
  refine v_gIv (pc := 42) (f 7) dX2_copyOf_42 fl_X2_27 rfl rfl ?_
  refine v_pI (pc := 45) dX2_copyOf_45 fl_X2_27 rfl ?_
  refine v_aload_n (pc := 48) dX2_copyOf_48 rfl ?_
  refine v_aload_n (pc := 49) dX2_copyOf_49 rfl ?_
  refine v_gIv (pc := 50) (f 8) dX2_copyOf_50 fl_X2_30 rfl rfl ?_
  refine v_pI (pc := 53) dX2_copyOf_53 fl_X2_30 rfl ?_
  refine v_aload_n (pc := 56) dX2_copyOf_56 rfl ?_
  refine v_aload_n (pc := 57) dX2_copyOf_57 rfl ?_
  refine v_gIv (pc := 58) (f 9) dX2_copyOf_58 fl_X2_33 rfl rfl ?_
  refine v_pI (pc := 61) dX2_copyOf_61 fl_X2_33 rfl ?_
  refine v_aload_n (pc := 64) dX2_copyOf_64 rfl ?_
  refine v_aload_n (pc := 65) dX2_copyOf_65 rfl ?_
  refine v_gIv (pc := 66) (f 10) dX2_copyOf_66 fl_X2_36 rfl rfl ?_
  refine v_pI (pc := 69) dX2_copyOf_69 fl_X2_36 rfl ?_
  refine v_aload_n (pc := 72) dX2_copyOf_72 rfl ?_
  refine v_aload_n (pc := 73) dX2_copyOf_73 rfl ?_
  refine v_gIv (pc := 74) (f 11) dX2_copyOf_74 fl_X2_39 rfl rfl ?_
  refine v_pI (pc := 77) dX2_copyOf_77 fl_X2_39 rfl ?_
  refine v_aload_n (pc := 80) dX2_copyOf_80 rfl ?_
  refine v_aload_n (pc := 81) dX2_copyOf_81 rfl ?_
  refine v_gIv (pc := 82) (f 12) dX2_copyOf_82 fl_X2_42 rfl rfl ?_
  refine v_pI (pc := 85) dX2_copyOf_85 fl_X2_42 rfl ?_
  refine v_aload_n (pc := 88) dX2_copyOf_88 rfl ?_
  refine v_aload_n (pc := 89) dX2_copyOf_89 rfl ?_
  refine v_gIv (pc := 90) (f 13) dX2_copyOf_90 fl_X2_45 rfl rfl ?_
  refine v_pI (pc := 93) dX2_copyOf_93 fl_X2_45 rfl ?_
  refine v_return (pc := 96) dX2_copyOf_96 rfl ⟨Nat.le_refl _, Nat.le_refl _⟩ ?_
  rw [vRow_up, vRow_up, vRow_up, vRow_up, vRow_up, vRow_up, vRow_up, vRow_up, vRow_up, vRow_up, vRow_up, vRow_up]
  refine q_hp hQ (hp_fl (fun p j hpj => by rw [vRow_o hpj, vRow_o hpj]) (fun j a b => ?_))
  rw [vRow_s, vRow_s]
  rcases (show j = 2 ∨ j = 3 ∨ j = 4 ∨ j = 5 ∨ j = 6 ∨ j = 7 ∨ j = 8 ∨ j = 9 ∨ j = 10 ∨ j = 11 ∨ j = 12 ∨ j = 13 by omega) with rfl | rfl | rfl | rfl | rfl | rfl | rfl | rfl | rfl | rfl | rfl | rfl <;> rfl
set_option maxHeartbeats 4000000 in
set_option maxRecDepth 100000 in
theorem c_X8_fly {g : vGl} {d : Nat} {Q : Option Value → List mC → Prop} {σ : vSt} (hd : 6 ≤ d) (hR : YR σ) (hS : WS σ) (hE : qSum (σ 13) (σ 10 6).toNat 0 = 0 → Q (some (vi (-3))) (hp σ)) (hQ : ¬ qSum (σ 13) (σ 10 6).toNat 0 = 0 → Q (some (vi (fBk σ (fGo σ 2000 0 4 (fBeg σ (σ 28)))))) (hp (vRow (vU σ 1 9 1) 28 (fGo σ 2000 0 4 (fBeg σ (σ 28)))))) : V g mX8_fly d (0, 0, 0, 0) Q 0 [(0, .ref 1)] [] (hp σ) := by
  obtain ⟨⟨r0, r1, r2, r3, r4, r5, r6, r7, r8, r9⟩, rE, rS, rT, rF⟩ := id hR
  have sb := qSum_bound (f := σ 13) (B := 600) (fun j => by have := rS j; omega) (σ 10 6).toNat 0
  have sb2 : ((σ 10 6).toNat : Int) * 600 ≤ 4 * 600 := Int.mul_le_mul_of_nonneg_right (by omega) (by omega)
  refine v_aload_n (pc := 0) dX8_fly_0 rfl ?_
  refine v_gR (pc := 1) dX8_fly_1 fl_X8_25 rfl ?_
  refine v_cVi0 (pc := 4) (z := 0) (d' := d - 1) dX8_fly_4 kX4_allStuff ml_X8_174 iwX4_allStuff swX4_allStuff rfl rfl (Nat.le_of_ble_eq_true rfl) (Nat.le_of_ble_eq_true rfl) (by omega) ⟨Nat.le_refl _, Nat.le_refl _⟩ ?_
  refine c_X4_allStuff hR ?_
  refine ⟨_, rfl, ?_⟩
  refine v_if_ne (pc := 7) 13 dX8_fly_7 (by decide) (by omega) (fun h7 => ?_) (fun h7 => ?_)
  · have hs0 : ¬ qSum (σ 13) (σ 10 6).toNat 0 = 0 := by omega
    have hN : 0 < σ 10 6 := by
      rcases (show 0 < σ 10 6 ∨ σ 10 6 = 0 by omega) with t | t
      · exact t
      · exfalso; apply hs0; rw [t]; rfl
    have w0 := WF_Beg (f := σ 28) hR hS hN
    have wg : WF σ (fGo σ 2000 0 4 (fBeg σ (σ 28))) := by
      obtain ⟨n, hn⟩ := fGo_ok (U := 2000) (hs := 0) hR hS (Int.le_refl _) w0 (fun x => absurd x (by decide))
      exact (fR_WF hR hS (Int.le_refl _) n _ hn w0).1
    have rg := wg.rng hR
    refine v_sg (vRow_self σ 28).symm ?_
    refine v_aload_n (pc := 13) dX8_fly_13 rfl ?_
    refine v_gR (pc := 14) dX8_fly_14 fl_X8_60 rfl ?_
    refine v_cVv0 (pc := 17) (z := 0) (d' := d - 1) dX8_fly_17 kX2_begin ml_X8_178 iwX2_begin swX2_begin rfl rfl (Nat.le_of_ble_eq_true rfl) (Nat.le_of_ble_eq_true rfl) (by omega) ⟨Nat.le_refl _, Nat.le_refl _⟩ ?_
    refine c_begin28 (by omega) hR ?_
    refine ⟨rfl, ?_⟩
    refine v_aload_n (pc := 20) dX8_fly_20 rfl ?_
    refine v_gR (pc := 21) dX8_fly_21 fl_X8_60 rfl ?_
    refine v_sipush (pc := 24) (2000) dX8_fly_24 (by decide) ?_
    refine v_iconst (pc := 27) (0) dX8_fly_27 (by decide) ?_
    refine v_cVv2 (pc := 28) (z := 0) (d' := d - 1) dX8_fly_28 kX2_goOn ml_X8_181 iwX2_goOn swX2_goOn rfl rfl (Nat.le_of_ble_eq_true rfl) (Nat.le_of_ble_eq_true rfl) (by omega) ⟨Nat.le_refl _, Nat.le_refl _⟩ ?_
    refine c_goOn28 (by omega) hR hS (by omega) (Or.inl rfl) w0 ?_
    refine ⟨rfl, ?_⟩
    refine v_aload_n (pc := 31) dX8_fly_31 rfl ?_
    refine v_iconst (pc := 32) (1) dX8_fly_32 (by decide) ?_
    refine v_pZ (pc := 33) dX8_fly_33 fl_X8_70 rfl (by omega) ?_
    refine v_aload_n (pc := 36) dX8_fly_36 rfl ?_
    refine v_gR (pc := 37) dX8_fly_37 fl_X8_60 rfl ?_
    refine v_cVi0 (pc := 40) (z := 0) (d' := d - 1) dX8_fly_40 kX2_breakNow ml_X8_185 iwX2_breakNow swX2_breakNow rfl rfl (Nat.le_of_ble_eq_true rfl) (Nat.le_of_ble_eq_true rfl) (by omega) ⟨Nat.le_refl _, Nat.le_refl _⟩ ?_
    rw [vU_row_o (by decide)]
    refine c_break28 (by exact hS) (by omega) (by omega) (by omega) ?_
    refine ⟨_, rfl, ?_⟩
    refine v_ireturn (pc := 43) dX8_fly_43 rfl rfl ⟨Nat.le_refl _, Nat.le_refl _⟩ ?_
    exact hQ hs0
  · refine v_bipush (pc := 10) (-3) dX8_fly_10 (by decide) ?_
    refine v_ireturn (pc := 12) dX8_fly_12 rfl rfl ⟨Nat.le_refl _, Nat.le_refl _⟩ ?_
    exact hE (by omega)
set_option maxHeartbeats 4000000 in
set_option maxRecDepth 100000 in
theorem c_X8_out {g : vGl} {d : Nat} {Q : Option Value → List mC → Prop} {σ : vSt} {t : Int} (ht : vr t) (hd : 7 ≤ d) (hR : YR σ) (hS : WS σ) (hB : ¬ (0 ≤ t ∧ t ≤ 1999) → Q (some (vi (-2))) (hp σ)) (hE : 0 ≤ t → t ≤ 1999 → qSum (σ 13) (σ 10 6).toNat 0 = 0 → Q (some (vi (-3))) (hp σ)) (hQ : 0 ≤ t → t ≤ 1999 → ¬ qSum (σ 13) (σ 10 6).toNat 0 = 0 → Q (some (vi (fBk σ (fGo σ 2000 0 4 (fLose σ (fGo σ t 0 4 (fBeg σ (σ 30)))))))) (hp (vRow σ 30 (fGo σ 2000 0 4 (fLose σ (fGo σ t 0 4 (fBeg σ (σ 30)))))))) : V g mX8_out d (0, 0, 0, 0) Q 0 [(0, .ref 1), (1, vi t)] [] (hp σ) := by
  obtain ⟨⟨r0, r1, r2, r3, r4, r5, r6, r7, r8, r9⟩, rE, rS, rT, rF⟩ := id hR
  have sb := qSum_bound (f := σ 13) (B := 600) (fun j => by have := rS j; omega) (σ 10 6).toNat 0
  have sb2 : ((σ 10 6).toNat : Int) * 600 ≤ 4 * 600 := Int.mul_le_mul_of_nonneg_right (by omega) (by omega)
  refine v_iload_n (pc := 0) dX8_out_0 rfl ?_
  refine v_iconst (pc := 1) (0) dX8_out_1 (by decide) ?_
  refine v_sipush (pc := 2) (1999) dX8_out_2 (by decide) ?_
  refine v_cSi3 (pc := 5) (d' := d - 1) dX8_out_5 kX8_within ml_X8_81 stX8_within (Nat.le_of_ble_eq_true rfl) (Nat.le_of_ble_eq_true rfl) (by omega) ⟨Nat.le_refl _, Nat.le_refl _⟩ ?_
  refine c_X8_within (by omega) (by omega) (by omega) ?_
  refine ⟨_, rfl, ?_⟩
  refine v_if_ne (pc := 8) 14 dX8_out_8 (by decide) (by omega) (fun h8 => ?_) (fun h8 => ?_)
  · refine v_aload_n (pc := 14) dX8_out_14 rfl ?_
    refine v_gR (pc := 15) dX8_out_15 fl_X8_25 rfl ?_
    refine v_cVi0 (pc := 18) (z := 0) (d' := d - 1) dX8_out_18 kX4_allStuff ml_X8_174 iwX4_allStuff swX4_allStuff rfl rfl (Nat.le_of_ble_eq_true rfl) (Nat.le_of_ble_eq_true rfl) (by omega) ⟨Nat.le_refl _, Nat.le_refl _⟩ ?_
    refine c_X4_allStuff hR ?_
    refine ⟨_, rfl, ?_⟩
    refine v_if_ne (pc := 21) 27 dX8_out_21 (by decide) (by omega) (fun h21 => ?_) (fun h21 => ?_)
    · have hs0 : ¬ qSum (σ 13) (σ 10 6).toNat 0 = 0 := by omega
      have hN : 0 < σ 10 6 := by
        rcases (show 0 < σ 10 6 ∨ σ 10 6 = 0 by omega) with t | t
        · exact t
        · exfalso; apply hs0; rw [t]; rfl
      have w0 := WF_Beg (f := σ 30) hR hS hN
      have w1 : WF σ (fGo σ t 0 4 (fBeg σ (σ 30))) := by
        obtain ⟨n, hn⟩ := fGo_ok (U := t) (hs := 0) hR hS (by omega) w0 (fun x => absurd x (by decide))
        exact (fR_WF hR hS (by omega) n _ hn w0).1
      have w2 := (WF_Lose hR w1).1
      have wg : WF σ (fGo σ 2000 0 4 (fLose σ (fGo σ t 0 4 (fBeg σ (σ 30))))) := by
        obtain ⟨n, hn⟩ := fGo_ok (U := 2000) (hs := 0) hR hS (Int.le_refl _) w2 (fun x => absurd x (by decide))
        exact (fR_WF hR hS (Int.le_refl _) n _ hn w2).1
      have rg := wg.rng hR
      refine v_sg (vRow_self σ 30).symm ?_
      refine v_aload_n (pc := 27) dX8_out_27 rfl ?_
      refine v_gR (pc := 28) dX8_out_28 fl_X8_67 rfl ?_
      refine v_cVv0 (pc := 31) (z := 0) (d' := d - 1) dX8_out_31 kX2_begin ml_X8_178 iwX2_begin swX2_begin rfl rfl (Nat.le_of_ble_eq_true rfl) (Nat.le_of_ble_eq_true rfl) (by omega) ⟨Nat.le_refl _, Nat.le_refl _⟩ ?_
      refine c_begin30 (by omega) hR ?_
      refine ⟨rfl, ?_⟩
      refine v_aload_n (pc := 34) dX8_out_34 rfl ?_
      refine v_gR (pc := 35) dX8_out_35 fl_X8_67 rfl ?_
      refine v_iload_n (pc := 38) dX8_out_38 rfl ?_
      refine v_iconst (pc := 39) (0) dX8_out_39 (by decide) ?_
      refine v_cVv2 (pc := 40) (z := 0) (d' := d - 1) dX8_out_40 kX2_goOn ml_X8_181 iwX2_goOn swX2_goOn rfl rfl (Nat.le_of_ble_eq_true rfl) (Nat.le_of_ble_eq_true rfl) (by omega) ⟨Nat.le_refl _, Nat.le_refl _⟩ ?_
      refine c_goOn30 (by omega) hR hS (by omega) (Or.inl rfl) w0 ?_
      refine ⟨rfl, ?_⟩
      refine v_aload_n (pc := 43) dX8_out_43 rfl ?_
      refine v_gR (pc := 44) dX8_out_44 fl_X8_67 rfl ?_
      refine v_cVv0 (pc := 47) (z := 0) (d' := d - 1) dX8_out_47 kX2_loseEngine ml_X8_209 iwX2_loseEngine swX2_loseEngine rfl rfl (Nat.le_of_ble_eq_true rfl) (Nat.le_of_ble_eq_true rfl) (by omega) ⟨Nat.le_refl _, Nat.le_refl _⟩ ?_
      refine c_lose30 (by omega) hR w1 ?_
      refine ⟨rfl, ?_⟩
      refine v_aload_n (pc := 50) dX8_out_50 rfl ?_
      refine v_gR (pc := 51) dX8_out_51 fl_X8_67 rfl ?_
      refine v_sipush (pc := 54) (2000) dX8_out_54 (by decide) ?_
      refine v_iconst (pc := 57) (0) dX8_out_57 (by decide) ?_
      refine v_cVv2 (pc := 58) (z := 0) (d' := d - 1) dX8_out_58 kX2_goOn ml_X8_181 iwX2_goOn swX2_goOn rfl rfl (Nat.le_of_ble_eq_true rfl) (Nat.le_of_ble_eq_true rfl) (by omega) ⟨Nat.le_refl _, Nat.le_refl _⟩ ?_
      refine c_goOn30 (by omega) hR hS (by omega) (Or.inl rfl) w2 ?_
      refine ⟨rfl, ?_⟩
      refine v_aload_n (pc := 61) dX8_out_61 rfl ?_
      refine v_gR (pc := 62) dX8_out_62 fl_X8_67 rfl ?_
      refine v_cVi0 (pc := 65) (z := 0) (d' := d - 1) dX8_out_65 kX2_breakNow ml_X8_185 iwX2_breakNow swX2_breakNow rfl rfl (Nat.le_of_ble_eq_true rfl) (Nat.le_of_ble_eq_true rfl) (by omega) ⟨Nat.le_refl _, Nat.le_refl _⟩ ?_
      refine c_break30 hS (by omega) (by omega) (by omega) ?_
      refine ⟨_, rfl, ?_⟩
      refine v_ireturn (pc := 68) dX8_out_68 rfl rfl ⟨Nat.le_refl _, Nat.le_refl _⟩ ?_
      exact hQ (by omega) (by omega) hs0
    · refine v_bipush (pc := 24) (-3) dX8_out_24 (by decide) ?_
      refine v_ireturn (pc := 26) dX8_out_26 rfl rfl ⟨Nat.le_refl _, Nat.le_refl _⟩ ?_
      exact hE (by omega) (by omega) (by omega)
  · refine v_bipush (pc := 11) (-2) dX8_out_11 (by decide) ?_
    refine v_ireturn (pc := 13) dX8_out_13 rfl rfl ⟨Nat.le_refl _, Nat.le_refl _⟩ ?_
    exact hB (by omega)
theorem bk_rng (e : vSt) (f : Nat → Int) : vr (fBk e f) := by unfold fBk; omega
set_option maxHeartbeats 4000000 in
set_option maxRecDepth 100000 in
theorem l_X8_safe {g : vGl} {d : Nat} {Q : Option Value → List mC → Prop} {σ : vSt} (hd : 6 ≤ d) (hR : YR σ) (hS : WS σ) : ∀ (n : Nat) (f h : Nat → Int) (x s : Int) (hx : x + n = 2000) (hx0 : 0 ≤ x) (w : WF σ f) (hQ : ∀ f' h' : Nat → Int, Q (some (vi (s + fSafe σ n f))) (hp (vRow (vRow σ 29 f') 30 h'))), V g mX8_safe d (0, 0, 0, 0) Q 24 [(0, .ref 1), (1, vi s), (2, vi x)] [] (hp (vRow (vRow σ 29 f) 30 h)) := by
  intro n
  induction n with
  | zero =>
    intro f h x s hx hx0 w hQ
    refine v_iload_n (pc := 24) dX8_safe_24 rfl ?_
    refine v_sipush (pc := 25) (2000) dX8_safe_25 (by decide) ?_
    refine v_icmp_ge (pc := 28) 111 dX8_safe_28 (by decide) (by omega) (by omega) (fun h28 => ?_) (fun h28 => by exfalso; omega)
    refine v_iload_n (pc := 111) dX8_safe_111 rfl ?_
    refine v_ireturn (pc := 112) dX8_safe_112 rfl rfl ⟨Nat.le_refl _, Nat.le_refl _⟩ ?_
    have := hQ f h
    rw [show s + fSafe σ 0 f = s + 0 from rfl, Int.add_zero] at this
    exact this
  | succ n ih =>
    intro f h x s hx hx0 w hQ
    have rg := w.rng hR
    refine v_iload_n (pc := 24) dX8_safe_24 rfl ?_
    refine v_sipush (pc := 25) (2000) dX8_safe_25 (by decide) ?_
    refine v_icmp_ge (pc := 28) 111 dX8_safe_28 (by decide) (by omega) (by omega) (fun h28 => by exfalso; omega) (fun h28 => ?_)
    refine v_aload_n (pc := 31) dX8_safe_31 rfl ?_
    refine v_gR (pc := 32) dX8_safe_32 fl_X8_64 rfl ?_
    refine v_cVi0 (pc := 35) (z := 0) (d' := d - 1) dX8_safe_35 kX2_goesOn ml_X8_212 iwX2_goesOn swX2_goesOn rfl rfl (Nat.le_of_ble_eq_true rfl) (Nat.le_of_ble_eq_true rfl) (by omega) ⟨Nat.le_refl _, Nat.le_refl _⟩ ?_
    refine v_sg (vRow_comm σ f h (by decide)) ?_
    refine c_goesOn29 (by omega) (by omega) ?_
    refine ⟨_, rfl, ?_⟩
    refine v_sg (vRow_comm σ f h (by decide)).symm ?_
    refine v_if_eq (pc := 38) 111 dX8_safe_38 (by decide) (by omega) (fun h38 => ?_) (fun h38 => ?_)
    · refine v_iload_n (pc := 111) dX8_safe_111 rfl ?_
      refine v_ireturn (pc := 112) dX8_safe_112 rfl rfl ⟨Nat.le_refl _, Nat.le_refl _⟩ ?_
      have e0 : fSafe σ (n + 1) f = 0 := if_neg (by omega)
      have := hQ f h
      rw [e0, Int.add_zero] at this
      exact this
    · refine v_aload_n (pc := 41) dX8_safe_41 rfl ?_
      refine v_gR (pc := 42) dX8_safe_42 fl_X8_64 rfl ?_
      refine v_gIv (pc := 45) (f 13) dX8_safe_45 fl_X8_203 rfl rfl ?_
      refine v_iconst (pc := 48) (-1) dX8_safe_48 (by decide) ?_
      refine v_icmp_ne (pc := 49) 111 dX8_safe_49 (by decide) (by omega) (by omega) (fun h49 => ?_) (fun h49 => ?_)
      · refine v_iload_n (pc := 111) dX8_safe_111 rfl ?_
        refine v_ireturn (pc := 112) dX8_safe_112 rfl rfl ⟨Nat.le_refl _, Nat.le_refl _⟩ ?_
        have e0 : fSafe σ (n + 1) f = 0 := if_neg (by omega)
        have := hQ f h
        rw [e0, Int.add_zero] at this
        exact this
      · refine v_aload_n (pc := 52) dX8_safe_52 rfl ?_
        refine v_gR (pc := 53) dX8_safe_53 fl_X8_67 rfl ?_
        refine v_aload_n (pc := 56) dX8_safe_56 rfl ?_
        refine v_gR (pc := 57) dX8_safe_57 fl_X8_64 rfl ?_
        refine v_cVv1 (pc := 60) (z := 0) (d' := d - 1) dX8_safe_60 kX2_copyOf ml_X8_216 iwX2_copyOf swX2_copyOf rfl rfl (Nat.le_of_ble_eq_true rfl) (Nat.le_of_ble_eq_true rfl) (by omega) ⟨Nat.le_refl _, Nat.le_refl _⟩ ?_
        have q : 0 < f 7 ∧ f 8 < 2000 ∧ f 13 = -1 := by omega
        have e0 : fSafe σ (n + 1) f = (if fBk σ (fGo σ 2000 1 4 (fLose σ f)) = 0 then 1 else 0) + fSafe σ n (fGo σ (2000 - n) 1 4 f) := if_pos q
        have w1 := WF_Lose hR w
        have w2 : WF σ (fGo σ 2000 1 4 (fLose σ f)) := by
          obtain ⟨m, hm⟩ := fGo_ok (U := 2000) (hs := 1) hR hS (Int.le_refl _) w1.1 (fun _ => w1.2.1.trans q.2.2)
          exact (fR_WF hR hS (Int.le_refl _) m _ hm w1.1).1
        have r2 := w2.rng hR
        have w3 : WF σ (fGo σ (2000 - n) 1 4 f) := by
          obtain ⟨m, hm⟩ := fGo_ok (U := 2000 - n) (hs := 1) hR hS (by omega) w (fun _ => q.2.2)
          exact (fR_WF hR hS (by omega) m _ hm w).1
        have ex : x + 1 = 2000 - n := by omega
        refine c_copy ?_
        refine ⟨rfl, ?_⟩
        refine v_aload_n (pc := 63) dX8_safe_63 rfl ?_
        refine v_gR (pc := 64) dX8_safe_64 fl_X8_67 rfl ?_
        refine v_cVv0 (pc := 67) (z := 0) (d' := d - 1) dX8_safe_67 kX2_loseEngine ml_X8_209 iwX2_loseEngine swX2_loseEngine rfl rfl (Nat.le_of_ble_eq_true rfl) (Nat.le_of_ble_eq_true rfl) (by omega) ⟨Nat.le_refl _, Nat.le_refl _⟩ ?_
        refine c_lose30 (σ := vRow σ 29 f) (by omega) (by exact hR) (by exact w) ?_
        refine ⟨rfl, ?_⟩
        rw [fLose_c (e := vRow σ 29 f) (e' := σ) ⟨rfl, rfl, rfl, rfl, rfl, rfl, rfl, rfl, rfl, rfl⟩]
        refine v_aload_n (pc := 70) dX8_safe_70 rfl ?_
        refine v_gR (pc := 71) dX8_safe_71 fl_X8_67 rfl ?_
        refine v_sipush (pc := 74) (2000) dX8_safe_74 (by decide) ?_
        refine v_iconst (pc := 77) (1) dX8_safe_77 (by decide) ?_
        refine v_cVv2 (pc := 78) (z := 0) (d' := d - 1) dX8_safe_78 kX2_goOn ml_X8_181 iwX2_goOn swX2_goOn rfl rfl (Nat.le_of_ble_eq_true rfl) (Nat.le_of_ble_eq_true rfl) (by omega) ⟨Nat.le_refl _, Nat.le_refl _⟩ ?_
        refine c_goOn30 (σ := vRow σ 29 f) (by omega) (by exact hR) (by exact hS) (by omega) (Or.inr rfl) (by exact w1.1) ?_
        refine ⟨rfl, ?_⟩
        rw [fGo_c (e := vRow σ 29 f) (e' := σ) ⟨rfl, rfl, rfl, rfl, rfl, rfl, rfl, rfl, rfl, rfl⟩]
        refine v_aload_n (pc := 81) dX8_safe_81 rfl ?_
        refine v_gR (pc := 82) dX8_safe_82 fl_X8_67 rfl ?_
        refine v_cVi0 (pc := 85) (z := 0) (d' := d - 1) dX8_safe_85 kX2_breakNow ml_X8_185 iwX2_breakNow swX2_breakNow rfl rfl (Nat.le_of_ble_eq_true rfl) (Nat.le_of_ble_eq_true rfl) (by omega) ⟨Nat.le_refl _, Nat.le_refl _⟩ ?_
        refine c_break30 (σ := vRow σ 29 f) (by exact hS) (by omega) (by omega) (by omega) ?_
        refine ⟨_, rfl, ?_⟩
        refine v_top (show fBk (vRow σ 29 f) (fGo σ 2000 1 4 (fLose σ f)) = fBk σ (fGo σ 2000 1 4 (fLose σ f)) from rfl) ?_
        refine v_if_ne (pc := 88) 94 dX8_safe_88 (by decide) (bk_rng _ _) (fun h88 => ?_) (fun h88 => ?_)
        · refine v_aload_n (pc := 94) dX8_safe_94 rfl ?_
          refine v_gR (pc := 95) dX8_safe_95 fl_X8_64 rfl ?_
          refine v_iload_n (pc := 98) dX8_safe_98 rfl ?_
          refine v_iconst (pc := 99) (1) dX8_safe_99 (by decide) ?_
          refine v_iadd (pc := 100) dX8_safe_100 ?_
          refine v_iconst (pc := 101) (1) dX8_safe_101 (by decide) ?_
          refine v_cVv2 (pc := 102) (z := 0) (d' := d - 1) dX8_safe_102 kX2_goOn ml_X8_181 iwX2_goOn swX2_goOn rfl rfl (Nat.le_of_ble_eq_true rfl) (Nat.le_of_ble_eq_true rfl) (by omega) ⟨Nat.le_refl _, Nat.le_refl _⟩ ?_
          rw [ex]
          refine v_sg (vRow_comm σ f (fGo σ 2000 1 4 (fLose σ f)) (by decide)) ?_
          refine c_goOn29 (σ := vRow σ 30 (fGo σ 2000 1 4 (fLose σ f))) (by omega) (by exact hR) (by exact hS) (by omega) (Or.inr rfl) (by exact w) ?_
          refine ⟨rfl, ?_⟩
          rw [fGo_c (e := vRow σ 30 (fGo σ 2000 1 4 (fLose σ f))) (e' := σ) ⟨rfl, rfl, rfl, rfl, rfl, rfl, rfl, rfl, rfl, rfl⟩, ← vRow_comm σ _ _ (by decide)]
          refine v_iinc (pc := 105) (1) dX8_safe_105 rfl (by decide) (by decide) ?_
          refine v_goto (pc := 108) 24 dX8_safe_108 (by decide) ?_
          refine v_lv (ih _ _ (x + 1) _ (by omega) (by omega) w3 (fun f2 h2 => ?_)) ⟨rfl, rfl, rfl, trivial⟩
          have := hQ f2 h2
          rw [e0] at this
          first | (rw [if_pos (by omega), ← Int.add_assoc] at this; exact this) | (rw [if_neg (by omega), Int.zero_add] at this; exact this)
        · refine v_iinc (pc := 91) (1) dX8_safe_91 rfl (by decide) (by decide) ?_
          refine v_aload_n (pc := 94) dX8_safe_94 rfl ?_
          refine v_gR (pc := 95) dX8_safe_95 fl_X8_64 rfl ?_
          refine v_iload_n (pc := 98) dX8_safe_98 rfl ?_
          refine v_iconst (pc := 99) (1) dX8_safe_99 (by decide) ?_
          refine v_iadd (pc := 100) dX8_safe_100 ?_
          refine v_iconst (pc := 101) (1) dX8_safe_101 (by decide) ?_
          refine v_cVv2 (pc := 102) (z := 0) (d' := d - 1) dX8_safe_102 kX2_goOn ml_X8_181 iwX2_goOn swX2_goOn rfl rfl (Nat.le_of_ble_eq_true rfl) (Nat.le_of_ble_eq_true rfl) (by omega) ⟨Nat.le_refl _, Nat.le_refl _⟩ ?_
          rw [ex]
          refine v_sg (vRow_comm σ f (fGo σ 2000 1 4 (fLose σ f)) (by decide)) ?_
          refine c_goOn29 (σ := vRow σ 30 (fGo σ 2000 1 4 (fLose σ f))) (by omega) (by exact hR) (by exact hS) (by omega) (Or.inr rfl) (by exact w) ?_
          refine ⟨rfl, ?_⟩
          rw [fGo_c (e := vRow σ 30 (fGo σ 2000 1 4 (fLose σ f))) (e' := σ) ⟨rfl, rfl, rfl, rfl, rfl, rfl, rfl, rfl, rfl, rfl⟩, ← vRow_comm σ _ _ (by decide)]
          refine v_iinc (pc := 105) (1) dX8_safe_105 rfl (by decide) (by decide) ?_
          refine v_goto (pc := 108) 24 dX8_safe_108 (by decide) ?_
          refine v_lv (ih _ _ (x + 1) _ (by omega) (by omega) w3 (fun f2 h2 => ?_)) ⟨rfl, rfl, rfl, trivial⟩
          have := hQ f2 h2
          rw [e0] at this
          first | (rw [if_pos (by omega), ← Int.add_assoc] at this; exact this) | (rw [if_neg (by omega), Int.zero_add] at this; exact this)
set_option maxHeartbeats 4000000 in
set_option maxRecDepth 100000 in
theorem c_X8_safe {g : vGl} {d : Nat} {Q : Option Value → List mC → Prop} {σ : vSt} (hd : 6 ≤ d) (hR : YR σ) (hS : WS σ) (hE : qSum (σ 13) (σ 10 6).toNat 0 = 0 → Q (some (vi (-3))) (hp σ)) (hQ : ¬ qSum (σ 13) (σ 10 6).toNat 0 = 0 → ∀ f h : Nat → Int, Q (some (vi (fSafe σ 2000 (fBeg σ (σ 29))))) (hp (vRow (vRow σ 29 f) 30 h))) : V g mX8_safe d (0, 0, 0, 0) Q 0 [(0, .ref 1)] [] (hp σ) := by
  obtain ⟨⟨r0, r1, r2, r3, r4, r5, r6, r7, r8, r9⟩, rE, rS, rT, rF⟩ := id hR
  have sb := qSum_bound (f := σ 13) (B := 600) (fun j => by have := rS j; omega) (σ 10 6).toNat 0
  have sb2 : ((σ 10 6).toNat : Int) * 600 ≤ 4 * 600 := Int.mul_le_mul_of_nonneg_right (by omega) (by omega)
  refine v_aload_n (pc := 0) dX8_safe_0 rfl ?_
  refine v_gR (pc := 1) dX8_safe_1 fl_X8_25 rfl ?_
  refine v_cVi0 (pc := 4) (z := 0) (d' := d - 1) dX8_safe_4 kX4_allStuff ml_X8_174 iwX4_allStuff swX4_allStuff rfl rfl (Nat.le_of_ble_eq_true rfl) (Nat.le_of_ble_eq_true rfl) (by omega) ⟨Nat.le_refl _, Nat.le_refl _⟩ ?_
  refine c_X4_allStuff hR ?_
  refine ⟨_, rfl, ?_⟩
  refine v_if_ne (pc := 7) 13 dX8_safe_7 (by decide) (by omega) (fun h7 => ?_) (fun h7 => ?_)
  · have hs0 : ¬ qSum (σ 13) (σ 10 6).toNat 0 = 0 := by omega
    have hN : 0 < σ 10 6 := by
      rcases (show 0 < σ 10 6 ∨ σ 10 6 = 0 by omega) with t | t
      · exact t
      · exfalso; apply hs0; rw [t]; rfl
    have w0 := WF_Beg (f := σ 29) hR hS hN
    refine v_sg (vRow_self σ 29).symm ?_
    refine v_aload_n (pc := 13) dX8_safe_13 rfl ?_
    refine v_gR (pc := 14) dX8_safe_14 fl_X8_64 rfl ?_
    refine v_cVv0 (pc := 17) (z := 0) (d' := d - 1) dX8_safe_17 kX2_begin ml_X8_178 iwX2_begin swX2_begin rfl rfl (Nat.le_of_ble_eq_true rfl) (Nat.le_of_ble_eq_true rfl) (by omega) ⟨Nat.le_refl _, Nat.le_refl _⟩ ?_
    refine c_begin29 (by omega) hR ?_
    refine ⟨rfl, ?_⟩
    refine v_iconst (pc := 20) (0) dX8_safe_20 (by decide) ?_
    refine v_istore_n (pc := 21) dX8_safe_21 (by decide) ?_
    refine v_iconst (pc := 22) (0) dX8_safe_22 (by decide) ?_
    refine v_istore_n (pc := 23) dX8_safe_23 (by decide) ?_
    have e30 : vRow (vRow σ 29 (fBeg σ (σ 29))) 30 (σ 30) = vRow σ 29 (fBeg σ (σ 29)) := vRow_self (vRow σ 29 (fBeg σ (σ 29))) 30
    refine v_sg e30.symm ?_
    exact v_lv (l_X8_safe hd hR hS 2000 (fBeg σ (σ 29)) (σ 30) 0 0 (by decide) (by decide) w0 (fun f h => by rw [Int.zero_add]; exact hQ hs0 f h)) ⟨rfl, rfl, rfl, trivial⟩
  · refine v_bipush (pc := 10) (-3) dX8_safe_10 (by decide) ?_
    refine v_ireturn (pc := 12) dX8_safe_12 rfl rfl ⟨Nat.le_refl _, Nat.le_refl _⟩ ?_
    exact hE (by omega)
