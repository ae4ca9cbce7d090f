/-! the class' split -/
def sW (σ : vSt) (f r c A B : Nat → Int) : vSt := vRow (vRow (vRow (vRow (vRow σ 17 c) 18 A) 19 B) 15 f) 16 r
theorem sW_17 (σ : vSt) (f r c A B : Nat → Int) (k : Nat) (z : Int) : vU (sW σ f r c A B) 17 k z = sW σ f r (qUp c k z) A B := by
  unfold sW
  rw [vU_row_o (by decide), vU_row_o (by decide), vU_row_o (by decide), vU_row_o (by decide), vRow_up]
theorem sW_18 (σ : vSt) (f r c A B : Nat → Int) (k : Nat) (z : Int) : vU (sW σ f r c A B) 18 k z = sW σ f r c (qUp A k z) B := by
  unfold sW
  rw [vU_row_o (by decide), vU_row_o (by decide), vU_row_o (by decide), vRow_up]
theorem sW_19 (σ : vSt) (f r c A B : Nat → Int) (k : Nat) (z : Int) : vU (sW σ f r c A B) 19 k z = sW σ f r c A (qUp B k z) := by
  unfold sW
  rw [vU_row_o (by decide), vU_row_o (by decide), vRow_up]
theorem sW_self (σ : vSt) : sW σ (σ 15) (σ 16) (σ 17) (σ 18) (σ 19) = σ := by
  funext p j
  unfold sW vRow
  by_cases h16 : p = 16
  · rw [if_pos h16, h16]
  by_cases h15 : p = 15
  · rw [if_neg h16, if_pos h15, h15]
  by_cases h19 : p = 19
  · rw [if_neg h16, if_neg h15, if_pos h19, h19]
  by_cases h18 : p = 18
  · rw [if_neg h16, if_neg h15, if_neg h19, if_pos h18, h18]
  by_cases h17 : p = 17
  · rw [if_neg h16, if_neg h15, if_neg h19, if_neg h18, if_pos h17, h17]
  rw [if_neg h16, if_neg h15, if_neg h19, if_neg h18, if_neg h17]
theorem sB_rg {e : vSt} {z : Int} {k : Nat} {s a b : Int} {C : (Nat → Int) → Prop} (hR : YR e) (hz : 0 ≤ z) (hz2 : z ≤ 30) (hs0 : 0 ≤ s) (hs : s ≤ 20) (hC : ∀ x, C x → sNn (sN e) k x ∧ sSu (sN e) k x = s) (h : sB (sLo e z k) (sKe (sN e) k) C a b) : -1 ≤ a ∧ a ≤ 600000000 := by
  rcases h with ⟨h1, -⟩ | ⟨h1, x, h2, h3, h4, -⟩
  · omega
  · obtain ⟨c1, c2⟩ := hC x h2
    have l := sLo_rng hR hz (sN e - k) k rfl c1
    rw [c2] at l
    have m := mul_le (a := s) (b := z) (A := 20) (B := 30) hs0 hs hz hz2
    omega
theorem qLow_bt {top fr a b : Int} {r : Nat → Int} {hi : Int} (hr : ∀ j : Nat, fr + j ≤ hi → r j = qLow top j (fr + j)) (h1 : fr ≤ b) (h2 : b ≤ a) (h3 : a ≤ hi) : r (a - fr).toNat - r (b - fr).toNat = qLow top (a - b).toNat a := by
  rw [hr (a - fr).toNat (by omega), hr (b - fr).toNat (by omega), show fr + ((a - fr).toNat : Int) = a by omega, show fr + ((b - fr).toNat : Int) = b by omega, show (a - fr).toNat = (a - b).toNat + (b - fr).toNat by omega, qLow_add, show a - ((a - b).toNat : Int) = b by omega]
  omega
set_option maxHeartbeats 4000000 in
set_option maxRecDepth 100000 in
theorem l_ready {g : vGl} {d : Nat} {Q : Option Value → List mC → Prop} {σ : vSt} {f : Nat → Int} {ex lo hi : Int} (he : 0 ≤ ex ∧ ex ≤ 999) (h1 : 0 ≤ lo ∧ lo ≤ 10000) (h2 : lo ≤ hi ∧ hi ≤ lo + 1491) (f1 : f 1 = lo) (f2 : f 2 = hi) (hQ : ∀ r' : Nat → Int, (∀ j : Nat, lo + j ≤ hi → r' j = qLow (1000 * ex) j (lo + j)) → Q none (hp (vRow (vRow σ 15 f) 16 r'))) : ∀ (n j : Nat) (x s : Int) (r : Nat → Int) (hx : x = lo + j + 1) (hn : lo + j + n = hi) (hs : s = qLow (1000 * ex) j (lo + j)) (hr : ∀ i : Nat, i ≤ j → r i = qLow (1000 * ex) i (lo + i)), V g mX3_ready d (0, 0, 0, 0) Q 43 [(0, .ref 15), (4, vi (1000 * ex)), (5, vi s), (6, vi x)] [] (hp (vRow (vRow σ 15 f) 16 r)) := by
  intro n
  induction n with
  | zero =>
    intro j x s r hx hn hs hr
    refine v_iload (pc := 43) dX3_ready_43 rfl ?_
    refine v_aload_n (pc := 45) dX3_ready_45 rfl ?_
    refine v_gIv (pc := 46) (hi) dX3_ready_46 fl_X3_19 rfl f2 ?_
    refine v_icmp_gt (pc := 49) 82 dX3_ready_49 (by decide) (by omega) (by omega) (fun h49 => ?_) (fun h49 => by exfalso; omega)
    refine v_return (pc := 82) dX3_ready_82 rfl ⟨Nat.le_refl _, Nat.le_refl _⟩ ?_
    exact hQ r (fun i hi => hr i (by omega))
  | succ n ih =>
    intro j x s r hx hn hs hr
    refine v_iload (pc := 43) dX3_ready_43 rfl ?_
    refine v_aload_n (pc := 45) dX3_ready_45 rfl ?_
    refine v_gIv (pc := 46) (hi) dX3_ready_46 fl_X3_19 rfl f2 ?_
    refine v_icmp_gt (pc := 49) 82 dX3_ready_49 (by decide) (by omega) (by omega) (fun h49 => by exfalso; omega) (fun h49 => ?_)
    refine v_iload (pc := 52) dX3_ready_52 rfl ?_
    refine v_iload (pc := 54) dX3_ready_54 rfl ?_
    refine v_iload (pc := 56) dX3_ready_56 rfl ?_
    refine v_idiv (pc := 58) dX3_ready_58 (by omega) (by omega) (by omega) ?_
    refine v_top (show _ = 1000 * ex / x from tdiv_pos (by omega)) ?_
    refine v_iadd (pc := 59) dX3_ready_59 ?_
    refine v_istore (pc := 60) dX3_ready_60 (by decide) ?_
    refine v_aload_n (pc := 62) dX3_ready_62 rfl ?_
    refine v_gR (pc := 63) dX3_ready_63 fl_X3_11 rfl ?_
    refine v_iload (pc := 66) dX3_ready_66 rfl ?_
    refine v_aload_n (pc := 68) dX3_ready_68 rfl ?_
    refine v_gIv (pc := 69) (lo) dX3_ready_69 fl_X3_15 rfl f1 ?_
    refine v_isub (pc := 72) dX3_ready_72 ?_
    refine v_iload (pc := 73) dX3_ready_73 rfl ?_
    refine v_sI (pc := 75) (j := j + 1) dX3_ready_75 rfl (by omega) (by omega) (by omega) ?_
    refine v_iinc (pc := 76) (1) dX3_ready_76 rfl (by decide) (by decide) ?_
    refine v_goto (pc := 79) 43 dX3_ready_79 (by decide) ?_
    rw [vRow_up]
    have es : s + 1000 * ex / x = qLow (1000 * ex) (j + 1) (lo + ((j + 1 : Nat) : Int)) := by
      show _ = 1000 * ex / (lo + ((j + 1 : Nat) : Int)) + qLow (1000 * ex) j (lo + ((j + 1 : Nat) : Int) - 1)
      rw [hs, show lo + ((j + 1 : Nat) : Int) - 1 = lo + j by omega, show lo + ((j + 1 : Nat) : Int) = x by omega]
      omega
    refine v_lv (ih (j + 1) (x + 1) _ _ (by omega) (by omega) es (fun i hi => ?_)) ⟨rfl, rfl, rfl, rfl, trivial⟩
    by_cases e : i = j + 1
    · rw [e]
      exact (if_pos rfl).trans es
    · exact (if_neg e).trans (hr i (by omega))
set_option maxHeartbeats 4000000 in
set_option maxRecDepth 100000 in
theorem c_X3_ready {g : vGl} {d : Nat} {Q : Option Value → List mC → Prop} {σ : vSt} {f r : Nat → Int} {ex lo hi : Int} (hd : 1 ≤ d) (he : 0 ≤ ex ∧ ex ≤ 999) (h1 : 0 ≤ lo ∧ lo ≤ 10000) (h2 : lo ≤ hi ∧ hi ≤ lo + 1491) (h0 : r 0 = 0) (hQ : ∀ f' r' : Nat → Int, f' 1 = lo → f' 2 = hi → (∀ j : Nat, lo + j ≤ hi → r' j = qLow (1000 * ex) j (lo + j)) → Q none (hp (vRow (vRow σ 15 f') 16 r'))) : V g mX3_ready d (0, 0, 0, 0) Q 0 [(0, .ref 15), (1, vi ex), (2, vi lo), (3, vi hi)] [] (hp (vRow (vRow σ 15 f) 16 r)) := by
  refine v_aload_n (pc := 0) dX3_ready_0 rfl ?_
  refine v_iload_n (pc := 1) dX3_ready_1 rfl ?_
  refine v_iconst (pc := 2) (0) dX3_ready_2 (by decide) ?_
  refine v_max (pc := 3) dX3_ready_3 ml_X3_22 st_max it_Math co_max (by omega) (by omega) (Nat.le_of_ble_eq_true rfl) (by omega) ⟨Nat.le_refl _, Nat.le_refl _⟩ ?_
  refine v_top (show _ = lo by omega) ?_
  refine v_pI (pc := 6) dX3_ready_6 fl_X3_15 rfl ?_
  refine v_aload_n (pc := 9) dX3_ready_9 rfl ?_
  refine v_iload_n (pc := 10) dX3_ready_10 rfl ?_
  refine v_aload_n (pc := 11) dX3_ready_11 rfl ?_
  refine v_gIv (pc := 12) (lo) dX3_ready_12 fl_X3_15 rfl rfl ?_
  refine v_sipush (pc := 15) (1491) dX3_ready_15 (by decide) ?_
  refine v_iadd (pc := 18) dX3_ready_18 ?_
  refine v_min (pc := 19) dX3_ready_19 ml_X3_28 st_min it_Math co_min (by omega) (by omega) (Nat.le_of_ble_eq_true rfl) (by omega) ⟨Nat.le_refl _, Nat.le_refl _⟩ ?_
  refine v_top (show _ = hi by omega) ?_
  refine v_pI (pc := 22) dX3_ready_22 fl_X3_19 rfl ?_
  refine v_sipush (pc := 25) (1000) dX3_ready_25 (by decide) ?_
  refine v_iload_n (pc := 28) dX3_ready_28 rfl ?_
  refine v_imul (pc := 29) dX3_ready_29 ?_
  refine v_istore (pc := 30) dX3_ready_30 (by decide) ?_
  refine v_iconst (pc := 32) (0) dX3_ready_32 (by decide) ?_
  refine v_istore (pc := 33) dX3_ready_33 (by decide) ?_
  refine v_aload_n (pc := 35) dX3_ready_35 rfl ?_
  refine v_gIv (pc := 36) (lo) dX3_ready_36 fl_X3_15 rfl rfl ?_
  refine v_iconst (pc := 39) (1) dX3_ready_39 (by decide) ?_
  refine v_iadd (pc := 40) dX3_ready_40 ?_
  refine v_istore (pc := 41) dX3_ready_41 (by decide) ?_
  rw [vU_row_o (by decide), vRow_up, vU_row_o (by decide), vRow_up]
  exact v_lv (l_ready (f := qUp (qUp f 1 lo) 2 hi) he h1 h2 rfl rfl (fun r' hr' => hQ _ _ rfl rfl hr') (hi - lo).toNat 0 (lo + 1) 0 r (by omega) (by omega) rfl (fun i hi => by rw [show i = 0 by omega, h0]; rfl)) ⟨rfl, rfl, rfl, rfl, trivial⟩
set_option maxHeartbeats 4000000 in
set_option maxRecDepth 100000 in
theorem c_X3_between {g : vGl} {d : Nat} {Q : Option Value → List mC → Prop} {σ : vSt} {f r : Nat → Int} {top fr hi a b : Int} (f1 : f 1 = fr) (f2 : f 2 = hi) (hr : ∀ j : Nat, fr + j ≤ hi → r j = qLow top j (fr + j)) (h1 : 0 ≤ fr ∧ fr ≤ 10000) (h2 : hi ≤ fr + 1491) (hb : fr ≤ b) (hab : b ≤ a) (ha : a ≤ hi) (hQ : Q (some (vi (qLow top (a - b).toNat a))) (hp (vRow (vRow σ 15 f) 16 r))) : V g mX3_between d (0, 0, 0, 0) Q 0 [(0, .ref 15), (1, vi b), (2, vi a)] [] (hp (vRow (vRow σ 15 f) 16 r)) := by
  refine v_iload_n (pc := 0) dX3_between_0 rfl ?_
  refine v_aload_n (pc := 1) dX3_between_1 rfl ?_
  refine v_gIv (pc := 2) (fr) dX3_between_2 fl_X3_15 rfl f1 ?_
  refine v_icmp_lt (pc := 5) 21 dX3_between_5 (by decide) (by omega) (by omega) (fun h5 => by exfalso; omega) (fun h5 => ?_)
  refine v_iload_n (pc := 8) dX3_between_8 rfl ?_
  refine v_iload_n (pc := 9) dX3_between_9 rfl ?_
  refine v_icmp_lt (pc := 10) 21 dX3_between_10 (by decide) (by omega) (by omega) (fun h10 => by exfalso; omega) (fun h10 => ?_)
  refine v_iload_n (pc := 13) dX3_between_13 rfl ?_
  refine v_aload_n (pc := 14) dX3_between_14 rfl ?_
  refine v_gIv (pc := 15) (hi) dX3_between_15 fl_X3_19 rfl f2 ?_
  refine v_icmp_le (pc := 18) 23 dX3_between_18 (by decide) (by omega) (by omega) (fun h18 => ?_) (fun h18 => by exfalso; omega)
  refine v_aload_n (pc := 23) dX3_between_23 rfl ?_
  refine v_gR (pc := 24) dX3_between_24 fl_X3_11 rfl ?_
  refine v_iload_n (pc := 27) dX3_between_27 rfl ?_
  refine v_aload_n (pc := 28) dX3_between_28 rfl ?_
  refine v_gIv (pc := 29) (fr) dX3_between_29 fl_X3_15 rfl f1 ?_
  refine v_isub (pc := 32) dX3_between_32 ?_
  refine v_aIv (pc := 33) (j := (a - fr).toNat) (r (a - fr).toNat) dX3_between_33 rfl rfl (by omega) (by omega) rfl ?_
  refine v_aload_n (pc := 34) dX3_between_34 rfl ?_
  refine v_gR (pc := 35) dX3_between_35 fl_X3_11 rfl ?_
  refine v_iload_n (pc := 38) dX3_between_38 rfl ?_
  refine v_aload_n (pc := 39) dX3_between_39 rfl ?_
  refine v_gIv (pc := 40) (fr) dX3_between_40 fl_X3_15 rfl f1 ?_
  refine v_isub (pc := 43) dX3_between_43 ?_
  refine v_aIv (pc := 44) (j := (b - fr).toNat) (r (b - fr).toNat) dX3_between_44 rfl rfl (by omega) (by omega) rfl ?_
  refine v_isub (pc := 45) dX3_between_45 ?_
  refine v_top (qLow_bt hr hb hab ha) ?_
  refine v_ireturn (pc := 46) dX3_between_46 rfl rfl ⟨Nat.le_refl _, Nat.le_refl _⟩ ?_
  exact hQ
set_option maxHeartbeats 4000000 in
set_option maxRecDepth 100000 in
theorem c_X6_tankFor {g : vGl} {d : Nat} {Q : Option Value → List mC → Prop} {σ : vSt} {f r c A B : Nat → Int} {z : Int} (hR : YR σ) (hz : 1 ≤ z ∧ z ≤ 30) (cz : c 4 = z) {n : Int} (hd : 1 ≤ d) (hn : 0 ≤ n ∧ n ≤ 20) (hQ : Q (some (vi (qTank (σ 2 1) (n * z)))) (hp (sW σ f r c A B))) : V g mX6_tankFor d (0, 0, 0, 0) Q 0 [(0, .ref 17), (1, vi n)] [] (hp (sW σ f r c A B)) := by
  obtain ⟨⟨r0, r1, r2, r3, r4, r5, r6, r7, r8, r9⟩, rE, rS, rT, rF⟩ := id hR
  have m := mul_le (a := n) (b := z) (A := 20) (B := 30) hn.1 hn.2 (by omega) hz.2
  refine v_aload_n (pc := 0) dX6_tankFor_0 rfl ?_
  refine v_gR (pc := 1) dX6_tankFor_1 fl_X6_28 rfl ?_
  refine v_iload_n (pc := 4) dX6_tankFor_4 rfl ?_
  refine v_aload_n (pc := 5) dX6_tankFor_5 rfl ?_
  refine v_gIv (pc := 6) (z) dX6_tankFor_6 fl_X6_18 rfl cz ?_
  refine v_imul (pc := 9) dX6_tankFor_9 ?_
  refine v_cVi1 (pc := 10) (z := 0) (d' := d - 1) dX6_tankFor_10 kX4_tankFor ml_X6_73 iwX4_tankFor swX4_tankFor rfl rfl (Nat.le_of_ble_eq_true rfl) (Nat.le_of_ble_eq_true rfl) (by omega) ⟨Nat.le_refl _, Nat.le_refl _⟩ ?_
  refine c_X4_tankFor (by omega) (show 0 ≤ σ 2 1 ∧ σ 2 1 ≤ 100 by omega) ?_
  refine ⟨_, rfl, ?_⟩
  refine v_ireturn (pc := 13) dX6_tankFor_13 rfl rfl ⟨Nat.le_refl _, Nat.le_refl _⟩ ?_
  exact hQ
set_option maxHeartbeats 4000000 in
set_option maxRecDepth 100000 in
theorem c_X6_offer {g : vGl} {d : Nat} {Q : Option Value → List mC → Prop} {σ : vSt} {f r c A B : Nat → Int} {x lo key : Int} {p : Nat} (hx : x = p) (hp84 : p < 84) (hl : vr lo) (ha : vr (A p)) (hQ : Q none (hp (sW σ f r c (if A p < lo then qUp A p lo else A) (if A p < lo then qUp B p key else B)))) : V g mX6_offer d (0, 0, 0, 0) Q 0 [(0, .ref 17), (1, vi x), (2, vi lo), (3, vi key)] [] (hp (sW σ f r c A B)) := by
  refine v_iload_n (pc := 0) dX6_offer_0 rfl ?_
  refine v_if_lt (pc := 1) 37 dX6_offer_1 (by decide) (by omega) (fun h1 => by exfalso; omega) (fun h1 => ?_)
  refine v_iload_n (pc := 4) dX6_offer_4 rfl ?_
  refine v_aload_n (pc := 5) dX6_offer_5 rfl ?_
  refine v_gR (pc := 6) dX6_offer_6 fl_X6_11 rfl ?_
  refine v_len (pc := 9) dX6_offer_9 rfl ?_
  refine v_icmp_ge (pc := 10) 37 dX6_offer_10 (by decide) (by omega) (by omega) (fun h10 => by exfalso; omega) (fun h10 => ?_)
  refine v_iload_n (pc := 13) dX6_offer_13 rfl ?_
  refine v_aload_n (pc := 14) dX6_offer_14 rfl ?_
  refine v_gR (pc := 15) dX6_offer_15 fl_X6_11 rfl ?_
  refine v_iload_n (pc := 18) dX6_offer_18 rfl ?_
  refine v_aIv (pc := 19) (j := p) (A p) dX6_offer_19 rfl (by omega) (by omega) (by omega) rfl ?_
  refine v_icmp_le (pc := 20) 37 dX6_offer_20 (by decide) (by omega) (by omega) (fun h20 => ?_) (fun h20 => ?_)
  · refine v_return (pc := 37) dX6_offer_37 rfl ⟨Nat.le_refl _, Nat.le_refl _⟩ ?_
    first | (rw [if_neg (by omega), if_neg (by omega)] at hQ; exact hQ) | (rw [if_pos (by omega), if_pos (by omega)] at hQ; rw [sW_18, sW_19]; exact hQ)
  · refine v_aload_n (pc := 23) dX6_offer_23 rfl ?_
    refine v_gR (pc := 24) dX6_offer_24 fl_X6_11 rfl ?_
    refine v_iload_n (pc := 27) dX6_offer_27 rfl ?_
    refine v_iload_n (pc := 28) dX6_offer_28 rfl ?_
    refine v_sI (pc := 29) (j := p) dX6_offer_29 rfl (by omega) (by omega) (by omega) ?_
    refine v_aload_n (pc := 30) dX6_offer_30 rfl ?_
    refine v_gR (pc := 31) dX6_offer_31 fl_X6_15 rfl ?_
    refine v_iload_n (pc := 34) dX6_offer_34 rfl ?_
    refine v_iload_n (pc := 35) dX6_offer_35 rfl ?_
    refine v_sI (pc := 36) (j := p) dX6_offer_36 rfl (by omega) (by omega) (by omega) ?_
    refine v_return (pc := 37) dX6_offer_37 rfl ⟨Nat.le_refl _, Nat.le_refl _⟩ ?_
    first | (rw [if_neg (by omega), if_neg (by omega)] at hQ; exact hQ) | (rw [if_pos (by omega), if_pos (by omega)] at hQ; rw [sW_18, sW_19]; exact hQ)
set_option maxHeartbeats 4000000 in
set_option maxRecDepth 100000 in
theorem l_fill57 {g : vGl} {d : Nat} {Q : Option Value → List mC → Prop} {σ : vSt} {f r c : Nat → Int} {z bare hi : Int} {L k s : Nat} (hd : 3 ≤ d) (hR : YR σ) (hz : 1 ≤ z ∧ z ≤ 30) (cz : c 4 = z) (hk : k < sN σ) (hL : L ≤ 20) (hs : s ≤ L) (hs1 : 1 ≤ s) (hb : bare = sBa σ k) (f1 : f 1 = bare) (f2 : f 2 = hi) (hhi : hi = bare + L * z + qTank (σ 2 1) (L * z) + 4) (hr : ∀ j : Nat, bare + j ≤ hi → r j = qLow (sTop σ k) j (bare + j)) {v : Nat} (hv : v ≤ s) (hv1 : 1 ≤ v) (K : ∀ A B : Nat → Int, sRF σ z L k s v 4 A B → V g mX6_fill d (0, 0, 0, 0) Q 154 [(0, .ref 17), (1, vi (k : Int)), (2, vi bare), (3, vi (s : Int)), (4, vi (v : Int))] [] (hp (sW σ f r c A B))) : ∀ (n t : Nat) (x : Int) (A B : Nat → Int) (hx : x = t) (hn : t + n = 4) (hF : sRF σ z L k s v x A B), V g mX6_fill d (0, 0, 0, 0) Q 57 [(0, .ref 17), (1, vi (k : Int)), (2, vi bare), (3, vi (s : Int)), (4, vi (v : Int)), (5, vi ((s : Int) - v)), (6, vi (qTank (σ 2 1) (((s : Int) - v) * z) + qTank (σ 2 1) ((v : Int) * z))), (7, vi (sMo σ z s v)), (8, vi (bare + ((s : Int) - v) * z + (qTank (σ 2 1) (((s : Int) - v) * z) + qTank (σ 2 1) ((v : Int) * z)))), (9, vi x)] [] (hp (sW σ f r c A B)) := by
  have sn := sN_le hR
  have ba := sBa_nn hR k
  have tp := sTop_rng hR k
  have zz : 0 ≤ z := by omega
  have m1 := mul_le (a := (L : Int)) (b := z) (A := 20) (B := 30) (by omega) (by omega) zz hz.2
  have q1 := qTank_le (sr := σ 2 1) (z := L * z) (by have := hR.1; omega) (by have := hR.1; omega) (by omega) (by omega)
  intro n
  induction n with
  | zero =>
    intro t x A B hx hn hF
    subst hx
    refine v_iload (pc := 57) dX6_fill_57 rfl ?_
    refine v_iconst (pc := 59) (4) dX6_fill_59 (by decide) ?_
    refine v_icmp_ge (pc := 60) 154 dX6_fill_60 (by decide) (by omega) (by omega) (fun h60 => ?_) (fun h60 => by exfalso; omega)
    have e4 : ((t : Nat) : Int) = 4 := by omega
    rw [e4] at hF
    exact v_lv (K A B hF) ⟨rfl, rfl, rfl, rfl, rfl, trivial⟩
  | succ n ih =>
    intro t x A B hx hn hF
    subst hx
    have ho := sRF_off hR hk hL hs hv hv1 (show t < 4 by omega) zz hF
    have cr := sB_rg hR zz hz.2 (show (0 : Int) ≤ ((s - v : Nat) : Int) by omega) (by omega) (fun x q => ⟨q.1, q.2.1⟩) ((hF (s - v) t (by omega) (by omega)).1 (by omega))
    by_cases q : A (4 * (s - v) + t) = -1
    · refine v_iload (pc := 57) dX6_fill_57 rfl ?_
      refine v_iconst (pc := 59) (4) dX6_fill_59 (by decide) ?_
      refine v_icmp_ge (pc := 60) 154 dX6_fill_60 (by decide) (by omega) (by omega) (fun h60 => by exfalso; omega) (fun h60 => ?_)
      refine v_iload (pc := 63) dX6_fill_63 rfl ?_
      refine v_iconst (pc := 65) (4) dX6_fill_65 (by decide) ?_
      refine v_imul (pc := 66) dX6_fill_66 ?_
      refine v_iload (pc := 67) dX6_fill_67 rfl ?_
      refine v_iadd (pc := 69) dX6_fill_69 ?_
      refine v_istore (pc := 70) dX6_fill_70 (by decide) ?_
      refine v_aload_n (pc := 72) dX6_fill_72 rfl ?_
      refine v_gR (pc := 73) dX6_fill_73 fl_X6_11 rfl ?_
      refine v_iload (pc := 76) dX6_fill_76 rfl ?_
      refine v_aIv (pc := 78) (j := 4 * (s - v) + t) (A (4 * (s - v) + t)) dX6_fill_78 rfl (by omega) (by omega) (by omega) rfl ?_
      refine v_iconst (pc := 79) (-1) dX6_fill_79 (by decide) ?_
      refine v_icmp_eq (pc := 80) 148 dX6_fill_80 (by decide) (by omega) (by omega) (fun h80 => ?_) (fun h80 => by exfalso; omega)
      refine v_iinc (pc := 148) (1) dX6_fill_148 rfl (by decide) (by decide) ?_
      refine v_goto (pc := 151) 57 dX6_fill_151 (by decide) ?_
      exact v_lv (ih (t + 1) ((t : Int) + 1) A B (by omega) (by omega) (ho.1 q)) ⟨rfl, rfl, rfl, rfl, rfl, rfl, rfl, rfl, rfl, rfl, trivial⟩
    · obtain ⟨⟨o1, o2, o3, o4, o5⟩, o6⟩ := ho.2 q
      have m2 := mul_le (a := (s : Int)) (b := z) (A := 20) (B := 30) (by omega) (by omega) zz hz.2
      have m3 : (s : Int) * z ≤ L * z := Int.mul_le_mul_of_nonneg_right (by omega) zz
      have m4 : ((s : Int) - v) * z = s * z - v * z := Int.sub_mul _ _ _
      have m5 : 0 ≤ (v : Int) * z := Int.mul_nonneg (by omega) zz
      have m6 : 0 ≤ ((s : Int) - v) * z := Int.mul_nonneg (by omega) zz
      have q2 := qTank_mono (sr := σ 2 1) (a := s * z) (b := L * z) (by have := hR.1; omega) m3
      have q3 := qTank_mono (sr := σ 2 1) (a := 0) (b := ((s : Int) - v) * z) (by have := hR.1; omega) m6
      have q4 := qTank_mono (sr := σ 2 1) (a := 0) (b := (v : Int) * z) (by have := hR.1; omega) m5
      rw [qTank_0] at q3 q4
      have emo : sMo σ z s v = qTank (σ 2 1) (((s : Int) - v) * z) + qTank (σ 2 1) ((v : Int) * z) - qTank (σ 2 1) ((s : Int) * z) := rfl
      have eg : qLow (sTop σ k) ((bare + ((s : Int) - v) * z + (qTank (σ 2 1) (((s : Int) - v) * z) + qTank (σ 2 1) ((v : Int) * z)) + (t : Int)) + (v : Int) * z - (bare + ((s : Int) - v) * z + (qTank (σ 2 1) (((s : Int) - v) * z) + qTank (σ 2 1) ((v : Int) * z)) + (t : Int))).toNat ((bare + ((s : Int) - v) * z + (qTank (σ 2 1) (((s : Int) - v) * z) + qTank (σ 2 1) ((v : Int) * z)) + (t : Int)) + (v : Int) * z) = sGn σ z k s v t := by
        unfold sGn
        rw [show (bare + ((s : Int) - v) * z + (qTank (σ 2 1) (((s : Int) - v) * z) + qTank (σ 2 1) ((v : Int) * z)) + (t : Int)) + (v : Int) * z - (bare + ((s : Int) - v) * z + (qTank (σ 2 1) (((s : Int) - v) * z) + qTank (σ 2 1) ((v : Int) * z)) + (t : Int)) = (v : Int) * z by omega, show (bare + ((s : Int) - v) * z + (qTank (σ 2 1) (((s : Int) - v) * z) + qTank (σ 2 1) ((v : Int) * z)) + (t : Int)) + (v : Int) * z = sBa σ k + (qTank (σ 2 1) (((s : Int) - v) * z) + qTank (σ 2 1) ((v : Int) * z) + (t : Int)) + (s : Int) * z by omega]
      obtain ⟨p, hp⟩ : ∃ p : Nat, (p : Int) = s * 4 + t + sMo σ z s v := ⟨((s : Int) * 4 + t + sMo σ z s v).toNat, by omega⟩
      have pr : -1 ≤ A p ∧ A p ≤ 600000000 := by
        have h3 := (hF s ((t : Int) + sMo σ z s v).toNat hs (by omega)).2.2 rfl
        rw [show 4 * s + ((t : Int) + sMo σ z s v).toNat = p by omega] at h3
        exact sB_rg hR zz hz.2 (show (0 : Int) ≤ (s : Int) by omega) (by omega) (fun x q => ⟨q.1.1, q.1.2.1⟩) h3
      refine v_iload (pc := 57) dX6_fill_57 rfl ?_
      refine v_iconst (pc := 59) (4) dX6_fill_59 (by decide) ?_
      refine v_icmp_ge (pc := 60) 154 dX6_fill_60 (by decide) (by omega) (by omega) (fun h60 => by exfalso; omega) (fun h60 => ?_)
      refine v_iload (pc := 63) dX6_fill_63 rfl ?_
      refine v_iconst (pc := 65) (4) dX6_fill_65 (by decide) ?_
      refine v_imul (pc := 66) dX6_fill_66 ?_
      refine v_iload (pc := 67) dX6_fill_67 rfl ?_
      refine v_iadd (pc := 69) dX6_fill_69 ?_
      refine v_istore (pc := 70) dX6_fill_70 (by decide) ?_
      refine v_aload_n (pc := 72) dX6_fill_72 rfl ?_
      refine v_gR (pc := 73) dX6_fill_73 fl_X6_11 rfl ?_
      refine v_iload (pc := 76) dX6_fill_76 rfl ?_
      refine v_aIv (pc := 78) (j := 4 * (s - v) + t) (A (4 * (s - v) + t)) dX6_fill_78 rfl (by omega) (by omega) (by omega) rfl ?_
      refine v_iconst (pc := 79) (-1) dX6_fill_79 (by decide) ?_
      refine v_icmp_eq (pc := 80) 148 dX6_fill_80 (by decide) (by omega) (by omega) (fun h80 => by exfalso; omega) (fun h80 => ?_)
      refine v_iload (pc := 83) dX6_fill_83 rfl ?_
      refine v_iload (pc := 85) dX6_fill_85 rfl ?_
      refine v_iadd (pc := 87) dX6_fill_87 ?_
      refine v_istore (pc := 88) dX6_fill_88 (by decide) ?_
      refine v_aload_n (pc := 90) dX6_fill_90 rfl ?_
      refine v_gR (pc := 91) dX6_fill_91 fl_X6_11 rfl ?_
      refine v_iload (pc := 94) dX6_fill_94 rfl ?_
      refine v_aIv (pc := 96) (j := 4 * (s - v) + t) (A (4 * (s - v) + t)) dX6_fill_96 rfl (by omega) (by omega) (by omega) rfl ?_
      refine v_aload_n (pc := 97) dX6_fill_97 rfl ?_
      refine v_gR (pc := 98) dX6_fill_98 fl_X6_32 rfl ?_
      refine v_iload (pc := 101) dX6_fill_101 rfl ?_
      refine v_iload (pc := 103) dX6_fill_103 rfl ?_
      refine v_iload (pc := 105) dX6_fill_105 rfl ?_
      refine v_aload_n (pc := 107) dX6_fill_107 rfl ?_
      refine v_gIv (pc := 108) (z) dX6_fill_108 fl_X6_18 rfl cz ?_
      refine v_imul (pc := 111) dX6_fill_111 ?_
      refine v_iadd (pc := 112) dX6_fill_112 ?_
      refine v_cVi2 (pc := 113) (z := 0) (d' := d - 1) dX6_fill_113 kX3_between ml_X6_74 iwX3_between swX3_between rfl rfl (Nat.le_of_ble_eq_true rfl) (Nat.le_of_ble_eq_true rfl) (by omega) ⟨Nat.le_refl _, Nat.le_refl _⟩ ?_
      refine c_X3_between (σ := vRow (vRow (vRow σ 17 c) 18 A) 19 B) (top := sTop σ k) f1 f2 hr (by omega) (by omega) (by omega) (by omega) (by omega) ?_
      rw [eg]
      refine ⟨_, rfl, ?_⟩
      refine v_iadd (pc := 116) dX6_fill_116 ?_
      refine v_istore (pc := 117) dX6_fill_117 (by decide) ?_
      refine v_aload_n (pc := 119) dX6_fill_119 rfl ?_
      refine v_iload_n (pc := 120) dX6_fill_120 rfl ?_
      refine v_iconst (pc := 121) (4) dX6_fill_121 (by decide) ?_
      refine v_imul (pc := 122) dX6_fill_122 ?_
      refine v_iload (pc := 123) dX6_fill_123 rfl ?_
      refine v_iadd (pc := 125) dX6_fill_125 ?_
      refine v_iload (pc := 126) dX6_fill_126 rfl ?_
      refine v_iadd (pc := 128) dX6_fill_128 ?_
      refine v_iload (pc := 129) dX6_fill_129 rfl ?_
      refine v_aload_n (pc := 131) dX6_fill_131 rfl ?_
      refine v_gR (pc := 132) dX6_fill_132 fl_X6_15 rfl ?_
      refine v_iload (pc := 135) dX6_fill_135 rfl ?_
      refine v_aIv (pc := 137) (j := 4 * (s - v) + t) (B (4 * (s - v) + t)) dX6_fill_137 rfl (by omega) (by omega) (by omega) rfl ?_
      refine v_iload_n (pc := 138) dX6_fill_138 rfl ?_
      refine v_iload (pc := 139) dX6_fill_139 rfl ?_
      refine v_cSNi2 (pc := 141) (d' := d - 1) dX6_fill_141 kX8_digitFor (by unfold vNest; simp [RX6, RX0, RX8]) stX8_digitFor (Nat.le_of_ble_eq_true rfl) (Nat.le_of_ble_eq_true rfl) (by omega) ⟨Nat.le_refl _, Nat.le_refl _⟩ ?_
      refine c_X8_digitFor (k := k) rfl (by omega) (by omega) (by omega) ?_
      refine ⟨_, rfl, ?_⟩
      refine v_iadd (pc := 144) dX6_fill_144 ?_
      refine v_cVv3 (pc := 145) (z := 0) (d' := d - 1) dX6_fill_145 kX6_offer ml_X6_80 iwX6_offer swX6_offer rfl rfl (Nat.le_of_ble_eq_true rfl) (Nat.le_of_ble_eq_true rfl) (by omega) ⟨Nat.le_refl _, Nat.le_refl _⟩ ?_
      refine c_X6_offer (p := p) (by omega) (by omega) (by omega) (by omega) ?_
      refine ⟨rfl, ?_⟩
      refine v_iinc (pc := 148) (1) dX6_fill_148 rfl (by decide) (by decide) ?_
      refine v_goto (pc := 151) 57 dX6_fill_151 (by decide) ?_
      exact v_lv (ih (t + 1) ((t : Int) + 1) _ _ (by omega) (by omega) (o6 p hp)) ⟨rfl, rfl, rfl, rfl, rfl, rfl, rfl, rfl, rfl, rfl, trivial⟩
set_option maxHeartbeats 4000000 in
set_option maxRecDepth 100000 in
theorem l_fill3 {g : vGl} {d : Nat} {Q : Option Value → List mC → Prop} {σ : vSt} {f r c : Nat → Int} {z bare hi : Int} {L k s : Nat} (hd : 3 ≤ d) (hR : YR σ) (hz : 1 ≤ z ∧ z ≤ 30) (cz : c 4 = z) (hk : k < sN σ) (hL : L ≤ 20) (hs : s ≤ L) (hs1 : 1 ≤ s) (hb : bare = sBa σ k) (f1 : f 1 = bare) (f2 : f 2 = hi) (hhi : hi = bare + L * z + qTank (σ 2 1) (L * z) + 4) (hr : ∀ j : Nat, bare + j ≤ hi → r j = qLow (sTop σ k) j (bare + j)) (hQ : ∀ A B : Nat → Int, sRI σ z L k (s - 1) A B → Q none (hp (sW σ f r c A B))) : ∀ (n v : Nat) (x : Int) (A B : Nat → Int) (hx : x = v) (hn : v + n = s + 1) (hv1 : 1 ≤ v) (hF : sRF σ z L k s x 0 A B), V g mX6_fill d (0, 0, 0, 0) Q 3 [(0, .ref 17), (1, vi (k : Int)), (2, vi bare), (3, vi (s : Int)), (4, vi x)] [] (hp (sW σ f r c A B)) := by
  have sn := sN_le hR
  have ba := sBa_nn hR k
  have tp := sTop_rng hR k
  have zz : 0 ≤ z := by omega
  have m1 := mul_le (a := (L : Int)) (b := z) (A := 20) (B := 30) (by omega) (by omega) zz hz.2
  have q1 := qTank_le (sr := σ 2 1) (z := L * z) (by have := hR.1; omega) (by have := hR.1; omega) (by omega) (by omega)
  intro n
  induction n with
  | zero =>
    intro v x A B hx hn hv1 hF
    subst hx
    refine v_iload (pc := 3) dX6_fill_3 rfl ?_
    refine v_iload_n (pc := 5) dX6_fill_5 rfl ?_
    refine v_icmp_gt (pc := 6) 160 dX6_fill_6 (by decide) (by omega) (by omega) (fun h6 => ?_) (fun h6 => by exfalso; omega)
    refine v_return (pc := 160) dX6_fill_160 rfl ⟨Nat.le_refl _, Nat.le_refl _⟩ ?_
    exact hQ A B (sRF_end hk (by omega) hF hs1)
  | succ n ih =>
    intro v x A B hx hn hv1 hF
    subst hx
    have m2 := mul_le (a := (s : Int)) (b := z) (A := 20) (B := 30) (by omega) (by omega) zz hz.2
    refine v_iload (pc := 3) dX6_fill_3 rfl ?_
    refine v_iload_n (pc := 5) dX6_fill_5 rfl ?_
    refine v_icmp_gt (pc := 6) 160 dX6_fill_6 (by decide) (by omega) (by omega) (fun h6 => by exfalso; omega) (fun h6 => ?_)
    refine v_iload_n (pc := 9) dX6_fill_9 rfl ?_
    refine v_iload (pc := 10) dX6_fill_10 rfl ?_
    refine v_isub (pc := 12) dX6_fill_12 ?_
    refine v_istore (pc := 13) dX6_fill_13 (by decide) ?_
    refine v_aload_n (pc := 15) dX6_fill_15 rfl ?_
    refine v_iload (pc := 16) dX6_fill_16 rfl ?_
    refine v_cVi1 (pc := 18) (z := 0) (d' := d - 1) dX6_fill_18 kX6_tankFor ml_X6_49 iwX6_tankFor swX6_tankFor rfl rfl (Nat.le_of_ble_eq_true rfl) (Nat.le_of_ble_eq_true rfl) (by omega) ⟨Nat.le_refl _, Nat.le_refl _⟩ ?_
    refine c_X6_tankFor hR hz cz (by omega) (by omega) ?_
    refine ⟨_, rfl, ?_⟩
    refine v_aload_n (pc := 21) dX6_fill_21 rfl ?_
    refine v_iload (pc := 22) dX6_fill_22 rfl ?_
    refine v_cVi1 (pc := 24) (z := 0) (d' := d - 1) dX6_fill_24 kX6_tankFor ml_X6_49 iwX6_tankFor swX6_tankFor rfl rfl (Nat.le_of_ble_eq_true rfl) (Nat.le_of_ble_eq_true rfl) (by omega) ⟨Nat.le_refl _, Nat.le_refl _⟩ ?_
    refine c_X6_tankFor hR hz cz (by omega) (by omega) ?_
    refine ⟨_, rfl, ?_⟩
    refine v_iadd (pc := 27) dX6_fill_27 ?_
    refine v_istore (pc := 28) dX6_fill_28 (by decide) ?_
    refine v_iload (pc := 30) dX6_fill_30 rfl ?_
    refine v_aload_n (pc := 32) dX6_fill_32 rfl ?_
    refine v_iload_n (pc := 33) dX6_fill_33 rfl ?_
    refine v_cVi1 (pc := 34) (z := 0) (d' := d - 1) dX6_fill_34 kX6_tankFor ml_X6_49 iwX6_tankFor swX6_tankFor rfl rfl (Nat.le_of_ble_eq_true rfl) (Nat.le_of_ble_eq_true rfl) (by omega) ⟨Nat.le_refl _, Nat.le_refl _⟩ ?_
    refine c_X6_tankFor hR hz cz (by omega) (by omega) ?_
    refine ⟨_, rfl, ?_⟩
    refine v_isub (pc := 37) dX6_fill_37 ?_
    refine v_istore (pc := 38) dX6_fill_38 (by decide) ?_
    refine v_iload_n (pc := 40) dX6_fill_40 rfl ?_
    refine v_iload (pc := 41) dX6_fill_41 rfl ?_
    refine v_aload_n (pc := 43) dX6_fill_43 rfl ?_
    refine v_gIv (pc := 44) (z) dX6_fill_44 fl_X6_18 rfl cz ?_
    refine v_imul (pc := 47) dX6_fill_47 ?_
    refine v_iadd (pc := 48) dX6_fill_48 ?_
    refine v_iload (pc := 49) dX6_fill_49 rfl ?_
    refine v_iadd (pc := 51) dX6_fill_51 ?_
    refine v_istore (pc := 52) dX6_fill_52 (by decide) ?_
    refine v_iconst (pc := 54) (0) dX6_fill_54 (by decide) ?_
    refine v_istore (pc := 55) dX6_fill_55 (by decide) ?_
    refine v_lv (l_fill57 hd hR hz cz hk hL hs hs1 hb f1 f2 hhi hr (by omega) hv1 (fun A2 B2 h2 => ?_) 4 0 0 A B rfl rfl hF) ⟨rfl, rfl, rfl, rfl, rfl, rfl, rfl, rfl, rfl, rfl, trivial⟩
    refine v_iinc (pc := 154) (1) dX6_fill_154 rfl (by decide) (by decide) ?_
    refine v_goto (pc := 157) 3 dX6_fill_157 (by decide) ?_
    exact v_lv (ih (v + 1) ((v : Int) + 1) A2 B2 (by omega) (by omega) (by omega) (sRF_next hR h2)) ⟨rfl, rfl, rfl, rfl, rfl, trivial⟩
set_option maxHeartbeats 4000000 in
set_option maxRecDepth 100000 in
theorem c_X6_fill {g : vGl} {d : Nat} {Q : Option Value → List mC → Prop} {σ : vSt} {f r c : Nat → Int} {z bare hi : Int} {L k s : Nat} (hd : 3 ≤ d) (hR : YR σ) (hz : 1 ≤ z ∧ z ≤ 30) (cz : c 4 = z) (hk : k < sN σ) (hL : L ≤ 20) (hs : s ≤ L) (hs1 : 1 ≤ s) (hb : bare = sBa σ k) (f1 : f 1 = bare) (f2 : f 2 = hi) (hhi : hi = bare + L * z + qTank (σ 2 1) (L * z) + 4) (hr : ∀ j : Nat, bare + j ≤ hi → r j = qLow (sTop σ k) j (bare + j)) (hQ : ∀ A B : Nat → Int, sRI σ z L k (s - 1) A B → Q none (hp (sW σ f r c A B))) {A B : Nat → Int} {x y : Int} (hx : x = k) (hy : y = s) (hI : sRI σ z L k s A B) : V g mX6_fill d (0, 0, 0, 0) Q 0 [(0, .ref 17), (1, vi x), (2, vi bare), (3, vi y)] [] (hp (sW σ f r c A B)) := by
  subst hx
  subst hy
  refine v_iconst (pc := 0) (1) dX6_fill_0 (by decide) ?_
  refine v_istore (pc := 1) dX6_fill_1 (by decide) ?_
  exact v_lv (l_fill3 hd hR hz cz hk hL hs hs1 hb f1 f2 hhi hr hQ s 1 1 A B rfl (by omega) (Nat.le_refl _) (sRF_start hR hk hI)) ⟨rfl, rfl, rfl, rfl, rfl, trivial⟩
set_option maxHeartbeats 4000000 in
set_option maxRecDepth 100000 in
theorem l_tell {g : vGl} {d : Nat} {Q : Option Value → List mC → Prop} {σ : vSt} {f r c0 A B : Nat → Int} {z : Int} {L : Nat} (hR : YR σ) (hz : 1 ≤ z ∧ z ≤ 30) (hL : L ≤ 20) (hA : sAll σ z L 0 A B) (hQ : ∀ (a : Int) (c : Nat → Int), (∀ j, j ≠ 5 → c j = c0 j) → (0 ≤ c 5 ∧ c 5 ≤ 1048575) → sB (sLo σ z 0) (sKe (sN σ) 0) (sCd (sN σ) L) a (c 5) → Q (some (vi a)) (hp (sW σ f r c A B))) : ∀ (n t : Nat) (x a : Int) (c : Nat → Int) (hx : x = t) (hn : t + n = 4) (hb : (0 ≤ c 5 ∧ c 5 ≤ 1048575) ∧ ∀ j, j ≠ 5 → c j = c0 j) (hT : sTB σ z L x a (c 5)), V g mX6_tellBest d (0, 0, 0, 0) Q 4 [(0, .ref 17), (1, vi (L : Int)), (2, vi a), (3, vi x)] [] (hp (sW σ f r c A B)) := by
  have zz : 0 ≤ z := by omega
  intro n
  induction n with
  | zero =>
    intro t x a c hx hn hb hT
    subst hx
    refine v_iload_n (pc := 4) dX6_tellBest_4 rfl ?_
    refine v_iconst (pc := 5) (4) dX6_tellBest_5 (by decide) ?_
    refine v_icmp_ge (pc := 6) 106 dX6_tellBest_6 (by decide) (by omega) (by omega) (fun h6 => ?_) (fun h6 => by exfalso; omega)
    refine v_iload_n (pc := 106) dX6_tellBest_106 rfl ?_
    refine v_ireturn (pc := 107) dX6_tellBest_107 rfl rfl ⟨Nat.le_refl _, Nat.le_refl _⟩ ?_
    have e4 : ((t : Nat) : Int) = 4 := by omega
    rw [e4] at hT
    exact hQ a c (fun j hj => (hb.2 j hj)) hb.1 (sTB_4 hR hT)
  | succ n ih =>
    intro t x a c hx hn hb hT
    subst hx
    have cT := sTB_s (show t < 4 by omega) hT hA
    have ra := sB_rng hR zz hz.2 hL (fun x q => ⟨q.1, q.2.1⟩) hT
    have rc := sB_rng hR zz hz.2 hL (fun x q => ⟨q.1, q.2.1⟩) (hA L t (Nat.le_refl _) (by omega))
    refine v_iload_n (pc := 4) dX6_tellBest_4 rfl ?_
    refine v_iconst (pc := 5) (4) dX6_tellBest_5 (by decide) ?_
    refine v_icmp_ge (pc := 6) 106 dX6_tellBest_6 (by decide) (by omega) (by omega) (fun h6 => by exfalso; omega) (fun h6 => ?_)
    refine v_iload_n (pc := 9) dX6_tellBest_9 rfl ?_
    refine v_iconst (pc := 10) (4) dX6_tellBest_10 (by decide) ?_
    refine v_imul (pc := 11) dX6_tellBest_11 ?_
    refine v_iload_n (pc := 12) dX6_tellBest_12 rfl ?_
    refine v_iadd (pc := 13) dX6_tellBest_13 ?_
    refine v_istore (pc := 14) dX6_tellBest_14 (by decide) ?_
    refine v_iload (pc := 16) dX6_tellBest_16 rfl ?_
    refine v_if_lt (pc := 18) 100 dX6_tellBest_18 (by decide) (by omega) (fun h18 => by exfalso; omega) (fun h18 => ?_)
    refine v_iload (pc := 21) dX6_tellBest_21 rfl ?_
    refine v_aload_n (pc := 23) dX6_tellBest_23 rfl ?_
    refine v_gR (pc := 24) dX6_tellBest_24 fl_X6_11 rfl ?_
    refine v_len (pc := 27) dX6_tellBest_27 rfl ?_
    refine v_icmp_ge (pc := 28) 100 dX6_tellBest_28 (by decide) (by omega) (by omega) (fun h28 => by exfalso; omega) (fun h28 => ?_)
    refine v_aload_n (pc := 31) dX6_tellBest_31 rfl ?_
    refine v_gR (pc := 32) dX6_tellBest_32 fl_X6_11 rfl ?_
    refine v_iload (pc := 35) dX6_tellBest_35 rfl ?_
    refine v_aIv (pc := 37) (j := 4 * L + t) (A (4 * L + t)) dX6_tellBest_37 rfl (by omega) (by omega) (by omega) rfl ?_
    refine v_iconst (pc := 38) (-1) dX6_tellBest_38 (by decide) ?_
    refine v_icmp_ne (pc := 39) 45 dX6_tellBest_39 (by decide) (by omega) (by omega) (fun h39 => ?_) (fun h39 => ?_)
    · refine v_aload_n (pc := 45) dX6_tellBest_45 rfl ?_
      refine v_gR (pc := 46) dX6_tellBest_46 fl_X6_11 rfl ?_
      refine v_iload (pc := 49) dX6_tellBest_49 rfl ?_
      refine v_aIv (pc := 51) (j := 4 * L + t) (A (4 * L + t)) dX6_tellBest_51 rfl (by omega) (by omega) (by omega) rfl ?_
      refine v_iload_n (pc := 52) dX6_tellBest_52 rfl ?_
      refine v_icmp_gt (pc := 53) 81 dX6_tellBest_53 (by decide) (by omega) (by omega) (fun h53 => ?_) (fun h53 => ?_)
      · refine v_aload_n (pc := 81) dX6_tellBest_81 rfl ?_
        refine v_gR (pc := 82) dX6_tellBest_82 fl_X6_11 rfl ?_
        refine v_iload (pc := 85) dX6_tellBest_85 rfl ?_
        refine v_aIv (pc := 87) (j := 4 * L + t) (A (4 * L + t)) dX6_tellBest_87 rfl (by omega) (by omega) (by omega) rfl ?_
        refine v_istore_n (pc := 88) dX6_tellBest_88 (by decide) ?_
        refine v_aload_n (pc := 89) dX6_tellBest_89 rfl ?_
        refine v_aload_n (pc := 90) dX6_tellBest_90 rfl ?_
        refine v_gR (pc := 91) dX6_tellBest_91 fl_X6_15 rfl ?_
        refine v_iload (pc := 94) dX6_tellBest_94 rfl ?_
        refine v_aIv (pc := 96) (j := 4 * L + t) (B (4 * L + t)) dX6_tellBest_96 rfl (by omega) (by omega) (by omega) rfl ?_
        refine v_pI (pc := 97) dX6_tellBest_97 fl_X6_22 rfl ?_
        refine v_iinc (pc := 100) (1) dX6_tellBest_100 rfl (by decide) (by decide) ?_
        refine v_goto (pc := 103) 4 dX6_tellBest_103 (by decide) ?_
        first
        | (rw [sW_17]
           exact v_lv (ih (t + 1) ((t : Int) + 1) _ _ (by omega) (by omega) ⟨(by show 0 ≤ B (4 * L + t) ∧ B (4 * L + t) ≤ 1048575; omega), fun j hj => (if_neg hj).trans (hb.2 j hj)⟩ ((cT.2 (by omega)).1 (by omega))) ⟨rfl, rfl, rfl, rfl, trivial⟩)
        | exact v_lv (ih (t + 1) ((t : Int) + 1) _ _ (by omega) (by omega) hb (cT.1 (by omega))) ⟨rfl, rfl, rfl, rfl, trivial⟩
        | exact v_lv (ih (t + 1) ((t : Int) + 1) _ _ (by omega) (by omega) hb ((cT.2 (by omega)).2 (by omega))) ⟨rfl, rfl, rfl, rfl, trivial⟩
      · refine v_aload_n (pc := 56) dX6_tellBest_56 rfl ?_
        refine v_gR (pc := 57) dX6_tellBest_57 fl_X6_11 rfl ?_
        refine v_iload (pc := 60) dX6_tellBest_60 rfl ?_
        refine v_aIv (pc := 62) (j := 4 * L + t) (A (4 * L + t)) dX6_tellBest_62 rfl (by omega) (by omega) (by omega) rfl ?_
        refine v_iload_n (pc := 63) dX6_tellBest_63 rfl ?_
        refine v_icmp_ne (pc := 64) 100 dX6_tellBest_64 (by decide) (by omega) (by omega) (fun h64 => ?_) (fun h64 => ?_)
        · refine v_iinc (pc := 100) (1) dX6_tellBest_100 rfl (by decide) (by decide) ?_
          refine v_goto (pc := 103) 4 dX6_tellBest_103 (by decide) ?_
          first
          | (rw [sW_17]
             exact v_lv (ih (t + 1) ((t : Int) + 1) _ _ (by omega) (by omega) ⟨(by show 0 ≤ B (4 * L + t) ∧ B (4 * L + t) ≤ 1048575; omega), fun j hj => (if_neg hj).trans (hb.2 j hj)⟩ ((cT.2 (by omega)).1 (by omega))) ⟨rfl, rfl, rfl, rfl, trivial⟩)
          | exact v_lv (ih (t + 1) ((t : Int) + 1) _ _ (by omega) (by omega) hb (cT.1 (by omega))) ⟨rfl, rfl, rfl, rfl, trivial⟩
          | exact v_lv (ih (t + 1) ((t : Int) + 1) _ _ (by omega) (by omega) hb ((cT.2 (by omega)).2 (by omega))) ⟨rfl, rfl, rfl, rfl, trivial⟩
        · refine v_aload_n (pc := 67) dX6_tellBest_67 rfl ?_
          refine v_gR (pc := 68) dX6_tellBest_68 fl_X6_15 rfl ?_
          refine v_iload (pc := 71) dX6_tellBest_71 rfl ?_
          refine v_aIv (pc := 73) (j := 4 * L + t) (B (4 * L + t)) dX6_tellBest_73 rfl (by omega) (by omega) (by omega) rfl ?_
          refine v_aload_n (pc := 74) dX6_tellBest_74 rfl ?_
          refine v_gIv (pc := 75) (c 5) dX6_tellBest_75 fl_X6_22 rfl rfl ?_
          refine v_icmp_ge (pc := 78) 100 dX6_tellBest_78 (by decide) (by omega) (by omega) (fun h78 => ?_) (fun h78 => ?_)
          · refine v_iinc (pc := 100) (1) dX6_tellBest_100 rfl (by decide) (by decide) ?_
            refine v_goto (pc := 103) 4 dX6_tellBest_103 (by decide) ?_
            first
            | (rw [sW_17]
               exact v_lv (ih (t + 1) ((t : Int) + 1) _ _ (by omega) (by omega) ⟨(by show 0 ≤ B (4 * L + t) ∧ B (4 * L + t) ≤ 1048575; omega), fun j hj => (if_neg hj).trans (hb.2 j hj)⟩ ((cT.2 (by omega)).1 (by omega))) ⟨rfl, rfl, rfl, rfl, trivial⟩)
            | exact v_lv (ih (t + 1) ((t : Int) + 1) _ _ (by omega) (by omega) hb (cT.1 (by omega))) ⟨rfl, rfl, rfl, rfl, trivial⟩
            | exact v_lv (ih (t + 1) ((t : Int) + 1) _ _ (by omega) (by omega) hb ((cT.2 (by omega)).2 (by omega))) ⟨rfl, rfl, rfl, rfl, trivial⟩
          · refine v_aload_n (pc := 81) dX6_tellBest_81 rfl ?_
            refine v_gR (pc := 82) dX6_tellBest_82 fl_X6_11 rfl ?_
            refine v_iload (pc := 85) dX6_tellBest_85 rfl ?_
            refine v_aIv (pc := 87) (j := 4 * L + t) (A (4 * L + t)) dX6_tellBest_87 rfl (by omega) (by omega) (by omega) rfl ?_
            refine v_istore_n (pc := 88) dX6_tellBest_88 (by decide) ?_
            refine v_aload_n (pc := 89) dX6_tellBest_89 rfl ?_
            refine v_aload_n (pc := 90) dX6_tellBest_90 rfl ?_
            refine v_gR (pc := 91) dX6_tellBest_91 fl_X6_15 rfl ?_
            refine v_iload (pc := 94) dX6_tellBest_94 rfl ?_
            refine v_aIv (pc := 96) (j := 4 * L + t) (B (4 * L + t)) dX6_tellBest_96 rfl (by omega) (by omega) (by omega) rfl ?_
            refine v_pI (pc := 97) dX6_tellBest_97 fl_X6_22 rfl ?_
            refine v_iinc (pc := 100) (1) dX6_tellBest_100 rfl (by decide) (by decide) ?_
            refine v_goto (pc := 103) 4 dX6_tellBest_103 (by decide) ?_
            first
            | (rw [sW_17]
               exact v_lv (ih (t + 1) ((t : Int) + 1) _ _ (by omega) (by omega) ⟨(by show 0 ≤ B (4 * L + t) ∧ B (4 * L + t) ≤ 1048575; omega), fun j hj => (if_neg hj).trans (hb.2 j hj)⟩ ((cT.2 (by omega)).1 (by omega))) ⟨rfl, rfl, rfl, rfl, trivial⟩)
            | exact v_lv (ih (t + 1) ((t : Int) + 1) _ _ (by omega) (by omega) hb (cT.1 (by omega))) ⟨rfl, rfl, rfl, rfl, trivial⟩
            | exact v_lv (ih (t + 1) ((t : Int) + 1) _ _ (by omega) (by omega) hb ((cT.2 (by omega)).2 (by omega))) ⟨rfl, rfl, rfl, rfl, trivial⟩
    · refine v_goto (pc := 42) 100 dX6_tellBest_42 (by decide) ?_
      refine v_iinc (pc := 100) (1) dX6_tellBest_100 rfl (by decide) (by decide) ?_
      refine v_goto (pc := 103) 4 dX6_tellBest_103 (by decide) ?_
      first
      | (rw [sW_17]
         exact v_lv (ih (t + 1) ((t : Int) + 1) _ _ (by omega) (by omega) ⟨(by show 0 ≤ B (4 * L + t) ∧ B (4 * L + t) ≤ 1048575; omega), fun j hj => (if_neg hj).trans (hb.2 j hj)⟩ ((cT.2 (by omega)).1 (by omega))) ⟨rfl, rfl, rfl, rfl, trivial⟩)
      | exact v_lv (ih (t + 1) ((t : Int) + 1) _ _ (by omega) (by omega) hb (cT.1 (by omega))) ⟨rfl, rfl, rfl, rfl, trivial⟩
      | exact v_lv (ih (t + 1) ((t : Int) + 1) _ _ (by omega) (by omega) hb ((cT.2 (by omega)).2 (by omega))) ⟨rfl, rfl, rfl, rfl, trivial⟩
set_option maxHeartbeats 4000000 in
set_option maxRecDepth 100000 in
theorem c_X6_tellBest {g : vGl} {d : Nat} {Q : Option Value → List mC → Prop} {σ : vSt} {f r c0 A B : Nat → Int} {z : Int} {L : Nat} (hR : YR σ) (hz : 1 ≤ z ∧ z ≤ 30) (hL : L ≤ 20) (hA : sAll σ z L 0 A B) (h5 : 0 ≤ c0 5 ∧ c0 5 ≤ 1048575) (hQ : ∀ (a : Int) (c : Nat → Int), (∀ j, j ≠ 5 → c j = c0 j) → (0 ≤ c 5 ∧ c 5 ≤ 1048575) → sB (sLo σ z 0) (sKe (sN σ) 0) (sCd (sN σ) L) a (c 5) → Q (some (vi a)) (hp (sW σ f r c A B))) {x : Int} (hx : x = L) : V g mX6_tellBest d (0, 0, 0, 0) Q 0 [(0, .ref 17), (1, vi x)] [] (hp (sW σ f r c0 A B)) := by
  subst hx
  refine v_iconst (pc := 0) (-1) dX6_tellBest_0 (by decide) ?_
  refine v_istore_n (pc := 1) dX6_tellBest_1 (by decide) ?_
  refine v_iconst (pc := 2) (0) dX6_tellBest_2 (by decide) ?_
  refine v_istore_n (pc := 3) dX6_tellBest_3 (by decide) ?_
  exact v_lv (l_tell hR hz hL hA hQ 4 0 0 (-1) c0 rfl rfl ⟨h5, fun j _ => rfl⟩ (sTB_0 hR)) ⟨rfl, rfl, rfl, rfl, trivial⟩
set_option maxHeartbeats 4000000 in
set_option maxRecDepth 100000 in
theorem l_sr132 {g : vGl} {d : Nat} {Q : Option Value → List mC → Prop} {σ : vSt} {f r c : Nat → Int} {z bare hi : Int} {L k : Nat} (hd : 4 ≤ d) (hR : YR σ) (hz : 1 ≤ z ∧ z ≤ 30) (cz : c 4 = z) (hk : k < sN σ) (hL : L ≤ 20) (hb : bare = sBa σ k) (f1 : f 1 = bare) (f2 : f 2 = hi) (hhi : hi = bare + L * z + qTank (σ 2 1) (L * z) + 4) (hr : ∀ j : Nat, bare + j ≤ hi → r j = qLow (sTop σ k) j (bare + j)) (K : ∀ A B : Nat → Int, sAll σ z L k A B → V g mX6_search d (0, 0, 0, 0) Q 152 [(0, .ref 17), (1, vi (L : Int)), (3, vi bare), (4, vi (k : Int))] [] (hp (sW σ f r c A B))) : ∀ (s : Nat) (x : Int) (A B : Nat → Int) (hx : x = s) (hs : s ≤ L) (hI : sRI σ z L k s A B), V g mX6_search d (0, 0, 0, 0) Q 132 [(0, .ref 17), (1, vi (L : Int)), (3, vi bare), (4, vi (k : Int)), (6, vi x)] [] (hp (sW σ f r c A B)) := by
  intro s
  induction s with
  | zero =>
    intro x A B hx hs hI
    subst hx
    refine v_iload (pc := 132) dX6_search_132 rfl ?_
    refine v_if_le (pc := 134) 152 dX6_search_134 (by decide) (by omega) (fun h134 => ?_) (fun h134 => by exfalso; omega)
    exact v_lv (K A B (sRI_all hk hI)) ⟨rfl, rfl, rfl, rfl, trivial⟩
  | succ s ih =>
    intro x A B hx hs hI
    subst hx
    refine v_iload (pc := 132) dX6_search_132 rfl ?_
    refine v_if_le (pc := 134) 152 dX6_search_134 (by decide) (by omega) (fun h134 => by exfalso; omega) (fun h134 => ?_)
    refine v_aload_n (pc := 137) dX6_search_137 rfl ?_
    refine v_iload (pc := 138) dX6_search_138 rfl ?_
    refine v_iload_n (pc := 140) dX6_search_140 rfl ?_
    refine v_iload (pc := 141) dX6_search_141 rfl ?_
    refine v_cVv3 (pc := 143) (z := 0) (d' := d - 1) dX6_search_143 kX6_fill ml_X6_67 iwX6_fill swX6_fill rfl rfl (Nat.le_of_ble_eq_true rfl) (Nat.le_of_ble_eq_true rfl) (by omega) ⟨Nat.le_refl _, Nat.le_refl _⟩ ?_
    refine c_X6_fill (L := L) (k := k) (s := s + 1) (by omega) hR hz cz hk hL hs (by omega) hb f1 f2 hhi hr (fun A2 B2 h2 => ?_) rfl rfl hI
    refine ⟨rfl, ?_⟩
    refine v_iinc (pc := 146) (-1) dX6_search_146 rfl (by decide) (by decide) ?_
    refine v_goto (pc := 149) 132 dX6_search_149 (by decide) ?_
    exact v_lv (ih (((s + 1 : Nat) : Int) + (-1)) A2 B2 (by omega) (by omega) h2) ⟨rfl, rfl, rfl, rfl, rfl, trivial⟩
set_option maxHeartbeats 4000000 in
set_option maxRecDepth 100000 in
theorem l_sr70 {g : vGl} {d : Nat} {Q : Option Value → List mC → Prop} {σ : vSt} {z : Int} {L : Nat} (hd : 4 ≤ d) (hR : YR σ) (hz : 1 ≤ z ∧ z ≤ 30) (hL : L ≤ 20) {c : Nat → Int} (cz : c 4 = z) (c6 : c 6 = σ 10 6) (h5 : 0 ≤ c 5 ∧ c 5 ≤ 1048575) (hQ : ∀ (a : Int) (f r c A B : Nat → Int), r 0 = 0 → (0 ≤ c 5 ∧ c 5 ≤ 1048575) → c 6 = σ 10 6 → sB (sLo σ z 0) (sKe (sN σ) 0) (sCd (sN σ) L) a (c 5) → Q (some (vi a)) (hp (sW σ f r c A B))) : ∀ (k : Nat) (x bare : Int) (f r A B : Nat → Int) (hx : x + 1 = k) (hkn : k ≤ sN σ) (hb : bare = sBa σ k) (r0 : r 0 = 0) (hI : sAll σ z L k A B), V g mX6_search d (0, 0, 0, 0) Q 70 [(0, .ref 17), (1, vi (L : Int)), (3, vi bare), (4, vi x)] [] (hp (sW σ f r c A B)) := by
  obtain ⟨⟨r0, r1, r2, r3, r4, r5, r6, r7, r8, r9⟩, rE, rS, rT, rF⟩ := id hR
  have sn := sN_le hR
  have zz : 0 ≤ z := by omega
  have m1 := mul_le (a := (L : Int)) (b := z) (A := 20) (B := 30) (by omega) (by omega) zz hz.2
  have q1 := qTank_le (sr := σ 2 1) (z := L * z) (by omega) (by omega) (by omega) (by omega)
  intro k
  induction k with
  | zero =>
    intro x bare f r A B hx hkn hb r0 hI
    refine v_iload (pc := 70) dX6_search_70 rfl ?_
    refine v_if_lt (pc := 72) 158 dX6_search_72 (by decide) (by omega) (fun h72 => ?_) (fun h72 => by exfalso; omega)
    refine v_aload_n (pc := 158) dX6_search_158 rfl ?_
    refine v_iload_n (pc := 159) dX6_search_159 rfl ?_
    refine v_cVi1 (pc := 160) (z := 0) (d' := d - 1) dX6_search_160 kX6_tellBest ml_X6_70 iwX6_tellBest swX6_tellBest rfl rfl (Nat.le_of_ble_eq_true rfl) (Nat.le_of_ble_eq_true rfl) (by omega) ⟨Nat.le_refl _, Nat.le_refl _⟩ ?_
    refine c_X6_tellBest hR hz hL hI h5 (fun a c2 h1 h2 h3 => ?_) rfl
    refine ⟨_, rfl, ?_⟩
    refine v_ireturn (pc := 163) dX6_search_163 rfl rfl ⟨Nat.le_refl _, Nat.le_refl _⟩ ?_
    exact hQ a f r c2 A B r0 h2 ((h1 6 (by decide)).trans c6) h3
  | succ k ih =>
    intro x bare f r A B hx hkn hb r0 hI
    have hk : k < sN σ := by omega
    have hk2 : (k : Int) < σ 10 6 := by have : k < (σ 10 6).toNat := hk; omega
    have ba := sBa_s hk
    have bn := sBa_nn hR k
    have te := rE (σ 11 k).toNat
    refine v_iload (pc := 70) dX6_search_70 rfl ?_
    refine v_if_lt (pc := 72) 158 dX6_search_72 (by decide) (by omega) (fun h72 => by exfalso; omega) (fun h72 => ?_)
    refine v_iload_n (pc := 75) dX6_search_75 rfl ?_
    refine v_aload_n (pc := 76) dX6_search_76 rfl ?_
    refine v_gR (pc := 77) dX6_search_77 fl_X6_28 rfl ?_
    refine v_iload (pc := 80) dX6_search_80 rfl ?_
    refine v_cVi1 (pc := 82) (z := 0) (d' := d - 1) dX6_search_82 kX4_bareOf ml_X6_45 iwX4_bareOf swX4_bareOf rfl rfl (Nat.le_of_ble_eq_true rfl) (Nat.le_of_ble_eq_true rfl) (by omega) ⟨Nat.le_refl _, Nat.le_refl _⟩ ?_
    refine c_X4_bareOf (k := k) (by omega) (by exact hR) (by omega) (by exact hk2) ?_
    refine ⟨_, rfl, ?_⟩
    refine v_iadd (pc := 85) dX6_search_85 ?_
    refine v_istore_n (pc := 86) dX6_search_86 (by decide) ?_
    refine v_lv (lv' := [(0, .ref 17), (1, vi (L : Int)), (3, vi (sBa σ k)), (4, vi (k : Int))]) ?_ ⟨rfl, rfl, (congrArg (fun v => some (vi v)) (show bare + yBare σ k = sBa σ k by omega)), (congrArg (fun v => some (vi v)) (show x = (k : Int) by omega)), trivial⟩
    refine v_iload_n (pc := 87) dX6_search_87 rfl ?_
    refine v_iload_n (pc := 88) dX6_search_88 rfl ?_
    refine v_aload_n (pc := 89) dX6_search_89 rfl ?_
    refine v_gIv (pc := 90) (z) dX6_search_90 fl_X6_18 rfl cz ?_
    refine v_imul (pc := 93) dX6_search_93 ?_
    refine v_iadd (pc := 94) dX6_search_94 ?_
    refine v_aload_n (pc := 95) dX6_search_95 rfl ?_
    refine v_iload_n (pc := 96) dX6_search_96 rfl ?_
    refine v_cVi1 (pc := 97) (z := 0) (d' := d - 1) dX6_search_97 kX6_tankFor ml_X6_49 iwX6_tankFor swX6_tankFor rfl rfl (Nat.le_of_ble_eq_true rfl) (Nat.le_of_ble_eq_true rfl) (by omega) ⟨Nat.le_refl _, Nat.le_refl _⟩ ?_
    refine c_X6_tankFor hR hz cz (by omega) (by omega) ?_
    refine ⟨_, rfl, ?_⟩
    refine v_iadd (pc := 100) dX6_search_100 ?_
    refine v_iconst (pc := 101) (4) dX6_search_101 (by decide) ?_
    refine v_iadd (pc := 102) dX6_search_102 ?_
    refine v_istore (pc := 103) dX6_search_103 (by decide) ?_
    refine v_aload_n (pc := 105) dX6_search_105 rfl ?_
    refine v_gR (pc := 106) dX6_search_106 fl_X6_32 rfl ?_
    refine v_aload_n (pc := 109) dX6_search_109 rfl ?_
    refine v_gR (pc := 110) dX6_search_110 fl_X6_28 rfl ?_
    refine v_iload (pc := 113) dX6_search_113 rfl ?_
    refine v_cVi1 (pc := 115) (z := 0) (d' := d - 1) dX6_search_115 kX4_exhaustOf ml_X6_52 iwX4_exhaustOf swX4_exhaustOf rfl rfl (Nat.le_of_ble_eq_true rfl) (Nat.le_of_ble_eq_true rfl) (by omega) ⟨Nat.le_refl _, Nat.le_refl _⟩ ?_
    refine c_X4_exhaustOf (k := k) (by omega) (by exact hR) (by omega) (by exact hk2) ?_
    refine ⟨_, rfl, ?_⟩
    refine v_iload_n (pc := 118) dX6_search_118 rfl ?_
    refine v_iload (pc := 119) dX6_search_119 rfl ?_
    refine v_cVv3 (pc := 121) (z := 0) (d' := d - 1) dX6_search_121 kX3_ready ml_X6_55 iwX3_ready swX3_ready rfl rfl (Nat.le_of_ble_eq_true rfl) (Nat.le_of_ble_eq_true rfl) (by omega) ⟨Nat.le_refl _, Nat.le_refl _⟩ ?_
    refine c_X3_ready (σ := vRow (vRow (vRow σ 17 c) 18 A) 19 B) (by omega) (show 0 ≤ σ 5 (σ 11 k).toNat ∧ σ 5 (σ 11 k).toNat ≤ 999 by omega) (by omega) (by omega) r0 (fun f2 r2 e1 e2 e3 => ?_)
    refine ⟨rfl, ?_⟩
    refine v_iload_n (pc := 124) dX6_search_124 rfl ?_
    refine v_bipush (pc := 125) (20) dX6_search_125 (by decide) ?_
    refine v_min (pc := 127) dX6_search_127 ml_X6_61 st_min it_Math co_min (by omega) (by omega) (Nat.le_of_ble_eq_true rfl) (by omega) ⟨Nat.le_refl _, Nat.le_refl _⟩ ?_
    refine v_top (show _ = (L : Int) by omega) ?_
    refine v_istore (pc := 130) dX6_search_130 (by decide) ?_
    refine v_lv (l_sr132 (bare := sBa σ k) (hi := sBa σ k + L * z + qTank (σ 2 1) (L * z) + 4) hd hR hz cz hk hL rfl e1 e2 rfl e3 (fun A2 B2 h2 => ?_) L (L : Int) A B rfl (Nat.le_refl _) (sRI_top hI)) ⟨rfl, rfl, rfl, rfl, rfl, trivial⟩
    refine v_iinc (pc := 152) (-1) dX6_search_152 rfl (by decide) (by decide) ?_
    refine v_goto (pc := 155) 70 dX6_search_155 (by decide) ?_
    exact v_lv (ih ((k : Int) + (-1)) (sBa σ k) f2 r2 A2 B2 (by omega) (by omega) rfl (e3 0 (by omega)) h2) ⟨rfl, rfl, rfl, rfl, trivial⟩
set_option maxHeartbeats 4000000 in
set_option maxRecDepth 100000 in
theorem l_sr18 {g : vGl} {d : Nat} {Q : Option Value → List mC → Prop} {σ : vSt} {f r c B : Nat → Int} {L : Nat} (K : ∀ A : Nat → Int, (∀ i : Nat, i < 84 → A i = -1) → V g mX6_search d (0, 0, 0, 0) Q 40 [(0, .ref 17), (1, vi (L : Int))] [] (hp (sW σ f r c A B))) : ∀ (n j : Nat) (x : Int) (A : Nat → Int) (hx : x = j) (hn : j + n = 84) (hA : ∀ i : Nat, i < j → A i = -1), V g mX6_search d (0, 0, 0, 0) Q 18 [(0, .ref 17), (1, vi (L : Int)), (3, vi x)] [] (hp (sW σ f r c A B)) := by
  intro n
  induction n with
  | zero =>
    intro j x A hx hn hA
    refine v_iload_n (pc := 18) dX6_search_18 rfl ?_
    refine v_aload_n (pc := 19) dX6_search_19 rfl ?_
    refine v_gR (pc := 20) dX6_search_20 fl_X6_11 rfl ?_
    refine v_len (pc := 23) dX6_search_23 rfl ?_
    refine v_icmp_ge (pc := 24) 40 dX6_search_24 (by decide) (by omega) (by omega) (fun h24 => ?_) (fun h24 => by exfalso; omega)
    exact v_lv (K A (fun i hi => hA i (by omega))) ⟨rfl, rfl, trivial⟩
  | succ n ih =>
    intro j x A hx hn hA
    refine v_iload_n (pc := 18) dX6_search_18 rfl ?_
    refine v_aload_n (pc := 19) dX6_search_19 rfl ?_
    refine v_gR (pc := 20) dX6_search_20 fl_X6_11 rfl ?_
    refine v_len (pc := 23) dX6_search_23 rfl ?_
    refine v_icmp_ge (pc := 24) 40 dX6_search_24 (by decide) (by omega) (by omega) (fun h24 => by exfalso; omega) (fun h24 => ?_)
    refine v_aload_n (pc := 27) dX6_search_27 rfl ?_
    refine v_gR (pc := 28) dX6_search_28 fl_X6_11 rfl ?_
    refine v_iload_n (pc := 31) dX6_search_31 rfl ?_
    refine v_iconst (pc := 32) (-1) dX6_search_32 (by decide) ?_
    refine v_sI (pc := 33) (j := j) dX6_search_33 rfl (by omega) (by omega) (by omega) ?_
    refine v_iinc (pc := 34) (1) dX6_search_34 rfl (by decide) (by decide) ?_
    refine v_goto (pc := 37) 18 dX6_search_37 (by decide) ?_
    rw [sW_18]
    refine v_lv (ih (j + 1) (x + 1) _ (by omega) (by omega) (fun i hi => ?_)) ⟨rfl, rfl, rfl, trivial⟩
    by_cases e : i = j
    · exact if_pos e
    · exact (if_neg e).trans (hA i (by omega))
set_option maxHeartbeats 4000000 in
set_option maxRecDepth 100000 in
theorem c_X6_search {g : vGl} {d : Nat} {Q : Option Value → List mC → Prop} {σ : vSt} {z : Int} {L : Nat} (hd : 4 ≤ d) (hR : YR σ) (hz : 1 ≤ z ∧ z ≤ 30) (hL : L ≤ 20) (hn : 0 < σ 10 6) (h5 : 0 ≤ σ 17 5 ∧ σ 17 5 ≤ 1048575) (e16 : σ 16 0 = 0) (hQ : ∀ (a : Int) (f r c A B : Nat → Int), r 0 = 0 → (0 ≤ c 5 ∧ c 5 ≤ 1048575) → c 6 = σ 10 6 → sB (sLo σ z 0) (sKe (sN σ) 0) (sCd (sN σ) L) a (c 5) → Q (some (vi a)) (hp (sW σ f r c A B))) {x : Int} (hx : x = L) : V g mX6_search d (0, 0, 0, 0) Q 0 [(0, .ref 17), (1, vi x), (2, vi z)] [] (hp σ) := by
  obtain ⟨⟨r0, r1, r2, r3, r4, r5, r6, r7, r8, r9⟩, rE, rS, rT, rF⟩ := id hR
  subst hx
  have eN : ((sN σ : Nat) : Int) = σ 10 6 := by show (((σ 10 6).toNat : Nat) : Int) = σ 10 6; omega
  refine v_sg (sW_self σ).symm ?_
  refine v_aload_n (pc := 0) dX6_search_0 rfl ?_
  refine v_iload_n (pc := 1) dX6_search_1 rfl ?_
  refine v_pI (pc := 2) dX6_search_2 fl_X6_18 rfl ?_
  refine v_aload_n (pc := 5) dX6_search_5 rfl ?_
  refine v_aload_n (pc := 6) dX6_search_6 rfl ?_
  refine v_gR (pc := 7) dX6_search_7 fl_X6_28 rfl ?_
  refine v_gIv (pc := 10) (σ 10 6) dX6_search_10 fl_X6_36 rfl rfl ?_
  refine v_pI (pc := 13) dX6_search_13 fl_X6_25 rfl ?_
  rw [sW_17, sW_17]
  refine v_iconst (pc := 16) (0) dX6_search_16 (by decide) ?_
  refine v_istore_n (pc := 17) dX6_search_17 (by decide) ?_
  refine v_lv (l_sr18 (L := L) (fun A hA => ?_) 84 0 0 (σ 18) rfl rfl (fun i hi => by omega)) ⟨rfl, rfl, rfl, trivial⟩
  refine v_aload_n (pc := 40) dX6_search_40 rfl ?_
  refine v_gR (pc := 41) dX6_search_41 fl_X6_11 rfl ?_
  refine v_iconst (pc := 44) (0) dX6_search_44 (by decide) ?_
  refine v_iconst (pc := 45) (0) dX6_search_45 (by decide) ?_
  refine v_sI (pc := 46) (j := 0) dX6_search_46 rfl rfl (by omega) (by omega) ?_
  refine v_aload_n (pc := 47) dX6_search_47 rfl ?_
  refine v_gR (pc := 48) dX6_search_48 fl_X6_15 rfl ?_
  refine v_iconst (pc := 51) (0) dX6_search_51 (by decide) ?_
  refine v_iconst (pc := 52) (0) dX6_search_52 (by decide) ?_
  refine v_sI (pc := 53) (j := 0) dX6_search_53 rfl rfl (by omega) (by omega) ?_
  refine v_aload_n (pc := 54) dX6_search_54 rfl ?_
  refine v_gR (pc := 55) dX6_search_55 fl_X6_28 rfl ?_
  refine v_cVi0 (pc := 58) (z := 0) (d' := d - 1) dX6_search_58 kX4_load ml_X6_41 iwX4_load swX4_load rfl rfl (Nat.le_of_ble_eq_true rfl) (Nat.le_of_ble_eq_true rfl) (by omega) ⟨Nat.le_refl _, Nat.le_refl _⟩ ?_
  refine c_X4_load ?_
  refine ⟨_, rfl, ?_⟩
  refine v_istore_n (pc := 61) dX6_search_61 (by decide) ?_
  refine v_aload_n (pc := 62) dX6_search_62 rfl ?_
  refine v_gIv (pc := 63) (σ 10 6) dX6_search_63 fl_X6_25 rfl rfl ?_
  refine v_iconst (pc := 66) (1) dX6_search_66 (by decide) ?_
  refine v_isub (pc := 67) dX6_search_67 ?_
  refine v_istore (pc := 68) dX6_search_68 (by decide) ?_
  rw [sW_18, sW_19]
  refine v_lv (l_sr70 (c := qUp (qUp (σ 17) 4 z) 6 (σ 10 6)) hd hR hz hL rfl rfl h5 hQ (sN σ) (σ 10 6 - 1) (σ 2 0) (σ 15) (σ 16) (qUp A 0 0) (qUp (σ 19) 0 0) (by omega) (Nat.le_refl _) ?_ e16 (sAll_0 rfl rfl (fun j h1 h2 => (if_neg (show ¬ j = 0 by omega)).trans (hA j h2)) hL)) ⟨rfl, rfl, rfl, rfl, trivial⟩
  unfold sBa
  rw [qSum_e (Nat.le_refl _)]
  omega
set_option maxHeartbeats 4000000 in
set_option maxRecDepth 100000 in
theorem c_X8_split {g : vGl} {d : Nat} {Q : Option Value → List mC → Prop} {σ : vSt} {x z : Int} (hd : 5 ≤ d) (hR : YR σ) (hx : vr x) (hz : vr z) (h5 : 0 ≤ σ 17 5 ∧ σ 17 5 ≤ 1048575) (e16 : σ 16 0 = 0) (hB : ¬ ((0 ≤ x ∧ x ≤ 20) ∧ 1 ≤ z ∧ z ≤ 30) → Q (some (vi (-2))) (hp σ)) (hE : 0 ≤ x → x ≤ 20 → 1 ≤ z → z ≤ 30 → σ 10 6 = 0 → Q (some (vi (-3))) (hp σ)) (hQ : ∀ L : Nat, x = L → L ≤ 20 → 1 ≤ z → z ≤ 30 → 0 < σ 10 6 → ∀ (a : Int) (f r c A B : Nat → Int), r 0 = 0 → (0 ≤ c 5 ∧ c 5 ≤ 1048575) → c 6 = σ 10 6 → sB (sLo σ z 0) (sKe (sN σ) 0) (sCd (sN σ) L) a (c 5) → Q (some (vi a)) (hp (sW σ f r c A B))) : V g mX8_split d (0, 0, 0, 0) Q 0 [(0, .ref 1), (1, vi x), (2, vi z)] [] (hp σ) := by
  obtain ⟨⟨r0, r1, r2, r3, r4, r5, r6, r7, r8, r9⟩, rE, rS, rT, rF⟩ := id hR
  refine v_iload_n (pc := 0) dX8_split_0 rfl ?_
  refine v_iconst (pc := 1) (0) dX8_split_1 (by decide) ?_
  refine v_bipush (pc := 2) (20) dX8_split_2 (by decide) ?_
  refine v_cSi3 (pc := 4) (d' := d - 1) dX8_split_4 kX8_within ml_X8_81 stX8_within (Nat.le_of_ble_eq_true rfl) (Nat.le_of_ble_eq_true rfl) (by omega) ⟨Nat.le_refl _, Nat.le_refl _⟩ ?_
  refine c_X8_within (by omega) (by omega) (by omega) ?_
  refine ⟨_, rfl, ?_⟩
  refine v_if_eq (pc := 7) 20 dX8_split_7 (by decide) (by omega) (fun h7 => ?_) (fun h7 => ?_)
  · refine v_bipush (pc := 20) (-2) dX8_split_20 (by decide) ?_
    refine v_ireturn (pc := 22) dX8_split_22 rfl rfl ⟨Nat.le_refl _, Nat.le_refl _⟩ ?_
    exact hB (by omega)
  · refine v_iload_n (pc := 10) dX8_split_10 rfl ?_
    refine v_iconst (pc := 11) (1) dX8_split_11 (by decide) ?_
    refine v_bipush (pc := 12) (30) dX8_split_12 (by decide) ?_
    refine v_cSi3 (pc := 14) (d' := d - 1) dX8_split_14 kX8_within ml_X8_81 stX8_within (Nat.le_of_ble_eq_true rfl) (Nat.le_of_ble_eq_true rfl) (by omega) ⟨Nat.le_refl _, Nat.le_refl _⟩ ?_
    refine c_X8_within (by omega) (by omega) (by omega) ?_
    refine ⟨_, rfl, ?_⟩
    refine v_if_ne (pc := 17) 23 dX8_split_17 (by decide) (by omega) (fun h17 => ?_) (fun h17 => ?_)
    · refine v_aload_n (pc := 23) dX8_split_23 rfl ?_
      refine v_gR (pc := 24) dX8_split_24 fl_X8_25 rfl ?_
      refine v_gI (pc := 27) dX8_split_27 fl_X8_99 rfl ?_
      refine v_if_ne (pc := 30) 36 dX8_split_30 (by decide) (by omega) (fun h30 => ?_) (fun h30 => ?_)
      · refine v_aload_n (pc := 36) dX8_split_36 rfl ?_
        refine v_gR (pc := 37) dX8_split_37 fl_X8_37 rfl ?_
        refine v_iload_n (pc := 40) dX8_split_40 rfl ?_
        refine v_iload_n (pc := 41) dX8_split_41 rfl ?_
        refine v_cVi2 (pc := 42) (z := 0) (d' := d - 1) dX8_split_42 kX6_search ml_X8_143 iwX6_search swX6_search rfl rfl (Nat.le_of_ble_eq_true rfl) (Nat.le_of_ble_eq_true rfl) (by omega) ⟨Nat.le_refl _, Nat.le_refl _⟩ ?_
        refine c_X6_search (L := x.toNat) (by omega) hR (by omega) (by omega) (by omega) h5 e16 (fun a f r c A B q1 q2 q3 q4 => ?_) (by omega)
        refine ⟨_, rfl, ?_⟩
        refine v_ireturn (pc := 45) dX8_split_45 rfl rfl ⟨Nat.le_refl _, Nat.le_refl _⟩ ?_
        exact hQ x.toNat (by omega) (by omega) (by omega) (by omega) (by omega) a f r c A B q1 q2 q3 q4
      · refine v_bipush (pc := 33) (-3) dX8_split_33 (by decide) ?_
        refine v_ireturn (pc := 35) dX8_split_35 rfl rfl ⟨Nat.le_refl _, Nat.le_refl _⟩ ?_
        exact hE (by omega) (by omega) (by omega) (by omega) (by omega)
    · refine v_bipush (pc := 20) (-2) dX8_split_20 (by decide) ?_
      refine v_ireturn (pc := 22) dX8_split_22 rfl rfl ⟨Nat.le_refl _, Nat.le_refl _⟩ ?_
      exact hB (by omega)
