set_option maxHeartbeats 4000000 in
set_option maxRecDepth 100000 in
theorem c_X8_within {g : vGl} {d : Nat} {Q : Option Value → List mC → Prop} {σ : vSt} {a b c : Int} (ha : vr a) (hb : vr b) (hc : vr c) (hQ : Q (some (vi (if b ≤ a ∧ a ≤ c then 1 else 0))) (hp σ)) : V g mX8_within d (0, 0, 0, 0) Q 0 [(0, vi a), (1, vi b), (2, vi c)] [] (hp σ) := by
  refine v_iload_n (pc := 0) dX8_within_0 rfl ?_
  refine v_iload_n (pc := 1) dX8_within_1 rfl ?_
  refine v_icmp_lt (pc := 2) 14 dX8_within_2 (by decide) (by omega) (by omega) (fun h2 => ?_) (fun h2 => ?_)
  · refine v_iconst (pc := 14) (0) dX8_within_14 (by decide) ?_
    refine v_ireturn (pc := 15) dX8_within_15 rfl (vZ (by omega)) ⟨Nat.le_refl _, Nat.le_refl _⟩ ?_
    first | (rw [if_pos (by omega)] at hQ; exact hQ) | (rw [if_neg (by omega)] at hQ; exact hQ)
  · refine v_iload_n (pc := 5) dX8_within_5 rfl ?_
    refine v_iload_n (pc := 6) dX8_within_6 rfl ?_
    refine v_icmp_gt (pc := 7) 14 dX8_within_7 (by decide) (by omega) (by omega) (fun h7 => ?_) (fun h7 => ?_)
    · refine v_iconst (pc := 14) (0) dX8_within_14 (by decide) ?_
      refine v_ireturn (pc := 15) dX8_within_15 rfl (vZ (by omega)) ⟨Nat.le_refl _, Nat.le_refl _⟩ ?_
      first | (rw [if_pos (by omega)] at hQ; exact hQ) | (rw [if_neg (by omega)] at hQ; exact hQ)
    · refine v_iconst (pc := 10) (1) dX8_within_10 (by decide) ?_
      refine v_goto (pc := 11) 15 dX8_within_11 (by decide) ?_
      refine v_ireturn (pc := 15) dX8_within_15 rfl (vZ (by omega)) ⟨Nat.le_refl _, Nat.le_refl _⟩ ?_
      first | (rw [if_pos (by omega)] at hQ; exact hQ) | (rw [if_neg (by omega)] at hQ; exact hQ)
set_option maxHeartbeats 4000000 in
set_option maxRecDepth 100000 in
theorem c_X8_put {g : vGl} {d : Nat} {Q : Option Value → List mC → Prop} {σ : vSt} {p n k : Nat} {x y : Int} (hs : vAT p = some (0, n)) (hn : n ≤ 100000) (hx : x = k) (hk : k < n) (hQ : Q (some (vi (σ p k))) (hp (vU σ p k y))) : V g mX8_put d (0, 0, 0, 0) Q 0 [(0, .ref p), (1, vi x), (2, vi y)] [] (hp σ) := by
  refine v_iload_n (pc := 0) dX8_put_0 rfl ?_
  refine v_if_lt (pc := 1) 10 dX8_put_1 (by decide) (by omega) (fun h1 => by exfalso; omega) (fun h1 => ?_)
  refine v_iload_n (pc := 4) dX8_put_4 rfl ?_
  refine v_aload_n (pc := 5) dX8_put_5 rfl ?_
  refine v_len (pc := 6) dX8_put_6 hs ?_
  refine v_icmp_lt (pc := 7) 12 dX8_put_7 (by decide) (by omega) (by omega) (fun h7 => ?_) (fun h7 => by exfalso; omega)
  refine v_aload_n (pc := 12) dX8_put_12 rfl ?_
  refine v_iload_n (pc := 13) dX8_put_13 rfl ?_
  refine v_aI (pc := 14) (j := k) dX8_put_14 hs (by omega) (by omega) (by omega) ?_
  refine v_istore_n (pc := 15) dX8_put_15 (by decide) ?_
  refine v_aload_n (pc := 16) dX8_put_16 rfl ?_
  refine v_iload_n (pc := 17) dX8_put_17 rfl ?_
  refine v_iload_n (pc := 18) dX8_put_18 rfl ?_
  refine v_sI (pc := 19) (j := k) dX8_put_19 hs (by omega) (by omega) (by omega) ?_
  refine v_iload_n (pc := 20) dX8_put_20 rfl ?_
  refine v_ireturn (pc := 21) dX8_put_21 rfl rfl ⟨Nat.le_refl _, Nat.le_refl _⟩ ?_
  exact hQ
set_option maxHeartbeats 4000000 in
set_option maxRecDepth 100000 in
theorem l_X8_sumOf {g : vGl} {d : Nat} {Q : Option Value → List mC → Prop} {σ : vSt} {p m : Nat} (hs : vAT p = some (0, m)) (hm : m ≤ 100000) : ∀ (n : Nat) (j : Nat) (x s : Int) (hx : x = j) (hn : j + n = m) (hQ : Q (some (vi (s + qSum (σ p) n j))) (hp σ)), V g mX8_sumOf d (0, 0, 0, 0) Q 10 [(1, vi s), (2, .ref p), (3, vi m), (4, vi x)] [] (hp σ) := by
  intro n
  induction n with
  | zero =>
    intro j x s hx hn hQ
    refine v_iload (pc := 10) dX8_sumOf_10 rfl ?_
    refine v_iload_n (pc := 12) dX8_sumOf_12 rfl ?_
    refine v_icmp_ge (pc := 13) 33 dX8_sumOf_13 (by decide) (by omega) (by omega) (fun h13 => ?_) (fun h13 => by exfalso; omega)
    refine v_iload_n (pc := 33) dX8_sumOf_33 rfl ?_
    refine v_ireturn (pc := 34) dX8_sumOf_34 rfl rfl ⟨Nat.le_refl _, Nat.le_refl _⟩ ?_
    simpa [qSum] using hQ
  | succ n ih =>
    intro j x s hx hn hQ
    refine v_iload (pc := 10) dX8_sumOf_10 rfl ?_
    refine v_iload_n (pc := 12) dX8_sumOf_12 rfl ?_
    refine v_icmp_ge (pc := 13) 33 dX8_sumOf_13 (by decide) (by omega) (by omega) (fun h13 => by exfalso; omega) (fun h13 => ?_)
    refine v_aload_n (pc := 16) dX8_sumOf_16 rfl ?_
    refine v_iload (pc := 17) dX8_sumOf_17 rfl ?_
    refine v_aI (pc := 19) (j := j) dX8_sumOf_19 hs (by omega) (by omega) (by omega) ?_
    refine v_istore (pc := 20) dX8_sumOf_20 (by decide) ?_
    refine v_iload_n (pc := 22) dX8_sumOf_22 rfl ?_
    refine v_iload (pc := 23) dX8_sumOf_23 rfl ?_
    refine v_iadd (pc := 25) dX8_sumOf_25 ?_
    refine v_istore_n (pc := 26) dX8_sumOf_26 (by decide) ?_
    refine v_iinc (pc := 27) (1) dX8_sumOf_27 rfl (by decide) (by decide) ?_
    refine v_goto (pc := 30) 10 dX8_sumOf_30 (by decide) ?_
    refine v_lv (ih (j + 1) (x + 1) _ (by omega) (by omega) ?_) ⟨rfl, rfl, rfl, rfl, trivial⟩
    rw [show s + qSum (σ p) (n + 1) j = s + (σ p j + qSum (σ p) n (j + 1)) from rfl, ← Int.add_assoc] at hQ
    exact hQ
set_option maxHeartbeats 4000000 in
set_option maxRecDepth 100000 in
theorem c_X8_sumOf {g : vGl} {d : Nat} {Q : Option Value → List mC → Prop} {σ : vSt} {p m : Nat} (hs : vAT p = some (0, m)) (hm : m ≤ 100000) (hQ : Q (some (vi (qSum (σ p) m 0))) (hp σ)) : V g mX8_sumOf d (0, 0, 0, 0) Q 0 [(0, .ref p)] [] (hp σ) := by
  refine v_iconst (pc := 0) (0) dX8_sumOf_0 (by decide) ?_
  refine v_istore_n (pc := 1) dX8_sumOf_1 (by decide) ?_
  refine v_aload_n (pc := 2) dX8_sumOf_2 rfl ?_
  refine v_astore_n (pc := 3) dX8_sumOf_3 (by decide) ?_
  refine v_aload_n (pc := 4) dX8_sumOf_4 rfl ?_
  refine v_len (pc := 5) dX8_sumOf_5 hs ?_
  refine v_istore_n (pc := 6) dX8_sumOf_6 (by decide) ?_
  refine v_iconst (pc := 7) (0) dX8_sumOf_7 (by decide) ?_
  refine v_istore (pc := 8) dX8_sumOf_8 (by decide) ?_
  refine v_lv (l_X8_sumOf hs hm m 0 0 0 rfl (by omega) (by rw [Int.zero_add]; exact hQ)) ⟨rfl, rfl, rfl, rfl, trivial⟩
set_option maxHeartbeats 4000000 in
set_option maxRecDepth 100000 in
theorem c_X8_engine {g : vGl} {d : Nat} {Q : Option Value → List mC → Prop} {σ : vSt} (hd : 2 ≤ d) (hR : YR σ) {t e m q : Int} (ht : vr t) (he : vr e) (hm : vr m) (hq : vr q) (hB : ¬ (1 ≤ t ∧ t ≤ 999 ∧ 1 ≤ e ∧ e ≤ 999 ∧ 1 ≤ m ∧ m ≤ 99 ∧ 1 ≤ q ∧ q ≤ 9999) → Q (some (vi (-2))) (hp σ)) (hF : (1 ≤ t ∧ t ≤ 999 ∧ 1 ≤ e ∧ e ≤ 999 ∧ 1 ≤ m ∧ m ≤ 99 ∧ 1 ≤ q ∧ q ≤ 9999) → σ 3 6 = 6 → Q (some (vi (-4))) (hp σ)) (hQ : (1 ≤ t ∧ t ≤ 999 ∧ 1 ≤ e ∧ e ≤ 999 ∧ 1 ≤ m ∧ m ≤ 99 ∧ 1 ≤ q ∧ q ≤ 9999) → σ 3 6 < 6 → ∀ z : Nat, σ 3 6 = z → Q (some (vi z)) (hp (vU (vU (vU (vU (vU σ 4 z t) 5 z e) 6 z m) 7 z q) 3 6 (z + 1)))) : V g mX8_engine d (0, 0, 0, 0) Q 0 [(0, .ref 1), (1, vi t), (2, vi e), (3, vi m), (4, vi q)] [] (hp σ) := by
  obtain ⟨⟨r0, r1, r2, r3, r4, r5, r6, r7, r8, r9⟩, rE, rS, rT, rF⟩ := id hR
  refine v_iload_n (pc := 0) dX8_engine_0 rfl ?_
  refine v_iconst (pc := 1) (1) dX8_engine_1 (by decide) ?_
  refine v_sipush (pc := 2) (999) dX8_engine_2 (by decide) ?_
  refine v_cSi3 (pc := 5) (d' := d - 1) dX8_engine_5 kX8_within ml_X8_81 stX8_within (Nat.le_of_ble_eq_true rfl) (Nat.le_of_ble_eq_true rfl) (by omega) ⟨Nat.le_refl _, Nat.le_refl _⟩ ?_
  refine c_X8_within (by omega) (by omega) (by omega) ?_
  refine ⟨_, rfl, ?_⟩
  refine v_if_eq (pc := 8) 22 dX8_engine_8 (by decide) (by omega) (fun h8 => ?_) (fun h8 => ?_)
  · refine v_bipush (pc := 22) (-2) dX8_engine_22 (by decide) ?_
    refine v_ireturn (pc := 24) dX8_engine_24 rfl rfl ⟨Nat.le_refl _, Nat.le_refl _⟩ ?_
    exact hB (by omega)
  · refine v_iload_n (pc := 11) dX8_engine_11 rfl ?_
    refine v_iconst (pc := 12) (1) dX8_engine_12 (by decide) ?_
    refine v_sipush (pc := 13) (999) dX8_engine_13 (by decide) ?_
    refine v_cSi3 (pc := 16) (d' := d - 1) dX8_engine_16 kX8_within ml_X8_81 stX8_within (Nat.le_of_ble_eq_true rfl) (Nat.le_of_ble_eq_true rfl) (by omega) ⟨Nat.le_refl _, Nat.le_refl _⟩ ?_
    refine c_X8_within (by omega) (by omega) (by omega) ?_
    refine ⟨_, rfl, ?_⟩
    refine v_if_ne (pc := 19) 25 dX8_engine_19 (by decide) (by omega) (fun h19 => ?_) (fun h19 => ?_)
    · refine v_iload_n (pc := 25) dX8_engine_25 rfl ?_
      refine v_iconst (pc := 26) (1) dX8_engine_26 (by decide) ?_
      refine v_bipush (pc := 27) (99) dX8_engine_27 (by decide) ?_
      refine v_cSi3 (pc := 29) (d' := d - 1) dX8_engine_29 kX8_within ml_X8_81 stX8_within (Nat.le_of_ble_eq_true rfl) (Nat.le_of_ble_eq_true rfl) (by omega) ⟨Nat.le_refl _, Nat.le_refl _⟩ ?_
      refine c_X8_within (by omega) (by omega) (by omega) ?_
      refine ⟨_, rfl, ?_⟩
      refine v_if_eq (pc := 32) 47 dX8_engine_32 (by decide) (by omega) (fun h32 => ?_) (fun h32 => ?_)
      · refine v_bipush (pc := 47) (-2) dX8_engine_47 (by decide) ?_
        refine v_ireturn (pc := 49) dX8_engine_49 rfl rfl ⟨Nat.le_refl _, Nat.le_refl _⟩ ?_
        exact hB (by omega)
      · refine v_iload (pc := 35) dX8_engine_35 rfl ?_
        refine v_iconst (pc := 37) (1) dX8_engine_37 (by decide) ?_
        refine v_sipush (pc := 38) (9999) dX8_engine_38 (by decide) ?_
        refine v_cSi3 (pc := 41) (d' := d - 1) dX8_engine_41 kX8_within ml_X8_81 stX8_within (Nat.le_of_ble_eq_true rfl) (Nat.le_of_ble_eq_true rfl) (by omega) ⟨Nat.le_refl _, Nat.le_refl _⟩ ?_
        refine c_X8_within (by omega) (by omega) (by omega) ?_
        refine ⟨_, rfl, ?_⟩
        refine v_if_ne (pc := 44) 50 dX8_engine_44 (by decide) (by omega) (fun h44 => ?_) (fun h44 => ?_)
        · refine v_aload_n (pc := 50) dX8_engine_50 rfl ?_
          refine v_gR (pc := 51) dX8_engine_51 fl_X8_16 rfl ?_
          refine v_iload_n (pc := 54) dX8_engine_54 rfl ?_
          refine v_iload_n (pc := 55) dX8_engine_55 rfl ?_
          refine v_iload_n (pc := 56) dX8_engine_56 rfl ?_
          refine v_iload (pc := 57) dX8_engine_57 rfl ?_
          refine v_cVi4 (pc := 59) (z := 0) (d' := d - 1) dX8_engine_59 kX1_add ml_X8_85 iwX1_add swX1_add rfl rfl (Nat.le_of_ble_eq_true rfl) (Nat.le_of_ble_eq_true rfl) (by omega) ⟨Nat.le_refl _, Nat.le_refl _⟩ ?_
          refine c_X1_add (by omega) (fun ha => ?_) (fun ha z hz => ?_)
          · refine ⟨_, rfl, ?_⟩
            refine v_ireturn (pc := 62) dX8_engine_62 rfl rfl ⟨Nat.le_refl _, Nat.le_refl _⟩ ?_
            exact hF (by omega) ha
          · refine ⟨_, rfl, ?_⟩
            refine v_ireturn (pc := 62) dX8_engine_62 rfl rfl ⟨Nat.le_refl _, Nat.le_refl _⟩ ?_
            exact hQ (by omega) ha z hz
        · refine v_bipush (pc := 47) (-2) dX8_engine_47 (by decide) ?_
          refine v_ireturn (pc := 49) dX8_engine_49 rfl rfl ⟨Nat.le_refl _, Nat.le_refl _⟩ ?_
          exact hB (by omega)
    · refine v_bipush (pc := 22) (-2) dX8_engine_22 (by decide) ?_
      refine v_ireturn (pc := 24) dX8_engine_24 rfl rfl ⟨Nat.le_refl _, Nat.le_refl _⟩ ?_
      exact hB (by omega)
set_option maxHeartbeats 4000000 in
set_option maxRecDepth 100000 in
theorem c_X8_store {g : vGl} {d : Nat} {Q : Option Value → List mC → Prop} {σ : vSt} (hd : 2 ≤ d) (hR : YR σ) {x n : Int} (hx : vr x) (hn : vr n) (hN : ¬ (0 ≤ x ∧ x < σ 3 6) → Q (some (vi (-1))) (hp σ)) (hB : 0 ≤ x → x < σ 3 6 → ¬ (1 ≤ n ∧ n ≤ 99) → Q (some (vi (-2))) (hp σ)) (hF : 0 ≤ x → x < σ 3 6 → 1 ≤ n → n ≤ 99 → 99 < σ 8 x.toNat + n → Q (some (vi (-4))) (hp σ)) (hQ : 0 ≤ x → x < σ 3 6 → 1 ≤ n → n ≤ 99 → σ 8 x.toNat + n ≤ 99 → Q (some (vi (σ 8 x.toNat + n))) (hp (vU σ 8 x.toNat (σ 8 x.toNat + n)))) : V g mX8_store d (0, 0, 0, 0) Q 0 [(0, .ref 1), (1, vi x), (2, vi n)] [] (hp σ) := by
  obtain ⟨⟨r0, r1, r2, r3, r4, r5, r6, r7, r8, r9⟩, rE, rS, rT, rF⟩ := id hR
  have s1 := rE x.toNat
  refine v_aload_n (pc := 0) dX8_store_0 rfl ?_
  refine v_gR (pc := 1) dX8_store_1 fl_X8_16 rfl ?_
  refine v_iload_n (pc := 4) dX8_store_4 rfl ?_
  refine v_cVi1 (pc := 5) (z := 0) (d' := d - 1) dX8_store_5 kX1_has ml_X8_89 iwX1_has swX1_has rfl rfl (Nat.le_of_ble_eq_true rfl) (Nat.le_of_ble_eq_true rfl) (by omega) ⟨Nat.le_refl _, Nat.le_refl _⟩ ?_
  refine c_X1_has (by omega) (by omega) ?_
  refine ⟨_, rfl, ?_⟩
  refine v_if_ne (pc := 8) 13 dX8_store_8 (by decide) (by omega) (fun h8 => ?_) (fun h8 => ?_)
  · refine v_iload_n (pc := 13) dX8_store_13 rfl ?_
    refine v_iconst (pc := 14) (1) dX8_store_14 (by decide) ?_
    refine v_bipush (pc := 15) (99) dX8_store_15 (by decide) ?_
    refine v_cSi3 (pc := 17) (d' := d - 1) dX8_store_17 kX8_within ml_X8_81 stX8_within (Nat.le_of_ble_eq_true rfl) (Nat.le_of_ble_eq_true rfl) (by omega) ⟨Nat.le_refl _, Nat.le_refl _⟩ ?_
    refine c_X8_within (by omega) (by omega) (by omega) ?_
    refine ⟨_, rfl, ?_⟩
    refine v_if_ne (pc := 20) 26 dX8_store_20 (by decide) (by omega) (fun h20 => ?_) (fun h20 => ?_)
    · refine v_aload_n (pc := 26) dX8_store_26 rfl ?_
      refine v_gR (pc := 27) dX8_store_27 fl_X8_16 rfl ?_
      refine v_gR (pc := 30) dX8_store_30 fl_X8_93 rfl ?_
      refine v_iload_n (pc := 33) dX8_store_33 rfl ?_
      refine v_aI (pc := 34) dX8_store_34 rfl rfl (by omega) (by omega) ?_
      refine v_iload_n (pc := 35) dX8_store_35 rfl ?_
      refine v_iadd (pc := 36) dX8_store_36 ?_
      refine v_istore_n (pc := 37) dX8_store_37 (by decide) ?_
      refine v_iload_n (pc := 38) dX8_store_38 rfl ?_
      refine v_bipush (pc := 39) (99) dX8_store_39 (by decide) ?_
      refine v_icmp_le (pc := 41) 47 dX8_store_41 (by decide) (by omega) (by omega) (fun h41 => ?_) (fun h41 => ?_)
      · refine v_aload_n (pc := 47) dX8_store_47 rfl ?_
        refine v_gR (pc := 48) dX8_store_48 fl_X8_16 rfl ?_
        refine v_gR (pc := 51) dX8_store_51 fl_X8_93 rfl ?_
        refine v_iload_n (pc := 54) dX8_store_54 rfl ?_
        refine v_iload_n (pc := 55) dX8_store_55 rfl ?_
        refine v_sI (pc := 56) dX8_store_56 rfl rfl (by omega) (by omega) ?_
        refine v_iload_n (pc := 57) dX8_store_57 rfl ?_
        refine v_ireturn (pc := 58) dX8_store_58 rfl rfl ⟨Nat.le_refl _, Nat.le_refl _⟩ ?_
        exact hQ (by omega) (by omega) (by omega) (by omega) (by omega)
      · refine v_bipush (pc := 44) (-4) dX8_store_44 (by decide) ?_
        refine v_ireturn (pc := 46) dX8_store_46 rfl rfl ⟨Nat.le_refl _, Nat.le_refl _⟩ ?_
        exact hF (by omega) (by omega) (by omega) (by omega) (by omega)
    · refine v_bipush (pc := 23) (-2) dX8_store_23 (by decide) ?_
      refine v_ireturn (pc := 25) dX8_store_25 rfl rfl ⟨Nat.le_refl _, Nat.le_refl _⟩ ?_
      exact hB (by omega) (by omega) (by omega)
  · refine v_iconst (pc := 11) (-1) dX8_store_11 (by decide) ?_
    refine v_ireturn (pc := 12) dX8_store_12 rfl rfl ⟨Nat.le_refl _, Nat.le_refl _⟩ ?_
    exact hN (by omega)
set_option maxHeartbeats 4000000 in
set_option maxRecDepth 100000 in
theorem c_X4_addOnTop {g : vGl} {d : Nat} {Q : Option Value → List mC → Prop} {σ : vSt} {e m s f : Int} (hs : 0 ≤ σ 10 6 ∧ σ 10 6 ≤ 4) (hF : σ 10 6 = 4 → Q (some (vi (-4))) (hp σ)) (hQ : σ 10 6 < 4 → ∀ z : Nat, σ 10 6 = z → Q (some (vi (z + 1))) (hp (vU (vU (vU (vU (vU σ 11 z e) 12 z m) 13 z s) 14 z f) 10 6 (z + 1)))) : V g mX4_addOnTop d (0, 0, 0, 0) Q 0 [(0, .ref 10), (1, vi e), (2, vi m), (3, vi s), (4, vi f)] [] (hp σ) := by
  refine v_aload_n (pc := 0) dX4_addOnTop_0 rfl ?_
  refine v_gI (pc := 1) dX4_addOnTop_1 fl_X4_24 rfl ?_
  refine v_iconst (pc := 4) (4) dX4_addOnTop_4 (by decide) ?_
  refine v_icmp_lt (pc := 5) 11 dX4_addOnTop_5 (by decide) (by omega) (by omega) (fun h5 => ?_) (fun h5 => ?_)
  · obtain ⟨z, ez⟩ : ∃ z : Nat, σ 10 6 = z := ⟨(σ 10 6).toNat, by omega⟩
    have hz := hQ (by omega) z ez
    refine v_aload_n (pc := 11) dX4_addOnTop_11 rfl ?_
    refine v_gR (pc := 12) dX4_addOnTop_12 fl_X4_9 rfl ?_
    refine v_aload_n (pc := 15) dX4_addOnTop_15 rfl ?_
    refine v_gI (pc := 16) dX4_addOnTop_16 fl_X4_24 rfl ?_
    refine v_iload_n (pc := 19) dX4_addOnTop_19 rfl ?_
    refine v_sI (pc := 20) (j := z) dX4_addOnTop_20 rfl (by omega) (by omega) (by omega) ?_
    refine v_aload_n (pc := 21) dX4_addOnTop_21 rfl ?_
    refine v_gR (pc := 22) dX4_addOnTop_22 fl_X4_15 rfl ?_
    refine v_aload_n (pc := 25) dX4_addOnTop_25 rfl ?_
    refine v_gI (pc := 26) dX4_addOnTop_26 fl_X4_24 rfl ?_
    refine v_iload_n (pc := 29) dX4_addOnTop_29 rfl ?_
    refine v_sI (pc := 30) (j := z) dX4_addOnTop_30 rfl (by show (σ 10 6).toNat = z; omega) (by show 0 ≤ σ 10 6; omega) (by show σ 10 6 < 4; omega) ?_
    refine v_aload_n (pc := 31) dX4_addOnTop_31 rfl ?_
    refine v_gR (pc := 32) dX4_addOnTop_32 fl_X4_18 rfl ?_
    refine v_aload_n (pc := 35) dX4_addOnTop_35 rfl ?_
    refine v_gI (pc := 36) dX4_addOnTop_36 fl_X4_24 rfl ?_
    refine v_iload_n (pc := 39) dX4_addOnTop_39 rfl ?_
    refine v_sI (pc := 40) (j := z) dX4_addOnTop_40 rfl (by show (σ 10 6).toNat = z; omega) (by show 0 ≤ σ 10 6; omega) (by show σ 10 6 < 4; omega) ?_
    refine v_aload_n (pc := 41) dX4_addOnTop_41 rfl ?_
    refine v_gR (pc := 42) dX4_addOnTop_42 fl_X4_21 rfl ?_
    refine v_aload_n (pc := 45) dX4_addOnTop_45 rfl ?_
    refine v_gI (pc := 46) dX4_addOnTop_46 fl_X4_24 rfl ?_
    refine v_iload (pc := 49) dX4_addOnTop_49 rfl ?_
    refine v_sI (pc := 51) (j := z) dX4_addOnTop_51 rfl (by show (σ 10 6).toNat = z; omega) (by show 0 ≤ σ 10 6; omega) (by show σ 10 6 < 4; omega) ?_
    refine v_aload_n (pc := 52) dX4_addOnTop_52 rfl ?_
    refine v_dup (pc := 53) dX4_addOnTop_53 rfl ?_
    refine v_gI (pc := 54) dX4_addOnTop_54 fl_X4_24 rfl ?_
    refine v_iconst (pc := 57) (1) dX4_addOnTop_57 (by decide) ?_
    refine v_iadd (pc := 58) dX4_addOnTop_58 ?_
    refine v_pI (pc := 59) dX4_addOnTop_59 fl_X4_24 rfl ?_
    refine v_aload_n (pc := 62) dX4_addOnTop_62 rfl ?_
    refine v_gI (pc := 63) dX4_addOnTop_63 fl_X4_24 rfl ?_
    refine v_ireturn (pc := 66) dX4_addOnTop_66 rfl rfl ⟨Nat.le_refl _, Nat.le_refl _⟩ ?_
    have e1 : vU (vU (vU (vU σ 11 z e) 12 z m) 13 z s) 14 z f 10 6 = z := ez
    rw [vU_same, e1]
    exact hz
  · refine v_bipush (pc := 8) (-4) dX4_addOnTop_8 (by decide) ?_
    refine v_ireturn (pc := 10) dX4_addOnTop_10 rfl rfl ⟨Nat.le_refl _, Nat.le_refl _⟩ ?_
    exact hF (by omega)
set_option maxHeartbeats 4000000 in
set_option maxRecDepth 100000 in
theorem c_X8_stage {g : vGl} {d : Nat} {Q : Option Value → List mC → Prop} {σ : vSt} (hd : 2 ≤ d) (hR : YR σ) {x m s f : Int} (hx : vr x) (hm : vr m) (hs : vr s) (hf : vr f) (hN : ¬ (0 ≤ x ∧ x < σ 3 6) → Q (some (vi (-1))) (hp σ)) (hB : 0 ≤ x → x < σ 3 6 → ¬ (1 ≤ m ∧ m ≤ 9 ∧ 0 ≤ s ∧ s ≤ 600 ∧ 0 ≤ f ∧ f ≤ 99) → Q (some (vi (-2))) (hp σ)) (hF : 0 ≤ x → x < σ 3 6 → (1 ≤ m ∧ m ≤ 9 ∧ 0 ≤ s ∧ s ≤ 600 ∧ 0 ≤ f ∧ f ≤ 99) → σ 10 6 = 4 → Q (some (vi (-4))) (hp σ)) (hQ : 0 ≤ x → x < σ 3 6 → (1 ≤ m ∧ m ≤ 9 ∧ 0 ≤ s ∧ s ≤ 600 ∧ 0 ≤ f ∧ f ≤ 99) → σ 10 6 < 4 → ∀ z : Nat, σ 10 6 = z → Q (some (vi (z + 1))) (hp (vU (vU (vU (vU (vU σ 11 z x) 12 z m) 13 z s) 14 z f) 10 6 (z + 1)))) : V g mX8_stage d (0, 0, 0, 0) Q 0 [(0, .ref 1), (1, vi x), (2, vi m), (3, vi s), (4, vi f)] [] (hp σ) := by
  obtain ⟨⟨r0, r1, r2, r3, r4, r5, r6, r7, r8, r9⟩, rE, rS, rT, rF⟩ := id hR
  refine v_aload_n (pc := 0) dX8_stage_0 rfl ?_
  refine v_gR (pc := 1) dX8_stage_1 fl_X8_16 rfl ?_
  refine v_iload_n (pc := 4) dX8_stage_4 rfl ?_
  refine v_cVi1 (pc := 5) (z := 0) (d' := d - 1) dX8_stage_5 kX1_has ml_X8_89 iwX1_has swX1_has rfl rfl (Nat.le_of_ble_eq_true rfl) (Nat.le_of_ble_eq_true rfl) (by omega) ⟨Nat.le_refl _, Nat.le_refl _⟩ ?_
  refine c_X1_has (by omega) (by omega) ?_
  refine ⟨_, rfl, ?_⟩
  refine v_if_ne (pc := 8) 13 dX8_stage_8 (by decide) (by omega) (fun h8 => ?_) (fun h8 => ?_)
  · refine v_iload_n (pc := 13) dX8_stage_13 rfl ?_
    refine v_iconst (pc := 14) (1) dX8_stage_14 (by decide) ?_
    refine v_bipush (pc := 15) (9) dX8_stage_15 (by decide) ?_
    refine v_cSi3 (pc := 17) (d' := d - 1) dX8_stage_17 kX8_within ml_X8_81 stX8_within (Nat.le_of_ble_eq_true rfl) (Nat.le_of_ble_eq_true rfl) (by omega) ⟨Nat.le_refl _, Nat.le_refl _⟩ ?_
    refine c_X8_within (by omega) (by omega) (by omega) ?_
    refine ⟨_, rfl, ?_⟩
    refine v_if_eq (pc := 20) 45 dX8_stage_20 (by decide) (by omega) (fun h20 => ?_) (fun h20 => ?_)
    · refine v_bipush (pc := 45) (-2) dX8_stage_45 (by decide) ?_
      refine v_ireturn (pc := 47) dX8_stage_47 rfl rfl ⟨Nat.le_refl _, Nat.le_refl _⟩ ?_
      exact hB (by omega) (by omega) (by omega)
    · refine v_iload_n (pc := 23) dX8_stage_23 rfl ?_
      refine v_iconst (pc := 24) (0) dX8_stage_24 (by decide) ?_
      refine v_sipush (pc := 25) (600) dX8_stage_25 (by decide) ?_
      refine v_cSi3 (pc := 28) (d' := d - 1) dX8_stage_28 kX8_within ml_X8_81 stX8_within (Nat.le_of_ble_eq_true rfl) (Nat.le_of_ble_eq_true rfl) (by omega) ⟨Nat.le_refl _, Nat.le_refl _⟩ ?_
      refine c_X8_within (by omega) (by omega) (by omega) ?_
      refine ⟨_, rfl, ?_⟩
      refine v_if_eq (pc := 31) 45 dX8_stage_31 (by decide) (by omega) (fun h31 => ?_) (fun h31 => ?_)
      · refine v_bipush (pc := 45) (-2) dX8_stage_45 (by decide) ?_
        refine v_ireturn (pc := 47) dX8_stage_47 rfl rfl ⟨Nat.le_refl _, Nat.le_refl _⟩ ?_
        exact hB (by omega) (by omega) (by omega)
      · refine v_iload (pc := 34) dX8_stage_34 rfl ?_
        refine v_iconst (pc := 36) (0) dX8_stage_36 (by decide) ?_
        refine v_bipush (pc := 37) (99) dX8_stage_37 (by decide) ?_
        refine v_cSi3 (pc := 39) (d' := d - 1) dX8_stage_39 kX8_within ml_X8_81 stX8_within (Nat.le_of_ble_eq_true rfl) (Nat.le_of_ble_eq_true rfl) (by omega) ⟨Nat.le_refl _, Nat.le_refl _⟩ ?_
        refine c_X8_within (by omega) (by omega) (by omega) ?_
        refine ⟨_, rfl, ?_⟩
        refine v_if_ne (pc := 42) 48 dX8_stage_42 (by decide) (by omega) (fun h42 => ?_) (fun h42 => ?_)
        · refine v_aload_n (pc := 48) dX8_stage_48 rfl ?_
          refine v_gR (pc := 49) dX8_stage_49 fl_X8_25 rfl ?_
          refine v_iload_n (pc := 52) dX8_stage_52 rfl ?_
          refine v_iload_n (pc := 53) dX8_stage_53 rfl ?_
          refine v_iload_n (pc := 54) dX8_stage_54 rfl ?_
          refine v_iload (pc := 55) dX8_stage_55 rfl ?_
          refine v_cVi4 (pc := 57) (z := 0) (d' := d - 1) dX8_stage_57 kX4_addOnTop ml_X8_96 iwX4_addOnTop swX4_addOnTop rfl rfl (Nat.le_of_ble_eq_true rfl) (Nat.le_of_ble_eq_true rfl) (by omega) ⟨Nat.le_refl _, Nat.le_refl _⟩ ?_
          refine c_X4_addOnTop (by omega) (fun ha => ?_) (fun ha z hz => ?_)
          · refine ⟨_, rfl, ?_⟩
            refine v_ireturn (pc := 60) dX8_stage_60 rfl rfl ⟨Nat.le_refl _, Nat.le_refl _⟩ ?_
            exact hF (by omega) (by omega) (by omega) ha
          · refine ⟨_, rfl, ?_⟩
            refine v_ireturn (pc := 60) dX8_stage_60 rfl rfl ⟨Nat.le_refl _, Nat.le_refl _⟩ ?_
            exact hQ (by omega) (by omega) (by omega) ha z hz
        · refine v_bipush (pc := 45) (-2) dX8_stage_45 (by decide) ?_
          refine v_ireturn (pc := 47) dX8_stage_47 rfl rfl ⟨Nat.le_refl _, Nat.le_refl _⟩ ?_
          exact hB (by omega) (by omega) (by omega)
  · refine v_iconst (pc := 11) (-1) dX8_stage_11 (by decide) ?_
    refine v_ireturn (pc := 12) dX8_stage_12 rfl rfl ⟨Nat.le_refl _, Nat.le_refl _⟩ ?_
    exact hN (by omega)
set_option maxHeartbeats 4000000 in
set_option maxRecDepth 100000 in
theorem c_X8_undo {g : vGl} {d : Nat} {Q : Option Value → List mC → Prop} {σ : vSt} (hd : 0 ≤ d) (hR : YR σ) (hS : σ 10 6 = 0 → Q (some (vi (-3))) (hp σ)) (hQ : ¬ σ 10 6 = 0 → Q (some (vi (σ 10 6 - 1))) (hp (vU σ 10 6 (σ 10 6 - 1)))) : V g mX8_undo d (0, 0, 0, 0) Q 0 [(0, .ref 1)] [] (hp σ) := by
  obtain ⟨⟨r0, r1, r2, r3, r4, r5, r6, r7, r8, r9⟩, rE, rS, rT, rF⟩ := id hR
  refine v_aload_n (pc := 0) dX8_undo_0 rfl ?_
  refine v_gR (pc := 1) dX8_undo_1 fl_X8_25 rfl ?_
  refine v_gI (pc := 4) dX8_undo_4 fl_X8_99 rfl ?_
  refine v_if_ne (pc := 7) 13 dX8_undo_7 (by decide) (by omega) (fun h7 => ?_) (fun h7 => ?_)
  · have h7b : ¬ σ 10 6 = 0 := h7
    refine v_aload_n (pc := 13) dX8_undo_13 rfl ?_
    refine v_gR (pc := 14) dX8_undo_14 fl_X8_25 rfl ?_
    refine v_dup (pc := 17) dX8_undo_17 rfl ?_
    refine v_gI (pc := 18) dX8_undo_18 fl_X8_99 rfl ?_
    refine v_iconst (pc := 21) (1) dX8_undo_21 (by decide) ?_
    refine v_isub (pc := 22) dX8_undo_22 ?_
    refine v_pI (pc := 23) dX8_undo_23 fl_X8_99 rfl ?_
    refine v_aload_n (pc := 26) dX8_undo_26 rfl ?_
    refine v_gR (pc := 27) dX8_undo_27 fl_X8_25 rfl ?_
    refine v_gI (pc := 30) dX8_undo_30 fl_X8_99 rfl ?_
    refine v_ireturn (pc := 33) dX8_undo_33 rfl rfl ⟨Nat.le_refl _, Nat.le_refl _⟩ ?_
    rw [vU_same]; exact hQ h7b
  · have h7b : σ 10 6 = 0 := by omega
    refine v_bipush (pc := 10) (-3) dX8_undo_10 (by decide) ?_
    refine v_ireturn (pc := 12) dX8_undo_12 rfl rfl ⟨Nat.le_refl _, Nat.le_refl _⟩ ?_
    exact hS h7b
set_option maxHeartbeats 4000000 in
set_option maxRecDepth 100000 in
theorem c_X8_stuff {g : vGl} {d : Nat} {Q : Option Value → List mC → Prop} {σ : vSt} (hd : 2 ≤ d) (hR : YR σ) {x n : Int} (hx : vr x) (hn : vr n) (hN : ¬ (0 ≤ x ∧ x < σ 10 6) → Q (some (vi (-1))) (hp σ)) (hB : 0 ≤ x → x < σ 10 6 → ¬ (0 ≤ n ∧ n ≤ 600) → Q (some (vi (-2))) (hp σ)) (hQ : 0 ≤ x → x < σ 10 6 → 0 ≤ n → n ≤ 600 → Q (some (vi (σ 13 x.toNat))) (hp (vU σ 13 x.toNat n))) : V g mX8_stuff d (0, 0, 0, 0) Q 0 [(0, .ref 1), (1, vi x), (2, vi n)] [] (hp σ) := by
  obtain ⟨⟨r0, r1, r2, r3, r4, r5, r6, r7, r8, r9⟩, rE, rS, rT, rF⟩ := id hR
  refine v_aload_n (pc := 0) dX8_stuff_0 rfl ?_
  refine v_gR (pc := 1) dX8_stuff_1 fl_X8_25 rfl ?_
  refine v_iload_n (pc := 4) dX8_stuff_4 rfl ?_
  refine v_cVi1 (pc := 5) (z := 0) (d' := d - 1) dX8_stuff_5 kX4_has ml_X8_103 iwX4_has swX4_has rfl rfl (Nat.le_of_ble_eq_true rfl) (Nat.le_of_ble_eq_true rfl) (by omega) ⟨Nat.le_refl _, Nat.le_refl _⟩ ?_
  refine c_X4_has (by omega) (by omega) ?_
  refine ⟨_, rfl, ?_⟩
  refine v_if_ne (pc := 8) 13 dX8_stuff_8 (by decide) (by omega) (fun h8 => ?_) (fun h8 => ?_)
  · refine v_iload_n (pc := 13) dX8_stuff_13 rfl ?_
    refine v_iconst (pc := 14) (0) dX8_stuff_14 (by decide) ?_
    refine v_sipush (pc := 15) (600) dX8_stuff_15 (by decide) ?_
    refine v_cSi3 (pc := 18) (d' := d - 1) dX8_stuff_18 kX8_within ml_X8_81 stX8_within (Nat.le_of_ble_eq_true rfl) (Nat.le_of_ble_eq_true rfl) (by omega) ⟨Nat.le_refl _, Nat.le_refl _⟩ ?_
    refine c_X8_within (by omega) (by omega) (by omega) ?_
    refine ⟨_, rfl, ?_⟩
    refine v_if_ne (pc := 21) 27 dX8_stuff_21 (by decide) (by omega) (fun h21 => ?_) (fun h21 => ?_)
    · refine v_aload_n (pc := 27) dX8_stuff_27 rfl ?_
      refine v_gR (pc := 28) dX8_stuff_28 fl_X8_25 rfl ?_
      refine v_gR (pc := 31) dX8_stuff_31 fl_X8_104 rfl ?_
      refine v_iload_n (pc := 34) dX8_stuff_34 rfl ?_
      refine v_iload_n (pc := 35) dX8_stuff_35 rfl ?_
      refine v_cSi3 (pc := 36) (d' := d - 1) dX8_stuff_36 kX8_put ml_X8_107 stX8_put (Nat.le_of_ble_eq_true rfl) (Nat.le_of_ble_eq_true rfl) (by omega) ⟨Nat.le_refl _, Nat.le_refl _⟩ ?_
      refine c_X8_put (k := x.toNat) rfl (by decide) (by omega) (by omega) ?_
      refine ⟨_, rfl, ?_⟩
      refine v_ireturn (pc := 39) dX8_stuff_39 rfl rfl ⟨Nat.le_refl _, Nat.le_refl _⟩ ?_
      exact hQ (by omega) (by omega) (by omega) (by omega)
    · refine v_bipush (pc := 24) (-2) dX8_stuff_24 (by decide) ?_
      refine v_ireturn (pc := 26) dX8_stuff_26 rfl rfl ⟨Nat.le_refl _, Nat.le_refl _⟩ ?_
      exact hB (by omega) (by omega) (by omega)
  · refine v_iconst (pc := 11) (-1) dX8_stuff_11 (by decide) ?_
    refine v_ireturn (pc := 12) dX8_stuff_12 rfl rfl ⟨Nat.le_refl _, Nat.le_refl _⟩ ?_
    exact hN (by omega)
set_option maxHeartbeats 4000000 in
set_option maxRecDepth 100000 in
theorem c_X8_set {g : vGl} {d : Nat} {Q : Option Value → List mC → Prop} {σ : vSt} (hd : 2 ≤ d) (hR : YR σ) {x n : Int} (hx : vr x) (hn : vr n) (hN : ¬ (0 ≤ x ∧ x ≤ 2) → Q (some (vi (-1))) (hp σ)) (hB : 0 ≤ x → x ≤ 2 → ¬ ((if x = 0 then 0 else if x = 1 then 1 else 50) ≤ n ∧ n ≤ (if x = 0 then 999 else if x = 1 then 50 else 100)) → Q (some (vi (-2))) (hp σ)) (hQ : 0 ≤ x → x ≤ 2 → (if x = 0 then 0 else if x = 1 then 1 else 50) ≤ n → n ≤ (if x = 0 then 999 else if x = 1 then 50 else 100) → Q (some (vi (σ 2 x.toNat))) (hp (vU σ 2 x.toNat n))) : V g mX8_set d (0, 0, 0, 0) Q 0 [(0, .ref 1), (1, vi x), (2, vi n)] [] (hp σ) := by
  obtain ⟨⟨r0, r1, r2, r3, r4, r5, r6, r7, r8, r9⟩, rE, rS, rT, rF⟩ := id hR
  refine v_iload_n (pc := 0) dX8_set_0 rfl ?_
  refine v_iconst (pc := 1) (0) dX8_set_1 (by decide) ?_
  refine v_iconst (pc := 2) (2) dX8_set_2 (by decide) ?_
  refine v_cSi3 (pc := 3) (d' := d - 1) dX8_set_3 kX8_within ml_X8_81 stX8_within (Nat.le_of_ble_eq_true rfl) (Nat.le_of_ble_eq_true rfl) (by omega) ⟨Nat.le_refl _, Nat.le_refl _⟩ ?_
  refine c_X8_within (by omega) (by omega) (by omega) ?_
  refine ⟨_, rfl, ?_⟩
  refine v_if_ne (pc := 6) 11 dX8_set_6 (by decide) (by omega) (fun h6 => ?_) (fun h6 => ?_)
  · refine v_iload_n (pc := 11) dX8_set_11 rfl ?_
    refine v_getsL (pc := 12) dX8_set_12 fs_X8_111 ?_
    refine v_iload_n (pc := 15) dX8_set_15 rfl ?_
    refine v_tL (pc := 16) dX8_set_16 (by omega) (by omega) ?_
    refine v_getsM (pc := 17) dX8_set_17 fs_X8_114 ?_
    refine v_iload_n (pc := 20) dX8_set_20 rfl ?_
    refine v_tM (pc := 21) dX8_set_21 (by omega) (by omega) ?_
    refine v_cSi3 (pc := 22) (d' := d - 1) dX8_set_22 kX8_within ml_X8_81 stX8_within (Nat.le_of_ble_eq_true rfl) (Nat.le_of_ble_eq_true rfl) (by omega) ⟨Nat.le_refl _, Nat.le_refl _⟩ ?_
    refine c_X8_within (by omega) (by omega) (by omega) ?_
    refine ⟨_, rfl, ?_⟩
    refine v_if_ne (pc := 25) 31 dX8_set_25 (by decide) (by omega) (fun h25 => ?_) (fun h25 => ?_)
    · refine v_aload_n (pc := 31) dX8_set_31 rfl ?_
      refine v_gR (pc := 32) dX8_set_32 fl_X8_7 rfl ?_
      refine v_iload_n (pc := 35) dX8_set_35 rfl ?_
      refine v_iload_n (pc := 36) dX8_set_36 rfl ?_
      refine v_cSi3 (pc := 37) (d' := d - 1) dX8_set_37 kX8_put ml_X8_107 stX8_put (Nat.le_of_ble_eq_true rfl) (Nat.le_of_ble_eq_true rfl) (by omega) ⟨Nat.le_refl _, Nat.le_refl _⟩ ?_
      refine c_X8_put (k := x.toNat) rfl (by decide) (by omega) (by omega) ?_
      refine ⟨_, rfl, ?_⟩
      refine v_ireturn (pc := 40) dX8_set_40 rfl rfl ⟨Nat.le_refl _, Nat.le_refl _⟩ ?_
      exact hQ (by omega) (by omega) (by omega) (by omega)
    · refine v_bipush (pc := 28) (-2) dX8_set_28 (by decide) ?_
      refine v_ireturn (pc := 30) dX8_set_30 rfl rfl ⟨Nat.le_refl _, Nat.le_refl _⟩ ?_
      exact hB (by omega) (by omega) (by omega)
  · refine v_iconst (pc := 9) (-1) dX8_set_9 (by decide) ?_
    refine v_ireturn (pc := 10) dX8_set_10 rfl rfl ⟨Nat.le_refl _, Nat.le_refl _⟩ ?_
    exact hN (by omega)
set_option maxHeartbeats 4000000 in
set_option maxRecDepth 100000 in
theorem c_X8_air {g : vGl} {d : Nat} {Q : Option Value → List mC → Prop} {σ : vSt} (hd : 2 ≤ d) (hR : YR σ) {x n : Int} (hx : vr x) (hn : vr n) (hN : ¬ (0 ≤ x ∧ x ≤ 9) → Q (some (vi (-1))) (hp σ)) (hB : 0 ≤ x → x ≤ 9 → ¬ (0 ≤ n ∧ n ≤ 999) → Q (some (vi (-2))) (hp σ)) (hQ : 0 ≤ x → x ≤ 9 → 0 ≤ n → n ≤ 999 → Q (some (vi (σ 26 x.toNat))) (hp (vU σ 26 x.toNat n))) : V g mX8_air d (0, 0, 0, 0) Q 0 [(0, .ref 1), (1, vi x), (2, vi n)] [] (hp σ) := by
  obtain ⟨⟨r0, r1, r2, r3, r4, r5, r6, r7, r8, r9⟩, rE, rS, rT, rF⟩ := id hR
  refine v_iload_n (pc := 0) dX8_air_0 rfl ?_
  refine v_iconst (pc := 1) (0) dX8_air_1 (by decide) ?_
  refine v_bipush (pc := 2) (9) dX8_air_2 (by decide) ?_
  refine v_cSi3 (pc := 4) (d' := d - 1) dX8_air_4 kX8_within ml_X8_81 stX8_within (Nat.le_of_ble_eq_true rfl) (Nat.le_of_ble_eq_true rfl) (by omega) ⟨Nat.le_refl _, Nat.le_refl _⟩ ?_
  refine c_X8_within (by omega) (by omega) (by omega) ?_
  refine ⟨_, rfl, ?_⟩
  refine v_if_ne (pc := 7) 12 dX8_air_7 (by decide) (by omega) (fun h7 => ?_) (fun h7 => ?_)
  · refine v_iload_n (pc := 12) dX8_air_12 rfl ?_
    refine v_iconst (pc := 13) (0) dX8_air_13 (by decide) ?_
    refine v_sipush (pc := 14) (999) dX8_air_14 (by decide) ?_
    refine v_cSi3 (pc := 17) (d' := d - 1) dX8_air_17 kX8_within ml_X8_81 stX8_within (Nat.le_of_ble_eq_true rfl) (Nat.le_of_ble_eq_true rfl) (by omega) ⟨Nat.le_refl _, Nat.le_refl _⟩ ?_
    refine c_X8_within (by omega) (by omega) (by omega) ?_
    refine ⟨_, rfl, ?_⟩
    refine v_if_ne (pc := 20) 26 dX8_air_20 (by decide) (by omega) (fun h20 => ?_) (fun h20 => ?_)
    · refine v_aload_n (pc := 26) dX8_air_26 rfl ?_
      refine v_gR (pc := 27) dX8_air_27 fl_X8_51 rfl ?_
      refine v_gR (pc := 30) dX8_air_30 fl_X8_168 rfl ?_
      refine v_iload_n (pc := 33) dX8_air_33 rfl ?_
      refine v_iload_n (pc := 34) dX8_air_34 rfl ?_
      refine v_cSi3 (pc := 35) (d' := d - 1) dX8_air_35 kX8_put ml_X8_107 stX8_put (Nat.le_of_ble_eq_true rfl) (Nat.le_of_ble_eq_true rfl) (by omega) ⟨Nat.le_refl _, Nat.le_refl _⟩ ?_
      refine c_X8_put (k := x.toNat) rfl (by decide) (by omega) (by omega) ?_
      refine ⟨_, rfl, ?_⟩
      refine v_ireturn (pc := 38) dX8_air_38 rfl rfl ⟨Nat.le_refl _, Nat.le_refl _⟩ ?_
      exact hQ (by omega) (by omega) (by omega) (by omega)
    · refine v_bipush (pc := 23) (-2) dX8_air_23 (by decide) ?_
      refine v_ireturn (pc := 25) dX8_air_25 rfl rfl ⟨Nat.le_refl _, Nat.le_refl _⟩ ?_
      exact hB (by omega) (by omega) (by omega)
  · refine v_iconst (pc := 10) (-1) dX8_air_10 (by decide) ?_
    refine v_ireturn (pc := 11) dX8_air_11 rfl rfl ⟨Nat.le_refl _, Nat.le_refl _⟩ ?_
    exact hN (by omega)
set_option maxHeartbeats 4000000 in
set_option maxRecDepth 100000 in
theorem c_X8_limit {g : vGl} {d : Nat} {Q : Option Value → List mC → Prop} {σ : vSt} (hd : 2 ≤ d) (hR : YR σ) {x n : Int} (hx : vr x) (hn : vr n) (hN : ¬ (0 ≤ x ∧ x ≤ 2) → Q (some (vi (-1))) (hp σ)) (hB : 0 ≤ x → x ≤ 2 → ¬ (0 ≤ n ∧ n ≤ 1000000) → Q (some (vi (-2))) (hp σ)) (hQ : 0 ≤ x → x ≤ 2 → 0 ≤ n → n ≤ 1000000 → Q (some (vi (σ 27 x.toNat))) (hp (vU σ 27 x.toNat n))) : V g mX8_limit d (0, 0, 0, 0) Q 0 [(0, .ref 1), (1, vi x), (2, vi n)] [] (hp σ) := by
  obtain ⟨⟨r0, r1, r2, r3, r4, r5, r6, r7, r8, r9⟩, rE, rS, rT, rF⟩ := id hR
  refine v_iload_n (pc := 0) dX8_limit_0 rfl ?_
  refine v_iconst (pc := 1) (0) dX8_limit_1 (by decide) ?_
  refine v_iconst (pc := 2) (2) dX8_limit_2 (by decide) ?_
  refine v_cSi3 (pc := 3) (d' := d - 1) dX8_limit_3 kX8_within ml_X8_81 stX8_within (Nat.le_of_ble_eq_true rfl) (Nat.le_of_ble_eq_true rfl) (by omega) ⟨Nat.le_refl _, Nat.le_refl _⟩ ?_
  refine c_X8_within (by omega) (by omega) (by omega) ?_
  refine ⟨_, rfl, ?_⟩
  refine v_if_ne (pc := 6) 11 dX8_limit_6 (by decide) (by omega) (fun h6 => ?_) (fun h6 => ?_)
  · refine v_iload_n (pc := 11) dX8_limit_11 rfl ?_
    refine v_iconst (pc := 12) (0) dX8_limit_12 (by decide) ?_
    refine v_ldc (pc := 13) (1000000) dX8_limit_13 kc_X8_155 ?_
    refine v_cSi3 (pc := 15) (d' := d - 1) dX8_limit_15 kX8_within ml_X8_81 stX8_within (Nat.le_of_ble_eq_true rfl) (Nat.le_of_ble_eq_true rfl) (by omega) ⟨Nat.le_refl _, Nat.le_refl _⟩ ?_
    refine c_X8_within (by omega) (by omega) (by omega) ?_
    refine ⟨_, rfl, ?_⟩
    refine v_if_ne (pc := 18) 24 dX8_limit_18 (by decide) (by omega) (fun h18 => ?_) (fun h18 => ?_)
    · refine v_aload_n (pc := 24) dX8_limit_24 rfl ?_
      refine v_gR (pc := 25) dX8_limit_25 fl_X8_51 rfl ?_
      refine v_gR (pc := 28) dX8_limit_28 fl_X8_171 rfl ?_
      refine v_iload_n (pc := 31) dX8_limit_31 rfl ?_
      refine v_iload_n (pc := 32) dX8_limit_32 rfl ?_
      refine v_cSi3 (pc := 33) (d' := d - 1) dX8_limit_33 kX8_put ml_X8_107 stX8_put (Nat.le_of_ble_eq_true rfl) (Nat.le_of_ble_eq_true rfl) (by omega) ⟨Nat.le_refl _, Nat.le_refl _⟩ ?_
      refine c_X8_put (k := x.toNat) rfl (by decide) (by omega) (by omega) ?_
      refine ⟨_, rfl, ?_⟩
      refine v_ireturn (pc := 36) dX8_limit_36 rfl rfl ⟨Nat.le_refl _, Nat.le_refl _⟩ ?_
      exact hQ (by omega) (by omega) (by omega) (by omega)
    · refine v_bipush (pc := 21) (-2) dX8_limit_21 (by decide) ?_
      refine v_ireturn (pc := 23) dX8_limit_23 rfl rfl ⟨Nat.le_refl _, Nat.le_refl _⟩ ?_
      exact hB (by omega) (by omega) (by omega)
  · refine v_iconst (pc := 9) (-1) dX8_limit_9 (by decide) ?_
    refine v_ireturn (pc := 10) dX8_limit_10 rfl rfl ⟨Nat.le_refl _, Nat.le_refl _⟩ ?_
    exact hN (by omega)
set_option maxHeartbeats 4000000 in
set_option maxRecDepth 100000 in
theorem c_X8_deliver {g : vGl} {d : Nat} {Q : Option Value → List mC → Prop} {σ : vSt} (hd : 2 ≤ d) (hR : YR σ) {x y n : Int} (hx : vr x) (hy : vr y) (hn : vr n) (hN : ¬ (0 ≤ x ∧ x ≤ 2 ∧ 0 ≤ y ∧ y ≤ 11) → Q (some (vi (-1))) (hp σ)) (hB : (0 ≤ x ∧ x ≤ 2 ∧ 0 ≤ y ∧ y ≤ 11) → ¬ (0 ≤ n ∧ n ≤ 9) → Q (some (vi (-2))) (hp σ)) (hQ : (0 ≤ x ∧ x ≤ 2 ∧ 0 ≤ y ∧ y ≤ 11) → 0 ≤ n → n ≤ 9 → Q (some (vi (σ 36 (12 * x + y).toNat))) (hp (vU σ 36 (12 * x + y).toNat n))) : V g mX8_deliver d (0, 0, 0, 0) Q 0 [(0, .ref 1), (1, vi x), (2, vi y), (3, vi n)] [] (hp σ) := by
  obtain ⟨⟨r0, r1, r2, r3, r4, r5, r6, r7, r8, r9⟩, rE, rS, rT, rF⟩ := id hR
  refine v_iload_n (pc := 0) dX8_deliver_0 rfl ?_
  refine v_iconst (pc := 1) (0) dX8_deliver_1 (by decide) ?_
  refine v_iconst (pc := 2) (2) dX8_deliver_2 (by decide) ?_
  refine v_cSi3 (pc := 3) (d' := d - 1) dX8_deliver_3 kX8_within ml_X8_81 stX8_within (Nat.le_of_ble_eq_true rfl) (Nat.le_of_ble_eq_true rfl) (by omega) ⟨Nat.le_refl _, Nat.le_refl _⟩ ?_
  refine c_X8_within (by omega) (by omega) (by omega) ?_
  refine ⟨_, rfl, ?_⟩
  refine v_if_eq (pc := 6) 19 dX8_deliver_6 (by decide) (by omega) (fun h6 => ?_) (fun h6 => ?_)
  · refine v_iconst (pc := 19) (-1) dX8_deliver_19 (by decide) ?_
    refine v_ireturn (pc := 20) dX8_deliver_20 rfl rfl ⟨Nat.le_refl _, Nat.le_refl _⟩ ?_
    exact hN (by omega)
  · refine v_iload_n (pc := 9) dX8_deliver_9 rfl ?_
    refine v_iconst (pc := 10) (0) dX8_deliver_10 (by decide) ?_
    refine v_bipush (pc := 11) (11) dX8_deliver_11 (by decide) ?_
    refine v_cSi3 (pc := 13) (d' := d - 1) dX8_deliver_13 kX8_within ml_X8_81 stX8_within (Nat.le_of_ble_eq_true rfl) (Nat.le_of_ble_eq_true rfl) (by omega) ⟨Nat.le_refl _, Nat.le_refl _⟩ ?_
    refine c_X8_within (by omega) (by omega) (by omega) ?_
    refine ⟨_, rfl, ?_⟩
    refine v_if_ne (pc := 16) 21 dX8_deliver_16 (by decide) (by omega) (fun h16 => ?_) (fun h16 => ?_)
    · refine v_iload_n (pc := 21) dX8_deliver_21 rfl ?_
      refine v_iconst (pc := 22) (0) dX8_deliver_22 (by decide) ?_
      refine v_bipush (pc := 23) (9) dX8_deliver_23 (by decide) ?_
      refine v_cSi3 (pc := 25) (d' := d - 1) dX8_deliver_25 kX8_within ml_X8_81 stX8_within (Nat.le_of_ble_eq_true rfl) (Nat.le_of_ble_eq_true rfl) (by omega) ⟨Nat.le_refl _, Nat.le_refl _⟩ ?_
      refine c_X8_within (by omega) (by omega) (by omega) ?_
      refine ⟨_, rfl, ?_⟩
      refine v_if_ne (pc := 28) 34 dX8_deliver_28 (by decide) (by omega) (fun h28 => ?_) (fun h28 => ?_)
      · refine v_aload_n (pc := 34) dX8_deliver_34 rfl ?_
        refine v_gR (pc := 35) dX8_deliver_35 fl_X8_77 rfl ?_
        refine v_gR (pc := 38) dX8_deliver_38 fl_X8_249 rfl ?_
        refine v_iload_n (pc := 41) dX8_deliver_41 rfl ?_
        refine v_bipush (pc := 42) (12) dX8_deliver_42 (by decide) ?_
        refine v_imul (pc := 44) dX8_deliver_44 ?_
        refine v_iload_n (pc := 45) dX8_deliver_45 rfl ?_
        refine v_iadd (pc := 46) dX8_deliver_46 ?_
        refine v_iload_n (pc := 47) dX8_deliver_47 rfl ?_
        refine v_cSi3 (pc := 48) (d' := d - 1) dX8_deliver_48 kX8_put ml_X8_107 stX8_put (Nat.le_of_ble_eq_true rfl) (Nat.le_of_ble_eq_true rfl) (by omega) ⟨Nat.le_refl _, Nat.le_refl _⟩ ?_
        refine c_X8_put (k := (12 * x + y).toNat) rfl (by decide) (by omega) (by omega) ?_
        refine ⟨_, rfl, ?_⟩
        refine v_ireturn (pc := 51) dX8_deliver_51 rfl rfl ⟨Nat.le_refl _, Nat.le_refl _⟩ ?_
        exact hQ (by omega) (by omega) (by omega)
      · refine v_bipush (pc := 31) (-2) dX8_deliver_31 (by decide) ?_
        refine v_ireturn (pc := 33) dX8_deliver_33 rfl rfl ⟨Nat.le_refl _, Nat.le_refl _⟩ ?_
        exact hB (by omega) (by omega)
    · refine v_iconst (pc := 19) (-1) dX8_deliver_19 (by decide) ?_
      refine v_ireturn (pc := 20) dX8_deliver_20 rfl rfl ⟨Nat.le_refl _, Nat.le_refl _⟩ ?_
      exact hN (by omega)
def yAbout (σ : vSt) (k : Nat) (wh : Int) : Int := if wh = 0 then σ 11 k else if wh = 1 then σ 12 k else if wh = 2 then σ 13 k else if wh = 3 then σ 14 k else if wh = 4 then yDry σ k else if wh = 5 then yMass σ k else if wh = 6 then yLow σ k else if wh = 7 then yHigh σ k else if wh = 8 then 100 * σ 4 (σ 11 k).toNat * σ 12 k / yMass σ k else -1
theorem yAbout_out {σ : vSt} {k : Nat} {wh : Int} (h : wh < 0 ∨ 8 < wh) : yAbout σ k wh = -1 := by
  unfold yAbout
  rw [if_neg (by omega), if_neg (by omega), if_neg (by omega), if_neg (by omega), if_neg (by omega), if_neg (by omega), if_neg (by omega), if_neg (by omega), if_neg (by omega)]
set_option maxHeartbeats 4000000 in
set_option maxRecDepth 100000 in
theorem c_X8_about {g : vGl} {d : Nat} {Q : Option Value → List mC → Prop} {σ : vSt} (hd : 6 ≤ d) (hR : YR σ) {x wh : Int} (hx : vr x) (hw : vr wh) (hN : ¬ (0 ≤ x ∧ x < σ 10 6) → Q (some (vi (-1))) (hp σ)) (hQ : 0 ≤ x → x < σ 10 6 → Q (some (vi (yAbout σ x.toNat wh))) (hp σ)) : V g mX8_about d (0, 0, 0, 0) Q 0 [(0, .ref 1), (1, vi x), (2, vi wh)] [] (hp σ) := by
  obtain ⟨⟨r0, r1, r2, r3, r4, r5, r6, r7, r8, r9⟩, rE, rS, rT, rF⟩ := id hR
  have s1 := rS x.toNat
  refine v_aload_n (pc := 0) dX8_about_0 rfl ?_
  refine v_gR (pc := 1) dX8_about_1 fl_X8_25 rfl ?_
  refine v_iload_n (pc := 4) dX8_about_4 rfl ?_
  refine v_cVi1 (pc := 5) (z := 0) (d' := d - 1) dX8_about_5 kX4_has ml_X8_103 iwX4_has swX4_has rfl rfl (Nat.le_of_ble_eq_true rfl) (Nat.le_of_ble_eq_true rfl) (by omega) ⟨Nat.le_refl _, Nat.le_refl _⟩ ?_
  refine c_X4_has (by omega) (by omega) ?_
  refine ⟨_, rfl, ?_⟩
  refine v_if_ne (pc := 8) 13 dX8_about_8 (by decide) (by omega) (fun h8 => ?_) (fun h8 => ?_)
  · refine v_iload_n (pc := 13) dX8_about_13 rfl ?_
    rcases (show (wh < 0 ∨ 8 < wh) ∨ wh = 0 ∨ wh = 1 ∨ wh = 2 ∨ wh = 3 ∨ wh = 4 ∨ wh = 5 ∨ wh = 6 ∨ wh = 7 ∨ wh = 8 by omega) with hsw | rfl | rfl | rfl | rfl | rfl | rfl | rfl | rfl | rfl
    · refine v_tableOut (pc := 14) 150 dX8_about_14 (by omega) hsw (by decide) ?_
      refine v_iconst (pc := 150) (-1) dX8_about_150 (by decide) ?_
      refine v_ireturn (pc := 151) dX8_about_151 rfl rfl ⟨Nat.le_refl _, Nat.le_refl _⟩ ?_
      rw [yAbout_out hsw] at hQ; exact hQ (by omega) (by omega)
    · refine v_tableIn (pc := 14) 64 dX8_about_14 (by decide) (by decide) (by decide) rfl (by decide) ?_
      refine v_aload_n (pc := 64) dX8_about_64 rfl ?_
      refine v_gR (pc := 65) dX8_about_65 fl_X8_25 rfl ?_
      refine v_gR (pc := 68) dX8_about_68 fl_X8_117 rfl ?_
      refine v_iload_n (pc := 71) dX8_about_71 rfl ?_
      refine v_aI (pc := 72) dX8_about_72 rfl rfl (by omega) (by omega) ?_
      refine v_ireturn (pc := 73) dX8_about_73 rfl rfl ⟨Nat.le_refl _, Nat.le_refl _⟩ ?_
      exact hQ (by omega) (by omega)
    · refine v_tableIn (pc := 14) 74 dX8_about_14 (by decide) (by decide) (by decide) rfl (by decide) ?_
      refine v_aload_n (pc := 74) dX8_about_74 rfl ?_
      refine v_gR (pc := 75) dX8_about_75 fl_X8_25 rfl ?_
      refine v_gR (pc := 78) dX8_about_78 fl_X8_120 rfl ?_
      refine v_iload_n (pc := 81) dX8_about_81 rfl ?_
      refine v_aI (pc := 82) dX8_about_82 rfl rfl (by omega) (by omega) ?_
      refine v_ireturn (pc := 83) dX8_about_83 rfl rfl ⟨Nat.le_refl _, Nat.le_refl _⟩ ?_
      exact hQ (by omega) (by omega)
    · refine v_tableIn (pc := 14) 84 dX8_about_14 (by decide) (by decide) (by decide) rfl (by decide) ?_
      refine v_aload_n (pc := 84) dX8_about_84 rfl ?_
      refine v_gR (pc := 85) dX8_about_85 fl_X8_25 rfl ?_
      refine v_gR (pc := 88) dX8_about_88 fl_X8_104 rfl ?_
      refine v_iload_n (pc := 91) dX8_about_91 rfl ?_
      refine v_aI (pc := 92) dX8_about_92 rfl rfl (by omega) (by omega) ?_
      refine v_ireturn (pc := 93) dX8_about_93 rfl rfl ⟨Nat.le_refl _, Nat.le_refl _⟩ ?_
      exact hQ (by omega) (by omega)
    · refine v_tableIn (pc := 14) 94 dX8_about_14 (by decide) (by decide) (by decide) rfl (by decide) ?_
      refine v_aload_n (pc := 94) dX8_about_94 rfl ?_
      refine v_gR (pc := 95) dX8_about_95 fl_X8_25 rfl ?_
      refine v_gR (pc := 98) dX8_about_98 fl_X8_123 rfl ?_
      refine v_iload_n (pc := 101) dX8_about_101 rfl ?_
      refine v_aI (pc := 102) dX8_about_102 rfl rfl (by omega) (by omega) ?_
      refine v_ireturn (pc := 103) dX8_about_103 rfl rfl ⟨Nat.le_refl _, Nat.le_refl _⟩ ?_
      exact hQ (by omega) (by omega)
    · refine v_tableIn (pc := 14) 104 dX8_about_14 (by decide) (by decide) (by decide) rfl (by decide) ?_
      refine v_aload_n (pc := 104) dX8_about_104 rfl ?_
      refine v_gR (pc := 105) dX8_about_105 fl_X8_25 rfl ?_
      refine v_iload_n (pc := 108) dX8_about_108 rfl ?_
      refine v_cVi1 (pc := 109) (z := 0) (d' := d - 1) dX8_about_109 kX4_dryOf ml_X8_126 iwX4_dryOf swX4_dryOf rfl rfl (Nat.le_of_ble_eq_true rfl) (Nat.le_of_ble_eq_true rfl) (by omega) ⟨Nat.le_refl _, Nat.le_refl _⟩ ?_
      refine c_X4_dryOf (k := x.toNat) (by omega) hR (by omega) (by omega) ?_
      refine ⟨_, rfl, ?_⟩
      refine v_ireturn (pc := 112) dX8_about_112 rfl rfl ⟨Nat.le_refl _, Nat.le_refl _⟩ ?_
      exact hQ (by omega) (by omega)
    · refine v_tableIn (pc := 14) 113 dX8_about_14 (by decide) (by decide) (by decide) rfl (by decide) ?_
      refine v_aload_n (pc := 113) dX8_about_113 rfl ?_
      refine v_gR (pc := 114) dX8_about_114 fl_X8_25 rfl ?_
      refine v_iload_n (pc := 117) dX8_about_117 rfl ?_
      refine v_cVi1 (pc := 118) (z := 0) (d' := d - 1) dX8_about_118 kX4_massFrom ml_X8_130 iwX4_massFrom swX4_massFrom rfl rfl (Nat.le_of_ble_eq_true rfl) (Nat.le_of_ble_eq_true rfl) (by omega) ⟨Nat.le_refl _, Nat.le_refl _⟩ ?_
      refine c_X4_massFrom (k := x.toNat) (by omega) hR (by omega) (by omega) ?_
      refine ⟨_, rfl, ?_⟩
      refine v_ireturn (pc := 121) dX8_about_121 rfl rfl ⟨Nat.le_refl _, Nat.le_refl _⟩ ?_
      exact hQ (by omega) (by omega)
    · refine v_tableIn (pc := 14) 122 dX8_about_14 (by decide) (by decide) (by decide) rfl (by decide) ?_
      refine v_aload_n (pc := 122) dX8_about_122 rfl ?_
      refine v_gR (pc := 123) dX8_about_123 fl_X8_25 rfl ?_
      refine v_iload_n (pc := 126) dX8_about_126 rfl ?_
      refine v_iconst (pc := 127) (0) dX8_about_127 (by decide) ?_
      refine v_cVi2 (pc := 128) (z := 0) (d' := d - 1) dX8_about_128 kX4_lowOf ml_X8_133 iwX4_lowOf swX4_lowOf rfl rfl (Nat.le_of_ble_eq_true rfl) (Nat.le_of_ble_eq_true rfl) (by omega) ⟨Nat.le_refl _, Nat.le_refl _⟩ ?_
      refine c_X4_lowOf (k := x.toNat) (by omega) hR (by omega) (by omega) (by omega) ?_
      refine ⟨_, rfl, ?_⟩
      refine v_ireturn (pc := 131) dX8_about_131 rfl rfl ⟨Nat.le_refl _, Nat.le_refl _⟩ ?_
      rw [Int.sub_zero]; exact hQ (by omega) (by omega)
    · refine v_tableIn (pc := 14) 132 dX8_about_14 (by decide) (by decide) (by decide) rfl (by decide) ?_
      refine v_aload_n (pc := 132) dX8_about_132 rfl ?_
      refine v_gR (pc := 133) dX8_about_133 fl_X8_25 rfl ?_
      refine v_iload_n (pc := 136) dX8_about_136 rfl ?_
      refine v_cVi1 (pc := 137) (z := 0) (d' := d - 1) dX8_about_137 kX4_highOf ml_X8_137 iwX4_highOf swX4_highOf rfl rfl (Nat.le_of_ble_eq_true rfl) (Nat.le_of_ble_eq_true rfl) (by omega) ⟨Nat.le_refl _, Nat.le_refl _⟩ ?_
      refine c_X4_highOf (k := x.toNat) (by omega) hR (by omega) (by omega) ?_
      refine ⟨_, rfl, ?_⟩
      refine v_ireturn (pc := 140) dX8_about_140 rfl rfl ⟨Nat.le_refl _, Nat.le_refl _⟩ ?_
      exact hQ (by omega) (by omega)
    · refine v_tableIn (pc := 14) 141 dX8_about_14 (by decide) (by decide) (by decide) rfl (by decide) ?_
      refine v_aload_n (pc := 141) dX8_about_141 rfl ?_
      refine v_gR (pc := 142) dX8_about_142 fl_X8_25 rfl ?_
      refine v_iload_n (pc := 145) dX8_about_145 rfl ?_
      refine v_cVi1 (pc := 146) (z := 0) (d' := d - 1) dX8_about_146 kX4_liftOf ml_X8_140 iwX4_liftOf swX4_liftOf rfl rfl (Nat.le_of_ble_eq_true rfl) (Nat.le_of_ble_eq_true rfl) (by omega) ⟨Nat.le_refl _, Nat.le_refl _⟩ ?_
      refine c_X4_liftOf (k := x.toNat) (by omega) hR (by omega) (by omega) ?_
      refine ⟨_, rfl, ?_⟩
      refine v_ireturn (pc := 149) dX8_about_149 rfl rfl ⟨Nat.le_refl _, Nat.le_refl _⟩ ?_
      exact hQ (by omega) (by omega)
  · refine v_iconst (pc := 11) (-1) dX8_about_11 (by decide) ?_
    refine v_ireturn (pc := 12) dX8_about_12 rfl rfl ⟨Nat.le_refl _, Nat.le_refl _⟩ ?_
    exact hN (by omega)
set_option maxHeartbeats 4000000 in
set_option maxRecDepth 100000 in
theorem l_X8_speed {g : vGl} {d : Nat} {Q : Option Value → List mC → Prop} {σ : vSt} {wh : Int} (hd : 5 ≤ d) (hR : YR σ) (hw : vr wh) : ∀ (n : Nat) (j : Nat) (x s : Int) (hx : x = j) (hn : (j : Int) + n = σ 10 6) (hQ : Q (some (vi (s + qSum (yGain σ wh) n j))) (hp σ)), V g mX8_speed d (0, 0, 0, 0) Q 15 [(0, .ref 1), (1, vi wh), (2, vi s), (3, vi x)] [] (hp σ) := by
  intro n
  induction n with
  | zero =>
    intro j x s hx hn hQ
    obtain ⟨⟨r0, r1, r2, r3, r4, r5, r6, r7, r8, r9⟩, rE, rS, rT, rF⟩ := id hR
    refine v_iload_n (pc := 15) dX8_speed_15 rfl ?_
    refine v_aload_n (pc := 16) dX8_speed_16 rfl ?_
    refine v_gR (pc := 17) dX8_speed_17 fl_X8_25 rfl ?_
    refine v_gI (pc := 20) dX8_speed_20 fl_X8_99 rfl ?_
    refine v_icmp_ge (pc := 23) 59 dX8_speed_23 (by decide) (by omega) (by omega) (fun h23 => ?_) (fun h23 => by exfalso; omega)
    refine v_iload_n (pc := 59) dX8_speed_59 rfl ?_
    refine v_ireturn (pc := 60) dX8_speed_60 rfl rfl ⟨Nat.le_refl _, Nat.le_refl _⟩ ?_
    simpa [qSum] using hQ
  | succ n ih =>
    intro j x s hx hn hQ
    obtain ⟨⟨r0, r1, r2, r3, r4, r5, r6, r7, r8, r9⟩, rE, rS, rT, rF⟩ := id hR
    have s1 := rS j
    refine v_iload_n (pc := 15) dX8_speed_15 rfl ?_
    refine v_aload_n (pc := 16) dX8_speed_16 rfl ?_
    refine v_gR (pc := 17) dX8_speed_17 fl_X8_25 rfl ?_
    refine v_gI (pc := 20) dX8_speed_20 fl_X8_99 rfl ?_
    refine v_icmp_ge (pc := 23) 59 dX8_speed_23 (by decide) (by omega) (by omega) (fun h23 => by exfalso; omega) (fun h23 => ?_)
    refine v_iload_n (pc := 26) dX8_speed_26 rfl ?_
    refine v_iload_n (pc := 27) dX8_speed_27 rfl ?_
    refine v_if_ne (pc := 28) 43 dX8_speed_28 (by decide) (by omega) (fun h28 => ?_) (fun h28 => ?_)
    · refine v_aload_n (pc := 43) dX8_speed_43 rfl ?_
      refine v_gR (pc := 44) dX8_speed_44 fl_X8_25 rfl ?_
      refine v_iload_n (pc := 47) dX8_speed_47 rfl ?_
      refine v_cVi1 (pc := 48) (z := 0) (d' := d - 1) dX8_speed_48 kX4_highOf ml_X8_137 iwX4_highOf swX4_highOf rfl rfl (Nat.le_of_ble_eq_true rfl) (Nat.le_of_ble_eq_true rfl) (by omega) ⟨Nat.le_refl _, Nat.le_refl _⟩ ?_
      refine c_X4_highOf (k := j) (by omega) hR (by omega) (by omega) ?_
      refine ⟨_, rfl, ?_⟩
      refine v_iadd (pc := 51) dX8_speed_51 ?_
      refine v_istore_n (pc := 52) dX8_speed_52 (by decide) ?_
      refine v_iinc (pc := 53) (1) dX8_speed_53 rfl (by decide) (by decide) ?_
      refine v_goto (pc := 56) 15 dX8_speed_56 (by decide) ?_
      refine v_lv (ih (j + 1) (x + 1) _ (by omega) (by omega) ?_) ⟨rfl, rfl, rfl, rfl, trivial⟩
      rw [show s + qSum (yGain σ wh) (n + 1) j = s + (yGain σ wh j + qSum (yGain σ wh) n (j + 1)) from rfl, ← Int.add_assoc] at hQ
      first | (rw [yGain, if_pos (by omega)] at hQ; rw [Int.sub_zero]; exact hQ) | (rw [yGain, if_neg (by omega)] at hQ; exact hQ)
    · refine v_aload_n (pc := 31) dX8_speed_31 rfl ?_
      refine v_gR (pc := 32) dX8_speed_32 fl_X8_25 rfl ?_
      refine v_iload_n (pc := 35) dX8_speed_35 rfl ?_
      refine v_iconst (pc := 36) (0) dX8_speed_36 (by decide) ?_
      refine v_cVi2 (pc := 37) (z := 0) (d' := d - 1) dX8_speed_37 kX4_lowOf ml_X8_133 iwX4_lowOf swX4_lowOf rfl rfl (Nat.le_of_ble_eq_true rfl) (Nat.le_of_ble_eq_true rfl) (by omega) ⟨Nat.le_refl _, Nat.le_refl _⟩ ?_
      refine c_X4_lowOf (k := j) (by omega) hR (by omega) (by omega) (by omega) ?_
      refine ⟨_, rfl, ?_⟩
      refine v_goto (pc := 40) 51 dX8_speed_40 (by decide) ?_
      refine v_iadd (pc := 51) dX8_speed_51 ?_
      refine v_istore_n (pc := 52) dX8_speed_52 (by decide) ?_
      refine v_iinc (pc := 53) (1) dX8_speed_53 rfl (by decide) (by decide) ?_
      refine v_goto (pc := 56) 15 dX8_speed_56 (by decide) ?_
      refine v_lv (ih (j + 1) (x + 1) _ (by omega) (by omega) ?_) ⟨rfl, rfl, rfl, rfl, trivial⟩
      rw [show s + qSum (yGain σ wh) (n + 1) j = s + (yGain σ wh j + qSum (yGain σ wh) n (j + 1)) from rfl, ← Int.add_assoc] at hQ
      first | (rw [yGain, if_pos (by omega)] at hQ; rw [Int.sub_zero]; exact hQ) | (rw [yGain, if_neg (by omega)] at hQ; exact hQ)
set_option maxHeartbeats 4000000 in
set_option maxRecDepth 100000 in
theorem c_X8_speed {g : vGl} {d : Nat} {Q : Option Value → List mC → Prop} {σ : vSt} (hd : 6 ≤ d) (hR : YR σ) {wh : Int} (hw : vr wh) (hN : ¬ (0 ≤ wh ∧ wh ≤ 1) → Q (some (vi (-1))) (hp σ)) (hQ : 0 ≤ wh → wh ≤ 1 → Q (some (vi (qSum (yGain σ wh) (σ 10 6).toNat 0))) (hp σ)) : V g mX8_speed d (0, 0, 0, 0) Q 0 [(0, .ref 1), (1, vi wh)] [] (hp σ) := by
  obtain ⟨⟨r0, r1, r2, r3, r4, r5, r6, r7, r8, r9⟩, rE, rS, rT, rF⟩ := id hR
  refine v_iload_n (pc := 0) dX8_speed_0 rfl ?_
  refine v_iconst (pc := 1) (0) dX8_speed_1 (by decide) ?_
  refine v_iconst (pc := 2) (1) dX8_speed_2 (by decide) ?_
  refine v_cSi3 (pc := 3) (d' := d - 1) dX8_speed_3 kX8_within ml_X8_81 stX8_within (Nat.le_of_ble_eq_true rfl) (Nat.le_of_ble_eq_true rfl) (by omega) ⟨Nat.le_refl _, Nat.le_refl _⟩ ?_
  refine c_X8_within (by omega) (by omega) (by omega) ?_
  refine ⟨_, rfl, ?_⟩
  refine v_if_ne (pc := 6) 11 dX8_speed_6 (by decide) (by omega) (fun h6 => ?_) (fun h6 => ?_)
  · refine v_iconst (pc := 11) (0) dX8_speed_11 (by decide) ?_
    refine v_istore_n (pc := 12) dX8_speed_12 (by decide) ?_
    refine v_iconst (pc := 13) (0) dX8_speed_13 (by decide) ?_
    refine v_istore_n (pc := 14) dX8_speed_14 (by decide) ?_
    refine v_lv (l_X8_speed (by omega) hR hw (σ 10 6).toNat 0 0 0 rfl (by omega) (by rw [Int.zero_add]; exact hQ (by omega) (by omega))) ⟨rfl, rfl, rfl, rfl, trivial⟩
  · refine v_iconst (pc := 9) (-1) dX8_speed_9 (by decide) ?_
    refine v_ireturn (pc := 10) dX8_speed_10 rfl rfl ⟨Nat.le_refl _, Nat.le_refl _⟩ ?_
    exact hN (by omega)
def yFlown (σ : vSt) (wh : Int) : Int := if wh = 0 then σ 28 8 else if wh = 1 then σ 28 9 else if wh = 2 then σ 28 10 else if wh = 3 then σ 28 11 else if wh = 4 then σ 28 12 else if wh = 5 then σ 28 13 else if wh = 6 then σ 28 2 else -1
set_option maxHeartbeats 4000000 in
set_option maxRecDepth 100000 in
theorem c_X8_flown {g : vGl} {d : Nat} {Q : Option Value → List mC → Prop} {σ : vSt} {wh : Int} (hw : vr wh) (hf : σ 1 9 = 0 ∨ σ 1 9 = 1) (hN : σ 1 9 = 0 → Q (some (vi (-1))) (hp σ)) (hQ : σ 1 9 = 1 → Q (some (vi (yFlown σ wh))) (hp σ)) : V g mX8_flown d (0, 0, 0, 0) Q 0 [(0, .ref 1), (1, vi wh)] [] (hp σ) := by
  refine v_aload_n (pc := 0) dX8_flown_0 rfl ?_
  refine v_gZ (pc := 1) dX8_flown_1 fl_X8_70 rfl ?_
  refine v_if_ne (pc := 4) 9 dX8_flown_4 (by decide) (by omega) (fun h4 => ?_) (fun h4 => ?_)
  · refine v_iload_n (pc := 9) dX8_flown_9 rfl ?_
    rcases (show (wh < 0 ∨ 6 < wh) ∨ wh = 0 ∨ wh = 1 ∨ wh = 2 ∨ wh = 3 ∨ wh = 4 ∨ wh = 5 ∨ wh = 6 by omega) with hsw | rfl | rfl | rfl | rfl | rfl | rfl | rfl
    · refine v_tableOut (pc := 10) 108 dX8_flown_10 (by omega) hsw (by decide) ?_
      refine v_iconst (pc := 108) (-1) dX8_flown_108 (by decide) ?_
      refine v_ireturn (pc := 109) dX8_flown_109 rfl rfl ⟨Nat.le_refl _, Nat.le_refl _⟩ ?_
      have e : yFlown σ wh = -1 := by
        unfold yFlown
        rw [if_neg (by omega), if_neg (by omega), if_neg (by omega), if_neg (by omega), if_neg (by omega), if_neg (by omega), if_neg (by omega)]
      rw [e] at hQ; exact hQ (by omega)
    · refine v_tableIn (pc := 10) 52 dX8_flown_10 (by decide) (by decide) (by decide) rfl (by decide) ?_
      refine v_aload_n (pc := 52) dX8_flown_52 rfl ?_
      refine v_gR (pc := 53) dX8_flown_53 fl_X8_60 rfl ?_
      refine v_gI (pc := 56) dX8_flown_56 fl_X8_188 rfl ?_
      refine v_ireturn (pc := 59) dX8_flown_59 rfl rfl ⟨Nat.le_refl _, Nat.le_refl _⟩ ?_
      exact hQ (by omega)
    · refine v_tableIn (pc := 10) 60 dX8_flown_10 (by decide) (by decide) (by decide) rfl (by decide) ?_
      refine v_aload_n (pc := 60) dX8_flown_60 rfl ?_
      refine v_gR (pc := 61) dX8_flown_61 fl_X8_60 rfl ?_
      refine v_gI (pc := 64) dX8_flown_64 fl_X8_191 rfl ?_
      refine v_ireturn (pc := 67) dX8_flown_67 rfl rfl ⟨Nat.le_refl _, Nat.le_refl _⟩ ?_
      exact hQ (by omega)
    · refine v_tableIn (pc := 10) 68 dX8_flown_10 (by decide) (by decide) (by decide) rfl (by decide) ?_
      refine v_aload_n (pc := 68) dX8_flown_68 rfl ?_
      refine v_gR (pc := 69) dX8_flown_69 fl_X8_60 rfl ?_
      refine v_gI (pc := 72) dX8_flown_72 fl_X8_194 rfl ?_
      refine v_ireturn (pc := 75) dX8_flown_75 rfl rfl ⟨Nat.le_refl _, Nat.le_refl _⟩ ?_
      exact hQ (by omega)
    · refine v_tableIn (pc := 10) 76 dX8_flown_10 (by decide) (by decide) (by decide) rfl (by decide) ?_
      refine v_aload_n (pc := 76) dX8_flown_76 rfl ?_
      refine v_gR (pc := 77) dX8_flown_77 fl_X8_60 rfl ?_
      refine v_gI (pc := 80) dX8_flown_80 fl_X8_197 rfl ?_
      refine v_ireturn (pc := 83) dX8_flown_83 rfl rfl ⟨Nat.le_refl _, Nat.le_refl _⟩ ?_
      exact hQ (by omega)
    · refine v_tableIn (pc := 10) 84 dX8_flown_10 (by decide) (by decide) (by decide) rfl (by decide) ?_
      refine v_aload_n (pc := 84) dX8_flown_84 rfl ?_
      refine v_gR (pc := 85) dX8_flown_85 fl_X8_60 rfl ?_
      refine v_gI (pc := 88) dX8_flown_88 fl_X8_200 rfl ?_
      refine v_ireturn (pc := 91) dX8_flown_91 rfl rfl ⟨Nat.le_refl _, Nat.le_refl _⟩ ?_
      exact hQ (by omega)
    · refine v_tableIn (pc := 10) 92 dX8_flown_10 (by decide) (by decide) (by decide) rfl (by decide) ?_
      refine v_aload_n (pc := 92) dX8_flown_92 rfl ?_
      refine v_gR (pc := 93) dX8_flown_93 fl_X8_60 rfl ?_
      refine v_gI (pc := 96) dX8_flown_96 fl_X8_203 rfl ?_
      refine v_ireturn (pc := 99) dX8_flown_99 rfl rfl ⟨Nat.le_refl _, Nat.le_refl _⟩ ?_
      exact hQ (by omega)
    · refine v_tableIn (pc := 10) 100 dX8_flown_10 (by decide) (by decide) (by decide) rfl (by decide) ?_
      refine v_aload_n (pc := 100) dX8_flown_100 rfl ?_
      refine v_gR (pc := 101) dX8_flown_101 fl_X8_60 rfl ?_
      refine v_gI (pc := 104) dX8_flown_104 fl_X8_206 rfl ?_
      refine v_ireturn (pc := 107) dX8_flown_107 rfl rfl ⟨Nat.le_refl _, Nat.le_refl _⟩ ?_
      exact hQ (by omega)
  · refine v_iconst (pc := 7) (-1) dX8_flown_7 (by decide) ?_
    refine v_ireturn (pc := 8) dX8_flown_8 rfl rfl ⟨Nat.le_refl _, Nat.le_refl _⟩ ?_
    exact hN (by omega)
set_option maxHeartbeats 4000000 in
set_option maxRecDepth 100000 in
theorem c_X8_cost {g : vGl} {d : Nat} {Q : Option Value → List mC → Prop} {σ : vSt} (hd : 4 ≤ d) (hR : YR σ) {x i : Int} (hx : vr x) (hi : vr i) (hN : ¬ (0 ≤ x ∧ x < σ 3 6) → Q (some (vi (-1))) (hp σ)) (hB : 0 ≤ x → x < σ 3 6 → ¬ (0 ≤ i ∧ i ≤ 999) → Q (some (vi (-2))) (hp σ)) (hQ : 0 ≤ x → x < σ 3 6 → 0 ≤ i → i ≤ 999 → Q (some (vi (qCost (σ 2 2) (σ 7 x.toNat) i.toNat))) (hp σ)) : V g mX8_cost d (0, 0, 0, 0) Q 0 [(0, .ref 1), (1, vi x), (2, vi i)] [] (hp σ) := by
  obtain ⟨⟨r0, r1, r2, r3, r4, r5, r6, r7, r8, r9⟩, rE, rS, rT, rF⟩ := id hR
  refine v_aload_n (pc := 0) dX8_cost_0 rfl ?_
  refine v_gR (pc := 1) dX8_cost_1 fl_X8_16 rfl ?_
  refine v_iload_n (pc := 4) dX8_cost_4 rfl ?_
  refine v_cVi1 (pc := 5) (z := 0) (d' := d - 1) dX8_cost_5 kX1_has ml_X8_89 iwX1_has swX1_has rfl rfl (Nat.le_of_ble_eq_true rfl) (Nat.le_of_ble_eq_true rfl) (by omega) ⟨Nat.le_refl _, Nat.le_refl _⟩ ?_
  refine c_X1_has (by omega) (by omega) ?_
  refine ⟨_, rfl, ?_⟩
  refine v_if_ne (pc := 8) 13 dX8_cost_8 (by decide) (by omega) (fun h8 => ?_) (fun h8 => ?_)
  · refine v_iload_n (pc := 13) dX8_cost_13 rfl ?_
    refine v_iconst (pc := 14) (0) dX8_cost_14 (by decide) ?_
    refine v_sipush (pc := 15) (999) dX8_cost_15 (by decide) ?_
    refine v_cSi3 (pc := 18) (d' := d - 1) dX8_cost_18 kX8_within ml_X8_81 stX8_within (Nat.le_of_ble_eq_true rfl) (Nat.le_of_ble_eq_true rfl) (by omega) ⟨Nat.le_refl _, Nat.le_refl _⟩ ?_
    refine c_X8_within (by omega) (by omega) (by omega) ?_
    refine ⟨_, rfl, ?_⟩
    refine v_if_ne (pc := 21) 27 dX8_cost_21 (by decide) (by omega) (fun h21 => ?_) (fun h21 => ?_)
    · refine v_aload_n (pc := 27) dX8_cost_27 rfl ?_
      refine v_gR (pc := 28) dX8_cost_28 fl_X8_16 rfl ?_
      refine v_iload_n (pc := 31) dX8_cost_31 rfl ?_
      refine v_iload_n (pc := 32) dX8_cost_32 rfl ?_
      refine v_aload_n (pc := 33) dX8_cost_33 rfl ?_
      refine v_gR (pc := 34) dX8_cost_34 fl_X8_7 rfl ?_
      refine v_iconst (pc := 37) (2) dX8_cost_37 (by decide) ?_
      refine v_aI (pc := 38) (j := 2) dX8_cost_38 rfl rfl (by omega) (by omega) ?_
      refine v_cVi3 (pc := 39) (z := 0) (d' := d - 1) dX8_cost_39 kX1_costAt ml_X8_220 iwX1_costAt swX1_costAt rfl rfl (Nat.le_of_ble_eq_true rfl) (Nat.le_of_ble_eq_true rfl) (by omega) ⟨Nat.le_refl _, Nat.le_refl _⟩ ?_
      refine c_X1_costAt (k := x.toNat) (by omega) hR (by omega) (by omega) (by omega) (by omega) (by omega) ?_
      refine ⟨_, rfl, ?_⟩
      refine v_ireturn (pc := 42) dX8_cost_42 rfl rfl ⟨Nat.le_refl _, Nat.le_refl _⟩ ?_
      exact hQ (by omega) (by omega) (by omega) (by omega)
    · refine v_bipush (pc := 24) (-2) dX8_cost_24 (by decide) ?_
      refine v_ireturn (pc := 26) dX8_cost_26 rfl rfl ⟨Nat.le_refl _, Nat.le_refl _⟩ ?_
      exact hB (by omega) (by omega) (by omega)
  · refine v_iconst (pc := 11) (-1) dX8_cost_11 (by decide) ?_
    refine v_ireturn (pc := 12) dX8_cost_12 rfl rfl ⟨Nat.le_refl _, Nat.le_refl _⟩ ?_
    exact hN (by omega)
set_option maxHeartbeats 4000000 in
set_option maxRecDepth 100000 in
theorem c_X8_keeping {g : vGl} {d : Nat} {Q : Option Value → List mC → Prop} {σ : vSt} (hd : 6 ≤ d) (hR : YR σ) {x y : Int} (hx : vr x) (hy : vr y) (hN : ¬ (0 ≤ x ∧ x < σ 10 6) → Q (some (vi (-1))) (hp σ)) (hB : 0 ≤ x → x < σ 10 6 → ¬ (0 ≤ y ∧ y ≤ 100 ∧ y ≤ σ 13 x.toNat) → Q (some (vi (-2))) (hp σ)) (hQ : 0 ≤ x → x < σ 10 6 → 0 ≤ y → y ≤ 100 → y ≤ σ 13 x.toNat → Q (some (vi (qLow (1000 * σ 5 (σ 11 x.toNat).toNat) (σ 13 x.toNat - y).toNat (yMass σ x.toNat)))) (hp σ)) : V g mX8_keeping d (0, 0, 0, 0) Q 0 [(0, .ref 1), (1, vi x), (2, vi y)] [] (hp σ) := by
  obtain ⟨⟨r0, r1, r2, r3, r4, r5, r6, r7, r8, r9⟩, rE, rS, rT, rF⟩ := id hR
  have s1 := rS x.toNat
  refine v_aload_n (pc := 0) dX8_keeping_0 rfl ?_
  refine v_gR (pc := 1) dX8_keeping_1 fl_X8_25 rfl ?_
  refine v_iload_n (pc := 4) dX8_keeping_4 rfl ?_
  refine v_cVi1 (pc := 5) (z := 0) (d' := d - 1) dX8_keeping_5 kX4_has ml_X8_103 iwX4_has swX4_has rfl rfl (Nat.le_of_ble_eq_true rfl) (Nat.le_of_ble_eq_true rfl) (by omega) ⟨Nat.le_refl _, Nat.le_refl _⟩ ?_
  refine c_X4_has (by omega) (by omega) ?_
  refine ⟨_, rfl, ?_⟩
  refine v_if_ne (pc := 8) 13 dX8_keeping_8 (by decide) (by omega) (fun h8 => ?_) (fun h8 => ?_)
  · refine v_iload_n (pc := 13) dX8_keeping_13 rfl ?_
    refine v_iconst (pc := 14) (0) dX8_keeping_14 (by decide) ?_
    refine v_bipush (pc := 15) (100) dX8_keeping_15 (by decide) ?_
    refine v_cSi3 (pc := 17) (d' := d - 1) dX8_keeping_17 kX8_within ml_X8_81 stX8_within (Nat.le_of_ble_eq_true rfl) (Nat.le_of_ble_eq_true rfl) (by omega) ⟨Nat.le_refl _, Nat.le_refl _⟩ ?_
    refine c_X8_within (by omega) (by omega) (by omega) ?_
    refine ⟨_, rfl, ?_⟩
    refine v_if_eq (pc := 20) 36 dX8_keeping_20 (by decide) (by omega) (fun h20 => ?_) (fun h20 => ?_)
    · refine v_bipush (pc := 36) (-2) dX8_keeping_36 (by decide) ?_
      refine v_ireturn (pc := 38) dX8_keeping_38 rfl rfl ⟨Nat.le_refl _, Nat.le_refl _⟩ ?_
      exact hB (by omega) (by omega) (by omega)
    · refine v_iload_n (pc := 23) dX8_keeping_23 rfl ?_
      refine v_aload_n (pc := 24) dX8_keeping_24 rfl ?_
      refine v_gR (pc := 25) dX8_keeping_25 fl_X8_25 rfl ?_
      refine v_gR (pc := 28) dX8_keeping_28 fl_X8_104 rfl ?_
      refine v_iload_n (pc := 31) dX8_keeping_31 rfl ?_
      refine v_aI (pc := 32) dX8_keeping_32 rfl rfl (by omega) (by omega) ?_
      refine v_icmp_le (pc := 33) 39 dX8_keeping_33 (by decide) (by omega) (by omega) (fun h33 => ?_) (fun h33 => ?_)
      · refine v_aload_n (pc := 39) dX8_keeping_39 rfl ?_
        refine v_gR (pc := 40) dX8_keeping_40 fl_X8_25 rfl ?_
        refine v_iload_n (pc := 43) dX8_keeping_43 rfl ?_
        refine v_iload_n (pc := 44) dX8_keeping_44 rfl ?_
        refine v_cVi2 (pc := 45) (z := 0) (d' := d - 1) dX8_keeping_45 kX4_lowOf ml_X8_133 iwX4_lowOf swX4_lowOf rfl rfl (Nat.le_of_ble_eq_true rfl) (Nat.le_of_ble_eq_true rfl) (by omega) ⟨Nat.le_refl _, Nat.le_refl _⟩ ?_
        refine c_X4_lowOf (k := x.toNat) (by omega) hR (by omega) (by omega) (by omega) ?_
        refine ⟨_, rfl, ?_⟩
        refine v_ireturn (pc := 48) dX8_keeping_48 rfl rfl ⟨Nat.le_refl _, Nat.le_refl _⟩ ?_
        exact hQ (by omega) (by omega) (by omega) (by omega) (by omega)
      · refine v_bipush (pc := 36) (-2) dX8_keeping_36 (by decide) ?_
        refine v_ireturn (pc := 38) dX8_keeping_38 rfl rfl ⟨Nat.le_refl _, Nat.le_refl _⟩ ?_
        exact hB (by omega) (by omega) (by omega)
  · refine v_iconst (pc := 11) (-1) dX8_keeping_11 (by decide) ?_
    refine v_ireturn (pc := 12) dX8_keeping_12 rfl rfl ⟨Nat.le_refl _, Nat.le_refl _⟩ ?_
    exact hN (by omega)
def yCount (σ : vSt) (wh : Int) : Int := if wh = 0 then σ 3 6 else if wh = 1 then σ 10 6 else if wh = 2 then σ 31 6 else if wh = 3 then qSum (σ 8) 6 0 else if wh = 4 then qSum (σ 9) 6 0 else if wh = 5 then yMass σ 0 else -1
set_option maxHeartbeats 4000000 in
set_option maxRecDepth 100000 in
theorem c_X8_count {g : vGl} {d : Nat} {Q : Option Value → List mC → Prop} {σ : vSt} (hd : 4 ≤ d) (hR : YR σ) {wh : Int} (hw : vr wh) (hQ : Q (some (vi (yCount σ wh))) (hp σ)) : V g mX8_count d (0, 0, 0, 0) Q 0 [(0, .ref 1), (1, vi wh)] [] (hp σ) := by
  obtain ⟨⟨r0, r1, r2, r3, r4, r5, r6, r7, r8, r9⟩, rE, rS, rT, rF⟩ := id hR
  refine v_iload_n (pc := 0) dX8_count_0 rfl ?_
  rcases (show (wh < 0 ∨ 5 < wh) ∨ wh = 0 ∨ wh = 1 ∨ wh = 2 ∨ wh = 3 ∨ wh = 4 ∨ wh = 5 by omega) with hsw | rfl | rfl | rfl | rfl | rfl | rfl
  · refine v_tableOut (pc := 1) 95 dX8_count_1 (by omega) hsw (by decide) ?_
    refine v_iconst (pc := 95) (-1) dX8_count_95 (by decide) ?_
    refine v_ireturn (pc := 96) dX8_count_96 rfl rfl ⟨Nat.le_refl _, Nat.le_refl _⟩ ?_
    have e : yCount σ wh = -1 := by
      unfold yCount
      rw [if_neg (by omega), if_neg (by omega), if_neg (by omega), if_neg (by omega), if_neg (by omega), if_neg (by omega)]
    rw [e] at hQ; exact hQ
  · refine v_tableIn (pc := 1) 40 dX8_count_1 (by decide) (by decide) (by decide) rfl (by decide) ?_
    refine v_aload_n (pc := 40) dX8_count_40 rfl ?_
    refine v_gR (pc := 41) dX8_count_41 fl_X8_16 rfl ?_
    refine v_gI (pc := 44) dX8_count_44 fl_X8_156 rfl ?_
    refine v_ireturn (pc := 47) dX8_count_47 rfl rfl ⟨Nat.le_refl _, Nat.le_refl _⟩ ?_
    exact hQ
  · refine v_tableIn (pc := 1) 48 dX8_count_1 (by decide) (by decide) (by decide) rfl (by decide) ?_
    refine v_aload_n (pc := 48) dX8_count_48 rfl ?_
    refine v_gR (pc := 49) dX8_count_49 fl_X8_25 rfl ?_
    refine v_gI (pc := 52) dX8_count_52 fl_X8_99 rfl ?_
    refine v_ireturn (pc := 55) dX8_count_55 rfl rfl ⟨Nat.le_refl _, Nat.le_refl _⟩ ?_
    exact hQ
  · refine v_tableIn (pc := 1) 56 dX8_count_1 (by decide) (by decide) (by decide) rfl (by decide) ?_
    refine v_aload_n (pc := 56) dX8_count_56 rfl ?_
    refine v_gR (pc := 57) dX8_count_57 fl_X8_77 rfl ?_
    refine v_gI (pc := 60) dX8_count_60 fl_X8_260 rfl ?_
    refine v_ireturn (pc := 63) dX8_count_63 rfl rfl ⟨Nat.le_refl _, Nat.le_refl _⟩ ?_
    exact hQ
  · refine v_tableIn (pc := 1) 64 dX8_count_1 (by decide) (by decide) (by decide) rfl (by decide) ?_
    refine v_aload_n (pc := 64) dX8_count_64 rfl ?_
    refine v_gR (pc := 65) dX8_count_65 fl_X8_16 rfl ?_
    refine v_gR (pc := 68) dX8_count_68 fl_X8_93 rfl ?_
    refine v_cSi1 (pc := 71) (d' := d - 1) dX8_count_71 kX8_sumOf ml_X8_261 stX8_sumOf (Nat.le_of_ble_eq_true rfl) (Nat.le_of_ble_eq_true rfl) (by omega) ⟨Nat.le_refl _, Nat.le_refl _⟩ ?_
    refine c_X8_sumOf rfl (by decide) ?_
    refine ⟨_, rfl, ?_⟩
    refine v_ireturn (pc := 74) dX8_count_74 rfl rfl ⟨Nat.le_refl _, Nat.le_refl _⟩ ?_
    exact hQ
  · refine v_tableIn (pc := 1) 75 dX8_count_1 (by decide) (by decide) (by decide) rfl (by decide) ?_
    refine v_aload_n (pc := 75) dX8_count_75 rfl ?_
    refine v_gR (pc := 76) dX8_count_76 fl_X8_16 rfl ?_
    refine v_gR (pc := 79) dX8_count_79 fl_X8_227 rfl ?_
    refine v_cSi1 (pc := 82) (d' := d - 1) dX8_count_82 kX8_sumOf ml_X8_261 stX8_sumOf (Nat.le_of_ble_eq_true rfl) (Nat.le_of_ble_eq_true rfl) (by omega) ⟨Nat.le_refl _, Nat.le_refl _⟩ ?_
    refine c_X8_sumOf rfl (by decide) ?_
    refine ⟨_, rfl, ?_⟩
    refine v_ireturn (pc := 85) dX8_count_85 rfl rfl ⟨Nat.le_refl _, Nat.le_refl _⟩ ?_
    exact hQ
  · refine v_tableIn (pc := 1) 86 dX8_count_1 (by decide) (by decide) (by decide) rfl (by decide) ?_
    refine v_aload_n (pc := 86) dX8_count_86 rfl ?_
    refine v_gR (pc := 87) dX8_count_87 fl_X8_25 rfl ?_
    refine v_iconst (pc := 90) (0) dX8_count_90 (by decide) ?_
    refine v_cVi1 (pc := 91) (z := 0) (d' := d - 1) dX8_count_91 kX4_massFrom ml_X8_130 iwX4_massFrom swX4_massFrom rfl rfl (Nat.le_of_ble_eq_true rfl) (Nat.le_of_ble_eq_true rfl) (by omega) ⟨Nat.le_refl _, Nat.le_refl _⟩ ?_
    refine c_X4_massFrom (k := 0) (by omega) hR (by omega) (by omega) ?_
    refine ⟨_, rfl, ?_⟩
    refine v_ireturn (pc := 94) dX8_count_94 rfl rfl ⟨Nat.le_refl _, Nat.le_refl _⟩ ?_
    exact hQ
