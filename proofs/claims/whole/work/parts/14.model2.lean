set_option maxHeartbeats 4000000 in
set_option maxRecDepth 100000 in
theorem c_X9_engine {g : vGl} {d : Nat} {Q : Option Value → List mC → Prop} {σ : vSt} (hd : 2 ≤ d) (hR : MR σ) {t e m q : Int} (ht : vr t) (he : vr e) (hm : vr m) (hq : vr q) (hB : ¬ (1 ≤ t ∧ t ≤ 999 ∧ 1 ≤ e ∧ e ≤ 999 ∧ 1 ≤ m ∧ m ≤ 99 ∧ 1 ≤ q ∧ q ≤ 9999) → Q (some (vi (-2))) (hp σ)) (hF : (1 ≤ t ∧ t ≤ 999 ∧ 1 ≤ e ∧ e ≤ 999 ∧ 1 ≤ m ∧ m ≤ 99 ∧ 1 ≤ q ∧ q ≤ 9999) → σ 38 12 = 6 → Q (some (vi (-4))) (hp σ)) (hQ : (1 ≤ t ∧ t ≤ 999 ∧ 1 ≤ e ∧ e ≤ 999 ∧ 1 ≤ m ∧ m ≤ 99 ∧ 1 ≤ q ∧ q ≤ 9999) → σ 38 12 < 6 → ∀ z : Nat, σ 38 12 = z → Q (some (vi z)) (hp (vU (vU (vU (vU (vU σ 39 z t) 40 z e) 41 z m) 42 z q) 38 12 (z + 1)))) : V g mX9_engine d (0, 0, 0, 0) Q 0 [(0, .ref 38), (1, vi t), (2, vi e), (3, vi m), (4, vi q)] [] (hp σ) := by
  obtain ⟨⟨r0, r1, r2, r3, r4, r5, r6, r7, r8, r9⟩, rE, rS, rT, rF⟩ := id hR
  refine v_iload_n (pc := 0) dX9_engine_0 rfl ?_
  refine v_i2l (pc := 1) dX9_engine_1 (by omega) ?_
  refine v_lconst (pc := 2) (1) dX9_engine_2 (by decide) ?_
  refine v_ldc2 (pc := 3) (999) dX9_engine_3 kc_X9_113 ?_
  refine v_cSi3 (pc := 6) (d' := d - 1) dX9_engine_6 kX9_isIn ml_X9_115 stX9_isIn (Nat.le_of_ble_eq_true rfl) (Nat.le_of_ble_eq_true rfl) (by omega) ⟨Nat.le_refl _, Nat.le_refl _⟩ ?_
  refine c_X9_isIn (by omega) (by omega) (by omega) ?_
  refine ⟨_, rfl, ?_⟩
  refine v_if_eq (pc := 9) 49 dX9_engine_9 (by decide) (by omega) (fun h9 => ?_) (fun h9 => ?_)
  · refine v_bipush (pc := 49) (-2) dX9_engine_49 (by decide) ?_
    refine v_ireturn (pc := 51) dX9_engine_51 rfl rfl ⟨Nat.le_refl _, Nat.le_refl _⟩ ?_
    exact hB (by omega)
  · refine v_iload_n (pc := 12) dX9_engine_12 rfl ?_
    refine v_i2l (pc := 13) dX9_engine_13 (by omega) ?_
    refine v_lconst (pc := 14) (1) dX9_engine_14 (by decide) ?_
    refine v_ldc2 (pc := 15) (999) dX9_engine_15 kc_X9_113 ?_
    refine v_cSi3 (pc := 18) (d' := d - 1) dX9_engine_18 kX9_isIn ml_X9_115 stX9_isIn (Nat.le_of_ble_eq_true rfl) (Nat.le_of_ble_eq_true rfl) (by omega) ⟨Nat.le_refl _, Nat.le_refl _⟩ ?_
    refine c_X9_isIn (by omega) (by omega) (by omega) ?_
    refine ⟨_, rfl, ?_⟩
    refine v_if_eq (pc := 21) 49 dX9_engine_21 (by decide) (by omega) (fun h21 => ?_) (fun h21 => ?_)
    · refine v_bipush (pc := 49) (-2) dX9_engine_49 (by decide) ?_
      refine v_ireturn (pc := 51) dX9_engine_51 rfl rfl ⟨Nat.le_refl _, Nat.le_refl _⟩ ?_
      exact hB (by omega)
    · refine v_iload_n (pc := 24) dX9_engine_24 rfl ?_
      refine v_i2l (pc := 25) dX9_engine_25 (by omega) ?_
      refine v_lconst (pc := 26) (1) dX9_engine_26 (by decide) ?_
      refine v_ldc2 (pc := 27) (99) dX9_engine_27 kc_X9_119 ?_
      refine v_cSi3 (pc := 30) (d' := d - 1) dX9_engine_30 kX9_isIn ml_X9_115 stX9_isIn (Nat.le_of_ble_eq_true rfl) (Nat.le_of_ble_eq_true rfl) (by omega) ⟨Nat.le_refl _, Nat.le_refl _⟩ ?_
      refine c_X9_isIn (by omega) (by omega) (by omega) ?_
      refine ⟨_, rfl, ?_⟩
      refine v_if_eq (pc := 33) 49 dX9_engine_33 (by decide) (by omega) (fun h33 => ?_) (fun h33 => ?_)
      · refine v_bipush (pc := 49) (-2) dX9_engine_49 (by decide) ?_
        refine v_ireturn (pc := 51) dX9_engine_51 rfl rfl ⟨Nat.le_refl _, Nat.le_refl _⟩ ?_
        exact hB (by omega)
      · refine v_iload (pc := 36) dX9_engine_36 rfl ?_
        refine v_i2l (pc := 38) dX9_engine_38 (by omega) ?_
        refine v_lconst (pc := 39) (1) dX9_engine_39 (by decide) ?_
        refine v_ldc2 (pc := 40) (9999) dX9_engine_40 kc_X9_121 ?_
        refine v_cSi3 (pc := 43) (d' := d - 1) dX9_engine_43 kX9_isIn ml_X9_115 stX9_isIn (Nat.le_of_ble_eq_true rfl) (Nat.le_of_ble_eq_true rfl) (by omega) ⟨Nat.le_refl _, Nat.le_refl _⟩ ?_
        refine c_X9_isIn (by omega) (by omega) (by omega) ?_
        refine ⟨_, rfl, ?_⟩
        refine v_if_ne (pc := 46) 52 dX9_engine_46 (by decide) (by omega) (fun h46 => ?_) (fun h46 => ?_)
        · refine v_aload_n (pc := 52) dX9_engine_52 rfl ?_
          refine v_gI (pc := 53) dX9_engine_53 fl_X9_107 rfl ?_
          refine v_bipush (pc := 56) (6) dX9_engine_56 (by decide) ?_
          refine v_icmp_ne (pc := 58) 64 dX9_engine_58 (by decide) (by omega) (by omega) (fun h58 => ?_) (fun h58 => ?_)
          · obtain ⟨z, ez⟩ : ∃ z : Nat, σ 38 12 = z := ⟨(σ 38 12).toNat, by omega⟩
            have hz := hQ (by omega) (by omega) z ez
            refine v_aload_n (pc := 64) dX9_engine_64 rfl ?_
            refine v_gR (pc := 65) dX9_engine_65 fl_X9_7 rfl ?_
            refine v_aload_n (pc := 68) dX9_engine_68 rfl ?_
            refine v_gI (pc := 69) dX9_engine_69 fl_X9_107 rfl ?_
            refine v_iload_n (pc := 72) dX9_engine_72 rfl ?_
            refine v_sI (pc := 73) (j := z) dX9_engine_73 rfl (by show (σ 38 12).toNat = z; omega) (by show 0 ≤ σ 38 12; omega) (by show σ 38 12 < 6; omega) ?_
            refine v_aload_n (pc := 74) dX9_engine_74 rfl ?_
            refine v_gR (pc := 75) dX9_engine_75 fl_X9_13 rfl ?_
            refine v_aload_n (pc := 78) dX9_engine_78 rfl ?_
            refine v_gI (pc := 79) dX9_engine_79 fl_X9_107 rfl ?_
            refine v_iload_n (pc := 82) dX9_engine_82 rfl ?_
            refine v_sI (pc := 83) (j := z) dX9_engine_83 rfl (by show (σ 38 12).toNat = z; omega) (by show 0 ≤ σ 38 12; omega) (by show σ 38 12 < 6; omega) ?_
            refine v_aload_n (pc := 84) dX9_engine_84 rfl ?_
            refine v_gR (pc := 85) dX9_engine_85 fl_X9_16 rfl ?_
            refine v_aload_n (pc := 88) dX9_engine_88 rfl ?_
            refine v_gI (pc := 89) dX9_engine_89 fl_X9_107 rfl ?_
            refine v_iload_n (pc := 92) dX9_engine_92 rfl ?_
            refine v_sI (pc := 93) (j := z) dX9_engine_93 rfl (by show (σ 38 12).toNat = z; omega) (by show 0 ≤ σ 38 12; omega) (by show σ 38 12 < 6; omega) ?_
            refine v_aload_n (pc := 94) dX9_engine_94 rfl ?_
            refine v_gR (pc := 95) dX9_engine_95 fl_X9_19 rfl ?_
            refine v_aload_n (pc := 98) dX9_engine_98 rfl ?_
            refine v_gI (pc := 99) dX9_engine_99 fl_X9_107 rfl ?_
            refine v_iload (pc := 102) dX9_engine_102 rfl ?_
            refine v_sI (pc := 104) (j := z) dX9_engine_104 rfl (by show (σ 38 12).toNat = z; omega) (by show 0 ≤ σ 38 12; omega) (by show σ 38 12 < 6; omega) ?_
            refine v_aload_n (pc := 105) dX9_engine_105 rfl ?_
            refine v_dup (pc := 106) dX9_engine_106 rfl ?_
            refine v_gI (pc := 107) dX9_engine_107 fl_X9_107 rfl ?_
            refine v_iconst (pc := 110) (1) dX9_engine_110 (by decide) ?_
            refine v_iadd (pc := 111) dX9_engine_111 ?_
            refine v_pI (pc := 112) dX9_engine_112 fl_X9_107 rfl ?_
            refine v_aload_n (pc := 115) dX9_engine_115 rfl ?_
            refine v_gI (pc := 116) dX9_engine_116 fl_X9_107 rfl ?_
            refine v_iconst (pc := 119) (1) dX9_engine_119 (by decide) ?_
            refine v_isub (pc := 120) dX9_engine_120 ?_
            refine v_ireturn (pc := 121) dX9_engine_121 rfl rfl ⟨Nat.le_refl _, Nat.le_refl _⟩ ?_
            have e1 : vU (vU (vU (vU σ 39 z t) 40 z e) 41 z m) 42 z q 38 12 = z := ez
            rw [vU_same, e1, Int.add_sub_cancel]
            exact hz
          · refine v_bipush (pc := 61) (-4) dX9_engine_61 (by decide) ?_
            refine v_ireturn (pc := 63) dX9_engine_63 rfl rfl ⟨Nat.le_refl _, Nat.le_refl _⟩ ?_
            exact hF (by omega) (by omega)
        · refine v_bipush (pc := 49) (-2) dX9_engine_49 (by decide) ?_
          refine v_ireturn (pc := 51) dX9_engine_51 rfl rfl ⟨Nat.le_refl _, Nat.le_refl _⟩ ?_
          exact hB (by omega)
set_option maxHeartbeats 4000000 in
set_option maxRecDepth 100000 in
theorem c_X9_store {g : vGl} {d : Nat} {Q : Option Value → List mC → Prop} {σ : vSt} (hd : 2 ≤ d) (hR : MR σ) {x n : Int} (hx : vr x) (hn : vr n) (hN : ¬ (0 ≤ x ∧ x < σ 38 12) → Q (some (vi (-1))) (hp σ)) (hB : 0 ≤ x → x < σ 38 12 → ¬ (1 ≤ n ∧ n ≤ 99) → Q (some (vi (-2))) (hp σ)) (hF : 0 ≤ x → x < σ 38 12 → 1 ≤ n → n ≤ 99 → 99 < σ 43 x.toNat + n → Q (some (vi (-4))) (hp σ)) (hQ : 0 ≤ x → x < σ 38 12 → 1 ≤ n → n ≤ 99 → σ 43 x.toNat + n ≤ 99 → Q (some (vi (σ 43 x.toNat + n))) (hp (vU σ 43 x.toNat (σ 43 x.toNat + n)))) : V g mX9_store d (0, 0, 0, 0) Q 0 [(0, .ref 38), (1, vi x), (2, vi n)] [] (hp σ) := by
  obtain ⟨⟨r0, r1, r2, r3, r4, r5, r6, r7, r8, r9⟩, rE, rS, rT, rF⟩ := id hR
  have s1 := rE x.toNat
  refine v_aload_n (pc := 0) dX9_store_0 rfl ?_
  refine v_iload_n (pc := 1) dX9_store_1 rfl ?_
  refine v_cVi1 (pc := 2) (z := 0) (d' := d - 1) dX9_store_2 kX9_isEngine ml_X9_123 iwX9_isEngine swX9_isEngine rfl rfl (Nat.le_of_ble_eq_true rfl) (Nat.le_of_ble_eq_true rfl) (by omega) ⟨Nat.le_refl _, Nat.le_refl _⟩ ?_
  refine c_X9_isEngine (by omega) (by omega) ?_
  refine ⟨_, rfl, ?_⟩
  refine v_if_ne (pc := 5) 10 dX9_store_5 (by decide) (by omega) (fun h5 => ?_) (fun h5 => ?_)
  · refine v_iload_n (pc := 10) dX9_store_10 rfl ?_
    refine v_i2l (pc := 11) dX9_store_11 (by omega) ?_
    refine v_lconst (pc := 12) (1) dX9_store_12 (by decide) ?_
    refine v_ldc2 (pc := 13) (99) dX9_store_13 kc_X9_119 ?_
    refine v_cSi3 (pc := 16) (d' := d - 1) dX9_store_16 kX9_isIn ml_X9_115 stX9_isIn (Nat.le_of_ble_eq_true rfl) (Nat.le_of_ble_eq_true rfl) (by omega) ⟨Nat.le_refl _, Nat.le_refl _⟩ ?_
    refine c_X9_isIn (by omega) (by omega) (by omega) ?_
    refine ⟨_, rfl, ?_⟩
    refine v_if_ne (pc := 19) 25 dX9_store_19 (by decide) (by omega) (fun h19 => ?_) (fun h19 => ?_)
    · refine v_aload_n (pc := 25) dX9_store_25 rfl ?_
      refine v_gR (pc := 26) dX9_store_26 fl_X9_22 rfl ?_
      refine v_iload_n (pc := 29) dX9_store_29 rfl ?_
      refine v_aI (pc := 30) dX9_store_30 rfl rfl (by omega) (by omega) ?_
      refine v_iload_n (pc := 31) dX9_store_31 rfl ?_
      refine v_iadd (pc := 32) dX9_store_32 ?_
      refine v_bipush (pc := 33) (99) dX9_store_33 (by decide) ?_
      refine v_icmp_le (pc := 35) 41 dX9_store_35 (by decide) (by omega) (by omega) (fun h35 => ?_) (fun h35 => ?_)
      · refine v_aload_n (pc := 41) dX9_store_41 rfl ?_
        refine v_gR (pc := 42) dX9_store_42 fl_X9_22 rfl ?_
        refine v_iload_n (pc := 45) dX9_store_45 rfl ?_
        refine v_dup2 (pc := 46) dX9_store_46 rfl rfl ?_
        refine v_aI (pc := 47) dX9_store_47 rfl rfl (by omega) (by omega) ?_
        refine v_iload_n (pc := 48) dX9_store_48 rfl ?_
        refine v_iadd (pc := 49) dX9_store_49 ?_
        refine v_sI (pc := 50) dX9_store_50 rfl rfl (by omega) (by omega) ?_
        refine v_aload_n (pc := 51) dX9_store_51 rfl ?_
        refine v_gR (pc := 52) dX9_store_52 fl_X9_22 rfl ?_
        refine v_iload_n (pc := 55) dX9_store_55 rfl ?_
        refine v_aI (pc := 56) dX9_store_56 rfl rfl (by omega) (by omega) ?_
        refine v_ireturn (pc := 57) dX9_store_57 rfl rfl ⟨Nat.le_refl _, Nat.le_refl _⟩ ?_
        rw [vU_same]; exact hQ (by omega) (by omega) (by omega) (by omega) (by omega)
      · refine v_bipush (pc := 38) (-4) dX9_store_38 (by decide) ?_
        refine v_ireturn (pc := 40) dX9_store_40 rfl rfl ⟨Nat.le_refl _, Nat.le_refl _⟩ ?_
        exact hF (by omega) (by omega) (by omega) (by omega) (by omega)
    · refine v_bipush (pc := 22) (-2) dX9_store_22 (by decide) ?_
      refine v_ireturn (pc := 24) dX9_store_24 rfl rfl ⟨Nat.le_refl _, Nat.le_refl _⟩ ?_
      exact hB (by omega) (by omega) (by omega)
  · refine v_iconst (pc := 8) (-1) dX9_store_8 (by decide) ?_
    refine v_ireturn (pc := 9) dX9_store_9 rfl rfl ⟨Nat.le_refl _, Nat.le_refl _⟩ ?_
    exact hN (by omega)
set_option maxHeartbeats 4000000 in
set_option maxRecDepth 100000 in
theorem c_X9_stage {g : vGl} {d : Nat} {Q : Option Value → List mC → Prop} {σ : vSt} (hd : 2 ≤ d) (hR : MR σ) {x m s f : Int} (hx : vr x) (hm : vr m) (hs : vr s) (hf : vr f) (hN : ¬ (0 ≤ x ∧ x < σ 38 12) → Q (some (vi (-1))) (hp σ)) (hB : 0 ≤ x → x < σ 38 12 → ¬ (1 ≤ m ∧ m ≤ 9 ∧ 0 ≤ s ∧ s ≤ 600 ∧ 0 ≤ f ∧ f ≤ 99) → Q (some (vi (-2))) (hp σ)) (hF : 0 ≤ x → x < σ 38 12 → (1 ≤ m ∧ m ≤ 9 ∧ 0 ≤ s ∧ s ≤ 600 ∧ 0 ≤ f ∧ f ≤ 99) → σ 38 13 = 4 → Q (some (vi (-4))) (hp σ)) (hQ : 0 ≤ x → x < σ 38 12 → (1 ≤ m ∧ m ≤ 9 ∧ 0 ≤ s ∧ s ≤ 600 ∧ 0 ≤ f ∧ f ≤ 99) → σ 38 13 < 4 → ∀ z : Nat, σ 38 13 = z → Q (some (vi (z + 1))) (hp (vU (vU (vU (vU (vU σ 45 z x) 46 z m) 47 z s) 48 z f) 38 13 (z + 1)))) : V g mX9_stage d (0, 0, 0, 0) Q 0 [(0, .ref 38), (1, vi x), (2, vi m), (3, vi s), (4, vi f)] [] (hp σ) := by
  obtain ⟨⟨r0, r1, r2, r3, r4, r5, r6, r7, r8, r9⟩, rE, rS, rT, rF⟩ := id hR
  refine v_aload_n (pc := 0) dX9_stage_0 rfl ?_
  refine v_iload_n (pc := 1) dX9_stage_1 rfl ?_
  refine v_cVi1 (pc := 2) (z := 0) (d' := d - 1) dX9_stage_2 kX9_isEngine ml_X9_123 iwX9_isEngine swX9_isEngine rfl rfl (Nat.le_of_ble_eq_true rfl) (Nat.le_of_ble_eq_true rfl) (by omega) ⟨Nat.le_refl _, Nat.le_refl _⟩ ?_
  refine c_X9_isEngine (by omega) (by omega) ?_
  refine ⟨_, rfl, ?_⟩
  refine v_if_ne (pc := 5) 10 dX9_stage_5 (by decide) (by omega) (fun h5 => ?_) (fun h5 => ?_)
  · refine v_iload_n (pc := 10) dX9_stage_10 rfl ?_
    refine v_i2l (pc := 11) dX9_stage_11 (by omega) ?_
    refine v_lconst (pc := 12) (1) dX9_stage_12 (by decide) ?_
    refine v_ldc2 (pc := 13) (9) dX9_stage_13 kc_X9_127 ?_
    refine v_cSi3 (pc := 16) (d' := d - 1) dX9_stage_16 kX9_isIn ml_X9_115 stX9_isIn (Nat.le_of_ble_eq_true rfl) (Nat.le_of_ble_eq_true rfl) (by omega) ⟨Nat.le_refl _, Nat.le_refl _⟩ ?_
    refine c_X9_isIn (by omega) (by omega) (by omega) ?_
    refine ⟨_, rfl, ?_⟩
    refine v_if_eq (pc := 19) 47 dX9_stage_19 (by decide) (by omega) (fun h19 => ?_) (fun h19 => ?_)
    · refine v_bipush (pc := 47) (-2) dX9_stage_47 (by decide) ?_
      refine v_ireturn (pc := 49) dX9_stage_49 rfl rfl ⟨Nat.le_refl _, Nat.le_refl _⟩ ?_
      exact hB (by omega) (by omega) (by omega)
    · refine v_iload_n (pc := 22) dX9_stage_22 rfl ?_
      refine v_i2l (pc := 23) dX9_stage_23 (by omega) ?_
      refine v_lconst (pc := 24) (0) dX9_stage_24 (by decide) ?_
      refine v_ldc2 (pc := 25) (600) dX9_stage_25 kc_X9_129 ?_
      refine v_cSi3 (pc := 28) (d' := d - 1) dX9_stage_28 kX9_isIn ml_X9_115 stX9_isIn (Nat.le_of_ble_eq_true rfl) (Nat.le_of_ble_eq_true rfl) (by omega) ⟨Nat.le_refl _, Nat.le_refl _⟩ ?_
      refine c_X9_isIn (by omega) (by omega) (by omega) ?_
      refine ⟨_, rfl, ?_⟩
      refine v_if_eq (pc := 31) 47 dX9_stage_31 (by decide) (by omega) (fun h31 => ?_) (fun h31 => ?_)
      · refine v_bipush (pc := 47) (-2) dX9_stage_47 (by decide) ?_
        refine v_ireturn (pc := 49) dX9_stage_49 rfl rfl ⟨Nat.le_refl _, Nat.le_refl _⟩ ?_
        exact hB (by omega) (by omega) (by omega)
      · refine v_iload (pc := 34) dX9_stage_34 rfl ?_
        refine v_i2l (pc := 36) dX9_stage_36 (by omega) ?_
        refine v_lconst (pc := 37) (0) dX9_stage_37 (by decide) ?_
        refine v_ldc2 (pc := 38) (99) dX9_stage_38 kc_X9_119 ?_
        refine v_cSi3 (pc := 41) (d' := d - 1) dX9_stage_41 kX9_isIn ml_X9_115 stX9_isIn (Nat.le_of_ble_eq_true rfl) (Nat.le_of_ble_eq_true rfl) (by omega) ⟨Nat.le_refl _, Nat.le_refl _⟩ ?_
        refine c_X9_isIn (by omega) (by omega) (by omega) ?_
        refine ⟨_, rfl, ?_⟩
        refine v_if_ne (pc := 44) 50 dX9_stage_44 (by decide) (by omega) (fun h44 => ?_) (fun h44 => ?_)
        · refine v_aload_n (pc := 50) dX9_stage_50 rfl ?_
          refine v_gI (pc := 51) dX9_stage_51 fl_X9_110 rfl ?_
          refine v_iconst (pc := 54) (4) dX9_stage_54 (by decide) ?_
          refine v_icmp_ne (pc := 55) 61 dX9_stage_55 (by decide) (by omega) (by omega) (fun h55 => ?_) (fun h55 => ?_)
          · obtain ⟨z, ez⟩ : ∃ z : Nat, σ 38 13 = z := ⟨(σ 38 13).toNat, by omega⟩
            have hz := hQ (by omega) (by omega) (by omega) (by omega) z ez
            refine v_aload_n (pc := 61) dX9_stage_61 rfl ?_
            refine v_gR (pc := 62) dX9_stage_62 fl_X9_28 rfl ?_
            refine v_aload_n (pc := 65) dX9_stage_65 rfl ?_
            refine v_gI (pc := 66) dX9_stage_66 fl_X9_110 rfl ?_
            refine v_iload_n (pc := 69) dX9_stage_69 rfl ?_
            refine v_sI (pc := 70) (j := z) dX9_stage_70 rfl (by show (σ 38 13).toNat = z; omega) (by show 0 ≤ σ 38 13; omega) (by show σ 38 13 < 4; omega) ?_
            refine v_aload_n (pc := 71) dX9_stage_71 rfl ?_
            refine v_gR (pc := 72) dX9_stage_72 fl_X9_31 rfl ?_
            refine v_aload_n (pc := 75) dX9_stage_75 rfl ?_
            refine v_gI (pc := 76) dX9_stage_76 fl_X9_110 rfl ?_
            refine v_iload_n (pc := 79) dX9_stage_79 rfl ?_
            refine v_sI (pc := 80) (j := z) dX9_stage_80 rfl (by show (σ 38 13).toNat = z; omega) (by show 0 ≤ σ 38 13; omega) (by show σ 38 13 < 4; omega) ?_
            refine v_aload_n (pc := 81) dX9_stage_81 rfl ?_
            refine v_gR (pc := 82) dX9_stage_82 fl_X9_34 rfl ?_
            refine v_aload_n (pc := 85) dX9_stage_85 rfl ?_
            refine v_gI (pc := 86) dX9_stage_86 fl_X9_110 rfl ?_
            refine v_iload_n (pc := 89) dX9_stage_89 rfl ?_
            refine v_sI (pc := 90) (j := z) dX9_stage_90 rfl (by show (σ 38 13).toNat = z; omega) (by show 0 ≤ σ 38 13; omega) (by show σ 38 13 < 4; omega) ?_
            refine v_aload_n (pc := 91) dX9_stage_91 rfl ?_
            refine v_gR (pc := 92) dX9_stage_92 fl_X9_37 rfl ?_
            refine v_aload_n (pc := 95) dX9_stage_95 rfl ?_
            refine v_gI (pc := 96) dX9_stage_96 fl_X9_110 rfl ?_
            refine v_iload (pc := 99) dX9_stage_99 rfl ?_
            refine v_sI (pc := 101) (j := z) dX9_stage_101 rfl (by show (σ 38 13).toNat = z; omega) (by show 0 ≤ σ 38 13; omega) (by show σ 38 13 < 4; omega) ?_
            refine v_aload_n (pc := 102) dX9_stage_102 rfl ?_
            refine v_dup (pc := 103) dX9_stage_103 rfl ?_
            refine v_gI (pc := 104) dX9_stage_104 fl_X9_110 rfl ?_
            refine v_iconst (pc := 107) (1) dX9_stage_107 (by decide) ?_
            refine v_iadd (pc := 108) dX9_stage_108 ?_
            refine v_pI (pc := 109) dX9_stage_109 fl_X9_110 rfl ?_
            refine v_aload_n (pc := 112) dX9_stage_112 rfl ?_
            refine v_gI (pc := 113) dX9_stage_113 fl_X9_110 rfl ?_
            refine v_ireturn (pc := 116) dX9_stage_116 rfl rfl ⟨Nat.le_refl _, Nat.le_refl _⟩ ?_
            have e1 : vU (vU (vU (vU σ 45 z x) 46 z m) 47 z s) 48 z f 38 13 = z := ez
            rw [vU_same, e1]
            exact hz
          · refine v_bipush (pc := 58) (-4) dX9_stage_58 (by decide) ?_
            refine v_ireturn (pc := 60) dX9_stage_60 rfl rfl ⟨Nat.le_refl _, Nat.le_refl _⟩ ?_
            exact hF (by omega) (by omega) (by omega) (by omega)
        · refine v_bipush (pc := 47) (-2) dX9_stage_47 (by decide) ?_
          refine v_ireturn (pc := 49) dX9_stage_49 rfl rfl ⟨Nat.le_refl _, Nat.le_refl _⟩ ?_
          exact hB (by omega) (by omega) (by omega)
  · refine v_iconst (pc := 8) (-1) dX9_stage_8 (by decide) ?_
    refine v_ireturn (pc := 9) dX9_stage_9 rfl rfl ⟨Nat.le_refl _, Nat.le_refl _⟩ ?_
    exact hN (by omega)
set_option maxHeartbeats 4000000 in
set_option maxRecDepth 100000 in
theorem c_X9_undo {g : vGl} {d : Nat} {Q : Option Value → List mC → Prop} {σ : vSt} (hd : 0 ≤ d) (hR : MR σ) (hS : σ 38 13 = 0 → Q (some (vi (-3))) (hp σ)) (hQ : ¬ σ 38 13 = 0 → Q (some (vi (σ 38 13 - 1))) (hp (vU σ 38 13 (σ 38 13 - 1)))) : V g mX9_undo d (0, 0, 0, 0) Q 0 [(0, .ref 38)] [] (hp σ) := by
  obtain ⟨⟨r0, r1, r2, r3, r4, r5, r6, r7, r8, r9⟩, rE, rS, rT, rF⟩ := id hR
  refine v_aload_n (pc := 0) dX9_undo_0 rfl ?_
  refine v_gI (pc := 1) dX9_undo_1 fl_X9_110 rfl ?_
  refine v_if_ne (pc := 4) 10 dX9_undo_4 (by decide) (by omega) (fun h4 => ?_) (fun h4 => ?_)
  · have h7b : ¬ σ 38 13 = 0 := h4
    refine v_aload_n (pc := 10) dX9_undo_10 rfl ?_
    refine v_dup (pc := 11) dX9_undo_11 rfl ?_
    refine v_gI (pc := 12) dX9_undo_12 fl_X9_110 rfl ?_
    refine v_iconst (pc := 15) (1) dX9_undo_15 (by decide) ?_
    refine v_isub (pc := 16) dX9_undo_16 ?_
    refine v_pI (pc := 17) dX9_undo_17 fl_X9_110 rfl ?_
    refine v_aload_n (pc := 20) dX9_undo_20 rfl ?_
    refine v_gI (pc := 21) dX9_undo_21 fl_X9_110 rfl ?_
    refine v_ireturn (pc := 24) dX9_undo_24 rfl rfl ⟨Nat.le_refl _, Nat.le_refl _⟩ ?_
    rw [vU_same]; exact hQ h7b
  · have h7b : σ 38 13 = 0 := by omega
    refine v_bipush (pc := 7) (-3) dX9_undo_7 (by decide) ?_
    refine v_ireturn (pc := 9) dX9_undo_9 rfl rfl ⟨Nat.le_refl _, Nat.le_refl _⟩ ?_
    exact hS h7b
set_option maxHeartbeats 4000000 in
set_option maxRecDepth 100000 in
theorem c_X9_stuff {g : vGl} {d : Nat} {Q : Option Value → List mC → Prop} {σ : vSt} (hd : 2 ≤ d) (hR : MR σ) {x n : Int} (hx : vr x) (hn : vr n) (hN : ¬ (0 ≤ x ∧ x < σ 38 13) → Q (some (vi (-1))) (hp σ)) (hB : 0 ≤ x → x < σ 38 13 → ¬ (0 ≤ n ∧ n ≤ 600) → Q (some (vi (-2))) (hp σ)) (hQ : 0 ≤ x → x < σ 38 13 → 0 ≤ n → n ≤ 600 → Q (some (vi (σ 47 x.toNat))) (hp (vU σ 47 x.toNat n))) : V g mX9_stuff d (0, 0, 0, 0) Q 0 [(0, .ref 38), (1, vi x), (2, vi n)] [] (hp σ) := by
  obtain ⟨⟨r0, r1, r2, r3, r4, r5, r6, r7, r8, r9⟩, rE, rS, rT, rF⟩ := id hR
  refine v_aload_n (pc := 0) dX9_stuff_0 rfl ?_
  refine v_iload_n (pc := 1) dX9_stuff_1 rfl ?_
  refine v_cVi1 (pc := 2) (z := 0) (d' := d - 1) dX9_stuff_2 kX9_isStage ml_X9_131 iwX9_isStage swX9_isStage rfl rfl (Nat.le_of_ble_eq_true rfl) (Nat.le_of_ble_eq_true rfl) (by omega) ⟨Nat.le_refl _, Nat.le_refl _⟩ ?_
  refine c_X9_isStage (by omega) (by omega) ?_
  refine ⟨_, rfl, ?_⟩
  refine v_if_ne (pc := 5) 10 dX9_stuff_5 (by decide) (by omega) (fun h5 => ?_) (fun h5 => ?_)
  · refine v_iload_n (pc := 10) dX9_stuff_10 rfl ?_
    refine v_i2l (pc := 11) dX9_stuff_11 (by omega) ?_
    refine v_lconst (pc := 12) (0) dX9_stuff_12 (by decide) ?_
    refine v_ldc2 (pc := 13) (600) dX9_stuff_13 kc_X9_129 ?_
    refine v_cSi3 (pc := 16) (d' := d - 1) dX9_stuff_16 kX9_isIn ml_X9_115 stX9_isIn (Nat.le_of_ble_eq_true rfl) (Nat.le_of_ble_eq_true rfl) (by omega) ⟨Nat.le_refl _, Nat.le_refl _⟩ ?_
    refine c_X9_isIn (by omega) (by omega) (by omega) ?_
    refine ⟨_, rfl, ?_⟩
    refine v_if_ne (pc := 19) 25 dX9_stuff_19 (by decide) (by omega) (fun h19 => ?_) (fun h19 => ?_)
    · refine v_aload_n (pc := 25) dX9_stuff_25 rfl ?_
      refine v_gR (pc := 26) dX9_stuff_26 fl_X9_34 rfl ?_
      refine v_iload_n (pc := 29) dX9_stuff_29 rfl ?_
      refine v_aI (pc := 30) dX9_stuff_30 rfl rfl (by omega) (by omega) ?_
      refine v_istore_n (pc := 31) dX9_stuff_31 (by decide) ?_
      refine v_aload_n (pc := 32) dX9_stuff_32 rfl ?_
      refine v_gR (pc := 33) dX9_stuff_33 fl_X9_34 rfl ?_
      refine v_iload_n (pc := 36) dX9_stuff_36 rfl ?_
      refine v_iload_n (pc := 37) dX9_stuff_37 rfl ?_
      refine v_sI (pc := 38) dX9_stuff_38 rfl rfl (by omega) (by omega) ?_
      refine v_iload_n (pc := 39) dX9_stuff_39 rfl ?_
      refine v_ireturn (pc := 40) dX9_stuff_40 rfl rfl ⟨Nat.le_refl _, Nat.le_refl _⟩ ?_
      exact hQ (by omega) (by omega) (by omega) (by omega)
    · refine v_bipush (pc := 22) (-2) dX9_stuff_22 (by decide) ?_
      refine v_ireturn (pc := 24) dX9_stuff_24 rfl rfl ⟨Nat.le_refl _, Nat.le_refl _⟩ ?_
      exact hB (by omega) (by omega) (by omega)
  · refine v_iconst (pc := 8) (-1) dX9_stuff_8 (by decide) ?_
    refine v_ireturn (pc := 9) dX9_stuff_9 rfl rfl ⟨Nat.le_refl _, Nat.le_refl _⟩ ?_
    exact hN (by omega)
set_option maxHeartbeats 4000000 in
set_option maxRecDepth 100000 in
theorem c_X9_set {g : vGl} {d : Nat} {Q : Option Value → List mC → Prop} {σ : vSt} (hd : 2 ≤ d) (hR : MR σ) {x n : Int} (hx : vr x) (hn : vr n) (hN : ¬ (0 ≤ x ∧ x ≤ 2) → Q (some (vi (-1))) (hp σ)) (hB : 0 ≤ x → x ≤ 2 → ¬ ((if x = 0 then 0 else if x = 1 then 1 else 50) ≤ n ∧ n ≤ (if x = 0 then 999 else if x = 1 then 50 else 100)) → Q (some (vi (-2))) (hp σ)) (hQ : 0 ≤ x → x ≤ 2 → (if x = 0 then 0 else if x = 1 then 1 else 50) ≤ n → n ≤ (if x = 0 then 999 else if x = 1 then 50 else 100) → Q (some (vi (σ 38 (14 + x.toNat)))) (hp (vU σ 38 (14 + x.toNat) n))) : V g mX9_set d (0, 0, 0, 0) Q 0 [(0, .ref 38), (1, vi x), (2, vi n)] [] (hp σ) := by
  obtain ⟨⟨r0, r1, r2, r3, r4, r5, r6, r7, r8, r9⟩, rE, rS, rT, rF⟩ := id hR
  refine v_iload_n (pc := 0) dX9_set_0 rfl ?_
  refine v_i2l (pc := 1) dX9_set_1 (by omega) ?_
  refine v_lconst (pc := 2) (0) dX9_set_2 (by decide) ?_
  refine v_ldc2 (pc := 3) (2) dX9_set_3 kc_X9_134 ?_
  refine v_cSi3 (pc := 6) (d' := d - 1) dX9_set_6 kX9_isIn ml_X9_115 stX9_isIn (Nat.le_of_ble_eq_true rfl) (Nat.le_of_ble_eq_true rfl) (by omega) ⟨Nat.le_refl _, Nat.le_refl _⟩ ?_
  refine c_X9_isIn (by omega) (by omega) (by omega) ?_
  refine ⟨_, rfl, ?_⟩
  refine v_if_ne (pc := 9) 14 dX9_set_9 (by decide) (by omega) (fun h9 => ?_) (fun h9 => ?_)
  · refine v_iload_n (pc := 14) dX9_set_14 rfl ?_
    refine v_if_ne (pc := 15) 33 dX9_set_15 (by decide) (by omega) (fun h15 => ?_) (fun h15 => ?_)
    · refine v_iload_n (pc := 33) dX9_set_33 rfl ?_
      refine v_iconst (pc := 34) (1) dX9_set_34 (by decide) ?_
      refine v_icmp_ne (pc := 35) 53 dX9_set_35 (by decide) (by omega) (by omega) (fun h35 => ?_) (fun h35 => ?_)
      · refine v_iload_n (pc := 53) dX9_set_53 rfl ?_
        refine v_i2l (pc := 54) dX9_set_54 (by omega) ?_
        refine v_ldc2 (pc := 55) (50) dX9_set_55 kc_X9_136 ?_
        refine v_ldc2 (pc := 58) (100) dX9_set_58 kc_X9_138 ?_
        refine v_cSi3 (pc := 61) (d' := d - 1) dX9_set_61 kX9_isIn ml_X9_115 stX9_isIn (Nat.le_of_ble_eq_true rfl) (Nat.le_of_ble_eq_true rfl) (by omega) ⟨Nat.le_refl _, Nat.le_refl _⟩ ?_
        refine c_X9_isIn (by omega) (by omega) (by omega) ?_
        refine ⟨_, rfl, ?_⟩
        refine v_if_ne (pc := 64) 70 dX9_set_64 (by decide) (by omega) (fun h64 => ?_) (fun h64 => ?_)
        · refine v_iload_n (pc := 70) dX9_set_70 rfl ?_
          refine v_if_ne (pc := 71) 81 dX9_set_71 (by decide) (by omega) (fun h71 => ?_) (fun h71 => ?_)
          · refine v_iload_n (pc := 81) dX9_set_81 rfl ?_
            refine v_iconst (pc := 82) (1) dX9_set_82 (by decide) ?_
            refine v_icmp_ne (pc := 83) 93 dX9_set_83 (by decide) (by omega) (by omega) (fun h83 => ?_) (fun h83 => ?_)
            · refine v_aload_n (pc := 93) dX9_set_93 rfl ?_
              refine v_gI (pc := 94) dX9_set_94 fl_X9_53 rfl ?_
              refine v_istore_n (pc := 97) dX9_set_97 (by decide) ?_
              refine v_iload_n (pc := 98) dX9_set_98 rfl ?_
              refine v_if_ne (pc := 99) 110 dX9_set_99 (by decide) (by omega) (fun h99 => ?_) (fun h99 => ?_)
              · refine v_iload_n (pc := 110) dX9_set_110 rfl ?_
                refine v_iconst (pc := 111) (1) dX9_set_111 (by decide) ?_
                refine v_icmp_ne (pc := 112) 123 dX9_set_112 (by decide) (by omega) (by omega) (fun h112 => ?_) (fun h112 => ?_)
                · refine v_aload_n (pc := 123) dX9_set_123 rfl ?_
                  refine v_iload_n (pc := 124) dX9_set_124 rfl ?_
                  refine v_pI (pc := 125) dX9_set_125 fl_X9_53 rfl ?_
                  refine v_iload_n (pc := 128) dX9_set_128 rfl ?_
                  refine v_ireturn (pc := 129) dX9_set_129 rfl rfl ⟨Nat.le_refl _, Nat.le_refl _⟩ ?_
                  have hz := hQ (by omega) (by omega) (by omega) (by omega)
                  rcases (show x = 0 ∨ x = 1 ∨ x = 2 by omega) with rfl | rfl | rfl <;> first | exact hz | (exfalso; omega)
                · refine v_aload_n (pc := 115) dX9_set_115 rfl ?_
                  refine v_iload_n (pc := 116) dX9_set_116 rfl ?_
                  refine v_pI (pc := 117) dX9_set_117 fl_X9_50 rfl ?_
                  refine v_goto (pc := 120) 128 dX9_set_120 (by decide) ?_
                  refine v_iload_n (pc := 128) dX9_set_128 rfl ?_
                  refine v_ireturn (pc := 129) dX9_set_129 rfl rfl ⟨Nat.le_refl _, Nat.le_refl _⟩ ?_
                  have hz := hQ (by omega) (by omega) (by omega) (by omega)
                  rcases (show x = 0 ∨ x = 1 ∨ x = 2 by omega) with rfl | rfl | rfl <;> first | exact hz | (exfalso; omega)
              · refine v_aload_n (pc := 102) dX9_set_102 rfl ?_
                refine v_iload_n (pc := 103) dX9_set_103 rfl ?_
                refine v_pI (pc := 104) dX9_set_104 fl_X9_46 rfl ?_
                refine v_goto (pc := 107) 128 dX9_set_107 (by decide) ?_
                refine v_iload_n (pc := 128) dX9_set_128 rfl ?_
                refine v_ireturn (pc := 129) dX9_set_129 rfl rfl ⟨Nat.le_refl _, Nat.le_refl _⟩ ?_
                have hz := hQ (by omega) (by omega) (by omega) (by omega)
                rcases (show x = 0 ∨ x = 1 ∨ x = 2 by omega) with rfl | rfl | rfl <;> first | exact hz | (exfalso; omega)
            · refine v_aload_n (pc := 86) dX9_set_86 rfl ?_
              refine v_gI (pc := 87) dX9_set_87 fl_X9_50 rfl ?_
              refine v_goto (pc := 90) 97 dX9_set_90 (by decide) ?_
              refine v_istore_n (pc := 97) dX9_set_97 (by decide) ?_
              refine v_iload_n (pc := 98) dX9_set_98 rfl ?_
              refine v_if_ne (pc := 99) 110 dX9_set_99 (by decide) (by omega) (fun h99 => ?_) (fun h99 => ?_)
              · refine v_iload_n (pc := 110) dX9_set_110 rfl ?_
                refine v_iconst (pc := 111) (1) dX9_set_111 (by decide) ?_
                refine v_icmp_ne (pc := 112) 123 dX9_set_112 (by decide) (by omega) (by omega) (fun h112 => ?_) (fun h112 => ?_)
                · refine v_aload_n (pc := 123) dX9_set_123 rfl ?_
                  refine v_iload_n (pc := 124) dX9_set_124 rfl ?_
                  refine v_pI (pc := 125) dX9_set_125 fl_X9_53 rfl ?_
                  refine v_iload_n (pc := 128) dX9_set_128 rfl ?_
                  refine v_ireturn (pc := 129) dX9_set_129 rfl rfl ⟨Nat.le_refl _, Nat.le_refl _⟩ ?_
                  have hz := hQ (by omega) (by omega) (by omega) (by omega)
                  rcases (show x = 0 ∨ x = 1 ∨ x = 2 by omega) with rfl | rfl | rfl <;> first | exact hz | (exfalso; omega)
                · refine v_aload_n (pc := 115) dX9_set_115 rfl ?_
                  refine v_iload_n (pc := 116) dX9_set_116 rfl ?_
                  refine v_pI (pc := 117) dX9_set_117 fl_X9_50 rfl ?_
                  refine v_goto (pc := 120) 128 dX9_set_120 (by decide) ?_
                  refine v_iload_n (pc := 128) dX9_set_128 rfl ?_
                  refine v_ireturn (pc := 129) dX9_set_129 rfl rfl ⟨Nat.le_refl _, Nat.le_refl _⟩ ?_
                  have hz := hQ (by omega) (by omega) (by omega) (by omega)
                  rcases (show x = 0 ∨ x = 1 ∨ x = 2 by omega) with rfl | rfl | rfl <;> first | exact hz | (exfalso; omega)
              · refine v_aload_n (pc := 102) dX9_set_102 rfl ?_
                refine v_iload_n (pc := 103) dX9_set_103 rfl ?_
                refine v_pI (pc := 104) dX9_set_104 fl_X9_46 rfl ?_
                refine v_goto (pc := 107) 128 dX9_set_107 (by decide) ?_
                refine v_iload_n (pc := 128) dX9_set_128 rfl ?_
                refine v_ireturn (pc := 129) dX9_set_129 rfl rfl ⟨Nat.le_refl _, Nat.le_refl _⟩ ?_
                have hz := hQ (by omega) (by omega) (by omega) (by omega)
                rcases (show x = 0 ∨ x = 1 ∨ x = 2 by omega) with rfl | rfl | rfl <;> first | exact hz | (exfalso; omega)
          · refine v_aload_n (pc := 74) dX9_set_74 rfl ?_
            refine v_gI (pc := 75) dX9_set_75 fl_X9_46 rfl ?_
            refine v_goto (pc := 78) 97 dX9_set_78 (by decide) ?_
            refine v_istore_n (pc := 97) dX9_set_97 (by decide) ?_
            refine v_iload_n (pc := 98) dX9_set_98 rfl ?_
            refine v_if_ne (pc := 99) 110 dX9_set_99 (by decide) (by omega) (fun h99 => ?_) (fun h99 => ?_)
            · refine v_iload_n (pc := 110) dX9_set_110 rfl ?_
              refine v_iconst (pc := 111) (1) dX9_set_111 (by decide) ?_
              refine v_icmp_ne (pc := 112) 123 dX9_set_112 (by decide) (by omega) (by omega) (fun h112 => ?_) (fun h112 => ?_)
              · refine v_aload_n (pc := 123) dX9_set_123 rfl ?_
                refine v_iload_n (pc := 124) dX9_set_124 rfl ?_
                refine v_pI (pc := 125) dX9_set_125 fl_X9_53 rfl ?_
                refine v_iload_n (pc := 128) dX9_set_128 rfl ?_
                refine v_ireturn (pc := 129) dX9_set_129 rfl rfl ⟨Nat.le_refl _, Nat.le_refl _⟩ ?_
                have hz := hQ (by omega) (by omega) (by omega) (by omega)
                rcases (show x = 0 ∨ x = 1 ∨ x = 2 by omega) with rfl | rfl | rfl <;> first | exact hz | (exfalso; omega)
              · refine v_aload_n (pc := 115) dX9_set_115 rfl ?_
                refine v_iload_n (pc := 116) dX9_set_116 rfl ?_
                refine v_pI (pc := 117) dX9_set_117 fl_X9_50 rfl ?_
                refine v_goto (pc := 120) 128 dX9_set_120 (by decide) ?_
                refine v_iload_n (pc := 128) dX9_set_128 rfl ?_
                refine v_ireturn (pc := 129) dX9_set_129 rfl rfl ⟨Nat.le_refl _, Nat.le_refl _⟩ ?_
                have hz := hQ (by omega) (by omega) (by omega) (by omega)
                rcases (show x = 0 ∨ x = 1 ∨ x = 2 by omega) with rfl | rfl | rfl <;> first | exact hz | (exfalso; omega)
            · refine v_aload_n (pc := 102) dX9_set_102 rfl ?_
              refine v_iload_n (pc := 103) dX9_set_103 rfl ?_
              refine v_pI (pc := 104) dX9_set_104 fl_X9_46 rfl ?_
              refine v_goto (pc := 107) 128 dX9_set_107 (by decide) ?_
              refine v_iload_n (pc := 128) dX9_set_128 rfl ?_
              refine v_ireturn (pc := 129) dX9_set_129 rfl rfl ⟨Nat.le_refl _, Nat.le_refl _⟩ ?_
              have hz := hQ (by omega) (by omega) (by omega) (by omega)
              rcases (show x = 0 ∨ x = 1 ∨ x = 2 by omega) with rfl | rfl | rfl <;> first | exact hz | (exfalso; omega)
        · refine v_bipush (pc := 67) (-2) dX9_set_67 (by decide) ?_
          refine v_ireturn (pc := 69) dX9_set_69 rfl rfl ⟨Nat.le_refl _, Nat.le_refl _⟩ ?_
          exact hB (by omega) (by omega) (by omega)
      · refine v_iload_n (pc := 38) dX9_set_38 rfl ?_
        refine v_i2l (pc := 39) dX9_set_39 (by omega) ?_
        refine v_lconst (pc := 40) (1) dX9_set_40 (by decide) ?_
        refine v_ldc2 (pc := 41) (50) dX9_set_41 kc_X9_136 ?_
        refine v_cSi3 (pc := 44) (d' := d - 1) dX9_set_44 kX9_isIn ml_X9_115 stX9_isIn (Nat.le_of_ble_eq_true rfl) (Nat.le_of_ble_eq_true rfl) (by omega) ⟨Nat.le_refl _, Nat.le_refl _⟩ ?_
        refine c_X9_isIn (by omega) (by omega) (by omega) ?_
        refine ⟨_, rfl, ?_⟩
        refine v_if_ne (pc := 47) 70 dX9_set_47 (by decide) (by omega) (fun h47 => ?_) (fun h47 => ?_)
        · refine v_iload_n (pc := 70) dX9_set_70 rfl ?_
          refine v_if_ne (pc := 71) 81 dX9_set_71 (by decide) (by omega) (fun h71 => ?_) (fun h71 => ?_)
          · refine v_iload_n (pc := 81) dX9_set_81 rfl ?_
            refine v_iconst (pc := 82) (1) dX9_set_82 (by decide) ?_
            refine v_icmp_ne (pc := 83) 93 dX9_set_83 (by decide) (by omega) (by omega) (fun h83 => ?_) (fun h83 => ?_)
            · refine v_aload_n (pc := 93) dX9_set_93 rfl ?_
              refine v_gI (pc := 94) dX9_set_94 fl_X9_53 rfl ?_
              refine v_istore_n (pc := 97) dX9_set_97 (by decide) ?_
              refine v_iload_n (pc := 98) dX9_set_98 rfl ?_
              refine v_if_ne (pc := 99) 110 dX9_set_99 (by decide) (by omega) (fun h99 => ?_) (fun h99 => ?_)
              · refine v_iload_n (pc := 110) dX9_set_110 rfl ?_
                refine v_iconst (pc := 111) (1) dX9_set_111 (by decide) ?_
                refine v_icmp_ne (pc := 112) 123 dX9_set_112 (by decide) (by omega) (by omega) (fun h112 => ?_) (fun h112 => ?_)
                · refine v_aload_n (pc := 123) dX9_set_123 rfl ?_
                  refine v_iload_n (pc := 124) dX9_set_124 rfl ?_
                  refine v_pI (pc := 125) dX9_set_125 fl_X9_53 rfl ?_
                  refine v_iload_n (pc := 128) dX9_set_128 rfl ?_
                  refine v_ireturn (pc := 129) dX9_set_129 rfl rfl ⟨Nat.le_refl _, Nat.le_refl _⟩ ?_
                  have hz := hQ (by omega) (by omega) (by omega) (by omega)
                  rcases (show x = 0 ∨ x = 1 ∨ x = 2 by omega) with rfl | rfl | rfl <;> first | exact hz | (exfalso; omega)
                · refine v_aload_n (pc := 115) dX9_set_115 rfl ?_
                  refine v_iload_n (pc := 116) dX9_set_116 rfl ?_
                  refine v_pI (pc := 117) dX9_set_117 fl_X9_50 rfl ?_
                  refine v_goto (pc := 120) 128 dX9_set_120 (by decide) ?_
                  refine v_iload_n (pc := 128) dX9_set_128 rfl ?_
                  refine v_ireturn (pc := 129) dX9_set_129 rfl rfl ⟨Nat.le_refl _, Nat.le_refl _⟩ ?_
                  have hz := hQ (by omega) (by omega) (by omega) (by omega)
                  rcases (show x = 0 ∨ x = 1 ∨ x = 2 by omega) with rfl | rfl | rfl <;> first | exact hz | (exfalso; omega)
              · refine v_aload_n (pc := 102) dX9_set_102 rfl ?_
                refine v_iload_n (pc := 103) dX9_set_103 rfl ?_
                refine v_pI (pc := 104) dX9_set_104 fl_X9_46 rfl ?_
                refine v_goto (pc := 107) 128 dX9_set_107 (by decide) ?_
                refine v_iload_n (pc := 128) dX9_set_128 rfl ?_
                refine v_ireturn (pc := 129) dX9_set_129 rfl rfl ⟨Nat.le_refl _, Nat.le_refl _⟩ ?_
                have hz := hQ (by omega) (by omega) (by omega) (by omega)
                rcases (show x = 0 ∨ x = 1 ∨ x = 2 by omega) with rfl | rfl | rfl <;> first | exact hz | (exfalso; omega)
            · refine v_aload_n (pc := 86) dX9_set_86 rfl ?_
              refine v_gI (pc := 87) dX9_set_87 fl_X9_50 rfl ?_
              refine v_goto (pc := 90) 97 dX9_set_90 (by decide) ?_
              refine v_istore_n (pc := 97) dX9_set_97 (by decide) ?_
              refine v_iload_n (pc := 98) dX9_set_98 rfl ?_
              refine v_if_ne (pc := 99) 110 dX9_set_99 (by decide) (by omega) (fun h99 => ?_) (fun h99 => ?_)
              · refine v_iload_n (pc := 110) dX9_set_110 rfl ?_
                refine v_iconst (pc := 111) (1) dX9_set_111 (by decide) ?_
                refine v_icmp_ne (pc := 112) 123 dX9_set_112 (by decide) (by omega) (by omega) (fun h112 => ?_) (fun h112 => ?_)
                · refine v_aload_n (pc := 123) dX9_set_123 rfl ?_
                  refine v_iload_n (pc := 124) dX9_set_124 rfl ?_
                  refine v_pI (pc := 125) dX9_set_125 fl_X9_53 rfl ?_
                  refine v_iload_n (pc := 128) dX9_set_128 rfl ?_
                  refine v_ireturn (pc := 129) dX9_set_129 rfl rfl ⟨Nat.le_refl _, Nat.le_refl _⟩ ?_
                  have hz := hQ (by omega) (by omega) (by omega) (by omega)
                  rcases (show x = 0 ∨ x = 1 ∨ x = 2 by omega) with rfl | rfl | rfl <;> first | exact hz | (exfalso; omega)
                · refine v_aload_n (pc := 115) dX9_set_115 rfl ?_
                  refine v_iload_n (pc := 116) dX9_set_116 rfl ?_
                  refine v_pI (pc := 117) dX9_set_117 fl_X9_50 rfl ?_
                  refine v_goto (pc := 120) 128 dX9_set_120 (by decide) ?_
                  refine v_iload_n (pc := 128) dX9_set_128 rfl ?_
                  refine v_ireturn (pc := 129) dX9_set_129 rfl rfl ⟨Nat.le_refl _, Nat.le_refl _⟩ ?_
                  have hz := hQ (by omega) (by omega) (by omega) (by omega)
                  rcases (show x = 0 ∨ x = 1 ∨ x = 2 by omega) with rfl | rfl | rfl <;> first | exact hz | (exfalso; omega)
              · refine v_aload_n (pc := 102) dX9_set_102 rfl ?_
                refine v_iload_n (pc := 103) dX9_set_103 rfl ?_
                refine v_pI (pc := 104) dX9_set_104 fl_X9_46 rfl ?_
                refine v_goto (pc := 107) 128 dX9_set_107 (by decide) ?_
                refine v_iload_n (pc := 128) dX9_set_128 rfl ?_
                refine v_ireturn (pc := 129) dX9_set_129 rfl rfl ⟨Nat.le_refl _, Nat.le_refl _⟩ ?_
                have hz := hQ (by omega) (by omega) (by omega) (by omega)
                rcases (show x = 0 ∨ x = 1 ∨ x = 2 by omega) with rfl | rfl | rfl <;> first | exact hz | (exfalso; omega)
          · refine v_aload_n (pc := 74) dX9_set_74 rfl ?_
            refine v_gI (pc := 75) dX9_set_75 fl_X9_46 rfl ?_
            refine v_goto (pc := 78) 97 dX9_set_78 (by decide) ?_
            refine v_istore_n (pc := 97) dX9_set_97 (by decide) ?_
            refine v_iload_n (pc := 98) dX9_set_98 rfl ?_
            refine v_if_ne (pc := 99) 110 dX9_set_99 (by decide) (by omega) (fun h99 => ?_) (fun h99 => ?_)
            · refine v_iload_n (pc := 110) dX9_set_110 rfl ?_
              refine v_iconst (pc := 111) (1) dX9_set_111 (by decide) ?_
              refine v_icmp_ne (pc := 112) 123 dX9_set_112 (by decide) (by omega) (by omega) (fun h112 => ?_) (fun h112 => ?_)
              · refine v_aload_n (pc := 123) dX9_set_123 rfl ?_
                refine v_iload_n (pc := 124) dX9_set_124 rfl ?_
                refine v_pI (pc := 125) dX9_set_125 fl_X9_53 rfl ?_
                refine v_iload_n (pc := 128) dX9_set_128 rfl ?_
                refine v_ireturn (pc := 129) dX9_set_129 rfl rfl ⟨Nat.le_refl _, Nat.le_refl _⟩ ?_
                have hz := hQ (by omega) (by omega) (by omega) (by omega)
                rcases (show x = 0 ∨ x = 1 ∨ x = 2 by omega) with rfl | rfl | rfl <;> first | exact hz | (exfalso; omega)
              · refine v_aload_n (pc := 115) dX9_set_115 rfl ?_
                refine v_iload_n (pc := 116) dX9_set_116 rfl ?_
                refine v_pI (pc := 117) dX9_set_117 fl_X9_50 rfl ?_
                refine v_goto (pc := 120) 128 dX9_set_120 (by decide) ?_
                refine v_iload_n (pc := 128) dX9_set_128 rfl ?_
                refine v_ireturn (pc := 129) dX9_set_129 rfl rfl ⟨Nat.le_refl _, Nat.le_refl _⟩ ?_
                have hz := hQ (by omega) (by omega) (by omega) (by omega)
                rcases (show x = 0 ∨ x = 1 ∨ x = 2 by omega) with rfl | rfl | rfl <;> first | exact hz | (exfalso; omega)
            · refine v_aload_n (pc := 102) dX9_set_102 rfl ?_
              refine v_iload_n (pc := 103) dX9_set_103 rfl ?_
              refine v_pI (pc := 104) dX9_set_104 fl_X9_46 rfl ?_
              refine v_goto (pc := 107) 128 dX9_set_107 (by decide) ?_
              refine v_iload_n (pc := 128) dX9_set_128 rfl ?_
              refine v_ireturn (pc := 129) dX9_set_129 rfl rfl ⟨Nat.le_refl _, Nat.le_refl _⟩ ?_
              have hz := hQ (by omega) (by omega) (by omega) (by omega)
              rcases (show x = 0 ∨ x = 1 ∨ x = 2 by omega) with rfl | rfl | rfl <;> first | exact hz | (exfalso; omega)
        · refine v_goto (pc := 50) 67 dX9_set_50 (by decide) ?_
          refine v_bipush (pc := 67) (-2) dX9_set_67 (by decide) ?_
          refine v_ireturn (pc := 69) dX9_set_69 rfl rfl ⟨Nat.le_refl _, Nat.le_refl _⟩ ?_
          exact hB (by omega) (by omega) (by omega)
    · refine v_iload_n (pc := 18) dX9_set_18 rfl ?_
      refine v_i2l (pc := 19) dX9_set_19 (by omega) ?_
      refine v_lconst (pc := 20) (0) dX9_set_20 (by decide) ?_
      refine v_ldc2 (pc := 21) (999) dX9_set_21 kc_X9_113 ?_
      refine v_cSi3 (pc := 24) (d' := d - 1) dX9_set_24 kX9_isIn ml_X9_115 stX9_isIn (Nat.le_of_ble_eq_true rfl) (Nat.le_of_ble_eq_true rfl) (by omega) ⟨Nat.le_refl _, Nat.le_refl _⟩ ?_
      refine c_X9_isIn (by omega) (by omega) (by omega) ?_
      refine ⟨_, rfl, ?_⟩
      refine v_if_ne (pc := 27) 70 dX9_set_27 (by decide) (by omega) (fun h27 => ?_) (fun h27 => ?_)
      · refine v_iload_n (pc := 70) dX9_set_70 rfl ?_
        refine v_if_ne (pc := 71) 81 dX9_set_71 (by decide) (by omega) (fun h71 => ?_) (fun h71 => ?_)
        · refine v_iload_n (pc := 81) dX9_set_81 rfl ?_
          refine v_iconst (pc := 82) (1) dX9_set_82 (by decide) ?_
          refine v_icmp_ne (pc := 83) 93 dX9_set_83 (by decide) (by omega) (by omega) (fun h83 => ?_) (fun h83 => ?_)
          · refine v_aload_n (pc := 93) dX9_set_93 rfl ?_
            refine v_gI (pc := 94) dX9_set_94 fl_X9_53 rfl ?_
            refine v_istore_n (pc := 97) dX9_set_97 (by decide) ?_
            refine v_iload_n (pc := 98) dX9_set_98 rfl ?_
            refine v_if_ne (pc := 99) 110 dX9_set_99 (by decide) (by omega) (fun h99 => ?_) (fun h99 => ?_)
            · refine v_iload_n (pc := 110) dX9_set_110 rfl ?_
              refine v_iconst (pc := 111) (1) dX9_set_111 (by decide) ?_
              refine v_icmp_ne (pc := 112) 123 dX9_set_112 (by decide) (by omega) (by omega) (fun h112 => ?_) (fun h112 => ?_)
              · refine v_aload_n (pc := 123) dX9_set_123 rfl ?_
                refine v_iload_n (pc := 124) dX9_set_124 rfl ?_
                refine v_pI (pc := 125) dX9_set_125 fl_X9_53 rfl ?_
                refine v_iload_n (pc := 128) dX9_set_128 rfl ?_
                refine v_ireturn (pc := 129) dX9_set_129 rfl rfl ⟨Nat.le_refl _, Nat.le_refl _⟩ ?_
                have hz := hQ (by omega) (by omega) (by omega) (by omega)
                rcases (show x = 0 ∨ x = 1 ∨ x = 2 by omega) with rfl | rfl | rfl <;> first | exact hz | (exfalso; omega)
              · refine v_aload_n (pc := 115) dX9_set_115 rfl ?_
                refine v_iload_n (pc := 116) dX9_set_116 rfl ?_
                refine v_pI (pc := 117) dX9_set_117 fl_X9_50 rfl ?_
                refine v_goto (pc := 120) 128 dX9_set_120 (by decide) ?_
                refine v_iload_n (pc := 128) dX9_set_128 rfl ?_
                refine v_ireturn (pc := 129) dX9_set_129 rfl rfl ⟨Nat.le_refl _, Nat.le_refl _⟩ ?_
                have hz := hQ (by omega) (by omega) (by omega) (by omega)
                rcases (show x = 0 ∨ x = 1 ∨ x = 2 by omega) with rfl | rfl | rfl <;> first | exact hz | (exfalso; omega)
            · refine v_aload_n (pc := 102) dX9_set_102 rfl ?_
              refine v_iload_n (pc := 103) dX9_set_103 rfl ?_
              refine v_pI (pc := 104) dX9_set_104 fl_X9_46 rfl ?_
              refine v_goto (pc := 107) 128 dX9_set_107 (by decide) ?_
              refine v_iload_n (pc := 128) dX9_set_128 rfl ?_
              refine v_ireturn (pc := 129) dX9_set_129 rfl rfl ⟨Nat.le_refl _, Nat.le_refl _⟩ ?_
              have hz := hQ (by omega) (by omega) (by omega) (by omega)
              rcases (show x = 0 ∨ x = 1 ∨ x = 2 by omega) with rfl | rfl | rfl <;> first | exact hz | (exfalso; omega)
          · refine v_aload_n (pc := 86) dX9_set_86 rfl ?_
            refine v_gI (pc := 87) dX9_set_87 fl_X9_50 rfl ?_
            refine v_goto (pc := 90) 97 dX9_set_90 (by decide) ?_
            refine v_istore_n (pc := 97) dX9_set_97 (by decide) ?_
            refine v_iload_n (pc := 98) dX9_set_98 rfl ?_
            refine v_if_ne (pc := 99) 110 dX9_set_99 (by decide) (by omega) (fun h99 => ?_) (fun h99 => ?_)
            · refine v_iload_n (pc := 110) dX9_set_110 rfl ?_
              refine v_iconst (pc := 111) (1) dX9_set_111 (by decide) ?_
              refine v_icmp_ne (pc := 112) 123 dX9_set_112 (by decide) (by omega) (by omega) (fun h112 => ?_) (fun h112 => ?_)
              · refine v_aload_n (pc := 123) dX9_set_123 rfl ?_
                refine v_iload_n (pc := 124) dX9_set_124 rfl ?_
                refine v_pI (pc := 125) dX9_set_125 fl_X9_53 rfl ?_
                refine v_iload_n (pc := 128) dX9_set_128 rfl ?_
                refine v_ireturn (pc := 129) dX9_set_129 rfl rfl ⟨Nat.le_refl _, Nat.le_refl _⟩ ?_
                have hz := hQ (by omega) (by omega) (by omega) (by omega)
                rcases (show x = 0 ∨ x = 1 ∨ x = 2 by omega) with rfl | rfl | rfl <;> first | exact hz | (exfalso; omega)
              · refine v_aload_n (pc := 115) dX9_set_115 rfl ?_
                refine v_iload_n (pc := 116) dX9_set_116 rfl ?_
                refine v_pI (pc := 117) dX9_set_117 fl_X9_50 rfl ?_
                refine v_goto (pc := 120) 128 dX9_set_120 (by decide) ?_
                refine v_iload_n (pc := 128) dX9_set_128 rfl ?_
                refine v_ireturn (pc := 129) dX9_set_129 rfl rfl ⟨Nat.le_refl _, Nat.le_refl _⟩ ?_
                have hz := hQ (by omega) (by omega) (by omega) (by omega)
                rcases (show x = 0 ∨ x = 1 ∨ x = 2 by omega) with rfl | rfl | rfl <;> first | exact hz | (exfalso; omega)
            · refine v_aload_n (pc := 102) dX9_set_102 rfl ?_
              refine v_iload_n (pc := 103) dX9_set_103 rfl ?_
              refine v_pI (pc := 104) dX9_set_104 fl_X9_46 rfl ?_
              refine v_goto (pc := 107) 128 dX9_set_107 (by decide) ?_
              refine v_iload_n (pc := 128) dX9_set_128 rfl ?_
              refine v_ireturn (pc := 129) dX9_set_129 rfl rfl ⟨Nat.le_refl _, Nat.le_refl _⟩ ?_
              have hz := hQ (by omega) (by omega) (by omega) (by omega)
              rcases (show x = 0 ∨ x = 1 ∨ x = 2 by omega) with rfl | rfl | rfl <;> first | exact hz | (exfalso; omega)
        · refine v_aload_n (pc := 74) dX9_set_74 rfl ?_
          refine v_gI (pc := 75) dX9_set_75 fl_X9_46 rfl ?_
          refine v_goto (pc := 78) 97 dX9_set_78 (by decide) ?_
          refine v_istore_n (pc := 97) dX9_set_97 (by decide) ?_
          refine v_iload_n (pc := 98) dX9_set_98 rfl ?_
          refine v_if_ne (pc := 99) 110 dX9_set_99 (by decide) (by omega) (fun h99 => ?_) (fun h99 => ?_)
          · refine v_iload_n (pc := 110) dX9_set_110 rfl ?_
            refine v_iconst (pc := 111) (1) dX9_set_111 (by decide) ?_
            refine v_icmp_ne (pc := 112) 123 dX9_set_112 (by decide) (by omega) (by omega) (fun h112 => ?_) (fun h112 => ?_)
            · refine v_aload_n (pc := 123) dX9_set_123 rfl ?_
              refine v_iload_n (pc := 124) dX9_set_124 rfl ?_
              refine v_pI (pc := 125) dX9_set_125 fl_X9_53 rfl ?_
              refine v_iload_n (pc := 128) dX9_set_128 rfl ?_
              refine v_ireturn (pc := 129) dX9_set_129 rfl rfl ⟨Nat.le_refl _, Nat.le_refl _⟩ ?_
              have hz := hQ (by omega) (by omega) (by omega) (by omega)
              rcases (show x = 0 ∨ x = 1 ∨ x = 2 by omega) with rfl | rfl | rfl <;> first | exact hz | (exfalso; omega)
            · refine v_aload_n (pc := 115) dX9_set_115 rfl ?_
              refine v_iload_n (pc := 116) dX9_set_116 rfl ?_
              refine v_pI (pc := 117) dX9_set_117 fl_X9_50 rfl ?_
              refine v_goto (pc := 120) 128 dX9_set_120 (by decide) ?_
              refine v_iload_n (pc := 128) dX9_set_128 rfl ?_
              refine v_ireturn (pc := 129) dX9_set_129 rfl rfl ⟨Nat.le_refl _, Nat.le_refl _⟩ ?_
              have hz := hQ (by omega) (by omega) (by omega) (by omega)
              rcases (show x = 0 ∨ x = 1 ∨ x = 2 by omega) with rfl | rfl | rfl <;> first | exact hz | (exfalso; omega)
          · refine v_aload_n (pc := 102) dX9_set_102 rfl ?_
            refine v_iload_n (pc := 103) dX9_set_103 rfl ?_
            refine v_pI (pc := 104) dX9_set_104 fl_X9_46 rfl ?_
            refine v_goto (pc := 107) 128 dX9_set_107 (by decide) ?_
            refine v_iload_n (pc := 128) dX9_set_128 rfl ?_
            refine v_ireturn (pc := 129) dX9_set_129 rfl rfl ⟨Nat.le_refl _, Nat.le_refl _⟩ ?_
            have hz := hQ (by omega) (by omega) (by omega) (by omega)
            rcases (show x = 0 ∨ x = 1 ∨ x = 2 by omega) with rfl | rfl | rfl <;> first | exact hz | (exfalso; omega)
      · refine v_goto (pc := 30) 67 dX9_set_30 (by decide) ?_
        refine v_bipush (pc := 67) (-2) dX9_set_67 (by decide) ?_
        refine v_ireturn (pc := 69) dX9_set_69 rfl rfl ⟨Nat.le_refl _, Nat.le_refl _⟩ ?_
        exact hB (by omega) (by omega) (by omega)
  · refine v_iconst (pc := 12) (-1) dX9_set_12 (by decide) ?_
    refine v_ireturn (pc := 13) dX9_set_13 rfl rfl ⟨Nat.le_refl _, Nat.le_refl _⟩ ?_
    exact hN (by omega)
theorem mAbout_out {σ : vSt} {k : Nat} {wh : Int} (h : wh < 0 ∨ 8 < wh) : yAbout (mY σ) k wh = -1 := yAbout_out h
set_option maxHeartbeats 4000000 in
set_option maxRecDepth 100000 in
theorem c_X9_about {g : vGl} {d : Nat} {Q : Option Value → List mC → Prop} {σ : vSt} (hd : 6 ≤ d) (hR : MR σ) {x wh : Int} (hx : vr x) (hw : vr wh) (hN : ¬ (0 ≤ x ∧ x < σ 38 13) → Q (some (vi (-1))) (hp σ)) (hQ : 0 ≤ x → x < σ 38 13 → Q (some (vi (yAbout (mY σ) x.toNat wh))) (hp σ)) : V g mX9_about d (0, 0, 0, 0) Q 0 [(0, .ref 38), (1, vi x), (2, vi wh)] [] (hp σ) := by
  obtain ⟨⟨r0, r1, r2, r3, r4, r5, r6, r7, r8, r9⟩, rE, rS, rT, rF⟩ := id hR
  have s1 := rS x.toNat
  have s2 := rE (σ 45 x.toNat).toNat
  refine v_aload_n (pc := 0) dX9_about_0 rfl ?_
  refine v_iload_n (pc := 1) dX9_about_1 rfl ?_
  refine v_cVi1 (pc := 2) (z := 0) (d' := d - 1) dX9_about_2 kX9_isStage ml_X9_131 iwX9_isStage swX9_isStage rfl rfl (Nat.le_of_ble_eq_true rfl) (Nat.le_of_ble_eq_true rfl) (by omega) ⟨Nat.le_refl _, Nat.le_refl _⟩ ?_
  refine c_X9_isStage (by omega) (by omega) ?_
  refine ⟨_, rfl, ?_⟩
  refine v_if_ne (pc := 5) 10 dX9_about_5 (by decide) (by omega) (fun h5 => ?_) (fun h5 => ?_)
  · refine v_iload_n (pc := 10) dX9_about_10 rfl ?_
    rcases (show (wh < 0 ∨ 8 < wh) ∨ wh = 0 ∨ wh = 1 ∨ wh = 2 ∨ wh = 3 ∨ wh = 4 ∨ wh = 5 ∨ wh = 6 ∨ wh = 7 ∨ wh = 8 by omega) with hsw | rfl | rfl | rfl | rfl | rfl | rfl | rfl | rfl | rfl
    · refine v_tableOut (pc := 11) 144 dX9_about_11 (by omega) hsw (by decide) ?_
      refine v_iconst (pc := 144) (-1) dX9_about_144 (by decide) ?_
      refine v_ireturn (pc := 145) dX9_about_145 rfl rfl ⟨Nat.le_refl _, Nat.le_refl _⟩ ?_
      rw [yAbout_out hsw] at hQ; exact hQ (by omega) (by omega)
    · refine v_tableIn (pc := 11) 60 dX9_about_11 (by decide) (by decide) (by decide) rfl (by decide) ?_
      refine v_aload_n (pc := 60) dX9_about_60 rfl ?_
      refine v_gR (pc := 61) dX9_about_61 fl_X9_28 rfl ?_
      refine v_iload_n (pc := 64) dX9_about_64 rfl ?_
      refine v_aI (pc := 65) dX9_about_65 rfl rfl (by omega) (by omega) ?_
      refine v_ireturn (pc := 66) dX9_about_66 rfl rfl ⟨Nat.le_refl _, Nat.le_refl _⟩ ?_
      exact hQ (by omega) (by omega)
    · refine v_tableIn (pc := 11) 67 dX9_about_11 (by decide) (by decide) (by decide) rfl (by decide) ?_
      refine v_aload_n (pc := 67) dX9_about_67 rfl ?_
      refine v_gR (pc := 68) dX9_about_68 fl_X9_31 rfl ?_
      refine v_iload_n (pc := 71) dX9_about_71 rfl ?_
      refine v_aI (pc := 72) dX9_about_72 rfl rfl (by omega) (by omega) ?_
      refine v_ireturn (pc := 73) dX9_about_73 rfl rfl ⟨Nat.le_refl _, Nat.le_refl _⟩ ?_
      exact hQ (by omega) (by omega)
    · refine v_tableIn (pc := 11) 74 dX9_about_11 (by decide) (by decide) (by decide) rfl (by decide) ?_
      refine v_aload_n (pc := 74) dX9_about_74 rfl ?_
      refine v_gR (pc := 75) dX9_about_75 fl_X9_34 rfl ?_
      refine v_iload_n (pc := 78) dX9_about_78 rfl ?_
      refine v_aI (pc := 79) dX9_about_79 rfl rfl (by omega) (by omega) ?_
      refine v_ireturn (pc := 80) dX9_about_80 rfl rfl ⟨Nat.le_refl _, Nat.le_refl _⟩ ?_
      exact hQ (by omega) (by omega)
    · refine v_tableIn (pc := 11) 81 dX9_about_11 (by decide) (by decide) (by decide) rfl (by decide) ?_
      refine v_aload_n (pc := 81) dX9_about_81 rfl ?_
      refine v_gR (pc := 82) dX9_about_82 fl_X9_37 rfl ?_
      refine v_iload_n (pc := 85) dX9_about_85 rfl ?_
      refine v_aI (pc := 86) dX9_about_86 rfl rfl (by omega) (by omega) ?_
      refine v_ireturn (pc := 87) dX9_about_87 rfl rfl ⟨Nat.le_refl _, Nat.le_refl _⟩ ?_
      exact hQ (by omega) (by omega)
    · refine v_tableIn (pc := 11) 88 dX9_about_11 (by decide) (by decide) (by decide) rfl (by decide) ?_
      refine v_aload_n (pc := 88) dX9_about_88 rfl ?_
      refine v_iload_n (pc := 89) dX9_about_89 rfl ?_
      refine v_cVi1 (pc := 90) (z := 0) (d' := d - 1) dX9_about_90 kX9_dry ml_X9_144 iwX9_dry swX9_dry rfl rfl (Nat.le_of_ble_eq_true rfl) (Nat.le_of_ble_eq_true rfl) (by omega) ⟨Nat.le_refl _, Nat.le_refl _⟩ ?_
      refine c_X9_dry (k := x.toNat) (by omega) hR (by omega) (by omega) ?_
      refine ⟨_, rfl, ?_⟩
      refine v_ireturn (pc := 93) dX9_about_93 rfl rfl ⟨Nat.le_refl _, Nat.le_refl _⟩ ?_
      exact hQ (by omega) (by omega)
    · refine v_tableIn (pc := 11) 94 dX9_about_11 (by decide) (by decide) (by decide) rfl (by decide) ?_
      refine v_aload_n (pc := 94) dX9_about_94 rfl ?_
      refine v_iload_n (pc := 95) dX9_about_95 rfl ?_
      refine v_cVi1 (pc := 96) (z := 0) (d' := d - 1) dX9_about_96 kX9_ahead ml_X9_150 iwX9_ahead swX9_ahead rfl rfl (Nat.le_of_ble_eq_true rfl) (Nat.le_of_ble_eq_true rfl) (by omega) ⟨Nat.le_refl _, Nat.le_refl _⟩ ?_
      refine c_X9_ahead (k := x.toNat) (by omega) hR (by omega) (by omega) ?_
      refine ⟨_, rfl, ?_⟩
      refine v_ireturn (pc := 99) dX9_about_99 rfl rfl ⟨Nat.le_refl _, Nat.le_refl _⟩ ?_
      exact hQ (by omega) (by omega)
    · refine v_tableIn (pc := 11) 100 dX9_about_11 (by decide) (by decide) (by decide) rfl (by decide) ?_
      refine v_aload_n (pc := 100) dX9_about_100 rfl ?_
      refine v_iload_n (pc := 101) dX9_about_101 rfl ?_
      refine v_iconst (pc := 102) (0) dX9_about_102 (by decide) ?_
      refine v_cVl2 (pc := 103) (z := 0) (d' := d - 1) dX9_about_103 kX9_speedOf ml_X9_160 iwX9_speedOf swX9_speedOf rfl rfl (Nat.le_of_ble_eq_true rfl) (Nat.le_of_ble_eq_true rfl) (by omega) ⟨Nat.le_refl _, Nat.le_refl _⟩ ?_
      refine c_X9_speedOf (k := x.toNat) (by omega) hR (by omega) (by omega) (by omega) ?_
      refine ⟨_, rfl, ?_⟩
      refine v_l2i (pc := 106) dX9_about_106 ?_
      refine v_ireturn (pc := 107) dX9_about_107 rfl rfl ⟨Nat.le_refl _, Nat.le_refl _⟩ ?_
      exact hQ (by omega) (by omega)
    · refine v_tableIn (pc := 11) 108 dX9_about_11 (by decide) (by decide) (by decide) rfl (by decide) ?_
      refine v_aload_n (pc := 108) dX9_about_108 rfl ?_
      refine v_iload_n (pc := 109) dX9_about_109 rfl ?_
      refine v_iconst (pc := 110) (1) dX9_about_110 (by decide) ?_
      refine v_cVl2 (pc := 111) (z := 0) (d' := d - 1) dX9_about_111 kX9_speedOf ml_X9_160 iwX9_speedOf swX9_speedOf rfl rfl (Nat.le_of_ble_eq_true rfl) (Nat.le_of_ble_eq_true rfl) (by omega) ⟨Nat.le_refl _, Nat.le_refl _⟩ ?_
      refine c_X9_speedOf (k := x.toNat) (by omega) hR (by omega) (by omega) (by omega) ?_
      refine ⟨_, rfl, ?_⟩
      refine v_l2i (pc := 114) dX9_about_114 ?_
      refine v_ireturn (pc := 115) dX9_about_115 rfl rfl ⟨Nat.le_refl _, Nat.le_refl _⟩ ?_
      exact hQ (by omega) (by omega)
    · refine v_tableIn (pc := 11) 116 dX9_about_11 (by decide) (by decide) (by decide) rfl (by decide) ?_
      refine v_bipush (pc := 116) (100) dX9_about_116 (by decide) ?_
      refine v_aload_n (pc := 118) dX9_about_118 rfl ?_
      refine v_gR (pc := 119) dX9_about_119 fl_X9_7 rfl ?_
      refine v_aload_n (pc := 122) dX9_about_122 rfl ?_
      refine v_gR (pc := 123) dX9_about_123 fl_X9_28 rfl ?_
      refine v_iload_n (pc := 126) dX9_about_126 rfl ?_
      refine v_aI (pc := 127) dX9_about_127 rfl rfl (by omega) (by omega) ?_
      refine v_aI (pc := 128) dX9_about_128 rfl rfl (by omega) (by omega) ?_
      refine v_imul (pc := 129) dX9_about_129 ?_
      refine v_aload_n (pc := 130) dX9_about_130 rfl ?_
      refine v_gR (pc := 131) dX9_about_131 fl_X9_31 rfl ?_
      refine v_iload_n (pc := 134) dX9_about_134 rfl ?_
      refine v_aI (pc := 135) dX9_about_135 rfl rfl (by omega) (by omega) ?_
      refine v_imul (pc := 136) dX9_about_136 ?_
      refine v_aload_n (pc := 137) dX9_about_137 rfl ?_
      refine v_iload_n (pc := 138) dX9_about_138 rfl ?_
      refine v_cVi1 (pc := 139) (z := 0) (d' := d - 1) dX9_about_139 kX9_ahead ml_X9_150 iwX9_ahead swX9_ahead rfl rfl (Nat.le_of_ble_eq_true rfl) (Nat.le_of_ble_eq_true rfl) (by omega) ⟨Nat.le_refl _, Nat.le_refl _⟩ ?_
      have s3 := hR.y.mass1 (k := x.toNat) (show ((x.toNat : Nat) : Int) < σ 38 13 by omega)
      have s4 := hR.y.mass x.toNat
      have e3 : mY σ 13 x.toNat = σ 47 x.toNat := rfl
      have s6 := mul_le (a := 100 * σ 39 (σ 45 x.toNat).toNat) (b := σ 46 x.toNat) (A := 99900) (B := 9) (by omega) (by omega) (by omega) (by omega)
      refine c_X9_ahead (k := x.toNat) (by omega) hR (by omega) (by omega) ?_
      refine ⟨_, rfl, ?_⟩
      refine v_idiv (pc := 142) dX9_about_142 (by omega) (by omega) (by omega) ?_
      refine v_ireturn (pc := 143) dX9_about_143 rfl rfl ⟨Nat.le_refl _, Nat.le_refl _⟩ ?_
      rw [tdiv_pos (by omega)]; exact hQ (by omega) (by omega)
  · refine v_iconst (pc := 8) (-1) dX9_about_8 (by decide) ?_
    refine v_ireturn (pc := 9) dX9_about_9 rfl rfl ⟨Nat.le_refl _, Nat.le_refl _⟩ ?_
    exact hN (by omega)
set_option maxHeartbeats 4000000 in
set_option maxRecDepth 100000 in
theorem c_X9_speed {g : vGl} {d : Nat} {Q : Option Value → List mC → Prop} {σ : vSt} (hd : 6 ≤ d) (hR : MR σ) {wh : Int} (hw : vr wh) (hN : ¬ (0 ≤ wh ∧ wh ≤ 1) → Q (some (vi (-1))) (hp σ)) (hQ : 0 ≤ wh → wh ≤ 1 → Q (some (vi (qSum (yGain (mY σ) wh) (σ 38 13).toNat 0))) (hp σ)) : V g mX9_speed d (0, 0, 0, 0) Q 0 [(0, .ref 38), (1, vi wh)] [] (hp σ) := by
  obtain ⟨⟨r0, r1, r2, r3, r4, r5, r6, r7, r8, r9⟩, rE, rS, rT, rF⟩ := id hR
  refine v_iload_n (pc := 0) dX9_speed_0 rfl ?_
  refine v_i2l (pc := 1) dX9_speed_1 (by omega) ?_
  refine v_lconst (pc := 2) (0) dX9_speed_2 (by decide) ?_
  refine v_lconst (pc := 3) (1) dX9_speed_3 (by decide) ?_
  refine v_cSi3 (pc := 4) (d' := d - 1) dX9_speed_4 kX9_isIn ml_X9_115 stX9_isIn (Nat.le_of_ble_eq_true rfl) (Nat.le_of_ble_eq_true rfl) (by omega) ⟨Nat.le_refl _, Nat.le_refl _⟩ ?_
  refine c_X9_isIn (by omega) (by omega) (by omega) ?_
  refine ⟨_, rfl, ?_⟩
  refine v_if_eq (pc := 7) 19 dX9_speed_7 (by decide) (by omega) (fun h7 => ?_) (fun h7 => ?_)
  · refine v_iconst (pc := 19) (-1) dX9_speed_19 (by decide) ?_
    refine v_ireturn (pc := 20) dX9_speed_20 rfl rfl ⟨Nat.le_refl _, Nat.le_refl _⟩ ?_
    first | exact hN (by omega) | exact hQ (by omega) (by omega)
  · refine v_aload_n (pc := 10) dX9_speed_10 rfl ?_
    refine v_iload_n (pc := 11) dX9_speed_11 rfl ?_
    refine v_cVl1 (pc := 12) (z := 0) (d' := d - 1) dX9_speed_12 kX9_speedOfAll ml_X9_164 iwX9_speedOfAll swX9_speedOfAll rfl rfl (Nat.le_of_ble_eq_true rfl) (Nat.le_of_ble_eq_true rfl) (by omega) ⟨Nat.le_refl _, Nat.le_refl _⟩ ?_
    refine c_X9_speedOfAll (by omega) hR hw ?_
    refine ⟨_, rfl, ?_⟩
    refine v_l2i (pc := 15) dX9_speed_15 ?_
    refine v_goto (pc := 16) 20 dX9_speed_16 (by decide) ?_
    refine v_ireturn (pc := 20) dX9_speed_20 rfl rfl ⟨Nat.le_refl _, Nat.le_refl _⟩ ?_
    first | exact hN (by omega) | exact hQ (by omega) (by omega)
set_option maxHeartbeats 4000000 in
set_option maxRecDepth 100000 in
theorem c_X9_air {g : vGl} {d : Nat} {Q : Option Value → List mC → Prop} {σ : vSt} (hd : 2 ≤ d) (hR : MR σ) {x n : Int} (hx : vr x) (hn : vr n) (hN : ¬ (0 ≤ x ∧ x ≤ 9) → Q (some (vi (-1))) (hp σ)) (hB : 0 ≤ x → x ≤ 9 → ¬ (0 ≤ n ∧ n ≤ 999) → Q (some (vi (-2))) (hp σ)) (hQ : 0 ≤ x → x ≤ 9 → 0 ≤ n → n ≤ 999 → Q (some (vi (σ 49 x.toNat))) (hp (vU σ 49 x.toNat n))) : V g mX9_air d (0, 0, 0, 0) Q 0 [(0, .ref 38), (1, vi x), (2, vi n)] [] (hp σ) := by
  obtain ⟨⟨r0, r1, r2, r3, r4, r5, r6, r7, r8, r9⟩, rE, rS, rT, rF⟩ := id hR
  refine v_iload_n (pc := 0) dX9_air_0 rfl ?_
  refine v_i2l (pc := 1) dX9_air_1 (by omega) ?_
  refine v_lconst (pc := 2) (0) dX9_air_2 (by decide) ?_
  refine v_ldc2 (pc := 3) (9) dX9_air_3 kc_X9_127 ?_
  refine v_cSi3 (pc := 6) (d' := d - 1) dX9_air_6 kX9_isIn ml_X9_115 stX9_isIn (Nat.le_of_ble_eq_true rfl) (Nat.le_of_ble_eq_true rfl) (by omega) ⟨Nat.le_refl _, Nat.le_refl _⟩ ?_
  refine c_X9_isIn (by omega) (by omega) (by omega) ?_
  refine ⟨_, rfl, ?_⟩
  refine v_if_ne (pc := 9) 14 dX9_air_9 (by decide) (by omega) (fun h9 => ?_) (fun h9 => ?_)
  · refine v_iload_n (pc := 14) dX9_air_14 rfl ?_
    refine v_i2l (pc := 15) dX9_air_15 (by omega) ?_
    refine v_lconst (pc := 16) (0) dX9_air_16 (by decide) ?_
    refine v_ldc2 (pc := 17) (999) dX9_air_17 kc_X9_113 ?_
    refine v_cSi3 (pc := 20) (d' := d - 1) dX9_air_20 kX9_isIn ml_X9_115 stX9_isIn (Nat.le_of_ble_eq_true rfl) (Nat.le_of_ble_eq_true rfl) (by omega) ⟨Nat.le_refl _, Nat.le_refl _⟩ ?_
    refine c_X9_isIn (by omega) (by omega) (by omega) ?_
    refine ⟨_, rfl, ?_⟩
    refine v_if_ne (pc := 23) 29 dX9_air_23 (by decide) (by omega) (fun h23 => ?_) (fun h23 => ?_)
    · refine v_aload_n (pc := 29) dX9_air_29 rfl ?_
      refine v_gR (pc := 30) dX9_air_30 fl_X9_40 rfl ?_
      refine v_iload_n (pc := 33) dX9_air_33 rfl ?_
      refine v_aI (pc := 34) dX9_air_34 rfl rfl (by omega) (by omega) ?_
      refine v_istore_n (pc := 35) dX9_air_35 (by decide) ?_
      refine v_aload_n (pc := 36) dX9_air_36 rfl ?_
      refine v_gR (pc := 37) dX9_air_37 fl_X9_40 rfl ?_
      refine v_iload_n (pc := 40) dX9_air_40 rfl ?_
      refine v_iload_n (pc := 41) dX9_air_41 rfl ?_
      refine v_sI (pc := 42) dX9_air_42 rfl rfl (by omega) (by omega) ?_
      refine v_iload_n (pc := 43) dX9_air_43 rfl ?_
      refine v_ireturn (pc := 44) dX9_air_44 rfl rfl ⟨Nat.le_refl _, Nat.le_refl _⟩ ?_
      exact hQ (by omega) (by omega) (by omega) (by omega)
    · refine v_bipush (pc := 26) (-2) dX9_air_26 (by decide) ?_
      refine v_ireturn (pc := 28) dX9_air_28 rfl rfl ⟨Nat.le_refl _, Nat.le_refl _⟩ ?_
      exact hB (by omega) (by omega) (by omega)
  · refine v_iconst (pc := 12) (-1) dX9_air_12 (by decide) ?_
    refine v_ireturn (pc := 13) dX9_air_13 rfl rfl ⟨Nat.le_refl _, Nat.le_refl _⟩ ?_
    exact hN (by omega)
set_option maxHeartbeats 4000000 in
set_option maxRecDepth 100000 in
theorem c_X9_limit {g : vGl} {d : Nat} {Q : Option Value → List mC → Prop} {σ : vSt} (hd : 2 ≤ d) (hR : MR σ) {x n : Int} (hx : vr x) (hn : vr n) (hN : ¬ (0 ≤ x ∧ x ≤ 2) → Q (some (vi (-1))) (hp σ)) (hB : 0 ≤ x → x ≤ 2 → ¬ (0 ≤ n ∧ n ≤ 1000000) → Q (some (vi (-2))) (hp σ)) (hQ : 0 ≤ x → x ≤ 2 → 0 ≤ n → n ≤ 1000000 → Q (some (vi (σ 50 x.toNat))) (hp (vU σ 50 x.toNat n))) : V g mX9_limit d (0, 0, 0, 0) Q 0 [(0, .ref 38), (1, vi x), (2, vi n)] [] (hp σ) := by
  obtain ⟨⟨r0, r1, r2, r3, r4, r5, r6, r7, r8, r9⟩, rE, rS, rT, rF⟩ := id hR
  refine v_iload_n (pc := 0) dX9_limit_0 rfl ?_
  refine v_i2l (pc := 1) dX9_limit_1 (by omega) ?_
  refine v_lconst (pc := 2) (0) dX9_limit_2 (by decide) ?_
  refine v_ldc2 (pc := 3) (2) dX9_limit_3 kc_X9_134 ?_
  refine v_cSi3 (pc := 6) (d' := d - 1) dX9_limit_6 kX9_isIn ml_X9_115 stX9_isIn (Nat.le_of_ble_eq_true rfl) (Nat.le_of_ble_eq_true rfl) (by omega) ⟨Nat.le_refl _, Nat.le_refl _⟩ ?_
  refine c_X9_isIn (by omega) (by omega) (by omega) ?_
  refine ⟨_, rfl, ?_⟩
  refine v_if_ne (pc := 9) 14 dX9_limit_9 (by decide) (by omega) (fun h9 => ?_) (fun h9 => ?_)
  · refine v_iload_n (pc := 14) dX9_limit_14 rfl ?_
    refine v_i2l (pc := 15) dX9_limit_15 (by omega) ?_
    refine v_lconst (pc := 16) (0) dX9_limit_16 (by decide) ?_
    refine v_ldc2 (pc := 17) (1000000) dX9_limit_17 kc_X9_180 ?_
    refine v_cSi3 (pc := 20) (d' := d - 1) dX9_limit_20 kX9_isIn ml_X9_115 stX9_isIn (Nat.le_of_ble_eq_true rfl) (Nat.le_of_ble_eq_true rfl) (by omega) ⟨Nat.le_refl _, Nat.le_refl _⟩ ?_
    refine c_X9_isIn (by omega) (by omega) (by omega) ?_
    refine ⟨_, rfl, ?_⟩
    refine v_if_ne (pc := 23) 29 dX9_limit_23 (by decide) (by omega) (fun h23 => ?_) (fun h23 => ?_)
    · refine v_aload_n (pc := 29) dX9_limit_29 rfl ?_
      refine v_gR (pc := 30) dX9_limit_30 fl_X9_43 rfl ?_
      refine v_iload_n (pc := 33) dX9_limit_33 rfl ?_
      refine v_aI (pc := 34) dX9_limit_34 rfl rfl (by omega) (by omega) ?_
      refine v_istore_n (pc := 35) dX9_limit_35 (by decide) ?_
      refine v_aload_n (pc := 36) dX9_limit_36 rfl ?_
      refine v_gR (pc := 37) dX9_limit_37 fl_X9_43 rfl ?_
      refine v_iload_n (pc := 40) dX9_limit_40 rfl ?_
      refine v_iload_n (pc := 41) dX9_limit_41 rfl ?_
      refine v_sI (pc := 42) dX9_limit_42 rfl rfl (by omega) (by omega) ?_
      refine v_iload_n (pc := 43) dX9_limit_43 rfl ?_
      refine v_ireturn (pc := 44) dX9_limit_44 rfl rfl ⟨Nat.le_refl _, Nat.le_refl _⟩ ?_
      exact hQ (by omega) (by omega) (by omega) (by omega)
    · refine v_bipush (pc := 26) (-2) dX9_limit_26 (by decide) ?_
      refine v_ireturn (pc := 28) dX9_limit_28 rfl rfl ⟨Nat.le_refl _, Nat.le_refl _⟩ ?_
      exact hB (by omega) (by omega) (by omega)
  · refine v_iconst (pc := 12) (-1) dX9_limit_12 (by decide) ?_
    refine v_ireturn (pc := 13) dX9_limit_13 rfl rfl ⟨Nat.le_refl _, Nat.le_refl _⟩ ?_
    exact hN (by omega)
set_option maxHeartbeats 4000000 in
set_option maxRecDepth 100000 in
theorem c_X9_deliver {g : vGl} {d : Nat} {Q : Option Value → List mC → Prop} {σ : vSt} (hd : 2 ≤ d) (hR : MR σ) {x y n : Int} (hx : vr x) (hy : vr y) (hn : vr n) (hN : ¬ (0 ≤ x ∧ x ≤ 2 ∧ 0 ≤ y ∧ y ≤ 11) → Q (some (vi (-1))) (hp σ)) (hB : (0 ≤ x ∧ x ≤ 2 ∧ 0 ≤ y ∧ y ≤ 11) → ¬ (0 ≤ n ∧ n ≤ 9) → Q (some (vi (-2))) (hp σ)) (hQ : (0 ≤ x ∧ x ≤ 2 ∧ 0 ≤ y ∧ y ≤ 11) → 0 ≤ n → n ≤ 9 → Q (some (vi (σ 66 (12 * x + y).toNat))) (hp (vU σ 66 (12 * x + y).toNat n))) : V g mX9_deliver d (0, 0, 0, 0) Q 0 [(0, .ref 38), (1, vi x), (2, vi y), (3, vi n)] [] (hp σ) := by
  obtain ⟨⟨r0, r1, r2, r3, r4, r5, r6, r7, r8, r9⟩, rE, rS, rT, rF⟩ := id hR
  refine v_iload_n (pc := 0) dX9_deliver_0 rfl ?_
  refine v_i2l (pc := 1) dX9_deliver_1 (by omega) ?_
  refine v_lconst (pc := 2) (0) dX9_deliver_2 (by decide) ?_
  refine v_ldc2 (pc := 3) (2) dX9_deliver_3 kc_X9_134 ?_
  refine v_cSi3 (pc := 6) (d' := d - 1) dX9_deliver_6 kX9_isIn ml_X9_115 stX9_isIn (Nat.le_of_ble_eq_true rfl) (Nat.le_of_ble_eq_true rfl) (by omega) ⟨Nat.le_refl _, Nat.le_refl _⟩ ?_
  refine c_X9_isIn (by omega) (by omega) (by omega) ?_
  refine ⟨_, rfl, ?_⟩
  refine v_if_eq (pc := 9) 24 dX9_deliver_9 (by decide) (by omega) (fun h9 => ?_) (fun h9 => ?_)
  · refine v_iconst (pc := 24) (-1) dX9_deliver_24 (by decide) ?_
    refine v_ireturn (pc := 25) dX9_deliver_25 rfl rfl ⟨Nat.le_refl _, Nat.le_refl _⟩ ?_
    exact hN (by omega)
  · refine v_iload_n (pc := 12) dX9_deliver_12 rfl ?_
    refine v_i2l (pc := 13) dX9_deliver_13 (by omega) ?_
    refine v_lconst (pc := 14) (0) dX9_deliver_14 (by decide) ?_
    refine v_ldc2 (pc := 15) (11) dX9_deliver_15 kc_X9_259 ?_
    refine v_cSi3 (pc := 18) (d' := d - 1) dX9_deliver_18 kX9_isIn ml_X9_115 stX9_isIn (Nat.le_of_ble_eq_true rfl) (Nat.le_of_ble_eq_true rfl) (by omega) ⟨Nat.le_refl _, Nat.le_refl _⟩ ?_
    refine c_X9_isIn (by omega) (by omega) (by omega) ?_
    refine ⟨_, rfl, ?_⟩
    refine v_if_ne (pc := 21) 26 dX9_deliver_21 (by decide) (by omega) (fun h21 => ?_) (fun h21 => ?_)
    · refine v_iload_n (pc := 26) dX9_deliver_26 rfl ?_
      refine v_i2l (pc := 27) dX9_deliver_27 (by omega) ?_
      refine v_lconst (pc := 28) (0) dX9_deliver_28 (by decide) ?_
      refine v_ldc2 (pc := 29) (9) dX9_deliver_29 kc_X9_127 ?_
      refine v_cSi3 (pc := 32) (d' := d - 1) dX9_deliver_32 kX9_isIn ml_X9_115 stX9_isIn (Nat.le_of_ble_eq_true rfl) (Nat.le_of_ble_eq_true rfl) (by omega) ⟨Nat.le_refl _, Nat.le_refl _⟩ ?_
      refine c_X9_isIn (by omega) (by omega) (by omega) ?_
      refine ⟨_, rfl, ?_⟩
      refine v_if_ne (pc := 35) 41 dX9_deliver_35 (by decide) (by omega) (fun h35 => ?_) (fun h35 => ?_)
      · refine v_aload_n (pc := 41) dX9_deliver_41 rfl ?_
        refine v_gR (pc := 42) dX9_deliver_42 fl_X9_103 rfl ?_
        refine v_bipush (pc := 45) (12) dX9_deliver_45 (by decide) ?_
        refine v_iload_n (pc := 47) dX9_deliver_47 rfl ?_
        refine v_imul (pc := 48) dX9_deliver_48 ?_
        refine v_iload_n (pc := 49) dX9_deliver_49 rfl ?_
        refine v_iadd (pc := 50) dX9_deliver_50 ?_
        refine v_aI (pc := 51) dX9_deliver_51 rfl rfl (by omega) (by omega) ?_
        refine v_istore (pc := 52) dX9_deliver_52 (by decide) ?_
        refine v_aload_n (pc := 54) dX9_deliver_54 rfl ?_
        refine v_gR (pc := 55) dX9_deliver_55 fl_X9_103 rfl ?_
        refine v_bipush (pc := 58) (12) dX9_deliver_58 (by decide) ?_
        refine v_iload_n (pc := 60) dX9_deliver_60 rfl ?_
        refine v_imul (pc := 61) dX9_deliver_61 ?_
        refine v_iload_n (pc := 62) dX9_deliver_62 rfl ?_
        refine v_iadd (pc := 63) dX9_deliver_63 ?_
        refine v_iload_n (pc := 64) dX9_deliver_64 rfl ?_
        refine v_sI (pc := 65) dX9_deliver_65 rfl rfl (by omega) (by omega) ?_
        refine v_iload (pc := 66) dX9_deliver_66 rfl ?_
        refine v_ireturn (pc := 68) dX9_deliver_68 rfl rfl ⟨Nat.le_refl _, Nat.le_refl _⟩ ?_
        exact hQ (by omega) (by omega) (by omega)
      · refine v_bipush (pc := 38) (-2) dX9_deliver_38 (by decide) ?_
        refine v_ireturn (pc := 40) dX9_deliver_40 rfl rfl ⟨Nat.le_refl _, Nat.le_refl _⟩ ?_
        exact hB (by omega) (by omega)
    · refine v_iconst (pc := 24) (-1) dX9_deliver_24 (by decide) ?_
      refine v_ireturn (pc := 25) dX9_deliver_25 rfl rfl ⟨Nat.le_refl _, Nat.le_refl _⟩ ?_
      exact hN (by omega)
set_option maxHeartbeats 4000000 in
set_option maxRecDepth 100000 in
theorem c_X9_flown {g : vGl} {d : Nat} {Q : Option Value → List mC → Prop} {σ : vSt} {wh : Int} (hd : 2 ≤ d) (hw : vr wh) (hf : σ 38 39 = 0 ∨ σ 38 39 = 1) (hN : (σ 38 39 = 0 ∨ ¬ (0 ≤ wh ∧ wh ≤ 6)) → Q (some (vi (-1))) (hp σ)) (hQ : σ 38 39 = 1 → 0 ≤ wh → wh ≤ 6 → Q (some (vi (σ 61 wh.toNat))) (hp σ)) : V g mX9_flown d (0, 0, 0, 0) Q 0 [(0, .ref 38), (1, vi wh)] [] (hp σ) := by
  refine v_aload_n (pc := 0) dX9_flown_0 rfl ?_
  refine v_gZ (pc := 1) dX9_flown_1 fl_X9_240 rfl ?_
  refine v_if_eq (pc := 4) 28 dX9_flown_4 (by decide) (by omega) (fun h4 => ?_) (fun h4 => ?_)
  · refine v_iconst (pc := 28) (-1) dX9_flown_28 (by decide) ?_
    refine v_ireturn (pc := 29) dX9_flown_29 rfl rfl ⟨Nat.le_refl _, Nat.le_refl _⟩ ?_
    first | exact hN (by omega) | exact hQ (by omega) (by omega) (by omega)
  · refine v_iload_n (pc := 7) dX9_flown_7 rfl ?_
    refine v_i2l (pc := 8) dX9_flown_8 (by omega) ?_
    refine v_lconst (pc := 9) (0) dX9_flown_9 (by decide) ?_
    refine v_ldc2 (pc := 10) (6) dX9_flown_10 kc_X9_244 ?_
    refine v_cSi3 (pc := 13) (d' := d - 1) dX9_flown_13 kX9_isIn ml_X9_115 stX9_isIn (Nat.le_of_ble_eq_true rfl) (Nat.le_of_ble_eq_true rfl) (by omega) ⟨Nat.le_refl _, Nat.le_refl _⟩ ?_
    refine c_X9_isIn (by omega) (by omega) (by omega) ?_
    refine ⟨_, rfl, ?_⟩
    refine v_if_eq (pc := 16) 28 dX9_flown_16 (by decide) (by omega) (fun h16 => ?_) (fun h16 => ?_)
    · refine v_iconst (pc := 28) (-1) dX9_flown_28 (by decide) ?_
      refine v_ireturn (pc := 29) dX9_flown_29 rfl rfl ⟨Nat.le_refl _, Nat.le_refl _⟩ ?_
      first | exact hN (by omega) | exact hQ (by omega) (by omega) (by omega)
    · refine v_aload_n (pc := 19) dX9_flown_19 rfl ?_
      refine v_gR (pc := 20) dX9_flown_20 fl_X9_88 rfl ?_
      refine v_iload_n (pc := 23) dX9_flown_23 rfl ?_
      refine v_aI (pc := 24) dX9_flown_24 rfl rfl (by omega) (by omega) ?_
      refine v_goto (pc := 25) 29 dX9_flown_25 (by decide) ?_
      refine v_ireturn (pc := 29) dX9_flown_29 rfl rfl ⟨Nat.le_refl _, Nat.le_refl _⟩ ?_
      first | exact hN (by omega) | exact hQ (by omega) (by omega) (by omega)
theorem costOf_step {lr v : Int} (h1 : 0 ≤ v) (h2 : lr ≤ 100) : qNext lr (max v 1) = max (v * lr / 100) 1 := by
  rcases (show v = 0 ∨ 1 ≤ v by omega) with rfl | h
  · rw [show max (0 : Int) 1 = 1 by omega, qNext_one h2, Int.zero_mul]; omega
  · rw [show max v 1 = v by omega]; rfl
set_option maxHeartbeats 4000000 in
set_option maxRecDepth 100000 in
theorem l_X9_costOf {g : vGl} {d : Nat} {Q : Option Value → List mC → Prop} {σ : vSt} {i : Int} (hi : vr i) (h1 : 0 ≤ σ 38 16) (h2 : σ 38 16 ≤ 100) : ∀ (n : Nat) (b v : Int) (hb : b + n = i) (hb0 : -1 ≤ b) (h3 : 0 ≤ v) (h4 : v ≤ 9999) (hQ : Q (some (vi (qCost (σ 38 16) (max v 1) n))) (hp σ)), V g mX9_costOf d (0, 0, 0, 0) Q 10 [(0, .ref 38), (2, vi i), (3, vi v), (4, vi b)] [] (hp σ) := by
  intro n
  induction n with
  | zero =>
    intro b v hb hb0 h3 h4 hQ
    rw [show qCost (σ 38 16) (max v 1) 0 = max v 1 from rfl] at hQ
    refine v_iload (pc := 10) dX9_costOf_10 rfl ?_
    refine v_iload_n (pc := 12) dX9_costOf_12 rfl ?_
    refine v_icmp_ge (pc := 13) 36 dX9_costOf_13 (by decide) (by omega) (by omega) (fun h13 => ?_) (fun h13 => by exfalso; omega)
    refine v_iload_n (pc := 36) dX9_costOf_36 rfl ?_
    refine v_iconst (pc := 37) (1) dX9_costOf_37 (by decide) ?_
    refine v_icmp_ge (pc := 38) 45 dX9_costOf_38 (by decide) (by omega) (by omega) (fun h38 => ?_) (fun h38 => ?_)
    · refine v_iload_n (pc := 45) dX9_costOf_45 rfl ?_
      refine v_ireturn (pc := 46) dX9_costOf_46 rfl rfl ⟨Nat.le_refl _, Nat.le_refl _⟩ ?_
      first | exact q_eq (b := max v 1) hQ (by omega) | (obtain rfl : v = 0 := (by omega); rw [show max (0 : Int) 1 = 1 by omega, qCost_one h2] at hQ; exact hQ) | (exfalso; omega)
    · refine v_iconst (pc := 41) (1) dX9_costOf_41 (by decide) ?_
      refine v_goto (pc := 42) 46 dX9_costOf_42 (by decide) ?_
      refine v_ireturn (pc := 46) dX9_costOf_46 rfl rfl ⟨Nat.le_refl _, Nat.le_refl _⟩ ?_
      first | exact q_eq (b := max v 1) hQ (by omega) | (obtain rfl : v = 0 := (by omega); rw [show max (0 : Int) 1 = 1 by omega, qCost_one h2] at hQ; exact hQ) | (exfalso; omega)
  | succ n ih =>
    intro b v hb hb0 h3 h4 hQ
    have a := mul_le (a := v) (b := σ 38 16) (A := 9999) (B := 100) h3 h4 h1 h2
    refine v_iload (pc := 10) dX9_costOf_10 rfl ?_
    refine v_iload_n (pc := 12) dX9_costOf_12 rfl ?_
    refine v_icmp_ge (pc := 13) 36 dX9_costOf_13 (by decide) (by omega) (by omega) (fun h13 => by exfalso; omega) (fun h13 => ?_)
    refine v_iload_n (pc := 16) dX9_costOf_16 rfl ?_
    refine v_if_le (pc := 17) 36 dX9_costOf_17 (by decide) (by omega) (fun h17 => ?_) (fun h17 => ?_)
    · refine v_iload_n (pc := 36) dX9_costOf_36 rfl ?_
      refine v_iconst (pc := 37) (1) dX9_costOf_37 (by decide) ?_
      refine v_icmp_ge (pc := 38) 45 dX9_costOf_38 (by decide) (by omega) (by omega) (fun h38 => ?_) (fun h38 => ?_)
      · refine v_iload_n (pc := 45) dX9_costOf_45 rfl ?_
        refine v_ireturn (pc := 46) dX9_costOf_46 rfl rfl ⟨Nat.le_refl _, Nat.le_refl _⟩ ?_
        first | exact q_eq (b := max v 1) hQ (by omega) | (obtain rfl : v = 0 := (by omega); rw [show max (0 : Int) 1 = 1 by omega, qCost_one h2] at hQ; exact hQ) | (exfalso; omega)
      · refine v_iconst (pc := 41) (1) dX9_costOf_41 (by decide) ?_
        refine v_goto (pc := 42) 46 dX9_costOf_42 (by decide) ?_
        refine v_ireturn (pc := 46) dX9_costOf_46 rfl rfl ⟨Nat.le_refl _, Nat.le_refl _⟩ ?_
        first | exact q_eq (b := max v 1) hQ (by omega) | (obtain rfl : v = 0 := (by omega); rw [show max (0 : Int) 1 = 1 by omega, qCost_one h2] at hQ; exact hQ) | (exfalso; omega)
    · refine v_iload_n (pc := 20) dX9_costOf_20 rfl ?_
      refine v_aload_n (pc := 21) dX9_costOf_21 rfl ?_
      refine v_gI (pc := 22) dX9_costOf_22 fl_X9_53 rfl ?_
      refine v_imul (pc := 25) dX9_costOf_25 ?_
      refine v_bipush (pc := 26) (100) dX9_costOf_26 (by decide) ?_
      refine v_idiv (pc := 28) dX9_costOf_28 (by omega) (by omega) (by omega) ?_
      refine v_istore_n (pc := 29) dX9_costOf_29 (by decide) ?_
      refine v_iinc (pc := 30) (1) dX9_costOf_30 rfl (by decide) (by decide) ?_
      refine v_goto (pc := 33) 10 dX9_costOf_33 (by decide) ?_
      refine v_lv (ih (b + 1) _ (by omega) (by omega) ?_ ?_ ?_) ⟨rfl, rfl, rfl, rfl, trivial⟩
      · rw [tdiv_pos (by omega)]; omega
      · rw [tdiv_pos (by omega)]; omega
      · rw [show qCost (σ 38 16) (max v 1) (n + 1) = qCost (σ 38 16) (qNext (σ 38 16) (max v 1)) n from rfl, costOf_step h3 h2] at hQ
        rw [tdiv_pos (by omega)]; exact hQ
set_option maxHeartbeats 4000000 in
set_option maxRecDepth 100000 in
theorem c_X9_costOf {g : vGl} {d : Nat} {Q : Option Value → List mC → Prop} {σ : vSt} {x i : Int} {k : Nat} (hR : MR σ) (hx : x = k) (hk : (k : Int) < σ 38 12) (hi : 0 ≤ i ∧ i ≤ 2147483647) (hQ : Q (some (vi (qCost (σ 38 16) (σ 42 k) i.toNat))) (hp σ)) : V g mX9_costOf d (0, 0, 0, 0) Q 0 [(0, .ref 38), (1, vi x), (2, vi i)] [] (hp σ) := by
  obtain ⟨⟨r0, r1, r2, r3, r4, r5, r6, r7, r8, r9⟩, rE, rS, rT, rF⟩ := id hR
  have s1 := rE k
  have s2 := rF k hk
  refine v_aload_n (pc := 0) dX9_costOf_0 rfl ?_
  refine v_gR (pc := 1) dX9_costOf_1 fl_X9_19 rfl ?_
  refine v_iload_n (pc := 4) dX9_costOf_4 rfl ?_
  refine v_aI (pc := 5) (j := k) dX9_costOf_5 rfl (by omega) (by omega) (by omega) ?_
  refine v_istore_n (pc := 6) dX9_costOf_6 (by decide) ?_
  refine v_iconst (pc := 7) (0) dX9_costOf_7 (by decide) ?_
  refine v_istore (pc := 8) dX9_costOf_8 (by decide) ?_
  refine v_lv (l_X9_costOf (by omega) (by omega) (by omega) i.toNat 0 (σ 42 k) (by omega) (by omega) (by omega) (by omega) ?_) ⟨rfl, rfl, rfl, rfl, trivial⟩
  rw [show max (σ 42 k) 1 = σ 42 k by omega]; exact hQ
set_option maxHeartbeats 4000000 in
set_option maxRecDepth 100000 in
theorem c_X9_cost {g : vGl} {d : Nat} {Q : Option Value → List mC → Prop} {σ : vSt} (hd : 4 ≤ d) (hR : MR σ) {x i : Int} (hx : vr x) (hi : vr i) (hN : ¬ (0 ≤ x ∧ x < σ 38 12) → Q (some (vi (-1))) (hp σ)) (hB : 0 ≤ x → x < σ 38 12 → ¬ (0 ≤ i ∧ i ≤ 999) → Q (some (vi (-2))) (hp σ)) (hQ : 0 ≤ x → x < σ 38 12 → 0 ≤ i → i ≤ 999 → Q (some (vi (qCost (σ 38 16) (σ 42 x.toNat) i.toNat))) (hp σ)) : V g mX9_cost d (0, 0, 0, 0) Q 0 [(0, .ref 38), (1, vi x), (2, vi i)] [] (hp σ) := by
  obtain ⟨⟨r0, r1, r2, r3, r4, r5, r6, r7, r8, r9⟩, rE, rS, rT, rF⟩ := id hR
  refine v_aload_n (pc := 0) dX9_cost_0 rfl ?_
  refine v_iload_n (pc := 1) dX9_cost_1 rfl ?_
  refine v_cVi1 (pc := 2) (z := 0) (d' := d - 1) dX9_cost_2 kX9_isEngine ml_X9_123 iwX9_isEngine swX9_isEngine rfl rfl (Nat.le_of_ble_eq_true rfl) (Nat.le_of_ble_eq_true rfl) (by omega) ⟨Nat.le_refl _, Nat.le_refl _⟩ ?_
  refine c_X9_isEngine (by omega) (by omega) ?_
  refine ⟨_, rfl, ?_⟩
  refine v_if_ne (pc := 5) 10 dX9_cost_5 (by decide) (by omega) (fun h5 => ?_) (fun h5 => ?_)
  · refine v_iload_n (pc := 10) dX9_cost_10 rfl ?_
    refine v_i2l (pc := 11) dX9_cost_11 (by omega) ?_
    refine v_lconst (pc := 12) (0) dX9_cost_12 (by decide) ?_
    refine v_ldc2 (pc := 13) (999) dX9_cost_13 kc_X9_113 ?_
    refine v_cSi3 (pc := 16) (d' := d - 1) dX9_cost_16 kX9_isIn ml_X9_115 stX9_isIn (Nat.le_of_ble_eq_true rfl) (Nat.le_of_ble_eq_true rfl) (by omega) ⟨Nat.le_refl _, Nat.le_refl _⟩ ?_
    refine c_X9_isIn (by omega) (by omega) (by omega) ?_
    refine ⟨_, rfl, ?_⟩
    refine v_if_eq (pc := 19) 31 dX9_cost_19 (by decide) (by omega) (fun h19 => ?_) (fun h19 => ?_)
    · refine v_bipush (pc := 31) (-2) dX9_cost_31 (by decide) ?_
      refine v_ireturn (pc := 33) dX9_cost_33 rfl rfl ⟨Nat.le_refl _, Nat.le_refl _⟩ ?_
      first | exact hB (by omega) (by omega) (by omega) | exact hQ (by omega) (by omega) (by omega) (by omega)
    · refine v_aload_n (pc := 22) dX9_cost_22 rfl ?_
      refine v_iload_n (pc := 23) dX9_cost_23 rfl ?_
      refine v_iload_n (pc := 24) dX9_cost_24 rfl ?_
      refine v_cVi2 (pc := 25) (z := 0) (d' := d - 1) dX9_cost_25 kX9_costOf ml_X9_248 iwX9_costOf swX9_costOf rfl rfl (Nat.le_of_ble_eq_true rfl) (Nat.le_of_ble_eq_true rfl) (by omega) ⟨Nat.le_refl _, Nat.le_refl _⟩ ?_
      refine c_X9_costOf (k := x.toNat) hR (by omega) (by omega) (by omega) ?_
      refine ⟨_, rfl, ?_⟩
      refine v_goto (pc := 28) 33 dX9_cost_28 (by decide) ?_
      refine v_ireturn (pc := 33) dX9_cost_33 rfl rfl ⟨Nat.le_refl _, Nat.le_refl _⟩ ?_
      first | exact hB (by omega) (by omega) (by omega) | exact hQ (by omega) (by omega) (by omega) (by omega)
  · refine v_iconst (pc := 8) (-1) dX9_cost_8 (by decide) ?_
    refine v_ireturn (pc := 9) dX9_cost_9 rfl rfl ⟨Nat.le_refl _, Nat.le_refl _⟩ ?_
    exact hN (by omega)
set_option maxHeartbeats 4000000 in
set_option maxRecDepth 100000 in
theorem c_X9_keeping {g : vGl} {d : Nat} {Q : Option Value → List mC → Prop} {σ : vSt} (hd : 6 ≤ d) (hR : MR σ) {x y : Int} (hx : vr x) (hy : vr y) (hN : ¬ (0 ≤ x ∧ x < σ 38 13) → Q (some (vi (-1))) (hp σ)) (hB : 0 ≤ x → x < σ 38 13 → ¬ (0 ≤ y ∧ y ≤ 100 ∧ y ≤ σ 47 x.toNat) → Q (some (vi (-2))) (hp σ)) (hQ : 0 ≤ x → x < σ 38 13 → 0 ≤ y → y ≤ 100 → y ≤ σ 47 x.toNat → Q (some (vi (qLow (1000 * σ 40 (σ 45 x.toNat).toNat) (σ 47 x.toNat - y).toNat (yMass (mY σ) x.toNat)))) (hp σ)) : V g mX9_keeping d (0, 0, 0, 0) Q 0 [(0, .ref 38), (1, vi x), (2, vi y)] [] (hp σ) := by
  obtain ⟨⟨r0, r1, r2, r3, r4, r5, r6, r7, r8, r9⟩, rE, rS, rT, rF⟩ := id hR
  have s1 := rS x.toNat
  have s2 := rE (σ 45 x.toNat).toNat
  refine v_aload_n (pc := 0) dX9_keeping_0 rfl ?_
  refine v_iload_n (pc := 1) dX9_keeping_1 rfl ?_
  refine v_cVi1 (pc := 2) (z := 0) (d' := d - 1) dX9_keeping_2 kX9_isStage ml_X9_131 iwX9_isStage swX9_isStage rfl rfl (Nat.le_of_ble_eq_true rfl) (Nat.le_of_ble_eq_true rfl) (by omega) ⟨Nat.le_refl _, Nat.le_refl _⟩ ?_
  refine c_X9_isStage (by omega) (by omega) ?_
  refine ⟨_, rfl, ?_⟩
  refine v_if_ne (pc := 5) 10 dX9_keeping_5 (by decide) (by omega) (fun h5 => ?_) (fun h5 => ?_)
  · refine v_iload_n (pc := 10) dX9_keeping_10 rfl ?_
    refine v_i2l (pc := 11) dX9_keeping_11 (by omega) ?_
    refine v_lconst (pc := 12) (0) dX9_keeping_12 (by decide) ?_
    refine v_ldc2 (pc := 13) (100) dX9_keeping_13 kc_X9_138 ?_
    refine v_cSi3 (pc := 16) (d' := d - 1) dX9_keeping_16 kX9_isIn ml_X9_115 stX9_isIn (Nat.le_of_ble_eq_true rfl) (Nat.le_of_ble_eq_true rfl) (by omega) ⟨Nat.le_refl _, Nat.le_refl _⟩ ?_
    refine c_X9_isIn (by omega) (by omega) (by omega) ?_
    refine ⟨_, rfl, ?_⟩
    refine v_if_eq (pc := 19) 32 dX9_keeping_19 (by decide) (by omega) (fun h19 => ?_) (fun h19 => ?_)
    · refine v_bipush (pc := 32) (-2) dX9_keeping_32 (by decide) ?_
      refine v_ireturn (pc := 34) dX9_keeping_34 rfl rfl ⟨Nat.le_refl _, Nat.le_refl _⟩ ?_
      exact hB (by omega) (by omega) (by omega)
    · refine v_iload_n (pc := 22) dX9_keeping_22 rfl ?_
      refine v_aload_n (pc := 23) dX9_keeping_23 rfl ?_
      refine v_gR (pc := 24) dX9_keeping_24 fl_X9_34 rfl ?_
      refine v_iload_n (pc := 27) dX9_keeping_27 rfl ?_
      refine v_aI (pc := 28) dX9_keeping_28 rfl rfl (by omega) (by omega) ?_
      refine v_icmp_le (pc := 29) 35 dX9_keeping_29 (by decide) (by omega) (by omega) (fun h29 => ?_) (fun h29 => ?_)
      · refine v_aload_n (pc := 35) dX9_keeping_35 rfl ?_
        refine v_gR (pc := 36) dX9_keeping_36 fl_X9_13 rfl ?_
        refine v_aload_n (pc := 39) dX9_keeping_39 rfl ?_
        refine v_gR (pc := 40) dX9_keeping_40 fl_X9_28 rfl ?_
        refine v_iload_n (pc := 43) dX9_keeping_43 rfl ?_
        refine v_aI (pc := 44) dX9_keeping_44 rfl rfl (by omega) (by omega) ?_
        refine v_aI (pc := 45) dX9_keeping_45 rfl rfl (by omega) (by omega) ?_
        refine v_aload_n (pc := 46) dX9_keeping_46 rfl ?_
        refine v_iload_n (pc := 47) dX9_keeping_47 rfl ?_
        refine v_cVi1 (pc := 48) (z := 0) (d' := d - 1) dX9_keeping_48 kX9_ahead ml_X9_150 iwX9_ahead swX9_ahead rfl rfl (Nat.le_of_ble_eq_true rfl) (Nat.le_of_ble_eq_true rfl) (by omega) ⟨Nat.le_refl _, Nat.le_refl _⟩ ?_
        have s3 := hR.y.mass1 (k := x.toNat) (show ((x.toNat : Nat) : Int) < σ 38 13 by omega)
        have s4 := hR.y.mass x.toNat
        have e3 : mY σ 13 x.toNat = σ 47 x.toNat := rfl
        refine c_X9_ahead (k := x.toNat) (by omega) hR (by omega) (by omega) ?_
        refine ⟨_, rfl, ?_⟩
        refine v_aload_n (pc := 51) dX9_keeping_51 rfl ?_
        refine v_gR (pc := 52) dX9_keeping_52 fl_X9_34 rfl ?_
        refine v_iload_n (pc := 55) dX9_keeping_55 rfl ?_
        refine v_aI (pc := 56) dX9_keeping_56 rfl rfl (by omega) (by omega) ?_
        refine v_iload_n (pc := 57) dX9_keeping_57 rfl ?_
        refine v_isub (pc := 58) dX9_keeping_58 ?_
        refine v_cSl3 (pc := 59) (d' := d - 1) dX9_keeping_59 kX9_low ml_X9_153 stX9_low (Nat.le_of_ble_eq_true rfl) (Nat.le_of_ble_eq_true rfl) (by omega) ⟨Nat.le_refl _, Nat.le_refl _⟩ ?_
        refine c_X9_low (by omega) (by omega) (by omega) (by omega) ?_
        refine ⟨_, rfl, ?_⟩
        refine v_l2i (pc := 62) dX9_keeping_62 ?_
        refine v_ireturn (pc := 63) dX9_keeping_63 rfl rfl ⟨Nat.le_refl _, Nat.le_refl _⟩ ?_
        exact hQ (by omega) (by omega) (by omega) (by omega) (by omega)
      · refine v_bipush (pc := 32) (-2) dX9_keeping_32 (by decide) ?_
        refine v_ireturn (pc := 34) dX9_keeping_34 rfl rfl ⟨Nat.le_refl _, Nat.le_refl _⟩ ?_
        exact hB (by omega) (by omega) (by omega)
  · refine v_iconst (pc := 8) (-1) dX9_keeping_8 (by decide) ?_
    refine v_ireturn (pc := 9) dX9_keeping_9 rfl rfl ⟨Nat.le_refl _, Nat.le_refl _⟩ ?_
    exact hN (by omega)
set_option maxHeartbeats 4000000 in
set_option maxRecDepth 100000 in
theorem l_X9_count3 {g : vGl} {d : Nat} {Q : Option Value → List mC → Prop} {σ : vSt} (hR : MR σ) : ∀ (n : Nat) (j : Nat) (x s : Int) (hx : x = j) (hn : (j : Int) + n = σ 38 12) (hQ : Q (some (vi (s + qSum (σ 43) n j))) (hp σ)), V g mX9_count d (0, 0, 0, 0) Q 57 [(0, .ref 38), (2, vi s), (3, vi x)] [] (hp σ) := by
  intro n
  induction n with
  | zero =>
    intro j x s hx hn hQ
    obtain ⟨⟨r0, r1, r2, r3, r4, r5, r6, r7, r8, r9⟩, rE, rS, rT, rF⟩ := id hR
    refine v_iload_n (pc := 57) dX9_count_57 rfl ?_
    refine v_aload_n (pc := 58) dX9_count_58 rfl ?_
    refine v_gI (pc := 59) dX9_count_59 fl_X9_107 rfl ?_
    refine v_icmp_ge (pc := 62) 80 dX9_count_62 (by decide) (by omega) (by omega) (fun h62 => ?_) (fun h62 => by exfalso; omega)
    refine v_iload_n (pc := 80) dX9_count_80 rfl ?_
    refine v_ireturn (pc := 81) dX9_count_81 rfl rfl ⟨Nat.le_refl _, Nat.le_refl _⟩ ?_
    simpa [qSum] using hQ
  | succ n ih =>
    intro j x s hx hn hQ
    obtain ⟨⟨r0, r1, r2, r3, r4, r5, r6, r7, r8, r9⟩, rE, rS, rT, rF⟩ := id hR
    refine v_iload_n (pc := 57) dX9_count_57 rfl ?_
    refine v_aload_n (pc := 58) dX9_count_58 rfl ?_
    refine v_gI (pc := 59) dX9_count_59 fl_X9_107 rfl ?_
    refine v_icmp_ge (pc := 62) 80 dX9_count_62 (by decide) (by omega) (by omega) (fun h62 => by exfalso; omega) (fun h62 => ?_)
    refine v_iload_n (pc := 65) dX9_count_65 rfl ?_
    refine v_aload_n (pc := 66) dX9_count_66 rfl ?_
    refine v_gR (pc := 67) dX9_count_67 fl_X9_22 rfl ?_
    refine v_iload_n (pc := 70) dX9_count_70 rfl ?_
    refine v_aI (pc := 71) (j := j) dX9_count_71 rfl (by omega) (by omega) (by omega) ?_
    refine v_iadd (pc := 72) dX9_count_72 ?_
    refine v_istore_n (pc := 73) dX9_count_73 (by decide) ?_
    refine v_iinc (pc := 74) (1) dX9_count_74 rfl (by decide) (by decide) ?_
    refine v_goto (pc := 77) 57 dX9_count_77 (by decide) ?_
    refine v_lv (ih (j + 1) (x + 1) _ (by omega) (by omega) ?_) ⟨rfl, rfl, rfl, trivial⟩
    rw [show s + qSum (σ 43) (n + 1) j = s + (σ 43 j + qSum (σ 43) n (j + 1)) from rfl, ← Int.add_assoc] at hQ
    exact hQ
set_option maxHeartbeats 4000000 in
set_option maxRecDepth 100000 in
theorem l_X9_count4 {g : vGl} {d : Nat} {Q : Option Value → List mC → Prop} {σ : vSt} (hR : MR σ) : ∀ (n : Nat) (j : Nat) (x s : Int) (hx : x = j) (hn : (j : Int) + n = σ 38 12) (hQ : Q (some (vi (s + qSum (σ 44) n j))) (hp σ)), V g mX9_count d (0, 0, 0, 0) Q 84 [(0, .ref 38), (2, vi s), (3, vi x)] [] (hp σ) := by
  intro n
  induction n with
  | zero =>
    intro j x s hx hn hQ
    obtain ⟨⟨r0, r1, r2, r3, r4, r5, r6, r7, r8, r9⟩, rE, rS, rT, rF⟩ := id hR
    refine v_iload_n (pc := 84) dX9_count_84 rfl ?_
    refine v_aload_n (pc := 85) dX9_count_85 rfl ?_
    refine v_gI (pc := 86) dX9_count_86 fl_X9_107 rfl ?_
    refine v_icmp_ge (pc := 89) 107 dX9_count_89 (by decide) (by omega) (by omega) (fun h89 => ?_) (fun h89 => by exfalso; omega)
    refine v_iload_n (pc := 107) dX9_count_107 rfl ?_
    refine v_ireturn (pc := 108) dX9_count_108 rfl rfl ⟨Nat.le_refl _, Nat.le_refl _⟩ ?_
    simpa [qSum] using hQ
  | succ n ih =>
    intro j x s hx hn hQ
    obtain ⟨⟨r0, r1, r2, r3, r4, r5, r6, r7, r8, r9⟩, rE, rS, rT, rF⟩ := id hR
    refine v_iload_n (pc := 84) dX9_count_84 rfl ?_
    refine v_aload_n (pc := 85) dX9_count_85 rfl ?_
    refine v_gI (pc := 86) dX9_count_86 fl_X9_107 rfl ?_
    refine v_icmp_ge (pc := 89) 107 dX9_count_89 (by decide) (by omega) (by omega) (fun h89 => by exfalso; omega) (fun h89 => ?_)
    refine v_iload_n (pc := 92) dX9_count_92 rfl ?_
    refine v_aload_n (pc := 93) dX9_count_93 rfl ?_
    refine v_gR (pc := 94) dX9_count_94 fl_X9_25 rfl ?_
    refine v_iload_n (pc := 97) dX9_count_97 rfl ?_
    refine v_aI (pc := 98) (j := j) dX9_count_98 rfl (by omega) (by omega) (by omega) ?_
    refine v_iadd (pc := 99) dX9_count_99 ?_
    refine v_istore_n (pc := 100) dX9_count_100 (by decide) ?_
    refine v_iinc (pc := 101) (1) dX9_count_101 rfl (by decide) (by decide) ?_
    refine v_goto (pc := 104) 84 dX9_count_104 (by decide) ?_
    refine v_lv (ih (j + 1) (x + 1) _ (by omega) (by omega) ?_) ⟨rfl, rfl, rfl, trivial⟩
    rw [show s + qSum (σ 44) (n + 1) j = s + (σ 44 j + qSum (σ 44) n (j + 1)) from rfl, ← Int.add_assoc] at hQ
    exact hQ
def mCount (σ : vSt) (wh : Int) : Int := if wh = 0 then σ 38 12 else if wh = 1 then σ 38 13 else if wh = 2 then σ 38 45 else if wh = 3 then qSum (σ 43) (σ 38 12).toNat 0 else if wh = 4 then qSum (σ 44) (σ 38 12).toNat 0 else if wh = 5 then yMass (mY σ) 0 else -1
set_option maxHeartbeats 4000000 in
set_option maxRecDepth 100000 in
theorem c_X9_count {g : vGl} {d : Nat} {Q : Option Value → List mC → Prop} {σ : vSt} (hd : 4 ≤ d) (hR : MR σ) {wh : Int} (hw : vr wh) (hQ : Q (some (vi (mCount σ wh))) (hp σ)) : V g mX9_count d (0, 0, 0, 0) Q 0 [(0, .ref 38), (1, vi wh)] [] (hp σ) := by
  obtain ⟨⟨r0, r1, r2, r3, r4, r5, r6, r7, r8, r9⟩, rE, rS, rT, rF⟩ := id hR
  refine v_iconst (pc := 0) (0) dX9_count_0 (by decide) ?_
  refine v_istore_n (pc := 1) dX9_count_1 (by decide) ?_
  refine v_iload_n (pc := 2) dX9_count_2 rfl ?_
  rcases (show (wh < 0 ∨ 5 < wh) ∨ wh = 0 ∨ wh = 1 ∨ wh = 2 ∨ wh = 3 ∨ wh = 4 ∨ wh = 5 by omega) with hsw | rfl | rfl | rfl | rfl | rfl | rfl
  · refine v_tableOut (pc := 3) 129 dX9_count_3 (by omega) hsw (by decide) ?_
    refine v_iconst (pc := 129) (-1) dX9_count_129 (by decide) ?_
    refine v_ireturn (pc := 130) dX9_count_130 rfl rfl ⟨Nat.le_refl _, Nat.le_refl _⟩ ?_
    have e : mCount σ wh = -1 := by
      unfold mCount
      rw [if_neg (by omega), if_neg (by omega), if_neg (by omega), if_neg (by omega), if_neg (by omega), if_neg (by omega)]
    rw [e] at hQ; exact hQ
  · refine v_tableIn (pc := 3) 40 dX9_count_3 (by decide) (by decide) (by decide) rfl (by decide) ?_
    refine v_aload_n (pc := 40) dX9_count_40 rfl ?_
    refine v_gI (pc := 41) dX9_count_41 fl_X9_107 rfl ?_
    refine v_ireturn (pc := 44) dX9_count_44 rfl rfl ⟨Nat.le_refl _, Nat.le_refl _⟩ ?_
    exact hQ
  · refine v_tableIn (pc := 3) 45 dX9_count_3 (by decide) (by decide) (by decide) rfl (by decide) ?_
    refine v_aload_n (pc := 45) dX9_count_45 rfl ?_
    refine v_gI (pc := 46) dX9_count_46 fl_X9_110 rfl ?_
    refine v_ireturn (pc := 49) dX9_count_49 rfl rfl ⟨Nat.le_refl _, Nat.le_refl _⟩ ?_
    exact hQ
  · refine v_tableIn (pc := 3) 50 dX9_count_3 (by decide) (by decide) (by decide) rfl (by decide) ?_
    refine v_aload_n (pc := 50) dX9_count_50 rfl ?_
    refine v_gI (pc := 51) dX9_count_51 fl_X9_261 rfl ?_
    refine v_ireturn (pc := 54) dX9_count_54 rfl rfl ⟨Nat.le_refl _, Nat.le_refl _⟩ ?_
    exact hQ
  · refine v_tableIn (pc := 3) 55 dX9_count_3 (by decide) (by decide) (by decide) rfl (by decide) ?_
    refine v_iconst (pc := 55) (0) dX9_count_55 (by decide) ?_
    refine v_istore_n (pc := 56) dX9_count_56 (by decide) ?_
    exact v_lv (l_X9_count3 hR (σ 38 12).toNat 0 0 0 rfl (by omega) (by rw [Int.zero_add]; exact hQ)) ⟨rfl, rfl, rfl, trivial⟩
  · refine v_tableIn (pc := 3) 82 dX9_count_3 (by decide) (by decide) (by decide) rfl (by decide) ?_
    refine v_iconst (pc := 82) (0) dX9_count_82 (by decide) ?_
    refine v_istore_n (pc := 83) dX9_count_83 (by decide) ?_
    exact v_lv (l_X9_count4 hR (σ 38 12).toNat 0 0 0 rfl (by omega) (by rw [Int.zero_add]; exact hQ)) ⟨rfl, rfl, rfl, trivial⟩
  · refine v_tableIn (pc := 3) 109 dX9_count_3 (by decide) (by decide) (by decide) rfl (by decide) ?_
    refine v_aload_n (pc := 109) dX9_count_109 rfl ?_
    refine v_gI (pc := 110) dX9_count_110 fl_X9_110 rfl ?_
    refine v_if_ne (pc := 113) 123 dX9_count_113 (by decide) (by omega) (fun h113 => ?_) (fun h113 => ?_)
    · refine v_aload_n (pc := 123) dX9_count_123 rfl ?_
      refine v_iconst (pc := 124) (0) dX9_count_124 (by decide) ?_
      refine v_cVi1 (pc := 125) (z := 0) (d' := d - 1) dX9_count_125 kX9_ahead ml_X9_150 iwX9_ahead swX9_ahead rfl rfl (Nat.le_of_ble_eq_true rfl) (Nat.le_of_ble_eq_true rfl) (by omega) ⟨Nat.le_refl _, Nat.le_refl _⟩ ?_
      refine c_X9_ahead (k := 0) (by omega) hR (by omega) (by omega) ?_
      refine ⟨_, rfl, ?_⟩
      refine v_ireturn (pc := 128) dX9_count_128 rfl rfl ⟨Nat.le_refl _, Nat.le_refl _⟩ ?_
      first | exact hQ | (refine q_eq hQ ?_; show σ 38 14 = yMass (mY σ) 0; unfold yMass qMass; rw [show (mY σ 10 6).toNat - 0 = 0 from by show (σ 38 13).toNat - 0 = 0; omega]; show σ 38 14 = σ 38 14 + 0; omega)
    · refine v_aload_n (pc := 116) dX9_count_116 rfl ?_
      refine v_gI (pc := 117) dX9_count_117 fl_X9_46 rfl ?_
      refine v_goto (pc := 120) 128 dX9_count_120 (by decide) ?_
      refine v_ireturn (pc := 128) dX9_count_128 rfl rfl ⟨Nat.le_refl _, Nat.le_refl _⟩ ?_
      first | exact hQ | (refine q_eq hQ ?_; show σ 38 14 = yMass (mY σ) 0; unfold yMass qMass; rw [show (mY σ 10 6).toNat - 0 = 0 from by show (σ 38 13).toNat - 0 = 0; omega]; show σ 38 14 = σ 38 14 + 0; omega)
