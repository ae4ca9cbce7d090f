/-! the reference's cheapest engines -/
def kW (σ : vSt) (D L M C F : Nat → Int) : vSt := vRow (vRow (vRow (vRow (vRow σ 55 D) 56 L) 57 M) 58 C) 59 F
section KW
variable (σ : vSt) (D L M C F : Nat → Int) (k : Nat) (z : Int)
theorem kW_55 : vU (kW σ D L M C F) 55 k z = kW σ (qUp D k z) L M C F := by
  unfold kW
  rw [vU_row_o (by decide), vU_row_o (by decide), vU_row_o (by decide), vU_row_o (by decide), vRow_up]
theorem kW_56 : vU (kW σ D L M C F) 56 k z = kW σ D (qUp L k z) M C F := by
  unfold kW
  rw [vU_row_o (by decide), vU_row_o (by decide), vU_row_o (by decide), vRow_up]
theorem kW_57 : vU (kW σ D L M C F) 57 k z = kW σ D L (qUp M k z) C F := by
  unfold kW
  rw [vU_row_o (by decide), vU_row_o (by decide), vRow_up]
theorem kW_58 : vU (kW σ D L M C F) 58 k z = kW σ D L M (qUp C k z) F := by
  unfold kW
  rw [vU_row_o (by decide), vRow_up]
theorem kW_59 : vU (kW σ D L M C F) 59 k z = kW σ D L M C (qUp F k z) := by
  unfold kW
  rw [vRow_up]
theorem kW_54 (G : Nat → Int) : vU (kW (vRow σ 54 G) D L M C F) 54 k z = kW (vRow σ 54 (qUp G k z)) D L M C F := by
  unfold kW
  rw [vU_row_o (by decide), vU_row_o (by decide), vU_row_o (by decide), vU_row_o (by decide), vU_row_o (by decide), vRow_up]
theorem kW_38 : vU (kW σ D L M C F) 38 k z = kW (vU σ 38 k z) D L M C F := by
  unfold kW
  rw [vU_row_o (by decide), vU_row_o (by decide), vU_row_o (by decide), vU_row_o (by decide), vU_row_o (by decide)]
end KW
theorem kW_self (σ : vSt) : kW σ (σ 55) (σ 56) (σ 57) (σ 58) (σ 59) = σ := by
  unfold kW
  rw [vRow_self, vRow_self, vRow_self, vRow_self, vRow_self]
def kX (e : vSt) (u : Int) (k : Nat) (D L M C F : Nat → Int) : Prop := ∀ j, k ≤ j → j ≤ sN e → M j = cMa e j D ∧ L j = cLo e j D ∧ C j = cCo e j D ∧ (F j = 0 ∨ F j = 1) ∧ (F j = 1 ↔ cLi e u j D)
theorem kX_s {e : vSt} {u v : Int} {k : Nat} {D L M C F : Nat → Int} (h : kX e u (k + 1) D L M C F) (hv : v = 0 ∨ v = 1) (hl : v = 1 ↔ cLi e u k D) : kX e u k D (qUp L k (cLo e k D)) (qUp M k (cMa e k D)) (qUp C k (cCo e k D)) (qUp F k v) := by
  intro j p q
  by_cases ej : j = k
  · subst ej
    rw [show qUp M j (cMa e j D) j = cMa e j D from if_pos rfl, show qUp L j (cLo e j D) j = cLo e j D from if_pos rfl, show qUp C j (cCo e j D) j = cCo e j D from if_pos rfl, show qUp F j v j = v from if_pos rfl]
    exact ⟨rfl, rfl, rfl, hv, hl⟩
  · rw [show qUp M k (cMa e k D) j = M j from if_neg ej, show qUp L k (cLo e k D) j = L j from if_neg ej, show qUp C k (cCo e k D) j = C j from if_neg ej, show qUp F k v j = F j from if_neg ej]
    exact h j (by omega) q
theorem kX_c {e : vSt} {u : Int} {k : Nat} {D D2 L M C F : Nat → Int} (h : kX e u k D L M C F) (ag : sAg (sN e) k D D2) : kX e u k D2 L M C F := by
  intro j p q
  obtain ⟨a, b, c, d, f⟩ := h j p q
  have ga := ag.d p
  have ag2 : sAg (sN e) j D2 D := fun i p q => (ga i p q).symm
  exact ⟨a.trans (cMa_c ga), b.trans (cLo_c ga), c.trans (cCo_c ga), d, f.trans ⟨cLi_c ga, cLi_c ag2⟩⟩
set_option maxHeartbeats 4000000 in
set_option maxRecDepth 100000 in
theorem c_X9_puts {g : vGl} {d : Nat} {Q : Option Value → List mC → Prop} {σ : vSt} {D L M C F : Nat → Int} {u : Int} (hR : YR σ) (hm : IM σ) (hn3 : sN σ ≤ 3) (hu : 0 ≤ u ∧ u ≤ 1000) {k : Nat} {s : Int} (hd : 1 ≤ d) (hs : s = k) (hkn : k < sN σ) (ho : cOk σ k D) (hX : kX σ u (k + 1) D L M C F) (hQ : ∀ v : Int, (v = 0 ∨ v = 1) → (v = 1 ↔ cLi σ u k D) → Q none (hp (kW σ D (qUp L k (cLo σ k D)) (qUp M k (cMa σ k D)) (qUp C k (cCo σ k D)) (qUp F k v)))) : V g mX9_puts d (0, 0, 0, 0) Q 0 [(0, .ref 38), (1, vi s), (2, vi u)] [] (hp (kW σ D L M C F)) := by
  obtain ⟨⟨r0, r1, r2, r3, r4, r5, r6, r7, r8, r9⟩, rE, rS, rT, rF⟩ := id hR
  have x1 := hX (k + 1) (Nat.le_refl _) (by omega)
  have ok := ho k (Nat.le_refl _) hkn
  have g1 := rE (D k / 3).toNat
  have g13 := rS k
  have a15 := hm.1.2.2.2.1
  have et : yTank (mY (kW σ D L M C F)) (σ 13 k) = qTank (σ 2 1) (σ 13 k) := by show qTank (σ 38 15) (σ 13 k) = _; rw [a15]
  have qt := qTank_le (sr := σ 2 1) (z := σ 13 k) (by omega) (by omega) (by omega) (by omega)
  have ms := cMa_s (w := D) hkn
  have ls := cLo_s (w := D) hkn
  have cs := cCo_s (w := D) hkn
  have e1 : cWt σ (D k) = σ 6 (D k / 3).toNat * (D k % 3 + 1) := Int.mul_comm _ _
  have e2 : cPr σ (D k) = σ 7 (D k / 3).toNat * (D k % 3 + 1) := Int.mul_comm _ _
  have e3 : cSh σ k = σ 14 k + qTank (σ 2 1) (σ 13 k) := rfl
  have e4 : cGa σ D k = qLow (1000 * σ 5 (D k / 3).toNat) (σ 13 k).toNat (cMa σ k D) := rfl
  have m1 := cMa_1 hR hkn ho
  have m2 := cMa_r hR D k
  have pr := cPr_rng hR (D k)
  have m3 := mul_le (a := 100 * σ 4 (D k / 3).toNat) (b := D k % 3 + 1) (A := 99900) (B := 3) (by omega) (by omega) (by omega) (by omega)
  have dq : 0 ≤ 100 * σ 4 (D k / 3).toNat * (D k % 3 + 1) / cMa σ k D := Int.ediv_nonneg (by omega) (by omega)
  have dq2 : 100 * σ 4 (D k / 3).toNat * (D k % 3 + 1) / cMa σ k D ≤ 100 * σ 4 (D k / 3).toNat * (D k % 3 + 1) := Int.ediv_le_self _ (by omega)
  refine v_aload_n (pc := 0) dX9_puts_0 rfl ?_
  refine v_gR (pc := 1) dX9_puts_1 fl_X9_68 rfl ?_
  refine v_iload_n (pc := 4) dX9_puts_4 rfl ?_
  refine v_aIv (pc := 5) (j := k) (D k) dX9_puts_5 rfl (by omega) (by omega) (by omega) rfl ?_
  refine v_iconst (pc := 6) (3) dX9_puts_6 (by decide) ?_
  refine v_idiv (pc := 7) dX9_puts_7 (by omega) (by omega) (by omega) ?_
  refine v_top (show _ = D k / 3 from tdiv_pos (by omega)) ?_
  refine v_istore_n (pc := 8) dX9_puts_8 (by decide) ?_
  refine v_aload_n (pc := 9) dX9_puts_9 rfl ?_
  refine v_gR (pc := 10) dX9_puts_10 fl_X9_68 rfl ?_
  refine v_iload_n (pc := 13) dX9_puts_13 rfl ?_
  refine v_aIv (pc := 14) (j := k) (D k) dX9_puts_14 rfl (by omega) (by omega) (by omega) rfl ?_
  refine v_iconst (pc := 15) (3) dX9_puts_15 (by decide) ?_
  refine v_irem (pc := 16) dX9_puts_16 (by omega) (by omega) (by omega) ?_
  refine v_top (show _ = D k % 3 by rw [tdiv_pos (by omega)]; omega) ?_
  refine v_iconst (pc := 17) (1) dX9_puts_17 (by decide) ?_
  refine v_iadd (pc := 18) dX9_puts_18 ?_
  refine v_istore (pc := 19) dX9_puts_19 (by decide) ?_
  refine v_aload_n (pc := 21) dX9_puts_21 rfl ?_
  refine v_gR (pc := 22) dX9_puts_22 fl_X9_75 rfl ?_
  refine v_iload_n (pc := 25) dX9_puts_25 rfl ?_
  refine v_iconst (pc := 26) (1) dX9_puts_26 (by decide) ?_
  refine v_iadd (pc := 27) dX9_puts_27 ?_
  refine v_aJv (pc := 28) (j := k + 1) (cMa σ (k + 1) D) dX9_puts_28 rfl (by omega) (by omega) (by omega) x1.1 ?_
  refine v_l2i (pc := 29) dX9_puts_29 ?_
  refine v_aload_n (pc := 30) dX9_puts_30 rfl ?_
  refine v_gR (pc := 31) dX9_puts_31 fl_X9_16 rfl ?_
  refine v_iload_n (pc := 34) dX9_puts_34 rfl ?_
  refine v_aIv (pc := 35) (j := ((D k / 3).toNat)) (σ 6 ((D k / 3).toNat)) dX9_puts_35 rfl rfl (by omega) (by omega) (congrFun hm.2.1.2.2.1 _) ?_
  refine v_iload (pc := 36) dX9_puts_36 rfl ?_
  refine v_imul (pc := 38) dX9_puts_38 ?_
  refine v_iadd (pc := 39) dX9_puts_39 ?_
  refine v_aload_n (pc := 40) dX9_puts_40 rfl ?_
  refine v_aload_n (pc := 41) dX9_puts_41 rfl ?_
  refine v_gR (pc := 42) dX9_puts_42 fl_X9_34 rfl ?_
  refine v_iload_n (pc := 45) dX9_puts_45 rfl ?_
  refine v_aIv (pc := 46) (j := k) (σ 13 k) dX9_puts_46 rfl (by omega) (by omega) (by omega) (congrFun hm.2.2.2.2.1 k) ?_
  refine v_cVi1 (pc := 47) (z := 0) (d' := d - 1) dX9_puts_47 kX9_tank ml_X9_140 iwX9_tank swX9_tank rfl rfl (Nat.le_of_ble_eq_true rfl) (Nat.le_of_ble_eq_true rfl) (by omega) ⟨Nat.le_refl _, Nat.le_refl _⟩ ?_
  refine c_X9_tank (by omega) (show 0 ≤ σ 38 15 ∧ σ 38 15 ≤ 100 by omega) ?_
  refine ⟨_, rfl, ?_⟩
  refine v_iadd (pc := 50) dX9_puts_50 ?_
  refine v_aload_n (pc := 51) dX9_puts_51 rfl ?_
  refine v_gR (pc := 52) dX9_puts_52 fl_X9_37 rfl ?_
  refine v_iload_n (pc := 55) dX9_puts_55 rfl ?_
  refine v_aIv (pc := 56) (j := k) (σ 14 k) dX9_puts_56 rfl (by omega) (by omega) (by omega) (congrFun hm.2.2.2.2.2 k) ?_
  refine v_iadd (pc := 57) dX9_puts_57 ?_
  refine v_aload_n (pc := 58) dX9_puts_58 rfl ?_
  refine v_gR (pc := 59) dX9_puts_59 fl_X9_34 rfl ?_
  refine v_iload_n (pc := 62) dX9_puts_62 rfl ?_
  refine v_aIv (pc := 63) (j := k) (σ 13 k) dX9_puts_63 rfl (by omega) (by omega) (by omega) (congrFun hm.2.2.2.2.1 k) ?_
  refine v_iadd (pc := 64) dX9_puts_64 ?_
  refine v_top (show _ = cMa σ k D by rw [et]; omega) ?_
  refine v_istore (pc := 65) dX9_puts_65 (by decide) ?_
  refine v_aload_n (pc := 67) dX9_puts_67 rfl ?_
  refine v_gR (pc := 68) dX9_puts_68 fl_X9_75 rfl ?_
  refine v_iload_n (pc := 71) dX9_puts_71 rfl ?_
  refine v_iload (pc := 72) dX9_puts_72 rfl ?_
  refine v_i2l (pc := 74) dX9_puts_74 (by omega) ?_
  refine v_sJ (pc := 75) (j := k) dX9_puts_75 rfl (by omega) (by omega) (by omega) ?_
  refine v_aload_n (pc := 76) dX9_puts_76 rfl ?_
  refine v_gR (pc := 77) dX9_puts_77 fl_X9_71 rfl ?_
  refine v_iload_n (pc := 80) dX9_puts_80 rfl ?_
  refine v_aload_n (pc := 81) dX9_puts_81 rfl ?_
  refine v_gR (pc := 82) dX9_puts_82 fl_X9_71 rfl ?_
  refine v_iload_n (pc := 85) dX9_puts_85 rfl ?_
  refine v_iconst (pc := 86) (1) dX9_puts_86 (by decide) ?_
  refine v_iadd (pc := 87) dX9_puts_87 ?_
  refine v_aJv (pc := 88) (j := k + 1) (cLo σ (k + 1) D) dX9_puts_88 rfl (by omega) (by omega) (by omega) x1.2.1 ?_
  refine v_aload_n (pc := 89) dX9_puts_89 rfl ?_
  refine v_gR (pc := 90) dX9_puts_90 fl_X9_13 rfl ?_
  refine v_iload_n (pc := 93) dX9_puts_93 rfl ?_
  refine v_aIv (pc := 94) (j := ((D k / 3).toNat)) (σ 5 ((D k / 3).toNat)) dX9_puts_94 rfl rfl (by omega) (by omega) (congrFun hm.2.1.2.1 _) ?_
  refine v_iload (pc := 95) dX9_puts_95 rfl ?_
  refine v_aload_n (pc := 97) dX9_puts_97 rfl ?_
  refine v_gR (pc := 98) dX9_puts_98 fl_X9_34 rfl ?_
  refine v_iload_n (pc := 101) dX9_puts_101 rfl ?_
  refine v_aIv (pc := 102) (j := k) (σ 13 k) dX9_puts_102 rfl (by omega) (by omega) (by omega) (congrFun hm.2.2.2.2.1 k) ?_
  refine v_cSl3 (pc := 103) (d' := d - 1) dX9_puts_103 kX9_low ml_X9_153 stX9_low (Nat.le_of_ble_eq_true rfl) (Nat.le_of_ble_eq_true rfl) (by omega) ⟨Nat.le_refl _, Nat.le_refl _⟩ ?_
  refine c_X9_low (by omega) (by omega) (by omega) (by omega) ?_
  refine ⟨_, rfl, ?_⟩
  refine v_ladd (pc := 106) dX9_puts_106 ?_
  refine v_topj (show _ = cLo σ k D by omega) ?_
  refine v_sJ (pc := 107) (j := k) dX9_puts_107 rfl (by omega) (by omega) (by omega) ?_
  refine v_aload_n (pc := 108) dX9_puts_108 rfl ?_
  refine v_gR (pc := 109) dX9_puts_109 fl_X9_78 rfl ?_
  refine v_iload_n (pc := 112) dX9_puts_112 rfl ?_
  refine v_aload_n (pc := 113) dX9_puts_113 rfl ?_
  refine v_gR (pc := 114) dX9_puts_114 fl_X9_78 rfl ?_
  refine v_iload_n (pc := 117) dX9_puts_117 rfl ?_
  refine v_iconst (pc := 118) (1) dX9_puts_118 (by decide) ?_
  refine v_iadd (pc := 119) dX9_puts_119 ?_
  refine v_aJv (pc := 120) (j := k + 1) (cCo σ (k + 1) D) dX9_puts_120 rfl (by omega) (by omega) (by omega) x1.2.2.1 ?_
  refine v_aload_n (pc := 121) dX9_puts_121 rfl ?_
  refine v_gR (pc := 122) dX9_puts_122 fl_X9_19 rfl ?_
  refine v_iload_n (pc := 125) dX9_puts_125 rfl ?_
  refine v_aIv (pc := 126) (j := ((D k / 3).toNat)) (σ 7 ((D k / 3).toNat)) dX9_puts_126 rfl rfl (by omega) (by omega) (congrFun hm.2.1.2.2.2.1 _) ?_
  refine v_iload (pc := 127) dX9_puts_127 rfl ?_
  refine v_imul (pc := 129) dX9_puts_129 ?_
  refine v_i2l (pc := 130) dX9_puts_130 (by omega) ?_
  refine v_ladd (pc := 131) dX9_puts_131 ?_
  refine v_topj (show _ = cCo σ k D by omega) ?_
  refine v_sJ (pc := 132) (j := k) dX9_puts_132 rfl (by omega) (by omega) (by omega) ?_
  refine v_aload_n (pc := 133) dX9_puts_133 rfl ?_
  refine v_gR (pc := 134) dX9_puts_134 fl_X9_81 rfl ?_
  refine v_iload_n (pc := 137) dX9_puts_137 rfl ?_
  refine v_aload_n (pc := 138) dX9_puts_138 rfl ?_
  refine v_gR (pc := 139) dX9_puts_139 fl_X9_81 rfl ?_
  refine v_iload_n (pc := 142) dX9_puts_142 rfl ?_
  refine v_iconst (pc := 143) (1) dX9_puts_143 (by decide) ?_
  refine v_iadd (pc := 144) dX9_puts_144 ?_
  refine v_aZ (pc := 145) (j := k + 1) dX9_puts_145 rfl (by omega) (by omega) (by omega) ?_
  refine v_top (show _ = F (k + 1) from rfl) ?_
  refine v_if_eq (pc := 146) 172 dX9_puts_146 (by decide) (by omega) (fun h146 => ?_) (fun h146 => ?_)
  · refine v_iconst (pc := 172) (0) dX9_puts_172 (by decide) ?_
    first
    | (refine v_sZ (pc := 173) (j := k) dX9_puts_173 rfl (by omega) (by omega) (by omega) (Or.inr rfl) ?_
       refine v_return (pc := 174) dX9_puts_174 rfl ⟨Nat.le_refl _, Nat.le_refl _⟩ ?_
       rw [kW_57, kW_56, kW_58, kW_59]
       exact hQ 1 (Or.inr rfl) ⟨fun _ => (cLi_s hkn).mpr ⟨by show u ≤ _; omega, x1.2.2.2.2.mp (by omega)⟩, fun _ => rfl⟩)
    | (refine v_sZ (pc := 173) (j := k) dX9_puts_173 rfl (by omega) (by omega) (by omega) (Or.inl rfl) ?_
       refine v_return (pc := 174) dX9_puts_174 rfl ⟨Nat.le_refl _, Nat.le_refl _⟩ ?_
       rw [kW_57, kW_56, kW_58, kW_59]
       refine hQ 0 (Or.inl rfl) ⟨fun t => absurd t (by decide), fun t => ?_⟩
       exfalso
       have t2 := (cLi_s hkn).mp t
       have t3 : u ≤ 100 * σ 4 (D k / 3).toNat * (D k % 3 + 1) / cMa σ k D := t2.1
       have t4 := x1.2.2.2.2.mpr t2.2
       omega)
  · refine v_bipush (pc := 149) (100) dX9_puts_149 (by decide) ?_
    refine v_aload_n (pc := 151) dX9_puts_151 rfl ?_
    refine v_gR (pc := 152) dX9_puts_152 fl_X9_7 rfl ?_
    refine v_iload_n (pc := 155) dX9_puts_155 rfl ?_
    refine v_aIv (pc := 156) (j := ((D k / 3).toNat)) (σ 4 ((D k / 3).toNat)) dX9_puts_156 rfl rfl (by omega) (by omega) (congrFun hm.2.1.1 _) ?_
    refine v_imul (pc := 157) dX9_puts_157 ?_
    refine v_iload (pc := 158) dX9_puts_158 rfl ?_
    refine v_imul (pc := 160) dX9_puts_160 ?_
    refine v_iload (pc := 161) dX9_puts_161 rfl ?_
    refine v_idiv (pc := 163) dX9_puts_163 (by omega) (by omega) (by omega) ?_
    refine v_top (show _ = 100 * σ 4 (D k / 3).toNat * (D k % 3 + 1) / cMa σ k D from tdiv_pos (by omega)) ?_
    refine v_iload_n (pc := 164) dX9_puts_164 rfl ?_
    refine v_icmp_lt (pc := 165) 172 dX9_puts_165 (by decide) (by omega) (by omega) (fun h165 => ?_) (fun h165 => ?_)
    · refine v_iconst (pc := 172) (0) dX9_puts_172 (by decide) ?_
      first
      | (refine v_sZ (pc := 173) (j := k) dX9_puts_173 rfl (by omega) (by omega) (by omega) (Or.inr rfl) ?_
         refine v_return (pc := 174) dX9_puts_174 rfl ⟨Nat.le_refl _, Nat.le_refl _⟩ ?_
         rw [kW_57, kW_56, kW_58, kW_59]
         exact hQ 1 (Or.inr rfl) ⟨fun _ => (cLi_s hkn).mpr ⟨by show u ≤ _; omega, x1.2.2.2.2.mp (by omega)⟩, fun _ => rfl⟩)
      | (refine v_sZ (pc := 173) (j := k) dX9_puts_173 rfl (by omega) (by omega) (by omega) (Or.inl rfl) ?_
         refine v_return (pc := 174) dX9_puts_174 rfl ⟨Nat.le_refl _, Nat.le_refl _⟩ ?_
         rw [kW_57, kW_56, kW_58, kW_59]
         refine hQ 0 (Or.inl rfl) ⟨fun t => absurd t (by decide), fun t => ?_⟩
         exfalso
         have t2 := (cLi_s hkn).mp t
         have t3 : u ≤ 100 * σ 4 (D k / 3).toNat * (D k % 3 + 1) / cMa σ k D := t2.1
         have t4 := x1.2.2.2.2.mpr t2.2
         omega)
    · refine v_iconst (pc := 168) (1) dX9_puts_168 (by decide) ?_
      refine v_goto (pc := 169) 173 dX9_puts_169 (by decide) ?_
      first
      | (refine v_sZ (pc := 173) (j := k) dX9_puts_173 rfl (by omega) (by omega) (by omega) (Or.inr rfl) ?_
         refine v_return (pc := 174) dX9_puts_174 rfl ⟨Nat.le_refl _, Nat.le_refl _⟩ ?_
         rw [kW_57, kW_56, kW_58, kW_59]
         exact hQ 1 (Or.inr rfl) ⟨fun _ => (cLi_s hkn).mpr ⟨by show u ≤ _; omega, x1.2.2.2.2.mp (by omega)⟩, fun _ => rfl⟩)
      | (refine v_sZ (pc := 173) (j := k) dX9_puts_173 rfl (by omega) (by omega) (by omega) (Or.inl rfl) ?_
         refine v_return (pc := 174) dX9_puts_174 rfl ⟨Nat.le_refl _, Nat.le_refl _⟩ ?_
         rw [kW_57, kW_56, kW_58, kW_59]
         refine hQ 0 (Or.inl rfl) ⟨fun t => absurd t (by decide), fun t => ?_⟩
         exfalso
         have t2 := (cLi_s hkn).mp t
         have t3 : u ≤ 100 * σ 4 (D k / 3).toNat * (D k % 3 + 1) / cMa σ k D := t2.1
         have t4 := x1.2.2.2.2.mpr t2.2
         omega)
set_option maxHeartbeats 4000000 in
set_option maxRecDepth 100000 in
theorem l_ch137 {g : vGl} {d : Nat} {Q : Option Value → List mC → Prop} {σ : vSt} {u : Int} (hd : 2 ≤ d) (hR : YR σ) (hm : IM σ) (hn3 : sN σ ≤ 3) (hu : 0 ≤ u ∧ u ≤ 1000) {sp W : Int} {D : Nat → Int} (K : ∀ L M C F : Nat → Int, kX σ u 0 D L M C F → V g mX9_cheapest d (0, 0, 0, 0) Q 155 [(0, .ref 38), (1, vi sp), (2, vi u), (3, vi W)] [] (hp (kW σ D L M C F))) : ∀ (m : Nat) (x : Int) (L M C F : Nat → Int) (hx : x + 1 = m) (hmn : m ≤ sN σ) (ho : ∀ j, j < sN σ → 0 ≤ D j ∧ D j < 3 * σ 3 6) (hX : kX σ u m D L M C F), V g mX9_cheapest d (0, 0, 0, 0) Q 137 [(0, .ref 38), (1, vi sp), (2, vi u), (3, vi W), (4, vi x)] [] (hp (kW σ D L M C F)) := by
  intro m
  induction m with
  | zero =>
    intro x L M C F hx hmn ho hX
    refine v_iload (pc := 137) dX9_cheapest_137 rfl ?_
    refine v_if_lt (pc := 139) 155 dX9_cheapest_139 (by decide) (by omega) (fun h139 => ?_) (fun h139 => by exfalso; omega)
    exact v_lv (K L M C F hX) ⟨rfl, rfl, rfl, rfl, trivial⟩
  | succ k ih =>
    intro x L M C F hx hmn ho hX
    refine v_iload (pc := 137) dX9_cheapest_137 rfl ?_
    refine v_if_lt (pc := 139) 155 dX9_cheapest_139 (by decide) (by omega) (fun h139 => by exfalso; omega) (fun h139 => ?_)
    refine v_aload_n (pc := 142) dX9_cheapest_142 rfl ?_
    refine v_iload (pc := 143) dX9_cheapest_143 rfl ?_
    refine v_iload_n (pc := 145) dX9_cheapest_145 rfl ?_
    refine v_cVv2 (pc := 146) (z := 0) (d' := d - 1) dX9_cheapest_146 kX9_puts ml_X9_184 iwX9_puts swX9_puts rfl rfl (Nat.le_of_ble_eq_true rfl) (Nat.le_of_ble_eq_true rfl) (by omega) ⟨Nat.le_refl _, Nat.le_refl _⟩ ?_
    refine c_X9_puts (k := k) hR hm hn3 hu (by omega) (by omega) (by omega) (fun j p q => ho j q) hX (fun v v1 v2 => ?_)
    refine ⟨rfl, ?_⟩
    refine v_iinc (pc := 149) (-1) dX9_cheapest_149 rfl (by decide) (by decide) ?_
    refine v_goto (pc := 152) 137 dX9_cheapest_152 (by decide) ?_
    exact v_lv (ih (x + (-1)) _ _ _ _ (by omega) (by omega) ho (kX_s hX v1 v2)) ⟨rfl, rfl, rfl, rfl, rfl, trivial⟩
set_option maxHeartbeats 4000000 in
set_option maxRecDepth 100000 in
theorem l_ch375 {g : vGl} {d : Nat} {Q : Option Value → List mC → Prop} {σ : vSt} {u : Int} (hd : 2 ≤ d) (hR : YR σ) (hm : IM σ) (hn3 : sN σ ≤ 3) (hu : 0 ≤ u ∧ u ≤ 1000) {sp W best bk s1 : Int} {D : Nat → Int} (K : ∀ L M C F : Nat → Int, kX σ u 0 D L M C F → V g mX9_cheapest d (0, 0, 0, 0) Q 393 [(0, .ref 38), (1, vi sp), (2, vi u), (3, vi W), (4, vj best), (6, vi bk), (7, vi s1)] [] (hp (kW σ D L M C F))) : ∀ (m : Nat) (x : Int) (L M C F : Nat → Int) (hx : x + 1 = m) (hmn : m ≤ sN σ) (ho : ∀ j, j < sN σ → 0 ≤ D j ∧ D j < 3 * σ 3 6) (hX : kX σ u m D L M C F), V g mX9_cheapest d (0, 0, 0, 0) Q 375 [(0, .ref 38), (1, vi sp), (2, vi u), (3, vi W), (4, vj best), (6, vi bk), (7, vi s1), (10, vi x)] [] (hp (kW σ D L M C F)) := by
  intro m
  induction m with
  | zero =>
    intro x L M C F hx hmn ho hX
    refine v_iload (pc := 375) dX9_cheapest_375 rfl ?_
    refine v_if_lt (pc := 377) 393 dX9_cheapest_377 (by decide) (by omega) (fun h377 => ?_) (fun h377 => by exfalso; omega)
    exact v_lv (K L M C F hX) ⟨rfl, rfl, rfl, rfl, rfl, rfl, rfl, trivial⟩
  | succ k ih =>
    intro x L M C F hx hmn ho hX
    refine v_iload (pc := 375) dX9_cheapest_375 rfl ?_
    refine v_if_lt (pc := 377) 393 dX9_cheapest_377 (by decide) (by omega) (fun h377 => by exfalso; omega) (fun h377 => ?_)
    refine v_aload_n (pc := 380) dX9_cheapest_380 rfl ?_
    refine v_iload (pc := 381) dX9_cheapest_381 rfl ?_
    refine v_iload_n (pc := 383) dX9_cheapest_383 rfl ?_
    refine v_cVv2 (pc := 384) (z := 0) (d' := d - 1) dX9_cheapest_384 kX9_puts ml_X9_184 iwX9_puts swX9_puts rfl rfl (Nat.le_of_ble_eq_true rfl) (Nat.le_of_ble_eq_true rfl) (by omega) ⟨Nat.le_refl _, Nat.le_refl _⟩ ?_
    refine c_X9_puts (k := k) hR hm hn3 hu (by omega) (by omega) (by omega) (fun j p q => ho j q) hX (fun v v1 v2 => ?_)
    refine ⟨rfl, ?_⟩
    refine v_iinc (pc := 387) (-1) dX9_cheapest_387 rfl (by decide) (by decide) ?_
    refine v_goto (pc := 390) 375 dX9_cheapest_390 (by decide) ?_
    exact v_lv (ih (x + (-1)) _ _ _ _ (by omega) (by omega) ho (kX_s hX v1 v2)) ⟨rfl, rfl, rfl, rfl, rfl, rfl, rfl, rfl, trivial⟩
set_option maxHeartbeats 4000000 in
set_option maxRecDepth 100000 in
theorem l_ch181 {g : vGl} {d : Nat} {Q : Option Value → List mC → Prop} {σ : vSt} {u : Int} (hd : 2 ≤ d) (hR : YR σ) (hm : IM σ) (hn3 : sN σ ≤ 3) (hu : 0 ≤ u ∧ u ≤ 1000) {sp W best bk : Int} {D L M C F : Nat → Int} (KK : V g mX9_cheapest d (0, 0, 0, 0) Q 211 [(0, .ref 38), (1, vi sp), (2, vi u), (3, vi W), (4, vj best), (6, vi bk), (8, vi (c18 D (sN σ)))] [] (hp (kW σ D L M C F))) : ∀ (m k : Nat) (x : Int) (hx : x = k) (hmn : k + m = sN σ), V g mX9_cheapest d (0, 0, 0, 0) Q 181 [(0, .ref 38), (1, vi sp), (2, vi u), (3, vi W), (4, vj best), (6, vi bk), (8, vi (c18 D k)), (9, vi x)] [] (hp (kW σ D L M C F)) := by
  have eN : ((sN σ : Nat) : Int) = σ 10 6 := by show (((σ 10 6).toNat : Nat) : Int) = σ 10 6; have := hR.1; omega
  intro m
  induction m with
  | zero =>
    intro k x hx hmn
    refine v_iload (pc := 181) dX9_cheapest_181 rfl ?_
    refine v_aload_n (pc := 183) dX9_cheapest_183 rfl ?_
    refine v_gIv (pc := 184) (σ 10 6) dX9_cheapest_184 fl_X9_110 rfl hm.1.2.1 ?_
    refine v_icmp_ge (pc := 187) 211 dX9_cheapest_187 (by decide) (by omega) (by omega) (fun h187 => ?_) (fun h187 => by exfalso; omega)
    have ek : k = sN σ := by omega
    rw [ek]
    exact v_lv KK ⟨rfl, rfl, rfl, rfl, rfl, rfl, rfl, trivial⟩
  | succ m ih =>
    intro k x hx hmn
    refine v_iload (pc := 181) dX9_cheapest_181 rfl ?_
    refine v_aload_n (pc := 183) dX9_cheapest_183 rfl ?_
    refine v_gIv (pc := 184) (σ 10 6) dX9_cheapest_184 fl_X9_110 rfl hm.1.2.1 ?_
    refine v_icmp_ge (pc := 187) 211 dX9_cheapest_187 (by decide) (by omega) (by omega) (fun h187 => by exfalso; omega) (fun h187 => ?_)
    refine v_bipush (pc := 190) (18) dX9_cheapest_190 (by decide) ?_
    refine v_iload (pc := 192) dX9_cheapest_192 rfl ?_
    refine v_imul (pc := 194) dX9_cheapest_194 ?_
    refine v_aload_n (pc := 195) dX9_cheapest_195 rfl ?_
    refine v_gR (pc := 196) dX9_cheapest_196 fl_X9_68 rfl ?_
    refine v_iload (pc := 199) dX9_cheapest_199 rfl ?_
    refine v_aIv (pc := 201) (j := k) (D k) dX9_cheapest_201 rfl (by omega) (by omega) (by omega) rfl ?_
    refine v_iadd (pc := 202) dX9_cheapest_202 ?_
    refine v_istore (pc := 203) dX9_cheapest_203 (by decide) ?_
    refine v_iinc (pc := 205) (1) dX9_cheapest_205 rfl (by decide) (by decide) ?_
    refine v_goto (pc := 208) 181 dX9_cheapest_208 (by decide) ?_
    exact v_lv (ih (k + 1) (x + 1) (by omega) (by omega)) ⟨rfl, rfl, rfl, rfl, rfl, rfl, rfl, rfl, trivial⟩
set_option maxHeartbeats 4000000 in
set_option maxRecDepth 100000 in
theorem l_ch297 {g : vGl} {d : Nat} {Q : Option Value → List mC → Prop} {σ : vSt} {u : Int} (hd : 2 ≤ d) (hR : YR σ) (hm : IM σ) (hn3 : sN σ ≤ 3) (hu : 0 ≤ u ∧ u ≤ 1000) {sp W best bk : Int} (hW : W = 3 * σ 3 6) {L M C F : Nat → Int} : ∀ (m s : Nat) (x : Int) (D : Nat → Int) (hx : x = s) (hmn : s + m = sN σ) (hD : ∀ j, s ≤ j → j < sN σ → 0 ≤ D j ∧ D j < W) (KK : V g mX9_cheapest d (0, 0, 0, 0) Q 333 [(0, .ref 38), (1, vi sp), (2, vi u), (3, vi W), (4, vj best), (6, vi bk), (7, vi ((qOd W m s D).2 : Int))] [] (hp (kW σ (qOd W m s D).1 L M C F))), V g mX9_cheapest d (0, 0, 0, 0) Q 297 [(0, .ref 38), (1, vi sp), (2, vi u), (3, vi W), (4, vj best), (6, vi bk), (7, vi x)] [] (hp (kW σ D L M C F)) := by
  have eN : ((sN σ : Nat) : Int) = σ 10 6 := by show (((σ 10 6).toNat : Nat) : Int) = σ 10 6; have := hR.1; omega
  have r36 := hR.1
  intro m
  induction m with
  | zero =>
    intro s x D hx hmn hD KK
    refine v_iload (pc := 297) dX9_cheapest_297 rfl ?_
    refine v_aload_n (pc := 299) dX9_cheapest_299 rfl ?_
    refine v_gIv (pc := 300) (σ 10 6) dX9_cheapest_300 fl_X9_110 rfl hm.1.2.1 ?_
    refine v_icmp_ge (pc := 303) 333 dX9_cheapest_303 (by decide) (by omega) (by omega) (fun h303 => ?_) (fun h303 => by exfalso; omega)
    rw [hx]
    exact v_lv KK ⟨rfl, rfl, rfl, rfl, rfl, rfl, rfl, trivial⟩
  | succ m ih =>
    intro s x D hx hmn hD KK
    have hs := hD s (by omega)
    refine v_iload (pc := 297) dX9_cheapest_297 rfl ?_
    refine v_aload_n (pc := 299) dX9_cheapest_299 rfl ?_
    refine v_gIv (pc := 300) (σ 10 6) dX9_cheapest_300 fl_X9_110 rfl hm.1.2.1 ?_
    refine v_icmp_ge (pc := 303) 333 dX9_cheapest_303 (by decide) (by omega) (by omega) (fun h303 => by exfalso; omega) (fun h303 => ?_)
    refine v_aload_n (pc := 306) dX9_cheapest_306 rfl ?_
    refine v_gR (pc := 307) dX9_cheapest_307 fl_X9_68 rfl ?_
    refine v_iload (pc := 310) dX9_cheapest_310 rfl ?_
    refine v_aIv (pc := 312) (j := s) (D s) dX9_cheapest_312 rfl (by omega) (by omega) (by omega) rfl ?_
    refine v_iload_n (pc := 313) dX9_cheapest_313 rfl ?_
    refine v_iconst (pc := 314) (1) dX9_cheapest_314 (by decide) ?_
    refine v_isub (pc := 315) dX9_cheapest_315 ?_
    refine v_icmp_ne (pc := 316) 333 dX9_cheapest_316 (by decide) (by omega) (by omega) (fun h316 => ?_) (fun h316 => ?_)
    · have e0 : qOd W (m + 1) s D = (D, s) := if_neg (by omega)
      rw [e0] at KK
      rw [hx]
      exact v_lv KK ⟨rfl, rfl, rfl, rfl, rfl, rfl, rfl, trivial⟩
    · refine v_aload_n (pc := 319) dX9_cheapest_319 rfl ?_
      refine v_gR (pc := 320) dX9_cheapest_320 fl_X9_68 rfl ?_
      refine v_iload (pc := 323) dX9_cheapest_323 rfl ?_
      refine v_iconst (pc := 325) (0) dX9_cheapest_325 (by decide) ?_
      refine v_sI (pc := 326) (j := s) dX9_cheapest_326 rfl (by omega) (by omega) (by omega) ?_
      refine v_iinc (pc := 327) (1) dX9_cheapest_327 rfl (by decide) (by decide) ?_
      refine v_goto (pc := 330) 297 dX9_cheapest_330 (by decide) ?_
      have e0 : qOd W (m + 1) s D = qOd W m (s + 1) (qUp D s 0) := if_pos (by omega)
      rw [e0] at KK
      rw [kW_55]
      exact v_lv (ih (s + 1) (x + 1) _ (by omega) (by omega) (fun j h1 h2 => (by unfold qUp; rw [if_neg (by omega)]; exact hD j (by omega) h2)) KK) ⟨rfl, rfl, rfl, rfl, rfl, rfl, rfl, trivial⟩
set_option maxHeartbeats 4000000 in
set_option maxRecDepth 100000 in
theorem l_ch333 {g : vGl} {d : Nat} {Q : Option Value → List mC → Prop} {σ : vSt} {u : Int} (hd : 2 ≤ d) (hR : YR σ) (hm : IM σ) (hn3 : sN σ ≤ 3) (hu : 0 ≤ u ∧ u ≤ 1000) {sp W best bk : Int} {D L M C F : Nat → Int} {s : Nat} (hW : W = 3 * σ 3 6) (hsn : s ≤ sN σ) (hn0 : 0 < sN σ) (hX : kX σ u 0 D L M C F) {D1 D2 : Nat → Int} (e2 : D2 = if s < sN σ then qUp D1 s (D1 s + 1) else D1) (ag : ∀ j, s < j → j < sN σ → D2 j = D j) (ok : ∀ j, j < sN σ → 0 ≤ D2 j ∧ D2 j < W) (K : ∀ L M C F : Nat → Int, kX σ u 0 D2 L M C F → V g mX9_cheapest d (0, 0, 0, 0) Q 166 [(0, .ref 38), (1, vi sp), (2, vi u), (3, vi W), (4, vj best), (6, vi bk), (7, vi (s : Int))] [] (hp (kW σ D2 L M C F))) : V g mX9_cheapest d (0, 0, 0, 0) Q 333 [(0, .ref 38), (1, vi sp), (2, vi u), (3, vi W), (4, vj best), (6, vi bk), (7, vi (s : Int))] [] (hp (kW σ D1 L M C F)) := by
  have eN : ((sN σ : Nat) : Int) = σ 10 6 := by show (((σ 10 6).toNat : Nat) : Int) = σ 10 6; have := hR.1; omega
  have r36 := hR.1
  refine v_iload (pc := 333) dX9_cheapest_333 rfl ?_
  refine v_aload_n (pc := 335) dX9_cheapest_335 rfl ?_
  refine v_gIv (pc := 336) (σ 10 6) dX9_cheapest_336 fl_X9_110 rfl hm.1.2.1 ?_
  refine v_icmp_ge (pc := 339) 353 dX9_cheapest_339 (by decide) (by omega) (by omega) (fun h339 => ?_) (fun h339 => ?_)
  · by_cases hs : s < sN σ
    · rw [if_pos hs] at e2
      first
      | (rw [kW_55, ← e2]
         refine v_iload (pc := 353) dX9_cheapest_353 rfl ?_
         refine v_aload_n (pc := 355) dX9_cheapest_355 rfl ?_
         refine v_gIv (pc := 356) (σ 10 6) dX9_cheapest_356 fl_X9_110 rfl hm.1.2.1 ?_
         refine v_icmp_ge (pc := 359) 367 dX9_cheapest_359 (by decide) (by omega) (by omega) (fun h359 => by exfalso; omega) (fun h359 => ?_)
         refine v_iload (pc := 362) dX9_cheapest_362 rfl ?_
         refine v_goto (pc := 364) 373 dX9_cheapest_364 (by decide) ?_
         refine v_istore (pc := 373) dX9_cheapest_373 (by decide) ?_
         refine v_lv (l_ch375 hd hR hm hn3 hu (fun L2 M2 C2 F2 h2 => ?_) (s + 1) (s : Int) L M C F (by omega) (by omega) (fun j q => by have := ok j q; omega) (kX_c (fun j p q => hX j (by omega) q) (fun j p q => (ag j (by omega) q).symm))) ⟨rfl, rfl, rfl, rfl, rfl, rfl, rfl, rfl, trivial⟩
         refine v_goto (pc := 393) 166 dX9_cheapest_393 (by decide) ?_
         exact v_lv (K L2 M2 C2 F2 h2) ⟨rfl, rfl, rfl, rfl, rfl, rfl, rfl, trivial⟩)
      | (exfalso; omega)
    · rw [if_neg hs] at e2
      first
      | (exfalso; omega)
      | (rw [← e2]
         refine v_iload (pc := 353) dX9_cheapest_353 rfl ?_
         refine v_aload_n (pc := 355) dX9_cheapest_355 rfl ?_
         refine v_gIv (pc := 356) (σ 10 6) dX9_cheapest_356 fl_X9_110 rfl hm.1.2.1 ?_
         refine v_icmp_ge (pc := 359) 367 dX9_cheapest_359 (by decide) (by omega) (by omega) (fun h359 => ?_) (fun h359 => by exfalso; omega)
         refine v_aload_n (pc := 367) dX9_cheapest_367 rfl ?_
         refine v_gIv (pc := 368) (σ 10 6) dX9_cheapest_368 fl_X9_110 rfl hm.1.2.1 ?_
         refine v_iconst (pc := 371) (1) dX9_cheapest_371 (by decide) ?_
         refine v_isub (pc := 372) dX9_cheapest_372 ?_
         refine v_istore (pc := 373) dX9_cheapest_373 (by decide) ?_
         refine v_lv (l_ch375 hd hR hm hn3 hu (fun L2 M2 C2 F2 h2 => ?_) (sN σ) (σ 10 6 - 1) L M C F (by omega) (Nat.le_refl _) (fun j q => by have := ok j q; omega) (kX_c (fun j p q => hX j (by omega) q) (fun j p q => by omega))) ⟨rfl, rfl, rfl, rfl, rfl, rfl, rfl, rfl, trivial⟩
         refine v_goto (pc := 393) 166 dX9_cheapest_393 (by decide) ?_
         exact v_lv (K L2 M2 C2 F2 h2) ⟨rfl, rfl, rfl, rfl, rfl, rfl, rfl, trivial⟩)
  · refine v_aload_n (pc := 342) dX9_cheapest_342 rfl ?_
    refine v_gR (pc := 343) dX9_cheapest_343 fl_X9_68 rfl ?_
    refine v_iload (pc := 346) dX9_cheapest_346 rfl ?_
    refine v_dup2 (pc := 348) dX9_cheapest_348 rfl rfl ?_
    refine v_aIv (pc := 349) (j := s) (D1 s) dX9_cheapest_349 rfl (by omega) (by omega) (by omega) rfl ?_
    refine v_iconst (pc := 350) (1) dX9_cheapest_350 (by decide) ?_
    refine v_iadd (pc := 351) dX9_cheapest_351 ?_
    refine v_sI (pc := 352) (j := s) dX9_cheapest_352 rfl (by omega) (by omega) (by omega) ?_
    by_cases hs : s < sN σ
    · rw [if_pos hs] at e2
      first
      | (rw [kW_55, ← e2]
         refine v_iload (pc := 353) dX9_cheapest_353 rfl ?_
         refine v_aload_n (pc := 355) dX9_cheapest_355 rfl ?_
         refine v_gIv (pc := 356) (σ 10 6) dX9_cheapest_356 fl_X9_110 rfl hm.1.2.1 ?_
         refine v_icmp_ge (pc := 359) 367 dX9_cheapest_359 (by decide) (by omega) (by omega) (fun h359 => by exfalso; omega) (fun h359 => ?_)
         refine v_iload (pc := 362) dX9_cheapest_362 rfl ?_
         refine v_goto (pc := 364) 373 dX9_cheapest_364 (by decide) ?_
         refine v_istore (pc := 373) dX9_cheapest_373 (by decide) ?_
         refine v_lv (l_ch375 hd hR hm hn3 hu (fun L2 M2 C2 F2 h2 => ?_) (s + 1) (s : Int) L M C F (by omega) (by omega) (fun j q => by have := ok j q; omega) (kX_c (fun j p q => hX j (by omega) q) (fun j p q => (ag j (by omega) q).symm))) ⟨rfl, rfl, rfl, rfl, rfl, rfl, rfl, rfl, trivial⟩
         refine v_goto (pc := 393) 166 dX9_cheapest_393 (by decide) ?_
         exact v_lv (K L2 M2 C2 F2 h2) ⟨rfl, rfl, rfl, rfl, rfl, rfl, rfl, trivial⟩)
      | (exfalso; omega)
    · rw [if_neg hs] at e2
      first
      | (exfalso; omega)
      | (rw [← e2]
         refine v_iload (pc := 353) dX9_cheapest_353 rfl ?_
         refine v_aload_n (pc := 355) dX9_cheapest_355 rfl ?_
         refine v_gIv (pc := 356) (σ 10 6) dX9_cheapest_356 fl_X9_110 rfl hm.1.2.1 ?_
         refine v_icmp_ge (pc := 359) 367 dX9_cheapest_359 (by decide) (by omega) (by omega) (fun h359 => ?_) (fun h359 => by exfalso; omega)
         refine v_aload_n (pc := 367) dX9_cheapest_367 rfl ?_
         refine v_gIv (pc := 368) (σ 10 6) dX9_cheapest_368 fl_X9_110 rfl hm.1.2.1 ?_
         refine v_iconst (pc := 371) (1) dX9_cheapest_371 (by decide) ?_
         refine v_isub (pc := 372) dX9_cheapest_372 ?_
         refine v_istore (pc := 373) dX9_cheapest_373 (by decide) ?_
         refine v_lv (l_ch375 hd hR hm hn3 hu (fun L2 M2 C2 F2 h2 => ?_) (sN σ) (σ 10 6 - 1) L M C F (by omega) (Nat.le_refl _) (fun j q => by have := ok j q; omega) (kX_c (fun j p q => hX j (by omega) q) (fun j p q => by omega))) ⟨rfl, rfl, rfl, rfl, rfl, rfl, rfl, rfl, trivial⟩
         refine v_goto (pc := 393) 166 dX9_cheapest_393 (by decide) ?_
         exact v_lv (K L2 M2 C2 F2 h2) ⟨rfl, rfl, rfl, rfl, rfl, rfl, rfl, trivial⟩)
set_option maxHeartbeats 4000000 in
set_option maxRecDepth 100000 in
theorem l_ch211 {g : vGl} {d : Nat} {Q : Option Value → List mC → Prop} {σ : vSt} {u : Int} (hd : 2 ≤ d) (hR : YR σ) (hm : IM σ) (hn3 : sN σ ≤ 3) (hu : 0 ≤ u ∧ u ≤ 1000) {sp W best bk : Int} {D L M C F : Nat → Int} {P P2 : (Nat → Int) → Prop} (hsp : 0 ≤ sp ∧ sp ≤ 1000000) (ho : cOk σ 0 D) (hX : kX σ u 0 D L M C F) (hO : cRO σ u sp P best bk) (hp2 : ∀ x, cOk σ 0 x → P2 x → P x ∨ sAg (sN σ) 0 x D) (K : ∀ best bk : Int, cRO σ u sp P2 best bk → V g mX9_cheapest d (0, 0, 0, 0) Q 294 [(0, .ref 38), (1, vi sp), (2, vi u), (3, vi W), (4, vj best), (6, vi bk)] [] (hp (kW σ D L M C F))) : V g mX9_cheapest d (0, 0, 0, 0) Q 211 [(0, .ref 38), (1, vi sp), (2, vi u), (3, vi W), (4, vj best), (6, vi bk), (8, vi (c18 D (sN σ)))] [] (hp (kW σ D L M C F)) := by
  have x0 := hX 0 (Nat.le_refl _) (by omega)
  have rr := cRO_rng hR hn3 hO
  have lr := cLo_rng (w := D) hR (sN σ - 0) 0 rfl
  have cr := cCo_rng (w := D) hR (sN σ - 0) 0 rfl
  have kr := c18_rng hn3 (cOk_D hR ho)
  refine v_aload_n (pc := 211) dX9_cheapest_211 rfl ?_
  refine v_gR (pc := 212) dX9_cheapest_212 fl_X9_81 rfl ?_
  refine v_iconst (pc := 215) (0) dX9_cheapest_215 (by decide) ?_
  refine v_aZ (pc := 216) (j := 0) dX9_cheapest_216 rfl rfl (by omega) (by omega) ?_
  refine v_top (show _ = F 0 from rfl) ?_
  refine v_if_eq (pc := 217) 236 dX9_cheapest_217 (by decide) (by omega) (fun h217 => ?_) (fun h217 => ?_)
  · refine v_iconst (pc := 236) (0) dX9_cheapest_236 (by decide) ?_
    refine v_istore (pc := 237) dX9_cheapest_237 (by decide) ?_
    refine v_iload (pc := 239) dX9_cheapest_239 rfl ?_
    refine v_if_eq (pc := 241) 294 dX9_cheapest_241 (by decide) (by omega) (fun h241 => ?_) (fun h241 => ?_)
    · first
      | exact v_lv (K _ _ (cRO_skip hO hp2 (fun g => by have g1 := x0.2.2.2.2.mpr g.1; have g2 := g.2; omega))) ⟨rfl, rfl, rfl, rfl, rfl, rfl, trivial⟩
      | exact v_lv (K _ _ (cRO_take hR hO hp2 ho ⟨x0.2.2.2.2.mp (by omega), by omega⟩ (by omega))) ⟨rfl, rfl, rfl, rfl, rfl, rfl, trivial⟩
      | exact v_lv (K _ _ (cRO_not hO hp2 (by omega))) ⟨rfl, rfl, rfl, rfl, rfl, rfl, trivial⟩
    · refine v_lload (pc := 244) dX9_cheapest_244 rfl ?_
      refine v_lconst (pc := 246) (0) dX9_cheapest_246 (by decide) ?_
      refine v_lc_lt (pc := 247) 282 dX9_cheapest_247 dX9_cheapest_248 (by decide) (by omega) (by omega) (fun h247 => ?_) (fun h247 => ?_)
      · refine v_aload_n (pc := 282) dX9_cheapest_282 rfl ?_
        refine v_gR (pc := 283) dX9_cheapest_283 fl_X9_78 rfl ?_
        refine v_iconst (pc := 286) (0) dX9_cheapest_286 (by decide) ?_
        refine v_aJv (pc := 287) (j := 0) (cCo σ 0 D) dX9_cheapest_287 rfl rfl (by omega) (by omega) x0.2.2.1 ?_
        refine v_lstore (pc := 288) dX9_cheapest_288 (by decide) ?_
        refine v_iload (pc := 290) dX9_cheapest_290 rfl ?_
        refine v_istore (pc := 292) dX9_cheapest_292 (by decide) ?_
        first
        | exact v_lv (K _ _ (cRO_skip hO hp2 (fun g => by have g1 := x0.2.2.2.2.mpr g.1; have g2 := g.2; omega))) ⟨rfl, rfl, rfl, rfl, rfl, rfl, trivial⟩
        | exact v_lv (K _ _ (cRO_take hR hO hp2 ho ⟨x0.2.2.2.2.mp (by omega), by omega⟩ (by omega))) ⟨rfl, rfl, rfl, rfl, rfl, rfl, trivial⟩
        | exact v_lv (K _ _ (cRO_not hO hp2 (by omega))) ⟨rfl, rfl, rfl, rfl, rfl, rfl, trivial⟩
      · refine v_aload_n (pc := 251) dX9_cheapest_251 rfl ?_
        refine v_gR (pc := 252) dX9_cheapest_252 fl_X9_78 rfl ?_
        refine v_iconst (pc := 255) (0) dX9_cheapest_255 (by decide) ?_
        refine v_aJv (pc := 256) (j := 0) (cCo σ 0 D) dX9_cheapest_256 rfl rfl (by omega) (by omega) x0.2.2.1 ?_
        refine v_lload (pc := 257) dX9_cheapest_257 rfl ?_
        refine v_lc_lt (pc := 259) 282 dX9_cheapest_259 dX9_cheapest_260 (by decide) (by omega) (by omega) (fun h259 => ?_) (fun h259 => ?_)
        · refine v_aload_n (pc := 282) dX9_cheapest_282 rfl ?_
          refine v_gR (pc := 283) dX9_cheapest_283 fl_X9_78 rfl ?_
          refine v_iconst (pc := 286) (0) dX9_cheapest_286 (by decide) ?_
          refine v_aJv (pc := 287) (j := 0) (cCo σ 0 D) dX9_cheapest_287 rfl rfl (by omega) (by omega) x0.2.2.1 ?_
          refine v_lstore (pc := 288) dX9_cheapest_288 (by decide) ?_
          refine v_iload (pc := 290) dX9_cheapest_290 rfl ?_
          refine v_istore (pc := 292) dX9_cheapest_292 (by decide) ?_
          first
          | exact v_lv (K _ _ (cRO_skip hO hp2 (fun g => by have g1 := x0.2.2.2.2.mpr g.1; have g2 := g.2; omega))) ⟨rfl, rfl, rfl, rfl, rfl, rfl, trivial⟩
          | exact v_lv (K _ _ (cRO_take hR hO hp2 ho ⟨x0.2.2.2.2.mp (by omega), by omega⟩ (by omega))) ⟨rfl, rfl, rfl, rfl, rfl, rfl, trivial⟩
          | exact v_lv (K _ _ (cRO_not hO hp2 (by omega))) ⟨rfl, rfl, rfl, rfl, rfl, rfl, trivial⟩
        · refine v_aload_n (pc := 263) dX9_cheapest_263 rfl ?_
          refine v_gR (pc := 264) dX9_cheapest_264 fl_X9_78 rfl ?_
          refine v_iconst (pc := 267) (0) dX9_cheapest_267 (by decide) ?_
          refine v_aJv (pc := 268) (j := 0) (cCo σ 0 D) dX9_cheapest_268 rfl rfl (by omega) (by omega) x0.2.2.1 ?_
          refine v_lload (pc := 269) dX9_cheapest_269 rfl ?_
          refine v_lc_ne (pc := 271) 294 dX9_cheapest_271 dX9_cheapest_272 (by decide) (by omega) (by omega) (fun h271 => ?_) (fun h271 => ?_)
          · first
            | exact v_lv (K _ _ (cRO_skip hO hp2 (fun g => by have g1 := x0.2.2.2.2.mpr g.1; have g2 := g.2; omega))) ⟨rfl, rfl, rfl, rfl, rfl, rfl, trivial⟩
            | exact v_lv (K _ _ (cRO_take hR hO hp2 ho ⟨x0.2.2.2.2.mp (by omega), by omega⟩ (by omega))) ⟨rfl, rfl, rfl, rfl, rfl, rfl, trivial⟩
            | exact v_lv (K _ _ (cRO_not hO hp2 (by omega))) ⟨rfl, rfl, rfl, rfl, rfl, rfl, trivial⟩
          · refine v_iload (pc := 275) dX9_cheapest_275 rfl ?_
            refine v_iload (pc := 277) dX9_cheapest_277 rfl ?_
            refine v_icmp_ge (pc := 279) 294 dX9_cheapest_279 (by decide) (by omega) (by omega) (fun h279 => ?_) (fun h279 => ?_)
            · first
              | exact v_lv (K _ _ (cRO_skip hO hp2 (fun g => by have g1 := x0.2.2.2.2.mpr g.1; have g2 := g.2; omega))) ⟨rfl, rfl, rfl, rfl, rfl, rfl, trivial⟩
              | exact v_lv (K _ _ (cRO_take hR hO hp2 ho ⟨x0.2.2.2.2.mp (by omega), by omega⟩ (by omega))) ⟨rfl, rfl, rfl, rfl, rfl, rfl, trivial⟩
              | exact v_lv (K _ _ (cRO_not hO hp2 (by omega))) ⟨rfl, rfl, rfl, rfl, rfl, rfl, trivial⟩
            · refine v_aload_n (pc := 282) dX9_cheapest_282 rfl ?_
              refine v_gR (pc := 283) dX9_cheapest_283 fl_X9_78 rfl ?_
              refine v_iconst (pc := 286) (0) dX9_cheapest_286 (by decide) ?_
              refine v_aJv (pc := 287) (j := 0) (cCo σ 0 D) dX9_cheapest_287 rfl rfl (by omega) (by omega) x0.2.2.1 ?_
              refine v_lstore (pc := 288) dX9_cheapest_288 (by decide) ?_
              refine v_iload (pc := 290) dX9_cheapest_290 rfl ?_
              refine v_istore (pc := 292) dX9_cheapest_292 (by decide) ?_
              first
              | exact v_lv (K _ _ (cRO_skip hO hp2 (fun g => by have g1 := x0.2.2.2.2.mpr g.1; have g2 := g.2; omega))) ⟨rfl, rfl, rfl, rfl, rfl, rfl, trivial⟩
              | exact v_lv (K _ _ (cRO_take hR hO hp2 ho ⟨x0.2.2.2.2.mp (by omega), by omega⟩ (by omega))) ⟨rfl, rfl, rfl, rfl, rfl, rfl, trivial⟩
              | exact v_lv (K _ _ (cRO_not hO hp2 (by omega))) ⟨rfl, rfl, rfl, rfl, rfl, rfl, trivial⟩
  · refine v_aload_n (pc := 220) dX9_cheapest_220 rfl ?_
    refine v_gR (pc := 221) dX9_cheapest_221 fl_X9_71 rfl ?_
    refine v_iconst (pc := 224) (0) dX9_cheapest_224 (by decide) ?_
    refine v_aJv (pc := 225) (j := 0) (cLo σ 0 D) dX9_cheapest_225 rfl rfl (by omega) (by omega) x0.2.1 ?_
    refine v_iload_n (pc := 226) dX9_cheapest_226 rfl ?_
    refine v_i2l (pc := 227) dX9_cheapest_227 (by omega) ?_
    refine v_lc_lt (pc := 228) 236 dX9_cheapest_228 dX9_cheapest_229 (by decide) (by omega) (by omega) (fun h228 => ?_) (fun h228 => ?_)
    · refine v_iconst (pc := 236) (0) dX9_cheapest_236 (by decide) ?_
      refine v_istore (pc := 237) dX9_cheapest_237 (by decide) ?_
      refine v_iload (pc := 239) dX9_cheapest_239 rfl ?_
      refine v_if_eq (pc := 241) 294 dX9_cheapest_241 (by decide) (by omega) (fun h241 => ?_) (fun h241 => ?_)
      · first
        | exact v_lv (K _ _ (cRO_skip hO hp2 (fun g => by have g1 := x0.2.2.2.2.mpr g.1; have g2 := g.2; omega))) ⟨rfl, rfl, rfl, rfl, rfl, rfl, trivial⟩
        | exact v_lv (K _ _ (cRO_take hR hO hp2 ho ⟨x0.2.2.2.2.mp (by omega), by omega⟩ (by omega))) ⟨rfl, rfl, rfl, rfl, rfl, rfl, trivial⟩
        | exact v_lv (K _ _ (cRO_not hO hp2 (by omega))) ⟨rfl, rfl, rfl, rfl, rfl, rfl, trivial⟩
      · refine v_lload (pc := 244) dX9_cheapest_244 rfl ?_
        refine v_lconst (pc := 246) (0) dX9_cheapest_246 (by decide) ?_
        refine v_lc_lt (pc := 247) 282 dX9_cheapest_247 dX9_cheapest_248 (by decide) (by omega) (by omega) (fun h247 => ?_) (fun h247 => ?_)
        · refine v_aload_n (pc := 282) dX9_cheapest_282 rfl ?_
          refine v_gR (pc := 283) dX9_cheapest_283 fl_X9_78 rfl ?_
          refine v_iconst (pc := 286) (0) dX9_cheapest_286 (by decide) ?_
          refine v_aJv (pc := 287) (j := 0) (cCo σ 0 D) dX9_cheapest_287 rfl rfl (by omega) (by omega) x0.2.2.1 ?_
          refine v_lstore (pc := 288) dX9_cheapest_288 (by decide) ?_
          refine v_iload (pc := 290) dX9_cheapest_290 rfl ?_
          refine v_istore (pc := 292) dX9_cheapest_292 (by decide) ?_
          first
          | exact v_lv (K _ _ (cRO_skip hO hp2 (fun g => by have g1 := x0.2.2.2.2.mpr g.1; have g2 := g.2; omega))) ⟨rfl, rfl, rfl, rfl, rfl, rfl, trivial⟩
          | exact v_lv (K _ _ (cRO_take hR hO hp2 ho ⟨x0.2.2.2.2.mp (by omega), by omega⟩ (by omega))) ⟨rfl, rfl, rfl, rfl, rfl, rfl, trivial⟩
          | exact v_lv (K _ _ (cRO_not hO hp2 (by omega))) ⟨rfl, rfl, rfl, rfl, rfl, rfl, trivial⟩
        · refine v_aload_n (pc := 251) dX9_cheapest_251 rfl ?_
          refine v_gR (pc := 252) dX9_cheapest_252 fl_X9_78 rfl ?_
          refine v_iconst (pc := 255) (0) dX9_cheapest_255 (by decide) ?_
          refine v_aJv (pc := 256) (j := 0) (cCo σ 0 D) dX9_cheapest_256 rfl rfl (by omega) (by omega) x0.2.2.1 ?_
          refine v_lload (pc := 257) dX9_cheapest_257 rfl ?_
          refine v_lc_lt (pc := 259) 282 dX9_cheapest_259 dX9_cheapest_260 (by decide) (by omega) (by omega) (fun h259 => ?_) (fun h259 => ?_)
          · refine v_aload_n (pc := 282) dX9_cheapest_282 rfl ?_
            refine v_gR (pc := 283) dX9_cheapest_283 fl_X9_78 rfl ?_
            refine v_iconst (pc := 286) (0) dX9_cheapest_286 (by decide) ?_
            refine v_aJv (pc := 287) (j := 0) (cCo σ 0 D) dX9_cheapest_287 rfl rfl (by omega) (by omega) x0.2.2.1 ?_
            refine v_lstore (pc := 288) dX9_cheapest_288 (by decide) ?_
            refine v_iload (pc := 290) dX9_cheapest_290 rfl ?_
            refine v_istore (pc := 292) dX9_cheapest_292 (by decide) ?_
            first
            | exact v_lv (K _ _ (cRO_skip hO hp2 (fun g => by have g1 := x0.2.2.2.2.mpr g.1; have g2 := g.2; omega))) ⟨rfl, rfl, rfl, rfl, rfl, rfl, trivial⟩
            | exact v_lv (K _ _ (cRO_take hR hO hp2 ho ⟨x0.2.2.2.2.mp (by omega), by omega⟩ (by omega))) ⟨rfl, rfl, rfl, rfl, rfl, rfl, trivial⟩
            | exact v_lv (K _ _ (cRO_not hO hp2 (by omega))) ⟨rfl, rfl, rfl, rfl, rfl, rfl, trivial⟩
          · refine v_aload_n (pc := 263) dX9_cheapest_263 rfl ?_
            refine v_gR (pc := 264) dX9_cheapest_264 fl_X9_78 rfl ?_
            refine v_iconst (pc := 267) (0) dX9_cheapest_267 (by decide) ?_
            refine v_aJv (pc := 268) (j := 0) (cCo σ 0 D) dX9_cheapest_268 rfl rfl (by omega) (by omega) x0.2.2.1 ?_
            refine v_lload (pc := 269) dX9_cheapest_269 rfl ?_
            refine v_lc_ne (pc := 271) 294 dX9_cheapest_271 dX9_cheapest_272 (by decide) (by omega) (by omega) (fun h271 => ?_) (fun h271 => ?_)
            · first
              | exact v_lv (K _ _ (cRO_skip hO hp2 (fun g => by have g1 := x0.2.2.2.2.mpr g.1; have g2 := g.2; omega))) ⟨rfl, rfl, rfl, rfl, rfl, rfl, trivial⟩
              | exact v_lv (K _ _ (cRO_take hR hO hp2 ho ⟨x0.2.2.2.2.mp (by omega), by omega⟩ (by omega))) ⟨rfl, rfl, rfl, rfl, rfl, rfl, trivial⟩
              | exact v_lv (K _ _ (cRO_not hO hp2 (by omega))) ⟨rfl, rfl, rfl, rfl, rfl, rfl, trivial⟩
            · refine v_iload (pc := 275) dX9_cheapest_275 rfl ?_
              refine v_iload (pc := 277) dX9_cheapest_277 rfl ?_
              refine v_icmp_ge (pc := 279) 294 dX9_cheapest_279 (by decide) (by omega) (by omega) (fun h279 => ?_) (fun h279 => ?_)
              · first
                | exact v_lv (K _ _ (cRO_skip hO hp2 (fun g => by have g1 := x0.2.2.2.2.mpr g.1; have g2 := g.2; omega))) ⟨rfl, rfl, rfl, rfl, rfl, rfl, trivial⟩
                | exact v_lv (K _ _ (cRO_take hR hO hp2 ho ⟨x0.2.2.2.2.mp (by omega), by omega⟩ (by omega))) ⟨rfl, rfl, rfl, rfl, rfl, rfl, trivial⟩
                | exact v_lv (K _ _ (cRO_not hO hp2 (by omega))) ⟨rfl, rfl, rfl, rfl, rfl, rfl, trivial⟩
              · refine v_aload_n (pc := 282) dX9_cheapest_282 rfl ?_
                refine v_gR (pc := 283) dX9_cheapest_283 fl_X9_78 rfl ?_
                refine v_iconst (pc := 286) (0) dX9_cheapest_286 (by decide) ?_
                refine v_aJv (pc := 287) (j := 0) (cCo σ 0 D) dX9_cheapest_287 rfl rfl (by omega) (by omega) x0.2.2.1 ?_
                refine v_lstore (pc := 288) dX9_cheapest_288 (by decide) ?_
                refine v_iload (pc := 290) dX9_cheapest_290 rfl ?_
                refine v_istore (pc := 292) dX9_cheapest_292 (by decide) ?_
                first
                | exact v_lv (K _ _ (cRO_skip hO hp2 (fun g => by have g1 := x0.2.2.2.2.mpr g.1; have g2 := g.2; omega))) ⟨rfl, rfl, rfl, rfl, rfl, rfl, trivial⟩
                | exact v_lv (K _ _ (cRO_take hR hO hp2 ho ⟨x0.2.2.2.2.mp (by omega), by omega⟩ (by omega))) ⟨rfl, rfl, rfl, rfl, rfl, rfl, trivial⟩
                | exact v_lv (K _ _ (cRO_not hO hp2 (by omega))) ⟨rfl, rfl, rfl, rfl, rfl, rfl, trivial⟩
    · refine v_iconst (pc := 232) (1) dX9_cheapest_232 (by decide) ?_
      refine v_goto (pc := 233) 237 dX9_cheapest_233 (by decide) ?_
      refine v_istore (pc := 237) dX9_cheapest_237 (by decide) ?_
      refine v_iload (pc := 239) dX9_cheapest_239 rfl ?_
      refine v_if_eq (pc := 241) 294 dX9_cheapest_241 (by decide) (by omega) (fun h241 => ?_) (fun h241 => ?_)
      · first
        | exact v_lv (K _ _ (cRO_skip hO hp2 (fun g => by have g1 := x0.2.2.2.2.mpr g.1; have g2 := g.2; omega))) ⟨rfl, rfl, rfl, rfl, rfl, rfl, trivial⟩
        | exact v_lv (K _ _ (cRO_take hR hO hp2 ho ⟨x0.2.2.2.2.mp (by omega), by omega⟩ (by omega))) ⟨rfl, rfl, rfl, rfl, rfl, rfl, trivial⟩
        | exact v_lv (K _ _ (cRO_not hO hp2 (by omega))) ⟨rfl, rfl, rfl, rfl, rfl, rfl, trivial⟩
      · refine v_lload (pc := 244) dX9_cheapest_244 rfl ?_
        refine v_lconst (pc := 246) (0) dX9_cheapest_246 (by decide) ?_
        refine v_lc_lt (pc := 247) 282 dX9_cheapest_247 dX9_cheapest_248 (by decide) (by omega) (by omega) (fun h247 => ?_) (fun h247 => ?_)
        · refine v_aload_n (pc := 282) dX9_cheapest_282 rfl ?_
          refine v_gR (pc := 283) dX9_cheapest_283 fl_X9_78 rfl ?_
          refine v_iconst (pc := 286) (0) dX9_cheapest_286 (by decide) ?_
          refine v_aJv (pc := 287) (j := 0) (cCo σ 0 D) dX9_cheapest_287 rfl rfl (by omega) (by omega) x0.2.2.1 ?_
          refine v_lstore (pc := 288) dX9_cheapest_288 (by decide) ?_
          refine v_iload (pc := 290) dX9_cheapest_290 rfl ?_
          refine v_istore (pc := 292) dX9_cheapest_292 (by decide) ?_
          first
          | exact v_lv (K _ _ (cRO_skip hO hp2 (fun g => by have g1 := x0.2.2.2.2.mpr g.1; have g2 := g.2; omega))) ⟨rfl, rfl, rfl, rfl, rfl, rfl, trivial⟩
          | exact v_lv (K _ _ (cRO_take hR hO hp2 ho ⟨x0.2.2.2.2.mp (by omega), by omega⟩ (by omega))) ⟨rfl, rfl, rfl, rfl, rfl, rfl, trivial⟩
          | exact v_lv (K _ _ (cRO_not hO hp2 (by omega))) ⟨rfl, rfl, rfl, rfl, rfl, rfl, trivial⟩
        · refine v_aload_n (pc := 251) dX9_cheapest_251 rfl ?_
          refine v_gR (pc := 252) dX9_cheapest_252 fl_X9_78 rfl ?_
          refine v_iconst (pc := 255) (0) dX9_cheapest_255 (by decide) ?_
          refine v_aJv (pc := 256) (j := 0) (cCo σ 0 D) dX9_cheapest_256 rfl rfl (by omega) (by omega) x0.2.2.1 ?_
          refine v_lload (pc := 257) dX9_cheapest_257 rfl ?_
          refine v_lc_lt (pc := 259) 282 dX9_cheapest_259 dX9_cheapest_260 (by decide) (by omega) (by omega) (fun h259 => ?_) (fun h259 => ?_)
          · refine v_aload_n (pc := 282) dX9_cheapest_282 rfl ?_
            refine v_gR (pc := 283) dX9_cheapest_283 fl_X9_78 rfl ?_
            refine v_iconst (pc := 286) (0) dX9_cheapest_286 (by decide) ?_
            refine v_aJv (pc := 287) (j := 0) (cCo σ 0 D) dX9_cheapest_287 rfl rfl (by omega) (by omega) x0.2.2.1 ?_
            refine v_lstore (pc := 288) dX9_cheapest_288 (by decide) ?_
            refine v_iload (pc := 290) dX9_cheapest_290 rfl ?_
            refine v_istore (pc := 292) dX9_cheapest_292 (by decide) ?_
            first
            | exact v_lv (K _ _ (cRO_skip hO hp2 (fun g => by have g1 := x0.2.2.2.2.mpr g.1; have g2 := g.2; omega))) ⟨rfl, rfl, rfl, rfl, rfl, rfl, trivial⟩
            | exact v_lv (K _ _ (cRO_take hR hO hp2 ho ⟨x0.2.2.2.2.mp (by omega), by omega⟩ (by omega))) ⟨rfl, rfl, rfl, rfl, rfl, rfl, trivial⟩
            | exact v_lv (K _ _ (cRO_not hO hp2 (by omega))) ⟨rfl, rfl, rfl, rfl, rfl, rfl, trivial⟩
          · refine v_aload_n (pc := 263) dX9_cheapest_263 rfl ?_
            refine v_gR (pc := 264) dX9_cheapest_264 fl_X9_78 rfl ?_
            refine v_iconst (pc := 267) (0) dX9_cheapest_267 (by decide) ?_
            refine v_aJv (pc := 268) (j := 0) (cCo σ 0 D) dX9_cheapest_268 rfl rfl (by omega) (by omega) x0.2.2.1 ?_
            refine v_lload (pc := 269) dX9_cheapest_269 rfl ?_
            refine v_lc_ne (pc := 271) 294 dX9_cheapest_271 dX9_cheapest_272 (by decide) (by omega) (by omega) (fun h271 => ?_) (fun h271 => ?_)
            · first
              | exact v_lv (K _ _ (cRO_skip hO hp2 (fun g => by have g1 := x0.2.2.2.2.mpr g.1; have g2 := g.2; omega))) ⟨rfl, rfl, rfl, rfl, rfl, rfl, trivial⟩
              | exact v_lv (K _ _ (cRO_take hR hO hp2 ho ⟨x0.2.2.2.2.mp (by omega), by omega⟩ (by omega))) ⟨rfl, rfl, rfl, rfl, rfl, rfl, trivial⟩
              | exact v_lv (K _ _ (cRO_not hO hp2 (by omega))) ⟨rfl, rfl, rfl, rfl, rfl, rfl, trivial⟩
            · refine v_iload (pc := 275) dX9_cheapest_275 rfl ?_
              refine v_iload (pc := 277) dX9_cheapest_277 rfl ?_
              refine v_icmp_ge (pc := 279) 294 dX9_cheapest_279 (by decide) (by omega) (by omega) (fun h279 => ?_) (fun h279 => ?_)
              · first
                | exact v_lv (K _ _ (cRO_skip hO hp2 (fun g => by have g1 := x0.2.2.2.2.mpr g.1; have g2 := g.2; omega))) ⟨rfl, rfl, rfl, rfl, rfl, rfl, trivial⟩
                | exact v_lv (K _ _ (cRO_take hR hO hp2 ho ⟨x0.2.2.2.2.mp (by omega), by omega⟩ (by omega))) ⟨rfl, rfl, rfl, rfl, rfl, rfl, trivial⟩
                | exact v_lv (K _ _ (cRO_not hO hp2 (by omega))) ⟨rfl, rfl, rfl, rfl, rfl, rfl, trivial⟩
              · refine v_aload_n (pc := 282) dX9_cheapest_282 rfl ?_
                refine v_gR (pc := 283) dX9_cheapest_283 fl_X9_78 rfl ?_
                refine v_iconst (pc := 286) (0) dX9_cheapest_286 (by decide) ?_
                refine v_aJv (pc := 287) (j := 0) (cCo σ 0 D) dX9_cheapest_287 rfl rfl (by omega) (by omega) x0.2.2.1 ?_
                refine v_lstore (pc := 288) dX9_cheapest_288 (by decide) ?_
                refine v_iload (pc := 290) dX9_cheapest_290 rfl ?_
                refine v_istore (pc := 292) dX9_cheapest_292 (by decide) ?_
                first
                | exact v_lv (K _ _ (cRO_skip hO hp2 (fun g => by have g1 := x0.2.2.2.2.mpr g.1; have g2 := g.2; omega))) ⟨rfl, rfl, rfl, rfl, rfl, rfl, trivial⟩
                | exact v_lv (K _ _ (cRO_take hR hO hp2 ho ⟨x0.2.2.2.2.mp (by omega), by omega⟩ (by omega))) ⟨rfl, rfl, rfl, rfl, rfl, rfl, trivial⟩
                | exact v_lv (K _ _ (cRO_not hO hp2 (by omega))) ⟨rfl, rfl, rfl, rfl, rfl, rfl, trivial⟩
theorem cNum_rng {n : Nat} {x : Nat → Int} (hn : n ≤ 3) (hx : cD n 18 x) : 0 ≤ cNum n x ∧ cNum n x < 32768 := by
  rcases (show n = 0 ∨ n = 1 ∨ n = 2 ∨ n = 3 by omega) with rfl | rfl | rfl | rfl
  · exact ⟨Int.le_refl _, show (0 : Int) < 32768 by decide⟩
  · have x0 := hx 0 (by omega)
    rw [cNum_1]
    omega
  · have x0 := hx 0 (by omega)
    have x1 := hx 1 (by omega)
    rw [cNum_2]
    omega
  · have x0 := hx 0 (by omega)
    have x1 := hx 1 (by omega)
    have x2 := hx 2 (by omega)
    rw [cNum_3]
    omega
set_option maxHeartbeats 4000000 in
set_option maxRecDepth 100000 in
theorem l_ch166 {g : vGl} {d : Nat} {Q : Option Value → List mC → Prop} {σ : vSt} {u : Int} (hd : 2 ≤ d) (hR : YR σ) (hm : IM σ) (hn3 : sN σ ≤ 3) (hu : 0 ≤ u ∧ u ≤ 1000) {sp W : Int} (hn0 : 0 < sN σ) (hsp : 0 ≤ sp ∧ sp ≤ 1000000) (hW : W = 3 * σ 3 6) (hE : 0 < σ 3 6) (KQ : ∀ (best bk : Int) (D L M C F : Nat → Int), cRO σ u sp (fun _ => True) best bk → V g mX9_cheapest d (0, 0, 0, 0) Q 396 [(0, .ref 38), (4, vj best), (6, vi bk)] [] (hp (kW σ D L M C F))) : ∀ (m : Nat) (x best bk : Int) (D L M C F : Nat → Int) (hx : 0 ≤ x ∧ x < σ 10 6) (hmm : 32768 ≤ cNum (sN σ) D + m) (ho : cOk σ 0 D) (hX : kX σ u 0 D L M C F) (hO : cRO σ u sp (fun y => cNum (sN σ) y < cNum (sN σ) D) best bk), V g mX9_cheapest d (0, 0, 0, 0) Q 166 [(0, .ref 38), (1, vi sp), (2, vi u), (3, vi W), (4, vj best), (6, vi bk), (7, vi x)] [] (hp (kW σ D L M C F)) := by
  have eN : ((sN σ : Nat) : Int) = σ 10 6 := by show (((σ 10 6).toNat : Nat) : Int) = σ 10 6; have := hR.1; omega
  have r36 := hR.1
  intro m
  induction m with
  | zero =>
    intro x best bk D L M C F hx hmm ho hX hO
    have dr := cNum_rng hn3 (cOk_D hR ho)
    exfalso
    omega
  | succ m ih =>
    intro x best bk D L M C F hx hmm ho hX hO
    have hD : ∀ j, 0 ≤ j → j < sN σ → 0 ≤ D j ∧ D j < W := fun j _ q => by rw [hW]; exact ho j (Nat.zero_le _) q
    refine v_iload (pc := 166) dX9_cheapest_166 rfl ?_
    refine v_aload_n (pc := 168) dX9_cheapest_168 rfl ?_
    refine v_gIv (pc := 169) (σ 10 6) dX9_cheapest_169 fl_X9_110 rfl hm.1.2.1 ?_
    refine v_icmp_ge (pc := 172) 396 dX9_cheapest_172 (by decide) (by omega) (by omega) (fun h172 => by exfalso; omega) (fun h172 => ?_)
    refine v_iconst (pc := 175) (0) dX9_cheapest_175 (by decide) ?_
    refine v_istore (pc := 176) dX9_cheapest_176 (by decide) ?_
    refine v_iconst (pc := 178) (0) dX9_cheapest_178 (by decide) ?_
    refine v_istore (pc := 179) dX9_cheapest_179 (by decide) ?_
    refine v_lv (l_ch181 hd hR hm hn3 hu ?_ (sN σ) 0 0 rfl (by omega)) ⟨rfl, rfl, rfl, rfl, rfl, rfl, rfl, rfl, trivial⟩
    refine l_ch211 (P2 := fun x => cNum (sN σ) x ≤ cNum (sN σ) D) hd hR hm hn3 hu hsp ho hX hO (fun x ox q => ?_) (fun best2 bk2 hO2 => ?_)
    · rcases (show cNum (sN σ) x < cNum (sN σ) D ∨ cNum (sN σ) x = cNum (sN σ) D by omega) with t | t
      · exact Or.inl t
      · exact Or.inr (cNum_ag hn3 (Int.le_refl 18) (cOk_D hR ox) (cOk_D hR ho) t)
    · refine v_iconst (pc := 294) (0) dX9_cheapest_294 (by decide) ?_
      refine v_istore (pc := 295) dX9_cheapest_295 (by decide) ?_
      refine v_lv (l_ch297 hd hR hm hn3 hu hW (sN σ) 0 0 D rfl (by omega) hD ?_) ⟨rfl, rfl, rfl, rfl, rfl, rfl, rfl, trivial⟩
      obtain ⟨q1, q2, q3, q4, q5⟩ := qOd_ok (W := W) (sN σ) 0 D
      generalize qOd W (sN σ) 0 D = T at q1 q2 q3 q4 q5 ⊢
      have ok2 : ∀ j, j < sN σ → 0 ≤ (if T.2 < sN σ then qUp T.1 T.2 (T.1 T.2 + 1) else T.1) j ∧ (if T.2 < sN σ then qUp T.1 T.2 (T.1 T.2 + 1) else T.1) j < W := by
        intro j hj
        have dj := hD j (by omega) hj
        split
        · rename_i ts
          have eT := q4 T.2 (Or.inr (Nat.le_refl _))
          have nT := q5 (by omega)
          have dT := hD T.2 (by omega) ts
          unfold qUp
          by_cases e : j = T.2
          · rw [if_pos e, eT]
            omega
          · rw [if_neg e]
            rcases (show j < T.2 ∨ T.2 < j by omega) with t | t
            · rw [(q3 j (by omega) t).2]
              omega
            · rw [q4 j (by omega)]
              exact dj
        · rename_i ts
          rw [(q3 j (by omega) (by omega)).2]
          omega
      refine l_ch333 (D := D) hd hR hm hn3 hu hW (by omega) hn0 hX rfl (fun j h1 h2 => ?_) ok2 (fun L2 M2 C2 F2 hX2 => ?_)
      · split
        · exact (if_neg (by omega)).trans (q4 j (by omega))
        · exact q4 j (by omega)
      · by_cases ts : T.2 < sN σ
        · rw [if_pos ts] at ok2 hX2 ⊢
          have eT := q4 T.2 (Or.inr (Nat.le_refl _))
          have nx := cOd_next (n := sN σ) (s := T.2) (W := W) (w := D) (v := qUp T.1 T.2 (T.1 T.2 + 1)) hn3 ts (by omega) (fun j q => hD j (by omega) q) (fun j q => ⟨(q3 j (by omega) q).1, (if_neg (by omega)).trans (q3 j (by omega) q).2⟩) ((if_pos rfl).trans (by rw [eT])) (fun j q => (if_neg (by omega)).trans (q4 j (by omega)))
          refine ih (T.2 : Int) best2 bk2 _ L2 M2 C2 F2 (by omega) (by omega) (fun j p q => by have := ok2 j q; omega) hX2 (cRO_m hO2 (fun x ox q => ?_))
          rcases (show cNum (sN σ) x ≤ cNum (sN σ) D ∨ cNum (sN σ) D < cNum (sN σ) x by omega) with t | t
          · exact t
          · have := nx.2 x (fun j q => by have := ox j (Nat.zero_le _) q; omega) t
            omega
        · have en := cOd_end (n := sN σ) (W := W) (w := D) (by omega) hn3 (by omega) (fun j q => (q3 j (by omega) (by omega)).1)
          refine v_iload (pc := 166) dX9_cheapest_166 rfl ?_
          refine v_aload_n (pc := 168) dX9_cheapest_168 rfl ?_
          refine v_gIv (pc := 169) (σ 10 6) dX9_cheapest_169 fl_X9_110 rfl hm.1.2.1 ?_
          refine v_icmp_ge (pc := 172) 396 dX9_cheapest_172 (by decide) (by omega) (by omega) (fun h172 => ?_) (fun h172 => by exfalso; omega)
          exact v_lv (KQ best2 bk2 _ L2 M2 C2 F2 (cRO_m hO2 (fun x ox _ => en x (fun j q => by have := ox j (Nat.zero_le _) q; omega)))) ⟨rfl, rfl, rfl, trivial⟩
set_option maxHeartbeats 4000000 in
set_option maxRecDepth 100000 in
theorem l_ch426 {g : vGl} {d : Nat} {Q : Option Value → List mC → Prop} {σ τ : vSt} {best : Int} {n : Nat} {w D L M C F : Nat → Int} (hn3 : n ≤ 3) (hw : cD n 18 w) (hQ : ∀ G : Nat → Int, (∀ j, j < n → G j = w j) → (∀ j, n ≤ j → G j = τ 54 j) → Q (some (vi best)) (hp (kW (vRow σ 54 G) D L M C F))) : ∀ (m : Nat) (x : Int) (G : Nat → Int) (hx : x + 1 = m) (hmn : m ≤ n) (hG1 : ∀ j, m ≤ j → j < n → G j = w j) (hG2 : ∀ j, n ≤ j → G j = τ 54 j), V g mX9_cheapest d (0, 0, 0, 0) Q 426 [(0, .ref 38), (4, vj best), (8, vi (c18 w m)), (9, vi x)] [] (hp (kW (vRow σ 54 G) D L M C F)) := by
  intro m
  induction m with
  | zero =>
    intro x G hx hmn hG1 hG2
    refine v_iload (pc := 426) dX9_cheapest_426 rfl ?_
    refine v_if_lt (pc := 428) 456 dX9_cheapest_428 (by decide) (by omega) (fun h428 => ?_) (fun h428 => by exfalso; omega)
    refine v_lload (pc := 456) dX9_cheapest_456 rfl ?_
    refine v_l2i (pc := 458) dX9_cheapest_458 ?_
    refine v_ireturn (pc := 459) dX9_cheapest_459 rfl rfl ⟨Nat.le_refl _, Nat.le_refl _⟩ ?_
    exact hQ G (fun j hj => hG1 j (by omega) hj) hG2
  | succ k ih =>
    intro x G hx hmn hG1 hG2
    have wk := hw k (by omega)
    have e18 : c18 w (k + 1) = 18 * c18 w k + w k := rfl
    have ck := c18_rng (n := k) (by omega) (fun j q => hw j (by omega))
    refine v_iload (pc := 426) dX9_cheapest_426 rfl ?_
    refine v_if_lt (pc := 428) 456 dX9_cheapest_428 (by decide) (by omega) (fun h428 => by exfalso; omega) (fun h428 => ?_)
    refine v_aload_n (pc := 431) dX9_cheapest_431 rfl ?_
    refine v_gR (pc := 432) dX9_cheapest_432 fl_X9_65 rfl ?_
    refine v_iload (pc := 435) dX9_cheapest_435 rfl ?_
    refine v_iload (pc := 437) dX9_cheapest_437 rfl ?_
    refine v_bipush (pc := 439) (18) dX9_cheapest_439 (by decide) ?_
    refine v_irem (pc := 441) dX9_cheapest_441 (by omega) (by omega) (by omega) ?_
    refine v_top (show _ = w k by rw [tdiv_pos (by omega)]; omega) ?_
    refine v_sI (pc := 442) (j := k) dX9_cheapest_442 rfl (by omega) (by omega) (by omega) ?_
    refine v_iload (pc := 443) dX9_cheapest_443 rfl ?_
    refine v_bipush (pc := 445) (18) dX9_cheapest_445 (by decide) ?_
    refine v_idiv (pc := 447) dX9_cheapest_447 (by omega) (by omega) (by omega) ?_
    refine v_top (show _ = c18 w k by rw [tdiv_pos (by omega)]; omega) ?_
    refine v_istore (pc := 448) dX9_cheapest_448 (by decide) ?_
    refine v_iinc (pc := 450) (-1) dX9_cheapest_450 rfl (by decide) (by decide) ?_
    refine v_goto (pc := 453) 426 dX9_cheapest_453 (by decide) ?_
    rw [kW_54]
    refine v_lv (ih (x + (-1)) _ (by omega) (by omega) (fun j h1 h2 => ?_) (fun j h1 => (if_neg (by omega)).trans (hG2 j h1))) ⟨rfl, rfl, rfl, rfl, trivial⟩
    by_cases e : j = k
    · rw [e]; exact if_pos rfl
    · exact (if_neg e).trans (hG1 j (by omega) h2)
set_option maxHeartbeats 4000000 in
set_option maxRecDepth 100000 in
theorem l_ch396 {g : vGl} {d : Nat} {Q : Option Value → List mC → Prop} {σ : vSt} {u : Int} (hd : 2 ≤ d) (hR : YR σ) (hm : IM σ) (hn3 : sN σ ≤ 3) (hu : 0 ≤ u ∧ u ≤ 1000) {sp best bk : Int} {D L M C F : Nat → Int} (hO : cRO σ u sp (fun _ => True) best bk) (hQ : ∀ (best bk : Int) (D L M C F : Nat → Int), cRO σ u sp (fun _ => True) best bk → (best = -1 → Q (some (vi (-5))) (hp (kW σ D L M C F))) ∧ (0 ≤ best → ∃ w, cD (sN σ) 18 w ∧ bk = c18 w (sN σ) ∧ ∀ G : Nat → Int, (∀ j, j < sN σ → G j = w j) → (∀ j, sN σ ≤ j → G j = σ 54 j) → Q (some (vi best)) (hp (kW (vRow (vU σ 38 27 (σ 10 6)) 54 G) D L M C F)))) : V g mX9_cheapest d (0, 0, 0, 0) Q 396 [(0, .ref 38), (4, vj best), (6, vi bk)] [] (hp (kW σ D L M C F)) := by
  have eN : ((sN σ : Nat) : Int) = σ 10 6 := by show (((σ 10 6).toNat : Nat) : Int) = σ 10 6; have := hR.1; omega
  have rr := cRO_rng hR hn3 hO
  refine v_lload (pc := 396) dX9_cheapest_396 rfl ?_
  refine v_lconst (pc := 398) (0) dX9_cheapest_398 (by decide) ?_
  refine v_lc_ge (pc := 399) 406 dX9_cheapest_399 dX9_cheapest_400 (by decide) (by omega) (by omega) (fun h399 => ?_) (fun h399 => ?_)
  · refine v_aload_n (pc := 406) dX9_cheapest_406 rfl ?_
    refine v_aload_n (pc := 407) dX9_cheapest_407 rfl ?_
    refine v_gIv (pc := 408) (σ 10 6) dX9_cheapest_408 fl_X9_110 rfl hm.1.2.1 ?_
    refine v_pI (pc := 411) dX9_cheapest_411 fl_X9_188 rfl ?_
    refine v_iload (pc := 414) dX9_cheapest_414 rfl ?_
    refine v_istore (pc := 416) dX9_cheapest_416 (by decide) ?_
    refine v_aload_n (pc := 418) dX9_cheapest_418 rfl ?_
    refine v_gIv (pc := 419) (σ 10 6) dX9_cheapest_419 fl_X9_110 rfl hm.1.2.1 ?_
    refine v_iconst (pc := 422) (1) dX9_cheapest_422 (by decide) ?_
    refine v_isub (pc := 423) dX9_cheapest_423 ?_
    refine v_istore (pc := 424) dX9_cheapest_424 (by decide) ?_
    obtain ⟨w, w1, w2, w3⟩ := (hQ best bk D L M C F hO).2 (by omega)
    rw [kW_38]
    refine v_sg (show kW (vU σ 38 27 (σ 10 6)) D L M C F = kW (vRow (vU σ 38 27 (σ 10 6)) 54 (σ 54)) D L M C F from congrArg (fun s => kW s D L M C F) (vRow_self (vU σ 38 27 (σ 10 6)) 54).symm) ?_
    rw [w2]
    exact v_lv (l_ch426 (τ := σ) (n := sN σ) hn3 w1 w3 (sN σ) (σ 10 6 - 1) (σ 54) (by omega) (Nat.le_refl _) (fun j h1 h2 => by omega) (fun j _ => rfl)) ⟨rfl, rfl, rfl, rfl, trivial⟩
  · refine v_bipush (pc := 403) (-5) dX9_cheapest_403 (by decide) ?_
    refine v_ireturn (pc := 405) dX9_cheapest_405 rfl rfl ⟨Nat.le_refl _, Nat.le_refl _⟩ ?_
    exact (hQ best bk D L M C F hO).1 (by omega)
set_option maxHeartbeats 4000000 in
set_option maxRecDepth 100000 in
theorem l_ch106 {g : vGl} {d : Nat} {Q : Option Value → List mC → Prop} {σ : vSt} {u : Int} (hd : 2 ≤ d) (hR : YR σ) (hm : IM σ) (hn3 : sN σ ≤ 3) (hu : 0 ≤ u ∧ u ≤ 1000) {sp W : Int} {L M C F : Nat → Int} (KK : ∀ D : Nat → Int, (∀ j, j < sN σ → D j = 0) → V g mX9_cheapest d (0, 0, 0, 0) Q 129 [(0, .ref 38), (1, vi sp), (2, vi u), (3, vi W)] [] (hp (kW σ D L M C F))) : ∀ (m k : Nat) (x : Int) (D : Nat → Int) (hx : x = k) (hmn : k + m = sN σ) (hD : ∀ j, j < k → D j = 0), V g mX9_cheapest d (0, 0, 0, 0) Q 106 [(0, .ref 38), (1, vi sp), (2, vi u), (3, vi W), (4, vi x)] [] (hp (kW σ D L M C F)) := by
  have eN : ((sN σ : Nat) : Int) = σ 10 6 := by show (((σ 10 6).toNat : Nat) : Int) = σ 10 6; have := hR.1; omega
  intro m
  induction m with
  | zero =>
    intro k x D hx hmn hD
    refine v_iload (pc := 106) dX9_cheapest_106 rfl ?_
    refine v_aload_n (pc := 108) dX9_cheapest_108 rfl ?_
    refine v_gIv (pc := 109) (σ 10 6) dX9_cheapest_109 fl_X9_110 rfl hm.1.2.1 ?_
    refine v_icmp_ge (pc := 112) 129 dX9_cheapest_112 (by decide) (by omega) (by omega) (fun h112 => ?_) (fun h112 => by exfalso; omega)
    exact v_lv (KK D (fun j hj => hD j (by omega))) ⟨rfl, rfl, rfl, rfl, trivial⟩
  | succ m ih =>
    intro k x D hx hmn hD
    refine v_iload (pc := 106) dX9_cheapest_106 rfl ?_
    refine v_aload_n (pc := 108) dX9_cheapest_108 rfl ?_
    refine v_gIv (pc := 109) (σ 10 6) dX9_cheapest_109 fl_X9_110 rfl hm.1.2.1 ?_
    refine v_icmp_ge (pc := 112) 129 dX9_cheapest_112 (by decide) (by omega) (by omega) (fun h112 => by exfalso; omega) (fun h112 => ?_)
    refine v_aload_n (pc := 115) dX9_cheapest_115 rfl ?_
    refine v_gR (pc := 116) dX9_cheapest_116 fl_X9_68 rfl ?_
    refine v_iload (pc := 119) dX9_cheapest_119 rfl ?_
    refine v_iconst (pc := 121) (0) dX9_cheapest_121 (by decide) ?_
    refine v_sI (pc := 122) (j := k) dX9_cheapest_122 rfl (by omega) (by omega) (by omega) ?_
    refine v_iinc (pc := 123) (1) dX9_cheapest_123 rfl (by decide) (by decide) ?_
    refine v_goto (pc := 126) 106 dX9_cheapest_126 (by decide) ?_
    rw [kW_55]
    refine v_lv (ih (k + 1) (x + 1) _ (by omega) (by omega) (fun j hj => ?_)) ⟨rfl, rfl, rfl, rfl, rfl, trivial⟩
    by_cases e : j = k
    · exact if_pos e
    · exact (if_neg e).trans (hD j (by omega))
set_option maxHeartbeats 4000000 in
set_option maxRecDepth 100000 in
theorem c_X9_cheapest {g : vGl} {d : Nat} {Q : Option Value → List mC → Prop} {σ : vSt} {sp u : Int} (hd : 2 ≤ d) (hR : YR σ) (hm : IM σ) (hx : vr sp) (hz : vr u) (hB : ¬ ((0 ≤ sp ∧ sp ≤ 1000000) ∧ 0 ≤ u ∧ u ≤ 1000) → Q (some (vi (-2))) (hp σ)) (hE : 0 ≤ sp → sp ≤ 1000000 → 0 ≤ u → u ≤ 1000 → (σ 10 6 = 0 ∨ σ 3 6 = 0 ∨ 3 < σ 10 6) → Q (some (vi (-3))) (hp σ)) (hQ : 0 ≤ sp → sp ≤ 1000000 → 0 ≤ u → u ≤ 1000 → 0 < sN σ → sN σ ≤ 3 → 0 < σ 3 6 → ∀ (best bk : Int) (D L M C F : Nat → Int), cRO σ u sp (fun _ => True) best bk → (best = -1 → Q (some (vi (-5))) (hp (kW σ D L M C F))) ∧ (0 ≤ best → ∃ w, cD (sN σ) 18 w ∧ bk = c18 w (sN σ) ∧ ∀ G : Nat → Int, (∀ j, j < sN σ → G j = w j) → (∀ j, sN σ ≤ j → G j = σ 54 j) → Q (some (vi best)) (hp (kW (vRow (vU σ 38 27 (σ 10 6)) 54 G) D L M C F)))) : V g mX9_cheapest d (0, 0, 0, 0) Q 0 [(0, .ref 38), (1, vi sp), (2, vi u)] [] (hp σ) := by
  obtain ⟨⟨r0, r1, r2, r3, r4, r5, r6, r7, r8, r9⟩, rE, rS, rT, rF⟩ := id hR
  have eN : ((sN σ : Nat) : Int) = σ 10 6 := by show (((σ 10 6).toNat : Nat) : Int) = σ 10 6; have := hR.1; omega
  refine v_iload_n (pc := 0) dX9_cheapest_0 rfl ?_
  refine v_i2l (pc := 1) dX9_cheapest_1 (by omega) ?_
  refine v_lconst (pc := 2) (0) dX9_cheapest_2 (by decide) ?_
  refine v_ldc2 (pc := 3) (1000000) dX9_cheapest_3 kc_X9_180 ?_
  refine v_cSi3 (pc := 6) (d' := d - 1) dX9_cheapest_6 kX9_isIn ml_X9_115 stX9_isIn (Nat.le_of_ble_eq_true rfl) (Nat.le_of_ble_eq_true rfl) (by omega) ⟨Nat.le_refl _, Nat.le_refl _⟩ ?_
  refine c_X9_isIn (by omega) (by omega) (by omega) ?_
  refine ⟨_, rfl, ?_⟩
  refine v_if_eq (pc := 9) 24 dX9_cheapest_9 (by decide) (by omega) (fun h9 => ?_) (fun h9 => ?_)
  · refine v_bipush (pc := 24) (-2) dX9_cheapest_24 (by decide) ?_
    refine v_ireturn (pc := 26) dX9_cheapest_26 rfl rfl ⟨Nat.le_refl _, Nat.le_refl _⟩ ?_
    exact hB (by omega)
  · refine v_iload_n (pc := 12) dX9_cheapest_12 rfl ?_
    refine v_i2l (pc := 13) dX9_cheapest_13 (by omega) ?_
    refine v_lconst (pc := 14) (0) dX9_cheapest_14 (by decide) ?_
    refine v_ldc2 (pc := 15) (1000) dX9_cheapest_15 kc_X9_182 ?_
    refine v_cSi3 (pc := 18) (d' := d - 1) dX9_cheapest_18 kX9_isIn ml_X9_115 stX9_isIn (Nat.le_of_ble_eq_true rfl) (Nat.le_of_ble_eq_true rfl) (by omega) ⟨Nat.le_refl _, Nat.le_refl _⟩ ?_
    refine c_X9_isIn (by omega) (by omega) (by omega) ?_
    refine ⟨_, rfl, ?_⟩
    refine v_if_ne (pc := 21) 27 dX9_cheapest_21 (by decide) (by omega) (fun h21 => ?_) (fun h21 => ?_)
    · refine v_aload_n (pc := 27) dX9_cheapest_27 rfl ?_
      refine v_gIv (pc := 28) (σ 10 6) dX9_cheapest_28 fl_X9_110 rfl hm.1.2.1 ?_
      refine v_if_eq (pc := 31) 49 dX9_cheapest_31 (by decide) (by omega) (fun h31 => ?_) (fun h31 => ?_)
      · refine v_bipush (pc := 49) (-3) dX9_cheapest_49 (by decide) ?_
        refine v_ireturn (pc := 51) dX9_cheapest_51 rfl rfl ⟨Nat.le_refl _, Nat.le_refl _⟩ ?_
        exact hE (by omega) (by omega) (by omega) (by omega) (by omega)
      · refine v_aload_n (pc := 34) dX9_cheapest_34 rfl ?_
        refine v_gIv (pc := 35) (σ 3 6) dX9_cheapest_35 fl_X9_107 rfl hm.1.1 ?_
        refine v_if_eq (pc := 38) 49 dX9_cheapest_38 (by decide) (by omega) (fun h38 => ?_) (fun h38 => ?_)
        · refine v_bipush (pc := 49) (-3) dX9_cheapest_49 (by decide) ?_
          refine v_ireturn (pc := 51) dX9_cheapest_51 rfl rfl ⟨Nat.le_refl _, Nat.le_refl _⟩ ?_
          exact hE (by omega) (by omega) (by omega) (by omega) (by omega)
        · refine v_aload_n (pc := 41) dX9_cheapest_41 rfl ?_
          refine v_gIv (pc := 42) (σ 10 6) dX9_cheapest_42 fl_X9_110 rfl hm.1.2.1 ?_
          refine v_iconst (pc := 45) (4) dX9_cheapest_45 (by decide) ?_
          refine v_icmp_ne (pc := 46) 52 dX9_cheapest_46 (by decide) (by omega) (by omega) (fun h46 => ?_) (fun h46 => ?_)
          · have n1 : 0 < sN σ := by omega
            have n3 : sN σ ≤ 3 := by omega
            have hq0 := hQ (by omega) (by omega) (by omega) (by omega) n1 n3 (by omega)
            refine v_sg (kW_self σ).symm ?_
            refine v_iconst (pc := 52) (3) dX9_cheapest_52 (by decide) ?_
            refine v_aload_n (pc := 53) dX9_cheapest_53 rfl ?_
            refine v_gIv (pc := 54) (σ 3 6) dX9_cheapest_54 fl_X9_107 rfl hm.1.1 ?_
            refine v_imul (pc := 57) dX9_cheapest_57 ?_
            refine v_istore_n (pc := 58) dX9_cheapest_58 (by decide) ?_
            refine v_aload_n (pc := 59) dX9_cheapest_59 rfl ?_
            refine v_gR (pc := 60) dX9_cheapest_60 fl_X9_75 rfl ?_
            refine v_aload_n (pc := 63) dX9_cheapest_63 rfl ?_
            refine v_gIv (pc := 64) (σ 10 6) dX9_cheapest_64 fl_X9_110 rfl hm.1.2.1 ?_
            refine v_aload_n (pc := 67) dX9_cheapest_67 rfl ?_
            refine v_gIv (pc := 68) (σ 2 0) dX9_cheapest_68 fl_X9_46 rfl hm.1.2.2.1 ?_
            refine v_i2l (pc := 71) dX9_cheapest_71 (by omega) ?_
            refine v_sJ (pc := 72) (j := sN σ) dX9_cheapest_72 rfl (by omega) (by omega) (by omega) ?_
            refine v_aload_n (pc := 73) dX9_cheapest_73 rfl ?_
            refine v_gR (pc := 74) dX9_cheapest_74 fl_X9_71 rfl ?_
            refine v_aload_n (pc := 77) dX9_cheapest_77 rfl ?_
            refine v_gIv (pc := 78) (σ 10 6) dX9_cheapest_78 fl_X9_110 rfl hm.1.2.1 ?_
            refine v_lconst (pc := 81) (0) dX9_cheapest_81 (by decide) ?_
            refine v_sJ (pc := 82) (j := sN σ) dX9_cheapest_82 rfl (by omega) (by omega) (by omega) ?_
            refine v_aload_n (pc := 83) dX9_cheapest_83 rfl ?_
            refine v_gR (pc := 84) dX9_cheapest_84 fl_X9_78 rfl ?_
            refine v_aload_n (pc := 87) dX9_cheapest_87 rfl ?_
            refine v_gIv (pc := 88) (σ 10 6) dX9_cheapest_88 fl_X9_110 rfl hm.1.2.1 ?_
            refine v_lconst (pc := 91) (0) dX9_cheapest_91 (by decide) ?_
            refine v_sJ (pc := 92) (j := sN σ) dX9_cheapest_92 rfl (by omega) (by omega) (by omega) ?_
            refine v_aload_n (pc := 93) dX9_cheapest_93 rfl ?_
            refine v_gR (pc := 94) dX9_cheapest_94 fl_X9_81 rfl ?_
            refine v_aload_n (pc := 97) dX9_cheapest_97 rfl ?_
            refine v_gIv (pc := 98) (σ 10 6) dX9_cheapest_98 fl_X9_110 rfl hm.1.2.1 ?_
            refine v_iconst (pc := 101) (1) dX9_cheapest_101 (by decide) ?_
            refine v_sZ (pc := 102) (j := sN σ) dX9_cheapest_102 rfl (by omega) (by omega) (by omega) (by omega) ?_
            refine v_iconst (pc := 103) (0) dX9_cheapest_103 (by decide) ?_
            refine v_istore (pc := 104) dX9_cheapest_104 (by decide) ?_
            rw [kW_57, kW_56, kW_58, kW_59]
            refine v_lv (l_ch106 hd hR hm n3 (by omega) (fun D hD => ?_) (sN σ) 0 0 (σ 55) rfl (by omega) (fun j hj => by omega)) ⟨rfl, rfl, rfl, rfl, rfl, trivial⟩
            have okD : ∀ j, j < sN σ → 0 ≤ D j ∧ D j < 3 * σ 3 6 := fun j q => by rw [hD j q]; omega
            refine v_aload_n (pc := 129) dX9_cheapest_129 rfl ?_
            refine v_gIv (pc := 130) (σ 10 6) dX9_cheapest_130 fl_X9_110 rfl hm.1.2.1 ?_
            refine v_iconst (pc := 133) (1) dX9_cheapest_133 (by decide) ?_
            refine v_isub (pc := 134) dX9_cheapest_134 ?_
            refine v_istore (pc := 135) dX9_cheapest_135 (by decide) ?_
            refine v_lv (l_ch137 hd hR hm n3 (by omega) (fun L2 M2 C2 F2 hX2 => ?_) (sN σ) (σ 10 6 - 1) _ _ _ _ (by omega) (Nat.le_refl _) okD ?_) ⟨rfl, rfl, rfl, rfl, rfl, trivial⟩
            · refine v_ldc2 (pc := 155) (-1) dX9_cheapest_155 kc_X9_172 ?_
              refine v_lstore (pc := 158) dX9_cheapest_158 (by decide) ?_
              refine v_iconst (pc := 160) (0) dX9_cheapest_160 (by decide) ?_
              refine v_istore (pc := 161) dX9_cheapest_161 (by decide) ?_
              refine v_iconst (pc := 163) (0) dX9_cheapest_163 (by decide) ?_
              refine v_istore (pc := 164) dX9_cheapest_164 (by decide) ?_
              refine v_lv (l_ch166 (W := 3 * σ 3 6) hd hR hm n3 (by omega) n1 (by omega) rfl (by omega) (fun best2 bk2 D2 L3 M3 C3 F3 h3 => l_ch396 hd hR hm n3 (by omega) h3 hq0) 32768 0 (-1) 0 D L2 M2 C2 F2 (by omega) ?_ (fun j _ q => okD j q) hX2 (Or.inl ⟨rfl, fun x ox _ lt => ?_⟩)) ⟨rfl, rfl, rfl, rfl, rfl, rfl, rfl, trivial⟩
              · have := cNum_rng n3 (cOk_D hR (fun j _ q => okD j q))
                omega
              · have nx := cNum_rng n3 (cOk_D hR ox)
                have nz : cNum (sN σ) D = 0 := by
                  unfold cNum
                  rw [qSum_cong (g := fun _ => 0) _ _ (fun i h1 h2 => by rw [hD i (by omega), Int.zero_mul]), qSum_nil]
                omega
            · intro j p q
              have ej : j = sN σ := by omega
              subst ej
              have z0 : ∀ X : Nat → Int, ∀ z : Int, qUp X (sN σ) z (sN σ) = z := fun X z => if_pos rfl
              rw [z0, z0, z0, z0]
              refine ⟨?_, (qSum_e (Nat.le_refl _)).symm, (qSum_e (Nat.le_refl _)).symm, Or.inr rfl, fun _ j p q => by omega, fun _ => rfl⟩
              unfold cMa
              rw [qSum_e (Nat.le_refl _)]
              omega
          · refine v_bipush (pc := 49) (-3) dX9_cheapest_49 (by decide) ?_
            refine v_ireturn (pc := 51) dX9_cheapest_51 rfl rfl ⟨Nat.le_refl _, Nat.le_refl _⟩ ?_
            exact hE (by omega) (by omega) (by omega) (by omega) (by omega)
    · refine v_bipush (pc := 24) (-2) dX9_cheapest_24 (by decide) ?_
      refine v_ireturn (pc := 26) dX9_cheapest_26 rfl rfl ⟨Nat.le_refl _, Nat.le_refl _⟩ ?_
      exact hB (by omega)
theorem IAll_cheap {σ : vSt} {f r c M L C K : Nat → Int} (hI : IAll σ) (r0 : r 0 = 0) (hc : ∀ j, j < 7 ∨ 12 ≤ j → c j = σ 20 j) : IAll (cW σ f r c M L C K) := by
  obtain ⟨hR, hm, hz, hsk, hfl, hsp, hch, hye, h16⟩ := hI
  obtain ⟨h1, h2, h3, h4, h5⟩ := hch
  refine ⟨hR, hm, hz, hsk, hfl, hsp, ⟨?_, ?_, ?_, h4, fun k hk => ?_⟩, hye, r0⟩
  · show σ 38 27 = c 13
    rw [hc 13 (by omega)]
    exact h1
  · show 0 ≤ c 13 ∧ c 13 ≤ 3
    rw [hc 13 (by omega)]
    exact h2
  · show 0 ≤ c 12 ∧ c 12 ≤ 1048575
    rw [hc 12 (by omega)]
    exact h3
  · show qDig (c 12) k = σ 54 k
    have hk2 : (k : Int) < c 13 := hk
    rw [hc 13 (by omega)] at hk2
    rw [hc 12 (by omega)]
    exact h5 k hk2
theorem IAll_kW {σ : vSt} {D L M C F : Nat → Int} (hI : IAll σ) : IAll (kW σ D L M C F) := hI
theorem IAll_chose {σ : vSt} {f r c M L C K D L2 M2 C2 F w G : Nat → Int} {b : Int} (hI : IAll σ) (hn3 : sN σ ≤ 3) (r0 : r 0 = 0) (hb : 0 ≤ b ∧ b ≤ 1048575) (hw : cD (sN σ) 18 w) (eb : b = sKe (sN σ) 0 w) (g1 : ∀ j, j < sN σ → G j = w j) (g2 : ∀ j, sN σ ≤ j → G j = σ 54 j) : IAll (kW (vRow (vU (cW σ f r (qUp (qUp c 12 b) 13 (σ 10 6)) M L C K) 38 27 (σ 10 6)) 54 G) D L2 M2 C2 F) := by
  obtain ⟨hR, hm, hz, hsk, hfl, hsp, hch, hye, h16⟩ := hI
  obtain ⟨h1, h2, h3, h4, h5⟩ := hch
  have r1 := hR.1
  have eN : ((sN σ : Nat) : Int) = σ 10 6 := by show (((σ 10 6).toNat : Nat) : Int) = σ 10 6; omega
  refine ⟨hR, hm, hz, hsk, hfl, hsp, ⟨rfl, ?_, hb, fun k => ?_, fun k hk => ?_⟩, hye, r0⟩
  · show 0 ≤ σ 10 6 ∧ σ 10 6 ≤ 3
    omega
  · show 0 ≤ G k ∧ G k ≤ 17
    rcases (show k < sN σ ∨ sN σ ≤ k by omega) with t | t
    · rw [g1 k t]
      have := hw k t
      omega
    · rw [g2 k t]
      exact h4 k
  · show qDig b k = G k
    have hk2 : (k : Int) < σ 10 6 := hk
    rw [eb, g1 k (by omega)]
    exact cKe_dig hn3 hw k (by omega)
set_option maxHeartbeats 4000000 in
set_option maxRecDepth 100000 in
theorem pair_cheapest (g : vGl) : vP_cheapest IAll g := by
  intro a b ha hb σ Q hI K
  obtain ⟨hR, hm, hz, hsk, hfl, hsp, hch, hye, h16⟩ := id hI
  refine c_X8_cheapest (by omega) hR ha hb h16 (fun h => ?_) (fun h1 h2 h3 h4 h5 => ?_) (fun h1 h2 h3 h4 h5 h6 h7 f r c M L C Y q1 q2 q3 => ?_)
  · refine K _ _ (fun Q' hQ' => ?_)
    exact c_X9_cheapest (by omega) hR hm ha hb (fun _ => hQ' _ hI) (fun h1 h2 h3 h4 => absurd ⟨⟨h1, h2⟩, h3, h4⟩ h) (fun h1 h2 h3 h4 => absurd ⟨⟨h1, h2⟩, h3, h4⟩ h)
  · refine K _ _ (fun Q' hQ' => ?_)
    refine c_X9_cheapest (by omega) hR hm ha hb (fun h => absurd ⟨⟨h1, h2⟩, h3, h4⟩ h) (fun _ _ _ _ _ => hQ' _ hI) (fun _ _ _ _ n1 n3 n6 => ?_)
    have n1' : 0 < (σ 10 6).toNat := n1
    have n3' : (σ 10 6).toNat ≤ 3 := n3
    exfalso
    omega
  · have n1' : 0 < (σ 10 6).toNat := h5
    have n3' : (σ 10 6).toNat ≤ 3 := h6
    have cr := cO_rng hR h6 q3
    refine ⟨fun t => ?_, fun t => ?_⟩
    · refine K _ _ (fun Q' hQ' => ?_)
      refine c_X9_cheapest (σ := cW σ f r c M L C Y) (by omega) hR hm ha hb (fun h => absurd ⟨⟨h1, h2⟩, h3, h4⟩ h) (fun _ _ _ _ h => by have h' : σ 10 6 = 0 ∨ σ 3 6 = 0 ∨ 3 < σ 10 6 := h; exfalso; omega) (fun _ _ _ _ _ _ _ best bk D L2 M2 C2 F hO => ?_)
      have hO2 : cRO σ b a (fun _ => True) best bk := hO
      rcases cBest hR h6 q3 hO2 with ⟨e1, e2⟩ | ⟨e0, e1, -⟩
      · exact ⟨fun _ => hQ' _ (IAll_kW (IAll_cheap hI q1 q2)), fun x => by exfalso; omega⟩
      · exfalso; omega
    · refine K _ _ (fun Q' hQ' => ?_)
      refine c_X9_cheapest (σ := cW σ f r (qUp (qUp c 12 (c 11)) 13 (σ 10 6)) M L C Y) (by omega) hR hm ha hb (fun h => absurd ⟨⟨h1, h2⟩, h3, h4⟩ h) (fun _ _ _ _ h => by have h' : σ 10 6 = 0 ∨ σ 3 6 = 0 ∨ 3 < σ 10 6 := h; exfalso; omega) (fun _ _ _ _ _ _ _ best bk D L2 M2 C2 F hO => ?_)
      have hO2 : cRO σ b a (fun _ => True) best bk := hO
      rcases cBest hR h6 q3 hO2 with ⟨e1, e2⟩ | ⟨e0, e1, e2, w, w1, w2, w3⟩
      · exact absurd e1 t
      · refine ⟨fun x => by exfalso; omega, fun _ => ⟨w, cOk_D hR w1, w3, fun G g1 g2 => ?_⟩⟩
        rw [← e2]
        exact hQ' _ (IAll_chose hI h6 q1 (cr.2.2 (by omega)) (cOk_D hR w1) w2 g1 g2)
