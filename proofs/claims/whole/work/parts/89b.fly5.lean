/-! the reference: one tick -/
theorem qUp_qUp (a : Nat → Int) (k : Nat) (x y : Int) : qUp (qUp a k x) k y = qUp a k y := by
  funext j
  unfold qUp
  split <;> simp_all
theorem eA_gr {σ : vSt} {a : Nat → Int} {b w t gr gt br h p gr' gt' : Int} (q : eA σ a b w t gr gt br h p) : eA σ (qUp (qUp a 32 gr') 33 gt') b w t gr' gt' br h p := by
  obtain ⟨h0, h1, h2, h3, h4, h5, h6, h7, h8, h9⟩ := q
  exact ⟨eO_u (eO_u h0 (by omega)) (by omega), h1, h2, h3, rfl, rfl, h6, h7, h8, h9⟩
theorem eA_br {σ : vSt} {a : Nat → Int} {b w t gr gt br h p br' : Int} (q : eA σ a b w t gr gt br h p) : eA σ (qUp a 34 br') b w t gr gt br' h p := by
  obtain ⟨h0, h1, h2, h3, h4, h5, h6, h7, h8, h9⟩ := q
  exact ⟨eO_u h0 (by omega), h1, h2, h3, h4, h5, rfl, h7, h8, h9⟩
theorem eA_p {σ : vSt} {a : Nat → Int} {b w t gr gt br h p p' : Int} (q : eA σ a b w t gr gt br h p) : eA σ (qUp a 37 p') b w t gr gt br h p' := by
  obtain ⟨h0, h1, h2, h3, h4, h5, h6, h7, h8, h9⟩ := q
  exact ⟨eO_u h0 (by omega), h1, h2, h3, h4, h5, h6, h7, h8, rfl⟩
theorem eA_h {σ : vSt} {a : Nat → Int} {b w t gr gt br h p h' : Int} (q : eA σ a b w t gr gt br h p) : eA σ (qUp a 36 h') b w t gr gt br h' p := by
  obtain ⟨h0, h1, h2, h3, h4, h5, h6, h7, h8, h9⟩ := q
  exact ⟨eO_u h0 (by omega), h1, h2, h3, h4, h5, h6, h7, rfl, h9⟩
theorem eA_t {σ : vSt} {a : Nat → Int} {b w t gr gt br h p t' : Int} (q : eA σ a b w t gr gt br h p) : eA σ (qUp a 31 t') b w t' gr gt br h p := by
  obtain ⟨h0, h1, h2, h3, h4, h5, h6, h7, h8, h9⟩ := q
  exact ⟨eO_u h0 (by omega), h1, h2, rfl, h4, h5, h6, h7, h8, h9⟩
theorem eA_b {σ : vSt} {a : Nat → Int} {b w t gr gt br h p b' : Int} (q : eA σ a b w t gr gt br h p) : eA σ (qUp (qUp a 35 b') 29 b') b' w t gr gt br h p := by
  obtain ⟨h0, h1, h2, h3, h4, h5, h6, h7, h8, h9⟩ := q
  exact ⟨eO_u (eO_u h0 (by omega)) (by omega), rfl, h2, h3, h4, h5, h6, rfl, h8, h9⟩
theorem eA_w {σ : vSt} {a : Nat → Int} {b w t gr gt br h p w' : Int} (q : eA σ a b w t gr gt br h p) : eA σ (qUp a 30 w') b w' t gr gt br h p := by
  obtain ⟨h0, h1, h2, h3, h4, h5, h6, h7, h8, h9⟩ := q
  exact ⟨eO_u h0 (by omega), h1, rfl, h3, h4, h5, h6, h7, h8, h9⟩
theorem fDg_rng {e : vSt} {f : Nat → Int} (hS : WS e) (w : WF e f) : 0 ≤ fDg e f ∧ fDg e f ≤ 1000000000 := by
  have t3 := w.2.2.2.2.1
  have := drag_rng (ar := e 26) (fun j => ⟨(hS j).1, (hS j).2.1⟩) (p := f 10) (h := f 9) t3.1 t3.2
  unfold fDg
  omega
theorem fBu_rng {e : vSt} {f : Nat → Int} (hR : YR e) (w : WF e f) (lt : f 2 < e 10 6) : 0 ≤ fBu f ∧ fBu f ≤ 9 ∧ fBu f ≤ f 3 ∧ 0 ≤ f 5 * fBu f ∧ f 5 * fBu f ≤ 8991 := by
  have r := w.rng hR
  have b : 0 ≤ fBu f ∧ fBu f ≤ 9 ∧ fBu f ≤ f 3 := by unfold fBu; omega
  have m := mul_le (a := f 5) (b := fBu f) (A := 999) (B := 9) (by omega) (by omega) (by omega) (by omega)
  omega
set_option maxHeartbeats 4000000 in
set_option maxRecDepth 100000 in
theorem l_t1 {g : vGl} {d : Nat} {Q : Option Value → List mC → Prop} {σ : vSt} {a l f : Nat → Int} (hR : YR σ) (hm : IM σ) (hk : ISky σ) (w : WF σ f) (lt : f 2 < σ 10 6) (hA : eA σ a (f 2) (f 4) (f 8) (f 11) (f 12) (f 13) (f 9) (f 10)) (hl : l (f 2).toNat = f 3) (K : V g mX9_ticksOnce d (0, 0, 0, 0) Q 32 [(0, .ref 38)] [vi (fBu f)] (hp (mS σ a l))) : V g mX9_ticksOnce d (0, 0, 0, 0) Q 0 [(0, .ref 38)] [] (hp (mS σ a l)) := by
  have rg := w.rng hR
  have rn := hR.1
  obtain ⟨h0, x29, x30, x31, x32, x33, x34, x35, x36, x37⟩ := id hA
  have a13 : a 13 = σ 10 6 := (h0 13 (by omega)).trans hm.1.2.1
  refine v_aload_n (pc := 0) dX9_ticksOnce_0 rfl ?_
  refine v_gIv (pc := 1) (f 4) dX9_ticksOnce_1 fl_X9_197 rfl x30 ?_
  refine v_aload_n (pc := 4) dX9_ticksOnce_4 rfl ?_
  refine v_gR (pc := 5) dX9_ticksOnce_5 fl_X9_85 rfl ?_
  refine v_aload_n (pc := 8) dX9_ticksOnce_8 rfl ?_
  refine v_gIv (pc := 9) (f 2) dX9_ticksOnce_9 fl_X9_191 rfl x29 ?_
  refine v_aIv (pc := 12) (j := (f 2).toNat) (f 3) dX9_ticksOnce_12 rfl rfl (by omega) (by omega) hl ?_
  refine v_icmp_ge (pc := 13) 23 dX9_ticksOnce_13 (by decide) (by omega) (by omega) (fun h13 => ?_) (fun h13 => ?_)
  · refine v_aload_n (pc := 23) dX9_ticksOnce_23 rfl ?_
    refine v_gR (pc := 24) dX9_ticksOnce_24 fl_X9_85 rfl ?_
    refine v_aload_n (pc := 27) dX9_ticksOnce_27 rfl ?_
    refine v_gIv (pc := 28) (f 2) dX9_ticksOnce_28 fl_X9_191 rfl x29 ?_
    refine v_aIv (pc := 31) (j := (f 2).toNat) (f 3) dX9_ticksOnce_31 rfl rfl (by omega) (by omega) hl ?_
    refine v_top (show _ = fBu f by unfold fBu; omega) ?_
    exact K
  · refine v_aload_n (pc := 16) dX9_ticksOnce_16 rfl ?_
    refine v_gIv (pc := 17) (f 4) dX9_ticksOnce_17 fl_X9_197 rfl x30 ?_
    refine v_goto (pc := 20) 32 dX9_ticksOnce_20 (by decide) ?_
    refine v_top (show _ = fBu f by unfold fBu; omega) ?_
    exact K
set_option maxHeartbeats 4000000 in
set_option maxRecDepth 100000 in
theorem l_t2 {g : vGl} {d : Nat} {Q : Option Value → List mC → Prop} {σ : vSt} {a l f : Nat → Int} (hR : YR σ) (hm : IM σ) (hk : ISky σ) (w : WF σ f) (lt : f 2 < σ 10 6) (hd : 3 ≤ d) (hN : eN σ a l f) (K : V g mX9_ticksOnce d (0, 0, 0, 0) Q 59 [(0, .ref 38), (1, vi (fBu f)), (2, vj (f 6)), (4, vj (f 5 * fBu f))] [] (hp (mS σ a l))) : V g mX9_ticksOnce d (0, 0, 0, 0) Q 32 [(0, .ref 38)] [vi (fBu f)] (hp (mS σ a l)) := by
  have hA := hN.A lt
  obtain ⟨⟨r0, r1, r2, r3, r4, r5, r6, r7, r8, r9⟩, rE, rS, rT, rF⟩ := id hR
  have bu := fBu_rng hR w lt
  have a5 : f 5 = σ 4 (σ 11 (f 2).toNat).toNat := (w.1.2.2.1 lt).2.2.2.2.1
  have s1 := rS (f 2).toNat
  have rg := w.rng hR
  have rn := hR.1
  obtain ⟨h0, x29, x30, x31, x32, x33, x34, x35, x36, x37⟩ := id hA
  have a13 : a 13 = σ 10 6 := (h0 13 (by omega)).trans hm.1.2.1
  refine v_istore_n (pc := 32) dX9_ticksOnce_32 (by decide) ?_
  refine v_aload_n (pc := 33) dX9_ticksOnce_33 rfl ?_
  refine v_cVi0 (pc := 34) (z := 0) (d' := d - 1) dX9_ticksOnce_34 kX9_massNow ml_X9_200 iwX9_massNow swX9_massNow rfl rfl (Nat.le_of_ble_eq_true rfl) (Nat.le_of_ble_eq_true rfl) (by omega) ⟨Nat.le_refl _, Nat.le_refl _⟩ ?_
  refine c_X9_massNow hR hm hk (by omega) w lt hN ?_
  refine ⟨_, rfl, ?_⟩
  refine v_i2l (pc := 37) dX9_ticksOnce_37 (by omega) ?_
  refine v_lstore_n (pc := 38) dX9_ticksOnce_38 (by decide) ?_
  refine v_aload_n (pc := 39) dX9_ticksOnce_39 rfl ?_
  refine v_gR (pc := 40) dX9_ticksOnce_40 fl_X9_7 rfl ?_
  refine v_aload_n (pc := 43) dX9_ticksOnce_43 rfl ?_
  refine v_gR (pc := 44) dX9_ticksOnce_44 fl_X9_28 rfl ?_
  refine v_aload_n (pc := 47) dX9_ticksOnce_47 rfl ?_
  refine v_gIv (pc := 48) (f 2) dX9_ticksOnce_48 fl_X9_191 rfl x29 ?_
  refine v_aIv (pc := 51) (j := (f 2).toNat) (σ 11 (f 2).toNat) dX9_ticksOnce_51 rfl rfl (by omega) (by omega) (congrFun hm.2.2.1 (f 2).toNat) ?_
  refine v_aIv (pc := 52) (j := (σ 11 (f 2).toNat).toNat) (f 5) dX9_ticksOnce_52 rfl rfl (by omega) (by omega) ((congrFun hm.2.1.1 _).trans a5.symm) ?_
  refine v_i2l (pc := 53) dX9_ticksOnce_53 (by omega) ?_
  refine v_iload_n (pc := 54) dX9_ticksOnce_54 rfl ?_
  refine v_i2l (pc := 55) dX9_ticksOnce_55 (by omega) ?_
  refine v_lmul (pc := 56) dX9_ticksOnce_56 ?_
  refine v_lstore (pc := 57) dX9_ticksOnce_57 (by decide) ?_
  exact v_lv K ⟨rfl, rfl, rfl, rfl, trivial⟩
set_option maxHeartbeats 4000000 in
set_option maxRecDepth 100000 in
theorem l_t3 {g : vGl} {d : Nat} {Q : Option Value → List mC → Prop} {σ : vSt} {a l f : Nat → Int} (hR : YR σ) (hm : IM σ) (hk : ISky σ) (w : WF σ f) (lt : f 2 < σ 10 6) (hA : eA σ a (f 2) (f 4) (f 8) (f 11) (f 12) (f 13) (f 9) (f 10)) (K : V g mX9_ticksOnce d (0, 0, 0, 0) Q 109 [(0, .ref 38), (1, vi (fBu f)), (2, vj (f 6)), (4, vj (f 5 * fBu f))] [vj (fDg σ f)] (hp (mS σ a l))) : V g mX9_ticksOnce d (0, 0, 0, 0) Q 59 [(0, .ref 38), (1, vi (fBu f)), (2, vj (f 6)), (4, vj (f 5 * fBu f))] [] (hp (mS σ a l)) := by
  have rg := w.rng hR
  have rn := hR.1
  obtain ⟨h0, x29, x30, x31, x32, x33, x34, x35, x36, x37⟩ := id hA
  have a13 : a 13 = σ 10 6 := (h0 13 (by omega)).trans hm.1.2.1
  have s1 := sq_rng rg.2.2.2.2.2.2.2.2.1.1 rg.2.2.2.2.2.2.2.2.1.2
  have s2 := drag_rng (ar := σ 26) (fun j => ⟨(hk.2.2 j).1, (hk.2.2 j).2.1⟩) (h := f 9) rg.2.2.2.2.2.2.2.2.1.1 rg.2.2.2.2.2.2.2.2.1.2
  have s3 := hk.2.2 (f 9 / 1000).toNat
  refine v_aload_n (pc := 59) dX9_ticksOnce_59 rfl ?_
  refine v_gJv (pc := 60) (f 9) dX9_ticksOnce_60 fl_X9_204 rfl x36 ?_
  refine v_ldc2 (pc := 63) (1000) dX9_ticksOnce_63 kc_X9_182 ?_
  refine v_ldiv (pc := 66) dX9_ticksOnce_66 (by omega) (by omega) (by omega) ?_
  refine v_topj (show _ = f 9 / 1000 from tdiv_pos (by omega)) ?_
  refine v_lstore (pc := 67) dX9_ticksOnce_67 (by decide) ?_
  refine v_lload (pc := 69) dX9_ticksOnce_69 rfl ?_
  refine v_ldc2 (pc := 71) (9) dX9_ticksOnce_71 kc_X9_127 ?_
  refine v_lc_le (pc := 74) 82 dX9_ticksOnce_74 dX9_ticksOnce_75 (by decide) (by omega) (by omega) (fun h74 => ?_) (fun h74 => ?_)
  · refine v_aload_n (pc := 82) dX9_ticksOnce_82 rfl ?_
    refine v_gJv (pc := 83) (f 10) dX9_ticksOnce_83 fl_X9_208 rfl x37 ?_
    refine v_aload_n (pc := 86) dX9_ticksOnce_86 rfl ?_
    refine v_gJv (pc := 87) (f 10) dX9_ticksOnce_87 fl_X9_208 rfl x37 ?_
    refine v_lmul (pc := 90) dX9_ticksOnce_90 ?_
    refine v_ldc2 (pc := 91) (100) dX9_ticksOnce_91 kc_X9_138 ?_
    refine v_ldiv (pc := 94) dX9_ticksOnce_94 (by omega) (by omega) (by omega) ?_
    refine v_topj (show _ = f 10 * f 10 / 100 from tdiv_pos (by omega)) ?_
    refine v_aload_n (pc := 95) dX9_ticksOnce_95 rfl ?_
    refine v_gR (pc := 96) dX9_ticksOnce_96 fl_X9_40 rfl ?_
    refine v_lload (pc := 99) dX9_ticksOnce_99 rfl ?_
    refine v_l2i (pc := 101) dX9_ticksOnce_101 ?_
    refine v_aIv (pc := 102) (j := (f 9 / 1000).toNat) (σ 26 (f 9 / 1000).toNat) dX9_ticksOnce_102 rfl rfl (by omega) (by omega) (congrFun hk.1 _) ?_
    refine v_i2l (pc := 103) dX9_ticksOnce_103 (by omega) ?_
    refine v_lmul (pc := 104) dX9_ticksOnce_104 ?_
    refine v_ldc2 (pc := 105) (100) dX9_ticksOnce_105 kc_X9_138 ?_
    refine v_ldiv (pc := 108) dX9_ticksOnce_108 (by omega) (by omega) (by omega) ?_
    first
    | (refine v_topj (show (0 : Int) = fDg σ f from (if_pos (by omega)).symm) ?_
       exact v_lv K ⟨rfl, rfl, rfl, rfl, trivial⟩)
    | (refine v_topj (show _ = f 10 * f 10 / 100 * σ 26 (f 9 / 1000).toNat / 100 from tdiv_pos (by omega)) ?_
       refine v_topj (show _ = fDg σ f from ?_) ?_
       · unfold fDg fDrag
         by_cases z : f 10 = 0
         · rw [if_pos (Or.inl z), z]
           simp
         · rw [if_neg (by omega)]
       · exact v_lv K ⟨rfl, rfl, rfl, rfl, trivial⟩)
  · refine v_lconst (pc := 78) (0) dX9_ticksOnce_78 (by decide) ?_
    refine v_goto (pc := 79) 109 dX9_ticksOnce_79 (by decide) ?_
    first
    | (refine v_topj (show (0 : Int) = fDg σ f from (if_pos (by omega)).symm) ?_
       exact v_lv K ⟨rfl, rfl, rfl, rfl, trivial⟩)
    | (refine v_topj (show _ = f 10 * f 10 / 100 * σ 26 (f 9 / 1000).toNat / 100 from tdiv_pos (by omega)) ?_
       refine v_topj (show _ = fDg σ f from ?_) ?_
       · unfold fDg fDrag
         by_cases z : f 10 = 0
         · rw [if_pos (Or.inl z), z]
           simp
         · rw [if_neg (by omega)]
       · exact v_lv K ⟨rfl, rfl, rfl, rfl, trivial⟩)
set_option maxHeartbeats 4000000 in
set_option maxRecDepth 100000 in
theorem l_t4 {g : vGl} {d : Nat} {Q : Option Value → List mC → Prop} {σ : vSt} {a l f : Nat → Int} (hR : YR σ) (hm : IM σ) (hk : ISky σ) (w : WF σ f) (lt : f 2 < σ 10 6) (hA : eA σ a (f 2) (f 4) (f 8) (f 11) (f 12) (f 13) (f 9) (f 10)) (K : ∀ a' : Nat → Int, eA σ a' (f 2) (f 4) (f 8) (fB σ f 11) (fB σ f 12) (f 13) (f 9) (f 10) → V g mX9_ticksOnce d (0, 0, 0, 0) Q 144 [(0, .ref 38), (1, vi (fBu f)), (2, vj (f 6)), (4, vj (f 5 * fBu f)), (8, vj (fDg σ f))] [] (hp (mS σ a' l))) : V g mX9_ticksOnce d (0, 0, 0, 0) Q 109 [(0, .ref 38), (1, vi (fBu f)), (2, vj (f 6)), (4, vj (f 5 * fBu f))] [vj (fDg σ f)] (hp (mS σ a l)) := by
  have rg := w.rng hR
  have rn := hR.1
  obtain ⟨h0, x29, x30, x31, x32, x33, x34, x35, x36, x37⟩ := id hA
  have a13 : a 13 = σ 10 6 := (h0 13 (by omega)).trans hm.1.2.1
  have dg := fDg_rng hk.2.2 w
  refine v_lstore (pc := 109) dX9_ticksOnce_109 (by decide) ?_
  refine v_aload_n (pc := 111) dX9_ticksOnce_111 rfl ?_
  refine v_gIv (pc := 112) (f 8) dX9_ticksOnce_112 fl_X9_211 rfl x31 ?_
  refine v_if_eq (pc := 115) 129 dX9_ticksOnce_115 (by decide) (by omega) (fun h115 => ?_) (fun h115 => ?_)
  · refine v_aload_n (pc := 129) dX9_ticksOnce_129 rfl ?_
    refine v_lload (pc := 130) dX9_ticksOnce_130 rfl ?_
    refine v_l2i (pc := 132) dX9_ticksOnce_132 ?_
    refine v_pI (pc := 133) dX9_ticksOnce_133 fl_X9_214 rfl ?_
    refine v_aload_n (pc := 136) dX9_ticksOnce_136 rfl ?_
    refine v_aload_n (pc := 137) dX9_ticksOnce_137 rfl ?_
    refine v_gIv (pc := 138) (f 8) dX9_ticksOnce_138 fl_X9_211 rfl x31 ?_
    refine v_pI (pc := 141) dX9_ticksOnce_141 fl_X9_217 rfl ?_
    have e11 : fB σ f 11 = if f 11 < fDg σ f then fDg σ f else f 11 := rfl
    have e12 : fB σ f 12 = if f 11 < fDg σ f then f 8 else f 12 := rfl
    have z8 := w.2.2.2.2.2.1
    have z0 : f 10 = 0 → fDg σ f = 0 := fun z => if_pos (Or.inl z)
    first
    | (rw [mS_u, mS_u]
       refine v_lv (K _ ?_) ⟨rfl, rfl, rfl, rfl, rfl, trivial⟩
       have y1 : fDg σ f = fB σ f 11 := by omega
       have y2 : f 8 = fB σ f 12 := by omega
       rw [← y1, ← y2]
       exact eA_gr hA)
    | (refine v_lv (K _ ?_) ⟨rfl, rfl, rfl, rfl, rfl, trivial⟩
       have y1 : f 11 = fB σ f 11 := by omega
       have y2 : f 12 = fB σ f 12 := by omega
       rw [← y1, ← y2]
       exact hA)
  · refine v_lload (pc := 118) dX9_ticksOnce_118 rfl ?_
    refine v_aload_n (pc := 120) dX9_ticksOnce_120 rfl ?_
    refine v_gIv (pc := 121) (f 11) dX9_ticksOnce_121 fl_X9_214 rfl x32 ?_
    refine v_i2l (pc := 124) dX9_ticksOnce_124 (by omega) ?_
    refine v_lc_le (pc := 125) 144 dX9_ticksOnce_125 dX9_ticksOnce_126 (by decide) (by omega) (by omega) (fun h125 => ?_) (fun h125 => ?_)
    · have e11 : fB σ f 11 = if f 11 < fDg σ f then fDg σ f else f 11 := rfl
      have e12 : fB σ f 12 = if f 11 < fDg σ f then f 8 else f 12 := rfl
      have z8 := w.2.2.2.2.2.1
      have z0 : f 10 = 0 → fDg σ f = 0 := fun z => if_pos (Or.inl z)
      first
      | (rw [mS_u, mS_u]
         refine v_lv (K _ ?_) ⟨rfl, rfl, rfl, rfl, rfl, trivial⟩
         have y1 : fDg σ f = fB σ f 11 := by omega
         have y2 : f 8 = fB σ f 12 := by omega
         rw [← y1, ← y2]
         exact eA_gr hA)
      | (refine v_lv (K _ ?_) ⟨rfl, rfl, rfl, rfl, rfl, trivial⟩
         have y1 : f 11 = fB σ f 11 := by omega
         have y2 : f 12 = fB σ f 12 := by omega
         rw [← y1, ← y2]
         exact hA)
    · refine v_aload_n (pc := 129) dX9_ticksOnce_129 rfl ?_
      refine v_lload (pc := 130) dX9_ticksOnce_130 rfl ?_
      refine v_l2i (pc := 132) dX9_ticksOnce_132 ?_
      refine v_pI (pc := 133) dX9_ticksOnce_133 fl_X9_214 rfl ?_
      refine v_aload_n (pc := 136) dX9_ticksOnce_136 rfl ?_
      refine v_aload_n (pc := 137) dX9_ticksOnce_137 rfl ?_
      refine v_gIv (pc := 138) (f 8) dX9_ticksOnce_138 fl_X9_211 rfl x31 ?_
      refine v_pI (pc := 141) dX9_ticksOnce_141 fl_X9_217 rfl ?_
      have e11 : fB σ f 11 = if f 11 < fDg σ f then fDg σ f else f 11 := rfl
      have e12 : fB σ f 12 = if f 11 < fDg σ f then f 8 else f 12 := rfl
      have z8 := w.2.2.2.2.2.1
      have z0 : f 10 = 0 → fDg σ f = 0 := fun z => if_pos (Or.inl z)
      first
      | (rw [mS_u, mS_u]
         refine v_lv (K _ ?_) ⟨rfl, rfl, rfl, rfl, rfl, trivial⟩
         have y1 : fDg σ f = fB σ f 11 := by omega
         have y2 : f 8 = fB σ f 12 := by omega
         rw [← y1, ← y2]
         exact eA_gr hA)
      | (refine v_lv (K _ ?_) ⟨rfl, rfl, rfl, rfl, rfl, trivial⟩
         have y1 : f 11 = fB σ f 11 := by omega
         have y2 : f 12 = fB σ f 12 := by omega
         rw [← y1, ← y2]
         exact hA)
set_option maxHeartbeats 4000000 in
set_option maxRecDepth 100000 in
theorem l_t5 {g : vGl} {d : Nat} {Q : Option Value → List mC → Prop} {σ : vSt} {a l f : Nat → Int} (hR : YR σ) (hm : IM σ) (hk : ISky σ) (w : WF σ f) (lt : f 2 < σ 10 6) (hA : eA σ a (f 2) (f 4) (f 8) (fB σ f 11) (fB σ f 12) (f 13) (f 9) (f 10)) (K : ∀ a' : Nat → Int, eA σ a' (f 2) (f 4) (f 8) (fB σ f 11) (fB σ f 12) (fB σ f 13) (f 9) (f 10) → V g mX9_ticksOnce d (0, 0, 0, 0) Q 172 [(0, .ref 38), (1, vi (fBu f)), (2, vj (f 6)), (4, vj (f 5 * fBu f)), (8, vj (fDg σ f))] [] (hp (mS σ a' l))) : V g mX9_ticksOnce d (0, 0, 0, 0) Q 144 [(0, .ref 38), (1, vi (fBu f)), (2, vj (f 6)), (4, vj (f 5 * fBu f)), (8, vj (fDg σ f))] [] (hp (mS σ a l)) := by
  have rg := w.rng hR
  have rn := hR.1
  obtain ⟨h0, x29, x30, x31, x32, x33, x34, x35, x36, x37⟩ := id hA
  have a13 : a 13 = σ 10 6 := (h0 13 (by omega)).trans hm.1.2.1
  have dg := fDg_rng hk.2.2 w
  have s0 := hk.2.2 0
  refine v_lload (pc := 144) dX9_ticksOnce_144 rfl ?_
  refine v_aload_n (pc := 146) dX9_ticksOnce_146 rfl ?_
  refine v_gR (pc := 147) dX9_ticksOnce_147 fl_X9_43 rfl ?_
  refine v_iconst (pc := 150) (0) dX9_ticksOnce_150 (by decide) ?_
  refine v_aIv (pc := 151) (j := 0) (σ 27 0) dX9_ticksOnce_151 rfl rfl (by omega) (by omega) (congrFun hk.2.1 0) ?_
  refine v_i2l (pc := 152) dX9_ticksOnce_152 (by omega) ?_
  refine v_lc_le (pc := 153) 172 dX9_ticksOnce_153 dX9_ticksOnce_154 (by decide) (by omega) (by omega) (fun h153 => ?_) (fun h153 => ?_)
  · have e13 : fB σ f 13 = if f 11 < fDg σ f ∧ f 13 = -1 ∧ σ 27 0 < fDg σ f then f 8 else f 13 := rfl
    have z := w.2.2.2.2.2.2.2.2.2
    first
    | (rw [mS_u]
       refine v_lv (K _ ?_) ⟨rfl, rfl, rfl, rfl, rfl, trivial⟩
       have y1 : f 8 = fB σ f 13 := by omega
       rw [← y1]
       exact eA_br hA)
    | (refine v_lv (K _ ?_) ⟨rfl, rfl, rfl, rfl, rfl, trivial⟩
       have y1 : f 13 = fB σ f 13 := by omega
       rw [← y1]
       exact hA)
  · refine v_aload_n (pc := 157) dX9_ticksOnce_157 rfl ?_
    refine v_gIv (pc := 158) (f 13) dX9_ticksOnce_158 fl_X9_220 rfl x34 ?_
    refine v_if_ge (pc := 161) 172 dX9_ticksOnce_161 (by decide) (by omega) (fun h161 => ?_) (fun h161 => ?_)
    · have e13 : fB σ f 13 = if f 11 < fDg σ f ∧ f 13 = -1 ∧ σ 27 0 < fDg σ f then f 8 else f 13 := rfl
      have z := w.2.2.2.2.2.2.2.2.2
      first
      | (rw [mS_u]
         refine v_lv (K _ ?_) ⟨rfl, rfl, rfl, rfl, rfl, trivial⟩
         have y1 : f 8 = fB σ f 13 := by omega
         rw [← y1]
         exact eA_br hA)
      | (refine v_lv (K _ ?_) ⟨rfl, rfl, rfl, rfl, rfl, trivial⟩
         have y1 : f 13 = fB σ f 13 := by omega
         rw [← y1]
         exact hA)
    · refine v_aload_n (pc := 164) dX9_ticksOnce_164 rfl ?_
      refine v_aload_n (pc := 165) dX9_ticksOnce_165 rfl ?_
      refine v_gIv (pc := 166) (f 8) dX9_ticksOnce_166 fl_X9_211 rfl x31 ?_
      refine v_pI (pc := 169) dX9_ticksOnce_169 fl_X9_220 rfl ?_
      have e13 : fB σ f 13 = if f 11 < fDg σ f ∧ f 13 = -1 ∧ σ 27 0 < fDg σ f then f 8 else f 13 := rfl
      have z := w.2.2.2.2.2.2.2.2.2
      first
      | (rw [mS_u]
         refine v_lv (K _ ?_) ⟨rfl, rfl, rfl, rfl, rfl, trivial⟩
         have y1 : f 8 = fB σ f 13 := by omega
         rw [← y1]
         exact eA_br hA)
      | (refine v_lv (K _ ?_) ⟨rfl, rfl, rfl, rfl, rfl, trivial⟩
         have y1 : f 13 = fB σ f 13 := by omega
         rw [← y1]
         exact hA)
set_option maxHeartbeats 4000000 in
set_option maxRecDepth 100000 in
theorem l_t6 {g : vGl} {d : Nat} {Q : Option Value → List mC → Prop} {σ : vSt} {a l f : Nat → Int} (hR : YR σ) (hm : IM σ) (hk : ISky σ) (w : WF σ f) (lt : f 2 < σ 10 6) (hA : eA σ a (f 2) (f 4) (f 8) (fB σ f 11) (fB σ f 12) (fB σ f 13) (f 9) (f 10)) (K : V g mX9_ticksOnce d (0, 0, 0, 0) Q 204 [(0, .ref 38), (1, vi (fBu f)), (2, vj (f 6)), (4, vj (f 5 * fBu f)), (8, vj (fDg σ f))] [vj ((fPu σ f).tdiv (f 6))] (hp (mS σ a l))) : V g mX9_ticksOnce d (0, 0, 0, 0) Q 172 [(0, .ref 38), (1, vi (fBu f)), (2, vj (f 6)), (4, vj (f 5 * fBu f)), (8, vj (fDg σ f))] [] (hp (mS σ a l)) := by
  have rg := w.rng hR
  have rn := hR.1
  obtain ⟨h0, x29, x30, x31, x32, x33, x34, x35, x36, x37⟩ := id hA
  have a13 : a 13 = σ 10 6 := (h0 13 (by omega)).trans hm.1.2.1
  have dg := fDg_rng hk.2.2 w
  have bu := fBu_rng hR w lt
  have e0 : fPu σ f = if f 10 < 0 then 100 * (f 5 * fBu f - f 6) + fDg σ f else 100 * (f 5 * fBu f - f 6) - fDg σ f := rfl
  refine v_ldc2 (pc := 172) (100) dX9_ticksOnce_172 kc_X9_138 ?_
  refine v_lload (pc := 175) dX9_ticksOnce_175 rfl ?_
  refine v_lmul (pc := 177) dX9_ticksOnce_177 ?_
  refine v_ldc2 (pc := 178) (100) dX9_ticksOnce_178 kc_X9_138 ?_
  refine v_lload_n (pc := 181) dX9_ticksOnce_181 rfl ?_
  refine v_lmul (pc := 182) dX9_ticksOnce_182 ?_
  refine v_lsub (pc := 183) dX9_ticksOnce_183 ?_
  refine v_aload_n (pc := 184) dX9_ticksOnce_184 rfl ?_
  refine v_gJv (pc := 185) (f 10) dX9_ticksOnce_185 fl_X9_208 rfl x37 ?_
  refine v_lconst (pc := 188) (0) dX9_ticksOnce_188 (by decide) ?_
  refine v_lc_ge (pc := 189) 198 dX9_ticksOnce_189 dX9_ticksOnce_190 (by decide) (by omega) (by omega) (fun h189 => ?_) (fun h189 => ?_)
  · refine v_lload (pc := 198) dX9_ticksOnce_198 rfl ?_
    refine v_lneg (pc := 200) dX9_ticksOnce_200 ?_
    refine v_ladd (pc := 201) dX9_ticksOnce_201 ?_
    refine v_topj (show _ = fPu σ f by omega) ?_
    refine v_lload_n (pc := 202) dX9_ticksOnce_202 rfl ?_
    refine v_ldiv (pc := 203) dX9_ticksOnce_203 (by omega) (by omega) (by omega) ?_
    exact K
  · refine v_lload (pc := 193) dX9_ticksOnce_193 rfl ?_
    refine v_goto (pc := 195) 201 dX9_ticksOnce_195 (by decide) ?_
    refine v_ladd (pc := 201) dX9_ticksOnce_201 ?_
    refine v_topj (show _ = fPu σ f by omega) ?_
    refine v_lload_n (pc := 202) dX9_ticksOnce_202 rfl ?_
    refine v_ldiv (pc := 203) dX9_ticksOnce_203 (by omega) (by omega) (by omega) ?_
    exact K
set_option maxHeartbeats 4000000 in
set_option maxRecDepth 100000 in
theorem l_t7 {g : vGl} {d : Nat} {Q : Option Value → List mC → Prop} {σ : vSt} {a l f : Nat → Int} (hR : YR σ) (hm : IM σ) (hk : ISky σ) (w : WF σ f) (lt : f 2 < σ 10 6) (hA : eA σ a (f 2) (f 4) (f 8) (fB σ f 11) (fB σ f 12) (fB σ f 13) (f 9) (f 10)) (K : ∀ a' : Nat → Int, eA σ a' (f 2) (f 4) (f 8) (fB σ f 11) (fB σ f 12) (fB σ f 13) (f 9) (fPa σ f) → V g mX9_ticksOnce d (0, 0, 0, 0) Q 259 [(0, .ref 38), (1, vi (fBu f))] [] (hp (mS σ a' l))) : V g mX9_ticksOnce d (0, 0, 0, 0) Q 204 [(0, .ref 38), (1, vi (fBu f)), (2, vj (f 6)), (4, vj (f 5 * fBu f)), (8, vj (fDg σ f))] [vj ((fPu σ f).tdiv (f 6))] (hp (mS σ a l)) := by
  have rg := w.rng hR
  have rn := hR.1
  obtain ⟨h0, x29, x30, x31, x32, x33, x34, x35, x36, x37⟩ := id hA
  have a13 : a 13 = σ 10 6 := (h0 13 (by omega)).trans hm.1.2.1
  have dg := fDg_rng hk.2.2 w
  have bu := fBu_rng hR w lt
  have e0 : fPu σ f = if f 10 < 0 then 100 * (f 5 * fBu f - f 6) + fDg σ f else 100 * (f 5 * fBu f - f 6) - fDg σ f := rfl
  have hq : -2000000000 ≤ (fPu σ f).tdiv (f 6) ∧ (fPu σ f).tdiv (f 6) ≤ 2000000000 := tdiv_rng (by omega) (by omega)
  have ePa : fPa σ f = max (-100000) (min (f 10 + (fPu σ f).tdiv (f 6)) 100000) := rfl
  refine v_lstore (pc := 204) dX9_ticksOnce_204 (by decide) ?_
  refine v_aload_n (pc := 206) dX9_ticksOnce_206 rfl ?_
  refine v_dup (pc := 207) dX9_ticksOnce_207 rfl ?_
  refine v_gJv (pc := 208) (f 10) dX9_ticksOnce_208 fl_X9_208 rfl x37 ?_
  refine v_lload (pc := 211) dX9_ticksOnce_211 rfl ?_
  refine v_ladd (pc := 213) dX9_ticksOnce_213 ?_
  refine v_pJ (pc := 214) dX9_ticksOnce_214 fl_X9_208 rfl ?_
  refine v_aload_n (pc := 217) dX9_ticksOnce_217 rfl ?_
  refine v_aload_n (pc := 218) dX9_ticksOnce_218 rfl ?_
  refine v_gJv (pc := 219) (f 10 + (fPu σ f).tdiv (f 6)) dX9_ticksOnce_219 fl_X9_208 rfl rfl ?_
  refine v_ldc2 (pc := 222) (100000) dX9_ticksOnce_222 kc_X9_223 ?_
  refine v_lc_le (pc := 225) 235 dX9_ticksOnce_225 dX9_ticksOnce_226 (by decide) (by omega) (by omega) (fun h225 => ?_) (fun h225 => ?_)
  · refine v_aload_n (pc := 235) dX9_ticksOnce_235 rfl ?_
    refine v_gJv (pc := 236) (f 10 + (fPu σ f).tdiv (f 6)) dX9_ticksOnce_236 fl_X9_208 rfl rfl ?_
    refine v_ldc2 (pc := 239) (-100000) dX9_ticksOnce_239 kc_X9_225 ?_
    refine v_lc_ge (pc := 242) 252 dX9_ticksOnce_242 dX9_ticksOnce_243 (by decide) (by omega) (by omega) (fun h242 => ?_) (fun h242 => ?_)
    · refine v_aload_n (pc := 252) dX9_ticksOnce_252 rfl ?_
      refine v_gJv (pc := 253) (f 10 + (fPu σ f).tdiv (f 6)) dX9_ticksOnce_253 fl_X9_208 rfl rfl ?_
      refine v_topj (show _ = fPa σ f by rw [ePa]; omega) ?_
      refine v_pJ (pc := 256) dX9_ticksOnce_256 fl_X9_208 rfl ?_
      rw [mS_u, mS_u, qUp_qUp]
      exact v_lv (K _ (eA_p hA)) ⟨rfl, rfl, trivial⟩
    · refine v_ldc2 (pc := 246) (-100000) dX9_ticksOnce_246 kc_X9_225 ?_
      refine v_goto (pc := 249) 256 dX9_ticksOnce_249 (by decide) ?_
      refine v_topj (show _ = fPa σ f by rw [ePa]; omega) ?_
      refine v_pJ (pc := 256) dX9_ticksOnce_256 fl_X9_208 rfl ?_
      rw [mS_u, mS_u, qUp_qUp]
      exact v_lv (K _ (eA_p hA)) ⟨rfl, rfl, trivial⟩
  · refine v_ldc2 (pc := 229) (100000) dX9_ticksOnce_229 kc_X9_223 ?_
    refine v_goto (pc := 232) 256 dX9_ticksOnce_232 (by decide) ?_
    refine v_topj (show _ = fPa σ f by rw [ePa]; omega) ?_
    refine v_pJ (pc := 256) dX9_ticksOnce_256 fl_X9_208 rfl ?_
    rw [mS_u, mS_u, qUp_qUp]
    exact v_lv (K _ (eA_p hA)) ⟨rfl, rfl, trivial⟩
set_option maxHeartbeats 4000000 in
set_option maxRecDepth 100000 in
theorem l_t8 {g : vGl} {d : Nat} {Q : Option Value → List mC → Prop} {σ : vSt} {a l f : Nat → Int} (hR : YR σ) (hm : IM σ) (hk : ISky σ) (w : WF σ f) (lt : f 2 < σ 10 6) (hA : eA σ a (f 2) (f 4) (f 8) (fB σ f 11) (fB σ f 12) (fB σ f 13) (f 9) (fPa σ f)) (K : ∀ a' : Nat → Int, eA σ a' (f 2) (f 4) (f 8) (fB σ f 11) (fB σ f 12) (fB σ f 13) (fB σ f 9) (fB σ f 10) → V g mX9_ticksOnce d (0, 0, 0, 0) Q 291 [(0, .ref 38), (1, vi (fBu f))] [] (hp (mS σ a' l))) : V g mX9_ticksOnce d (0, 0, 0, 0) Q 259 [(0, .ref 38), (1, vi (fBu f))] [] (hp (mS σ a l)) := by
  have rg := w.rng hR
  have rn := hR.1
  obtain ⟨h0, x29, x30, x31, x32, x33, x34, x35, x36, x37⟩ := id hA
  have a13 : a 13 = σ 10 6 := (h0 13 (by omega)).trans hm.1.2.1
  have pa : -100000 ≤ fPa σ f ∧ fPa σ f ≤ 100000 := by unfold fPa; omega
  refine v_aload_n (pc := 259) dX9_ticksOnce_259 rfl ?_
  refine v_dup (pc := 260) dX9_ticksOnce_260 rfl ?_
  refine v_gJv (pc := 261) (f 9) dX9_ticksOnce_261 fl_X9_204 rfl x36 ?_
  refine v_aload_n (pc := 264) dX9_ticksOnce_264 rfl ?_
  refine v_gJv (pc := 265) (fPa σ f) dX9_ticksOnce_265 fl_X9_208 rfl x37 ?_
  refine v_ladd (pc := 268) dX9_ticksOnce_268 ?_
  refine v_pJ (pc := 269) dX9_ticksOnce_269 fl_X9_204 rfl ?_
  refine v_aload_n (pc := 272) dX9_ticksOnce_272 rfl ?_
  refine v_gJv (pc := 273) (f 9 + fPa σ f) dX9_ticksOnce_273 fl_X9_204 rfl rfl ?_
  refine v_lconst (pc := 276) (0) dX9_ticksOnce_276 (by decide) ?_
  refine v_lc_ge (pc := 277) 291 dX9_ticksOnce_277 dX9_ticksOnce_278 (by decide) (by omega) (by omega) (fun h277 => ?_) (fun h277 => ?_)
  · have e9 : fB σ f 9 = if f 9 + fPa σ f < 0 then 0 else f 9 + fPa σ f := rfl
    have e10 : fB σ f 10 = if f 9 + fPa σ f < 0 then 0 else fPa σ f := rfl
    first
    | (rw [mS_u, mS_u, mS_u, qUp_qUp]
       rw [if_pos (by omega)] at e9 e10
       rw [e9, e10] at K
       exact v_lv (K _ (eA_p (eA_h hA))) ⟨rfl, rfl, trivial⟩)
    | (rw [mS_u]
       rw [if_neg (by omega)] at e9 e10
       rw [e9, e10] at K
       exact v_lv (K _ (eA_h hA)) ⟨rfl, rfl, trivial⟩)
  · refine v_aload_n (pc := 281) dX9_ticksOnce_281 rfl ?_
    refine v_lconst (pc := 282) (0) dX9_ticksOnce_282 (by decide) ?_
    refine v_pJ (pc := 283) dX9_ticksOnce_283 fl_X9_204 rfl ?_
    refine v_aload_n (pc := 286) dX9_ticksOnce_286 rfl ?_
    refine v_lconst (pc := 287) (0) dX9_ticksOnce_287 (by decide) ?_
    refine v_pJ (pc := 288) dX9_ticksOnce_288 fl_X9_208 rfl ?_
    have e9 : fB σ f 9 = if f 9 + fPa σ f < 0 then 0 else f 9 + fPa σ f := rfl
    have e10 : fB σ f 10 = if f 9 + fPa σ f < 0 then 0 else fPa σ f := rfl
    first
    | (rw [mS_u, mS_u, mS_u, qUp_qUp]
       rw [if_pos (by omega)] at e9 e10
       rw [e9, e10] at K
       exact v_lv (K _ (eA_p (eA_h hA))) ⟨rfl, rfl, trivial⟩)
    | (rw [mS_u]
       rw [if_neg (by omega)] at e9 e10
       rw [e9, e10] at K
       exact v_lv (K _ (eA_h hA)) ⟨rfl, rfl, trivial⟩)
theorem eN_T {σ : vSt} {a l' F : Nat → Int} {wk : Int} (hA : eA σ a (F 2) wk (F 8) (F 11) (F 12) (F 13) (F 9) (F 10)) (h4 : F 2 < σ 10 6 → wk = F 4) (hl : F 2 < σ 10 6 → l' (F 2).toNat = F 3) (hl2 : ∀ j : Nat, F 2 < j → (j : Int) < σ 10 6 → l' j = σ 13 j) : eN σ a l' F := by
  obtain ⟨h0, h1, h2, h3, h5, h6, h7, h8, h9, h10⟩ := hA
  exact ⟨h0, ⟨h1, fun q => h2.trans (h4 q), h3, h5, h6, h7, h8, h9, h10⟩, hl, hl2⟩
set_option maxHeartbeats 4000000 in
set_option maxRecDepth 100000 in
theorem l_t9 {g : vGl} {d : Nat} {Q : Option Value → List mC → Prop} {σ : vSt} {a l f : Nat → Int} (hR : YR σ) (hm : IM σ) (hk : ISky σ) (w : WF σ f) (lt : f 2 < σ 10 6) (h3 : 0 < f 3) (h8 : f 8 < 2000) (hA : eA σ a (f 2) (f 4) (f 8) (fB σ f 11) (fB σ f 12) (fB σ f 13) (fB σ f 9) (fB σ f 10)) (hl : l (f 2).toNat = f 3) (hl2 : ∀ j : Nat, f 2 < j → (j : Int) < σ 10 6 → l j = σ 13 j) (hQ : ∀ a' l' : Nat → Int, eN σ a' l' (fT σ f) → Q none (hp (mS σ a' l'))) : V g mX9_ticksOnce d (0, 0, 0, 0) Q 291 [(0, .ref 38), (1, vi (fBu f))] [] (hp (mS σ a l)) := by
  obtain ⟨⟨r0, r1, r2, r3, r4, r5, r6, r7, r8, r9⟩, rE, rS, rT, rF⟩ := id hR
  have rg := w.rng hR
  have rn := hR.1
  obtain ⟨h0, x29, x30, x31, x32, x33, x34, x35, x36, x37⟩ := id hA
  have a13 : a 13 = σ 10 6 := (h0 13 (by omega)).trans hm.1.2.1
  have bu := fBu_rng hR w lt
  obtain ⟨wB, wB1, wB2, wB3, wB4, wB5⟩ := WF_B hk.2.2 w lt h3 h8
  refine v_aload_n (pc := 291) dX9_ticksOnce_291 rfl ?_
  refine v_gR (pc := 292) dX9_ticksOnce_292 fl_X9_85 rfl ?_
  refine v_aload_n (pc := 295) dX9_ticksOnce_295 rfl ?_
  refine v_gIv (pc := 296) (f 2) dX9_ticksOnce_296 fl_X9_191 rfl x29 ?_
  refine v_dup2 (pc := 299) dX9_ticksOnce_299 rfl rfl ?_
  refine v_aIv (pc := 300) (j := (f 2).toNat) (f 3) dX9_ticksOnce_300 rfl rfl (by omega) (by omega) hl ?_
  refine v_iload_n (pc := 301) dX9_ticksOnce_301 rfl ?_
  refine v_isub (pc := 302) dX9_ticksOnce_302 ?_
  refine v_sI (pc := 303) (j := (f 2).toNat) dX9_ticksOnce_303 rfl rfl (by omega) (by omega) ?_
  rw [mS_l]
  refine v_aload_n (pc := 304) dX9_ticksOnce_304 rfl ?_
  refine v_dup (pc := 305) dX9_ticksOnce_305 rfl ?_
  refine v_gIv (pc := 306) (f 8) dX9_ticksOnce_306 fl_X9_211 rfl x31 ?_
  refine v_iconst (pc := 309) (1) dX9_ticksOnce_309 (by decide) ?_
  refine v_iadd (pc := 310) dX9_ticksOnce_310 ?_
  refine v_pI (pc := 311) dX9_ticksOnce_311 fl_X9_211 rfl ?_
  rw [mS_u]
  refine v_aload_n (pc := 314) dX9_ticksOnce_314 rfl ?_
  refine v_gR (pc := 315) dX9_ticksOnce_315 fl_X9_85 rfl ?_
  refine v_aload_n (pc := 318) dX9_ticksOnce_318 rfl ?_
  refine v_gIv (pc := 319) (f 2) dX9_ticksOnce_319 fl_X9_191 rfl x29 ?_
  refine v_aIv (pc := 322) (j := (f 2).toNat) (f 3 - fBu f) dX9_ticksOnce_322 rfl rfl (by omega) (by omega) (if_pos rfl) ?_
  refine v_if_le (pc := 323) 327 dX9_ticksOnce_323 (by decide) (by omega) (fun h323 => ?_) (fun h323 => ?_)
  · refine v_aload_n (pc := 327) dX9_ticksOnce_327 rfl ?_
    refine v_dup (pc := 328) dX9_ticksOnce_328 rfl ?_
    refine v_gIv (pc := 329) (f 2) dX9_ticksOnce_329 fl_X9_194 rfl x35 ?_
    refine v_iconst (pc := 332) (1) dX9_ticksOnce_332 (by decide) ?_
    refine v_iadd (pc := 333) dX9_ticksOnce_333 ?_
    refine v_pI (pc := 334) dX9_ticksOnce_334 fl_X9_194 rfl ?_
    refine v_aload_n (pc := 337) dX9_ticksOnce_337 rfl ?_
    refine v_dup (pc := 338) dX9_ticksOnce_338 rfl ?_
    refine v_gIv (pc := 339) (f 2) dX9_ticksOnce_339 fl_X9_191 rfl x29 ?_
    refine v_iconst (pc := 342) (1) dX9_ticksOnce_342 (by decide) ?_
    refine v_iadd (pc := 343) dX9_ticksOnce_343 ?_
    refine v_pI (pc := 344) dX9_ticksOnce_344 fl_X9_191 rfl ?_
    rw [mS_u, mS_u]
    have z3 : f 3 - fBu f = 0 := by omega
    have eT : fT σ f = fD σ (fB σ f) := if_pos z3
    rw [eT] at hQ
    obtain ⟨d1, d2, d3, d4⟩ := WF_D hR wB.1 wB.2.2 (show fB σ f 2 < σ 10 6 from lt)
    have e2 : fD σ (fB σ f) 2 = f 2 + 1 := d2
    have dt : ∀ a' : Nat → Int, eO σ a' → ∀ wk : Int, eA σ a' (f 2 + 1) wk (f 8 + 1) (fB σ f 11) (fB σ f 12) (fB σ f 13) (fB σ f 9) (fB σ f 10) → (f 2 + 1 < σ 10 6 → wk = σ 12 (f 2 + 1).toNat) → Q none (hp (mS σ a' (qUp l (f 2).toNat (f 3 - fBu f)))) := by
      intro a' q0 wk qA q4
      refine hQ _ _ (eN_T (wk := wk) ?_ ?_ ?_ ?_)
      · rw [e2, d4 8 (by omega), d4 11 (by omega), d4 12 (by omega), d4 13 (by omega), d4 9 (by omega), d4 10 (by omega)]
        exact qA
      · intro q
        rw [q4 (by omega)]
        show _ = if 0 ≤ f 2 + 1 ∧ f 2 + 1 < σ 10 6 then σ 12 (f 2 + 1).toNat else 0
        rw [if_pos (by omega)]
      · intro q
        rw [e2]
        show (if (f 2 + 1).toNat = (f 2).toNat then _ else l (f 2 + 1).toNat) = if 0 ≤ f 2 + 1 ∧ f 2 + 1 < σ 10 6 then σ 13 (f 2 + 1).toNat else 0
        rw [if_neg (by omega), if_pos (by omega)]
        exact hl2 _ (by omega) (by omega)
      · intro j q1 q2
        rw [e2] at q1
        show (if j = (f 2).toNat then _ else l j) = _
        rw [if_neg (by omega)]
        exact hl2 j (by omega) q2
    have a13b : qUp (qUp (qUp a 31 (f 8 + 1)) 35 (f 2 + 1)) 29 (f 2 + 1) 13 = σ 10 6 := a13
    refine v_aload_n (pc := 347) dX9_ticksOnce_347 rfl ?_
    refine v_gIv (pc := 348) (f 2 + 1) dX9_ticksOnce_348 fl_X9_191 rfl rfl ?_
    refine v_aload_n (pc := 351) dX9_ticksOnce_351 rfl ?_
    refine v_gIv (pc := 352) (σ 10 6) dX9_ticksOnce_352 fl_X9_110 rfl a13b ?_
    refine v_icmp_ge (pc := 355) 371 dX9_ticksOnce_355 (by decide) (by omega) (by omega) (fun h355 => ?_) (fun h355 => ?_)
    · refine v_return (pc := 371) dX9_ticksOnce_371 rfl ⟨Nat.le_refl _, Nat.le_refl _⟩ ?_
      first
      | (rw [mS_u]
         exact dt _ (eA_w (eA_b (eA_t hA))).1 _ (eA_w (eA_b (eA_t hA))) (fun _ => rfl))
      | exact dt _ (eA_b (eA_t hA)).1 _ (eA_b (eA_t hA)) (fun q => by exfalso; omega)
    · refine v_aload_n (pc := 358) dX9_ticksOnce_358 rfl ?_
      refine v_aload_n (pc := 359) dX9_ticksOnce_359 rfl ?_
      refine v_gR (pc := 360) dX9_ticksOnce_360 fl_X9_31 rfl ?_
      refine v_aload_n (pc := 363) dX9_ticksOnce_363 rfl ?_
      refine v_gIv (pc := 364) (f 2 + 1) dX9_ticksOnce_364 fl_X9_191 rfl rfl ?_
      refine v_aIv (pc := 367) (j := (f 2 + 1).toNat) (σ 12 (f 2 + 1).toNat) dX9_ticksOnce_367 rfl rfl (by omega) (by omega) (congrFun hm.2.2.2.1 _) ?_
      refine v_pI (pc := 368) dX9_ticksOnce_368 fl_X9_197 rfl ?_
      refine v_return (pc := 371) dX9_ticksOnce_371 rfl ⟨Nat.le_refl _, Nat.le_refl _⟩ ?_
      first
      | (rw [mS_u]
         exact dt _ (eA_w (eA_b (eA_t hA))).1 _ (eA_w (eA_b (eA_t hA))) (fun _ => rfl))
      | exact dt _ (eA_b (eA_t hA)).1 _ (eA_b (eA_t hA)) (fun q => by exfalso; omega)
  · refine v_return (pc := 326) dX9_ticksOnce_326 rfl ⟨Nat.le_refl _, Nat.le_refl _⟩ ?_
    have eT : fT σ f = fB σ f := if_neg (show ¬ f 3 - fBu f = 0 by omega)
    rw [eT] at hQ
    refine hQ _ _ (eN_T (F := fB σ f) (eA_t hA) (fun _ => rfl) (fun _ => if_pos rfl) (fun j h1 h2 => ?_))
    have h1' : f 2 < j := h1
    show (if j = (f 2).toNat then _ else l j) = _
    rw [if_neg (by omega)]
    exact hl2 j h1' h2
theorem c_X9_ticksOnce {g : vGl} {d : Nat} {Q : Option Value → List mC → Prop} {σ : vSt} {a l f : Nat → Int} (hR : YR σ) (hm : IM σ) (hk : ISky σ) (w : WF σ f) (lt : f 2 < σ 10 6) (hd : 3 ≤ d) (h3 : 0 < f 3) (h8 : f 8 < 2000) (hN : eN σ a l f) (hQ : ∀ a' l' : Nat → Int, eN σ a' l' (fT σ f) → Q none (hp (mS σ a' l'))) : V g mX9_ticksOnce d (0, 0, 0, 0) Q 0 [(0, .ref 38)] [] (hp (mS σ a l)) := by
  have hA := hN.A lt
  have hl := hN.2.2.1 lt
  refine l_t1 hR hm hk w lt hA hl ?_
  refine l_t2 hR hm hk w lt hd hN ?_
  refine l_t3 hR hm hk w lt hA ?_
  refine l_t4 hR hm hk w lt hA (fun a1 A1 => ?_)
  refine l_t5 hR hm hk w lt A1 (fun a2 A2 => ?_)
  refine l_t6 hR hm hk w lt A2 ?_
  refine l_t7 hR hm hk w lt A2 (fun a3 A3 => ?_)
  refine l_t8 hR hm hk w lt A3 (fun a4 A4 => ?_)
  exact l_t9 hR hm hk w lt h3 h8 A4 hl hN.2.2.2 hQ
