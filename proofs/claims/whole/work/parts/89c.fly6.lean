/-! the reference: whole flights -/
def fFl (e : vSt) (t : Int) (f g : Nat → Int) : Prop := (t < 0 ∧ ∃ n, fR e 2000 0 n f g) ∨ (0 ≤ t ∧ t < 2000 ∧ ∃ f1 n n', fR e t 0 n f f1 ∧ fR e 2000 0 n' (fLose e f1) g)
set_option maxHeartbeats 4000000 in
set_option maxRecDepth 100000 in
theorem l_f191 {g : vGl} {d : Nat} {Q : Option Value → List mC → Prop} {σ : vSt} {a l f g2 : Nat → Int} {o : Int} (hR : YR σ) (hm : IM σ) (hk : ISky σ) (w : WF σ f) (hN : eN σ a l f) (hQ : Q (some (vi (fBk σ f))) (hp (mS σ a l))) : V g mX9_flies d (0, 0, 0, 0) Q 191 [(0, .ref 38)] [] (hp (mS σ a l)) := by
  have rg := w.rng hR
  obtain ⟨h0, ⟨x29, x30, x31, x32, x33, x34, x35, x36, x37⟩, hl, hl2⟩ := id hN
  have a13 : a 13 = σ 10 6 := (h0 13 (by omega)).trans hm.1.2.1
  have s1 := hk.2.2 1
  have s2 := hk.2.2 2
  unfold fBk at hQ
  refine v_aload_n (pc := 191) dX9_flies_191 rfl ?_
  refine v_gIv (pc := 192) (f 13) dX9_flies_192 fl_X9_220 rfl x34 ?_
  refine v_if_lt (pc := 195) 200 dX9_flies_195 (by decide) (by omega) (fun h195 => ?_) (fun h195 => ?_)
  · refine v_aload_n (pc := 200) dX9_flies_200 rfl ?_
    refine v_gJv (pc := 201) (f 9) dX9_flies_201 fl_X9_204 rfl x36 ?_
    refine v_aload_n (pc := 204) dX9_flies_204 rfl ?_
    refine v_gR (pc := 205) dX9_flies_205 fl_X9_43 rfl ?_
    refine v_iconst (pc := 208) (1) dX9_flies_208 (by decide) ?_
    refine v_aIv (pc := 209) (j := 1) (σ 27 1) dX9_flies_209 rfl rfl (by omega) (by omega) (congrFun hk.2.1 1) ?_
    refine v_i2l (pc := 210) dX9_flies_210 (by omega) ?_
    refine v_lc_ge (pc := 211) 219 dX9_flies_211 dX9_flies_212 (by decide) (by omega) (by omega) (fun h211 => ?_) (fun h211 => ?_)
    · refine v_aload_n (pc := 219) dX9_flies_219 rfl ?_
      refine v_gJv (pc := 220) (f 10) dX9_flies_220 fl_X9_208 rfl x37 ?_
      refine v_aload_n (pc := 223) dX9_flies_223 rfl ?_
      refine v_gR (pc := 224) dX9_flies_224 fl_X9_43 rfl ?_
      refine v_iconst (pc := 227) (2) dX9_flies_227 (by decide) ?_
      refine v_aIv (pc := 228) (j := 2) (σ 27 2) dX9_flies_228 rfl rfl (by omega) (by omega) (congrFun hk.2.1 2) ?_
      refine v_i2l (pc := 229) dX9_flies_229 (by omega) ?_
      refine v_lc_ge (pc := 230) 238 dX9_flies_230 dX9_flies_231 (by decide) (by omega) (by omega) (fun h230 => ?_) (fun h230 => ?_)
      · refine v_iconst (pc := 238) (0) dX9_flies_238 (by decide) ?_
        refine v_ireturn (pc := 239) dX9_flies_239 rfl rfl ⟨Nat.le_refl _, Nat.le_refl _⟩ ?_
        first | (rw [if_pos (by omega)] at hQ; exact hQ) | (rw [if_neg (by omega), if_pos (by omega)] at hQ; exact hQ) | (rw [if_neg (by omega), if_neg (by omega), if_pos (by omega)] at hQ; exact hQ) | (rw [if_neg (by omega), if_neg (by omega), if_neg (by omega)] at hQ; exact hQ)
      · refine v_iconst (pc := 234) (3) dX9_flies_234 (by decide) ?_
        refine v_goto (pc := 235) 239 dX9_flies_235 (by decide) ?_
        refine v_ireturn (pc := 239) dX9_flies_239 rfl rfl ⟨Nat.le_refl _, Nat.le_refl _⟩ ?_
        first | (rw [if_pos (by omega)] at hQ; exact hQ) | (rw [if_neg (by omega), if_pos (by omega)] at hQ; exact hQ) | (rw [if_neg (by omega), if_neg (by omega), if_pos (by omega)] at hQ; exact hQ) | (rw [if_neg (by omega), if_neg (by omega), if_neg (by omega)] at hQ; exact hQ)
    · refine v_iconst (pc := 215) (2) dX9_flies_215 (by decide) ?_
      refine v_goto (pc := 216) 239 dX9_flies_216 (by decide) ?_
      refine v_ireturn (pc := 239) dX9_flies_239 rfl rfl ⟨Nat.le_refl _, Nat.le_refl _⟩ ?_
      first | (rw [if_pos (by omega)] at hQ; exact hQ) | (rw [if_neg (by omega), if_pos (by omega)] at hQ; exact hQ) | (rw [if_neg (by omega), if_neg (by omega), if_pos (by omega)] at hQ; exact hQ) | (rw [if_neg (by omega), if_neg (by omega), if_neg (by omega)] at hQ; exact hQ)
  · refine v_iconst (pc := 198) (1) dX9_flies_198 (by decide) ?_
    refine v_ireturn (pc := 199) dX9_flies_199 rfl rfl ⟨Nat.le_refl _, Nat.le_refl _⟩ ?_
    first | (rw [if_pos (by omega)] at hQ; exact hQ) | (rw [if_neg (by omega), if_pos (by omega)] at hQ; exact hQ) | (rw [if_neg (by omega), if_neg (by omega), if_pos (by omega)] at hQ; exact hQ) | (rw [if_neg (by omega), if_neg (by omega), if_neg (by omega)] at hQ; exact hQ)
set_option maxHeartbeats 4000000 in
set_option maxRecDepth 100000 in
theorem l_f2 {g : vGl} {d : Nat} {Q : Option Value → List mC → Prop} {σ : vSt} {g2 : Nat → Int} {o : Int} (hd : 4 ≤ d) (hR : YR σ) (hm : IM σ) (hk : ISky σ) (hoo : -1 ≤ o ∧ o < 2000) (hX : ∀ a' l' : Nat → Int, eN σ a' l' g2 → V g mX9_flies d (0, 0, 0, 0) Q 191 [(0, .ref 38)] [] (hp (mS σ a' l'))) : ∀ (n m : Nat) (f a l : Nat → Int) (hm0 : m ≤ n) (hr : fR σ 2000 0 m f g2) (w : WF σ f) (hN : eN σ a l f) (ho : o < 0 ∨ o < f 8), V g mX9_flies d (0, 0, 0, 0) Q 78 [(0, .ref 38), (1, vi o)] [] (hp (mS σ a l)) := by
  intro n
  induction n with
  | zero =>
    intro m f a l hm0 hr w hN ho
    have rg := w.rng hR
    obtain ⟨h0, ⟨x29, x30, x31, x32, x33, x34, x35, x36, x37⟩, hl, hl2⟩ := id hN
    have a13 : a 13 = σ 10 6 := (h0 13 (by omega)).trans hm.1.2.1
    have em : m = 0 := by omega
    subst em
    have q : ¬ fGs 2000 0 f := hr.1
    have eg : g2 = f := hr.2
    subst eg
    have q2 : 0 < g2 7 → 2000 ≤ g2 8 := fun t => by rcases (show 2000 ≤ g2 8 ∨ g2 8 < 2000 by omega) with u | u; exact u; exact absurd ⟨t, u, fun x => absurd x (by decide)⟩ q
    refine v_aload_n (pc := 78) dX9_flies_78 rfl ?_
    refine v_gIv (pc := 79) (g2 8) dX9_flies_79 fl_X9_211 rfl x31 ?_
    refine v_sipush (pc := 82) (2000) dX9_flies_82 (by decide) ?_
    refine v_icmp_ge (pc := 85) 191 dX9_flies_85 (by decide) (by omega) (by omega) (fun h85 => ?_) (fun h85 => ?_)
    · exact v_lv (hX _ _ hN) ⟨rfl, trivial⟩
    · refine v_aload_n (pc := 88) dX9_flies_88 rfl ?_
      refine v_cVi0 (pc := 89) (z := 0) (d' := d - 1) dX9_flies_89 kX9_finds ml_X9_227 iwX9_finds swX9_finds rfl rfl (Nat.le_of_ble_eq_true rfl) (Nat.le_of_ble_eq_true rfl) (by omega) ⟨Nat.le_refl _, Nat.le_refl _⟩ ?_
      refine c_X9_finds0 hR hm hk w (by omega) hN ?_
      refine ⟨_, rfl, ?_⟩
      refine v_if_eq (pc := 92) 191 dX9_flies_92 (by decide) (by omega) (fun h92 => ?_) (fun h92 => by exfalso; omega)
      exact v_lv (hX _ _ hN) ⟨rfl, trivial⟩
  | succ n ih =>
    intro m f a l hm0 hr w hN ho
    have rg := w.rng hR
    obtain ⟨h0, ⟨x29, x30, x31, x32, x33, x34, x35, x36, x37⟩, hl, hl2⟩ := id hN
    have a13 : a 13 = σ 10 6 := (h0 13 (by omega)).trans hm.1.2.1
    by_cases q : fGs 2000 0 f
    · have q1 := q.1
      have q2 := q.2.1
      have i := fZ_ok hR 4 f (by have := hR.1; omega) w q1
      obtain ⟨i1, i2, i3, i4, i5, i6⟩ := i
      have i58 := i5 8 (by omega)
      have i57 := i5 7 (by omega)
      obtain ⟨m1, hm1, hr1⟩ := i6 2000 0 m g2 hr q
      obtain ⟨m2, em2, hr2⟩ := fR_next hr1 ⟨by omega, by omega, fun x => absurd x (by decide)⟩
      have eS : fS σ (fZ σ 4 f) = fT σ (fZ σ 4 f) := if_neg (by omega)
      rw [eS] at hr2
      obtain ⟨t1, t2, -⟩ := WF_T hR hk.2.2 i1 (by omega) (by omega) i2
      refine v_aload_n (pc := 78) dX9_flies_78 rfl ?_
      refine v_gIv (pc := 79) (f 8) dX9_flies_79 fl_X9_211 rfl x31 ?_
      refine v_sipush (pc := 82) (2000) dX9_flies_82 (by decide) ?_
      refine v_icmp_ge (pc := 85) 191 dX9_flies_85 (by decide) (by omega) (by omega) (fun h85 => by exfalso; omega) (fun h85 => ?_)
      refine v_aload_n (pc := 88) dX9_flies_88 rfl ?_
      refine v_cVi0 (pc := 89) (z := 0) (d' := d - 1) dX9_flies_89 kX9_finds ml_X9_227 iwX9_finds swX9_finds rfl rfl (Nat.le_of_ble_eq_true rfl) (Nat.le_of_ble_eq_true rfl) (by omega) ⟨Nat.le_refl _, Nat.le_refl _⟩ ?_
      refine c_X9_finds1 hR hm hk w q1 hN (fun a1 N1 => ?_)
      refine ⟨_, rfl, ?_⟩
      refine v_if_eq (pc := 92) 191 dX9_flies_92 (by decide) (by omega) (fun h92 => by exfalso; omega) (fun h92 => ?_)
      refine v_aload_n (pc := 95) dX9_flies_95 rfl ?_
      refine v_gIv (pc := 96) (f 8) dX9_flies_96 fl_X9_211 rfl (N1.2.1.2.2.1.trans i58) ?_
      refine v_iload_n (pc := 99) dX9_flies_99 rfl ?_
      refine v_icmp_ne (pc := 100) 184 dX9_flies_100 (by decide) (by omega) (by omega) (fun h100 => ?_) (fun h100 => by exfalso; omega)
      refine v_aload_n (pc := 184) dX9_flies_184 rfl ?_
      refine v_cVv0 (pc := 185) (z := 0) (d' := d - 1) dX9_flies_185 kX9_ticksOnce ml_X9_231 iwX9_ticksOnce swX9_ticksOnce rfl rfl (Nat.le_of_ble_eq_true rfl) (Nat.le_of_ble_eq_true rfl) (by omega) ⟨Nat.le_refl _, Nat.le_refl _⟩ ?_
      refine c_X9_ticksOnce hR hm hk i1 i3 (by omega) i2 (by omega) N1 (fun a2 l2 N2 => ?_)
      refine ⟨rfl, ?_⟩
      refine v_goto (pc := 188) 78 dX9_flies_188 (by decide) ?_
      exact v_lv (ih m2 _ a2 l2 (by omega) hr2 t1 N2 (by omega)) ⟨rfl, rfl, trivial⟩
    · have eg := fR_stop hr q
      subst eg
      have q2 : 0 < g2 7 → 2000 ≤ g2 8 := fun t => by rcases (show 2000 ≤ g2 8 ∨ g2 8 < 2000 by omega) with u | u; exact u; exact absurd ⟨t, u, fun x => absurd x (by decide)⟩ q
      refine v_aload_n (pc := 78) dX9_flies_78 rfl ?_
      refine v_gIv (pc := 79) (g2 8) dX9_flies_79 fl_X9_211 rfl x31 ?_
      refine v_sipush (pc := 82) (2000) dX9_flies_82 (by decide) ?_
      refine v_icmp_ge (pc := 85) 191 dX9_flies_85 (by decide) (by omega) (by omega) (fun h85 => ?_) (fun h85 => ?_)
      · exact v_lv (hX _ _ hN) ⟨rfl, trivial⟩
      · refine v_aload_n (pc := 88) dX9_flies_88 rfl ?_
        refine v_cVi0 (pc := 89) (z := 0) (d' := d - 1) dX9_flies_89 kX9_finds ml_X9_227 iwX9_finds swX9_finds rfl rfl (Nat.le_of_ble_eq_true rfl) (Nat.le_of_ble_eq_true rfl) (by omega) ⟨Nat.le_refl _, Nat.le_refl _⟩ ?_
        refine c_X9_finds0 hR hm hk w (by omega) hN ?_
        refine ⟨_, rfl, ?_⟩
        refine v_if_eq (pc := 92) 191 dX9_flies_92 (by decide) (by omega) (fun h92 => ?_) (fun h92 => by exfalso; omega)
        exact v_lv (hX _ _ hN) ⟨rfl, trivial⟩
set_option maxHeartbeats 4000000 in
set_option maxRecDepth 100000 in
theorem l_f184 {g : vGl} {d : Nat} {Q : Option Value → List mC → Prop} {σ : vSt} {a l f g2 : Nat → Int} {o : Int} (hd : 4 ≤ d) (hR : YR σ) (hm : IM σ) (hk : ISky σ) (hoo : -1 ≤ o ∧ o < 2000) {m : Nat} (hr : fR σ 2000 0 m f g2) (w : WF σ f) (h3 : 0 < f 3) (h8 : f 8 < 2000) (ho : o ≤ f 8) (hN : eN σ a l f) (hX : ∀ a' l' : Nat → Int, eN σ a' l' g2 → V g mX9_flies d (0, 0, 0, 0) Q 191 [(0, .ref 38)] [] (hp (mS σ a' l'))) : V g mX9_flies d (0, 0, 0, 0) Q 184 [(0, .ref 38), (1, vi o)] [] (hp (mS σ a l)) := by
  have p7 := w.p7 hR
  have lt := w.lt (by omega)
  obtain ⟨m2, em2, hr2⟩ := fR_next hr ⟨by omega, by omega, fun x => absurd x (by decide)⟩
  have eS : fS σ f = fT σ f := if_neg (by omega)
  rw [eS] at hr2
  obtain ⟨t1, t2, -⟩ := WF_T hR hk.2.2 w (by omega) (by omega) h3
  refine v_aload_n (pc := 184) dX9_flies_184 rfl ?_
  refine v_cVv0 (pc := 185) (z := 0) (d' := d - 1) dX9_flies_185 kX9_ticksOnce ml_X9_231 iwX9_ticksOnce swX9_ticksOnce rfl rfl (Nat.le_of_ble_eq_true rfl) (Nat.le_of_ble_eq_true rfl) (by omega) ⟨Nat.le_refl _, Nat.le_refl _⟩ ?_
  refine c_X9_ticksOnce hR hm hk w lt (by omega) h3 h8 hN (fun a2 l2 N2 => ?_)
  refine ⟨rfl, ?_⟩
  refine v_goto (pc := 188) 78 dX9_flies_188 (by decide) ?_
  exact v_lv (l_f2 hd hR hm hk hoo hX m2 m2 _ a2 l2 (Nat.le_refl _) hr2 t1 N2 (by omega)) ⟨rfl, rfl, trivial⟩
set_option maxHeartbeats 4000000 in
set_option maxRecDepth 100000 in
theorem l_f103 {g : vGl} {d : Nat} {Q : Option Value → List mC → Prop} {σ : vSt} {a l f g2 : Nat → Int} {o : Int} (hd : 4 ≤ d) (hR : YR σ) (hm : IM σ) (hk : ISky σ) (hoo : -1 ≤ o ∧ o < 2000) (w : WF σ f) (lt : f 2 < σ 10 6) (hN : eN σ a l f) (K1 : ¬ f 4 - 1 = 0 → ∀ a' : Nat → Int, eN σ a' l (qUp f 4 (f 4 - 1)) → V g mX9_flies d (0, 0, 0, 0) Q 184 [(0, .ref 38), (1, vi o)] [] (hp (mS σ a' l))) (K2 : f 4 - 1 = 0 → ∀ a' l' : Nat → Int, eN σ a' l' (fD σ (qUp f 4 (f 4 - 1))) → V g mX9_flies d (0, 0, 0, 0) Q 174 [(0, .ref 38), (1, vi o)] [] (hp (mS σ a' l'))) : V g mX9_flies d (0, 0, 0, 0) Q 103 [(0, .ref 38), (1, vi o)] [] (hp (mS σ a l)) := by
  obtain ⟨⟨r0, r1, r2, r3, r4, r5, r6, r7, r8, r9⟩, rE, rS, rT, rF⟩ := id hR
  have rg := w.rng hR
  obtain ⟨h0, ⟨x29, x30, x31, x32, x33, x34, x35, x36, x37⟩, hl, hl2⟩ := id hN
  have a13 : a 13 = σ 10 6 := (h0 13 (by omega)).trans hm.1.2.1
  have b3 := w.1.2.2.1 lt
  have wa : WA σ (qUp f 4 (f 4 - 1)) := ⟨w.1.1, w.1.2.1, fun _ => ⟨b3.1, b3.2.1, show 0 ≤ f 4 - 1 by omega, show f 4 - 1 ≤ 9 by omega, b3.2.2.2.2⟩, fun q => by have q2 : f 2 = σ 10 6 := q; omega⟩
  refine v_aload_n (pc := 103) dX9_flies_103 rfl ?_
  refine v_dup (pc := 104) dX9_flies_104 rfl ?_
  refine v_gIv (pc := 105) (f 4) dX9_flies_105 fl_X9_197 rfl (x30 lt) ?_
  refine v_iconst (pc := 108) (1) dX9_flies_108 (by decide) ?_
  refine v_isub (pc := 109) dX9_flies_109 ?_
  refine v_pI (pc := 110) dX9_flies_110 fl_X9_197 rfl ?_
  rw [mS_u]
  refine v_aload_n (pc := 113) dX9_flies_113 rfl ?_
  refine v_gIv (pc := 114) (f 4 - 1) dX9_flies_114 fl_X9_197 rfl rfl ?_
  refine v_if_ne (pc := 117) 184 dX9_flies_117 (by decide) (by omega) (fun h117 => ?_) (fun h117 => ?_)
  · refine v_lv (K1 (by omega) _ ?_) ⟨rfl, rfl, trivial⟩
    exact ⟨eO_u h0 (by omega), ⟨x29, fun _ => rfl, x31, x32, x33, x34, x35, x36, x37⟩, hl, hl2⟩
  · refine v_aload_n (pc := 120) dX9_flies_120 rfl ?_
    refine v_gR (pc := 121) dX9_flies_121 fl_X9_85 rfl ?_
    refine v_aload_n (pc := 124) dX9_flies_124 rfl ?_
    refine v_gIv (pc := 125) (f 2) dX9_flies_125 fl_X9_191 rfl x29 ?_
    refine v_iconst (pc := 128) (0) dX9_flies_128 (by decide) ?_
    refine v_sI (pc := 129) (j := (f 2).toNat) dX9_flies_129 rfl rfl (by omega) (by omega) ?_
    rw [mS_l]
    refine v_aload_n (pc := 130) dX9_flies_130 rfl ?_
    refine v_dup (pc := 131) dX9_flies_131 rfl ?_
    refine v_gIv (pc := 132) (f 2) dX9_flies_132 fl_X9_194 rfl x35 ?_
    refine v_iconst (pc := 135) (1) dX9_flies_135 (by decide) ?_
    refine v_iadd (pc := 136) dX9_flies_136 ?_
    refine v_pI (pc := 137) dX9_flies_137 fl_X9_194 rfl ?_
    refine v_aload_n (pc := 140) dX9_flies_140 rfl ?_
    refine v_dup (pc := 141) dX9_flies_141 rfl ?_
    refine v_gIv (pc := 142) (f 2) dX9_flies_142 fl_X9_191 rfl x29 ?_
    refine v_iconst (pc := 145) (1) dX9_flies_145 (by decide) ?_
    refine v_iadd (pc := 146) dX9_flies_146 ?_
    refine v_pI (pc := 147) dX9_flies_147 fl_X9_191 rfl ?_
    rw [mS_u, mS_u]
    have d0 := WF_D hR wa (show WT σ f from w.2.2) (show f 2 < σ 10 6 from lt)
    obtain ⟨d1, d2, d3, d4⟩ := d0
    have e2 : fD σ (qUp f 4 (f 4 - 1)) 2 = f 2 + 1 := d2
    have dt : ∀ a' : Nat → Int, ∀ wk : Int, eA σ a' (f 2 + 1) wk (f 8) (f 11) (f 12) (f 13) (f 9) (f 10) → (f 2 + 1 < σ 10 6 → wk = σ 12 (f 2 + 1).toNat) → V g mX9_flies d (0, 0, 0, 0) Q 174 [(0, .ref 38), (1, vi o)] [] (hp (mS σ a' (qUp l (f 2).toNat 0))) := by
      intro a' wk qA q4
      refine K2 (by omega) _ _ (eN_T (wk := wk) ?_ ?_ ?_ ?_)
      · rw [e2, d4 8 (by omega), d4 11 (by omega), d4 12 (by omega), d4 13 (by omega), d4 9 (by omega), d4 10 (by omega)]
        exact qA
      · intro q
        rw [q4 (by omega)]
        show _ = if 0 ≤ f 2 + 1 ∧ f 2 + 1 < σ 10 6 then σ 12 (f 2 + 1).toNat else 0
        rw [if_pos (by omega)]
      · intro q
        rw [e2]
        show (if (f 2 + 1).toNat = (f 2).toNat then _ else l (f 2 + 1).toNat) = if 0 ≤ f 2 + 1 ∧ f 2 + 1 < σ 10 6 then σ 13 (f 2 + 1).toNat else 0
        rw [if_neg (by omega), if_pos (by omega)]
        exact hl2 _ (by omega) (by omega)
      · intro j q1 q2
        rw [e2] at q1
        show (if j = (f 2).toNat then _ else l j) = _
        rw [if_neg (by omega)]
        exact hl2 j (by omega) q2
    have hA2 := eA_b (b' := f 2 + 1) (eA_w (w' := f 4 - 1) (hN.A lt))
    have a13b : qUp (qUp (qUp a 30 (f 4 - 1)) 35 (f 2 + 1)) 29 (f 2 + 1) 13 = σ 10 6 := a13
    refine v_aload_n (pc := 150) dX9_flies_150 rfl ?_
    refine v_gIv (pc := 151) (f 2 + 1) dX9_flies_151 fl_X9_191 rfl rfl ?_
    refine v_aload_n (pc := 154) dX9_flies_154 rfl ?_
    refine v_gIv (pc := 155) (σ 10 6) dX9_flies_155 fl_X9_110 rfl a13b ?_
    refine v_icmp_ge (pc := 158) 174 dX9_flies_158 (by decide) (by omega) (by omega) (fun h158 => ?_) (fun h158 => ?_)
    · first
      | (rw [mS_u]
         exact v_lv (dt _ _ (eA_w hA2) (fun _ => rfl)) ⟨rfl, rfl, trivial⟩)
      | exact v_lv (dt _ _ hA2 (fun q => by exfalso; omega)) ⟨rfl, rfl, trivial⟩
    · refine v_aload_n (pc := 161) dX9_flies_161 rfl ?_
      refine v_aload_n (pc := 162) dX9_flies_162 rfl ?_
      refine v_gR (pc := 163) dX9_flies_163 fl_X9_31 rfl ?_
      refine v_aload_n (pc := 166) dX9_flies_166 rfl ?_
      refine v_gIv (pc := 167) (f 2 + 1) dX9_flies_167 fl_X9_191 rfl rfl ?_
      refine v_aIv (pc := 170) (j := (f 2 + 1).toNat) (σ 12 (f 2 + 1).toNat) dX9_flies_170 rfl rfl (by omega) (by omega) (congrFun hm.2.2.2.1 _) ?_
      refine v_pI (pc := 171) dX9_flies_171 fl_X9_197 rfl ?_
      first
      | (rw [mS_u]
         exact v_lv (dt _ _ (eA_w hA2) (fun _ => rfl)) ⟨rfl, rfl, trivial⟩)
      | exact v_lv (dt _ _ hA2 (fun q => by exfalso; omega)) ⟨rfl, rfl, trivial⟩
set_option maxHeartbeats 4000000 in
set_option maxRecDepth 100000 in
theorem l_f174 {g : vGl} {d : Nat} {Q : Option Value → List mC → Prop} {σ : vSt} {a l f g2 : Nat → Int} {o : Int} (hd : 4 ≤ d) (hR : YR σ) (hm : IM σ) (hk : ISky σ) (hoo : -1 ≤ o ∧ o < 2000) {m : Nat} (hr : fR σ 2000 0 m f g2) (w : WF σ f) (h8 : f 8 < 2000) (ho : o ≤ f 8) (hN : eN σ a l f) (h7 : 0 < f 7) (hX : ∀ a' l' : Nat → Int, eN σ a' l' g2 → V g mX9_flies d (0, 0, 0, 0) Q 191 [(0, .ref 38)] [] (hp (mS σ a' l'))) : V g mX9_flies d (0, 0, 0, 0) Q 174 [(0, .ref 38), (1, vi o)] [] (hp (mS σ a l)) := by
  have rg := w.rng hR
  obtain ⟨h0, ⟨x29, x30, x31, x32, x33, x34, x35, x36, x37⟩, hl, hl2⟩ := id hN
  have a13 : a 13 = σ 10 6 := (h0 13 (by omega)).trans hm.1.2.1
  obtain ⟨i1, i2, i3, i4, i5, i6⟩ := fZ_ok hR 4 f (by have := hR.1; omega) w h7
  have i58 := i5 8 (by omega)
  obtain ⟨m1, hm1, hr1⟩ := i6 2000 0 m g2 hr ⟨h7, h8, fun x => absurd x (by decide)⟩
  refine v_aload_n (pc := 174) dX9_flies_174 rfl ?_
  refine v_cVi0 (pc := 175) (z := 0) (d' := d - 1) dX9_flies_175 kX9_finds ml_X9_227 iwX9_finds swX9_finds rfl rfl (Nat.le_of_ble_eq_true rfl) (Nat.le_of_ble_eq_true rfl) (by omega) ⟨Nat.le_refl _, Nat.le_refl _⟩ ?_
  refine c_X9_finds1 hR hm hk w h7 hN (fun a1 N1 => ?_)
  refine ⟨_, rfl, ?_⟩
  refine v_if_ne (pc := 178) 184 dX9_flies_178 (by decide) (by omega) (fun h178 => ?_) (fun h178 => by exfalso; omega)
  exact v_lv (l_f184 hd hR hm hk hoo hr1 i1 i2 (by omega) (by omega) N1 hX) ⟨rfl, rfl, trivial⟩
set_option maxHeartbeats 4000000 in
set_option maxRecDepth 100000 in
theorem l_f174z {g : vGl} {d : Nat} {Q : Option Value → List mC → Prop} {σ : vSt} {a l f g2 : Nat → Int} {o : Int} (hd : 4 ≤ d) (hR : YR σ) (hm : IM σ) (hk : ISky σ) (hoo : -1 ≤ o ∧ o < 2000) (w : WF σ f) (hN : eN σ a l f) (h7 : f 7 = 0) (K : V g mX9_flies d (0, 0, 0, 0) Q 191 [(0, .ref 38)] [] (hp (mS σ a l))) : V g mX9_flies d (0, 0, 0, 0) Q 174 [(0, .ref 38), (1, vi o)] [] (hp (mS σ a l)) := by
  refine v_aload_n (pc := 174) dX9_flies_174 rfl ?_
  refine v_cVi0 (pc := 175) (z := 0) (d' := d - 1) dX9_flies_175 kX9_finds ml_X9_227 iwX9_finds swX9_finds rfl rfl (Nat.le_of_ble_eq_true rfl) (Nat.le_of_ble_eq_true rfl) (by omega) ⟨Nat.le_refl _, Nat.le_refl _⟩ ?_
  refine c_X9_finds0 hR hm hk w h7 hN ?_
  refine ⟨_, rfl, ?_⟩
  refine v_if_ne (pc := 178) 184 dX9_flies_178 (by decide) (by omega) (fun h178 => by exfalso; omega) (fun h178 => ?_)
  refine v_goto (pc := 181) 191 dX9_flies_181 (by decide) ?_
  exact v_lv K ⟨rfl, trivial⟩
set_option maxHeartbeats 4000000 in
set_option maxRecDepth 100000 in
theorem l_f1 {g : vGl} {d : Nat} {Q : Option Value → List mC → Prop} {σ : vSt} {g2 : Nat → Int} {o : Int} (hd : 4 ≤ d) (hR : YR σ) (hm : IM σ) (hk : ISky σ) (hoo : -1 ≤ o ∧ o < 2000) (hX : ∀ a' l' : Nat → Int, eN σ a' l' g2 → V g mX9_flies d (0, 0, 0, 0) Q 191 [(0, .ref 38)] [] (hp (mS σ a' l'))) : ∀ (n m : Nat) (f f1 a l : Nat → Int) (k : Nat) (hm0 : m ≤ n) (hr : fR σ o 0 m f f1) (hr2 : fR σ 2000 0 k (fLose σ f1) g2) (w : WF σ f) (hN : eN σ a l f) (ho : 0 ≤ o ∧ f 8 ≤ o), V g mX9_flies d (0, 0, 0, 0) Q 78 [(0, .ref 38), (1, vi o)] [] (hp (mS σ a l)) := by
  intro n
  induction n with
  | zero =>
    intro m f f1 a l k hm0 hr hr2 w hN ho
    have rg := w.rng hR
    obtain ⟨h0, ⟨x29, x30, x31, x32, x33, x34, x35, x36, x37⟩, hl, hl2⟩ := id hN
    have a13 : a 13 = σ 10 6 := (h0 13 (by omega)).trans hm.1.2.1
    by_cases q7 : 0 < f 7
    · obtain ⟨i1, i2, i3, i4, i5, i6⟩ := fZ_ok hR 4 f (by have := hR.1; omega) w q7
      have i58 := i5 8 (by omega)
      have i57 := i5 7 (by omega)
      have em : m = 0 := by omega
      subst em
      have eg : f1 = f := hr.2
      have q8 : ¬ f 8 < o := fun x => hr.1 ⟨q7, x, fun x => absurd x (by decide)⟩
      subst eg
      have eo : f1 8 = o := by omega
      have eL : fLose σ f1 = fLs σ (fZ σ 4 f1) := if_pos ⟨q7, by omega⟩
      rw [eL] at hr2
      have rz := i1.rng hR
      obtain ⟨wl, wl2⟩ := WF_Ls hR i1 i3
      have wl8 := wl2 8 (by omega)
      refine v_aload_n (pc := 78) dX9_flies_78 rfl ?_
      refine v_gIv (pc := 79) (f1 8) dX9_flies_79 fl_X9_211 rfl x31 ?_
      refine v_sipush (pc := 82) (2000) dX9_flies_82 (by decide) ?_
      refine v_icmp_ge (pc := 85) 191 dX9_flies_85 (by decide) (by omega) (by omega) (fun h85 => by exfalso; omega) (fun h85 => ?_)
      refine v_aload_n (pc := 88) dX9_flies_88 rfl ?_
      refine v_cVi0 (pc := 89) (z := 0) (d' := d - 1) dX9_flies_89 kX9_finds ml_X9_227 iwX9_finds swX9_finds rfl rfl (Nat.le_of_ble_eq_true rfl) (Nat.le_of_ble_eq_true rfl) (by omega) ⟨Nat.le_refl _, Nat.le_refl _⟩ ?_
      refine c_X9_finds1 hR hm hk w q7 hN (fun a1 N1 => ?_)
      refine ⟨_, rfl, ?_⟩
      refine v_if_eq (pc := 92) 191 dX9_flies_92 (by decide) (by omega) (fun h92 => by exfalso; omega) (fun h92 => ?_)
      refine v_aload_n (pc := 95) dX9_flies_95 rfl ?_
      refine v_gIv (pc := 96) (f1 8) dX9_flies_96 fl_X9_211 rfl (N1.2.1.2.2.1.trans i58) ?_
      refine v_iload_n (pc := 99) dX9_flies_99 rfl ?_
      refine v_icmp_ne (pc := 100) 184 dX9_flies_100 (by decide) (by omega) (by omega) (fun h100 => by exfalso; omega) (fun h100 => ?_)
      refine v_lv (l_f103 (g2 := g2) hd hR hm hk hoo i1 i3 N1 (fun z a2 N2 => ?_) (fun z a2 l2 N2 => ?_)) ⟨rfl, rfl, trivial⟩
      · have e1 : fLs σ (fZ σ 4 f1) = qUp (fZ σ 4 f1) 4 (fZ σ 4 f1 4 - 1) := if_neg (by omega)
        rw [e1] at hr2 wl wl8
        exact l_f184 hd hR hm hk hoo hr2 wl (show 0 < fZ σ 4 f1 3 from i2) (by omega) (by omega) N2 hX
      · have e1 : fLs σ (fZ σ 4 f1) = fD σ (qUp (fZ σ 4 f1) 4 (fZ σ 4 f1 4 - 1)) := if_pos (by omega)
        rw [e1] at hr2 wl wl8
        have rl := wl.rng hR
        by_cases y : 0 < fD σ (qUp (fZ σ 4 f1) 4 (fZ σ 4 f1 4 - 1)) 7
        · exact l_f174 hd hR hm hk hoo hr2 wl (by omega) (by omega) N2 y hX
        · have eg := fR_stop hr2 (fun x => y x.1)
          refine l_f174z (g2 := g2) hd hR hm hk hoo wl N2 (by omega) (hX _ _ ?_)
          rw [eg]
          exact N2
    · have eg := fR_stop hr (fun x => q7 x.1)
      subst eg
      have eL : fLose σ f1 = f1 := if_neg (fun x => q7 x.1)
      rw [eL] at hr2
      have eg := fR_stop hr2 (fun x => q7 x.1)
      subst eg
      refine v_aload_n (pc := 78) dX9_flies_78 rfl ?_
      refine v_gIv (pc := 79) (g2 8) dX9_flies_79 fl_X9_211 rfl x31 ?_
      refine v_sipush (pc := 82) (2000) dX9_flies_82 (by decide) ?_
      refine v_icmp_ge (pc := 85) 191 dX9_flies_85 (by decide) (by omega) (by omega) (fun h85 => by exfalso; omega) (fun h85 => ?_)
      refine v_aload_n (pc := 88) dX9_flies_88 rfl ?_
      refine v_cVi0 (pc := 89) (z := 0) (d' := d - 1) dX9_flies_89 kX9_finds ml_X9_227 iwX9_finds swX9_finds rfl rfl (Nat.le_of_ble_eq_true rfl) (Nat.le_of_ble_eq_true rfl) (by omega) ⟨Nat.le_refl _, Nat.le_refl _⟩ ?_
      refine c_X9_finds0 hR hm hk w (by omega) hN ?_
      refine ⟨_, rfl, ?_⟩
      refine v_if_eq (pc := 92) 191 dX9_flies_92 (by decide) (by omega) (fun h92 => ?_) (fun h92 => by exfalso; omega)
      exact v_lv (hX _ _ hN) ⟨rfl, trivial⟩
  | succ n ih =>
    intro m f f1 a l k hm0 hr hr2 w hN ho
    have rg := w.rng hR
    obtain ⟨h0, ⟨x29, x30, x31, x32, x33, x34, x35, x36, x37⟩, hl, hl2⟩ := id hN
    have a13 : a 13 = σ 10 6 := (h0 13 (by omega)).trans hm.1.2.1
    by_cases q7 : 0 < f 7
    · obtain ⟨i1, i2, i3, i4, i5, i6⟩ := fZ_ok hR 4 f (by have := hR.1; omega) w q7
      have i58 := i5 8 (by omega)
      have i57 := i5 7 (by omega)
      by_cases q8 : f 8 < o
      · obtain ⟨m1, hm1, hr1⟩ := i6 o 0 m f1 hr ⟨q7, q8, fun x => absurd x (by decide)⟩
        obtain ⟨m2, em2, hr3⟩ := fR_next hr1 ⟨by omega, by omega, fun x => absurd x (by decide)⟩
        have eS : fS σ (fZ σ 4 f) = fT σ (fZ σ 4 f) := if_neg (by omega)
        rw [eS] at hr3
        obtain ⟨t1, t2, -⟩ := WF_T hR hk.2.2 i1 (by omega) (by omega) i2
        refine v_aload_n (pc := 78) dX9_flies_78 rfl ?_
        refine v_gIv (pc := 79) (f 8) dX9_flies_79 fl_X9_211 rfl x31 ?_
        refine v_sipush (pc := 82) (2000) dX9_flies_82 (by decide) ?_
        refine v_icmp_ge (pc := 85) 191 dX9_flies_85 (by decide) (by omega) (by omega) (fun h85 => by exfalso; omega) (fun h85 => ?_)
        refine v_aload_n (pc := 88) dX9_flies_88 rfl ?_
        refine v_cVi0 (pc := 89) (z := 0) (d' := d - 1) dX9_flies_89 kX9_finds ml_X9_227 iwX9_finds swX9_finds rfl rfl (Nat.le_of_ble_eq_true rfl) (Nat.le_of_ble_eq_true rfl) (by omega) ⟨Nat.le_refl _, Nat.le_refl _⟩ ?_
        refine c_X9_finds1 hR hm hk w q7 hN (fun a1 N1 => ?_)
        refine ⟨_, rfl, ?_⟩
        refine v_if_eq (pc := 92) 191 dX9_flies_92 (by decide) (by omega) (fun h92 => by exfalso; omega) (fun h92 => ?_)
        refine v_aload_n (pc := 95) dX9_flies_95 rfl ?_
        refine v_gIv (pc := 96) (f 8) dX9_flies_96 fl_X9_211 rfl (N1.2.1.2.2.1.trans i58) ?_
        refine v_iload_n (pc := 99) dX9_flies_99 rfl ?_
        refine v_icmp_ne (pc := 100) 184 dX9_flies_100 (by decide) (by omega) (by omega) (fun h100 => ?_) (fun h100 => by exfalso; omega)
        refine v_aload_n (pc := 184) dX9_flies_184 rfl ?_
        refine v_cVv0 (pc := 185) (z := 0) (d' := d - 1) dX9_flies_185 kX9_ticksOnce ml_X9_231 iwX9_ticksOnce swX9_ticksOnce rfl rfl (Nat.le_of_ble_eq_true rfl) (Nat.le_of_ble_eq_true rfl) (by omega) ⟨Nat.le_refl _, Nat.le_refl _⟩ ?_
        refine c_X9_ticksOnce hR hm hk i1 i3 (by omega) i2 (by omega) N1 (fun a2 l2 N2 => ?_)
        refine ⟨rfl, ?_⟩
        refine v_goto (pc := 188) 78 dX9_flies_188 (by decide) ?_
        exact v_lv (ih m2 _ f1 a2 l2 k (by omega) hr3 hr2 t1 N2 (by omega)) ⟨rfl, rfl, trivial⟩
      · have eg := fR_stop hr (fun x => q8 x.2.1)
        subst eg
        have eo : f1 8 = o := by omega
        have eL : fLose σ f1 = fLs σ (fZ σ 4 f1) := if_pos ⟨q7, by omega⟩
        rw [eL] at hr2
        have rz := i1.rng hR
        obtain ⟨wl, wl2⟩ := WF_Ls hR i1 i3
        have wl8 := wl2 8 (by omega)
        refine v_aload_n (pc := 78) dX9_flies_78 rfl ?_
        refine v_gIv (pc := 79) (f1 8) dX9_flies_79 fl_X9_211 rfl x31 ?_
        refine v_sipush (pc := 82) (2000) dX9_flies_82 (by decide) ?_
        refine v_icmp_ge (pc := 85) 191 dX9_flies_85 (by decide) (by omega) (by omega) (fun h85 => by exfalso; omega) (fun h85 => ?_)
        refine v_aload_n (pc := 88) dX9_flies_88 rfl ?_
        refine v_cVi0 (pc := 89) (z := 0) (d' := d - 1) dX9_flies_89 kX9_finds ml_X9_227 iwX9_finds swX9_finds rfl rfl (Nat.le_of_ble_eq_true rfl) (Nat.le_of_ble_eq_true rfl) (by omega) ⟨Nat.le_refl _, Nat.le_refl _⟩ ?_
        refine c_X9_finds1 hR hm hk w q7 hN (fun a1 N1 => ?_)
        refine ⟨_, rfl, ?_⟩
        refine v_if_eq (pc := 92) 191 dX9_flies_92 (by decide) (by omega) (fun h92 => by exfalso; omega) (fun h92 => ?_)
        refine v_aload_n (pc := 95) dX9_flies_95 rfl ?_
        refine v_gIv (pc := 96) (f1 8) dX9_flies_96 fl_X9_211 rfl (N1.2.1.2.2.1.trans i58) ?_
        refine v_iload_n (pc := 99) dX9_flies_99 rfl ?_
        refine v_icmp_ne (pc := 100) 184 dX9_flies_100 (by decide) (by omega) (by omega) (fun h100 => by exfalso; omega) (fun h100 => ?_)
        refine v_lv (l_f103 (g2 := g2) hd hR hm hk hoo i1 i3 N1 (fun z a2 N2 => ?_) (fun z a2 l2 N2 => ?_)) ⟨rfl, rfl, trivial⟩
        · have e1 : fLs σ (fZ σ 4 f1) = qUp (fZ σ 4 f1) 4 (fZ σ 4 f1 4 - 1) := if_neg (by omega)
          rw [e1] at hr2 wl wl8
          exact l_f184 hd hR hm hk hoo hr2 wl (show 0 < fZ σ 4 f1 3 from i2) (by omega) (by omega) N2 hX
        · have e1 : fLs σ (fZ σ 4 f1) = fD σ (qUp (fZ σ 4 f1) 4 (fZ σ 4 f1 4 - 1)) := if_pos (by omega)
          rw [e1] at hr2 wl wl8
          have rl := wl.rng hR
          by_cases y : 0 < fD σ (qUp (fZ σ 4 f1) 4 (fZ σ 4 f1 4 - 1)) 7
          · exact l_f174 hd hR hm hk hoo hr2 wl (by omega) (by omega) N2 y hX
          · have eg := fR_stop hr2 (fun x => y x.1)
            refine l_f174z (g2 := g2) hd hR hm hk hoo wl N2 (by omega) (hX _ _ ?_)
            rw [eg]
            exact N2
    · have eg := fR_stop hr (fun x => q7 x.1)
      subst eg
      have eL : fLose σ f1 = f1 := if_neg (fun x => q7 x.1)
      rw [eL] at hr2
      have eg := fR_stop hr2 (fun x => q7 x.1)
      subst eg
      refine v_aload_n (pc := 78) dX9_flies_78 rfl ?_
      refine v_gIv (pc := 79) (g2 8) dX9_flies_79 fl_X9_211 rfl x31 ?_
      refine v_sipush (pc := 82) (2000) dX9_flies_82 (by decide) ?_
      refine v_icmp_ge (pc := 85) 191 dX9_flies_85 (by decide) (by omega) (by omega) (fun h85 => by exfalso; omega) (fun h85 => ?_)
      refine v_aload_n (pc := 88) dX9_flies_88 rfl ?_
      refine v_cVi0 (pc := 89) (z := 0) (d' := d - 1) dX9_flies_89 kX9_finds ml_X9_227 iwX9_finds swX9_finds rfl rfl (Nat.le_of_ble_eq_true rfl) (Nat.le_of_ble_eq_true rfl) (by omega) ⟨Nat.le_refl _, Nat.le_refl _⟩ ?_
      refine c_X9_finds0 hR hm hk w (by omega) hN ?_
      refine ⟨_, rfl, ?_⟩
      refine v_if_eq (pc := 92) 191 dX9_flies_92 (by decide) (by omega) (fun h92 => ?_) (fun h92 => by exfalso; omega)
      exact v_lv (hX _ _ hN) ⟨rfl, trivial⟩
set_option maxHeartbeats 4000000 in
set_option maxRecDepth 100000 in
theorem l_f0 {g : vGl} {d : Nat} {Q : Option Value → List mC → Prop} {σ : vSt} {a : Nat → Int} {o : Int} (hR : YR σ) (hm : IM σ) (h0 : eO σ a) (K : ∀ l' : Nat → Int, (∀ i : Nat, (i : Int) < σ 10 6 → l' i = σ 13 i) → V g mX9_flies d (0, 0, 0, 0) Q 28 [(0, .ref 38), (1, vi o)] [] (hp (mS σ a l'))) : ∀ (n j : Nat) (x : Int) (l : Nat → Int) (hx : x = j) (hn : (j : Int) + n = σ 10 6) (hl : ∀ i : Nat, i < j → l i = σ 13 i), V g mX9_flies d (0, 0, 0, 0) Q 2 [(0, .ref 38), (1, vi o), (2, vi x)] [] (hp (mS σ a l)) := by
  obtain ⟨⟨r0, r1, r2, r3, r4, r5, r6, r7, r8, r9⟩, rE, rS, rT, rF⟩ := id hR
  have a13 : a 13 = σ 10 6 := (h0 13 (by omega)).trans hm.1.2.1
  intro n
  induction n with
  | zero =>
    intro j x l hx hn hl
    refine v_iload_n (pc := 2) dX9_flies_2 rfl ?_
    refine v_aload_n (pc := 3) dX9_flies_3 rfl ?_
    refine v_gIv (pc := 4) (σ 10 6) dX9_flies_4 fl_X9_110 rfl a13 ?_
    refine v_icmp_ge (pc := 7) 28 dX9_flies_7 (by decide) (by omega) (by omega) (fun h7 => ?_) (fun h7 => by exfalso; omega)
    exact v_lv (K l (fun i hi => hl i (by omega))) ⟨rfl, rfl, trivial⟩
  | succ n ih =>
    intro j x l hx hn hl
    refine v_iload_n (pc := 2) dX9_flies_2 rfl ?_
    refine v_aload_n (pc := 3) dX9_flies_3 rfl ?_
    refine v_gIv (pc := 4) (σ 10 6) dX9_flies_4 fl_X9_110 rfl a13 ?_
    refine v_icmp_ge (pc := 7) 28 dX9_flies_7 (by decide) (by omega) (by omega) (fun h7 => by exfalso; omega) (fun h7 => ?_)
    refine v_aload_n (pc := 10) dX9_flies_10 rfl ?_
    refine v_gR (pc := 11) dX9_flies_11 fl_X9_85 rfl ?_
    refine v_iload_n (pc := 14) dX9_flies_14 rfl ?_
    refine v_aload_n (pc := 15) dX9_flies_15 rfl ?_
    refine v_gR (pc := 16) dX9_flies_16 fl_X9_34 rfl ?_
    refine v_iload_n (pc := 19) dX9_flies_19 rfl ?_
    refine v_aIv (pc := 20) (j := j) (σ 13 j) dX9_flies_20 rfl (by omega) (by omega) (by omega) (congrFun hm.2.2.2.2.1 j) ?_
    refine v_sI (pc := 21) (j := j) dX9_flies_21 rfl (by omega) (by omega) (by omega) ?_
    refine v_iinc (pc := 22) (1) dX9_flies_22 rfl (by decide) (by decide) ?_
    refine v_goto (pc := 25) 2 dX9_flies_25 (by decide) ?_
    rw [mS_l]
    refine v_lv (ih (j + 1) (x + 1) _ (by omega) (by omega) (fun i hi => ?_)) ⟨rfl, rfl, rfl, trivial⟩
    unfold qUp
    by_cases e : i = j
    · rw [if_pos e, e]
    · rw [if_neg e]
      exact hl i (by omega)
set_option maxHeartbeats 4000000 in
set_option maxRecDepth 100000 in
theorem l_f28 {g : vGl} {d : Nat} {Q : Option Value → List mC → Prop} {σ : vSt} {a l f0 : Nat → Int} {o : Int} (hm : IM σ) (hn : 0 < σ 10 6) (h0 : eO σ a) (hl : ∀ i : Nat, (i : Int) < σ 10 6 → l i = σ 13 i) (K : ∀ a' : Nat → Int, eN σ a' l (fBeg σ f0) → V g mX9_flies d (0, 0, 0, 0) Q 78 [(0, .ref 38), (1, vi o)] [] (hp (mS σ a' l))) : V g mX9_flies d (0, 0, 0, 0) Q 28 [(0, .ref 38), (1, vi o)] [] (hp (mS σ a l)) := by
  refine v_aload_n (pc := 28) dX9_flies_28 rfl ?_
  refine v_iconst (pc := 29) (0) dX9_flies_29 (by decide) ?_
  refine v_pI (pc := 30) dX9_flies_30 fl_X9_191 rfl ?_
  refine v_aload_n (pc := 33) dX9_flies_33 rfl ?_
  refine v_aload_n (pc := 34) dX9_flies_34 rfl ?_
  refine v_gR (pc := 35) dX9_flies_35 fl_X9_31 rfl ?_
  refine v_iconst (pc := 38) (0) dX9_flies_38 (by decide) ?_
  refine v_aIv (pc := 39) (j := 0) (σ 12 0) dX9_flies_39 rfl rfl (by omega) (by omega) (congrFun hm.2.2.2.1 0) ?_
  refine v_pI (pc := 40) dX9_flies_40 fl_X9_197 rfl ?_
  refine v_aload_n (pc := 43) dX9_flies_43 rfl ?_
  refine v_iconst (pc := 44) (0) dX9_flies_44 (by decide) ?_
  refine v_pI (pc := 45) dX9_flies_45 fl_X9_211 rfl ?_
  refine v_aload_n (pc := 48) dX9_flies_48 rfl ?_
  refine v_iconst (pc := 49) (0) dX9_flies_49 (by decide) ?_
  refine v_pI (pc := 50) dX9_flies_50 fl_X9_214 rfl ?_
  refine v_aload_n (pc := 53) dX9_flies_53 rfl ?_
  refine v_iconst (pc := 54) (0) dX9_flies_54 (by decide) ?_
  refine v_pI (pc := 55) dX9_flies_55 fl_X9_217 rfl ?_
  refine v_aload_n (pc := 58) dX9_flies_58 rfl ?_
  refine v_iconst (pc := 59) (-1) dX9_flies_59 (by decide) ?_
  refine v_pI (pc := 60) dX9_flies_60 fl_X9_220 rfl ?_
  refine v_aload_n (pc := 63) dX9_flies_63 rfl ?_
  refine v_iconst (pc := 64) (0) dX9_flies_64 (by decide) ?_
  refine v_pI (pc := 65) dX9_flies_65 fl_X9_194 rfl ?_
  refine v_aload_n (pc := 68) dX9_flies_68 rfl ?_
  refine v_lconst (pc := 69) (0) dX9_flies_69 (by decide) ?_
  refine v_pJ (pc := 70) dX9_flies_70 fl_X9_204 rfl ?_
  refine v_aload_n (pc := 73) dX9_flies_73 rfl ?_
  refine v_lconst (pc := 74) (0) dX9_flies_74 (by decide) ?_
  refine v_pJ (pc := 75) dX9_flies_75 fl_X9_208 rfl ?_
  rw [mS_u, mS_u, mS_u, mS_u, mS_u, mS_u, mS_u, mS_u, mS_u]
  have c : (0 : Int) ≤ 0 ∧ 0 < σ 10 6 := ⟨Int.le_refl _, hn⟩
  have e3 : fBeg σ f0 3 = σ 13 0 := if_pos c
  have e4 : fBeg σ f0 4 = σ 12 0 := if_pos c
  have e2 : fBeg σ f0 2 = 0 := rfl
  refine v_lv (K _ ⟨?_, ⟨rfl, fun _ => e4.symm, rfl, rfl, rfl, rfl, rfl, rfl, rfl⟩, fun _ => ?_, fun j h1 h2 => hl j h2⟩) ⟨rfl, rfl, trivial⟩
  · exact eO_u (eO_u (eO_u (eO_u (eO_u (eO_u (eO_u (eO_u (eO_u h0 (by omega)) (by omega)) (by omega)) (by omega)) (by omega)) (by omega)) (by omega)) (by omega)) (by omega)
  · rw [e3, e2]
    exact hl 0 (by omega)
set_option maxHeartbeats 4000000 in
set_option maxRecDepth 100000 in
theorem c_X9_flies {g : vGl} {d : Nat} {Q : Option Value → List mC → Prop} {σ : vSt} {a l f0 g2 : Nat → Int} {o : Int} (hd : 4 ≤ d) (hR : YR σ) (hm : IM σ) (hk : ISky σ) (hn : 0 < σ 10 6) (hoo : -1 ≤ o ∧ o < 2000) (h0 : eO σ a) (hf : fFl σ o (fBeg σ f0) g2) (hQ : ∀ a' l' : Nat → Int, eN σ a' l' g2 → Q (some (vi (fBk σ g2))) (hp (mS σ a' l'))) : V g mX9_flies d (0, 0, 0, 0) Q 0 [(0, .ref 38), (1, vi o)] [] (hp (mS σ a l)) := by
  refine v_iconst (pc := 0) (0) dX9_flies_0 (by decide) ?_
  refine v_istore_n (pc := 1) dX9_flies_1 (by decide) ?_
  have w0 := WF_Beg (f := f0) hR hk.2.2 hn
  have wg : WF σ g2 := by
    rcases hf with ⟨-, n, hr⟩ | ⟨-, h2, f1, n, n', hr, hr2⟩
    · exact (fR_WF hR hk.2.2 (Int.le_refl _) n _ hr w0).1
    · exact (fR_WF hR hk.2.2 (Int.le_refl _) n' _ hr2 (WF_Lose hR (fR_WF hR hk.2.2 (by omega) n _ hr w0).1).1).1
  refine v_lv (l_f0 hR hm h0 (fun l1 hl1 => ?_) (σ 10 6).toNat 0 0 l rfl (by omega) (fun i hi => by omega)) ⟨rfl, rfl, rfl, trivial⟩
  refine l_f28 (f0 := f0) hm hn h0 hl1 (fun a1 N1 => ?_)
  have hX : ∀ a' l' : Nat → Int, eN σ a' l' g2 → V g mX9_flies d (0, 0, 0, 0) Q 191 [(0, .ref 38)] [] (hp (mS σ a' l')) := fun a' l' N => l_f191 (o := o) (g2 := g2) hR hm hk wg N (hQ _ _ N)
  rcases hf with ⟨h1, n, hr⟩ | ⟨h1, h2, f1, n, n', hr, hr2⟩
  · exact l_f2 hd hR hm hk hoo hX n n _ a1 l1 (Nat.le_refl _) hr w0 N1 (Or.inl h1)
  · exact l_f1 hd hR hm hk hoo hX n n _ f1 a1 l1 n' (Nat.le_refl _) hr hr2 w0 N1 ⟨h1, h1⟩
def vFly (σ : vSt) (f : Nat → Int) : vSt := vU (vU (vU (vU (vU (vU (vU σ 61 0 (f 8)) 61 1 (f 9)) 61 2 (f 10)) 61 3 (f 11)) 61 4 (f 12)) 61 5 (f 13)) 61 6 (f 2)
theorem has_no {σ : vSt} (hm : IM σ) : (if 0 < qSum (σ 47) (σ 38 13).toNat 0 then (1 : Int) else 0) = if 0 < qSum (σ 13) (σ 10 6).toNat 0 then 1 else 0 := by
  rw [hm.2.2.2.2.1, hm.1.2.1]
theorem n_pos {σ : vSt} (h : 0 < qSum (σ 13) (σ 10 6).toNat 0) : 0 < σ 10 6 := by
  rcases (show 0 < (σ 10 6).toNat ∨ (σ 10 6).toNat = 0 by omega) with t | t
  · omega
  · rw [t] at h
    exact absurd (show (0 : Int) < 0 from h) (by decide)
set_option maxHeartbeats 4000000 in
set_option maxRecDepth 100000 in
theorem c_X9_fly {g : vGl} {d : Nat} {Q : Option Value → List mC → Prop} {σ : vSt} {f0 g2 : Nat → Int} (hd : 5 ≤ d) (hR : YR σ) (hm : IM σ) (hk : ISky σ) (hf : ¬ qSum (σ 13) (σ 10 6).toNat 0 = 0 → fFl σ (-1) (fBeg σ f0) g2) (hE : qSum (σ 13) (σ 10 6).toNat 0 = 0 → Q (some (vi (-3))) (hp σ)) (hQ : ¬ qSum (σ 13) (σ 10 6).toNat 0 = 0 → ∀ a l : Nat → Int, eN σ a l g2 → Q (some (vi (fBk σ g2))) (hp (mS (vFly σ g2) (qUp a 39 1) l))) : V g mX9_fly d (0, 0, 0, 0) Q 0 [(0, .ref 38)] [] (hp σ) := by
  obtain ⟨⟨r0, r1, r2, r3, r4, r5, r6, r7, r8, r9⟩, rE, rS, rT, rF⟩ := id hR
  have sb : 0 ≤ qSum (σ 13) (σ 10 6).toNat 0 := (qSum_bound (f := σ 13) (B := 600) (fun j => by have := rS j; omega) (σ 10 6).toNat 0).1
  refine v_aload_n (pc := 0) dX9_fly_0 rfl ?_
  refine v_cVi0 (pc := 1) (z := 0) (d' := d - 1) dX9_fly_1 kX9_hasStuff ml_X9_234 iwX9_hasStuff swX9_hasStuff rfl rfl (Nat.le_of_ble_eq_true rfl) (Nat.le_of_ble_eq_true rfl) (by omega) ⟨Nat.le_refl _, Nat.le_refl _⟩ ?_
  refine c_X9_hasStuff (hm.r hR) ?_
  rw [has_no hm]
  refine ⟨_, rfl, ?_⟩
  refine v_if_ne (pc := 4) 10 dX9_fly_4 (by decide) (by omega) (fun h4 => ?_) (fun h4 => ?_)
  · have hz : ¬ qSum (σ 13) (σ 10 6).toNat 0 = 0 := by omega
    have hn := n_pos (σ := σ) (by omega)
    have hf2 := hf hz
    have wg : WF σ g2 := by
      rcases hf2 with ⟨-, n, hr⟩ | ⟨h1, -⟩
      · exact (fR_WF hR hk.2.2 (Int.le_refl _) n _ hr (WF_Beg hR hk.2.2 hn)).1
      · omega
    have rg := wg.rng hR
    refine v_sg (mS_self σ).symm ?_
    refine v_aload_n (pc := 10) dX9_fly_10 rfl ?_
    refine v_iconst (pc := 11) (-1) dX9_fly_11 (by decide) ?_
    refine v_cVi1 (pc := 12) (z := 0) (d' := d - 1) dX9_fly_12 kX9_flies ml_X9_237 iwX9_flies swX9_flies rfl rfl (Nat.le_of_ble_eq_true rfl) (Nat.le_of_ble_eq_true rfl) (by omega) ⟨Nat.le_refl _, Nat.le_refl _⟩ ?_
    refine c_X9_flies (by omega) hR hm hk hn (by omega) (fun k _ => rfl) hf2 (fun a l N => ?_)
    refine ⟨_, rfl, ?_⟩
    obtain ⟨h0, ⟨x29, x30, x31, x32, x33, x34, x35, x36, x37⟩, hl, hl2⟩ := id N
    refine v_istore_n (pc := 15) dX9_fly_15 (by decide) ?_
    refine v_aload_n (pc := 16) dX9_fly_16 rfl ?_
    refine v_gR (pc := 17) dX9_fly_17 fl_X9_88 rfl ?_
    refine v_iconst (pc := 20) (0) dX9_fly_20 (by decide) ?_
    refine v_aload_n (pc := 21) dX9_fly_21 rfl ?_
    refine v_gIv (pc := 22) (g2 8) dX9_fly_22 fl_X9_211 rfl x31 ?_
    refine v_sI (pc := 25) dX9_fly_25 rfl rfl (by omega) (by omega) ?_
    refine v_aload_n (pc := 26) dX9_fly_26 rfl ?_
    refine v_gR (pc := 27) dX9_fly_27 fl_X9_88 rfl ?_
    refine v_iconst (pc := 30) (1) dX9_fly_30 (by decide) ?_
    refine v_aload_n (pc := 31) dX9_fly_31 rfl ?_
    refine v_gJv (pc := 32) (g2 9) dX9_fly_32 fl_X9_204 rfl x36 ?_
    refine v_l2i (pc := 35) dX9_fly_35 ?_
    refine v_sI (pc := 36) dX9_fly_36 rfl rfl (by omega) (by omega) ?_
    refine v_aload_n (pc := 37) dX9_fly_37 rfl ?_
    refine v_gR (pc := 38) dX9_fly_38 fl_X9_88 rfl ?_
    refine v_iconst (pc := 41) (2) dX9_fly_41 (by decide) ?_
    refine v_aload_n (pc := 42) dX9_fly_42 rfl ?_
    refine v_gJv (pc := 43) (g2 10) dX9_fly_43 fl_X9_208 rfl x37 ?_
    refine v_l2i (pc := 46) dX9_fly_46 ?_
    refine v_sI (pc := 47) dX9_fly_47 rfl rfl (by omega) (by omega) ?_
    refine v_aload_n (pc := 48) dX9_fly_48 rfl ?_
    refine v_gR (pc := 49) dX9_fly_49 fl_X9_88 rfl ?_
    refine v_iconst (pc := 52) (3) dX9_fly_52 (by decide) ?_
    refine v_aload_n (pc := 53) dX9_fly_53 rfl ?_
    refine v_gIv (pc := 54) (g2 11) dX9_fly_54 fl_X9_214 rfl x32 ?_
    refine v_sI (pc := 57) dX9_fly_57 rfl rfl (by omega) (by omega) ?_
    refine v_aload_n (pc := 58) dX9_fly_58 rfl ?_
    refine v_gR (pc := 59) dX9_fly_59 fl_X9_88 rfl ?_
    refine v_iconst (pc := 62) (4) dX9_fly_62 (by decide) ?_
    refine v_aload_n (pc := 63) dX9_fly_63 rfl ?_
    refine v_gIv (pc := 64) (g2 12) dX9_fly_64 fl_X9_217 rfl x33 ?_
    refine v_sI (pc := 67) dX9_fly_67 rfl rfl (by omega) (by omega) ?_
    refine v_aload_n (pc := 68) dX9_fly_68 rfl ?_
    refine v_gR (pc := 69) dX9_fly_69 fl_X9_88 rfl ?_
    refine v_iconst (pc := 72) (5) dX9_fly_72 (by decide) ?_
    refine v_aload_n (pc := 73) dX9_fly_73 rfl ?_
    refine v_gIv (pc := 74) (g2 13) dX9_fly_74 fl_X9_220 rfl x34 ?_
    refine v_if_ge (pc := 77) 84 dX9_fly_77 (by decide) (by omega) (fun h77 => ?_) (fun h77 => ?_)
    · refine v_aload_n (pc := 84) dX9_fly_84 rfl ?_
      refine v_gIv (pc := 85) (g2 13) dX9_fly_85 fl_X9_220 rfl x34 ?_
      refine v_top (show _ = g2 13 by omega) ?_
      refine v_sI (pc := 88) dX9_fly_88 rfl rfl (by omega) (by omega) ?_
      refine v_aload_n (pc := 89) dX9_fly_89 rfl ?_
      refine v_gR (pc := 90) dX9_fly_90 fl_X9_88 rfl ?_
      refine v_bipush (pc := 93) (6) dX9_fly_93 (by decide) ?_
      refine v_aload_n (pc := 95) dX9_fly_95 rfl ?_
      refine v_gIv (pc := 96) (g2 2) dX9_fly_96 fl_X9_194 rfl x35 ?_
      refine v_sI (pc := 99) dX9_fly_99 rfl rfl (by omega) (by omega) ?_
      refine v_aload_n (pc := 100) dX9_fly_100 rfl ?_
      refine v_iconst (pc := 101) (1) dX9_fly_101 (by decide) ?_
      refine v_pZ (pc := 102) dX9_fly_102 fl_X9_240 rfl (by omega) ?_
      refine v_iload_n (pc := 105) dX9_fly_105 rfl ?_
      refine v_ireturn (pc := 106) dX9_fly_106 rfl rfl ⟨Nat.le_refl _, Nat.le_refl _⟩ ?_
      rw [mS_o _ _ _ _ _ _ (by decide) (by decide), mS_o _ _ _ _ _ _ (by decide) (by decide), mS_o _ _ _ _ _ _ (by decide) (by decide), mS_o _ _ _ _ _ _ (by decide) (by decide), mS_o _ _ _ _ _ _ (by decide) (by decide), mS_o _ _ _ _ _ _ (by decide) (by decide), mS_o _ _ _ _ _ _ (by decide) (by decide), mS_u]
      exact hQ hz a l N
    · refine v_iconst (pc := 80) (-1) dX9_fly_80 (by decide) ?_
      refine v_goto (pc := 81) 88 dX9_fly_81 (by decide) ?_
      refine v_top (show _ = g2 13 by omega) ?_
      refine v_sI (pc := 88) dX9_fly_88 rfl rfl (by omega) (by omega) ?_
      refine v_aload_n (pc := 89) dX9_fly_89 rfl ?_
      refine v_gR (pc := 90) dX9_fly_90 fl_X9_88 rfl ?_
      refine v_bipush (pc := 93) (6) dX9_fly_93 (by decide) ?_
      refine v_aload_n (pc := 95) dX9_fly_95 rfl ?_
      refine v_gIv (pc := 96) (g2 2) dX9_fly_96 fl_X9_194 rfl x35 ?_
      refine v_sI (pc := 99) dX9_fly_99 rfl rfl (by omega) (by omega) ?_
      refine v_aload_n (pc := 100) dX9_fly_100 rfl ?_
      refine v_iconst (pc := 101) (1) dX9_fly_101 (by decide) ?_
      refine v_pZ (pc := 102) dX9_fly_102 fl_X9_240 rfl (by omega) ?_
      refine v_iload_n (pc := 105) dX9_fly_105 rfl ?_
      refine v_ireturn (pc := 106) dX9_fly_106 rfl rfl ⟨Nat.le_refl _, Nat.le_refl _⟩ ?_
      rw [mS_o _ _ _ _ _ _ (by decide) (by decide), mS_o _ _ _ _ _ _ (by decide) (by decide), mS_o _ _ _ _ _ _ (by decide) (by decide), mS_o _ _ _ _ _ _ (by decide) (by decide), mS_o _ _ _ _ _ _ (by decide) (by decide), mS_o _ _ _ _ _ _ (by decide) (by decide), mS_o _ _ _ _ _ _ (by decide) (by decide), mS_u]
      exact hQ hz a l N
  · refine v_bipush (pc := 7) (-3) dX9_fly_7 (by decide) ?_
    refine v_ireturn (pc := 9) dX9_fly_9 rfl rfl ⟨Nat.le_refl _, Nat.le_refl _⟩ ?_
    exact hE (by omega)
set_option maxHeartbeats 4000000 in
set_option maxRecDepth 100000 in
theorem c_X9_out {g : vGl} {d : Nat} {Q : Option Value → List mC → Prop} {σ : vSt} {f0 g2 : Nat → Int} (hd : 5 ≤ d) (hR : YR σ) (hm : IM σ) (hk : ISky σ) {t : Int} (ht : vr t) (hB : ¬ (0 ≤ t ∧ t ≤ 1999) → Q (some (vi (-2))) (hp σ)) (hE : 0 ≤ t → t ≤ 1999 → qSum (σ 13) (σ 10 6).toNat 0 = 0 → Q (some (vi (-3))) (hp σ)) (hf : 0 ≤ t → t ≤ 1999 → ¬ qSum (σ 13) (σ 10 6).toNat 0 = 0 → fFl σ t (fBeg σ f0) g2) (hQ : 0 ≤ t → t ≤ 1999 → ¬ qSum (σ 13) (σ 10 6).toNat 0 = 0 → ∀ a l : Nat → Int, eO σ a → Q (some (vi (fBk σ g2))) (hp (mS σ a l))) : V g mX9_out d (0, 0, 0, 0) Q 0 [(0, .ref 38), (1, vi t)] [] (hp σ) := by
  obtain ⟨⟨r0, r1, r2, r3, r4, r5, r6, r7, r8, r9⟩, rE, rS, rT, rF⟩ := id hR
  have sb : 0 ≤ qSum (σ 13) (σ 10 6).toNat 0 := (qSum_bound (f := σ 13) (B := 600) (fun j => by have := rS j; omega) (σ 10 6).toNat 0).1
  refine v_iload_n (pc := 0) dX9_out_0 rfl ?_
  refine v_i2l (pc := 1) dX9_out_1 (by omega) ?_
  refine v_lconst (pc := 2) (0) dX9_out_2 (by decide) ?_
  refine v_ldc2 (pc := 3) (1999) dX9_out_3 kc_X9_246 ?_
  refine v_cSi3 (pc := 6) (d' := d - 1) dX9_out_6 kX9_isIn ml_X9_115 stX9_isIn (Nat.le_of_ble_eq_true rfl) (Nat.le_of_ble_eq_true rfl) (by omega) ⟨Nat.le_refl _, Nat.le_refl _⟩ ?_
  refine c_X9_isIn (by omega) (by omega) (by omega) ?_
  refine ⟨_, rfl, ?_⟩
  refine v_if_ne (pc := 9) 15 dX9_out_9 (by decide) (by omega) (fun h9 => ?_) (fun h9 => ?_)
  · refine v_aload_n (pc := 15) dX9_out_15 rfl ?_
    refine v_cVi0 (pc := 16) (z := 0) (d' := d - 1) dX9_out_16 kX9_hasStuff ml_X9_234 iwX9_hasStuff swX9_hasStuff rfl rfl (Nat.le_of_ble_eq_true rfl) (Nat.le_of_ble_eq_true rfl) (by omega) ⟨Nat.le_refl _, Nat.le_refl _⟩ ?_
    refine c_X9_hasStuff (hm.r hR) ?_
    rw [has_no hm]
    refine ⟨_, rfl, ?_⟩
    refine v_if_eq (pc := 19) 30 dX9_out_19 (by decide) (by omega) (fun h19 => ?_) (fun h19 => ?_)
    · refine v_bipush (pc := 30) (-3) dX9_out_30 (by decide) ?_
      first
      | (refine v_ireturn (pc := 32) dX9_out_32 rfl rfl ⟨Nat.le_refl _, Nat.le_refl _⟩ ?_
         exact hQ (by omega) (by omega) hz a l N.1)
      | (refine v_ireturn (pc := 32) dX9_out_32 rfl rfl ⟨Nat.le_refl _, Nat.le_refl _⟩ ?_
         exact hE (by omega) (by omega) (by omega))
    · have hz : ¬ qSum (σ 13) (σ 10 6).toNat 0 = 0 := by omega
      have hn := n_pos (σ := σ) (by omega)
      have hf2 := hf (by omega) (by omega) hz
      refine v_sg (mS_self σ).symm ?_
      refine v_aload_n (pc := 22) dX9_out_22 rfl ?_
      refine v_iload_n (pc := 23) dX9_out_23 rfl ?_
      refine v_cVi1 (pc := 24) (z := 0) (d' := d - 1) dX9_out_24 kX9_flies ml_X9_237 iwX9_flies swX9_flies rfl rfl (Nat.le_of_ble_eq_true rfl) (Nat.le_of_ble_eq_true rfl) (by omega) ⟨Nat.le_refl _, Nat.le_refl _⟩ ?_
      refine c_X9_flies (by omega) hR hm hk hn (by omega) (fun k _ => rfl) hf2 (fun a l N => ?_)
      refine ⟨_, rfl, ?_⟩
      refine v_goto (pc := 27) 32 dX9_out_27 (by decide) ?_
      first
      | (refine v_ireturn (pc := 32) dX9_out_32 rfl rfl ⟨Nat.le_refl _, Nat.le_refl _⟩ ?_
         exact hQ (by omega) (by omega) hz a l N.1)
      | (refine v_ireturn (pc := 32) dX9_out_32 rfl rfl ⟨Nat.le_refl _, Nat.le_refl _⟩ ?_
         exact hE (by omega) (by omega) (by omega))
  · refine v_bipush (pc := 12) (-2) dX9_out_12 (by decide) ?_
    refine v_ireturn (pc := 14) dX9_out_14 rfl rfl ⟨Nat.le_refl _, Nat.le_refl _⟩ ?_
    exact hB (by omega)
set_option maxHeartbeats 4000000 in
set_option maxRecDepth 100000 in
theorem l_X9_safe {g : vGl} {d : Nat} {Q : Option Value → List mC → Prop} {σ : vSt} {f0 : Nat → Int} {G : Nat → Nat → Int} {T : Int} (hd : 5 ≤ d) (hR : YR σ) (hm : IM σ) (hk : ISky σ) (hp0 : 0 < σ 10 6) (hT : 0 ≤ T ∧ T ≤ 2000) (hf : ∀ t : Nat, (t : Int) < T → fFl σ t (fBeg σ f0) (G t)) : ∀ (n j : Nat) (x s b : Int) (a l : Nat → Int) (hx : x = j) (hn : (j : Int) + n = T) (h0 : eO σ a) (hQ : ∀ a' l' : Nat → Int, eO σ a' → Q (some (vi (s + qSum (fun t => if fBk σ (G t) = 0 then 1 else 0) n j))) (hp (mS σ a' l'))), V g mX9_safe d (0, 0, 0, 0) Q 26 [(0, .ref 38), (2, vi T), (3, vi s), (4, vi x)] [] (hp (mS σ a l)) := by
  intro n
  induction n with
  | zero =>
    intro j x s b a l hx hn h0 hQ
    refine v_iload (pc := 26) dX9_safe_26 rfl ?_
    refine v_iload_n (pc := 28) dX9_safe_28 rfl ?_
    refine v_icmp_ge (pc := 29) 55 dX9_safe_29 (by decide) (by omega) (by omega) (fun h29 => ?_) (fun h29 => by exfalso; omega)
    refine v_iload_n (pc := 55) dX9_safe_55 rfl ?_
    refine v_ireturn (pc := 56) dX9_safe_56 rfl rfl ⟨Nat.le_refl _, Nat.le_refl _⟩ ?_
    have := hQ a l h0
    rw [show s + qSum (fun t => if fBk σ (G t) = 0 then 1 else 0) 0 j = s + 0 from rfl, Int.add_zero] at this
    exact this
  | succ n ih =>
    intro j x s b a l hx hn h0 hQ
    refine v_iload (pc := 26) dX9_safe_26 rfl ?_
    refine v_iload_n (pc := 28) dX9_safe_28 rfl ?_
    refine v_icmp_ge (pc := 29) 55 dX9_safe_29 (by decide) (by omega) (by omega) (fun h29 => by exfalso; omega) (fun h29 => ?_)
    refine v_iload_n (pc := 32) dX9_safe_32 rfl ?_
    refine v_aload_n (pc := 33) dX9_safe_33 rfl ?_
    refine v_iload (pc := 34) dX9_safe_34 rfl ?_
    refine v_cVi1 (pc := 36) (z := 0) (d' := d - 1) dX9_safe_36 kX9_flies ml_X9_237 iwX9_flies swX9_flies rfl rfl (Nat.le_of_ble_eq_true rfl) (Nat.le_of_ble_eq_true rfl) (by omega) ⟨Nat.le_refl _, Nat.le_refl _⟩ ?_
    subst hx
    refine c_X9_flies (by omega) hR hm hk hp0 (by omega) h0 (hf j (by omega)) (fun a2 l2 N => ?_)
    refine ⟨_, rfl, ?_⟩
    refine v_if_ne (pc := 39) 46 dX9_safe_39 (by decide) (bk_rng _ _) (fun h39 => ?_) (fun h39 => ?_)
    · refine v_iconst (pc := 46) (0) dX9_safe_46 (by decide) ?_
      refine v_iadd (pc := 47) dX9_safe_47 ?_
      refine v_istore_n (pc := 48) dX9_safe_48 (by decide) ?_
      refine v_iinc (pc := 49) (1) dX9_safe_49 rfl (by decide) (by decide) ?_
      refine v_goto (pc := 52) 26 dX9_safe_52 (by decide) ?_
      refine v_lv (ih (j + 1) ((j : Int) + 1) _ b _ _ (by omega) (by omega) N.1 (fun a3 l3 h3 => ?_)) ⟨rfl, rfl, rfl, rfl, trivial⟩
      have := hQ a3 l3 h3
      rw [show s + qSum (fun t => if fBk σ (G t) = 0 then 1 else 0) (n + 1) j = s + ((if fBk σ (G j) = 0 then 1 else 0) + qSum (fun t => if fBk σ (G t) = 0 then 1 else 0) n (j + 1)) from rfl, ← Int.add_assoc] at this
      first | (rw [if_pos (by omega)] at this; exact this) | (rw [if_neg (by omega)] at this; exact this)
    · refine v_iconst (pc := 42) (1) dX9_safe_42 (by decide) ?_
      refine v_goto (pc := 43) 47 dX9_safe_43 (by decide) ?_
      refine v_iadd (pc := 47) dX9_safe_47 ?_
      refine v_istore_n (pc := 48) dX9_safe_48 (by decide) ?_
      refine v_iinc (pc := 49) (1) dX9_safe_49 rfl (by decide) (by decide) ?_
      refine v_goto (pc := 52) 26 dX9_safe_52 (by decide) ?_
      refine v_lv (ih (j + 1) ((j : Int) + 1) _ b _ _ (by omega) (by omega) N.1 (fun a3 l3 h3 => ?_)) ⟨rfl, rfl, rfl, rfl, trivial⟩
      have := hQ a3 l3 h3
      rw [show s + qSum (fun t => if fBk σ (G t) = 0 then 1 else 0) (n + 1) j = s + ((if fBk σ (G j) = 0 then 1 else 0) + qSum (fun t => if fBk σ (G t) = 0 then 1 else 0) n (j + 1)) from rfl, ← Int.add_assoc] at this
      first | (rw [if_pos (by omega)] at this; exact this) | (rw [if_neg (by omega)] at this; exact this)
set_option maxHeartbeats 4000000 in
set_option maxRecDepth 100000 in
theorem c_X9_safe {g : vGl} {d : Nat} {Q : Option Value → List mC → Prop} {σ : vSt} {f0 g2 : Nat → Int} (hd : 5 ≤ d) (hR : YR σ) (hm : IM σ) (hk : ISky σ) {G : Nat → Nat → Int} (hf : ¬ qSum (σ 13) (σ 10 6).toNat 0 = 0 → fFl σ (-1) (fBeg σ f0) g2 ∧ ∀ t : Nat, (t : Int) < g2 8 → fFl σ t (fBeg σ f0) (G t)) (hE : qSum (σ 13) (σ 10 6).toNat 0 = 0 → Q (some (vi (-3))) (hp σ)) (hQ : ¬ qSum (σ 13) (σ 10 6).toNat 0 = 0 → ∀ a l : Nat → Int, eO σ a → Q (some (vi (qSum (fun t => if fBk σ (G t) = 0 then 1 else 0) (g2 8).toNat 0))) (hp (mS σ a l))) : V g mX9_safe d (0, 0, 0, 0) Q 0 [(0, .ref 38)] [] (hp σ) := by
  obtain ⟨⟨r0, r1, r2, r3, r4, r5, r6, r7, r8, r9⟩, rE, rS, rT, rF⟩ := id hR
  have sb : 0 ≤ qSum (σ 13) (σ 10 6).toNat 0 := (qSum_bound (f := σ 13) (B := 600) (fun j => by have := rS j; omega) (σ 10 6).toNat 0).1
  refine v_aload_n (pc := 0) dX9_safe_0 rfl ?_
  refine v_cVi0 (pc := 1) (z := 0) (d' := d - 1) dX9_safe_1 kX9_hasStuff ml_X9_234 iwX9_hasStuff swX9_hasStuff rfl rfl (Nat.le_of_ble_eq_true rfl) (Nat.le_of_ble_eq_true rfl) (by omega) ⟨Nat.le_refl _, Nat.le_refl _⟩ ?_
  refine c_X9_hasStuff (hm.r hR) ?_
  rw [has_no hm]
  refine ⟨_, rfl, ?_⟩
  refine v_if_ne (pc := 4) 10 dX9_safe_4 (by decide) (by omega) (fun h4 => ?_) (fun h4 => ?_)
  · have hz : ¬ qSum (σ 13) (σ 10 6).toNat 0 = 0 := by omega
    have hn := n_pos (σ := σ) (by omega)
    have hf2 := hf hz
    have wg : WF σ g2 := by
      rcases hf2.1 with ⟨-, n, hr⟩ | ⟨h1, -⟩
      · exact (fR_WF hR hk.2.2 (Int.le_refl _) n _ hr (WF_Beg hR hk.2.2 hn)).1
      · omega
    have rg := wg.rng hR
    refine v_sg (mS_self σ).symm ?_
    refine v_aload_n (pc := 10) dX9_safe_10 rfl ?_
    refine v_iconst (pc := 11) (-1) dX9_safe_11 (by decide) ?_
    refine v_cVi1 (pc := 12) (z := 0) (d' := d - 1) dX9_safe_12 kX9_flies ml_X9_237 iwX9_flies swX9_flies rfl rfl (Nat.le_of_ble_eq_true rfl) (Nat.le_of_ble_eq_true rfl) (by omega) ⟨Nat.le_refl _, Nat.le_refl _⟩ ?_
    refine c_X9_flies (by omega) hR hm hk hn (by omega) (fun k _ => rfl) hf2.1 (fun a l N => ?_)
    refine ⟨_, rfl, ?_⟩
    refine v_istore_n (pc := 15) dX9_safe_15 (by decide) ?_
    refine v_aload_n (pc := 16) dX9_safe_16 rfl ?_
    refine v_gIv (pc := 17) (g2 8) dX9_safe_17 fl_X9_211 rfl N.2.1.2.2.1 ?_
    refine v_istore_n (pc := 20) dX9_safe_20 (by decide) ?_
    refine v_iconst (pc := 21) (0) dX9_safe_21 (by decide) ?_
    refine v_istore_n (pc := 22) dX9_safe_22 (by decide) ?_
    refine v_iconst (pc := 23) (0) dX9_safe_23 (by decide) ?_
    refine v_istore (pc := 24) dX9_safe_24 (by decide) ?_
    refine v_lv (l_X9_safe hd hR hm hk hn (by omega) hf2.2 (g2 8).toNat 0 0 0 0 a l rfl (by omega) N.1 (fun a2 l2 h2 => ?_)) ⟨rfl, rfl, rfl, rfl, trivial⟩
    rw [Int.zero_add]
    exact hQ hz a2 l2 h2
  · refine v_bipush (pc := 7) (-3) dX9_safe_7 (by decide) ?_
    refine v_ireturn (pc := 9) dX9_safe_9 rfl rfl ⟨Nat.le_refl _, Nat.le_refl _⟩ ?_
    exact hE (by omega)
