/-! the reference's flights -/
theorem v_sgt {g : vGl} {M : vMt} {d : Nat} {N : Nat × Nat × Nat × Nat} {Q : Option Value → List mC → Prop} {pc : Nat} {lv : List (Nat × Value)} {st : List Value} {σ τ : vSt} (h : σ = τ) (k : V g M d N Q pc lv st (hp τ)) : V g M d N Q pc lv st (hp σ) := v_sg h k
def mS (σ : vSt) (a l : Nat → Int) : vSt := vRow (vRow σ 38 a) 60 l
theorem mS_u (σ : vSt) (a l : Nat → Int) (k : Nat) (z : Int) : vU (mS σ a l) 38 k z = mS σ (qUp a k z) l := by
  unfold mS
  rw [vU_row_o (by decide), vRow_up]
theorem mS_l (σ : vSt) (a l : Nat → Int) (k : Nat) (z : Int) : vU (mS σ a l) 60 k z = mS σ a (qUp l k z) := by
  unfold mS
  rw [vRow_up]
theorem mS_o (σ : vSt) (a l : Nat → Int) (q k : Nat) (z : Int) (h1 : q ≠ 38) (h2 : q ≠ 60) : vU (mS σ a l) q k z = mS (vU σ q k z) a l := by
  unfold mS
  rw [vU_row_o h2, vU_row_o h1]
theorem mS_self (σ : vSt) : mS σ (σ 38) (σ 60) = σ := by
  unfold mS
  rw [vRow_self, vRow_self]
def eO (σ : vSt) (a : Nat → Int) : Prop := ∀ k, (k < 29 ∨ 37 < k) → a k = σ 38 k
def eA (σ : vSt) (a : Nat → Int) (b w t gr gt br h p : Int) : Prop := eO σ a ∧ a 29 = b ∧ a 30 = w ∧ a 31 = t ∧ a 32 = gr ∧ a 33 = gt ∧ a 34 = br ∧ a 35 = b ∧ a 36 = h ∧ a 37 = p
def eN (σ : vSt) (a l f : Nat → Int) : Prop := eO σ a ∧ (a 29 = f 2 ∧ (f 2 < σ 10 6 → a 30 = f 4) ∧ a 31 = f 8 ∧ a 32 = f 11 ∧ a 33 = f 12 ∧ a 34 = f 13 ∧ a 35 = f 2 ∧ a 36 = f 9 ∧ a 37 = f 10) ∧ (f 2 < σ 10 6 → l (f 2).toNat = f 3) ∧ ∀ j : Nat, f 2 < j → (j : Int) < σ 10 6 → l j = σ 13 j
theorem eO_u {σ : vSt} {a : Nat → Int} (h : eO σ a) {k : Nat} {z : Int} (hk : 29 ≤ k ∧ k ≤ 37) : eO σ (qUp a k z) := fun j hj => by
  unfold qUp
  rw [if_neg (by omega)]
  exact h j hj
theorem IM_mS {σ : vSt} {a l : Nat → Int} (hm : IM σ) (h : eO σ a) : IM (mS σ a l) := by
  obtain ⟨⟨a1, a2, a3, a4, a5⟩, b, c⟩ := hm
  exact ⟨⟨(h 12 (by omega)).trans a1, (h 13 (by omega)).trans a2, (h 14 (by omega)).trans a3, (h 15 (by omega)).trans a4, (h 16 (by omega)).trans a5⟩, b, c⟩
theorem eN.A {σ : vSt} {a l f : Nat → Int} (h : eN σ a l f) (lt : f 2 < σ 10 6) : eA σ a (f 2) (f 4) (f 8) (f 11) (f 12) (f 13) (f 9) (f 10) := by
  obtain ⟨h0, ⟨h1, h2, h3, h4, h5, h6, h7, h8, h9⟩, -⟩ := h
  exact ⟨h0, h1, h2 lt, h3, h4, h5, h6, h7, h8, h9⟩
theorem fZ_r {e : vSt} (hR : YR e) : ∀ (k : Nat) (f : Nat → Int), e 10 6 ≤ f 2 + k → WF e f → 0 < f 7 → (fZ e k f 2 = f 2 → fZ e k f = f) ∧ (f 2 < fZ e k f 2 → fZ e k f 4 = e 12 (fZ e k f 2).toNat ∧ fZ e k f 3 = e 13 (fZ e k f 2).toNat) := by
  intro k
  induction k with
  | zero =>
    intro f hk w h7
    have := w.lt h7
    omega
  | succ k ih =>
    intro f hk w h7
    have lt := w.lt h7
    have p7 := w.p7 hR
    by_cases z : f 3 = 0
    · have e0 : fZ e (k + 1) f = fZ e k (fD e f) := if_pos z
      rw [e0]
      obtain ⟨d1, d2, d3, d4⟩ := WF_D hR w.1 w.2.2 lt
      obtain ⟨i1, i2, i3, i4, i5, -⟩ := fZ_ok hR k (fD e f) (by omega) d1 (by omega)
      have j := ih (fD e f) (by omega) d1 (by omega)
      refine ⟨fun q => by omega, fun _ => ?_⟩
      rcases (show fD e f 2 < fZ e k (fD e f) 2 ∨ fZ e k (fD e f) 2 = fD e f 2 by omega) with q | q
      · exact j.2 q
      · have q2 := j.1 q
        rw [q2]
        have lt2 := d1.lt (by omega)
        have c : 0 ≤ f 2 + 1 ∧ f 2 + 1 < e 10 6 := ⟨by have := w.1.1; omega, by omega⟩
        constructor
        · show (if 0 ≤ f 2 + 1 ∧ f 2 + 1 < e 10 6 then e 12 (f 2 + 1).toNat else 0) = e 12 (f 2 + 1).toNat
          rw [if_pos c]
        · show (if 0 ≤ f 2 + 1 ∧ f 2 + 1 < e 10 6 then e 13 (f 2 + 1).toNat else 0) = e 13 (f 2 + 1).toNat
          rw [if_pos c]
    · have e0 : fZ e (k + 1) f = f := if_neg z
      rw [e0]
      exact ⟨fun _ => rfl, fun q => by omega⟩
theorem qSum_no {f : Nat → Int} (h : ∀ j, 0 ≤ f j) : ∀ (n j : Nat), qSum f n j = 0 → ∀ i, j ≤ i → i < j + n → f i = 0 := by
  intro n
  induction n with
  | zero => intro j _ i h1 h2; omega
  | succ n ih =>
    intro j hq i h1 h2
    have hq2 : f j + qSum f n (j + 1) = 0 := hq
    have a := h j
    have b : 0 ≤ qSum f n (j + 1) := by
      have := qSum_mono (f := fun i => f (j + 1 + i)) (fun i => h _) (Nat.zero_le n)
      rw [qSum_shift f (j + 1) n 0] at this
      exact this
    rcases (show i = j ∨ j + 1 ≤ i by omega) with rfl | q
    · omega
    · exact ih (j + 1) (by omega) i q (by omega)
set_option maxHeartbeats 4000000 in
set_option maxRecDepth 100000 in
theorem l_X9_hasStuff {g : vGl} {d : Nat} {Q : Option Value → List mC → Prop} {σ : vSt} (hM : MR σ) : ∀ (n : Nat) (j : Nat) (x h : Int) (hx : x = j) (hn : (j : Int) + n = σ 38 13) (hh : h = if 0 < qSum (σ 47) j 0 then 1 else 0) (hQ : Q (some (vi (if 0 < qSum (σ 47) (j + n) 0 then 1 else 0))) (hp σ)), V g mX9_hasStuff d (0, 0, 0, 0) Q 4 [(0, .ref 38), (1, vi h), (2, vi x)] [] (hp σ) := by
  obtain ⟨⟨r0, r1, r2, r3, r4, r5, r6, r7, r8, r9⟩, rE, rS, rT, rF⟩ := id hM
  intro n
  induction n with
  | zero =>
    intro j x h hx hn hh hQ
    refine v_iload_n (pc := 4) dX9_hasStuff_4 rfl ?_
    refine v_aload_n (pc := 5) dX9_hasStuff_5 rfl ?_
    refine v_gI (pc := 6) dX9_hasStuff_6 fl_X9_110 rfl ?_
    refine v_icmp_ge (pc := 9) 37 dX9_hasStuff_9 (by decide) (by omega) (by omega) (fun h9 => ?_) (fun h9 => by exfalso; omega)
    refine v_iload_n (pc := 37) dX9_hasStuff_37 rfl ?_
    refine v_ireturn (pc := 38) dX9_hasStuff_38 rfl (vZ (by rw [hh]; split <;> omega)) ⟨Nat.le_refl _, Nat.le_refl _⟩ ?_
    rw [hh]
    exact hQ
  | succ n ih =>
    intro j x h hx hn hh hQ
    have s1 := rS j
    have sn := qSum_snoc (σ 47) j 0
    rw [Nat.zero_add] at sn
    have s0 : 0 ≤ qSum (σ 47) j 0 := (qSum_bound (f := σ 47) (B := 600) (fun i => by have := rS i; omega) j 0).1
    refine v_iload_n (pc := 4) dX9_hasStuff_4 rfl ?_
    refine v_aload_n (pc := 5) dX9_hasStuff_5 rfl ?_
    refine v_gI (pc := 6) dX9_hasStuff_6 fl_X9_110 rfl ?_
    refine v_icmp_ge (pc := 9) 37 dX9_hasStuff_9 (by decide) (by omega) (by omega) (fun h9 => by exfalso; omega) (fun h9 => ?_)
    refine v_iload_n (pc := 12) dX9_hasStuff_12 rfl ?_
    refine v_if_ne (pc := 13) 25 dX9_hasStuff_13 (by decide) (by rw [hh]; split <;> omega) (fun h13 => ?_) (fun h13 => ?_)
    · refine v_iconst (pc := 25) (1) dX9_hasStuff_25 (by decide) ?_
      refine v_goto (pc := 26) 30 dX9_hasStuff_26 (by decide) ?_
      refine v_istore_n (pc := 30) dX9_hasStuff_30 (by decide) ?_
      refine v_iinc (pc := 31) (1) dX9_hasStuff_31 rfl (by decide) (by decide) ?_
      refine v_goto (pc := 34) 4 dX9_hasStuff_34 (by decide) ?_
      refine v_lv (ih (j + 1) (x + 1) _ (by omega) (by omega) ?_ (by rw [show j + 1 + n = j + (n + 1) by omega]; exact hQ)) ⟨rfl, rfl, rfl, trivial⟩
      first | (rw [if_pos (by omega)]) | (rw [if_neg (by omega)])
    · refine v_aload_n (pc := 16) dX9_hasStuff_16 rfl ?_
      refine v_gR (pc := 17) dX9_hasStuff_17 fl_X9_34 rfl ?_
      refine v_iload_n (pc := 20) dX9_hasStuff_20 rfl ?_
      refine v_aI (pc := 21) (j := j) dX9_hasStuff_21 rfl (by omega) (by omega) (by omega) ?_
      refine v_if_le (pc := 22) 29 dX9_hasStuff_22 (by decide) (by omega) (fun h22 => ?_) (fun h22 => ?_)
      · refine v_iconst (pc := 29) (0) dX9_hasStuff_29 (by decide) ?_
        refine v_istore_n (pc := 30) dX9_hasStuff_30 (by decide) ?_
        refine v_iinc (pc := 31) (1) dX9_hasStuff_31 rfl (by decide) (by decide) ?_
        refine v_goto (pc := 34) 4 dX9_hasStuff_34 (by decide) ?_
        refine v_lv (ih (j + 1) (x + 1) _ (by omega) (by omega) ?_ (by rw [show j + 1 + n = j + (n + 1) by omega]; exact hQ)) ⟨rfl, rfl, rfl, trivial⟩
        first | (rw [if_pos (by omega)]) | (rw [if_neg (by omega)])
      · refine v_iconst (pc := 25) (1) dX9_hasStuff_25 (by decide) ?_
        refine v_goto (pc := 26) 30 dX9_hasStuff_26 (by decide) ?_
        refine v_istore_n (pc := 30) dX9_hasStuff_30 (by decide) ?_
        refine v_iinc (pc := 31) (1) dX9_hasStuff_31 rfl (by decide) (by decide) ?_
        refine v_goto (pc := 34) 4 dX9_hasStuff_34 (by decide) ?_
        refine v_lv (ih (j + 1) (x + 1) _ (by omega) (by omega) ?_ (by rw [show j + 1 + n = j + (n + 1) by omega]; exact hQ)) ⟨rfl, rfl, rfl, trivial⟩
        first | (rw [if_pos (by omega)]) | (rw [if_neg (by omega)])
set_option maxHeartbeats 4000000 in
set_option maxRecDepth 100000 in
theorem c_X9_hasStuff {g : vGl} {d : Nat} {Q : Option Value → List mC → Prop} {σ : vSt} (hM : MR σ) (hQ : Q (some (vi (if 0 < qSum (σ 47) (σ 38 13).toNat 0 then 1 else 0))) (hp σ)) : V g mX9_hasStuff d (0, 0, 0, 0) Q 0 [(0, .ref 38)] [] (hp σ) := by
  have r := hM.1
  refine v_iconst (pc := 0) (0) dX9_hasStuff_0 (by decide) ?_
  refine v_istore_n (pc := 1) dX9_hasStuff_1 (by decide) ?_
  refine v_iconst (pc := 2) (0) dX9_hasStuff_2 (by decide) ?_
  refine v_istore_n (pc := 3) dX9_hasStuff_3 (by decide) ?_
  refine v_lv (l_X9_hasStuff hM (σ 38 13).toNat 0 0 0 rfl (by omega) (by show (0 : Int) = if (0 : Int) < 0 then 1 else 0; omega) ?_) ⟨rfl, rfl, rfl, trivial⟩
  rw [Nat.zero_add]; exact hQ
set_option maxHeartbeats 4000000 in
set_option maxRecDepth 100000 in
theorem l_X9_massNow {g : vGl} {d : Nat} {Q : Option Value → List mC → Prop} {σ : vSt} {a l : Nat → Int} (hR : YR σ) (hm : IM σ) (hk : ISky σ) (hd : 2 ≤ d) (h0 : eO σ a) : ∀ (n : Nat) (j : Nat) (x s : Int) (hx : x = j) (hn : (j : Int) + n = σ 10 6) (hQ : Q (some (vi (s + qSum (fun j => yDry σ j + l j) n j))) (hp (mS σ a l))), V g mX9_massNow d (0, 0, 0, 0) Q 10 [(0, .ref 38), (1, vi s), (2, vi x)] [] (hp (mS σ a l)) := by
  have hM : MR (mS σ a l) := (IM_mS hm h0).r (by exact hR)
  have hI := IM_mS (l := l) hm h0
  obtain ⟨⟨r0, r1, r2, r3, r4, r5, r6, r7, r8, r9⟩, rE, rS, rT, rF⟩ := id hR
  have a13 : a 13 = σ 10 6 := (h0 13 (by omega)).trans hm.1.2.1
  have a14 : a 14 = σ 2 0 := (h0 14 (by omega)).trans hm.1.2.2.1
  intro n
  induction n with
  | zero =>
    intro j x s hx hn hQ
    refine v_iload_n (pc := 10) dX9_massNow_10 rfl ?_
    refine v_aload_n (pc := 11) dX9_massNow_11 rfl ?_
    refine v_gIv (pc := 12) (σ 10 6) dX9_massNow_12 fl_X9_110 rfl a13 ?_
    refine v_icmp_ge (pc := 15) 39 dX9_massNow_15 (by decide) (by omega) (by omega) (fun h15 => ?_) (fun h15 => by exfalso; omega)
    refine v_iload_n (pc := 39) dX9_massNow_39 rfl ?_
    refine v_ireturn (pc := 40) dX9_massNow_40 rfl rfl ⟨Nat.le_refl _, Nat.le_refl _⟩ ?_
    rw [show s + qSum (fun j => yDry σ j + l j) 0 j = s + 0 from rfl, Int.add_zero] at hQ
    exact hQ
  | succ n ih =>
    intro j x s hx hn hQ
    have ed : yDry (mY (mS σ a l)) j = yDry σ j := hI.dry j
    refine v_iload_n (pc := 10) dX9_massNow_10 rfl ?_
    refine v_aload_n (pc := 11) dX9_massNow_11 rfl ?_
    refine v_gIv (pc := 12) (σ 10 6) dX9_massNow_12 fl_X9_110 rfl a13 ?_
    refine v_icmp_ge (pc := 15) 39 dX9_massNow_15 (by decide) (by omega) (by omega) (fun h15 => by exfalso; omega) (fun h15 => ?_)
    refine v_iload_n (pc := 18) dX9_massNow_18 rfl ?_
    refine v_aload_n (pc := 19) dX9_massNow_19 rfl ?_
    refine v_iload_n (pc := 20) dX9_massNow_20 rfl ?_
    refine v_cVi1 (pc := 21) (z := 0) (d' := d - 1) dX9_massNow_21 kX9_dry ml_X9_144 iwX9_dry swX9_dry rfl rfl (Nat.le_of_ble_eq_true rfl) (Nat.le_of_ble_eq_true rfl) (by omega) ⟨Nat.le_refl _, Nat.le_refl _⟩ ?_
    refine c_X9_dry (k := j) (by omega) hM (by omega) (show (j : Int) < a 13 by omega) ?_
    rw [ed]
    refine ⟨_, rfl, ?_⟩
    refine v_aload_n (pc := 24) dX9_massNow_24 rfl ?_
    refine v_gR (pc := 25) dX9_massNow_25 fl_X9_85 rfl ?_
    refine v_iload_n (pc := 28) dX9_massNow_28 rfl ?_
    refine v_aIv (pc := 29) (j := j) (l j) dX9_massNow_29 rfl (by omega) (by omega) (by omega) rfl ?_
    refine v_iadd (pc := 30) dX9_massNow_30 ?_
    refine v_iadd (pc := 31) dX9_massNow_31 ?_
    refine v_istore_n (pc := 32) dX9_massNow_32 (by decide) ?_
    refine v_iinc (pc := 33) (1) dX9_massNow_33 rfl (by decide) (by decide) ?_
    refine v_goto (pc := 36) 10 dX9_massNow_36 (by decide) ?_
    refine v_lv (ih (j + 1) (x + 1) _ (by omega) (by omega) ?_) ⟨rfl, rfl, rfl, trivial⟩
    rw [show s + qSum (fun j => yDry σ j + l j) (n + 1) j = s + ((yDry σ j + l j) + qSum (fun j => yDry σ j + l j) n (j + 1)) from rfl, ← Int.add_assoc] at hQ
    exact hQ
set_option maxHeartbeats 4000000 in
set_option maxRecDepth 100000 in
theorem c_X9_massNow {g : vGl} {d : Nat} {Q : Option Value → List mC → Prop} {σ : vSt} {a l f : Nat → Int} (hR : YR σ) (hm : IM σ) (hk : ISky σ) (hd : 2 ≤ d) (w : WF σ f) (lt : f 2 < σ 10 6) (hN : eN σ a l f) (hQ : Q (some (vi (f 6))) (hp (mS σ a l))) : V g mX9_massNow d (0, 0, 0, 0) Q 0 [(0, .ref 38)] [] (hp (mS σ a l)) := by
  have h0 := hN.1
  have a13 : a 13 = σ 10 6 := (h0 13 (by omega)).trans hm.1.2.1
  have a14 : a 14 = σ 2 0 := (h0 14 (by omega)).trans hm.1.2.2.1
  refine v_aload_n (pc := 0) dX9_massNow_0 rfl ?_
  refine v_gIv (pc := 1) (σ 2 0) dX9_massNow_1 fl_X9_46 rfl a14 ?_
  refine v_istore_n (pc := 4) dX9_massNow_4 (by decide) ?_
  refine v_aload_n (pc := 5) dX9_massNow_5 rfl ?_
  refine v_gIv (pc := 6) (f 2) dX9_massNow_6 fl_X9_191 rfl hN.2.1.1 ?_
  refine v_istore_n (pc := 9) dX9_massNow_9 (by decide) ?_
  have w2 := w.1.1
  have r9 := hR.1
  have b6 := (w.1.2.2.1 lt).2.2.2.2.2.1
  refine v_lv (l_X9_massNow hR hm hk hd h0 ((σ 10 6).toNat - (f 2).toNat) (f 2).toNat (f 2) (σ 2 0) (by omega) (by omega) ?_) ⟨rfl, rfl, rfl, trivial⟩
  refine q_eq hQ ?_
  rw [show (σ 10 6).toNat - (f 2).toNat = ((σ 10 6).toNat - ((f 2).toNat + 1)) + 1 by omega]
  show σ 2 0 + ((yDry σ (f 2).toNat + l (f 2).toNat) + qSum (fun j => yDry σ j + l j) ((σ 10 6).toNat - ((f 2).toNat + 1)) ((f 2).toNat + 1)) = f 6
  rw [hN.2.2.1 lt, qSum_cong (g := fun j => yDry σ j + σ 13 j) _ _ (fun i h1 h2 => by rw [hN.2.2.2 i (by omega) (by omega)]), b6]
  unfold yMass qMass
  show σ 2 0 + (yDry σ (f 2).toNat + f 3 + qSum (fun j => yDry σ j + σ 13 j) ((σ 10 6).toNat - ((f 2).toNat + 1)) ((f 2).toNat + 1)) = f 3 + yDry σ (f 2).toNat + (σ 2 0 + qSum (fun j => yDry σ j + σ 13 j) ((σ 10 6).toNat - ((f 2).toNat + 1)) ((f 2).toNat + 1))
  omega
set_option maxHeartbeats 4000000 in
set_option maxRecDepth 100000 in
theorem l_X9_finds1 {g : vGl} {d : Nat} {Q : Option Value → List mC → Prop} {σ : vSt} {a l : Nat → Int} (hR : YR σ) (hm : IM σ) (h0 : eO σ a) : ∀ (n : Nat) (f : Nat → Int) (x : Int) (hx : x = f 2) (hn : σ 10 6 ≤ f 2 + n) (w : WF σ f) (h7 : 0 < f 7) (hl : l (f 2).toNat = f 3) (hl2 : ∀ j : Nat, f 2 < j → (j : Int) < σ 10 6 → l j = σ 13 j) (K : V g mX9_finds d (0, 0, 0, 0) Q 28 [(0, .ref 38), (1, vi (fZ σ n f 2))] [] (hp (mS σ a l))), V g mX9_finds d (0, 0, 0, 0) Q 5 [(0, .ref 38), (1, vi x)] [] (hp (mS σ a l)) := by
  obtain ⟨⟨r0, r1, r2, r3, r4, r5, r6, r7, r8, r9⟩, rE, rS, rT, rF⟩ := id hR
  have a13 : a 13 = σ 10 6 := (h0 13 (by omega)).trans hm.1.2.1
  have a14 : a 14 = σ 2 0 := (h0 14 (by omega)).trans hm.1.2.2.1
  intro n
  induction n with
  | zero =>
    intro f x hx hn w h7 hl hl2 K
    have := w.lt h7
    exfalso
    omega
  | succ n ih =>
    intro f x hx hn w h7 hl hl2 K
    have lt := w.lt h7
    have rg := w.rng hR
    refine v_iload_n (pc := 5) dX9_finds_5 rfl ?_
    refine v_aload_n (pc := 6) dX9_finds_6 rfl ?_
    refine v_gIv (pc := 7) (σ 10 6) dX9_finds_7 fl_X9_110 rfl a13 ?_
    refine v_icmp_ge (pc := 10) 28 dX9_finds_10 (by decide) (by omega) (by omega) (fun h10 => by exfalso; omega) (fun h10 => ?_)
    refine v_aload_n (pc := 13) dX9_finds_13 rfl ?_
    refine v_gR (pc := 14) dX9_finds_14 fl_X9_85 rfl ?_
    refine v_iload_n (pc := 17) dX9_finds_17 rfl ?_
    refine v_aIv (pc := 18) (j := (f 2).toNat) (f 3) dX9_finds_18 rfl (by omega) (by omega) (by omega) hl ?_
    refine v_if_ne (pc := 19) 28 dX9_finds_19 (by decide) (by omega) (fun h19 => ?_) (fun h19 => ?_)
    · have e0 : fZ σ (n + 1) f = f := if_neg (by omega)
      rw [e0, ← hx] at K
      exact v_lv K ⟨rfl, rfl, trivial⟩
    · refine v_iinc (pc := 22) (1) dX9_finds_22 rfl (by decide) (by decide) ?_
      refine v_goto (pc := 25) 5 dX9_finds_25 (by decide) ?_
      have z : f 3 = 0 := by omega
      have e0 : fZ σ (n + 1) f = fZ σ n (fD σ f) := if_pos z
      rw [e0] at K
      obtain ⟨d1, d2, d3, d4⟩ := WF_D hR w.1 w.2.2 lt
      have lt2 := d1.lt (by omega)
      refine v_lv (ih (fD σ f) (x + 1) (by omega) (by omega) d1 (by omega) ?_ (fun j h1 h2 => hl2 j (by omega) h2) K) ⟨rfl, rfl, trivial⟩
      rw [d2, hl2 (f 2 + 1).toNat (by omega) (by omega)]
      show _ = if 0 ≤ f 2 + 1 ∧ f 2 + 1 < σ 10 6 then σ 13 (f 2 + 1).toNat else 0
      rw [if_pos ⟨by omega, by omega⟩]
set_option maxHeartbeats 4000000 in
set_option maxRecDepth 100000 in
theorem l_X9_finds28 {g : vGl} {d : Nat} {Q : Option Value → List mC → Prop} {σ : vSt} {a l f : Nat → Int} (hR : YR σ) (hm : IM σ) (hk : ISky σ) {F : Nat → Int} (w : WF σ f) (h7 : 0 < f 7) (hN : eN σ a l f) (eF : F = fZ σ 4 f) (hQ : ∀ a' : Nat → Int, eN σ a' l F → Q (some (vi 1)) (hp (mS σ a' l))) : V g mX9_finds d (0, 0, 0, 0) Q 28 [(0, .ref 38), (1, vi (F 2))] [] (hp (mS σ a l)) := by
  obtain ⟨⟨r0, r1, r2, r3, r4, r5, r6, r7, r8, r9⟩, rE, rS, rT, rF⟩ := id hR
  have h0 := hN.1
  have a13 : a 13 = σ 10 6 := (h0 13 (by omega)).trans hm.1.2.1
  have a14 : a 14 = σ 2 0 := (h0 14 (by omega)).trans hm.1.2.2.1
  have lt := w.lt h7
  have rg := w.rng hR
  obtain ⟨-, x29, x30, x31, x32, x33, x34, x35, x36, x37⟩ := hN.A lt
  have iz := fZ_ok hR 4 f (by omega) w h7
  have fr := fZ_r hR 4 f (by omega) w h7
  rw [← eF] at iz fr
  obtain ⟨i1, i2, i3, i4, i5, -⟩ := iz
  have rF2 := i1.rng hR
  refine v_iload_n (pc := 28) dX9_finds_28 rfl ?_
  refine v_aload_n (pc := 29) dX9_finds_29 rfl ?_
  refine v_gIv (pc := 30) (σ 10 6) dX9_finds_30 fl_X9_110 rfl a13 ?_
  refine v_icmp_ne (pc := 33) 38 dX9_finds_33 (by decide) (by omega) (by omega) (fun h33 => ?_) (fun h33 => by exfalso; omega)
  refine v_aload_n (pc := 38) dX9_finds_38 rfl ?_
  refine v_dup (pc := 39) dX9_finds_39 rfl ?_
  refine v_gIv (pc := 40) (f 2) dX9_finds_40 fl_X9_194 rfl x35 ?_
  refine v_iload_n (pc := 43) dX9_finds_43 rfl ?_
  refine v_aload_n (pc := 44) dX9_finds_44 rfl ?_
  refine v_gIv (pc := 45) (f 2) dX9_finds_45 fl_X9_191 rfl x29 ?_
  refine v_isub (pc := 48) dX9_finds_48 ?_
  refine v_iadd (pc := 49) dX9_finds_49 ?_
  refine v_pI (pc := 50) dX9_finds_50 fl_X9_194 rfl ?_
  refine v_iload_n (pc := 53) dX9_finds_53 rfl ?_
  refine v_aload_n (pc := 54) dX9_finds_54 rfl ?_
  refine v_gIv (pc := 55) (f 2) dX9_finds_55 fl_X9_191 rfl x29 ?_
  refine v_icmp_le (pc := 58) 71 dX9_finds_58 (by decide) (by omega) (by omega) (fun h58 => ?_) (fun h58 => ?_)
  · refine v_aload_n (pc := 71) dX9_finds_71 rfl ?_
    refine v_iload_n (pc := 72) dX9_finds_72 rfl ?_
    refine v_pI (pc := 73) dX9_finds_73 fl_X9_191 rfl ?_
    refine v_iconst (pc := 76) (1) dX9_finds_76 (by decide) ?_
    refine v_ireturn (pc := 77) dX9_finds_77 rfl (vZ (by omega)) ⟨Nat.le_refl _, Nat.le_refl _⟩ ?_
    have e35 : f 2 + (F 2 - f 2) = F 2 := by omega
    have fin : ∀ a' : Nat → Int, eO σ a' → a' 29 = F 2 → a' 30 = F 4 → (∀ k, 31 ≤ k → k ≤ 37 → k ≠ 35 → a' k = a k) → a' 35 = F 2 → Q (some (vi 1)) (hp (mS σ a' l)) := by
      intro a' q0 q1 q2 q3 q4
      refine hQ a' ⟨q0, ⟨q1, fun _ => q2, ?_, ?_, ?_, ?_, q4, ?_, ?_⟩, fun _ => ?_, fun j h1 h2 => hN.2.2.2 j (by omega) h2⟩
      · rw [q3 31 (by omega) (by omega) (by omega), i5 8 (by omega)]; exact x31
      · rw [q3 32 (by omega) (by omega) (by omega), i5 11 (by omega)]; exact x32
      · rw [q3 33 (by omega) (by omega) (by omega), i5 12 (by omega)]; exact x33
      · rw [q3 34 (by omega) (by omega) (by omega), i5 13 (by omega)]; exact x34
      · rw [q3 36 (by omega) (by omega) (by omega), i5 9 (by omega)]; exact x36
      · rw [q3 37 (by omega) (by omega) (by omega), i5 10 (by omega)]; exact x37
      · rcases (show f 2 < F 2 ∨ F 2 = f 2 by omega) with t | t
        · rw [hN.2.2.2 (F 2).toNat (by omega) (by omega), (fr.2 t).2]
        · rw [fr.1 t]; exact hN.2.2.1 lt
    first
    | (rw [mS_u, mS_u, mS_u, e35]
       refine fin _ (eO_u (eO_u (eO_u h0 (by omega)) (by omega)) (by omega)) rfl (fr.2 (by omega)).1.symm (fun k q1 q2 q3 => ?_) rfl
       unfold qUp
       rw [if_neg (by omega), if_neg (by omega), if_neg (by omega)])
    | (rw [mS_u, mS_u, e35]
       refine fin _ (eO_u (eO_u h0 (by omega)) (by omega)) rfl (by rw [fr.1 (by omega)]; exact x30) (fun k q1 q2 q3 => ?_) rfl
       unfold qUp
       rw [if_neg (by omega), if_neg (by omega)])
  · refine v_aload_n (pc := 61) dX9_finds_61 rfl ?_
    refine v_aload_n (pc := 62) dX9_finds_62 rfl ?_
    refine v_gR (pc := 63) dX9_finds_63 fl_X9_31 rfl ?_
    refine v_iload_n (pc := 66) dX9_finds_66 rfl ?_
    refine v_aIv (pc := 67) (j := (F 2).toNat) (σ 12 (F 2).toNat) dX9_finds_67 rfl (by omega) (by omega) (by omega) (congrFun hm.2.2.2.1 (F 2).toNat) ?_
    refine v_pI (pc := 68) dX9_finds_68 fl_X9_197 rfl ?_
    refine v_aload_n (pc := 71) dX9_finds_71 rfl ?_
    refine v_iload_n (pc := 72) dX9_finds_72 rfl ?_
    refine v_pI (pc := 73) dX9_finds_73 fl_X9_191 rfl ?_
    refine v_iconst (pc := 76) (1) dX9_finds_76 (by decide) ?_
    refine v_ireturn (pc := 77) dX9_finds_77 rfl (vZ (by omega)) ⟨Nat.le_refl _, Nat.le_refl _⟩ ?_
    have e35 : f 2 + (F 2 - f 2) = F 2 := by omega
    have fin : ∀ a' : Nat → Int, eO σ a' → a' 29 = F 2 → a' 30 = F 4 → (∀ k, 31 ≤ k → k ≤ 37 → k ≠ 35 → a' k = a k) → a' 35 = F 2 → Q (some (vi 1)) (hp (mS σ a' l)) := by
      intro a' q0 q1 q2 q3 q4
      refine hQ a' ⟨q0, ⟨q1, fun _ => q2, ?_, ?_, ?_, ?_, q4, ?_, ?_⟩, fun _ => ?_, fun j h1 h2 => hN.2.2.2 j (by omega) h2⟩
      · rw [q3 31 (by omega) (by omega) (by omega), i5 8 (by omega)]; exact x31
      · rw [q3 32 (by omega) (by omega) (by omega), i5 11 (by omega)]; exact x32
      · rw [q3 33 (by omega) (by omega) (by omega), i5 12 (by omega)]; exact x33
      · rw [q3 34 (by omega) (by omega) (by omega), i5 13 (by omega)]; exact x34
      · rw [q3 36 (by omega) (by omega) (by omega), i5 9 (by omega)]; exact x36
      · rw [q3 37 (by omega) (by omega) (by omega), i5 10 (by omega)]; exact x37
      · rcases (show f 2 < F 2 ∨ F 2 = f 2 by omega) with t | t
        · rw [hN.2.2.2 (F 2).toNat (by omega) (by omega), (fr.2 t).2]
        · rw [fr.1 t]; exact hN.2.2.1 lt
    first
    | (rw [mS_u, mS_u, mS_u, e35]
       refine fin _ (eO_u (eO_u (eO_u h0 (by omega)) (by omega)) (by omega)) rfl (fr.2 (by omega)).1.symm (fun k q1 q2 q3 => ?_) rfl
       unfold qUp
       rw [if_neg (by omega), if_neg (by omega), if_neg (by omega)])
    | (rw [mS_u, mS_u, e35]
       refine fin _ (eO_u (eO_u h0 (by omega)) (by omega)) rfl (by rw [fr.1 (by omega)]; exact x30) (fun k q1 q2 q3 => ?_) rfl
       unfold qUp
       rw [if_neg (by omega), if_neg (by omega)])
set_option maxHeartbeats 4000000 in
set_option maxRecDepth 100000 in
theorem c_X9_finds1 {g : vGl} {d : Nat} {Q : Option Value → List mC → Prop} {σ : vSt} {a l f : Nat → Int} (hR : YR σ) (hm : IM σ) (hk : ISky σ) (w : WF σ f) (h7 : 0 < f 7) (hN : eN σ a l f) (hQ : ∀ a' : Nat → Int, eN σ a' l (fZ σ 4 f) → Q (some (vi 1)) (hp (mS σ a' l))) : V g mX9_finds d (0, 0, 0, 0) Q 0 [(0, .ref 38)] [] (hp (mS σ a l)) := by
  refine v_aload_n (pc := 0) dX9_finds_0 rfl ?_
  refine v_gIv (pc := 1) (f 2) dX9_finds_1 fl_X9_191 rfl hN.2.1.1 ?_
  refine v_istore_n (pc := 4) dX9_finds_4 (by decide) ?_
  have lt := w.lt h7
  have r := hR.1
  have w2 := w.1.1
  exact v_lv (l_X9_finds1 hR hm hN.1 4 f (f 2) rfl (by omega) w h7 (hN.2.2.1 lt) hN.2.2.2 (l_X9_finds28 hR hm hk w h7 hN rfl hQ)) ⟨rfl, rfl, trivial⟩
set_option maxHeartbeats 4000000 in
set_option maxRecDepth 100000 in
theorem l_X9_finds0 {g : vGl} {d : Nat} {Q : Option Value → List mC → Prop} {σ : vSt} {a l : Nat → Int} (hR : YR σ) (hm : IM σ) (h0 : eO σ a) (hQ : Q (some (vi 0)) (hp (mS σ a l))) : ∀ (n : Nat) (x : Int) (hx : x + n = σ 10 6) (hx0 : 0 ≤ x) (hl : ∀ j : Nat, x ≤ j → (j : Int) < σ 10 6 → l j = 0), V g mX9_finds d (0, 0, 0, 0) Q 5 [(0, .ref 38), (1, vi x)] [] (hp (mS σ a l)) := by
  obtain ⟨⟨r0, r1, r2, r3, r4, r5, r6, r7, r8, r9⟩, rE, rS, rT, rF⟩ := id hR
  have a13 : a 13 = σ 10 6 := (h0 13 (by omega)).trans hm.1.2.1
  have a14 : a 14 = σ 2 0 := (h0 14 (by omega)).trans hm.1.2.2.1
  intro n
  induction n with
  | zero =>
    intro x hx hx0 hl
    refine v_iload_n (pc := 5) dX9_finds_5 rfl ?_
    refine v_aload_n (pc := 6) dX9_finds_6 rfl ?_
    refine v_gIv (pc := 7) (σ 10 6) dX9_finds_7 fl_X9_110 rfl a13 ?_
    refine v_icmp_ge (pc := 10) 28 dX9_finds_10 (by decide) (by omega) (by omega) (fun h10 => ?_) (fun h10 => by exfalso; omega)
    refine v_iload_n (pc := 28) dX9_finds_28 rfl ?_
    refine v_aload_n (pc := 29) dX9_finds_29 rfl ?_
    refine v_gIv (pc := 30) (σ 10 6) dX9_finds_30 fl_X9_110 rfl a13 ?_
    refine v_icmp_ne (pc := 33) 38 dX9_finds_33 (by decide) (by omega) (by omega) (fun h33 => by exfalso; omega) (fun h33 => ?_)
    refine v_iconst (pc := 36) (0) dX9_finds_36 (by decide) ?_
    refine v_ireturn (pc := 37) dX9_finds_37 rfl (vZ (by omega)) ⟨Nat.le_refl _, Nat.le_refl _⟩ ?_
    exact hQ
  | succ n ih =>
    intro x hx hx0 hl
    have l0 := hl x.toNat (by omega) (by omega)
    refine v_iload_n (pc := 5) dX9_finds_5 rfl ?_
    refine v_aload_n (pc := 6) dX9_finds_6 rfl ?_
    refine v_gIv (pc := 7) (σ 10 6) dX9_finds_7 fl_X9_110 rfl a13 ?_
    refine v_icmp_ge (pc := 10) 28 dX9_finds_10 (by decide) (by omega) (by omega) (fun h10 => by exfalso; omega) (fun h10 => ?_)
    refine v_aload_n (pc := 13) dX9_finds_13 rfl ?_
    refine v_gR (pc := 14) dX9_finds_14 fl_X9_85 rfl ?_
    refine v_iload_n (pc := 17) dX9_finds_17 rfl ?_
    refine v_aIv (pc := 18) (j := x.toNat) (0) dX9_finds_18 rfl rfl (by omega) (by omega) l0 ?_
    refine v_if_ne (pc := 19) 28 dX9_finds_19 (by decide) (by omega) (fun h19 => by exfalso; omega) (fun h19 => ?_)
    refine v_iinc (pc := 22) (1) dX9_finds_22 rfl (by decide) (by decide) ?_
    refine v_goto (pc := 25) 5 dX9_finds_25 (by decide) ?_
    exact v_lv (ih (x + 1) (by omega) (by omega) (fun j h1 h2 => hl j (by omega) h2)) ⟨rfl, rfl, trivial⟩
set_option maxHeartbeats 4000000 in
set_option maxRecDepth 100000 in
theorem c_X9_finds0 {g : vGl} {d : Nat} {Q : Option Value → List mC → Prop} {σ : vSt} {a l f : Nat → Int} (hR : YR σ) (hm : IM σ) (hk : ISky σ) (w : WF σ f) (h7 : f 7 = 0) (hN : eN σ a l f) (hQ : Q (some (vi 0)) (hp (mS σ a l))) : V g mX9_finds d (0, 0, 0, 0) Q 0 [(0, .ref 38)] [] (hp (mS σ a l)) := by
  refine v_aload_n (pc := 0) dX9_finds_0 rfl ?_
  refine v_gIv (pc := 1) (f 2) dX9_finds_1 fl_X9_191 rfl hN.2.1.1 ?_
  refine v_istore_n (pc := 4) dX9_finds_4 (by decide) ?_
  have r := hR.1
  have w2 := w.1.1
  have w3 := w.1.2.1
  refine v_lv (l_X9_finds0 hR hm hN.1 hQ (σ 10 6 - f 2).toNat (f 2) (by omega) (by omega) (fun j h1 h2 => ?_)) ⟨rfl, rfl, trivial⟩
  have lt : f 2 < σ 10 6 := by omega
  have b7 := (w.1.2.2.1 lt).2.2.2.2.2.2
  have p7 := w.p7 hR
  have al := eAll_nn hR ((f 2).toNat + 1)
  rcases (show f 2 = j ∨ f 2 < j by omega) with q | q
  · have := hN.2.2.1 lt
    rw [show (f 2).toNat = j by omega] at this
    rw [this]
    omega
  · rw [hN.2.2.2 j q h2]
    exact qSum_no (fun i => (hR.2.2.1 i).2.2.2.2.1) _ _ (show eAll σ ((f 2).toNat + 1) = 0 by omega) j (by omega) (by omega)
