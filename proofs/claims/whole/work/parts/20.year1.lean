def yB (σ : vSt) (bw bs : Int) : vSt := vU (vU σ 31 7 bw) 31 8 bs
theorem yB_B (σ : vSt) (a b c e : Int) : vU (vU (yB σ a b) 31 7 c) 31 8 e = yB σ c e := by
  funext p j
  unfold yB vU
  by_cases h : p = 31
  · subst h
    by_cases h8 : j = 8
    · simp [h8]
    · by_cases h7 : j = 7
      · simp [h7]
      · simp [h8, h7]
  · simp [h]
def qOffer (w s : Int) (p : Int × Int) : Int × Int := if p.1 < w ∨ (w = p.1 ∧ s < p.2) then (w, s) else p
def qCh (nd en wo bd up : Nat → Int) : Nat → Nat → Int → Int → Int → Int → Nat → Int × Int → Int × Int
  | 0, _, _, _, _, w, S, p => qOffer w S p
  | n + 1, k, a, b, c, w, S, p => if a + nd ((bd k).toNat * 3) ≤ up (en (bd k).toNat).toNat ∧ b + nd ((bd k).toNat * 3 + 1) ≤ up (12 + (en (bd k).toNat).toNat) ∧ c + nd ((bd k).toNat * 3 + 2) ≤ up (24 + (en (bd k).toNat).toNat) then qCh nd en wo bd up n (k + 1) (a + nd ((bd k).toNat * 3)) (b + nd ((bd k).toNat * 3 + 1)) (c + nd ((bd k).toNat * 3 + 2)) (w + wo (bd k).toNat) (S ||| 2 ^ (bd k).toNat) (qCh nd en wo bd up n (k + 1) a b c w S p) else qCh nd en wo bd up n (k + 1) a b c w S p
def qRng (p : Int × Int) : Prop := (0 ≤ p.1 ∧ p.1 ≤ 20000) ∧ 0 ≤ p.2 ∧ p.2 ≤ 1023
theorem qCh_rng {nd en wo bd up : Nat → Int} (h1 : ∀ j, 0 ≤ wo j ∧ wo j ≤ 999) (h2 : ∀ j, 0 ≤ bd j ∧ bd j ≤ 9) : ∀ (n k : Nat) (a b c w : Int) (S : Nat) (p : Int × Int), k + n ≤ 10 → 0 ≤ w → w ≤ 999 * k → S ≤ 1023 → qRng p → qRng (qCh nd en wo bd up n k a b c w S p) := by
  intro n
  induction n with
  | zero =>
    intro k a b c w S p hk hw hw2 hS hp
    unfold qRng at *
    show (0 ≤ (qOffer w S p).1 ∧ (qOffer w S p).1 ≤ 20000) ∧ 0 ≤ (qOffer w S p).2 ∧ (qOffer w S p).2 ≤ 1023
    unfold qOffer
    split
    · exact ⟨⟨hw, by show w ≤ 20000; omega⟩, by show (0 : Int) ≤ S; omega, by show (S : Int) ≤ 1023; omega⟩
    · exact hp
  | succ n ih =>
    intro k a b c w S p hk hw hw2 hS hp
    have r1 := ih (k + 1) a b c w S p (by omega) hw (by omega) hS hp
    have t1 := h1 (bd k).toNat
    have t2 := h2 k
    have t3 : S ||| 2 ^ (bd k).toNat < 2 ^ 10 := Nat.or_lt_two_pow (by omega) (Nat.pow_lt_pow_right (by omega) (by omega))
    show qRng (if _ then _ else _)
    split
    · exact ih (k + 1) _ _ _ _ _ _ (by omega) (by omega) (by omega) (by omega) r1
    · exact r1
theorem or_ok (a b : Nat) : Int32.ofInt (a : Int) ||| Int32.ofInt (b : Int) = Int32.ofInt ((a ||| b : Nat) : Int) := by
  rw [Int32.ofInt_eq_ofNat, Int32.ofInt_eq_ofNat, Int32.ofInt_eq_ofNat]
  apply Int32.toBitVec.inj
  simp [BitVec.ofNat_or]
theorem bit_ok {f : Int} (h0 : 0 ≤ f) (h : f ≤ 30) : Int32.ofInt 1 <<< (Int32.ofInt f &&& 31) = Int32.ofInt ((2 ^ f.toNat : Nat) : Int) := by
  have e := shl_ok (a := 1) (by omega) f f.toNat (by
    have : (2 ^ f.toNat : Nat) < 2 ^ 31 := Nat.pow_lt_pow_right (by omega) (by omega)
    omega) (by
    obtain ⟨k, rfl⟩ : ∃ k : Nat, f = k := ⟨f.toNat, by omega⟩
    have hk : k < 31 := by omega
    have key : ∀ k : Fin 31, ((Int32.ofInt (k.val : Int) &&& 31).toBitVec.smod 32).toNat = ((k.val : Int)).toNat := by decide
    exact key ⟨k, hk⟩)
  rw [e, Int.one_mul]
set_option maxHeartbeats 4000000 in
set_option maxRecDepth 100000 in
theorem c_X7_offer {g : vGl} {d : Nat} {Q : Option Value → List mC → Prop} {σ : vSt} {w s bw bs : Int} (hw : vr w) (hs : vr s) (hb : vr bw) (hb2 : vr bs) (hQ : Q none (hp (yB σ (qOffer w s (bw, bs)).1 (qOffer w s (bw, bs)).2))) : V g mX7_offer d (0, 0, 0, 0) Q 0 [(0, .ref 31), (1, vi w), (2, vi s)] [] (hp (yB σ bw bs)) := by
  refine v_iload_n (pc := 0) dX7_offer_0 rfl ?_
  refine v_aload_n (pc := 1) dX7_offer_1 rfl ?_
  refine v_gIv (pc := 2) (bw) dX7_offer_2 fl_X7_34 rfl rfl ?_
  refine v_icmp_gt (pc := 5) 24 dX7_offer_5 (by decide) (by omega) (by omega) (fun h5 => ?_) (fun h5 => ?_)
  · refine v_aload_n (pc := 24) dX7_offer_24 rfl ?_
    refine v_iload_n (pc := 25) dX7_offer_25 rfl ?_
    refine v_pI (pc := 26) dX7_offer_26 fl_X7_34 rfl ?_
    refine v_aload_n (pc := 29) dX7_offer_29 rfl ?_
    refine v_iload_n (pc := 30) dX7_offer_30 rfl ?_
    refine v_pI (pc := 31) dX7_offer_31 fl_X7_37 rfl ?_
    refine v_return (pc := 34) dX7_offer_34 rfl ⟨Nat.le_refl _, Nat.le_refl _⟩ ?_
    first | (rw [qOffer, if_pos (by show bw < w ∨ (w = bw ∧ s < bs); omega)] at hQ; rw [yB_B]; exact hQ) | (rw [qOffer, if_neg (by show ¬ (bw < w ∨ (w = bw ∧ s < bs)); omega)] at hQ; exact hQ)
  · refine v_iload_n (pc := 8) dX7_offer_8 rfl ?_
    refine v_aload_n (pc := 9) dX7_offer_9 rfl ?_
    refine v_gIv (pc := 10) (bw) dX7_offer_10 fl_X7_34 rfl rfl ?_
    refine v_icmp_ne (pc := 13) 34 dX7_offer_13 (by decide) (by omega) (by omega) (fun h13 => ?_) (fun h13 => ?_)
    · refine v_return (pc := 34) dX7_offer_34 rfl ⟨Nat.le_refl _, Nat.le_refl _⟩ ?_
      first | (rw [qOffer, if_pos (by show bw < w ∨ (w = bw ∧ s < bs); omega)] at hQ; rw [yB_B]; exact hQ) | (rw [qOffer, if_neg (by show ¬ (bw < w ∨ (w = bw ∧ s < bs)); omega)] at hQ; exact hQ)
    · refine v_iload_n (pc := 16) dX7_offer_16 rfl ?_
      refine v_aload_n (pc := 17) dX7_offer_17 rfl ?_
      refine v_gIv (pc := 18) (bs) dX7_offer_18 fl_X7_37 rfl rfl ?_
      refine v_icmp_ge (pc := 21) 34 dX7_offer_21 (by decide) (by omega) (by omega) (fun h21 => ?_) (fun h21 => ?_)
      · refine v_return (pc := 34) dX7_offer_34 rfl ⟨Nat.le_refl _, Nat.le_refl _⟩ ?_
        first | (rw [qOffer, if_pos (by show bw < w ∨ (w = bw ∧ s < bs); omega)] at hQ; rw [yB_B]; exact hQ) | (rw [qOffer, if_neg (by show ¬ (bw < w ∨ (w = bw ∧ s < bs)); omega)] at hQ; exact hQ)
      · refine v_aload_n (pc := 24) dX7_offer_24 rfl ?_
        refine v_iload_n (pc := 25) dX7_offer_25 rfl ?_
        refine v_pI (pc := 26) dX7_offer_26 fl_X7_34 rfl ?_
        refine v_aload_n (pc := 29) dX7_offer_29 rfl ?_
        refine v_iload_n (pc := 30) dX7_offer_30 rfl ?_
        refine v_pI (pc := 31) dX7_offer_31 fl_X7_37 rfl ?_
        refine v_return (pc := 34) dX7_offer_34 rfl ⟨Nat.le_refl _, Nat.le_refl _⟩ ?_
        first | (rw [qOffer, if_pos (by show bw < w ∨ (w = bw ∧ s < bs); omega)] at hQ; rw [yB_B]; exact hQ) | (rw [qOffer, if_neg (by show ¬ (bw < w ∨ (w = bw ∧ s < bs)); omega)] at hQ; exact hQ)
set_option maxHeartbeats 4000000 in
set_option maxRecDepth 100000 in
theorem c_X7_choose {g : vGl} {σ : vSt} (hY : YY σ) (hU : ∀ j : Nat, 0 ≤ σ 37 j ∧ σ 37 j ≤ 1000) : ∀ (n : Nat) {d : Nat} {Q : Option Value → List mC → Prop} (k : Nat) (x a b c w : Int) (S : Nat) (bw bs : Int), n + 2 ≤ d → x = k → (k : Int) + n = σ 31 6 → (0 ≤ a ∧ a ≤ 9 * x) → (0 ≤ b ∧ b ≤ 9 * x) → (0 ≤ c ∧ c ≤ 9 * x) → (0 ≤ w ∧ w ≤ 999 * x) → S ≤ 1023 → qRng (bw, bs) → Q none (hp (yB σ (qCh (σ 32) (σ 33) (σ 34) (σ 35) (σ 37) n k a b c w S (bw, bs)).1 (qCh (σ 32) (σ 33) (σ 34) (σ 35) (σ 37) n k a b c w S (bw, bs)).2)) → V g mX7_choose d (0, 0, 0, 0) Q 0 [(0, .ref 31), (1, vi x), (2, vi a), (3, vi b), (4, vi c), (5, vi w), (6, vi S)] [] (hp (yB σ bw bs)) := by
  intro n
  induction n with
  | zero =>
    intro d Q k x a b c w S bw bs hd hx hn ha hb hc hw hS hp hQ
    have ys := hY.1
    have hp2 := hp
    unfold qRng at hp2
    simp only [] at hp2
    refine v_iload_n (pc := 0) dX7_choose_0 rfl ?_
    refine v_if_lt (pc := 1) 12 dX7_choose_1 (by decide) (by omega) (fun h1 => by exfalso; omega) (fun h1 => ?_)
    refine v_iload_n (pc := 4) dX7_choose_4 rfl ?_
    refine v_aload_n (pc := 5) dX7_choose_5 rfl ?_
    refine v_gIv (pc := 6) (σ 31 6) dX7_choose_6 fl_X7_30 rfl rfl ?_
    refine v_icmp_lt (pc := 9) 21 dX7_choose_9 (by decide) (by omega) (by omega) (fun h9 => by exfalso; omega) (fun h9 => ?_)
    refine v_aload_n (pc := 12) dX7_choose_12 rfl ?_
    refine v_iload (pc := 13) dX7_choose_13 rfl ?_
    refine v_iload (pc := 15) dX7_choose_15 rfl ?_
    refine v_cVv2 (pc := 17) (z := 0) (d' := d - 1) dX7_choose_17 kX7_offer ml_X7_44 iwX7_offer swX7_offer rfl rfl (Nat.le_of_ble_eq_true rfl) (Nat.le_of_ble_eq_true rfl) (by omega) ⟨Nat.le_refl _, Nat.le_refl _⟩ ?_
    refine c_X7_offer (by omega) (by omega) (by omega) (by omega) ?_
    refine ⟨rfl, ?_⟩
    refine v_return (pc := 20) dX7_choose_20 rfl ⟨Nat.le_refl _, Nat.le_refl _⟩ ?_
    exact hQ
  | succ n ih =>
    intro d Q k x a b c w S bw bs hd hx hn ha hb hc hw hS hp hQ
    have ys := hY.1
    refine v_iload_n (pc := 0) dX7_choose_0 rfl ?_
    refine v_if_lt (pc := 1) 12 dX7_choose_1 (by decide) (by omega) (fun h1 => by exfalso; omega) (fun h1 => ?_)
    refine v_iload_n (pc := 4) dX7_choose_4 rfl ?_
    refine v_aload_n (pc := 5) dX7_choose_5 rfl ?_
    refine v_gIv (pc := 6) (σ 31 6) dX7_choose_6 fl_X7_30 rfl rfl ?_
    refine v_icmp_lt (pc := 9) 21 dX7_choose_9 (by decide) (by omega) (by omega) (fun h9 => ?_) (fun h9 => by exfalso; omega)
    refine v_aload_n (pc := 21) dX7_choose_21 rfl ?_
    refine v_iload_n (pc := 22) dX7_choose_22 rfl ?_
    refine v_iconst (pc := 23) (1) dX7_choose_23 (by decide) ?_
    refine v_iadd (pc := 24) dX7_choose_24 ?_
    refine v_iload_n (pc := 25) dX7_choose_25 rfl ?_
    refine v_iload_n (pc := 26) dX7_choose_26 rfl ?_
    refine v_iload (pc := 27) dX7_choose_27 rfl ?_
    refine v_iload (pc := 29) dX7_choose_29 rfl ?_
    refine v_iload (pc := 31) dX7_choose_31 rfl ?_
    refine v_cVv6 (pc := 33) (z := 0) (d' := d - 1) dX7_choose_33 kX7_choose ml_X7_40 iwX7_choose swX7_choose rfl rfl (Nat.le_of_ble_eq_true rfl) (Nat.le_of_ble_eq_true rfl) (by omega) ⟨Nat.le_refl _, Nat.le_refl _⟩ ?_
    refine ih (d := d - 1) (k + 1) (x + 1) a b c w S bw bs (by omega) (by omega) (by omega) (by omega) (by omega) (by omega) (by omega) (by omega) hp ?_
    refine ⟨rfl, ?_⟩
    have r1 : qRng (qCh (σ 32) (σ 33) (σ 34) (σ 35) (σ 37) n (k + 1) a b c w S (bw, bs)) := qCh_rng (fun j => (hY.2 j).2.2.2.2.1 |> fun q => ⟨q, (hY.2 j).2.2.2.2.2.1⟩) (fun j => ⟨(hY.2 j).2.2.2.2.2.2.1, (hY.2 j).2.2.2.2.2.2.2.1⟩) n (k + 1) a b c w S (bw, bs) (by omega) (by omega) (by omega) (by omega) hp
    have t1 := hY.2 k
    have t2 := hY.2 (σ 35 k).toNat
    have t3 := hY.2 ((σ 35 k).toNat * 3)
    have t4 := hY.2 ((σ 35 k).toNat * 3 + 1)
    have t5 := hY.2 ((σ 35 k).toNat * 3 + 2)
    have u1 := hU (σ 33 (σ 35 k).toNat).toNat
    have u2 := hU (12 + (σ 33 (σ 35 k).toNat).toNat)
    have u3 := hU (24 + (σ 33 (σ 35 k).toNat).toNat)
    have t6 : S ||| 2 ^ (σ 35 k).toNat < 2 ^ 10 := Nat.or_lt_two_pow (by omega) (Nat.pow_lt_pow_right (by omega) (by omega))
    refine v_aload_n (pc := 36) dX7_choose_36 rfl ?_
    refine v_gR (pc := 37) dX7_choose_37 fl_X7_21 rfl ?_
    refine v_iload_n (pc := 40) dX7_choose_40 rfl ?_
    refine v_aIv (pc := 41) (j := k) (σ 35 k) dX7_choose_41 rfl (by omega) (by omega) (by omega) rfl ?_
    refine v_istore (pc := 42) dX7_choose_42 (by decide) ?_
    refine v_aload_n (pc := 44) dX7_choose_44 rfl ?_
    refine v_gR (pc := 45) dX7_choose_45 fl_X7_15 rfl ?_
    refine v_iload (pc := 48) dX7_choose_48 rfl ?_
    refine v_aIv (pc := 50) (j := (σ 35 k).toNat) (σ 33 (σ 35 k).toNat) dX7_choose_50 rfl rfl (by omega) (by omega) rfl ?_
    refine v_istore (pc := 51) dX7_choose_51 (by decide) ?_
    refine v_iload_n (pc := 53) dX7_choose_53 rfl ?_
    refine v_aload_n (pc := 54) dX7_choose_54 rfl ?_
    refine v_gR (pc := 55) dX7_choose_55 fl_X7_9 rfl ?_
    refine v_iload (pc := 58) dX7_choose_58 rfl ?_
    refine v_iconst (pc := 60) (3) dX7_choose_60 (by decide) ?_
    refine v_imul (pc := 61) dX7_choose_61 ?_
    refine v_aIv (pc := 62) (j := (σ 35 k).toNat * 3) (σ 32 ((σ 35 k).toNat * 3)) dX7_choose_62 rfl (by omega) (by omega) (by omega) rfl ?_
    refine v_iadd (pc := 63) dX7_choose_63 ?_
    refine v_istore (pc := 64) dX7_choose_64 (by decide) ?_
    refine v_iload_n (pc := 66) dX7_choose_66 rfl ?_
    refine v_aload_n (pc := 67) dX7_choose_67 rfl ?_
    refine v_gR (pc := 68) dX7_choose_68 fl_X7_9 rfl ?_
    refine v_iload (pc := 71) dX7_choose_71 rfl ?_
    refine v_iconst (pc := 73) (3) dX7_choose_73 (by decide) ?_
    refine v_imul (pc := 74) dX7_choose_74 ?_
    refine v_iconst (pc := 75) (1) dX7_choose_75 (by decide) ?_
    refine v_iadd (pc := 76) dX7_choose_76 ?_
    refine v_aIv (pc := 77) (j := (σ 35 k).toNat * 3 + 1) (σ 32 ((σ 35 k).toNat * 3 + 1)) dX7_choose_77 rfl (by omega) (by omega) (by omega) rfl ?_
    refine v_iadd (pc := 78) dX7_choose_78 ?_
    refine v_istore (pc := 79) dX7_choose_79 (by decide) ?_
    refine v_iload (pc := 81) dX7_choose_81 rfl ?_
    refine v_aload_n (pc := 83) dX7_choose_83 rfl ?_
    refine v_gR (pc := 84) dX7_choose_84 fl_X7_9 rfl ?_
    refine v_iload (pc := 87) dX7_choose_87 rfl ?_
    refine v_iconst (pc := 89) (3) dX7_choose_89 (by decide) ?_
    refine v_imul (pc := 90) dX7_choose_90 ?_
    refine v_iconst (pc := 91) (2) dX7_choose_91 (by decide) ?_
    refine v_iadd (pc := 92) dX7_choose_92 ?_
    refine v_aIv (pc := 93) (j := (σ 35 k).toNat * 3 + 2) (σ 32 ((σ 35 k).toNat * 3 + 2)) dX7_choose_93 rfl (by omega) (by omega) (by omega) rfl ?_
    refine v_iadd (pc := 94) dX7_choose_94 ?_
    refine v_istore (pc := 95) dX7_choose_95 (by decide) ?_
    refine v_iload (pc := 97) dX7_choose_97 rfl ?_
    refine v_aload_n (pc := 99) dX7_choose_99 rfl ?_
    refine v_gR (pc := 100) dX7_choose_100 fl_X7_27 rfl ?_
    refine v_iload (pc := 103) dX7_choose_103 rfl ?_
    refine v_aIv (pc := 105) (j := (σ 33 (σ 35 k).toNat).toNat) (σ 37 (σ 33 (σ 35 k).toNat).toNat) dX7_choose_105 rfl rfl (by omega) (by omega) rfl ?_
    refine v_icmp_gt (pc := 106) 169 dX7_choose_106 (by decide) (by omega) (by omega) (fun h106 => ?_) (fun h106 => ?_)
    · refine v_return (pc := 169) dX7_choose_169 rfl ⟨Nat.le_refl _, Nat.le_refl _⟩ ?_
      first | (rw [qCh, if_pos (by omega)] at hQ; exact hQ) | (rw [qCh, if_neg (by omega)] at hQ; exact hQ)
    · refine v_iload (pc := 109) dX7_choose_109 rfl ?_
      refine v_aload_n (pc := 111) dX7_choose_111 rfl ?_
      refine v_gR (pc := 112) dX7_choose_112 fl_X7_27 rfl ?_
      refine v_bipush (pc := 115) (12) dX7_choose_115 (by decide) ?_
      refine v_iload (pc := 117) dX7_choose_117 rfl ?_
      refine v_iadd (pc := 119) dX7_choose_119 ?_
      refine v_aIv (pc := 120) (j := 12 + (σ 33 (σ 35 k).toNat).toNat) (σ 37 (12 + (σ 33 (σ 35 k).toNat).toNat)) dX7_choose_120 rfl (by omega) (by omega) (by omega) rfl ?_
      refine v_icmp_gt (pc := 121) 169 dX7_choose_121 (by decide) (by omega) (by omega) (fun h121 => ?_) (fun h121 => ?_)
      · refine v_return (pc := 169) dX7_choose_169 rfl ⟨Nat.le_refl _, Nat.le_refl _⟩ ?_
        first | (rw [qCh, if_pos (by omega)] at hQ; exact hQ) | (rw [qCh, if_neg (by omega)] at hQ; exact hQ)
      · refine v_iload (pc := 124) dX7_choose_124 rfl ?_
        refine v_aload_n (pc := 126) dX7_choose_126 rfl ?_
        refine v_gR (pc := 127) dX7_choose_127 fl_X7_27 rfl ?_
        refine v_bipush (pc := 130) (24) dX7_choose_130 (by decide) ?_
        refine v_iload (pc := 132) dX7_choose_132 rfl ?_
        refine v_iadd (pc := 134) dX7_choose_134 ?_
        refine v_aIv (pc := 135) (j := 24 + (σ 33 (σ 35 k).toNat).toNat) (σ 37 (24 + (σ 33 (σ 35 k).toNat).toNat)) dX7_choose_135 rfl (by omega) (by omega) (by omega) rfl ?_
        refine v_icmp_gt (pc := 136) 169 dX7_choose_136 (by decide) (by omega) (by omega) (fun h136 => ?_) (fun h136 => ?_)
        · refine v_return (pc := 169) dX7_choose_169 rfl ⟨Nat.le_refl _, Nat.le_refl _⟩ ?_
          first | (rw [qCh, if_pos (by omega)] at hQ; exact hQ) | (rw [qCh, if_neg (by omega)] at hQ; exact hQ)
        · refine v_aload_n (pc := 139) dX7_choose_139 rfl ?_
          refine v_iload_n (pc := 140) dX7_choose_140 rfl ?_
          refine v_iconst (pc := 141) (1) dX7_choose_141 (by decide) ?_
          refine v_iadd (pc := 142) dX7_choose_142 ?_
          refine v_iload (pc := 143) dX7_choose_143 rfl ?_
          refine v_iload (pc := 145) dX7_choose_145 rfl ?_
          refine v_iload (pc := 147) dX7_choose_147 rfl ?_
          refine v_iload (pc := 149) dX7_choose_149 rfl ?_
          refine v_aload_n (pc := 151) dX7_choose_151 rfl ?_
          refine v_gR (pc := 152) dX7_choose_152 fl_X7_18 rfl ?_
          refine v_iload (pc := 155) dX7_choose_155 rfl ?_
          refine v_aIv (pc := 157) (j := (σ 35 k).toNat) (σ 34 (σ 35 k).toNat) dX7_choose_157 rfl rfl (by omega) (by omega) rfl ?_
          refine v_iadd (pc := 158) dX7_choose_158 ?_
          refine v_iload (pc := 159) dX7_choose_159 rfl ?_
          refine v_iconst (pc := 161) (1) dX7_choose_161 (by decide) ?_
          refine v_iload (pc := 162) dX7_choose_162 rfl ?_
          refine v_ishl (pc := 164) dX7_choose_164 (bit_ok (by omega) (by omega)) ?_
          refine v_ior (pc := 165) dX7_choose_165 (or_ok _ _) ?_
          refine v_cVv6 (pc := 166) (z := 0) (d' := d - 1) dX7_choose_166 kX7_choose ml_X7_40 iwX7_choose swX7_choose rfl rfl (Nat.le_of_ble_eq_true rfl) (Nat.le_of_ble_eq_true rfl) (by omega) ⟨Nat.le_refl _, Nat.le_refl _⟩ ?_
          refine ih (d := d - 1) (k + 1) (x + 1) _ _ _ _ (S ||| 2 ^ (σ 35 k).toNat) _ _ (by omega) (by omega) (by omega) (by omega) (by omega) (by omega) (by omega) (by omega) r1 ?_
          refine ⟨rfl, ?_⟩
          refine v_return (pc := 169) dX7_choose_169 rfl ⟨Nat.le_refl _, Nat.le_refl _⟩ ?_
          first | (rw [qCh, if_pos (by omega)] at hQ; exact hQ) | (rw [qCh, if_neg (by omega)] at hQ; exact hQ)
