def yB (σ : vSt) (bw bs : Int) : vSt := vU (vU σ 31 7 bw) 31 8 bs
theorem yB_B (σ : vSt) (a b c e : Int) : vU (vU (yB σ a b) 31 7 c) 31 8 e = yB σ c e := by
  funext p j
  unfold yB vU
  by_cases h : p = 31
  · subst h
    by_cases h8 : j = 8
    · simp [h8]
    · by_cases h7 : j = 7
      · simp [h7]
      · simp [h8, h7]
  · simp [h]
def qOffer (w s : Int) (p : Int × Int) : Int × Int := if p.1 < w ∨ (w = p.1 ∧ s < p.2) then (w, s) else p
def qCh (nd en wo bd up : Nat → Int) : Nat → Nat → Int → Int → Int → Int → Nat → Int × Int → Int × Int
  | 0, _, _, _, _, w, S, p => qOffer w S p
  | n + 1, k, a, b, c, w, S, p => if a + nd ((bd k).toNat * 3) ≤ up (en (bd k).toNat).toNat ∧ b + nd ((bd k).toNat * 3 + 1) ≤ up (12 + (en (bd k).toNat).toNat) ∧ c + nd ((bd k).toNat * 3 + 2) ≤ up (24 + (en (bd k).toNat).toNat) then qCh nd en wo bd up n (k + 1) (a + nd ((bd k).toNat * 3)) (b + nd ((bd k).toNat * 3 + 1)) (c + nd ((bd k).toNat * 3 + 2)) (w + wo (bd k).toNat) (S ||| 2 ^ (bd k).toNat) (qCh nd en wo bd up n (k + 1) a b c w S p) else qCh nd en wo bd up n (k + 1) a b c w S p
def qRng (p : Int × Int) : Prop := (0 ≤ p.1 ∧ p.1 ≤ 20000) ∧ 0 ≤ p.2 ∧ p.2 ≤ 1023
theorem qCh_rng {nd en wo bd up : Nat → Int} (h1 : ∀ j, 0 ≤ wo j ∧ wo j ≤ 999) (h2 : ∀ j, 0 ≤ bd j ∧ bd j ≤ 9) : ∀ (n k : Nat) (a b c w : Int) (S : Nat) (p : Int × Int), k + n ≤ 10 → 0 ≤ w → w ≤ 999 * k → S ≤ 1023 → qRng p → qRng (qCh nd en wo bd up n k a b c w S p) := by
  intro n
  induction n with
  | zero =>
    intro k a b c w S p hk hw hw2 hS hp
    unfold qRng at *
    show (0 ≤ (qOffer w S p).1 ∧ (qOffer w S p).1 ≤ 20000) ∧ 0 ≤ (qOffer w S p).2 ∧ (qOffer w S p).2 ≤ 1023
    unfold qOffer
    split
    · exact ⟨⟨hw, by show w ≤ 20000; omega⟩, by show (0 : Int) ≤ S; omega, by show (S : Int) ≤ 1023; omega⟩
    · exact hp
  | succ n ih =>
    intro k a b c w S p hk hw hw2 hS hp
    have r1 := ih (k + 1) a b c w S p (by omega) hw (by omega) hS hp
    have t1 := h1 (bd k).toNat
    have t2 := h2 k
    have t3 : S ||| 2 ^ (bd k).toNat < 2 ^ 10 := Nat.or_lt_two_pow (by omega) (Nat.pow_lt_pow_right (by omega) (by omega))
    show qRng (if _ then _ else _)
    split
    · exact ih (k + 1) _ _ _ _ _ _ (by omega) (by omega) (by omega) (by omega) r1
    · exact r1
theorem or_ok (a b : Nat) : Int32.ofInt (a : Int) ||| Int32.ofInt (b : Int) = Int32.ofInt ((a ||| b : Nat) : Int) := by
  rw [Int32.ofInt_eq_ofNat, Int32.ofInt_eq_ofNat, Int32.ofInt_eq_ofNat]
  apply Int32.toBitVec.inj
  simp [BitVec.ofNat_or]
theorem bit_ok {f : Int} (h0 : 0 ≤ f) (h : f ≤ 30) : Int32.ofInt 1 <<< (Int32.ofInt f &&& 31) = Int32.ofInt ((2 ^ f.toNat : Nat) : Int) := by
  have e := shl_ok (a := 1) (by omega) f f.toNat (by
    have : (2 ^ f.toNat : Nat) < 2 ^ 31 := Nat.pow_lt_pow_right (by omega) (by omega)
    omega) (by
    obtain ⟨k, rfl⟩ : ∃ k : Nat, f = k := ⟨f.toNat, by omega⟩
    have hk : k < 31 := by omega
    have key : ∀ k : Fin 31, ((Int32.ofInt (k.val : Int) &&& 31).toBitVec.smod 32).toNat = ((k.val : Int)).toNat := by decide
    exact key ⟨k, hk⟩)
  rw [e, Int.one_mul]
set_option maxHeartbeats 4000000 in
set_option maxRecDepth 100000 in
theorem c_X7_offer {g : vGl} {d : Nat} {Q : Option Value → List mC → Prop} {σ : vSt} {w s bw bs : Int} (hw : vr w) (hs : vr s) (hb : vr bw) (hb2 : vr bs) (hQ : Q none (hp (yB σ (qOffer w s (bw, bs)).1 (qOffer w s (bw, bs)).2))) : V g mX7_offer d (0, 0, 0, 0) Q 0 [(0, .ref 31), (1, vi w), (2, vi s)] [] (hp (yB σ bw bs)) := by
  refine v_iload_n (pc := 0) dX7_offer_0 rfl ?_
  refine v_aload_n (pc := 1) dX7_offer_1 rfl ?_
  refine v_gIv (pc := 2) (bw) dX7_offer_2 fl_X7_34 rfl rfl ?_
  refine v_icmp_gt (pc := 5) 24 dX7_offer_5 (by decide) (by omega) (by omega) (fun h5 => ?_) (fun h5 => ?_)
  · refine v_aload_n (pc := 24) dX7_offer_24 rfl ?_
    refine v_iload_n (pc := 25) dX7_offer_25 rfl ?_
    refine v_pI (pc := 26) dX7_offer_26 fl_X7_34 rfl ?_
    refine v_aload_n (pc := 29) dX7_offer_29 rfl ?_
    refine v_iload_n (pc := 30) dX7_offer_30 rfl ?_
    refine v_pI (pc := 31) dX7_offer_31 fl_X7_37 rfl ?_
    refine v_return (pc := 34) dX7_offer_34 rfl ⟨Nat.le_refl _, Nat.le_refl _⟩ ?_
    first | (rw [qOffer, if_pos (by show bw < w ∨ (w = bw ∧ s < bs); omega)] at hQ; rw [yB_B]; exact hQ) | (rw [qOffer, if_neg (by show ¬ (bw < w ∨ (w = bw ∧ s < bs)); omega)] at hQ; exact hQ)
  · refine v_iload_n (pc := 8) dX7_offer_8 rfl ?_
    refine v_aload_n (pc := 9) dX7_offer_9 rfl ?_
    refine v_gIv (pc := 10) (bw) dX7_offer_10 fl_X7_34 rfl rfl ?_
    refine v_icmp_ne (pc := 13) 34 dX7_offer_13 (by decide) (by omega) (by omega) (fun h13 => ?_) (fun h13 => ?_)
    · refine v_return (pc := 34) dX7_offer_34 rfl ⟨Nat.le_refl _, Nat.le_refl _⟩ ?_
      first | (rw [qOffer, if_pos (by show bw < w ∨ (w = bw ∧ s < bs); omega)] at hQ; rw [yB_B]; exact hQ) | (rw [qOffer, if_neg (by show ¬ (bw < w ∨ (w = bw ∧ s < bs)); omega)] at hQ; exact hQ)
    · refine v_iload_n (pc := 16) dX7_offer_16 rfl ?_
      refine v_aload_n (pc := 17) dX7_offer_17 rfl ?_
      refine v_gIv (pc := 18) (bs) dX7_offer_18 fl_X7_37 rfl rfl ?_
      refine v_icmp_ge (pc := 21) 34 dX7_offer_21 (by decide) (by omega) (by omega) (fun h21 => ?_) (fun h21 => ?_)
      · refine v_return (pc := 34) dX7_offer_34 rfl ⟨Nat.le_refl _, Nat.le_refl _⟩ ?_
        first | (rw [qOffer, if_pos (by show bw < w ∨ (w = bw ∧ s < bs); omega)] at hQ; rw [yB_B]; exact hQ) | (rw [qOffer, if_neg (by show ¬ (bw < w ∨ (w = bw ∧ s < bs)); omega)] at hQ; exact hQ)
      · refine v_aload_n (pc := 24) dX7_offer_24 rfl ?_
        refine v_iload_n (pc := 25) dX7_offer_25 rfl ?_
        refine v_pI (pc := 26) dX7_offer_26 fl_X7_34 rfl ?_
        refine v_aload_n (pc := 29) dX7_offer_29 rfl ?_
        refine v_iload_n (pc := 30) dX7_offer_30 rfl ?_
        refine v_pI (pc := 31) dX7_offer_31 fl_X7_37 rfl ?_
        refine v_return (pc := 34) dX7_offer_34 rfl ⟨Nat.le_refl _, Nat.le_refl _⟩ ?_
        first | (rw [qOffer, if_pos (by show bw < w ∨ (w = bw ∧ s < bs); omega)] at hQ; rw [yB_B]; exact hQ) | (rw [qOffer, if_neg (by show ¬ (bw < w ∨ (w = bw ∧ s < bs)); omega)] at hQ; exact hQ)
set_option maxHeartbeats 4000000 in
set_option maxRecDepth 100000 in
theorem c_X7_choose {g : vGl} {σ : vSt} (hY : YY σ) (hU : ∀ j : Nat, j < 36 → 0 ≤ σ 37 j ∧ σ 37 j ≤ 1000) : ∀ (n : Nat) {d : Nat} {Q : Option Value → List mC → Prop} (k : Nat) (x a b c w : Int) (S : Nat) (bw bs : Int), n + 2 ≤ d → x = k → (k : Int) + n = σ 31 6 → (0 ≤ a ∧ a ≤ 9 * x) → (0 ≤ b ∧ b ≤ 9 * x) → (0 ≤ c ∧ c ≤ 9 * x) → (0 ≤ w ∧ w ≤ 999 * x) → S ≤ 1023 → qRng (bw, bs) → Q none (hp (yB σ (qCh (σ 32) (σ 33) (σ 34) (σ 35) (σ 37) n k a b c w S (bw, bs)).1 (qCh (σ 32) (σ 33) (σ 34) (σ 35) (σ 37) n k a b c w S (bw, bs)).2)) → V g mX7_choose d (0, 0, 0, 0) Q 0 [(0, .ref 31), (1, vi x), (2, vi a), (3, vi b), (4, vi c), (5, vi w), (6, vi S)] [] (hp (yB σ bw bs)) := by
  intro n
  induction n with
  | zero =>
    intro d Q k x a b c w S bw bs hd hx hn ha hb hc hw hS hp hQ
    have ys := hY.1
    have hp2 := hp
    unfold qRng at hp2
    simp only [] at hp2
    refine v_iload_n (pc := 0) dX7_choose_0 rfl ?_
    refine v_if_lt (pc := 1) 12 dX7_choose_1 (by decide) (by omega) (fun h1 => by exfalso; omega) (fun h1 => ?_)
    refine v_iload_n (pc := 4) dX7_choose_4 rfl ?_
    refine v_aload_n (pc := 5) dX7_choose_5 rfl ?_
    refine v_gIv (pc := 6) (σ 31 6) dX7_choose_6 fl_X7_30 rfl rfl ?_
    refine v_icmp_lt (pc := 9) 21 dX7_choose_9 (by decide) (by omega) (by omega) (fun h9 => by exfalso; omega) (fun h9 => ?_)
    refine v_aload_n (pc := 12) dX7_choose_12 rfl ?_
    refine v_iload (pc := 13) dX7_choose_13 rfl ?_
    refine v_iload (pc := 15) dX7_choose_15 rfl ?_
    refine v_cVv2 (pc := 17) (z := 0) (d' := d - 1) dX7_choose_17 kX7_offer ml_X7_44 iwX7_offer swX7_offer rfl rfl (Nat.le_of_ble_eq_true rfl) (Nat.le_of_ble_eq_true rfl) (by omega) ⟨Nat.le_refl _, Nat.le_refl _⟩ ?_
    refine c_X7_offer (by omega) (by omega) (by omega) (by omega) ?_
    refine ⟨rfl, ?_⟩
    refine v_return (pc := 20) dX7_choose_20 rfl ⟨Nat.le_refl _, Nat.le_refl _⟩ ?_
    exact hQ
  | succ n ih =>
    intro d Q k x a b c w S bw bs hd hx hn ha hb hc hw hS hp hQ
    have ys := hY.1
    refine v_iload_n (pc := 0) dX7_choose_0 rfl ?_
    refine v_if_lt (pc := 1) 12 dX7_choose_1 (by decide) (by omega) (fun h1 => by exfalso; omega) (fun h1 => ?_)
    refine v_iload_n (pc := 4) dX7_choose_4 rfl ?_
    refine v_aload_n (pc := 5) dX7_choose_5 rfl ?_
    refine v_gIv (pc := 6) (σ 31 6) dX7_choose_6 fl_X7_30 rfl rfl ?_
    refine v_icmp_lt (pc := 9) 21 dX7_choose_9 (by decide) (by omega) (by omega) (fun h9 => ?_) (fun h9 => by exfalso; omega)
    refine v_aload_n (pc := 21) dX7_choose_21 rfl ?_
    refine v_iload_n (pc := 22) dX7_choose_22 rfl ?_
    refine v_iconst (pc := 23) (1) dX7_choose_23 (by decide) ?_
    refine v_iadd (pc := 24) dX7_choose_24 ?_
    refine v_iload_n (pc := 25) dX7_choose_25 rfl ?_
    refine v_iload_n (pc := 26) dX7_choose_26 rfl ?_
    refine v_iload (pc := 27) dX7_choose_27 rfl ?_
    refine v_iload (pc := 29) dX7_choose_29 rfl ?_
    refine v_iload (pc := 31) dX7_choose_31 rfl ?_
    refine v_cVv6 (pc := 33) (z := 0) (d' := d - 1) dX7_choose_33 kX7_choose ml_X7_40 iwX7_choose swX7_choose rfl rfl (Nat.le_of_ble_eq_true rfl) (Nat.le_of_ble_eq_true rfl) (by omega) ⟨Nat.le_refl _, Nat.le_refl _⟩ ?_
    refine ih (d := d - 1) (k + 1) (x + 1) a b c w S bw bs (by omega) (by omega) (by omega) (by omega) (by omega) (by omega) (by omega) (by omega) hp ?_
    refine ⟨rfl, ?_⟩
    have r1 : qRng (qCh (σ 32) (σ 33) (σ 34) (σ 35) (σ 37) n (k + 1) a b c w S (bw, bs)) := qCh_rng (fun j => (hY.2 j).2.2.2.2.1 |> fun q => ⟨q, (hY.2 j).2.2.2.2.2.1⟩) (fun j => ⟨(hY.2 j).2.2.2.2.2.2.1, (hY.2 j).2.2.2.2.2.2.2.1⟩) n (k + 1) a b c w S (bw, bs) (by omega) (by omega) (by omega) (by omega) hp
    have t1 := hY.2 k
    have t2 := hY.2 (σ 35 k).toNat
    have t3 := hY.2 ((σ 35 k).toNat * 3)
    have t4 := hY.2 ((σ 35 k).toNat * 3 + 1)
    have t5 := hY.2 ((σ 35 k).toNat * 3 + 2)
    have u1 := hU (σ 33 (σ 35 k).toNat).toNat (by omega)
    have u2 := hU (12 + (σ 33 (σ 35 k).toNat).toNat) (by omega)
    have u3 := hU (24 + (σ 33 (σ 35 k).toNat).toNat) (by omega)
    have t6 : S ||| 2 ^ (σ 35 k).toNat < 2 ^ 10 := Nat.or_lt_two_pow (by omega) (Nat.pow_lt_pow_right (by omega) (by omega))
    refine v_aload_n (pc := 36) dX7_choose_36 rfl ?_
    refine v_gR (pc := 37) dX7_choose_37 fl_X7_21 rfl ?_
    refine v_iload_n (pc := 40) dX7_choose_40 rfl ?_
    refine v_aIv (pc := 41) (j := k) (σ 35 k) dX7_choose_41 rfl (by omega) (by omega) (by omega) rfl ?_
    refine v_istore (pc := 42) dX7_choose_42 (by decide) ?_
    refine v_aload_n (pc := 44) dX7_choose_44 rfl ?_
    refine v_gR (pc := 45) dX7_choose_45 fl_X7_15 rfl ?_
    refine v_iload (pc := 48) dX7_choose_48 rfl ?_
    refine v_aIv (pc := 50) (j := (σ 35 k).toNat) (σ 33 (σ 35 k).toNat) dX7_choose_50 rfl rfl (by omega) (by omega) rfl ?_
    refine v_istore (pc := 51) dX7_choose_51 (by decide) ?_
    refine v_iload_n (pc := 53) dX7_choose_53 rfl ?_
    refine v_aload_n (pc := 54) dX7_choose_54 rfl ?_
    refine v_gR (pc := 55) dX7_choose_55 fl_X7_9 rfl ?_
    refine v_iload (pc := 58) dX7_choose_58 rfl ?_
    refine v_iconst (pc := 60) (3) dX7_choose_60 (by decide) ?_
    refine v_imul (pc := 61) dX7_choose_61 ?_
    refine v_aIv (pc := 62) (j := (σ 35 k).toNat * 3) (σ 32 ((σ 35 k).toNat * 3)) dX7_choose_62 rfl (by omega) (by omega) (by omega) rfl ?_
    refine v_iadd (pc := 63) dX7_choose_63 ?_
    refine v_istore (pc := 64) dX7_choose_64 (by decide) ?_
    refine v_iload_n (pc := 66) dX7_choose_66 rfl ?_
    refine v_aload_n (pc := 67) dX7_choose_67 rfl ?_
    refine v_gR (pc := 68) dX7_choose_68 fl_X7_9 rfl ?_
    refine v_iload (pc := 71) dX7_choose_71 rfl ?_
    refine v_iconst (pc := 73) (3) dX7_choose_73 (by decide) ?_
    refine v_imul (pc := 74) dX7_choose_74 ?_
    refine v_iconst (pc := 75) (1) dX7_choose_75 (by decide) ?_
    refine v_iadd (pc := 76) dX7_choose_76 ?_
    refine v_aIv (pc := 77) (j := (σ 35 k).toNat * 3 + 1) (σ 32 ((σ 35 k).toNat * 3 + 1)) dX7_choose_77 rfl (by omega) (by omega) (by omega) rfl ?_
    refine v_iadd (pc := 78) dX7_choose_78 ?_
    refine v_istore (pc := 79) dX7_choose_79 (by decide) ?_
    refine v_iload (pc := 81) dX7_choose_81 rfl ?_
    refine v_aload_n (pc := 83) dX7_choose_83 rfl ?_
    refine v_gR (pc := 84) dX7_choose_84 fl_X7_9 rfl ?_
    refine v_iload (pc := 87) dX7_choose_87 rfl ?_
    refine v_iconst (pc := 89) (3) dX7_choose_89 (by decide) ?_
    refine v_imul (pc := 90) dX7_choose_90 ?_
    refine v_iconst (pc := 91) (2) dX7_choose_91 (by decide) ?_
    refine v_iadd (pc := 92) dX7_choose_92 ?_
    refine v_aIv (pc := 93) (j := (σ 35 k).toNat * 3 + 2) (σ 32 ((σ 35 k).toNat * 3 + 2)) dX7_choose_93 rfl (by omega) (by omega) (by omega) rfl ?_
    refine v_iadd (pc := 94) dX7_choose_94 ?_
    refine v_istore (pc := 95) dX7_choose_95 (by decide) ?_
    refine v_iload (pc := 97) dX7_choose_97 rfl ?_
    refine v_aload_n (pc := 99) dX7_choose_99 rfl ?_
    refine v_gR (pc := 100) dX7_choose_100 fl_X7_27 rfl ?_
    refine v_iload (pc := 103) dX7_choose_103 rfl ?_
    refine v_aIv (pc := 105) (j := (σ 33 (σ 35 k).toNat).toNat) (σ 37 (σ 33 (σ 35 k).toNat).toNat) dX7_choose_105 rfl rfl (by omega) (by omega) rfl ?_
    refine v_icmp_gt (pc := 106) 169 dX7_choose_106 (by decide) (by omega) (by omega) (fun h106 => ?_) (fun h106 => ?_)
    · refine v_return (pc := 169) dX7_choose_169 rfl ⟨Nat.le_refl _, Nat.le_refl _⟩ ?_
      first | (rw [qCh, if_pos (by omega)] at hQ; exact hQ) | (rw [qCh, if_neg (by omega)] at hQ; exact hQ)
    · refine v_iload (pc := 109) dX7_choose_109 rfl ?_
      refine v_aload_n (pc := 111) dX7_choose_111 rfl ?_
      refine v_gR (pc := 112) dX7_choose_112 fl_X7_27 rfl ?_
      refine v_bipush (pc := 115) (12) dX7_choose_115 (by decide) ?_
      refine v_iload (pc := 117) dX7_choose_117 rfl ?_
      refine v_iadd (pc := 119) dX7_choose_119 ?_
      refine v_aIv (pc := 120) (j := 12 + (σ 33 (σ 35 k).toNat).toNat) (σ 37 (12 + (σ 33 (σ 35 k).toNat).toNat)) dX7_choose_120 rfl (by omega) (by omega) (by omega) rfl ?_
      refine v_icmp_gt (pc := 121) 169 dX7_choose_121 (by decide) (by omega) (by omega) (fun h121 => ?_) (fun h121 => ?_)
      · refine v_return (pc := 169) dX7_choose_169 rfl ⟨Nat.le_refl _, Nat.le_refl _⟩ ?_
        first | (rw [qCh, if_pos (by omega)] at hQ; exact hQ) | (rw [qCh, if_neg (by omega)] at hQ; exact hQ)
      · refine v_iload (pc := 124) dX7_choose_124 rfl ?_
        refine v_aload_n (pc := 126) dX7_choose_126 rfl ?_
        refine v_gR (pc := 127) dX7_choose_127 fl_X7_27 rfl ?_
        refine v_bipush (pc := 130) (24) dX7_choose_130 (by decide) ?_
        refine v_iload (pc := 132) dX7_choose_132 rfl ?_
        refine v_iadd (pc := 134) dX7_choose_134 ?_
        refine v_aIv (pc := 135) (j := 24 + (σ 33 (σ 35 k).toNat).toNat) (σ 37 (24 + (σ 33 (σ 35 k).toNat).toNat)) dX7_choose_135 rfl (by omega) (by omega) (by omega) rfl ?_
        refine v_icmp_gt (pc := 136) 169 dX7_choose_136 (by decide) (by omega) (by omega) (fun h136 => ?_) (fun h136 => ?_)
        · refine v_return (pc := 169) dX7_choose_169 rfl ⟨Nat.le_refl _, Nat.le_refl _⟩ ?_
          first | (rw [qCh, if_pos (by omega)] at hQ; exact hQ) | (rw [qCh, if_neg (by omega)] at hQ; exact hQ)
        · refine v_aload_n (pc := 139) dX7_choose_139 rfl ?_
          refine v_iload_n (pc := 140) dX7_choose_140 rfl ?_
          refine v_iconst (pc := 141) (1) dX7_choose_141 (by decide) ?_
          refine v_iadd (pc := 142) dX7_choose_142 ?_
          refine v_iload (pc := 143) dX7_choose_143 rfl ?_
          refine v_iload (pc := 145) dX7_choose_145 rfl ?_
          refine v_iload (pc := 147) dX7_choose_147 rfl ?_
          refine v_iload (pc := 149) dX7_choose_149 rfl ?_
          refine v_aload_n (pc := 151) dX7_choose_151 rfl ?_
          refine v_gR (pc := 152) dX7_choose_152 fl_X7_18 rfl ?_
          refine v_iload (pc := 155) dX7_choose_155 rfl ?_
          refine v_aIv (pc := 157) (j := (σ 35 k).toNat) (σ 34 (σ 35 k).toNat) dX7_choose_157 rfl rfl (by omega) (by omega) rfl ?_
          refine v_iadd (pc := 158) dX7_choose_158 ?_
          refine v_iload (pc := 159) dX7_choose_159 rfl ?_
          refine v_iconst (pc := 161) (1) dX7_choose_161 (by decide) ?_
          refine v_iload (pc := 162) dX7_choose_162 rfl ?_
          refine v_ishl (pc := 164) dX7_choose_164 (bit_ok (by omega) (by omega)) ?_
          refine v_ior (pc := 165) dX7_choose_165 (or_ok _ _) ?_
          refine v_cVv6 (pc := 166) (z := 0) (d' := d - 1) dX7_choose_166 kX7_choose ml_X7_40 iwX7_choose swX7_choose rfl rfl (Nat.le_of_ble_eq_true rfl) (Nat.le_of_ble_eq_true rfl) (by omega) ⟨Nat.le_refl _, Nat.le_refl _⟩ ?_
          refine ih (d := d - 1) (k + 1) (x + 1) _ _ _ _ (S ||| 2 ^ (σ 35 k).toNat) _ _ (by omega) (by omega) (by omega) (by omega) (by omega) (by omega) (by omega) (by omega) r1 ?_
          refine ⟨rfl, ?_⟩
          refine v_return (pc := 169) dX7_choose_169 rfl ⟨Nat.le_refl _, Nat.le_refl _⟩ ?_
          first | (rw [qCh, if_pos (by omega)] at hQ; exact hQ) | (rw [qCh, if_neg (by omega)] at hQ; exact hQ)
def qUpTo (dl : Nat → Int) (i : Nat) : Int := qSum dl (i % 12 + 1) (i - i % 12)
theorem qUpTo_rng {dl : Nat → Int} (h : ∀ j, 0 ≤ dl j ∧ dl j ≤ 9) (i : Nat) : 0 ≤ qUpTo dl i ∧ qUpTo dl i ≤ 108 := by
  have a := qSum_bound h (i % 12 + 1) (i - i % 12)
  unfold qUpTo
  have : ((i % 12 + 1 : Nat) : Int) * 9 ≤ 12 * 9 := by omega
  omega
theorem YY_row {σ : vSt} {f : Nat → Int} (h : YY σ) : YY (vRow σ 37 f) := h
set_option maxHeartbeats 4000000 in
set_option maxRecDepth 100000 in
theorem l_X7_search2 {g : vGl} {d : Nat} {Q : Option Value → List mC → Prop} {σ : vSt} (hY : YY σ) {y : Int} {t : Nat} (hy : y = t) (ht : t < 3) (K : ∀ f : Nat → Int, (∀ i, i < 12 * t + 12 → f i = qUpTo (σ 36) i) → V g mX7_search d (0, 0, 0, 0) Q 49 [(0, .ref 31), (1, vi y)] [] (hp (vRow σ 37 f))) : ∀ (n : Nat) (f : Nat → Int) (j : Nat) (x s : Int) (hx : x = j) (hn : j + n = 12) (hs : s = qSum (σ 36) j (12 * t)) (hf : ∀ i, i < 12 * t + j → f i = qUpTo (σ 36) i), V g mX7_search d (0, 0, 0, 0) Q 11 [(0, .ref 31), (1, vi y), (2, vi s), (3, vi x)] [] (hp (vRow σ 37 f)) := by
  intro n
  induction n with
  | zero =>
    intro f j x s hx hn hs hf
    refine v_iload_n (pc := 11) dX7_search_11 rfl ?_
    refine v_bipush (pc := 12) (12) dX7_search_12 (by decide) ?_
    refine v_icmp_ge (pc := 14) 49 dX7_search_14 (by decide) (by omega) (by omega) (fun h14 => ?_) (fun h14 => by exfalso; omega)
    refine v_lv (K f (fun i hi => hf i (by omega))) ⟨rfl, rfl, trivial⟩
  | succ n ih =>
    intro f j x s hx hn hs hf
    refine v_iload_n (pc := 11) dX7_search_11 rfl ?_
    refine v_bipush (pc := 12) (12) dX7_search_12 (by decide) ?_
    refine v_icmp_ge (pc := 14) 49 dX7_search_14 (by decide) (by omega) (by omega) (fun h14 => by exfalso; omega) (fun h14 => ?_)
    refine v_iload_n (pc := 17) dX7_search_17 rfl ?_
    refine v_aload_n (pc := 18) dX7_search_18 rfl ?_
    refine v_gR (pc := 19) dX7_search_19 fl_X7_24 rfl ?_
    refine v_iload_n (pc := 22) dX7_search_22 rfl ?_
    refine v_bipush (pc := 23) (12) dX7_search_23 (by decide) ?_
    refine v_imul (pc := 25) dX7_search_25 ?_
    refine v_iload_n (pc := 26) dX7_search_26 rfl ?_
    refine v_iadd (pc := 27) dX7_search_27 ?_
    refine v_aIv (pc := 28) (j := 12 * t + j) (σ 36 (12 * t + j)) dX7_search_28 rfl (by omega) (by omega) (by omega) rfl ?_
    refine v_iadd (pc := 29) dX7_search_29 ?_
    refine v_istore_n (pc := 30) dX7_search_30 (by decide) ?_
    refine v_aload_n (pc := 31) dX7_search_31 rfl ?_
    refine v_gR (pc := 32) dX7_search_32 fl_X7_27 rfl ?_
    refine v_iload_n (pc := 35) dX7_search_35 rfl ?_
    refine v_bipush (pc := 36) (12) dX7_search_36 (by decide) ?_
    refine v_imul (pc := 38) dX7_search_38 ?_
    refine v_iload_n (pc := 39) dX7_search_39 rfl ?_
    refine v_iadd (pc := 40) dX7_search_40 ?_
    refine v_iload_n (pc := 41) dX7_search_41 rfl ?_
    refine v_sI (pc := 42) (j := 12 * t + j) dX7_search_42 rfl (by omega) (by omega) (by omega) ?_
    rw [vRow_up]
    refine v_iinc (pc := 43) (1) dX7_search_43 rfl (by decide) (by decide) ?_
    refine v_goto (pc := 46) 11 dX7_search_46 (by decide) ?_
    refine v_lv (ih _ (j + 1) (x + 1) _ (by omega) (by omega) ?_ ?_) ⟨rfl, rfl, rfl, rfl, trivial⟩
    · rw [hs, qSum_snoc]
    · intro i hi
      unfold qUp
      by_cases h : i = 12 * t + j
      · rw [if_pos h, hs, h]
        show qSum (σ 36) j (12 * t) + σ 36 (12 * t + j) = qSum (σ 36) ((12 * t + j) % 12 + 1) (12 * t + j - (12 * t + j) % 12)
        rw [show (12 * t + j) % 12 = j by omega, show 12 * t + j - j = 12 * t by omega, qSum_snoc]
      · rw [if_neg h]; exact hf i (by omega)
set_option maxHeartbeats 4000000 in
set_option maxRecDepth 100000 in
theorem l_X7_search1 {g : vGl} {d : Nat} {Q : Option Value → List mC → Prop} {σ : vSt} (hd : 14 ≤ d) (hY : YY σ) (hQ : ∀ f : Nat → Int, (∀ i, i < 36 → f i = qUpTo (σ 36) i) → Q none (hp (yB (vRow σ 37 f) (qCh (σ 32) (σ 33) (σ 34) (σ 35) f (σ 31 6).toNat 0 0 0 0 0 0 (0, 0)).1 (qCh (σ 32) (σ 33) (σ 34) (σ 35) f (σ 31 6).toNat 0 0 0 0 0 0 (0, 0)).2))) : ∀ (n : Nat) (f : Nat → Int) (t : Nat) (y : Int) (hy : y = t) (hn : t + n = 3) (hf : ∀ i, i < 12 * t → f i = qUpTo (σ 36) i), V g mX7_search d (0, 0, 0, 0) Q 2 [(0, .ref 31), (1, vi y)] [] (hp (vRow σ 37 f)) := by
  intro n
  induction n with
  | zero =>
    intro f t y hy hn hf
    refine v_iload_n (pc := 2) dX7_search_2 rfl ?_
    refine v_iconst (pc := 3) (3) dX7_search_3 (by decide) ?_
    refine v_icmp_ge (pc := 4) 55 dX7_search_4 (by decide) (by omega) (by omega) (fun h4 => ?_) (fun h4 => by exfalso; omega)
    refine v_aload_n (pc := 55) dX7_search_55 rfl ?_
    refine v_iconst (pc := 56) (0) dX7_search_56 (by decide) ?_
    refine v_pI (pc := 57) dX7_search_57 fl_X7_34 rfl ?_
    refine v_aload_n (pc := 60) dX7_search_60 rfl ?_
    refine v_iconst (pc := 61) (0) dX7_search_61 (by decide) ?_
    refine v_pI (pc := 62) dX7_search_62 fl_X7_37 rfl ?_
    refine v_aload_n (pc := 65) dX7_search_65 rfl ?_
    refine v_iconst (pc := 66) (0) dX7_search_66 (by decide) ?_
    refine v_iconst (pc := 67) (0) dX7_search_67 (by decide) ?_
    refine v_iconst (pc := 68) (0) dX7_search_68 (by decide) ?_
    refine v_iconst (pc := 69) (0) dX7_search_69 (by decide) ?_
    refine v_iconst (pc := 70) (0) dX7_search_70 (by decide) ?_
    refine v_iconst (pc := 71) (0) dX7_search_71 (by decide) ?_
    refine v_cVv6 (pc := 72) (z := 0) (d' := d - 1) dX7_search_72 kX7_choose ml_X7_40 iwX7_choose swX7_choose rfl rfl (Nat.le_of_ble_eq_true rfl) (Nat.le_of_ble_eq_true rfl) (by omega) ⟨Nat.le_refl _, Nat.le_refl _⟩ ?_
    have e1 : vU (vU (vRow σ 37 f) 31 7 0) 31 8 0 = yB (vRow σ 37 f) 0 0 := rfl
    rw [e1]
    have ys := hY.1
    refine c_X7_choose (σ := vRow σ 37 f) (YY_row hY) (fun j hj => ?_) (σ 31 6).toNat 0 0 0 0 0 0 0 0 0 (by omega) rfl (show ((0 : Nat) : Int) + (σ 31 6).toNat = σ 31 6 by omega) (by omega) (by omega) (by omega) (by omega) (by omega) ⟨by decide, by decide⟩ ?_
    · have := qUpTo_rng (dl := σ 36) (fun j => by have := hY.2 j; omega) j
      show 0 ≤ vRow σ 37 f 37 j ∧ vRow σ 37 f 37 j ≤ 1000
      rw [vRow_s, hf j (by omega)]
      omega
    refine ⟨rfl, ?_⟩
    refine v_return (pc := 75) dX7_search_75 rfl ⟨Nat.le_refl _, Nat.le_refl _⟩ ?_
    have := hQ f (fun i hi => hf i (by omega))
    exact this
  | succ n ih =>
    intro f t y hy hn hf
    refine v_iload_n (pc := 2) dX7_search_2 rfl ?_
    refine v_iconst (pc := 3) (3) dX7_search_3 (by decide) ?_
    refine v_icmp_ge (pc := 4) 55 dX7_search_4 (by decide) (by omega) (by omega) (fun h4 => by exfalso; omega) (fun h4 => ?_)
    refine v_iconst (pc := 7) (0) dX7_search_7 (by decide) ?_
    refine v_istore_n (pc := 8) dX7_search_8 (by decide) ?_
    refine v_iconst (pc := 9) (0) dX7_search_9 (by decide) ?_
    refine v_istore_n (pc := 10) dX7_search_10 (by decide) ?_
    refine v_lv (l_X7_search2 (t := t) hY hy (by omega) (fun f2 hf2 => ?_) 12 f 0 0 0 rfl rfl rfl (fun i hi => hf i (by omega))) ⟨rfl, rfl, rfl, rfl, trivial⟩
    refine v_iinc (pc := 49) (1) dX7_search_49 rfl (by decide) (by decide) ?_
    refine v_goto (pc := 52) 2 dX7_search_52 (by decide) ?_
    exact v_lv (ih f2 (t + 1) (y + 1) (by omega) (by omega) (fun i hi => hf2 i (by omega))) ⟨rfl, rfl, trivial⟩
set_option maxHeartbeats 4000000 in
set_option maxRecDepth 100000 in
theorem c_X7_search {g : vGl} {d : Nat} {Q : Option Value → List mC → Prop} {σ : vSt} (hd : 14 ≤ d) (hY : YY σ) (hQ : ∀ f : Nat → Int, (∀ i, i < 36 → f i = qUpTo (σ 36) i) → Q none (hp (yB (vRow σ 37 f) (qCh (σ 32) (σ 33) (σ 34) (σ 35) f (σ 31 6).toNat 0 0 0 0 0 0 (0, 0)).1 (qCh (σ 32) (σ 33) (σ 34) (σ 35) f (σ 31 6).toNat 0 0 0 0 0 0 (0, 0)).2))) : V g mX7_search d (0, 0, 0, 0) Q 0 [(0, .ref 31)] [] (hp σ) := by
  refine v_iconst (pc := 0) (0) dX7_search_0 (by decide) ?_
  refine v_istore_n (pc := 1) dX7_search_1 (by decide) ?_
  have k0 := l_X7_search1 (g := g) (d := d) (Q := Q) hd hY hQ 3 (σ 37) 0 0 rfl rfl (fun i hi => absurd hi (by omega))
  rw [vRow_self] at k0
  exact v_lv k0 ⟨rfl, rfl, trivial⟩
set_option maxHeartbeats 4000000 in
set_option maxRecDepth 100000 in
theorem c_X8_year {g : vGl} {d : Nat} {Q : Option Value → List mC → Prop} {σ : vSt} (hd : 15 ≤ d) (hY : YY σ) (hQ : ∀ f : Nat → Int, (∀ i, i < 36 → f i = qUpTo (σ 36) i) → Q (some (vi (qCh (σ 32) (σ 33) (σ 34) (σ 35) f (σ 31 6).toNat 0 0 0 0 0 0 (0, 0)).1)) (hp (yB (vRow σ 37 f) (qCh (σ 32) (σ 33) (σ 34) (σ 35) f (σ 31 6).toNat 0 0 0 0 0 0 (0, 0)).1 (qCh (σ 32) (σ 33) (σ 34) (σ 35) f (σ 31 6).toNat 0 0 0 0 0 0 (0, 0)).2))) : V g mX8_year d (0, 0, 0, 0) Q 0 [(0, .ref 1)] [] (hp σ) := by
  refine v_aload_n (pc := 0) dX8_year_0 rfl ?_
  refine v_gR (pc := 1) dX8_year_1 fl_X8_77 rfl ?_
  refine v_cVv0 (pc := 4) (z := 0) (d' := d - 1) dX8_year_4 kX7_search ml_X8_252 iwX7_search swX7_search rfl rfl (Nat.le_of_ble_eq_true rfl) (Nat.le_of_ble_eq_true rfl) (by omega) ⟨Nat.le_refl _, Nat.le_refl _⟩ ?_
  refine c_X7_search (by omega) hY (fun f hf => ?_)
  refine ⟨rfl, ?_⟩
  refine v_aload_n (pc := 7) dX8_year_7 rfl ?_
  refine v_gR (pc := 8) dX8_year_8 fl_X8_77 rfl ?_
  refine v_gIv (pc := 11) ((qCh (σ 32) (σ 33) (σ 34) (σ 35) f (σ 31 6).toNat 0 0 0 0 0 0 (0, 0)).1) dX8_year_11 fl_X8_254 rfl rfl ?_
  refine v_ireturn (pc := 14) dX8_year_14 rfl rfl ⟨Nat.le_refl _, Nat.le_refl _⟩ ?_
  exact hQ f hf
set_option maxHeartbeats 4000000 in
set_option maxRecDepth 100000 in
theorem c_X8_flights {g : vGl} {d : Nat} {Q : Option Value → List mC → Prop} {σ : vSt} (hd : 15 ≤ d) (hY : YY σ) (hQ : ∀ f : Nat → Int, (∀ i, i < 36 → f i = qUpTo (σ 36) i) → Q (some (vi (qCh (σ 32) (σ 33) (σ 34) (σ 35) f (σ 31 6).toNat 0 0 0 0 0 0 (0, 0)).2)) (hp (yB (vRow σ 37 f) (qCh (σ 32) (σ 33) (σ 34) (σ 35) f (σ 31 6).toNat 0 0 0 0 0 0 (0, 0)).1 (qCh (σ 32) (σ 33) (σ 34) (σ 35) f (σ 31 6).toNat 0 0 0 0 0 0 (0, 0)).2))) : V g mX8_flights d (0, 0, 0, 0) Q 0 [(0, .ref 1)] [] (hp σ) := by
  refine v_aload_n (pc := 0) dX8_flights_0 rfl ?_
  refine v_gR (pc := 1) dX8_flights_1 fl_X8_77 rfl ?_
  refine v_cVv0 (pc := 4) (z := 0) (d' := d - 1) dX8_flights_4 kX7_search ml_X8_252 iwX7_search swX7_search rfl rfl (Nat.le_of_ble_eq_true rfl) (Nat.le_of_ble_eq_true rfl) (by omega) ⟨Nat.le_refl _, Nat.le_refl _⟩ ?_
  refine c_X7_search (by omega) hY (fun f hf => ?_)
  refine ⟨rfl, ?_⟩
  refine v_aload_n (pc := 7) dX8_flights_7 rfl ?_
  refine v_gR (pc := 8) dX8_flights_8 fl_X8_77 rfl ?_
  refine v_gIv (pc := 11) ((qCh (σ 32) (σ 33) (σ 34) (σ 35) f (σ 31 6).toNat 0 0 0 0 0 0 (0, 0)).2) dX8_flights_11 fl_X8_257 rfl rfl ?_
  refine v_ireturn (pc := 14) dX8_flights_14 rfl rfl ⟨Nat.le_refl _, Nat.le_refl _⟩ ?_
  exact hQ f hf
