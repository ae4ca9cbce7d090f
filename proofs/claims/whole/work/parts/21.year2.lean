theorem qSum_abs {f : Nat → Int} {B : Int} (h : ∀ j, -B ≤ f j ∧ f j ≤ B) : ∀ n j : Nat, -(n * B) ≤ qSum f n j ∧ qSum f n j ≤ n * B := by
  intro n
  induction n with
  | zero => intro j; show -((0 : Nat) * B) ≤ 0 ∧ (0 : Int) ≤ (0 : Nat) * B; simp
  | succ n ih =>
    intro j
    have a := ih (j + 1)
    have b := h j
    have e : ((n + 1 : Nat) : Int) * B = n * B + B := by rw [Int.natCast_add, Int.add_mul]; simp
    show -(_) ≤ f j + qSum f n (j + 1) ∧ f j + qSum f n (j + 1) ≤ _
    rw [e]
    omega
def MY (σ : vSt) : Prop := (0 ≤ σ 38 45 ∧ σ 38 45 ≤ 10) ∧ ∀ j : Nat, 0 ≤ σ 63 j ∧ σ 63 j ≤ 9 ∧ 0 ≤ σ 64 j ∧ σ 64 j ≤ 11 ∧ 0 ≤ σ 65 j ∧ σ 65 j ≤ 999 ∧ 0 ≤ σ 66 j ∧ σ 66 j ≤ 9
def qBit (S f : Nat) : Int := ((S : Int) / ((2 ^ f : Nat) : Int)) % 2
def qUse (nd en : Nat → Int) (S e m : Nat) (f : Nat) : Int := if qBit S f = 1 ∧ en f = m then nd (3 * f + e) else 0
def qNet (nd en dl : Nat → Int) (n S e : Nat) (m : Nat) : Int := dl (12 * e + m) - qSum (qUse nd en S e m) n 0
def qFeas (nd en dl : Nat → Int) (n S : Nat) : Prop := ∀ e, e < 3 → ∀ m, m < 12 → 0 ≤ qSum (qNet nd en dl n S e) (m + 1) 0
theorem qNet_rng {nd en dl : Nat → Int} (h : ∀ j, 0 ≤ nd j ∧ nd j ≤ 9) (h2 : ∀ j, 0 ≤ dl j ∧ dl j ≤ 9) {n : Nat} (hn : n ≤ 10) (S e m : Nat) : -90 ≤ qNet nd en dl n S e m ∧ qNet nd en dl n S e m ≤ 90 := by
  have a := qSum_bound (f := qUse nd en S e m) (B := 9) (fun j => by have := h (3 * j + e); unfold qUse; split <;> omega) n 0
  have b := h2 (12 * e + m)
  unfold qNet
  omega
theorem shr_bit {S : Nat} (hS : S ≤ 2000000000) {f : Int} (h0 : 0 ≤ f) (h : f ≤ 30) : Int32.ofInt (S : Int) >>> (Int32.ofInt f &&& 31) = Int32.ofInt ((S : Int) / ((2 ^ f.toNat : Nat) : Int)) := by
  refine shr_ok (by omega) (by omega) f f.toNat ?_
  obtain ⟨k, rfl⟩ : ∃ k : Nat, f = k := ⟨f.toNat, by omega⟩
  have hk : k < 31 := by omega
  have key : ∀ k : Fin 31, ((Int32.ofInt (k.val : Int) &&& 31).toBitVec.smod 32).toNat = ((k.val : Int)).toNat := by decide
  exact key ⟨k, hk⟩
theorem and_bit {S : Nat} (hS : S ≤ 2000000000) {f : Int} (h0 : 0 ≤ f) {k : Nat} (hk : f = k) : Int32.ofInt ((S : Int) / ((2 ^ f.toNat : Nat) : Int)) &&& Int32.ofInt 1 = Int32.ofInt (qBit S k) := by
  have a := Int.ediv_nonneg (a := (S : Int)) (b := ((2 ^ f.toNat : Nat) : Int)) (by omega) (Int.natCast_nonneg _)
  have b := Int.ediv_le_self ((2 ^ f.toNat : Nat) : Int) (show (0 : Int) ≤ S by omega)
  have e := and_ok (m := 1) a (by omega) 1 (by decide)
  rw [e]
  subst hk
  rfl
theorem qBit_rng (S f : Nat) : 0 ≤ qBit S f ∧ qBit S f ≤ 1 := by unfold qBit; omega
set_option maxHeartbeats 4000000 in
set_option maxRecDepth 100000 in
theorem l_X9_canFly3 {g : vGl} {d : Nat} {Q : Option Value → List mC → Prop} {σ : vSt} (hY : MY σ) {S e m : Nat} (hS : S ≤ 1023) (he : e < 3) (hm : m < 12) {ve vm : Int} (hve : ve = e) (hvm : vm = m) : ∀ (n : Nat) (j : Nat) (x s : Int) (hx : x = j) (hn : (j : Int) + n = σ 38 45) (hQ : V g mX9_canFly d (0, 0, 0, 0) Q 92 [(0, .ref 38), (1, vi S), (2, vi ve), (3, vi (s - qSum (qUse (σ 63) (σ 64) S e m) n j)), (4, vi vm)] [] (hp σ)), V g mX9_canFly d (0, 0, 0, 0) Q 37 [(0, .ref 38), (1, vi S), (2, vi ve), (3, vi s), (4, vi vm), (5, vi x)] [] (hp σ) := by
  intro n
  induction n with
  | zero =>
    intro j x s hx hn hQ
    have ys := hY.1
    refine v_iload (pc := 37) dX9_canFly_37 rfl ?_
    refine v_aload_n (pc := 39) dX9_canFly_39 rfl ?_
    refine v_gI (pc := 40) dX9_canFly_40 fl_X9_261 rfl ?_
    refine v_icmp_ge (pc := 43) 92 dX9_canFly_43 (by decide) (by omega) (by omega) (fun h43 => ?_) (fun h43 => by exfalso; omega)
    refine v_lv hQ ⟨rfl, rfl, rfl, ?_, rfl, trivial⟩
    show some (vi s) = some (vi (s - 0))
    rw [Int.sub_zero]
  | succ n ih =>
    intro j x s hx hn hQ
    have ys := hY.1
    have t1 := hY.2 j
    have t2 := hY.2 (3 * j + e)
    refine v_iload (pc := 37) dX9_canFly_37 rfl ?_
    refine v_aload_n (pc := 39) dX9_canFly_39 rfl ?_
    refine v_gI (pc := 40) dX9_canFly_40 fl_X9_261 rfl ?_
    refine v_icmp_ge (pc := 43) 92 dX9_canFly_43 (by decide) (by omega) (by omega) (fun h43 => by exfalso; omega) (fun h43 => ?_)
    refine v_iload_n (pc := 46) dX9_canFly_46 rfl ?_
    refine v_iload_n (pc := 47) dX9_canFly_47 rfl ?_
    refine v_iload (pc := 48) dX9_canFly_48 rfl ?_
    refine v_ishr (pc := 50) dX9_canFly_50 (shr_bit (by omega) (by omega) (by omega)) ?_
    refine v_iconst (pc := 51) (1) dX9_canFly_51 (by decide) ?_
    refine v_iand (pc := 52) dX9_canFly_52 (and_bit (by omega) (by omega) hx) ?_
    refine v_iconst (pc := 53) (1) dX9_canFly_53 (by decide) ?_
    refine v_icmp_ne (pc := 54) 83 dX9_canFly_54 (by decide) (by have := qBit_rng S j; omega) (by omega) (fun h54 => ?_) (fun h54 => ?_)
    · refine v_iconst (pc := 83) (0) dX9_canFly_83 (by decide) ?_
      refine v_isub (pc := 84) dX9_canFly_84 ?_
      refine v_istore_n (pc := 85) dX9_canFly_85 (by decide) ?_
      refine v_iinc (pc := 86) (1) dX9_canFly_86 rfl (by decide) (by decide) ?_
      refine v_goto (pc := 89) 37 dX9_canFly_89 (by decide) ?_
      refine v_lv (ih (j + 1) (x + 1) _ (by omega) (by omega) ?_) ⟨rfl, rfl, rfl, rfl, rfl, rfl, trivial⟩
      refine v_lv hQ ⟨rfl, rfl, rfl, ?_, rfl, trivial⟩
      show some (vi _) = some (vi (s - (qUse (σ 63) (σ 64) S e m j + qSum (qUse (σ 63) (σ 64) S e m) n (j + 1))))
      congr 2
      unfold qUse
      first | (rw [if_pos (by omega)]; omega) | (rw [if_neg (by omega)]; omega)
    · refine v_aload_n (pc := 57) dX9_canFly_57 rfl ?_
      refine v_gR (pc := 58) dX9_canFly_58 fl_X9_97 rfl ?_
      refine v_iload (pc := 61) dX9_canFly_61 rfl ?_
      refine v_aI (pc := 63) (j := j) dX9_canFly_63 rfl (by omega) (by omega) (by omega) ?_
      refine v_iload (pc := 64) dX9_canFly_64 rfl ?_
      refine v_icmp_ne (pc := 66) 83 dX9_canFly_66 (by decide) (by omega) (by omega) (fun h66 => ?_) (fun h66 => ?_)
      · refine v_iconst (pc := 83) (0) dX9_canFly_83 (by decide) ?_
        refine v_isub (pc := 84) dX9_canFly_84 ?_
        refine v_istore_n (pc := 85) dX9_canFly_85 (by decide) ?_
        refine v_iinc (pc := 86) (1) dX9_canFly_86 rfl (by decide) (by decide) ?_
        refine v_goto (pc := 89) 37 dX9_canFly_89 (by decide) ?_
        refine v_lv (ih (j + 1) (x + 1) _ (by omega) (by omega) ?_) ⟨rfl, rfl, rfl, rfl, rfl, rfl, trivial⟩
        refine v_lv hQ ⟨rfl, rfl, rfl, ?_, rfl, trivial⟩
        show some (vi _) = some (vi (s - (qUse (σ 63) (σ 64) S e m j + qSum (qUse (σ 63) (σ 64) S e m) n (j + 1))))
        congr 2
        unfold qUse
        first | (rw [if_pos (by omega)]; omega) | (rw [if_neg (by omega)]; omega)
      · refine v_aload_n (pc := 69) dX9_canFly_69 rfl ?_
        refine v_gR (pc := 70) dX9_canFly_70 fl_X9_94 rfl ?_
        refine v_iconst (pc := 73) (3) dX9_canFly_73 (by decide) ?_
        refine v_iload (pc := 74) dX9_canFly_74 rfl ?_
        refine v_imul (pc := 76) dX9_canFly_76 ?_
        refine v_iload_n (pc := 77) dX9_canFly_77 rfl ?_
        refine v_iadd (pc := 78) dX9_canFly_78 ?_
        refine v_aI (pc := 79) (j := 3 * j + e) dX9_canFly_79 rfl (by omega) (by omega) (by omega) ?_
        refine v_goto (pc := 80) 84 dX9_canFly_80 (by decide) ?_
        refine v_isub (pc := 84) dX9_canFly_84 ?_
        refine v_istore_n (pc := 85) dX9_canFly_85 (by decide) ?_
        refine v_iinc (pc := 86) (1) dX9_canFly_86 rfl (by decide) (by decide) ?_
        refine v_goto (pc := 89) 37 dX9_canFly_89 (by decide) ?_
        refine v_lv (ih (j + 1) (x + 1) _ (by omega) (by omega) ?_) ⟨rfl, rfl, rfl, rfl, rfl, rfl, trivial⟩
        refine v_lv hQ ⟨rfl, rfl, rfl, ?_, rfl, trivial⟩
        show some (vi _) = some (vi (s - (qUse (σ 63) (σ 64) S e m j + qSum (qUse (σ 63) (σ 64) S e m) n (j + 1))))
        congr 2
        unfold qUse
        first | (rw [if_pos (by omega)]; omega) | (rw [if_neg (by omega)]; omega)
set_option maxHeartbeats 4000000 in
set_option maxRecDepth 100000 in
theorem l_X9_canFly2 {g : vGl} {d : Nat} {Q : Option Value → List mC → Prop} {σ : vSt} (hY : MY σ) {S e : Nat} (hS : S ≤ 1023) (he : e < 3) {ve : Int} (hve : ve = e) (hF : (∃ m, m < 12 ∧ qSum (qNet (σ 63) (σ 64) (σ 66) (σ 38 45).toNat S e) (m + 1) 0 < 0) → Q (some (vi 0)) (hp σ)) (K : (∀ m, m < 12 → 0 ≤ qSum (qNet (σ 63) (σ 64) (σ 66) (σ 38 45).toNat S e) (m + 1) 0) → V g mX9_canFly d (0, 0, 0, 0) Q 104 [(0, .ref 38), (1, vi S), (2, vi ve)] [] (hp σ)) : ∀ (n : Nat) (j : Nat) (x s : Int) (hx : x = j) (hn : j + n = 12) (hs : s = qSum (qNet (σ 63) (σ 64) (σ 66) (σ 38 45).toNat S e) j 0) (hk : ∀ m, m < j → 0 ≤ qSum (qNet (σ 63) (σ 64) (σ 66) (σ 38 45).toNat S e) (m + 1) 0), V g mX9_canFly d (0, 0, 0, 0) Q 12 [(0, .ref 38), (1, vi S), (2, vi ve), (3, vi s), (4, vi x)] [] (hp σ) := by
  intro n
  induction n with
  | zero =>
    intro j x s hx hn hs hk
    have ys := hY.1
    refine v_iload (pc := 12) dX9_canFly_12 rfl ?_
    refine v_bipush (pc := 14) (12) dX9_canFly_14 (by decide) ?_
    refine v_icmp_ge (pc := 16) 104 dX9_canFly_16 (by decide) (by omega) (by omega) (fun h16 => ?_) (fun h16 => by exfalso; omega)
    exact v_lv (K (fun m hm => hk m (by omega))) ⟨rfl, rfl, rfl, trivial⟩
  | succ n ih =>
    intro j x s hx hn hs hk
    have ys := hY.1
    have t1 := hY.2 (12 * e + j)
    refine v_iload (pc := 12) dX9_canFly_12 rfl ?_
    refine v_bipush (pc := 14) (12) dX9_canFly_14 (by decide) ?_
    refine v_icmp_ge (pc := 16) 104 dX9_canFly_16 (by decide) (by omega) (by omega) (fun h16 => by exfalso; omega) (fun h16 => ?_)
    refine v_iload_n (pc := 19) dX9_canFly_19 rfl ?_
    refine v_aload_n (pc := 20) dX9_canFly_20 rfl ?_
    refine v_gR (pc := 21) dX9_canFly_21 fl_X9_103 rfl ?_
    refine v_bipush (pc := 24) (12) dX9_canFly_24 (by decide) ?_
    refine v_iload_n (pc := 26) dX9_canFly_26 rfl ?_
    refine v_imul (pc := 27) dX9_canFly_27 ?_
    refine v_iload (pc := 28) dX9_canFly_28 rfl ?_
    refine v_iadd (pc := 30) dX9_canFly_30 ?_
    refine v_aI (pc := 31) (j := 12 * e + j) dX9_canFly_31 rfl (by omega) (by omega) (by omega) ?_
    refine v_iadd (pc := 32) dX9_canFly_32 ?_
    refine v_istore_n (pc := 33) dX9_canFly_33 (by decide) ?_
    refine v_iconst (pc := 34) (0) dX9_canFly_34 (by decide) ?_
    refine v_istore (pc := 35) dX9_canFly_35 (by decide) ?_
    refine v_lv (l_X9_canFly3 hY (m := j) hS he (by omega) hve hx (σ 38 45).toNat 0 0 _ rfl (by omega) ?_) ⟨rfl, rfl, rfl, rfl, rfl, rfl, trivial⟩
    have es : s + σ 66 (12 * e + j) - qSum (qUse (σ 63) (σ 64) S e j) (σ 38 45).toNat 0 = qSum (qNet (σ 63) (σ 64) (σ 66) (σ 38 45).toNat S e) (j + 1) 0 := by
      rw [qSum_snoc, Nat.zero_add, hs]
      show _ = _ + (σ 66 (12 * e + j) - qSum (qUse (σ 63) (σ 64) S e j) (σ 38 45).toNat 0)
      omega
    have rb := qSum_abs (B := 90) (fun i => qNet_rng (nd := σ 63) (en := σ 64) (dl := σ 66) (fun q => by have := hY.2 q; omega) (fun q => by have := hY.2 q; omega) (n := (σ 38 45).toNat) (by omega) S e i) (j + 1) 0
    refine v_iload_n (pc := 92) dX9_canFly_92 rfl ?_
    refine v_if_ge (pc := 93) 98 dX9_canFly_93 (by decide) (by rw [es]; omega) (fun h93 => ?_) (fun h93 => ?_)
    · refine v_iinc (pc := 98) (1) dX9_canFly_98 rfl (by decide) (by decide) ?_
      refine v_goto (pc := 101) 12 dX9_canFly_101 (by decide) ?_
      refine v_lv (ih (j + 1) (x + 1) _ (by omega) (by omega) es ?_) ⟨rfl, rfl, rfl, rfl, rfl, trivial⟩
      intro q hq
      rcases (show q < j ∨ q = j by omega) with h | rfl
      · exact hk q h
      · rw [← es]; omega
    · refine v_iconst (pc := 96) (0) dX9_canFly_96 (by decide) ?_
      refine v_ireturn (pc := 97) dX9_canFly_97 rfl (vZ (by omega)) ⟨Nat.le_refl _, Nat.le_refl _⟩ ?_
      refine hF ⟨j, by omega, ?_⟩
      rw [← es]
      omega
set_option maxHeartbeats 4000000 in
set_option maxRecDepth 100000 in
theorem l_X9_canFly1 {g : vGl} {d : Nat} {Q : Option Value → List mC → Prop} {σ : vSt} (hY : MY σ) {S : Nat} (hS : S ≤ 1023) (hF : ¬ qFeas (σ 63) (σ 64) (σ 66) (σ 38 45).toNat S → Q (some (vi 0)) (hp σ)) (hQ : qFeas (σ 63) (σ 64) (σ 66) (σ 38 45).toNat S → Q (some (vi 1)) (hp σ)) : ∀ (n : Nat) (e : Nat) (x : Int) (hx : x = e) (hn : e + n = 3) (hk : ∀ i, i < e → ∀ m, m < 12 → 0 ≤ qSum (qNet (σ 63) (σ 64) (σ 66) (σ 38 45).toNat S i) (m + 1) 0), V g mX9_canFly d (0, 0, 0, 0) Q 2 [(0, .ref 38), (1, vi S), (2, vi x)] [] (hp σ) := by
  intro n
  induction n with
  | zero =>
    intro e x hx hn hk
    refine v_iload_n (pc := 2) dX9_canFly_2 rfl ?_
    refine v_iconst (pc := 3) (3) dX9_canFly_3 (by decide) ?_
    refine v_icmp_ge (pc := 4) 110 dX9_canFly_4 (by decide) (by omega) (by omega) (fun h4 => ?_) (fun h4 => by exfalso; omega)
    refine v_iconst (pc := 110) (1) dX9_canFly_110 (by decide) ?_
    refine v_ireturn (pc := 111) dX9_canFly_111 rfl (vZ (by omega)) ⟨Nat.le_refl _, Nat.le_refl _⟩ ?_
    exact hQ (fun i hi m hm => hk i (by omega) m hm)
  | succ n ih =>
    intro e x hx hn hk
    refine v_iload_n (pc := 2) dX9_canFly_2 rfl ?_
    refine v_iconst (pc := 3) (3) dX9_canFly_3 (by decide) ?_
    refine v_icmp_ge (pc := 4) 110 dX9_canFly_4 (by decide) (by omega) (by omega) (fun h4 => by exfalso; omega) (fun h4 => ?_)
    refine v_iconst (pc := 7) (0) dX9_canFly_7 (by decide) ?_
    refine v_istore_n (pc := 8) dX9_canFly_8 (by decide) ?_
    refine v_iconst (pc := 9) (0) dX9_canFly_9 (by decide) ?_
    refine v_istore (pc := 10) dX9_canFly_10 (by decide) ?_
    refine v_lv (l_X9_canFly2 (e := e) hY hS (by omega) hx (fun hm => ?_) (fun hm => ?_) 12 0 0 0 rfl rfl rfl (fun m hm => absurd hm (by omega))) ⟨rfl, rfl, rfl, rfl, rfl, trivial⟩
    · obtain ⟨m, h1, h2⟩ := hm
      refine hF (fun hf => ?_)
      have := hf e (by omega) m h1
      omega
    · refine v_iinc (pc := 104) (1) dX9_canFly_104 rfl (by decide) (by decide) ?_
      refine v_goto (pc := 107) 2 dX9_canFly_107 (by decide) ?_
      refine v_lv (ih (e + 1) (x + 1) (by omega) (by omega) (fun i hi m h => ?_)) ⟨rfl, rfl, rfl, trivial⟩
      rcases (show i < e ∨ i = e by omega) with q | rfl
      · exact hk i q m h
      · exact hm m h
set_option maxHeartbeats 4000000 in
set_option maxRecDepth 100000 in
theorem c_X9_canFly {g : vGl} {d : Nat} {Q : Option Value → List mC → Prop} {σ : vSt} (hY : MY σ) {S : Nat} (hS : S ≤ 1023) (hF : ¬ qFeas (σ 63) (σ 64) (σ 66) (σ 38 45).toNat S → Q (some (vi 0)) (hp σ)) (hQ : qFeas (σ 63) (σ 64) (σ 66) (σ 38 45).toNat S → Q (some (vi 1)) (hp σ)) : V g mX9_canFly d (0, 0, 0, 0) Q 0 [(0, .ref 38), (1, vi S)] [] (hp σ) := by
  refine v_iconst (pc := 0) (0) dX9_canFly_0 (by decide) ?_
  refine v_istore_n (pc := 1) dX9_canFly_1 (by decide) ?_
  exact v_lv (l_X9_canFly1 hY hS hF hQ 3 0 0 rfl rfl (fun i hi => absurd hi (by omega))) ⟨rfl, rfl, rfl, trivial⟩
def qWorth (wo : Nat → Int) (S : Nat) (f : Nat) : Int := if qBit S f = 1 then wo f else 0
/-- what the search over all sets from S on comes to -/
def qYr (nd en wo dl : Nat → Int) (m : Nat) : Nat → Nat → Int × Int → Int × Int → Prop
  | 0, _, p, r => r = p
  | n + 1, S, p, r => ((p.1 < qSum (qWorth wo S) m 0 ∧ qFeas nd en dl m S) → qYr nd en wo dl m n (S + 1) (qSum (qWorth wo S) m 0, S) r) ∧ (¬ (p.1 < qSum (qWorth wo S) m 0 ∧ qFeas nd en dl m S) → qYr nd en wo dl m n (S + 1) p r)
theorem MY_u {σ : vSt} {z : Int} (h : MY σ) : MY (vU σ 38 46 z) := h
theorem u46 (σ : vSt) (a b : Int) : vU (vU σ 38 46 a) 38 46 b = vU σ 38 46 b := by
  funext p j
  unfold vU
  by_cases h : p = 38
  · by_cases h2 : j = 46 <;> simp [h, h2]
  · simp [h]
set_option maxHeartbeats 4000000 in
set_option maxRecDepth 100000 in
theorem l_X9_findYear2 {g : vGl} {d : Nat} {Q : Option Value → List mC → Prop} {σ : vSt} (hY : MY σ) {S : Nat} {best : Int} (hS : S ≤ 1023) : ∀ (n : Nat) (j : Nat) (x s : Int) (hx : x = j) (hn : (j : Int) + n = σ 38 45) (hQ : V g mX9_findYear d (0, 0, 0, 0) Q 63 [(0, .ref 38), (1, vi best), (2, vi S), (3, vi (s + qSum (qWorth (σ 65) S) n j))] [] (hp σ)), V g mX9_findYear d (0, 0, 0, 0) Q 24 [(0, .ref 38), (1, vi best), (2, vi S), (3, vi s), (4, vi x)] [] (hp σ) := by
  intro n
  induction n with
  | zero =>
    intro j x s hx hn hQ
    have ys := hY.1
    refine v_iload (pc := 24) dX9_findYear_24 rfl ?_
    refine v_aload_n (pc := 26) dX9_findYear_26 rfl ?_
    refine v_gI (pc := 27) dX9_findYear_27 fl_X9_261 rfl ?_
    refine v_icmp_ge (pc := 30) 63 dX9_findYear_30 (by decide) (by omega) (by omega) (fun h30 => ?_) (fun h30 => by exfalso; omega)
    refine v_lv hQ ⟨rfl, rfl, rfl, ?_, trivial⟩
    show some (vi s) = some (vi (s + 0))
    rw [Int.add_zero]
  | succ n ih =>
    intro j x s hx hn hQ
    have ys := hY.1
    refine v_iload (pc := 24) dX9_findYear_24 rfl ?_
    refine v_aload_n (pc := 26) dX9_findYear_26 rfl ?_
    refine v_gI (pc := 27) dX9_findYear_27 fl_X9_261 rfl ?_
    refine v_icmp_ge (pc := 30) 63 dX9_findYear_30 (by decide) (by omega) (by omega) (fun h30 => by exfalso; omega) (fun h30 => ?_)
    refine v_iload_n (pc := 33) dX9_findYear_33 rfl ?_
    refine v_iload_n (pc := 34) dX9_findYear_34 rfl ?_
    refine v_iload (pc := 35) dX9_findYear_35 rfl ?_
    refine v_ishr (pc := 37) dX9_findYear_37 (shr_bit (by omega) (by omega) (by omega)) ?_
    refine v_iconst (pc := 38) (1) dX9_findYear_38 (by decide) ?_
    refine v_iand (pc := 39) dX9_findYear_39 (and_bit (by omega) (by omega) hx) ?_
    refine v_iconst (pc := 40) (1) dX9_findYear_40 (by decide) ?_
    refine v_icmp_ne (pc := 41) 54 dX9_findYear_41 (by decide) (by have := qBit_rng S j; omega) (by omega) (fun h41 => ?_) (fun h41 => ?_)
    · refine v_iconst (pc := 54) (0) dX9_findYear_54 (by decide) ?_
      refine v_iadd (pc := 55) dX9_findYear_55 ?_
      refine v_istore_n (pc := 56) dX9_findYear_56 (by decide) ?_
      refine v_iinc (pc := 57) (1) dX9_findYear_57 rfl (by decide) (by decide) ?_
      refine v_goto (pc := 60) 24 dX9_findYear_60 (by decide) ?_
      refine v_lv (ih (j + 1) (x + 1) _ (by omega) (by omega) ?_) ⟨rfl, rfl, rfl, rfl, rfl, trivial⟩
      refine v_lv hQ ⟨rfl, rfl, rfl, ?_, trivial⟩
      show some (vi _) = some (vi (s + (qWorth (σ 65) S j + qSum (qWorth (σ 65) S) n (j + 1))))
      congr 2
      unfold qWorth
      first | (rw [if_pos (by omega)]; omega) | (rw [if_neg (by omega)]; omega)
    · refine v_aload_n (pc := 44) dX9_findYear_44 rfl ?_
      refine v_gR (pc := 45) dX9_findYear_45 fl_X9_100 rfl ?_
      refine v_iload (pc := 48) dX9_findYear_48 rfl ?_
      refine v_aI (pc := 50) (j := j) dX9_findYear_50 rfl (by omega) (by omega) (by omega) ?_
      refine v_goto (pc := 51) 55 dX9_findYear_51 (by decide) ?_
      refine v_iadd (pc := 55) dX9_findYear_55 ?_
      refine v_istore_n (pc := 56) dX9_findYear_56 (by decide) ?_
      refine v_iinc (pc := 57) (1) dX9_findYear_57 rfl (by decide) (by decide) ?_
      refine v_goto (pc := 60) 24 dX9_findYear_60 (by decide) ?_
      refine v_lv (ih (j + 1) (x + 1) _ (by omega) (by omega) ?_) ⟨rfl, rfl, rfl, rfl, rfl, trivial⟩
      refine v_lv hQ ⟨rfl, rfl, rfl, ?_, trivial⟩
      show some (vi _) = some (vi (s + (qWorth (σ 65) S j + qSum (qWorth (σ 65) S) n (j + 1))))
      congr 2
      unfold qWorth
      first | (rw [if_pos (by omega)]; omega) | (rw [if_neg (by omega)]; omega)
set_option maxHeartbeats 4000000 in
set_option maxRecDepth 100000 in
theorem l_X9_findYear1 {g : vGl} {d : Nat} {Q : Option Value → List mC → Prop} {σ : vSt} (hd : 1 ≤ d) (hY : MY σ) {r : Int × Int} (hQ : Q (some (vi r.1)) (hp (vU σ 38 46 r.2))) : ∀ (n : Nat) (S : Nat) (x best bs : Int) (hx : x = S) (hn : S + n = 2 ^ (σ 38 45).toNat) (hb : 0 ≤ best ∧ best ≤ 20000) (hr : qYr (σ 63) (σ 64) (σ 65) (σ 66) (σ 38 45).toNat n S (best, bs) r), V g mX9_findYear d (0, 0, 0, 0) Q 9 [(0, .ref 38), (1, vi best), (2, vi x)] [] (hp (vU σ 38 46 bs)) := by
  intro n
  induction n with
  | zero =>
    intro S x best bs hx hn hb hr
    have ys := hY.1
    have pw : 2 ^ (σ 38 45).toNat ≤ 2 ^ 10 := Nat.pow_le_pow_right (by omega) (by omega)
    refine v_iload_n (pc := 9) dX9_findYear_9 rfl ?_
    refine v_iconst (pc := 10) (1) dX9_findYear_10 (by decide) ?_
    refine v_aload_n (pc := 11) dX9_findYear_11 rfl ?_
    refine v_gIv (pc := 12) (σ 38 45) dX9_findYear_12 fl_X9_261 rfl rfl ?_
    refine v_ishl (pc := 15) dX9_findYear_15 (bit_ok (by omega) (by omega)) ?_
    refine v_icmp_ge (pc := 16) 92 dX9_findYear_16 (by decide) (by omega) (by omega) (fun h16 => ?_) (fun h16 => by exfalso; omega)
    refine v_iload_n (pc := 92) dX9_findYear_92 rfl ?_
    refine v_ireturn (pc := 93) dX9_findYear_93 rfl rfl ⟨Nat.le_refl _, Nat.le_refl _⟩ ?_
    have e : r = (best, bs) := hr
    rw [e] at hQ
    exact hQ
  | succ n ih =>
    intro S x best bs hx hn hb hr
    have ys := hY.1
    have pw : 2 ^ (σ 38 45).toNat ≤ 2 ^ 10 := Nat.pow_le_pow_right (by omega) (by omega)
    refine v_iload_n (pc := 9) dX9_findYear_9 rfl ?_
    refine v_iconst (pc := 10) (1) dX9_findYear_10 (by decide) ?_
    refine v_aload_n (pc := 11) dX9_findYear_11 rfl ?_
    refine v_gIv (pc := 12) (σ 38 45) dX9_findYear_12 fl_X9_261 rfl rfl ?_
    refine v_ishl (pc := 15) dX9_findYear_15 (bit_ok (by omega) (by omega)) ?_
    refine v_icmp_ge (pc := 16) 92 dX9_findYear_16 (by decide) (by omega) (by omega) (fun h16 => by exfalso; omega) (fun h16 => ?_)
    refine v_iconst (pc := 19) (0) dX9_findYear_19 (by decide) ?_
    refine v_istore_n (pc := 20) dX9_findYear_20 (by decide) ?_
    refine v_iconst (pc := 21) (0) dX9_findYear_21 (by decide) ?_
    refine v_istore (pc := 22) dX9_findYear_22 (by decide) ?_
    refine v_lv (l_X9_findYear2 (MY_u (z := bs) hY) (S := S) (best := best) (by omega) (σ 38 45).toNat 0 0 0 rfl (show ((0 : Nat) : Int) + (σ 38 45).toNat = σ 38 45 by omega) ?_) ⟨rfl, rfl, ?_, rfl, rfl, trivial⟩
    · show V g mX9_findYear d (0, 0, 0, 0) Q 63 [(0, .ref 38), (1, vi best), (2, vi S), (3, vi (0 + qSum (qWorth (σ 65) S) (σ 38 45).toNat 0))] [] (hp (vU σ 38 46 bs))
      rw [Int.zero_add]
      have wb := qSum_bound (f := qWorth (σ 65) S) (B := 999) (fun q => by have := hY.2 q; unfold qWorth; split <;> omega) (σ 38 45).toNat 0
      refine v_iload_n (pc := 63) dX9_findYear_63 rfl ?_
      refine v_iload_n (pc := 64) dX9_findYear_64 rfl ?_
      refine v_icmp_le (pc := 65) 86 dX9_findYear_65 (by decide) (by omega) (by omega) (fun h65 => ?_) (fun h65 => ?_)
      · refine v_iinc (pc := 86) (1) dX9_findYear_86 rfl (by decide) (by decide) ?_
        refine v_goto (pc := 89) 9 dX9_findYear_89 (by decide) ?_
        first | exact v_lv (ih (S + 1) ((S : Int) + 1) best bs (by omega) (by omega) hb (hr.2 (fun t => by first | exact hf t.2 | omega))) ⟨rfl, rfl, rfl, trivial⟩ | (rw [u46]; exact v_lv (ih (S + 1) ((S : Int) + 1) _ S (by omega) (by omega) (by omega) (hr.1 ⟨by show best < _; omega, hf⟩)) ⟨rfl, rfl, rfl, trivial⟩)
      · refine v_aload_n (pc := 68) dX9_findYear_68 rfl ?_
        refine v_iload_n (pc := 69) dX9_findYear_69 rfl ?_
        refine v_cVi1 (pc := 70) (z := 0) (d' := d - 1) dX9_findYear_70 kX9_canFly ml_X9_267 iwX9_canFly swX9_canFly rfl rfl (Nat.le_of_ble_eq_true rfl) (Nat.le_of_ble_eq_true rfl) (by omega) ⟨Nat.le_refl _, Nat.le_refl _⟩ ?_
        refine c_X9_canFly (MY_u (z := bs) hY) (by omega) (fun hf => ?_) (fun hf => ?_)
        · refine ⟨_, rfl, ?_⟩
          refine v_if_ne (pc := 73) 79 dX9_findYear_73 (by decide) (by omega) (fun h73 => by exfalso; omega) (fun h73 => ?_)
          refine v_goto (pc := 76) 86 dX9_findYear_76 (by decide) ?_
          refine v_iinc (pc := 86) (1) dX9_findYear_86 rfl (by decide) (by decide) ?_
          refine v_goto (pc := 89) 9 dX9_findYear_89 (by decide) ?_
          first | exact v_lv (ih (S + 1) ((S : Int) + 1) best bs (by omega) (by omega) hb (hr.2 (fun t => by first | exact hf t.2 | omega))) ⟨rfl, rfl, rfl, trivial⟩ | (rw [u46]; exact v_lv (ih (S + 1) ((S : Int) + 1) _ S (by omega) (by omega) (by omega) (hr.1 ⟨by show best < _; omega, hf⟩)) ⟨rfl, rfl, rfl, trivial⟩)
        · refine ⟨_, rfl, ?_⟩
          refine v_if_ne (pc := 73) 79 dX9_findYear_73 (by decide) (by omega) (fun h73 => ?_) (fun h73 => by exfalso; omega)
          refine v_iload_n (pc := 79) dX9_findYear_79 rfl ?_
          refine v_istore_n (pc := 80) dX9_findYear_80 (by decide) ?_
          refine v_aload_n (pc := 81) dX9_findYear_81 rfl ?_
          refine v_iload_n (pc := 82) dX9_findYear_82 rfl ?_
          refine v_pI (pc := 83) dX9_findYear_83 fl_X9_264 rfl ?_
          refine v_iinc (pc := 86) (1) dX9_findYear_86 rfl (by decide) (by decide) ?_
          refine v_goto (pc := 89) 9 dX9_findYear_89 (by decide) ?_
          first | exact v_lv (ih (S + 1) ((S : Int) + 1) best bs (by omega) (by omega) hb (hr.2 (fun t => by first | exact hf t.2 | omega))) ⟨rfl, rfl, rfl, trivial⟩ | (rw [u46]; exact v_lv (ih (S + 1) ((S : Int) + 1) _ S (by omega) (by omega) (by omega) (hr.1 ⟨by show best < _; omega, hf⟩)) ⟨rfl, rfl, rfl, trivial⟩)
    · show some (vi x) = some (vi S)
      rw [hx]
set_option maxHeartbeats 4000000 in
set_option maxRecDepth 100000 in
theorem c_X9_findYear {g : vGl} {d : Nat} {Q : Option Value → List mC → Prop} {σ : vSt} (hd : 1 ≤ d) (hY : MY σ) {r : Int × Int} (hr : qYr (σ 63) (σ 64) (σ 65) (σ 66) (σ 38 45).toNat (2 ^ (σ 38 45).toNat - 1) 1 (0, 0) r) (hQ : Q (some (vi r.1)) (hp (vU σ 38 46 r.2))) : V g mX9_findYear d (0, 0, 0, 0) Q 0 [(0, .ref 38)] [] (hp σ) := by
  refine v_iconst (pc := 0) (0) dX9_findYear_0 (by decide) ?_
  refine v_istore_n (pc := 1) dX9_findYear_1 (by decide) ?_
  refine v_aload_n (pc := 2) dX9_findYear_2 rfl ?_
  refine v_iconst (pc := 3) (0) dX9_findYear_3 (by decide) ?_
  refine v_pI (pc := 4) dX9_findYear_4 fl_X9_264 rfl ?_
  refine v_iconst (pc := 7) (1) dX9_findYear_7 (by decide) ?_
  refine v_istore_n (pc := 8) dX9_findYear_8 (by decide) ?_
  have pw : 0 < 2 ^ (σ 38 45).toNat := Nat.pow_pos (by omega)
  exact v_lv (l_X9_findYear1 hd hY hQ (2 ^ (σ 38 45).toNat - 1) 1 1 0 0 rfl (by omega) (by omega) hr) ⟨rfl, rfl, rfl, trivial⟩
set_option maxHeartbeats 4000000 in
set_option maxRecDepth 100000 in
theorem c_X9_year {g : vGl} {d : Nat} {Q : Option Value → List mC → Prop} {σ : vSt} (hd : 2 ≤ d) (hY : MY σ) {r : Int × Int} (hr : qYr (σ 63) (σ 64) (σ 65) (σ 66) (σ 38 45).toNat (2 ^ (σ 38 45).toNat - 1) 1 (0, 0) r) (hQ : Q (some (vi r.1)) (hp (vU σ 38 46 r.2))) : V g mX9_year d (0, 0, 0, 0) Q 0 [(0, .ref 38)] [] (hp σ) := by
  refine v_aload_n (pc := 0) dX9_year_0 rfl ?_
  refine v_cVi0 (pc := 1) (z := 0) (d' := d - 1) dX9_year_1 kX9_findYear ml_X9_270 iwX9_findYear swX9_findYear rfl rfl (Nat.le_of_ble_eq_true rfl) (Nat.le_of_ble_eq_true rfl) (by omega) ⟨Nat.le_refl _, Nat.le_refl _⟩ ?_
  refine c_X9_findYear (by omega) hY hr ?_
  refine ⟨_, rfl, ?_⟩
  refine v_ireturn (pc := 4) dX9_year_4 rfl rfl ⟨Nat.le_refl _, Nat.le_refl _⟩ ?_
  exact hQ
set_option maxHeartbeats 4000000 in
set_option maxRecDepth 100000 in
theorem c_X9_flights {g : vGl} {d : Nat} {Q : Option Value → List mC → Prop} {σ : vSt} (hd : 2 ≤ d) (hY : MY σ) {r : Int × Int} (hr : qYr (σ 63) (σ 64) (σ 65) (σ 66) (σ 38 45).toNat (2 ^ (σ 38 45).toNat - 1) 1 (0, 0) r) (hQ : Q (some (vi r.2)) (hp (vU σ 38 46 r.2))) : V g mX9_flights d (0, 0, 0, 0) Q 0 [(0, .ref 38)] [] (hp σ) := by
  refine v_aload_n (pc := 0) dX9_flights_0 rfl ?_
  refine v_cVi0 (pc := 1) (z := 0) (d' := d - 1) dX9_flights_1 kX9_findYear ml_X9_270 iwX9_findYear swX9_findYear rfl rfl (Nat.le_of_ble_eq_true rfl) (Nat.le_of_ble_eq_true rfl) (by omega) ⟨Nat.le_refl _, Nat.le_refl _⟩ ?_
  refine c_X9_findYear (by omega) hY hr ?_
  refine ⟨_, rfl, ?_⟩
  refine v_istore_n (pc := 4) dX9_flights_4 (by decide) ?_
  refine v_aload_n (pc := 5) dX9_flights_5 rfl ?_
  refine v_gIv (pc := 6) (r.2) dX9_flights_6 fl_X9_264 rfl rfl ?_
  refine v_ireturn (pc := 9) dX9_flights_9 rfl rfl ⟨Nat.le_refl _, Nat.le_refl _⟩ ?_
  exact hQ
