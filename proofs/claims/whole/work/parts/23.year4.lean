/-! plain: the class' best set is the reference's -/
def fW (nd en : Nat → Int) (X e m f : Nat) : Int := if X.testBit f = true ∧ en f ≤ m then nd (f * 3 + e) else 0
theorem bit0 (f : Nat) : ¬ (0 : Nat).testBit f = true := by rw [Nat.zero_testBit]; decide
section YEARB
variable {nd en wo bd up dl : Nat → Int} {n : Nat}
theorem use_all (hen : ∀ j, 0 ≤ en j ∧ en j ≤ 11) (X e m f : Nat) : qSum (fun i => qUse nd en X e i f) (m + 1) 0 = fW nd en X e m f := by
  have h := hen f
  unfold fW
  by_cases hb : X.testBit f = true
  · have hb2 := (qBit_eq X f).mpr hb
    have e1 : qSum (fun i => qUse nd en X e i f) (m + 1) 0 = qSum (fun i => if i = (en f).toNat then (fun _ => nd (f * 3 + e)) i else 0) (m + 1) 0 := by
      refine qSum_cong (m + 1) 0 (fun i _ _ => ?_)
      show qUse nd en X e i f = _
      unfold qUse
      by_cases q : i = (en f).toNat
      · rw [if_pos q, if_pos ⟨hb2, by omega⟩, Nat.mul_comm]
      · rw [if_neg q, if_neg (fun t => q (by omega))]
    rw [e1, qSum_one (p := fun i => i = (en f).toNat) (c := fun _ => nd (f * 3 + e)) (b := (en f).toNat) (fun i => Iff.rfl)]
    by_cases q : en f ≤ m
    · rw [if_pos (by omega), if_pos ⟨hb, q⟩]
    · rw [if_neg (by omega), if_neg (fun t => q t.2)]
  · have hb2 : ¬ qBit X f = 1 := fun t => hb ((qBit_eq X f).mp t)
    rw [if_neg (fun t => hb t.1)]
    have e1 : qSum (fun i => qUse nd en X e i f) (m + 1) 0 = qSum (fun _ => 0) (m + 1) 0 := by
      refine qSum_cong (m + 1) 0 (fun i _ _ => ?_)
      show qUse nd en X e i f = _
      unfold qUse
      rw [if_neg (fun t => hb2 t.1)]
    rw [e1, qSum_nil]
theorem upTo_eq (dl : Nat → Int) {e m : Nat} (hm : m < 12) : qUpTo dl (12 * e + m) = qSum (fun j => dl (12 * e + j)) (m + 1) 0 := by
  unfold qUpTo
  rw [qSum_shift, show (12 * e + m) % 12 = m by omega, show 12 * e + m - m = 12 * e + 0 by omega]
theorem net_eq (hen : ∀ j, 0 ≤ en j ∧ en j ≤ 11) (hb1 : ∀ i, i < n → (bd i).toNat < n) (hb2 : ∀ i j, i < j → j < n → (bd i).toNat ≠ (bd j).toNat) (X e m : Nat) (hm : m < 12) : qSum (qNet nd en dl n X e) (m + 1) 0 = qUpTo dl (12 * e + m) - qSum (fun i => fW nd en X e m (bd i).toNat) n 0 := by
  have e1 : qSum (qNet nd en dl n X e) (m + 1) 0 = qSum (fun j => dl (12 * e + j) - qSum (qUse nd en X e j) n 0) (m + 1) 0 := rfl
  rw [e1, qSum_sub, upTo_eq dl hm, qSum_swap (fun j f => qUse nd en X e j f) n (m + 1), qSum_perm hb1 hb2 (fW nd en X e m)]
  congr 1
  exact qSum_cong n 0 (fun f _ _ => use_all hen X e m f)
theorem fW_nn (hnd : ∀ j, 0 ≤ nd j) (X e m f : Nat) : 0 ≤ fW nd en X e m f := by
  have := hnd (f * 3 + e)
  unfold fW
  split <;> omega
theorem pre_eq (hso : ∀ i j, i < j → j < n → en (bd i).toNat ≤ en (bd j).toNat) {X e m k : Nat} (hk : k < n) (hm : en (bd k).toNat ≤ m) : qSum (fun i => fW nd en X e m (bd i).toNat) (k + 1) 0 = pS (pN nd e) bd X (k + 1) := by
  unfold pS
  refine qSum_cong (k + 1) 0 (fun i _ hi => ?_)
  have h : en (bd i).toNat ≤ en (bd k).toNat := by
    rcases (show i < k ∨ i = k by omega) with q | rfl
    · exact hso i k q hk
    · exact Int.le_refl _
  show fW nd en X e m (bd i).toNat = if X.testBit (bd i).toNat = true then pN nd e (bd i).toNat else 0
  unfold fW pN
  by_cases q : X.testBit (bd i).toNat = true
  · rw [if_pos ⟨q, by omega⟩, if_pos q]
  · rw [if_neg (fun t => q t.1), if_neg q]
theorem CF_iff (hnd : ∀ j, 0 ≤ nd j) (hen : ∀ j, 0 ≤ en j ∧ en j ≤ 11) (hdl : ∀ j, 0 ≤ dl j) (hup : ∀ i, i < 36 → up i = qUpTo dl i) (hb1 : ∀ i, i < n → (bd i).toNat < n) (hb2 : ∀ i j, i < j → j < n → (bd i).toNat ≠ (bd j).toNat) (hso : ∀ i j, i < j → j < n → en (bd i).toNat ≤ en (bd j).toNat) (X : Nat) : CF nd en bd up X n ↔ qFeas nd en dl n X := by
  have upm : ∀ (e a b : Nat), a ≤ b → b < 12 → qUpTo dl (12 * e + a) ≤ qUpTo dl (12 * e + b) := fun e a b hab hb => by
    rw [upTo_eq dl (by omega), upTo_eq dl hb]
    exact qSum_mono (fun i => hdl _) (by omega)
  have up0 : ∀ (e a : Nat), a < 12 → 0 ≤ qUpTo dl (12 * e + a) := fun e a ha => by
    rw [upTo_eq dl ha]
    have := qSum_mono (f := fun j => dl (12 * e + j)) (fun i => hdl _) (Nat.zero_le (a + 1))
    exact this
  constructor
  · intro h e he m hm
    rw [net_eq hen hb1 hb2 X e m hm]
    have key : ∀ k, k ≤ n → qSum (fun i => fW nd en X e m (bd i).toNat) k 0 ≤ qUpTo dl (12 * e + m) := by
      intro k
      induction k with
      | zero => intro _; exact up0 e m hm
      | succ k ih =>
        intro hk
        by_cases q : X.testBit (bd k).toNat = true ∧ en (bd k).toNat ≤ m
        · rw [pre_eq hso (by omega) q.2]
          have c := h k (by omega) q.1
          have b := hen (bd k).toNat
          have u := upm e (en (bd k).toNat).toNat m (by omega) hm
          rcases (show e = 0 ∨ e = 1 ∨ e = 2 by omega) with rfl | rfl | rfl
          · rw [hup _ (by omega)] at c
            rw [show 12 * 0 + (en (bd k).toNat).toNat = (en (bd k).toNat).toNat by omega] at u
            omega
          · rw [hup (12 + _) (by omega)] at c
            rw [show 12 * 1 + (en (bd k).toNat).toNat = 12 + (en (bd k).toNat).toNat by omega] at u
            omega
          · rw [hup (24 + _) (by omega)] at c
            rw [show 12 * 2 + (en (bd k).toNat).toNat = 24 + (en (bd k).toNat).toNat by omega] at u
            omega
        · have z : fW nd en X e m (bd k).toNat = 0 := by unfold fW; rw [if_neg q]
          have := ih (by omega)
          rw [qSum_snoc, Nat.zero_add]
          omega
    have := key n (Nat.le_refl n)
    omega
  · intro h i hi hbit
    have b := hen (bd i).toNat
    have one : ∀ e, e < 3 → pS (pN nd e) bd X (i + 1) ≤ up (12 * e + (en (bd i).toNat).toNat) := by
      intro e he
      have c := h e he (en (bd i).toNat).toNat (by omega)
      rw [net_eq hen hb1 hb2 X e _ (by omega)] at c
      rw [hup _ (by omega), ← pre_eq (nd := nd) (X := X) (e := e) (m := (en (bd i).toNat).toNat) hso hi (by omega)]
      have := qSum_mono (f := fun i' => fW nd en X e (en (bd i).toNat).toNat (bd i').toNat) (fun j => fW_nn hnd X e _ _) (show i + 1 ≤ n by omega)
      omega
    have a0 := one 0 (by omega)
    rw [show 12 * 0 + (en (bd i).toNat).toNat = (en (bd i).toNat).toNat by omega] at a0
    exact ⟨a0, one 1 (by omega), one 2 (by omega)⟩
theorem worth_eq (hb1 : ∀ i, i < n → (bd i).toNat < n) (hb2 : ∀ i j, i < j → j < n → (bd i).toNat ≠ (bd j).toNat) (X : Nat) : pS wo bd X n = qSum (qWorth wo X) n 0 := by
  have e1 : pS wo bd X n = qSum (fun i => qWorth wo X (bd i).toNat) n 0 := by
    unfold pS
    refine qSum_cong n 0 (fun i _ _ => ?_)
    show _ = qWorth wo X (bd i).toNat
    unfold qWorth
    by_cases q : X.testBit (bd i).toNat = true
    · rw [if_pos q, if_pos ((qBit_eq _ _).mpr q)]
    · rw [if_neg q, if_neg (fun t => q ((qBit_eq _ _).mp t))]
  rw [e1, qSum_perm hb1 hb2 (qWorth wo X)]
theorem qYr_best {r : Int × Int} (hr : ∃ X : Nat, r.2 = X ∧ X < 2 ^ n ∧ r.1 = qSum (qWorth wo X) n 0 ∧ qFeas nd en dl n X) (hbest : ∀ Y : Nat, Y < 2 ^ n → qFeas nd en dl n Y → gE r (qSum (qWorth wo Y) n 0, Y)) : ∀ (k S : Nat) (p : Int × Int), S + k = 2 ^ n → (∃ P : Nat, p.2 = P ∧ P < S ∧ p.1 = qSum (qWorth wo P) n 0 ∧ qFeas nd en dl n P) → (∀ Y : Nat, Y < S → qFeas nd en dl n Y → gE p (qSum (qWorth wo Y) n 0, Y)) → qYr nd en wo dl n k S p r := by
  intro k
  induction k with
  | zero =>
    intro S p hS hp hb
    obtain ⟨P, a1, a2, a3, a4⟩ := hp
    obtain ⟨X, b1, b2, b3, b4⟩ := hr
    have c1 := hb X (by omega) b4
    have c2 := hbest P (by omega) a4
    rw [← b3, ← b1] at c1
    rw [← a3, ← a1] at c2
    show r = p
    obtain ⟨p1, p2⟩ := p
    obtain ⟨r1, r2⟩ := r
    have c1' : r1 < p1 ∨ (r1 = p1 ∧ p2 ≤ r2) := c1
    have c2' : p1 < r1 ∨ (p1 = r1 ∧ r2 ≤ p2) := c2
    obtain ⟨rfl, rfl⟩ : r1 = p1 ∧ r2 = p2 := by omega
    rfl
  | succ k ih =>
    intro S p hS hp hb
    refine ⟨fun h => ?_, fun h => ?_⟩
    · refine ih (S + 1) _ (by omega) ⟨S, rfl, by omega, rfl, h.2⟩ (fun Y hY hf => ?_)
      rcases (show Y < S ∨ Y = S by omega) with q | rfl
      · have c := hb Y q hf
        have c' : qSum (qWorth wo Y) n 0 < p.1 ∨ (qSum (qWorth wo Y) n 0 = p.1 ∧ p.2 ≤ Y) := c
        have := h.1
        refine Or.inl ?_
        show qSum (qWorth wo Y) n 0 < qSum (qWorth wo S) n 0
        omega
      · exact gE.rf _
    · obtain ⟨P, a1, a2, a3, a4⟩ := hp
      refine ih (S + 1) _ (by omega) ⟨P, a1, by omega, a3, a4⟩ (fun Y hY hf => ?_)
      rcases (show Y < S ∨ Y = S by omega) with q | rfl
      · exact hb Y q hf
      · have : ¬ p.1 < qSum (qWorth wo Y) n 0 := fun t => h ⟨t, hf⟩
        show qSum (qWorth wo Y) n 0 < p.1 ∨ (qSum (qWorth wo Y) n 0 = p.1 ∧ p.2 ≤ Y)
        omega
theorem qYr_qCh (hnd : ∀ j, 0 ≤ nd j) (hen : ∀ j, 0 ≤ en j ∧ en j ≤ 11) (hdl : ∀ j, 0 ≤ dl j) (hup : ∀ i, i < 36 → up i = qUpTo dl i) (hb1 : ∀ i, i < n → (bd i).toNat < n) (hb2 : ∀ i j, i < j → j < n → (bd i).toNat ≠ (bd j).toNat) (hso : ∀ i j, i < j → j < n → en (bd i).toNat ≤ en (bd j).toNat) : qYr nd en wo dl n (2 ^ n - 1) 1 (0, 0) (qCh nd en wo bd up n 0 0 0 0 0 0 (0, 0)) := by
  have iff := CF_iff hnd hen hdl hup hb1 hb2 hso
  have w0 : qSum (qWorth wo 0) n 0 = 0 := by
    rw [← worth_eq hb1 hb2 0]
    unfold pS
    rw [qSum_cong (g := fun _ => 0) n 0 (fun i _ _ => if_neg (bit0 _)), qSum_nil]
  have c0 : CF nd en bd up 0 n := fun i _ h => absurd h (bit0 _)
  have pos : 0 < 2 ^ n := Nat.pow_pos (by omega)
  have hg : gR nd en wo bd up n (0, 0) := ⟨0, rfl, pos, by rw [worth_eq hb1 hb2 0, w0], c0⟩
  have good := qCh_good (nd := nd) (en := en) (wo := wo) (bd := bd) (up := up) (n := n) hb1 hb2 n 0 0 0 0 0 0 (0, 0) (by omega) pos (fun f h => absurd h (bit0 _)) rfl rfl rfl rfl (fun i hi => absurd hi (by omega)) hg
  refine qYr_best ?_ ?_ (2 ^ n - 1) 1 (0, 0) (by omega) ⟨0, rfl, by omega, w0.symm, (iff 0).mp c0⟩ ?_
  · obtain ⟨X, a1, a2, a3, a4⟩ := good
    exact ⟨X, a1, a2, by rw [a3, worth_eq hb1 hb2], (iff X).mp a4⟩
  · intro Y hY hf
    have := qCh_best (nd := nd) (en := en) (wo := wo) (bd := bd) (up := up) hb1 hb2 hY ((iff Y).mpr hf) n 0 0 0 0 0 0 (0, 0) (by omega) (fun f => ⟨fun h => absurd h (bit0 _), fun ⟨_, i, hi, _⟩ => absurd hi (by omega)⟩) rfl rfl rfl rfl
    rw [worth_eq hb1 hb2] at this
    exact this
  · intro Y hY hf
    obtain rfl : Y = 0 := by omega
    rw [w0]
    exact gE.rf _
end YEARB
