theorem fb_holes : ∀ (m n : Nat) (f : Nat → Nat), (∀ i, i < n → f i < m) → (∀ i j, i < j → j < n → f i ≠ f j) → n ≤ m := by
  intro m
  induction m with
  | zero =>
    intro n f h1 _
    rcases Nat.eq_zero_or_pos n with h | h
    · omega
    · exact absurd (h1 0 h) (Nat.not_lt_zero _)
  | succ m ih =>
    intro n f h1 h2
    by_cases hx : ∃ i, i < n ∧ f i = m
    · obtain ⟨a, ha, hfa⟩ := hx
      have hg := ih (n - 1) (fun i => if i < a then f i else f (i + 1)) (by
        intro i hi
        by_cases q : i < a
        · simp only [if_pos q]
          have b1 := h1 i (by omega)
          have b2 := h2 i a q ha
          omega
        · simp only [if_neg q]
          have b1 := h1 (i + 1) (by omega)
          have b2 := h2 a (i + 1) (by omega) (by omega)
          omega) (by
        intro i j hij hj
        by_cases q : i < a
        · by_cases r : j < a
          · simp only [if_pos q, if_pos r]
            exact h2 i j hij (by omega)
          · simp only [if_pos q, if_neg r]
            exact h2 i (j + 1) (by omega) (by omega)
        · have r : ¬ j < a := by omega
          simp only [if_neg q, if_neg r]
          exact h2 (i + 1) (j + 1) (by omega) (by omega))
      omega
    · have hg := ih n f (fun i hi => by
        have b1 := h1 i hi
        have b2 : f i ≠ m := fun e => hx ⟨i, hi, e⟩
        omega) h2
      omega
/-- two of them in one place -/
theorem fb_twice {m n : Nat} {f : Nat → Nat} (h : ∀ i, i < n → f i < m) (hm : m < n) : ∃ i j, i < j ∧ j < n ∧ f i = f j := by
  refine Classical.byContradiction fun hx => ?_
  have := fb_holes m n f h (fun i j hij hj e => hx ⟨i, j, hij, hj, e⟩)
  omega
/-- as many as places, none twice: each place is taken -/
theorem fb_onto {n : Nat} {f : Nat → Nat} (h : ∀ i, i < n → f i < n) (h2 : ∀ i j, i < j → j < n → f i ≠ f j) {y : Nat} (hy : y < n) : ∃ i, i < n ∧ f i = y := by
  refine Classical.byContradiction fun hx => ?_
  have hne : ∀ i, i < n → f i ≠ y := fun i hi e => hx ⟨i, hi, e⟩
  have := fb_holes (n - 1) n (fun i => if f i < y then f i else f i - 1) (by
    intro i hi
    have b1 := h i hi
    have b2 := hne i hi
    by_cases q : f i < y
    · simp only [if_pos q]; omega
    · simp only [if_neg q]; omega) (by
    intro i j hij hj
    have b1 := hne i (by omega)
    have b2 := hne j hj
    have b3 := h2 i j hij hj
    by_cases q : f i < y
    · by_cases r : f j < y
      · simp only [if_pos q, if_pos r]; exact b3
      · simp only [if_pos q, if_neg r]; omega
    · by_cases r : f j < y
      · simp only [if_neg q, if_pos r]; omega
      · simp only [if_neg q, if_neg r]; omega)
  omega
/-! plain: the class' search of a year finds what the reference's finds -/
theorem qSum_cong {f g : Nat → Int} : ∀ (n j : Nat), (∀ i, j ≤ i → i < j + n → f i = g i) → qSum f n j = qSum g n j := by
  intro n
  induction n with
  | zero => intro j _; rfl
  | succ n ih =>
    intro j h
    show f j + qSum f n (j + 1) = g j + qSum g n (j + 1)
    rw [h j (by omega) (by omega), ih (j + 1) (fun i h1 h2 => h i (by omega) (by omega))]
theorem qSum_add (f g : Nat → Int) : ∀ (n j : Nat), qSum (fun i => f i + g i) n j = qSum f n j + qSum g n j := by
  intro n
  induction n with
  | zero => intro j; rfl
  | succ n ih =>
    intro j
    show f j + g j + qSum (fun i => f i + g i) n (j + 1) = f j + qSum f n (j + 1) + (g j + qSum g n (j + 1))
    rw [ih]
    omega
theorem qSum_sub (f g : Nat → Int) : ∀ (n j : Nat), qSum (fun i => f i - g i) n j = qSum f n j - qSum g n j := by
  intro n
  induction n with
  | zero => intro j; rfl
  | succ n ih =>
    intro j
    show f j - g j + qSum (fun i => f i - g i) n (j + 1) = f j + qSum f n (j + 1) - (g j + qSum g n (j + 1))
    rw [ih]
    omega
theorem qSum_shift (f : Nat → Int) (c : Nat) : ∀ (n j : Nat), qSum (fun i => f (c + i)) n j = qSum f n (c + j) := by
  intro n
  induction n with
  | zero => intro j; rfl
  | succ n ih =>
    intro j
    show f (c + j) + qSum (fun i => f (c + i)) n (j + 1) = f (c + j) + qSum f n (c + j + 1)
    rw [ih]
    rfl
theorem qSum_nil : ∀ (n j : Nat), qSum (fun _ => 0) n j = 0 := by
  intro n
  induction n with
  | zero => intro j; rfl
  | succ n ih =>
    intro j
    show 0 + qSum (fun _ => 0) n (j + 1) = 0
    rw [ih]
    rfl
theorem qSum_swap (F : Nat → Nat → Int) (m : Nat) : ∀ (n : Nat), qSum (fun i => qSum (F i) m 0) n 0 = qSum (fun f => qSum (fun i => F i f) n 0) m 0 := by
  intro n
  induction n with
  | zero => show (0 : Int) = qSum (fun _ => 0) m 0; rw [qSum_nil]
  | succ n ih =>
    rw [qSum_snoc, ih, Nat.zero_add, ← qSum_add]
    exact qSum_cong m 0 (fun f _ _ => by rw [qSum_snoc, Nat.zero_add])
theorem qSum_one {p : Nat → Prop} [DecidablePred p] {c : Nat → Int} {b : Nat} (hp : ∀ i, p i ↔ i = b) : ∀ n : Nat, qSum (fun i => if p i then c i else 0) n 0 = if b < n then c b else 0 := by
  intro n
  induction n with
  | zero => rw [if_neg (by omega)]; rfl
  | succ n ih =>
    rw [qSum_snoc, ih, Nat.zero_add]
    by_cases h : n = b
    · rw [if_pos ((hp n).mpr h), if_neg (by omega), if_pos (by omega), h]; omega
    · rw [if_neg (fun q => h ((hp n).mp q))]
      by_cases h2 : b < n
      · rw [if_pos h2, if_pos (by omega)]; omega
      · rw [if_neg h2, if_neg (by omega)]; rfl
/-- a sum over places put in another order -/
theorem qSum_perm {b : Nat → Nat} {n : Nat} (h1 : ∀ i, i < n → b i < n) (h2 : ∀ i j, i < j → j < n → b i ≠ b j) (g : Nat → Int) : qSum (fun i => g (b i)) n 0 = qSum g n 0 := by
  have e1 : qSum (fun i => g (b i)) n 0 = qSum (fun i => qSum (fun f => if f = b i then g f else 0) n 0) n 0 := by
    refine qSum_cong n 0 (fun i _ hi => ?_)
    rw [qSum_one (p := fun f => f = b i) (c := g) (b := b i) (fun f => Iff.rfl), if_pos (h1 i (by omega))]
  rw [e1, qSum_swap]
  refine qSum_cong n 0 (fun f _ hf => ?_)
  obtain ⟨i0, hi0, hb⟩ := fb_onto h1 h2 (show f < n by omega)
  have e2 : qSum (fun i => if f = b i then g f else 0) n 0 = qSum (fun i => if i = i0 then (fun _ => g f) i else 0) n 0 := by
    refine qSum_cong n 0 (fun i _ hi => ?_)
    by_cases h : i = i0
    · rw [if_pos (by rw [h, hb]), if_pos h]
    · rw [if_neg h, if_neg]
      intro q
      rcases Nat.lt_or_gt_of_ne h with hl | hl
      · exact h2 i i0 hl hi0 (by rw [← q, hb])
      · exact h2 i0 i hl (by omega) (by rw [← q, hb])
  rw [e2, qSum_one (p := fun i => i = i0) (c := fun _ => g f) (b := i0) (fun i => Iff.rfl), if_pos hi0]
theorem qSum_mono {f : Nat → Int} (h : ∀ i, 0 ≤ f i) {m n : Nat} (hm : m ≤ n) : qSum f m 0 ≤ qSum f n 0 := by
  obtain ⟨k, rfl⟩ : ∃ k, n = m + k := ⟨n - m, by omega⟩
  induction k with
  | zero => exact Int.le_refl _
  | succ k ih =>
    have := ih (by omega)
    have := h (m + k)
    rw [show m + (k + 1) = m + k + 1 by omega, qSum_snoc, Nat.zero_add]
    omega
theorem qBit_eq (S f : Nat) : qBit S f = 1 ↔ S.testBit f = true := by
  have e : qBit S f = ((S / 2 ^ f % 2 : Nat) : Int) := by
    unfold qBit
    rw [Int.natCast_emod, Int.natCast_ediv]
    rfl
  rw [e, Nat.testBit_eq_decide_div_mod_eq, decide_eq_true_iff]
  omega
def pS (g bd : Nat → Int) (X k : Nat) : Int := qSum (fun i => if X.testBit (bd i).toNat = true then g (bd i).toNat else 0) k 0
theorem pS_s (g bd : Nat → Int) (X k : Nat) : pS g bd X (k + 1) = pS g bd X k + (if X.testBit (bd k).toNat = true then g (bd k).toNat else 0) := by
  unfold pS
  rw [qSum_snoc, Nat.zero_add]
theorem pS_cong {g bd : Nat → Int} {X Y k : Nat} (h : ∀ i, i < k → X.testBit (bd i).toNat = Y.testBit (bd i).toNat) : pS g bd X k = pS g bd Y k := by
  unfold pS
  exact qSum_cong k 0 (fun i _ hi => by rw [h i (by omega)])
def pN (nd : Nat → Int) (e : Nat) : Nat → Int := fun f => nd (f * 3 + e)
/-- the class' way to see that a set can fly -/
def CF (nd en bd up : Nat → Int) (X k : Nat) : Prop := ∀ i, i < k → X.testBit (bd i).toNat = true → pS (pN nd 0) bd X (i + 1) ≤ up (en (bd i).toNat).toNat ∧ pS (pN nd 1) bd X (i + 1) ≤ up (12 + (en (bd i).toNat).toNat) ∧ pS (pN nd 2) bd X (i + 1) ≤ up (24 + (en (bd i).toNat).toNat)
def gE (r q : Int × Int) : Prop := q.1 < r.1 ∨ (q.1 = r.1 ∧ r.2 ≤ q.2)
theorem gE.tr {a b c : Int × Int} (h : gE a b) (h2 : gE b c) : gE a c := by unfold gE at *; omega
theorem gE.rf (a : Int × Int) : gE a a := Or.inr ⟨rfl, Int.le_refl _⟩
theorem qOffer_p (w s : Int) (p : Int × Int) : gE (qOffer w s p) p ∧ gE (qOffer w s p) (w, s) := by
  unfold qOffer
  split
  · rename_i h
    refine ⟨?_, gE.rf _⟩
    show p.1 < w ∨ (p.1 = w ∧ s ≤ p.2)
    omega
  · rename_i h
    refine ⟨gE.rf _, ?_⟩
    show w < p.1 ∨ (w = p.1 ∧ p.2 ≤ s)
    omega
def gR (nd en wo bd up : Nat → Int) (n : Nat) (r : Int × Int) : Prop := ∃ X : Nat, r.2 = X ∧ X < 2 ^ n ∧ r.1 = pS wo bd X n ∧ CF nd en bd up X n
section YEAR
variable {nd en wo bd up : Nat → Int} {n : Nat}
theorem qCh_mono : ∀ (m k : Nat) (a b c w : Int) (S : Nat) (p : Int × Int), gE (qCh nd en wo bd up m k a b c w S p) p := by
  intro m
  induction m with
  | zero => intro k a b c w S p; exact (qOffer_p w S p).1
  | succ m ih =>
    intro k a b c w S p
    show gE (if _ then _ else _) p
    split
    · exact (ih _ _ _ _ _ _ _).tr (ih _ _ _ _ _ _ _)
    · exact ih _ _ _ _ _ _ _
theorem qCh_good (hb1 : ∀ i, i < n → (bd i).toNat < n) (hb2 : ∀ i j, i < j → j < n → (bd i).toNat ≠ (bd j).toNat) : ∀ (m k : Nat) (a b c w : Int) (S : Nat) (p : Int × Int), k + m = n → S < 2 ^ n → (∀ f, S.testBit f = true → ∃ i, i < k ∧ (bd i).toNat = f) → a = pS (pN nd 0) bd S k → b = pS (pN nd 1) bd S k → c = pS (pN nd 2) bd S k → w = pS wo bd S k → CF nd en bd up S k → gR nd en wo bd up n p → gR nd en wo bd up n (qCh nd en wo bd up m k a b c w S p) := by
  intro m
  induction m with
  | zero =>
    intro k a b c w S p hk hS hf ha hb hc hw hC hp
    obtain rfl : k = n := by omega
    show gR nd en wo bd up k (qOffer w S p)
    unfold qOffer
    split
    · exact ⟨S, rfl, hS, hw, hC⟩
    · exact hp
  | succ m ih =>
    intro k a b c w S p hk hS hf ha hb hc hw hC hp
    have hbit : S.testBit (bd k).toNat = false := by
      cases h : S.testBit (bd k).toNat with
      | false => rfl
      | true =>
        obtain ⟨i, hi, e⟩ := hf _ h
        exact absurd e (hb2 i k hi (by omega))
    have keep : ∀ g : Nat → Int, pS g bd S k = pS g bd S (k + 1) := fun g => by rw [pS_s, hbit, if_neg (by decide), Int.add_zero]
    have r1 := ih (k + 1) a b c w S p (by omega) hS (fun f h => by obtain ⟨i, hi, e⟩ := hf f h; exact ⟨i, by omega, e⟩) (ha.trans (keep _)) (hb.trans (keep _)) (hc.trans (keep _)) (hw.trans (keep _)) (fun i hi h => by
      by_cases q : i = k
      · rw [q, hbit] at h; cases h
      · exact hC i (by omega) h) hp
    show gR nd en wo bd up n (if _ then _ else _)
    split
    · rename_i hcd
      have hor : ∀ f, (S ||| 2 ^ (bd k).toNat).testBit f = (S.testBit f || decide ((bd k).toNat = f)) := fun f => by rw [Nat.testBit_or, Nat.testBit_two_pow]
      have old : ∀ (i : Nat), i ≤ k → ∀ g : Nat → Int, pS g bd (S ||| 2 ^ (bd k).toNat) i = pS g bd S i := fun i hi g => pS_cong (fun q hq => by
        rw [hor, show decide ((bd k).toNat = (bd q).toNat) = false from decide_eq_false (fun e => hb2 q k (by omega) (by omega) e.symm), Bool.or_false])
      have new : ∀ g : Nat → Int, pS g bd S k + g (bd k).toNat = pS g bd (S ||| 2 ^ (bd k).toNat) (k + 1) := fun g => by
        rw [pS_s, old k (Nat.le_refl k), hor, show decide ((bd k).toNat = (bd k).toNat) = true from decide_eq_true rfl, Bool.or_true, if_pos rfl]
      refine ih (k + 1) _ _ _ _ _ _ (by omega) (Nat.or_lt_two_pow hS (Nat.pow_lt_pow_right (by omega) (hb1 k (by omega)))) (fun f h => ?_) (by rw [ha]; exact new (pN nd 0)) (by rw [hb]; exact new (pN nd 1)) (by rw [hc]; exact new (pN nd 2)) (by rw [hw]; exact new wo) (fun i hi h => ?_) r1
      · rw [hor, Bool.or_eq_true, decide_eq_true_iff] at h
        rcases h with h | h
        · obtain ⟨i, hi, e⟩ := hf f h
          exact ⟨i, by omega, e⟩
        · exact ⟨k, by omega, h⟩
      · by_cases q : i = k
        · subst q
          rw [← new (pN nd 0), ← new (pN nd 1), ← new (pN nd 2), ← ha, ← hb, ← hc]
          exact hcd
        · rw [old (i + 1) (by omega), old (i + 1) (by omega), old (i + 1) (by omega)]
          refine hC i (by omega) ?_
          rw [hor, show decide ((bd k).toNat = (bd i).toNat) = false from decide_eq_false (fun e => hb2 i k (by omega) (by omega) e.symm), Bool.or_false] at h
          exact h
    · exact r1
theorem qCh_best (hb1 : ∀ i, i < n → (bd i).toNat < n) (hb2 : ∀ i j, i < j → j < n → (bd i).toNat ≠ (bd j).toNat) {X : Nat} (hX : X < 2 ^ n) (hC : CF nd en bd up X n) : ∀ (m k : Nat) (a b c w : Int) (S : Nat) (p : Int × Int), k + m = n → (∀ f, S.testBit f = true ↔ (X.testBit f = true ∧ ∃ i, i < k ∧ (bd i).toNat = f)) → a = pS (pN nd 0) bd X k → b = pS (pN nd 1) bd X k → c = pS (pN nd 2) bd X k → w = pS wo bd X k → gE (qCh nd en wo bd up m k a b c w S p) (pS wo bd X n, X) := by
  intro m
  induction m with
  | zero =>
    intro k a b c w S p hk hf ha hb hc hw
    obtain rfl : k = n := by omega
    have e : S = X := by
      apply Nat.eq_of_testBit_eq
      intro f
      by_cases h : X.testBit f = true
      · have hfn : f < k := Nat.lt_of_not_le (fun q => by rw [Nat.testBit_lt_two_pow (Nat.lt_of_lt_of_le hX (Nat.pow_le_pow_right (by omega) q))] at h; cases h)
        obtain ⟨i, hi, e⟩ := fb_onto hb1 hb2 hfn
        rw [h]; exact (hf f).mpr ⟨h, i, hi, e⟩
      · cases h2 : S.testBit f with
        | false => exact (Bool.eq_false_iff.mpr h).symm
        | true => exact absurd ((hf f).mp h2).1 h
    rw [← hw, ← e]
    exact (qOffer_p w S p).2
  | succ m ih =>
    intro k a b c w S p hk hf ha hb hc hw
    by_cases h : X.testBit (bd k).toNat = true
    · have hc2 := hC k (by omega) h
      have new : ∀ g : Nat → Int, pS g bd X k + g (bd k).toNat = pS g bd X (k + 1) := fun g => by rw [pS_s, if_pos h]
      rw [← new (pN nd 0), ← new (pN nd 1), ← new (pN nd 2), ← ha, ← hb, ← hc] at hc2
      have hc3 : a + nd ((bd k).toNat * 3) ≤ up (en (bd k).toNat).toNat ∧ b + nd ((bd k).toNat * 3 + 1) ≤ up (12 + (en (bd k).toNat).toNat) ∧ c + nd ((bd k).toNat * 3 + 2) ≤ up (24 + (en (bd k).toNat).toNat) := hc2
      show gE (if _ then _ else _) _
      rw [if_pos hc3]
      refine ih (k + 1) _ _ _ _ _ _ (by omega) (fun f => ?_) (by rw [ha]; exact new (pN nd 0)) (by rw [hb]; exact new (pN nd 1)) (by rw [hc]; exact new (pN nd 2)) (by rw [hw]; exact new wo)
      rw [Nat.testBit_or, Nat.testBit_two_pow, Bool.or_eq_true, decide_eq_true_iff, hf f]
      constructor
      · rintro (⟨h1, i, hi, e⟩ | e)
        · exact ⟨h1, i, by omega, e⟩
        · exact ⟨by rw [← e]; exact h, k, by omega, e⟩
      · rintro ⟨h1, i, hi, e⟩
        rcases (show i < k ∨ i = k by omega) with q | rfl
        · exact Or.inl ⟨h1, i, q, e⟩
        · exact Or.inr e
    · have keep : ∀ g : Nat → Int, pS g bd X k = pS g bd X (k + 1) := fun g => by rw [pS_s, if_neg h, Int.add_zero]
      have r1 := ih (k + 1) a b c w S p (by omega) (fun f => by
        rw [hf f]
        constructor
        · rintro ⟨h1, i, hi, e⟩; exact ⟨h1, i, by omega, e⟩
        · rintro ⟨h1, i, hi, e⟩
          rcases (show i < k ∨ i = k by omega) with q | rfl
          · exact ⟨h1, i, q, e⟩
          · exact absurd (by rw [e]; exact h1) h) (ha.trans (keep _)) (hb.trans (keep _)) (hc.trans (keep _)) (hw.trans (keep _))
      show gE (if _ then _ else _) _
      split
      · exact (qCh_mono m _ _ _ _ _ _ _).tr r1
      · exact r1
end YEAR
