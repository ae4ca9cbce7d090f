/-! plain: the cheapest engines -/
def cWt (e : vSt) (o : Int) : Int := (o % 3 + 1) * e 6 (o / 3).toNat
def cPr (e : vSt) (o : Int) : Int := (o % 3 + 1) * e 7 (o / 3).toNat
def cSh (e : vSt) (k : Nat) : Int := e 14 k + qTank (e 2 1) (e 13 k)
def cMa (e : vSt) (k : Nat) (w : Nat → Int) : Int := e 2 0 + qSum (fun j => cWt e (w j) + cSh e j + e 13 j) (sN e - k) k
def cGa (e : vSt) (w : Nat → Int) (k : Nat) : Int := qLow (1000 * e 5 (w k / 3).toNat) (e 13 k).toNat (cMa e k w)
def cLo (e : vSt) (k : Nat) (w : Nat → Int) : Int := qSum (cGa e w) (sN e - k) k
def cCo (e : vSt) (k : Nat) (w : Nat → Int) : Int := qSum (fun j => cPr e (w j)) (sN e - k) k
def cLi1 (e : vSt) (u : Int) (w : Nat → Int) (k : Nat) : Prop := u ≤ 100 * e 4 (w k / 3).toNat * (w k % 3 + 1) / cMa e k w
def cLi (e : vSt) (u : Int) (k : Nat) (w : Nat → Int) : Prop := ∀ j, k ≤ j → j < sN e → cLi1 e u w j
def cOk (e : vSt) (k : Nat) (w : Nat → Int) : Prop := ∀ j, k ≤ j → j < sN e → 0 ≤ w j ∧ w j < 3 * e 3 6
def cBs (e : vSt) (k : Nat) : Int := e 2 0 + qSum (fun j => cSh e j + e 13 j) (sN e - k) k
section CHE
variable {e : vSt} {k : Nat} {w x y : Nat → Int} {u : Int}
theorem cMa_s (h : k < sN e) : cMa e k w = cMa e (k + 1) w + cWt e (w k) + cSh e k + e 13 k := by
  unfold cMa
  rw [qSum_k h]
  omega
theorem cBs_s (h : k < sN e) : cBs e k = cBs e (k + 1) + cSh e k + e 13 k := by
  unfold cBs
  rw [qSum_k h]
  omega
theorem cLo_s (h : k < sN e) : cLo e k w = cGa e w k + cLo e (k + 1) w := qSum_k h
theorem cCo_s (h : k < sN e) : cCo e k w = cPr e (w k) + cCo e (k + 1) w := qSum_k h
theorem cLi_s (h : k < sN e) : cLi e u k w ↔ cLi1 e u w k ∧ cLi e u (k + 1) w := by
  constructor
  · exact fun a => ⟨a k (Nat.le_refl _) h, fun j p q => a j (by omega) q⟩
  · rintro ⟨a, b⟩ j p q
    rcases (show j = k ∨ k + 1 ≤ j by omega) with rfl | t
    · exact a
    · exact b j t q
theorem cOk_s (h : k < sN e) : cOk e k w ↔ (0 ≤ w k ∧ w k < 3 * e 3 6) ∧ cOk e (k + 1) w := by
  constructor
  · exact fun a => ⟨a k (Nat.le_refl _) h, fun j p q => a j (by omega) q⟩
  · rintro ⟨a, b⟩ j p q
    rcases (show j = k ∨ k + 1 ≤ j by omega) with rfl | t
    · exact a
    · exact b j t q
theorem cMa_c (h : sAg (sN e) k x y) : cMa e k x = cMa e k y := by
  unfold cMa
  rw [qSum_cong (g := fun j => cWt e (y j) + cSh e j + e 13 j) _ _ (fun i h1 h2 => by rw [h i h1 (by omega)])]
theorem cCo_c (h : sAg (sN e) k x y) : cCo e k x = cCo e k y := qSum_cong _ _ (fun i h1 h2 => by rw [h i h1 (by omega)])
theorem sAg.d {n : Nat} (h : sAg n k x y) {i : Nat} (hi : k ≤ i) : sAg n i x y := fun j p q => h j (by omega) q
theorem cLo_c (h : sAg (sN e) k x y) : cLo e k x = cLo e k y := qSum_cong _ _ (fun i h1 h2 => by
  unfold cGa
  rw [cMa_c (h.d h1), h i h1 (by omega)])
theorem cLi_c (h : sAg (sN e) k x y) (a : cLi e u k x) : cLi e u k y := fun j p q => by
  have b := a j p q
  unfold cLi1 at b ⊢
  rw [← cMa_c (h.d p), ← h j p q]
  exact b
theorem cOk_c (h : sAg (sN e) k x y) (a : cOk e k x) : cOk e k y := fun j p q => by
  rw [← h j p q]
  exact a j p q
theorem cWt_rng (hR : YR e) (o : Int) : 0 ≤ cWt e o ∧ cWt e o ≤ 297 := by
  have a := hR.2.1 (o / 3).toNat
  have b := mul_le (a := o % 3 + 1) (b := e 6 (o / 3).toNat) (A := 3) (B := 99) (by omega) (by omega) (by omega) (by omega)
  unfold cWt
  omega
theorem cWt_1 (hR : YR e) {o : Int} (h : 0 ≤ o) (h2 : o < 3 * e 3 6) : 1 ≤ cWt e o := by
  have a := hR.2.2.2.2 (o / 3).toNat (by omega)
  have b : 1 * 1 ≤ (o % 3 + 1) * e 6 (o / 3).toNat := Int.mul_le_mul (by omega) (by omega) (by omega) (by omega)
  unfold cWt
  omega
theorem cPr_rng (hR : YR e) (o : Int) : 0 ≤ cPr e o ∧ cPr e o ≤ 29997 := by
  have a := hR.2.1 (o / 3).toNat
  have b := mul_le (a := o % 3 + 1) (b := e 7 (o / 3).toNat) (A := 3) (B := 9999) (by omega) (by omega) (by omega) (by omega)
  unfold cPr
  omega
theorem cSh_rng (hR : YR e) (k : Nat) : 0 ≤ cSh e k ∧ cSh e k ≤ 399 := by
  have a := hR.2.2.1 k
  have b := qTank_le (sr := e 2 1) (z := e 13 k) (by have := hR.1; omega) (by have := hR.1; omega) (by omega) (by omega)
  unfold cSh
  omega
theorem cBs_rng (hR : YR e) : ∀ (m k : Nat), sN e - k = m → 0 ≤ cBs e k ∧ cBs e k ≤ 999 + 999 * m := by
  intro m
  induction m with
  | zero =>
    intro k hm
    unfold cBs
    rw [qSum_e (by omega)]
    have := hR.1
    omega
  | succ m ih =>
    intro k hm
    have a := ih (k + 1) (by omega)
    have b := cSh_rng hR k
    have c := hR.2.2.1 k
    rw [cBs_s (by omega)]
    omega
theorem cMa_rng (hR : YR e) : ∀ (m k : Nat), sN e - k = m → cBs e k ≤ cMa e k w ∧ cMa e k w ≤ cBs e k + 297 * m := by
  intro m
  induction m with
  | zero =>
    intro k hm
    unfold cBs cMa
    rw [qSum_e (by omega), qSum_e (by omega)]
    omega
  | succ m ih =>
    intro k hm
    have a := ih (k + 1) (by omega)
    have b := cWt_rng hR (w k)
    rw [cBs_s (by omega), cMa_s (by omega)]
    omega
theorem cMa_r (hR : YR e) (w : Nat → Int) (k : Nat) : 0 ≤ cMa e k w ∧ cMa e k w ≤ 6500 := by
  have a := cMa_rng (w := w) hR (sN e - k) k rfl
  have b := cBs_rng hR (sN e - k) k rfl
  have c := sN_le hR
  omega
theorem cMa_1 (hR : YR e) (h : k < sN e) (ho : cOk e k w) : 1 + e 13 k ≤ cMa e k w := by
  have a := cMa_r hR w (k + 1)
  have b := (cOk_s h).mp ho
  have c := cWt_1 hR b.1.1 b.1.2
  have d := cSh_rng hR k
  rw [cMa_s h]
  omega
theorem cGa_rng (hR : YR e) (h : k < sN e) : 0 ≤ cGa e w k ∧ cGa e w k ≤ 599400000 := by
  have a := cMa_r hR w (k + 1)
  have b := cSh_rng hR k
  have c := cWt_rng hR (w k)
  have d := hR.2.2.1 k
  have t := hR.2.1 (w k / 3).toNat
  have r := qLow_rng (top := 1000 * e 5 (w k / 3).toNat) (by omega) (e 13 k).toNat (cMa e k w) (by rw [cMa_s h]; omega)
  have q := mul_le (a := 1000 * e 5 (w k / 3).toNat) (b := ((e 13 k).toNat : Int)) (A := 999000) (B := 600) (by omega) (by omega) (by omega) (by omega)
  unfold cGa
  omega
theorem cLo_rng (hR : YR e) : ∀ (m k : Nat), sN e - k = m → 0 ≤ cLo e k w ∧ cLo e k w ≤ 599400000 * m := by
  intro m
  induction m with
  | zero =>
    intro k hm
    unfold cLo
    rw [qSum_e (by omega)]
    omega
  | succ m ih =>
    intro k hm
    have a := ih (k + 1) (by omega)
    have b := cGa_rng (w := w) hR (show k < sN e by omega)
    rw [cLo_s (by omega)]
    omega
theorem cCo_rng (hR : YR e) : ∀ (m k : Nat), sN e - k = m → 0 ≤ cCo e k w ∧ cCo e k w ≤ 29997 * m := by
  intro m
  induction m with
  | zero =>
    intro k hm
    unfold cCo
    rw [qSum_e (by omega)]
    omega
  | succ m ih =>
    intro k hm
    have a := ih (k + 1) (by omega)
    have b := cPr_rng hR (w k)
    rw [cCo_s (by omega)]
    omega
/-- a choice for the stages above, and one more below -/
theorem cUp {o : Int} (h : k < sN e) (ho : cOk e (k + 1) w) (h0 : 0 ≤ o) (h1 : o < 3 * e 3 6) : cOk e k (qUp w k o) ∧ cMa e k (qUp w k o) = cMa e (k + 1) w + cWt e o + cSh e k + e 13 k ∧ cLo e k (qUp w k o) = cLo e (k + 1) w + qLow (1000 * e 5 (o / 3).toNat) (e 13 k).toNat (cMa e k (qUp w k o)) ∧ cCo e k (qUp w k o) = cCo e (k + 1) w + cPr e o ∧ sKe (sN e) k (qUp w k o) = sKe (sN e) (k + 1) w + o * qPow k ∧ ((cLi e u k (qUp w k o)) ↔ (u ≤ 100 * e 4 (o / 3).toNat * (o % 3 + 1) / cMa e k (qUp w k o)) ∧ cLi e u (k + 1) w) ∧ qUp w k o k = o ∧ sAg (sN e) (k + 1) (qUp w k o) w := by
  have ag : sAg (sN e) (k + 1) (qUp w k o) w := fun j p q => if_neg (by omega)
  have ga : sAg (sN e) (k + 1) w (qUp w k o) := fun j p q => (ag j p q).symm
  have ek : qUp w k o k = o := if_pos rfl
  refine ⟨?_, ?_, ?_, ?_, ?_, ?_, ek, ag⟩
  · rw [cOk_s h, ek]
    exact ⟨⟨h0, h1⟩, cOk_c ga ho⟩
  · rw [cMa_s h, cMa_c ag, ek]
  · rw [cLo_s h, cLo_c ag]
    unfold cGa
    rw [ek]
    omega
  · rw [cCo_s h, cCo_c ag, ek]
    omega
  · rw [sKe_s h, sKe_c ag, ek]
    omega
  · rw [cLi_s h]
    unfold cLi1
    rw [ek]
    exact ⟨fun q => ⟨q.1, cLi_c ag q.2⟩, fun q => ⟨q.1, cLi_c ga q.2⟩⟩
def cV (e : vSt) (k : Nat) (w : Nat → Int) (m l c q : Int) : Prop := m = cMa e k w ∧ l = cLo e k w ∧ c = cCo e k w ∧ q = sKe (sN e) k w
theorem cV_c {m l c q : Int} (h : sAg (sN e) k x y) (v : cV e k x m l c q) : cV e k y m l c q := by
  obtain ⟨a, b, c, d⟩ := v
  exact ⟨a.trans (cMa_c h), b.trans (cLo_c h), c.trans (cCo_c h), d.trans (sKe_c h)⟩
def cI (e : vSt) (u : Int) (k lo hi : Nat) (P : (Nat → Int) → Prop) (M L C K : Nat → Int) : Prop := (∀ i, lo ≤ i → i < hi → ∃ w, cOk e k w ∧ cLi e u k w ∧ cV e k w (M i) (L i) (C i) (K i)) ∧ ∀ w, cOk e k w → cLi e u k w → P w → ∃ i, lo ≤ i ∧ i < hi ∧ cV e k w (M i) (L i) (C i) (K i)
def cGd (e : vSt) (u sp : Int) (w : Nat → Int) : Prop := cLi e u 0 w ∧ sp ≤ cLo e 0 w
def cO (e : vSt) (u sp : Int) (P : (Nat → Int) → Prop) (a b : Int) : Prop := (a = 1000000 ∧ ∀ w, cOk e 0 w → cGd e u sp w → ¬ P w) ∨ (0 ≤ a ∧ a < 1000000 ∧ (∃ w, cOk e 0 w ∧ cGd e u sp w ∧ cCo e 0 w = a ∧ sKe (sN e) 0 w = b) ∧ ∀ w, cOk e 0 w → cGd e u sp w → P w → a < cCo e 0 w ∨ (a = cCo e 0 w ∧ b ≤ sKe (sN e) 0 w))
variable {P P' : (Nat → Int) → Prop} {M L C K : Nat → Int} {lo hi : Nat} {a b sp : Int}
theorem cI_m (h : cI e u k lo hi P M L C K) (hp : ∀ x, cOk e k x → cLi e u k x → P' x → P x) : cI e u k lo hi P' M L C K := ⟨h.1, fun x o l p => h.2 x o l (hp x o l p)⟩
theorem cO_m (h : cO e u sp P a b) (hp : ∀ x, cOk e 0 x → cLi e u 0 x → P' x → P x) : cO e u sp P' a b := by
  rcases h with ⟨h1, h2⟩ | ⟨h1, h2, h3, h4⟩
  · exact Or.inl ⟨h1, fun x o g p => h2 x o g (hp x o g.1 p)⟩
  · exact Or.inr ⟨h1, h2, h3, fun x o g p => h4 x o g (hp x o g.1 p)⟩
theorem cI_skip (h : cI e u k lo hi P M L C K) (hp : ∀ x, cOk e k x → P' x → P x ∨ sAg (sN e) k x w) (hl : ¬ cLi e u k w) : cI e u k lo hi P' M L C K := ⟨h.1, fun x o l p => by
  rcases hp x o p with q | q
  · exact h.2 x o l q
  · exact absurd (cLi_c q l) hl⟩
theorem cI_keep {m l c q : Int} (h : cI e u k lo hi P M L C K) (hlo : lo ≤ hi) (hp : ∀ x, cOk e k x → P' x → P x ∨ sAg (sN e) k x w) (ho : cOk e k w) (hl : cLi e u k w) (hv : cV e k w m l c q) : cI e u k lo (hi + 1) P' (qUp M hi m) (qUp L hi l) (qUp C hi c) (qUp K hi q) := by
  have ne : ∀ (X : Nat → Int) (z : Int) (i : Nat), i < hi → qUp X hi z i = X i := fun X z i hi => if_neg (by omega)
  have eq : ∀ (X : Nat → Int) (z : Int), qUp X hi z hi = z := fun X z => if_pos rfl
  refine ⟨fun i h1 h2 => ?_, fun x o li p => ?_⟩
  · rcases (show i < hi ∨ i = hi by omega) with t | t
    · rw [ne _ _ i t, ne _ _ i t, ne _ _ i t, ne _ _ i t]
      exact h.1 i h1 t
    · rw [t, eq, eq, eq, eq]
      exact ⟨w, ho, hl, hv⟩
  · rcases hp x o p with t | t
    · obtain ⟨i, i1, i2, i3⟩ := h.2 x o li t
      refine ⟨i, i1, by omega, ?_⟩
      rw [ne _ _ i i2, ne _ _ i i2, ne _ _ i i2, ne _ _ i i2]
      exact i3
    · refine ⟨hi, hlo, by omega, ?_⟩
      rw [eq, eq, eq, eq]
      exact cV_c (fun j p q => (t j p q).symm) hv
theorem cGd_c (h : sAg (sN e) 0 x y) (g : cGd e u sp x) : cGd e u sp y := ⟨cLi_c h g.1, by rw [← cLo_c h]; exact g.2⟩
theorem cO_skip (h : cO e u sp P a b) (hp : ∀ x, cOk e 0 x → P' x → P x ∨ sAg (sN e) 0 x w) (hl : ¬ cGd e u sp w) : cO e u sp P' a b := by
  rcases h with ⟨h1, h2⟩ | ⟨h1, h2, h3, h4⟩
  · refine Or.inl ⟨h1, fun x o g p => ?_⟩
    rcases hp x o p with q | q
    · exact h2 x o g q
    · exact absurd (cGd_c q g) hl
  · refine Or.inr ⟨h1, h2, h3, fun x o g p => ?_⟩
    rcases hp x o p with q | q
    · exact h4 x o g q
    · exact absurd (cGd_c q g) hl
theorem cO_take (hR : YR e) (h : cO e u sp P a b) (hp : ∀ x, cOk e 0 x → P' x → P x ∨ sAg (sN e) 0 x w) (ho : cOk e 0 w) (hg : cGd e u sp w) (hc : cCo e 0 w < a ∨ (cCo e 0 w = a ∧ sKe (sN e) 0 w < b)) : cO e u sp P' (cCo e 0 w) (sKe (sN e) 0 w) := by
  have r := cCo_rng (w := w) hR (sN e - 0) 0 rfl
  have n4 := sN_le hR
  refine Or.inr ⟨r.1, by omega, ⟨w, ho, hg, rfl, rfl⟩, fun x o g p => ?_⟩
  rcases hp x o p with q | q
  · rcases h with ⟨h1, h2⟩ | ⟨h1, h2, h3, h4⟩
    · exact absurd q (h2 x o g)
    · have := h4 x o g q
      omega
  · have q1 := cCo_c q
    have q2 := sKe_c q
    omega
theorem cO_not (h : cO e u sp P a b) (hp : ∀ x, cOk e 0 x → P' x → P x ∨ sAg (sN e) 0 x w) (hR : YR e) (hc : ¬ (cCo e 0 w < a ∨ (cCo e 0 w = a ∧ sKe (sN e) 0 w < b))) : cO e u sp P' a b := by
  have r := cCo_rng (w := w) hR (sN e - 0) 0 rfl
  have n4 := sN_le hR
  rcases h with ⟨h1, h2⟩ | ⟨h1, h2, h3, h4⟩
  · omega
  · refine Or.inr ⟨h1, h2, h3, fun x o g p => ?_⟩
    rcases hp x o p with q | q
    · exact h4 x o g q
    · have q1 := cCo_c q
      have q2 := sKe_c q
      omega
theorem cO_prune (h : cO e u sp P a b) (hR : YR e) (hc : a < cCo e 0 w) (hp : ∀ x, cOk e 0 x → P' x → P x ∨ cCo e 0 w ≤ cCo e 0 x) : cO e u sp P' a b := by
  have r := cCo_rng (w := w) hR (sN e - 0) 0 rfl
  have n4 := sN_le hR
  rcases h with ⟨h1, h2⟩ | ⟨h1, h2, h3, h4⟩
  · omega
  · refine Or.inr ⟨h1, h2, h3, fun x o g p => ?_⟩
    rcases hp x o p with q | q
    · exact h4 x o g q
    · omega
theorem cO_rng (hR : YR e) (h6 : sN e ≤ 3) (h : cO e u sp P a b) : 0 ≤ a ∧ a ≤ 1000000 ∧ (a < 1000000 → 0 ≤ b ∧ b ≤ 1048575) := by
  rcases h with ⟨h1, -⟩ | ⟨h1, h2, ⟨w, o, g, c, d⟩, -⟩
  · exact ⟨by omega, by omega, fun q => by omega⟩
  · have e6 := hR.1
    have kb := sKe_0 (x := w) (sN_le hR) (fun j q => by have := o j (by omega) q; omega)
    exact ⟨h1, by omega, fun _ => by omega⟩
def cJ (e : vSt) (u sp : Int) (k lo : Nat) (P : (Nat → Int) → Prop) (c M L C K : Nat → Int) : Prop := (¬ k = 0 → c 10 = 1000000 ∧ cI e u k lo (c 7).toNat P M L C K) ∧ (k = 0 → cO e u sp P (c 10) (c 11))
theorem cJ_m {c : Nat → Int} (h : cJ e u sp k lo P c M L C K) (hp : ∀ x, cOk e k x → cLi e u k x → P' x → P x) : cJ e u sp k lo P' c M L C K := ⟨fun q => ⟨(h.1 q).1, cI_m (h.1 q).2 hp⟩, fun q => by subst q; exact cO_m (h.2 rfl) hp⟩
def cPj (n k e' : Nat) (j : Int) (w : Nat → Int) (P : (Nat → Int) → Prop) (x : Nat → Int) : Prop := P x ∨ (x k / 3 = e' ∧ x k % 3 + 1 < j ∧ sAg n (k + 1) x w)
def cPa (e : vSt) (k e' fr : Nat) (a : Nat) (M L C K : Nat → Int) (x : Nat → Int) : Prop := x k / 3 < e' ∨ (x k / 3 = e' ∧ ∃ i, fr ≤ i ∧ i < a ∧ cV e (k + 1) x (M i) (L i) (C i) (K i))
def cPe (k e' : Nat) (x : Nat → Int) : Prop := x k / 3 < e'
theorem sKe_inj {n : Nat} (hn : n ≤ 4) : ∀ (m k : Nat), n - k = m → (∀ j, k ≤ j → j < n → (0 ≤ x j ∧ x j ≤ 31) ∧ 0 ≤ y j ∧ y j ≤ 31) → sKe n k x = sKe n k y → sAg n k x y := by
  intro m
  induction m with
  | zero => intro k hm _ _ j p q; omega
  | succ m ih =>
    intro k hm hd h j p q
    have hk : k < n := by omega
    have b1 := sKe_b (x := x) hn hk (fun i p q => (hd i (by omega) q).1)
    have b2 := sKe_b (x := y) hn hk (fun i p q => (hd i (by omega) q).2)
    rw [sKe_s hk, sKe_s hk] at h
    have ek : x k = y k := by
      rcases (show x k < y k ∨ x k = y k ∨ y k < x k by omega) with t | t | t
      · have : (x k + 1) * qPow k ≤ y k * qPow k := Int.mul_le_mul_of_nonneg_right (by omega) (by omega)
        rw [Int.add_mul, Int.one_mul] at this
        omega
      · exact t
      · have : (y k + 1) * qPow k ≤ x k * qPow k := Int.mul_le_mul_of_nonneg_right (by omega) (by omega)
        rw [Int.add_mul, Int.one_mul] at this
        omega
    rcases (show j = k ∨ k + 1 ≤ j by omega) with rfl | t
    · exact ek
    · rw [ek] at h
      exact ih (k + 1) (by omega) (fun i a b => hd i (by omega) b) (by omega) j t q
theorem cOk_31 (hR : YR e) (h : cOk e k w) : ∀ j, k ≤ j → j < sN e → 0 ≤ w j ∧ w j ≤ 31 := fun j p q => by
  have := h j p q
  have := hR.1
  omega
variable {c : Nat → Int} {e' j : Nat}
theorem cPj_s (hj : 1 ≤ j) : ∀ x, cPj (sN e) k e' (j + 1 : Int) w P x → cPj (sN e) k e' j w P x ∨ sAg (sN e) k x (qUp w k ((e' : Int) * 3 + j - 1)) := by
  intro x h
  rcases h with h | ⟨h1, h2, h3⟩
  · exact Or.inl (Or.inl h)
  · rcases (show x k % 3 + 1 < j ∨ x k = (e' : Int) * 3 + j - 1 by omega) with t | t
    · exact Or.inl (Or.inr ⟨h1, t, h3⟩)
    · refine Or.inr (fun i p q => ?_)
      unfold qUp
      by_cases ei : i = k
      · rw [if_pos ei, ei, t]
      · rw [if_neg ei]
        exact h3 i (by omega) q
theorem cJ_skip (hj : 1 ≤ j) (h : cJ e u sp k lo (cPj (sN e) k e' j w P) c M L C K) (hl : ¬ cLi e u k (qUp w k ((e' : Int) * 3 + j - 1))) : cJ e u sp k lo (cPj (sN e) k e' (j + 1 : Int) w P) c M L C K := by
  refine ⟨fun q => ⟨(h.1 q).1, cI_skip (h.1 q).2 (fun x _ p => cPj_s hj x p) hl⟩, fun q => ?_⟩
  subst q
  exact cO_skip (h.2 rfl) (fun x _ p => cPj_s hj x p) (fun g => hl g.1)
theorem cJ_keep {m l co q : Int} (hj : 1 ≤ j) (hk : ¬ k = 0) (h : cJ e u sp k lo (cPj (sN e) k e' j w P) c M L C K) (h7 : c 7 = hi) (hlo : lo ≤ hi) (ho : cOk e k (qUp w k ((e' : Int) * 3 + j - 1))) (hl : cLi e u k (qUp w k ((e' : Int) * 3 + j - 1))) (hv : cV e k (qUp w k ((e' : Int) * 3 + j - 1)) m l co q) : cJ e u sp k lo (cPj (sN e) k e' (j + 1 : Int) w P) (qUp c 7 ((hi : Int) + 1)) (qUp M hi m) (qUp L hi l) (qUp C hi co) (qUp K hi q) := by
  refine ⟨fun _ => ⟨(h.1 hk).1, ?_⟩, fun t => absurd t hk⟩
  have e7 : (qUp c 7 ((hi : Int) + 1) 7).toNat = hi + 1 := by
    show ((hi : Int) + 1).toNat = hi + 1
    omega
  rw [e7]
  have a := (h.1 hk).2
  rw [show (c 7).toNat = hi by omega] at a
  exact cI_keep a hlo (fun x _ p => cPj_s hj x p) ho hl hv
theorem cJ_offer {l co q : Int} (hR : YR e) (hj : 1 ≤ j) (hk : k = 0) (h : cJ e u sp k lo (cPj (sN e) k e' j w P) c M L C K) (ho : cOk e k (qUp w k ((e' : Int) * 3 + j - 1))) (hl : cLi e u k (qUp w k ((e' : Int) * 3 + j - 1))) (hv : l = cLo e k (qUp w k ((e' : Int) * 3 + j - 1)) ∧ co = cCo e k (qUp w k ((e' : Int) * 3 + j - 1)) ∧ q = sKe (sN e) k (qUp w k ((e' : Int) * 3 + j - 1))) (h8 : c 8 = sp) : cJ e u sp k lo (cPj (sN e) k e' (j + 1 : Int) w P) (if l < c 8 then c else if co < c 10 ∨ (co = c 10 ∧ q < c 11) then qUp (qUp c 10 co) 11 q else c) M L C K := by
  subst hk
  refine ⟨fun t => absurd rfl t, fun _ => ?_⟩
  have hp := fun x (_ : cOk e 0 x) p => cPj_s (e := e) (k := 0) (e' := e') (w := w) (P := P) hj x p
  by_cases s : l < c 8
  · rw [if_pos s]
    exact cO_skip (h.2 rfl) hp (fun g => by have := g.2; omega)
  · rw [if_neg s]
    by_cases t : co < c 10 ∨ (co = c 10 ∧ q < c 11)
    · rw [if_pos t]
      show cO e u sp _ co q
      rw [hv.2.1, hv.2.2]
      exact cO_take hR (h.2 rfl) hp ho ⟨hl, by omega⟩ (by rw [← hv.2.1, ← hv.2.2]; exact t)
    · rw [if_neg t]
      exact cO_not (h.2 rfl) hp hR (by rw [← hv.2.1, ← hv.2.2]; exact t)
theorem cJ_prune (hR : YR e) (hk3 : k < sN e) (h : cJ e u sp k lo (cPj (sN e) k e' j w P) c M L C K) (h4 : j ≤ 4) (hj : 1 ≤ j) (ho : cOk e k (qUp w k ((e' : Int) * 3 + j - 1))) (hc : c 10 < cCo e k (qUp w k ((e' : Int) * 3 + j - 1))) : cJ e u sp k lo (cPj (sN e) k e' 4 w P) c M L C K := by
  have r := cCo_rng (w := qUp w k ((e' : Int) * 3 + j - 1)) hR (sN e - k) k rfl
  have n4 := sN_le hR
  refine ⟨fun q => ?_, fun q => ?_⟩
  · have := (h.1 q).1
    omega
  · subst q
    refine cO_prune (h.2 rfl) hR hc (fun x _ p => ?_)
    rcases p with p | ⟨p1, p2, p3⟩
    · exact Or.inl (Or.inl p)
    · rcases (show x 0 % 3 + 1 < j ∨ (j : Int) ≤ x 0 % 3 + 1 by omega) with t | t
      · exact Or.inl (Or.inr ⟨p1, t, p3⟩)
      · refine Or.inr ?_
        have ek : qUp w 0 ((e' : Int) * 3 + j - 1) 0 = (e' : Int) * 3 + j - 1 := if_pos rfl
        have ag : sAg (sN e) (0 + 1) (qUp w 0 ((e' : Int) * 3 + j - 1)) x := fun i a b => (if_neg (by omega)).trans (p3 i a b).symm
        rw [cCo_s hk3, cCo_s hk3, cCo_c ag, ek]
        unfold cPr
        have pr := hR.2.1 (x 0 / 3).toNat
        rw [p1] at pr ⊢
        rcases (show j = 4 ∨ j ≤ 3 by omega) with t4 | t3
        · omega
        · rw [show ((e' : Int) * 3 + j - 1) / 3 = e' by omega, show ((e' : Int) * 3 + j - 1) % 3 + 1 = j by omega]
          have := Int.mul_le_mul_of_nonneg_right t (show 0 ≤ e 7 ((e' : Int)).toNat by omega)
          omega
/-- what stays -/
def cFr (lo : Nat) (c M L C K c' M' L' C' K' : Nat → Int) : Prop := (∀ i, i < lo → M' i = M i ∧ L' i = L i ∧ C' i = C i ∧ K' i = K i) ∧ (∀ j, j ≠ 7 → j ≠ 10 → j ≠ 11 → c' j = c j) ∧ c 7 ≤ c' 7
variable {c' M' L' C' K' c'' M'' L'' C'' K'' : Nat → Int}
theorem cFr_r : cFr lo c M L C K c M L C K := ⟨fun i _ => ⟨rfl, rfl, rfl, rfl⟩, fun j _ _ _ => rfl, Int.le_refl _⟩
theorem cFr_t (h1 : cFr lo c M L C K c' M' L' C' K') (h2 : cFr lo c' M' L' C' K' c'' M'' L'' C'' K'') : cFr lo c M L C K c'' M'' L'' C'' K'' :=
  ⟨fun i q => ⟨(h2.1 i q).1.trans (h1.1 i q).1, (h2.1 i q).2.1.trans (h1.1 i q).2.1, (h2.1 i q).2.2.1.trans (h1.1 i q).2.2.1, (h2.1 i q).2.2.2.trans (h1.1 i q).2.2.2⟩, fun j a b d => (h2.2.1 j a b d).trans (h1.2.1 j a b d), Int.le_trans h1.2.2 h2.2.2⟩
theorem cFr_k {m l co q : Int} (h7 : c 7 = hi) (hlo : lo ≤ hi) : cFr lo c M L C K (qUp c 7 ((hi : Int) + 1)) (qUp M hi m) (qUp L hi l) (qUp C hi co) (qUp K hi q) := by
  refine ⟨fun i h => ⟨if_neg (by omega), if_neg (by omega), if_neg (by omega), if_neg (by omega)⟩, fun j a _ _ => if_neg a, ?_⟩
  show c 7 ≤ (hi : Int) + 1
  omega
theorem cFr_o {l co q : Int} : cFr lo c M L C K (if l < c 8 then c else if co < c 10 ∨ (co = c 10 ∧ q < c 11) then qUp (qUp c 10 co) 11 q else c) M L C K := by
  refine ⟨fun i h => ⟨rfl, rfl, rfl, rfl⟩, fun j a b d => ?_, ?_⟩
  · split
    · rfl
    · split
      · exact (if_neg d).trans (if_neg b)
      · rfl
  · split
    · exact Int.le_refl _
    · split
      · exact Int.le_refl _
      · exact Int.le_refl _
theorem cO_7 {l co q : Int} : (if l < c 8 then c else if co < c 10 ∨ (co = c 10 ∧ q < c 11) then qUp (qUp c 10 co) 11 q else c) 7 = c 7 := by
  split
  · rfl
  · split
    · rfl
    · rfl
theorem cPa_s {a : Nat} (hR : YR e) (hw : cOk e (k + 1) w) (hv : cV e (k + 1) w (M a) (L a) (C a) (K a)) : ∀ x, cOk e k x → cPa e k e' lo (a + 1) M L C K x → cPj (sN e) k e' 4 w (cPa e k e' lo a M L C K) x := by
  intro x ho h
  rcases h with h | ⟨h1, i, i1, i2, i3⟩
  · exact Or.inl (Or.inl h)
  · rcases (show i < a ∨ i = a by omega) with t | t
    · exact Or.inl (Or.inr ⟨h1, i, i1, t, i3⟩)
    · subst t
      refine Or.inr ⟨h1, by omega, ?_⟩
      have hx : cOk e (k + 1) x := fun j p q => ho j (by omega) q
      exact sKe_inj (sN_le hR) (sN e - (k + 1)) (k + 1) rfl (fun j p q => ⟨cOk_31 hR hx j p q, cOk_31 hR hw j p q⟩) (i3.2.2.2.symm.trans hv.2.2.2)
end CHE
def c18 (w : Nat → Int) : Nat → Int
  | 0 => 0
  | k + 1 => 18 * c18 w k + w k
def cP (j : Nat) : Int := if j = 0 then 1 else if j = 1 then 32 else 1024
def cNum (n : Nat) (w : Nat → Int) : Int := qSum (fun j => w j * cP j) n 0
def cD (n : Nat) (W : Int) (w : Nat → Int) : Prop := ∀ j, j < n → 0 ≤ w j ∧ w j < W
def qOd (W : Int) : Nat → Nat → (Nat → Int) → (Nat → Int) × Nat
  | 0, s, w => (w, s)
  | m + 1, s, w => if w s = W - 1 then qOd W m (s + 1) (qUp w s 0) else (w, s)
theorem qOd_ok {W : Int} : ∀ (m s : Nat) (w : Nat → Int), s ≤ (qOd W m s w).2 ∧ (qOd W m s w).2 ≤ s + m ∧ (∀ j, s ≤ j → j < (qOd W m s w).2 → w j = W - 1 ∧ (qOd W m s w).1 j = 0) ∧ (∀ j, (j < s ∨ (qOd W m s w).2 ≤ j) → (qOd W m s w).1 j = w j) ∧ ((qOd W m s w).2 < s + m → ¬ w (qOd W m s w).2 = W - 1) := by
  intro m
  induction m with
  | zero => intro s w; exact ⟨Nat.le_refl _, Nat.le_refl _, fun j h1 h2 => absurd h2 (Nat.not_lt.mpr h1), fun j _ => rfl, fun h => absurd h (Nat.lt_irrefl _)⟩
  | succ m ih =>
    intro s w
    by_cases q : w s = W - 1
    · have e0 : qOd W (m + 1) s w = qOd W m (s + 1) (qUp w s 0) := if_pos q
      rw [e0]
      obtain ⟨a, b, c, d, f⟩ := ih (s + 1) (qUp w s 0)
      refine ⟨by omega, by omega, fun j h1 h2 => ?_, fun j h => ?_, fun h => ?_⟩
      · rcases (show j = s ∨ s + 1 ≤ j by omega) with t | t
        · refine ⟨by rw [t]; exact q, ?_⟩
          rw [d j (Or.inl (by omega))]
          exact if_pos t
        · have := c j t h2
          rw [show qUp w s 0 j = w j from if_neg (by omega)] at this
          exact this
      · rw [d j (by omega)]
        exact if_neg (by omega)
      · have := f (by omega)
        rw [show qUp w s 0 (qOd W m (s + 1) (qUp w s 0)).2 = w (qOd W m (s + 1) (qUp w s 0)).2 from if_neg (by omega)] at this
        exact this
    · have e0 : qOd W (m + 1) s w = (w, s) := if_neg q
      rw [e0]
      exact ⟨Nat.le_refl _, by show s ≤ s + (m + 1); omega, fun j h1 h2 => absurd (show j < s from h2) (Nat.not_lt.mpr h1), fun j _ => rfl, fun _ => q⟩
theorem cNum_1 (w : Nat → Int) : cNum 1 w = w 0 := by
  show w 0 * 1 + 0 = _
  omega
theorem cNum_2 (w : Nat → Int) : cNum 2 w = w 0 + w 1 * 32 := by
  show w 0 * 1 + (w 1 * 32 + 0) = _
  omega
theorem cNum_3 (w : Nat → Int) : cNum 3 w = w 0 + w 1 * 32 + w 2 * 1024 := by
  show w 0 * 1 + (w 1 * 32 + (w 2 * 1024 + 0)) = _
  omega
theorem c18_1 (w : Nat → Int) : c18 w 1 = w 0 := by
  show 18 * 0 + w 0 = _
  omega
theorem c18_2 (w : Nat → Int) : c18 w 2 = 18 * w 0 + w 1 := by
  show 18 * (18 * 0 + w 0) + w 1 = _
  omega
theorem c18_3 (w : Nat → Int) : c18 w 3 = 324 * w 0 + 18 * w 1 + w 2 := by
  show 18 * (18 * (18 * 0 + w 0) + w 1) + w 2 = _
  omega
theorem cOd_end {n : Nat} {W : Int} {w : Nat → Int} (hn1 : 1 ≤ n) (hn : n ≤ 3) (hW : W ≤ 18) (h : ∀ j, j < n → w j = W - 1) : ∀ x, cD n W x → cNum n x ≤ cNum n w := by
  intro x hx
  rcases (show n = 1 ∨ n = 2 ∨ n = 3 by omega) with rfl | rfl | rfl
  · have x0 := hx 0 (by omega)
    have w0 := h 0 (by omega)
    rw [cNum_1, cNum_1]
    omega
  · have x0 := hx 0 (by omega)
    have w0 := h 0 (by omega)
    have x1 := hx 1 (by omega)
    have w1 := h 1 (by omega)
    rw [cNum_2, cNum_2]
    omega
  · have x0 := hx 0 (by omega)
    have w0 := h 0 (by omega)
    have x1 := hx 1 (by omega)
    have w1 := h 1 (by omega)
    have x2 := hx 2 (by omega)
    have w2 := h 2 (by omega)
    rw [cNum_3, cNum_3]
    omega
theorem cOd_next {n s : Nat} {W : Int} {w v : Nat → Int} (hn : n ≤ 3) (hs : s < n) (hW : W ≤ 18) (hw : cD n W w) (h : ∀ j, j < s → w j = W - 1 ∧ v j = 0) (hv : v s = w s + 1) (h2 : ∀ j, s < j → v j = w j) : cNum n w < cNum n v ∧ ∀ x, cD n W x → cNum n w < cNum n x → cNum n v ≤ cNum n x := by
  rcases (show n = 1 ∨ n = 2 ∨ n = 3 by omega) with rfl | rfl | rfl
  · rw [show s = 0 by omega] at hv
    refine ⟨by rw [cNum_1, cNum_1]; omega, fun x hx q => ?_⟩
    rw [cNum_1, cNum_1] at q ⊢
    omega
  · have a0 := hw 0 (by omega)
    have a1 := hw 1 (by omega)
    rcases (show s = 0 ∨ s = 1 by omega) with rfl | rfl
    · have e1 := h2 1 (by omega)
      refine ⟨by rw [cNum_2, cNum_2]; omega, fun x hx q => ?_⟩
      have x0 := hx 0 (by omega)
      have x1 := hx 1 (by omega)
      rw [cNum_2, cNum_2] at q ⊢
      omega
    · have e0 := h 0 (by omega)
      refine ⟨by rw [cNum_2, cNum_2]; omega, fun x hx q => ?_⟩
      have x0 := hx 0 (by omega)
      have x1 := hx 1 (by omega)
      rw [cNum_2, cNum_2] at q ⊢
      omega
  · have a0 := hw 0 (by omega)
    have a1 := hw 1 (by omega)
    have a2 := hw 2 (by omega)
    rcases (show s = 0 ∨ s = 1 ∨ s = 2 by omega) with rfl | rfl | rfl
    · have e1 := h2 1 (by omega)
      have e2 := h2 2 (by omega)
      refine ⟨by rw [cNum_3, cNum_3]; omega, fun x hx q => ?_⟩
      have x0 := hx 0 (by omega)
      have x1 := hx 1 (by omega)
      have x2 := hx 2 (by omega)
      rw [cNum_3, cNum_3] at q ⊢
      omega
    · have e0 := h 0 (by omega)
      have e2 := h2 2 (by omega)
      refine ⟨by rw [cNum_3, cNum_3]; omega, fun x hx q => ?_⟩
      have x0 := hx 0 (by omega)
      have x1 := hx 1 (by omega)
      have x2 := hx 2 (by omega)
      rw [cNum_3, cNum_3] at q ⊢
      omega
    · have e0 := h 0 (by omega)
      have e1 := h 1 (by omega)
      refine ⟨by rw [cNum_3, cNum_3]; omega, fun x hx q => ?_⟩
      have x0 := hx 0 (by omega)
      have x1 := hx 1 (by omega)
      have x2 := hx 2 (by omega)
      rw [cNum_3, cNum_3] at q ⊢
      omega
theorem cNum_ag {n : Nat} {W : Int} {x y : Nat → Int} (hn : n ≤ 3) (hW : W ≤ 18) (hx : cD n W x) (hy : cD n W y) (h : cNum n x = cNum n y) : sAg n 0 x y := by
  intro j _ hj
  rcases (show n = 1 ∨ n = 2 ∨ n = 3 by omega) with rfl | rfl | rfl
  · rw [cNum_1, cNum_1] at h
    rw [show j = 0 by omega]
    exact h
  · have x0 := hx 0 (by omega)
    have y0 := hy 0 (by omega)
    rw [cNum_2, cNum_2] at h
    rcases (show j = 0 ∨ j = 1 by omega) with rfl | rfl <;> omega
  · have x0 := hx 0 (by omega)
    have y0 := hy 0 (by omega)
    have x1 := hx 1 (by omega)
    have y1 := hy 1 (by omega)
    rw [cNum_3, cNum_3] at h
    rcases (show j = 0 ∨ j = 1 ∨ j = 2 by omega) with rfl | rfl | rfl <;> omega
theorem c18_rng {n : Nat} {x : Nat → Int} (hn : n ≤ 3) (hx : cD n 18 x) : 0 ≤ c18 x n ∧ c18 x n ≤ 5831 := by
  rcases (show n = 0 ∨ n = 1 ∨ n = 2 ∨ n = 3 by omega) with rfl | rfl | rfl | rfl
  · exact ⟨Int.le_refl _, show (0 : Int) ≤ 5831 by decide⟩
  · have x0 := hx 0 (by omega)
    rw [c18_1]
    omega
  · have x0 := hx 0 (by omega)
    have x1 := hx 1 (by omega)
    rw [c18_2]
    omega
  · have x0 := hx 0 (by omega)
    have x1 := hx 1 (by omega)
    have x2 := hx 2 (by omega)
    rw [c18_3]
    omega
/-- the two orders are one -/
theorem cKeys {n : Nat} {x y : Nat → Int} (hn : n ≤ 3) (hx : cD n 18 x) (hy : cD n 18 y) (h1 : sKe n 0 x ≤ sKe n 0 y) (h2 : c18 y n ≤ c18 x n) : sAg n 0 x y := by
  intro j _ hj
  rcases (show n = 1 ∨ n = 2 ∨ n = 3 by omega) with rfl | rfl | rfl
  · rw [sKe_1, sKe_1] at h1
    rw [c18_1, c18_1] at h2
    rw [show j = 0 by omega]
    omega
  · have x1 := hx 1 (by omega)
    have y1 := hy 1 (by omega)
    rw [sKe_2, sKe_2] at h1
    rw [c18_2, c18_2] at h2
    rcases (show j = 0 ∨ j = 1 by omega) with rfl | rfl <;> omega
  · have x1 := hx 1 (by omega)
    have y1 := hy 1 (by omega)
    have x2 := hx 2 (by omega)
    have y2 := hy 2 (by omega)
    rw [sKe_3, sKe_3] at h1
    rw [c18_3, c18_3] at h2
    have z0 : x 0 = y 0 := by omega
    have z1 : x 1 = y 1 := by omega
    rcases (show j = 0 ∨ j = 1 ∨ j = 2 by omega) with rfl | rfl | rfl
    · exact z0
    · exact z1
    · omega
theorem cKe_dig {n : Nat} {x : Nat → Int} (hn : n ≤ 3) (h : cD n 18 x) : ∀ k, k < n → qDig (sKe n 0 x) k = x k := by
  intro k hk
  have p0 : qPow 0 = 32768 := rfl
  have p1 : qPow 1 = 1024 := rfl
  have p2 : qPow 2 = 32 := rfl
  unfold qDig
  rcases (show n = 1 ∨ n = 2 ∨ n = 3 by omega) with rfl | rfl | rfl
  · have x0 := h 0 (by omega)
    rw [sKe_1, show k = 0 by omega, p0]
    omega
  · have x0 := h 0 (by omega)
    have x1 := h 1 (by omega)
    rw [sKe_2]
    rcases (show k = 0 ∨ k = 1 by omega) with rfl | rfl
    · rw [p0]; omega
    · rw [p1]; omega
  · have x0 := h 0 (by omega)
    have x1 := h 1 (by omega)
    have x2 := h 2 (by omega)
    rw [sKe_3]
    rcases (show k = 0 ∨ k = 1 ∨ k = 2 by omega) with rfl | rfl | rfl
    · rw [p0]; omega
    · rw [p1]; omega
    · rw [p2]; omega
/-- what the reference has found of the choices P -/
def cRO (e : vSt) (u sp : Int) (P : (Nat → Int) → Prop) (a b : Int) : Prop := (a = -1 ∧ ∀ w, cOk e 0 w → cGd e u sp w → ¬ P w) ∨ (0 ≤ a ∧ (∃ w, cOk e 0 w ∧ cGd e u sp w ∧ cCo e 0 w = a ∧ c18 w (sN e) = b) ∧ ∀ w, cOk e 0 w → cGd e u sp w → P w → a < cCo e 0 w ∨ (a = cCo e 0 w ∧ b ≤ c18 w (sN e)))
theorem c18_c {n : Nat} {x y : Nat → Int} (h : sAg n 0 x y) : ∀ m, m ≤ n → c18 x m = c18 y m := by
  intro m
  induction m with
  | zero => intro _; rfl
  | succ m ih =>
    intro hm
    show 18 * c18 x m + x m = 18 * c18 y m + y m
    rw [ih (by omega), h m (Nat.zero_le _) (by omega)]
section CHF
variable {e : vSt} {w : Nat → Int} {u sp a b : Int} {P P' : (Nat → Int) → Prop}
theorem cRO_m (h : cRO e u sp P a b) (hp : ∀ x, cOk e 0 x → P' x → P x) : cRO e u sp P' a b := by
  rcases h with ⟨h1, h2⟩ | ⟨h1, h3, h4⟩
  · exact Or.inl ⟨h1, fun x o g p => h2 x o g (hp x o p)⟩
  · exact Or.inr ⟨h1, h3, fun x o g p => h4 x o g (hp x o p)⟩
theorem cRO_skip (h : cRO e u sp P a b) (hp : ∀ x, cOk e 0 x → P' x → P x ∨ sAg (sN e) 0 x w) (hl : ¬ cGd e u sp w) : cRO e u sp P' a b := by
  rcases h with ⟨h1, h2⟩ | ⟨h1, h3, h4⟩
  · refine Or.inl ⟨h1, fun x o g p => ?_⟩
    rcases hp x o p with q | q
    · exact h2 x o g q
    · exact absurd (cGd_c q g) hl
  · refine Or.inr ⟨h1, h3, fun x o g p => ?_⟩
    rcases hp x o p with q | q
    · exact h4 x o g q
    · exact absurd (cGd_c q g) hl
theorem cRO_take (hR : YR e) (h : cRO e u sp P a b) (hp : ∀ x, cOk e 0 x → P' x → P x ∨ sAg (sN e) 0 x w) (ho : cOk e 0 w) (hg : cGd e u sp w) (hc : a < 0 ∨ cCo e 0 w < a ∨ (cCo e 0 w = a ∧ c18 w (sN e) < b)) : cRO e u sp P' (cCo e 0 w) (c18 w (sN e)) := by
  have r := cCo_rng (w := w) hR (sN e - 0) 0 rfl
  refine Or.inr ⟨r.1, ⟨w, ho, hg, rfl, rfl⟩, fun x o g p => ?_⟩
  rcases hp x o p with q | q
  · rcases h with ⟨h1, h2⟩ | ⟨h1, h3, h4⟩
    · exact absurd q (h2 x o g)
    · have := h4 x o g q
      omega
  · have q1 := cCo_c q
    have q2 := c18_c q (sN e) (Nat.le_refl _)
    omega
theorem cRO_not (h : cRO e u sp P a b) (hp : ∀ x, cOk e 0 x → P' x → P x ∨ sAg (sN e) 0 x w) (hc : ¬ (a < 0 ∨ cCo e 0 w < a ∨ (cCo e 0 w = a ∧ c18 w (sN e) < b))) : cRO e u sp P' a b := by
  rcases h with ⟨h1, h2⟩ | ⟨h1, h3, h4⟩
  · omega
  · refine Or.inr ⟨h1, h3, fun x o g p => ?_⟩
    rcases hp x o p with q | q
    · exact h4 x o g q
    · have q1 := cCo_c q
      have q2 := c18_c q (sN e) (Nat.le_refl _)
      omega
theorem cOk_D (hR : YR e) (h : cOk e 0 w) : cD (sN e) 18 w := fun j q => by
  have := h j (Nat.zero_le _) q
  have := hR.1
  omega
theorem cRO_rng (hR : YR e) (h6 : sN e ≤ 3) (h : cRO e u sp P a b) : -1 ≤ a ∧ a ≤ 1000000 ∧ (0 ≤ a → 0 ≤ b ∧ b ≤ 5831) := by
  rcases h with ⟨h1, -⟩ | ⟨h1, ⟨w, o, g, c, d⟩, -⟩
  · exact ⟨by omega, by omega, fun q => by omega⟩
  · have r := cCo_rng (w := w) hR (sN e - 0) 0 rfl
    have kb := c18_rng h6 (cOk_D hR o)
    exact ⟨by omega, by omega, fun _ => by omega⟩
/-- both find the same -/
theorem cBest {a' b' : Int} (hR : YR e) (h6 : sN e ≤ 3) (h : cO e u sp (fun _ => True) a b) (h' : cRO e u sp (fun _ => True) a' b') : (a = 1000000 ∧ a' = -1) ∨ (0 ≤ a ∧ a < 1000000 ∧ a = a' ∧ ∃ w, cOk e 0 w ∧ b = sKe (sN e) 0 w ∧ b' = c18 w (sN e)) := by
  rcases h with ⟨h1, h2⟩ | ⟨h0, h1, ⟨w, o, g, c, d⟩, h4⟩
  · rcases h' with ⟨h3, -⟩ | ⟨-, ⟨w, o, g, -⟩, -⟩
    · exact Or.inl ⟨h1, h3⟩
    · exact absurd trivial (h2 w o g)
  · rcases h' with ⟨-, h3⟩ | ⟨i0, ⟨v, p, q, r, s⟩, i4⟩
    · exact absurd trivial (h3 w o g)
    · have t1 := h4 v p q trivial
      have t2 := i4 w o g trivial
      have ea : a = a' := by omega
      have ag := cKeys h6 (cOk_D hR o) (cOk_D hR p) (by omega) (by omega)
      refine Or.inr ⟨h0, h1, ea, v, p, ?_, s.symm⟩
      rw [← d]
      exact sKe_c ag
end CHF
