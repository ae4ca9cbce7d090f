/-! plain: a flight, tick by tick; a row has it in the places of the class' object -/
def fDrag (ar : Nat → Int) (p h : Int) : Int := if p = 0 ∨ h < 0 ∨ 10000 ≤ h then 0 else p * p / 100 * ar (h / 1000).toNat / 100
def fBu (f : Nat → Int) : Int := min (f 3) (f 4)
def fDg (e : vSt) (f : Nat → Int) : Int := fDrag (e 26) (f 10) (f 9)
def fPu (e : vSt) (f : Nat → Int) : Int := if f 10 < 0 then 100 * (f 5 * fBu f - f 6) + fDg e f else 100 * (f 5 * fBu f - f 6) - fDg e f
def fPa (e : vSt) (f : Nat → Int) : Int := max (-100000) (min (f 10 + (fPu e f).tdiv (f 6)) 100000)
def fB (e : vSt) (f : Nat → Int) : Nat → Int := fun j =>
  if j = 3 then f 3 - fBu f else if j = 6 then f 6 - fBu f else if j = 7 then f 7 - fBu f else if j = 8 then f 8 + 1 else if j = 9 then (if f 9 + fPa e f < 0 then 0 else f 9 + fPa e f) else if j = 10 then (if f 9 + fPa e f < 0 then 0 else fPa e f) else if j = 11 then (if f 11 < fDg e f then fDg e f else f 11) else if j = 12 then (if f 11 < fDg e f then f 8 else f 12) else if j = 13 then (if f 11 < fDg e f ∧ f 13 = -1 ∧ e 27 0 < fDg e f then f 8 else f 13) else f j
def eTh (e : vSt) (k : Nat) : Int := e 4 (e 11 k).toNat
def eAll (e : vSt) (k : Nat) : Int := qSum (e 13) ((e 10 6).toNat - k) k
def fRdy (e : vSt) (b : Int) (f : Nat → Int) : Nat → Int := fun j =>
  if j = 3 then (if 0 ≤ b ∧ b < e 10 6 then e 13 b.toNat else 0) else if j = 4 then (if 0 ≤ b ∧ b < e 10 6 then e 12 b.toNat else 0) else if j = 5 then (if 0 ≤ b ∧ b < e 10 6 then eTh e b.toNat else 0) else f j
def fD (e : vSt) (f : Nat → Int) : Nat → Int := fRdy e (f 2 + 1) (fun j => if j = 2 then f 2 + 1 else if j = 6 then f 6 - (yDry e (f 2).toNat + f 3) else if j = 7 then f 7 - f 3 else f j)
def fBeg (e : vSt) (f : Nat → Int) : Nat → Int := fRdy e 0 (fun j => if j = 2 then 0 else if j = 6 then yMass e 0 else if j = 7 then qSum (e 13) (e 10 6).toNat 0 else if j = 8 then 0 else if j = 9 then 0 else if j = 10 then 0 else if j = 11 then 0 else if j = 12 then 0 else if j = 13 then -1 else f j)
def fT (e : vSt) (f : Nat → Int) : Nat → Int := if fB e f 3 = 0 then fD e (fB e f) else fB e f
def fS (e : vSt) (f : Nat → Int) : Nat → Int := if f 3 = 0 then fD e f else fT e f
def fGs (U hs : Int) (f : Nat → Int) : Prop := 0 < f 7 ∧ f 8 < U ∧ (hs = 1 → f 13 = -1)
def fR (e : vSt) (U hs : Int) : Nat → (Nat → Int) → (Nat → Int) → Prop
  | 0, f, g => ¬ fGs U hs f ∧ g = f
  | n + 1, f, g => fGs U hs f ∧ fR e U hs n (fS e f) g
/-- the class' ticks of one stage -/
def fBs (e : vSt) (U hs : Int) : Nat → (Nat → Int) → Nat → Int
  | 0, f => f
  | n + 1, f => if 0 < f 3 ∧ f 8 < U then (if hs = 1 ∧ ¬ fB e f 13 = -1 then fB e f else fBs e U hs n (fB e f)) else f
/-- the class' rounds -/
def fRd (e : vSt) (U hs : Int) (f : Nat → Int) : Nat → Int := if fBs e U hs (f 3).toNat f 3 = 0 then fD e (fBs e U hs (f 3).toNat f) else fBs e U hs (f 3).toNat f
def fGo (e : vSt) (U hs : Int) : Nat → (Nat → Int) → Nat → Int
  | 0, f => f
  | n + 1, f => if 0 < f 7 ∧ f 8 < U then (if hs = 1 ∧ ¬ fRd e U hs f 13 = -1 then fRd e U hs f else fGo e U hs n (fRd e U hs f)) else f
def fZ (e : vSt) : Nat → (Nat → Int) → Nat → Int
  | 0, f => f
  | n + 1, f => if f 3 = 0 then fZ e n (fD e f) else f
def fLs (e : vSt) (f : Nat → Int) : Nat → Int := if f 4 - 1 < 1 then fD e (qUp f 4 (f 4 - 1)) else qUp f 4 (f 4 - 1)
def fLose (e : vSt) (f : Nat → Int) : Nat → Int := if 0 < f 7 ∧ f 8 < 2000 then fLs e (fZ e 4 f) else f
def fBk (e : vSt) (f : Nat → Int) : Int := if ¬ f 13 = -1 then 1 else if f 9 < e 27 1 then 2 else if f 10 < e 27 2 then 3 else 0
def WA (e : vSt) (f : Nat → Int) : Prop := 0 ≤ f 2 ∧ f 2 ≤ e 10 6 ∧ (f 2 < e 10 6 → 0 ≤ f 3 ∧ f 3 ≤ 600 ∧ 0 ≤ f 4 ∧ f 4 ≤ 9 ∧ f 5 = eTh e (f 2).toNat ∧ f 6 = f 3 + yDry e (f 2).toNat + yMass e ((f 2).toNat + 1) ∧ f 7 = f 3 + eAll e ((f 2).toNat + 1)) ∧ (f 2 = e 10 6 → f 3 = 0 ∧ f 4 = 0 ∧ f 5 = 0 ∧ 0 ≤ f 6 ∧ f 6 ≤ 8559 ∧ f 7 = 0)
def WT (e : vSt) (f : Nat → Int) : Prop := (0 ≤ f 8 ∧ f 8 ≤ 2000) ∧ (0 ≤ f 9 ∧ f 9 ≤ 100000 * f 8) ∧ (-100000 ≤ f 10 ∧ f 10 ≤ 100000) ∧ (f 8 = 0 → f 10 = 0 ∧ f 11 = 0 ∧ f 12 = 0) ∧ (0 ≤ f 11 ∧ f 11 ≤ 1000000000) ∧ (0 ≤ f 12 ∧ f 12 ≤ 2000) ∧ (-1 ≤ f 13 ∧ f 13 ≤ 2000) ∧ (f 13 = -1 → f 11 ≤ e 27 0)
def WF (e : vSt) (f : Nat → Int) : Prop := WA e f ∧ (f 2 < e 10 6 → 1 ≤ f 4) ∧ WT e f
def WS (e : vSt) : Prop := ∀ j : Nat, 0 ≤ e 26 j ∧ e 26 j ≤ 999 ∧ 0 ≤ e 27 j ∧ e 27 j ≤ 1000000
theorem sq_rng {p : Int} (h1 : -100000 ≤ p) (h2 : p ≤ 100000) : 0 ≤ p * p ∧ p * p ≤ 10000000000 := by
  rcases (show 0 ≤ p ∨ p < 0 by omega) with h | h
  · have := mul_le (a := p) (b := p) (A := 100000) (B := 100000) h h2 h h2
    omega
  · have := mul_le (a := -p) (b := -p) (A := 100000) (B := 100000) (by omega) (by omega) (by omega) (by omega)
    rw [Int.neg_mul_neg] at this
    omega
theorem drag_rng {ar : Nat → Int} (ha : ∀ j, 0 ≤ ar j ∧ ar j ≤ 999) {p h : Int} (h1 : -100000 ≤ p) (h2 : p ≤ 100000) : 0 ≤ fDrag ar p h ∧ fDrag ar p h ≤ 1000000000 ∧ 0 ≤ p * p / 100 * ar (h / 1000).toNat ∧ p * p / 100 * ar (h / 1000).toNat ≤ 99900000000 := by
  have a := sq_rng h1 h2
  have b := ha (h / 1000).toNat
  have c := mul_le (a := p * p / 100) (b := ar (h / 1000).toNat) (A := 100000000) (B := 999) (by omega) (by omega) b.1 b.2
  unfold fDrag
  split <;> omega
theorem eAll_nn {e : vSt} (hR : YR e) (k : Nat) : 0 ≤ eAll e k := by
  have h := qSum_bound (f := e 13) (B := 600) (fun j => by have := hR.2.2.1 j; omega) ((e 10 6).toNat - k) k
  exact h.1
theorem eAll_le {e : vSt} (hR : YR e) (k : Nat) : eAll e k ≤ 2400 := by
  have h := qSum_bound (f := e 13) (B := 600) (fun j => by have := hR.2.2.1 j; omega) ((e 10 6).toNat - k) k
  have e2 : (((e 10 6).toNat - k : Nat) : Int) * 600 ≤ 4 * 600 := Int.mul_le_mul_of_nonneg_right (by have := hR.1; omega) (by omega)
  have h2 := h.2
  unfold eAll
  omega
theorem eAll_s {e : vSt} {k : Nat} (hk : (k : Int) < e 10 6) : eAll e k = e 13 k + eAll e (k + 1) := by
  unfold eAll
  rw [show (e 10 6).toNat - k = ((e 10 6).toNat - (k + 1)) + 1 by omega]
  rfl
theorem eAll_end {e : vSt} {k : Nat} (hk : e 10 6 ≤ k) : eAll e k = 0 := by
  unfold eAll
  rw [show (e 10 6).toNat - k = 0 by omega]
  rfl
section FLY
variable {e : vSt} {f g : Nat → Int} {U hs : Int} {n : Nat}
theorem WT_B (hS : WS e) (h : WT e f) (h8 : f 8 < 2000) : WT e (fB e f) := by
  obtain ⟨t1, t2, t3, t4, t5, t6, t7, t8⟩ := h
  have dg : 0 ≤ fDg e f ∧ fDg e f ≤ 1000000000 := by
    have := drag_rng (ar := e 26) (fun j => ⟨(hS j).1, (hS j).2.1⟩) (p := f 10) (h := f 9) t3.1 t3.2
    exact ⟨this.1, this.2.1⟩
  have pa : -100000 ≤ fPa e f ∧ fPa e f ≤ 100000 := by unfold fPa; omega
  show (0 ≤ f 8 + 1 ∧ f 8 + 1 ≤ 2000) ∧ (0 ≤ (if f 9 + fPa e f < 0 then 0 else f 9 + fPa e f) ∧ (if f 9 + fPa e f < 0 then 0 else f 9 + fPa e f) ≤ 100000 * (f 8 + 1)) ∧ (-100000 ≤ (if f 9 + fPa e f < 0 then 0 else fPa e f) ∧ (if f 9 + fPa e f < 0 then 0 else fPa e f) ≤ 100000) ∧ (f 8 + 1 = 0 → (if f 9 + fPa e f < 0 then 0 else fPa e f) = 0 ∧ (if f 11 < fDg e f then fDg e f else f 11) = 0 ∧ (if f 11 < fDg e f then f 8 else f 12) = 0) ∧ (0 ≤ (if f 11 < fDg e f then fDg e f else f 11) ∧ (if f 11 < fDg e f then fDg e f else f 11) ≤ 1000000000) ∧ (0 ≤ (if f 11 < fDg e f then f 8 else f 12) ∧ (if f 11 < fDg e f then f 8 else f 12) ≤ 2000) ∧ (-1 ≤ (if f 11 < fDg e f ∧ f 13 = -1 ∧ e 27 0 < fDg e f then f 8 else f 13) ∧ (if f 11 < fDg e f ∧ f 13 = -1 ∧ e 27 0 < fDg e f then f 8 else f 13) ≤ 2000) ∧ ((if f 11 < fDg e f ∧ f 13 = -1 ∧ e 27 0 < fDg e f then f 8 else f 13) = -1 → (if f 11 < fDg e f then fDg e f else f 11) ≤ e 27 0)
  generalize fDg e f = D at *
  generalize fPa e f = P at *
  refine ⟨by omega, by omega, by omega, by omega, by omega, by omega, by omega, ?_⟩
  omega
theorem WF_B (hS : WS e) (h : WF e f) (h2 : f 2 < e 10 6) (h3 : 0 < f 3) (h8 : f 8 < 2000) : WF e (fB e f) ∧ 1 ≤ fBu f ∧ fB e f 3 < f 3 ∧ 0 ≤ fB e f 3 ∧ fB e f 2 = f 2 ∧ fB e f 8 = f 8 + 1 := by
  obtain ⟨⟨a1, a2, a3, a4⟩, w, t⟩ := h
  obtain ⟨b1, b2, b3, b4, b5, b6, b7⟩ := a3 h2
  have w1 := w h2
  have bu : 1 ≤ fBu f ∧ fBu f ≤ f 3 := by unfold fBu; omega
  refine ⟨⟨⟨a1, a2, fun _ => ?_, fun q => ?_⟩, w, WT_B hS t h8⟩, bu.1, ?_, ?_, rfl, rfl⟩
  · show 0 ≤ f 3 - fBu f ∧ f 3 - fBu f ≤ 600 ∧ 0 ≤ f 4 ∧ f 4 ≤ 9 ∧ f 5 = eTh e (f 2).toNat ∧ f 6 - fBu f = f 3 - fBu f + yDry e (f 2).toNat + yMass e ((f 2).toNat + 1) ∧ f 7 - fBu f = f 3 - fBu f + eAll e ((f 2).toNat + 1)
    refine ⟨by omega, by omega, b3, b4, b5, by omega, by omega⟩
  · have q2 : f 2 = e 10 6 := q
    omega
  · show f 3 - fBu f < f 3
    omega
  · show 0 ≤ f 3 - fBu f
    omega
theorem WF_D (hR : YR e) (h : WA e f) (ht : WT e f) (h2 : f 2 < e 10 6) : WF e (fD e f) ∧ fD e f 2 = f 2 + 1 ∧ fD e f 7 = f 7 - f 3 ∧ ∀ j, 8 ≤ j → fD e f j = f j := by
  obtain ⟨a1, a2, a3, a4⟩ := h
  obtain ⟨b1, b2, b3, b4, b5, b6, b7⟩ := a3 h2
  have s := hR.2.2.1 (f 2 + 1).toNat
  have e1 : (f 2).toNat + 1 = (f 2 + 1).toNat := by omega
  refine ⟨⟨⟨?_, ?_, fun q => ?_, fun q => ?_⟩, fun q => ?_, ht⟩, rfl, rfl, fun j hj => ?_⟩
  · show 0 ≤ f 2 + 1
    omega
  · show f 2 + 1 ≤ e 10 6
    omega
  · have q2 : f 2 + 1 < e 10 6 := q
    have m := YR.massS (σ := e) (k := (f 2 + 1).toNat) (by omega)
    have al := eAll_s (e := e) (k := (f 2 + 1).toNat) (by omega)
    show 0 ≤ (if 0 ≤ f 2 + 1 ∧ f 2 + 1 < e 10 6 then e 13 (f 2 + 1).toNat else 0) ∧ (if 0 ≤ f 2 + 1 ∧ f 2 + 1 < e 10 6 then e 13 (f 2 + 1).toNat else 0) ≤ 600 ∧ 0 ≤ (if 0 ≤ f 2 + 1 ∧ f 2 + 1 < e 10 6 then e 12 (f 2 + 1).toNat else 0) ∧ (if 0 ≤ f 2 + 1 ∧ f 2 + 1 < e 10 6 then e 12 (f 2 + 1).toNat else 0) ≤ 9 ∧ (if 0 ≤ f 2 + 1 ∧ f 2 + 1 < e 10 6 then eTh e (f 2 + 1).toNat else 0) = eTh e (f 2 + 1).toNat ∧ f 6 - (yDry e (f 2).toNat + f 3) = (if 0 ≤ f 2 + 1 ∧ f 2 + 1 < e 10 6 then e 13 (f 2 + 1).toNat else 0) + yDry e (f 2 + 1).toNat + yMass e ((f 2 + 1).toNat + 1) ∧ f 7 - f 3 = (if 0 ≤ f 2 + 1 ∧ f 2 + 1 < e 10 6 then e 13 (f 2 + 1).toNat else 0) + eAll e ((f 2 + 1).toNat + 1)
    rw [e1] at b6 b7
    have c : 0 ≤ f 2 + 1 ∧ f 2 + 1 < e 10 6 := ⟨by omega, q2⟩
    rw [if_pos c, if_pos c, if_pos c]
    refine ⟨by omega, by omega, by omega, by omega, rfl, by omega, by omega⟩
  · have q2 : f 2 + 1 = e 10 6 := q
    have al := eAll_end (e := e) (k := (f 2 + 1).toNat) (by omega)
    have mm := hR.mass (f 2 + 1).toNat
    show (if 0 ≤ f 2 + 1 ∧ f 2 + 1 < e 10 6 then e 13 (f 2 + 1).toNat else 0) = 0 ∧ (if 0 ≤ f 2 + 1 ∧ f 2 + 1 < e 10 6 then e 12 (f 2 + 1).toNat else 0) = 0 ∧ (if 0 ≤ f 2 + 1 ∧ f 2 + 1 < e 10 6 then eTh e (f 2 + 1).toNat else 0) = 0 ∧ 0 ≤ f 6 - (yDry e (f 2).toNat + f 3) ∧ f 6 - (yDry e (f 2).toNat + f 3) ≤ 8559 ∧ f 7 - f 3 = 0
    have c : ¬ (0 ≤ f 2 + 1 ∧ f 2 + 1 < e 10 6) := by omega
    rw [e1] at b6 b7
    rw [if_neg c, if_neg c, if_neg c]
    refine ⟨rfl, rfl, rfl, by omega, by omega, by omega⟩
  · have q2 : f 2 + 1 < e 10 6 := q
    have u := hR.2.2.2.1 (f 2 + 1).toNat (by omega)
    show 1 ≤ (if 0 ≤ f 2 + 1 ∧ f 2 + 1 < e 10 6 then e 12 (f 2 + 1).toNat else 0)
    rw [if_pos ⟨by omega, q2⟩]
    exact u.2
  · show (if j = 3 then _ else if j = 4 then _ else if j = 5 then _ else if j = 2 then _ else if j = 6 then _ else if j = 7 then _ else f j) = f j
    rw [if_neg (by omega), if_neg (by omega), if_neg (by omega), if_neg (by omega), if_neg (by omega), if_neg (by omega)]
theorem WF.lt (h : WF e f) (h7 : 0 < f 7) : f 2 < e 10 6 := by
  obtain ⟨⟨a1, a2, a3, a4⟩, -⟩ := h
  rcases (show f 2 < e 10 6 ∨ f 2 = e 10 6 by omega) with q | q
  · exact q
  · have := a4 q
    omega
theorem WF.p7 (hR : YR e) (h : WF e f) : f 3 ≤ f 7 ∧ 0 ≤ f 3 ∧ 0 ≤ f 7 := by
  obtain ⟨⟨a1, a2, a3, a4⟩, -⟩ := h
  rcases (show f 2 < e 10 6 ∨ f 2 = e 10 6 by omega) with q | q
  · have := a3 q
    have := eAll_nn hR ((f 2).toNat + 1)
    omega
  · have := a4 q
    omega
theorem WF_T (hR : YR e) (hS : WS e) (h : WF e f) (h7 : 0 < f 7) (h8 : f 8 < 2000) (h3 : 0 < f 3) : WF e (fT e f) ∧ fT e f 8 = f 8 + 1 ∧ fT e f 7 < f 7 ∧ f 2 ≤ fT e f 2 ∧ (¬ f 13 = -1 → ¬ fT e f 13 = -1) := by
  have h2 := h.lt h7
  obtain ⟨w1, w2, w3, w3b, w4, w5⟩ := WF_B hS h h2 h3 h8
  have h13 : fB e f 13 = if f 11 < fDg e f ∧ f 13 = -1 ∧ e 27 0 < fDg e f then f 8 else f 13 := rfl
  have b7 : fB e f 7 = f 7 - fBu f := rfl
  unfold fT
  split
  · rename_i q
    obtain ⟨d1, d2, d3, d4⟩ := WF_D hR w1.1 w1.2.2 (by omega)
    have d8 := d4 8 (by omega)
    have d13 := d4 13 (by omega)
    refine ⟨d1, by omega, by omega, by omega, fun q2 => ?_⟩
    rw [d13, h13, if_neg (by omega)]
    exact q2
  · refine ⟨w1, w5, by omega, by omega, fun q2 => ?_⟩
    rw [h13, if_neg (by omega)]
    exact q2
theorem WF_S (hR : YR e) (hS : WS e) (h : WF e f) (h7 : 0 < f 7) (h8 : f 8 < 2000) : WF e (fS e f) ∧ (fS e f 7).toNat + (e 10 6 - fS e f 2).toNat < (f 7).toNat + (e 10 6 - f 2).toNat ∧ (¬ f 13 = -1 → ¬ fS e f 13 = -1) ∧ f 8 ≤ fS e f 8 ∧ fS e f 8 ≤ f 8 + 1 := by
  have h2 := h.lt h7
  have p := h.p7 hR
  unfold fS
  split
  · rename_i q
    obtain ⟨d1, d2, d3, d4⟩ := WF_D hR h.1 h.2.2 h2
    have d8 := d4 8 (by omega)
    have d13 := d4 13 (by omega)
    refine ⟨d1, by omega, fun q2 => by rw [d13]; exact q2, by omega, by omega⟩
  · obtain ⟨w1, w2, w3, w4, w5⟩ := WF_T hR hS h h7 h8 (by omega)
    have p2 := w1.p7 hR
    exact ⟨w1, by omega, w5, by omega, by omega⟩
theorem fR_ex (hR : YR e) (hS : WS e) (hU : U ≤ 2000) : ∀ (m : Nat) (f : Nat → Int), (f 7).toNat + (e 10 6 - f 2).toNat ≤ m → WF e f → ∃ n g, fR e U hs n f g := by
  intro m
  induction m with
  | zero =>
    intro f hm h
    refine ⟨0, f, fun q => ?_, rfl⟩
    have := q.1
    omega
  | succ m ih =>
    intro f hm h
    by_cases q : fGs U hs f
    · have s := WF_S hR hS h q.1 (by have := q.2.1; omega)
      obtain ⟨n, g, hr⟩ := ih (fS e f) (by omega) s.1
      exact ⟨n + 1, g, q, hr⟩
    · exact ⟨0, f, q, rfl⟩
theorem fR_WF (hR : YR e) (hS : WS e) (hU : U ≤ 2000) : ∀ (n : Nat) (f : Nat → Int), fR e U hs n f g → WF e f → WF e g ∧ (¬ f 13 = -1 → ¬ g 13 = -1) ∧ ¬ fGs U hs g ∧ f 8 ≤ g 8 ∧ (f 8 ≤ U → g 8 ≤ U) := by
  intro n
  induction n with
  | zero =>
    intro f h w
    obtain ⟨h1, rfl⟩ := h
    exact ⟨w, fun q => q, h1, Int.le_refl _, fun q => q⟩
  | succ n ih =>
    intro f h w
    obtain ⟨q, h⟩ := h
    have s := WF_S hR hS w q.1 (by have := q.2.1; omega)
    obtain ⟨i1, i2, i3, i4, i5⟩ := ih _ h s.1
    have := q.2.1
    exact ⟨i1, fun x => i2 (s.2.2.1 x), i3, by omega, fun _ => i5 (by omega)⟩
theorem fR_stop (h : fR e U hs n f g) (q : ¬ fGs U hs f) : g = f := by
  cases n with
  | zero => exact h.2
  | succ n => exact absurd h.1 q
theorem fR_next (h : fR e U hs n f g) (q : fGs U hs f) : ∃ m, n = m + 1 ∧ fR e U hs m (fS e f) g := by
  cases n with
  | zero => exact absurd q h.1
  | succ n => exact ⟨n, rfl, h.2⟩
theorem fBs_stop (q : ¬ (0 < f 3 ∧ f 8 < U)) : ∀ m, fBs e U hs m f = f := by
  intro m
  cases m with
  | zero => rfl
  | succ m => exact if_neg q
theorem fGo_stop (q : ¬ (0 < f 7 ∧ f 8 < U)) : ∀ m, fGo e U hs m f = f := by
  intro m
  cases m with
  | zero => rfl
  | succ m => exact if_neg q
theorem fBs_run (hR : YR e) (hS : WS e) (hU : U ≤ 2000) : ∀ (m : Nat) (f : Nat → Int) (n : Nat), f 3 ≤ m → 0 < f 3 → WF e f → fGs U hs f → fR e U hs n f g → (fBs e U hs m f 3 = 0 ∧ fBs e U hs m f 2 = f 2 ∧ WF e (fBs e U hs m f) ∧ ∃ n', fR e U hs n' (fD e (fBs e U hs m f)) g) ∨ (¬ fBs e U hs m f 3 = 0 ∧ fBs e U hs m f = g ∧ ¬ fGs U hs g) := by
  intro m
  induction m with
  | zero => intro f n h1 h2; omega
  | succ m ih =>
    intro f n h1 h2 w q hr
    obtain ⟨n1, en1, hr'⟩ := fR_next hr q
    replace hr := hr'
    clear hr' en1
    have q8 := q.2.1
    have lt := w.lt q.1
    obtain ⟨w1, w2, w3, w3b, w4, w5⟩ := WF_B hS w lt h2 (by omega)
    have eS : fS e f = fT e f := if_neg (by omega)
    rw [eS] at hr
    have e0 : fBs e U hs (m + 1) f = if hs = 1 ∧ ¬ fB e f 13 = -1 then fB e f else fBs e U hs m (fB e f) := if_pos ⟨h2, q8⟩
    rw [e0]
    by_cases z : fB e f 3 = 0
    · have eT : fT e f = fD e (fB e f) := if_pos z
      rw [eT] at hr
      have e1 : (if hs = 1 ∧ ¬ fB e f 13 = -1 then fB e f else fBs e U hs m (fB e f)) = fB e f := by
        split
        · rfl
        · exact fBs_stop (by omega) m
      rw [e1]
      exact Or.inl ⟨z, w4, w1, n1, hr⟩
    · have eT : fT e f = fB e f := if_neg z
      rw [eT] at hr
      have p7 := w1.p7 hR
      by_cases br : hs = 1 ∧ ¬ fB e f 13 = -1
      · rw [if_pos br]
        have ng : ¬ fGs U hs (fB e f) := fun t => br.2 (t.2.2 br.1)
        have := fR_stop hr ng
        exact Or.inr ⟨z, this.symm, by rw [this]; exact ng⟩
      · rw [if_neg br]
        by_cases t : fB e f 8 < U
        · rcases ih (fB e f) n1 (by omega) (by omega) w1 ⟨by omega, t, fun x => Classical.byContradiction fun y => br ⟨x, y⟩⟩ hr with c | c
          · exact Or.inl ⟨c.1, c.2.1.trans w4, c.2.2⟩
          · exact Or.inr c
        · rw [fBs_stop (by omega) m]
          have ng : ¬ fGs U hs (fB e f) := fun x => t x.2.1
          have := fR_stop hr ng
          exact Or.inr ⟨z, this.symm, by rw [this]; exact ng⟩
theorem fGo_run (hR : YR e) (hS : WS e) (hU : U ≤ 2000) : ∀ (k : Nat) (f : Nat → Int) (n : Nat), e 10 6 ≤ f 2 + k → WF e f → (hs = 1 → f 13 = -1) → fR e U hs n f g → fGo e U hs k f = g := by
  intro k
  induction k with
  | zero =>
    intro f n hk w h1 hr
    have ng : ¬ fGs U hs f := fun q => by have := w.lt q.1; omega
    exact (fR_stop hr ng).symm
  | succ k ih =>
    intro f n hk w h1 hr
    by_cases q : 0 < f 7 ∧ f 8 < U
    · have e0 : fGo e U hs (k + 1) f = if hs = 1 ∧ ¬ fRd e U hs f 13 = -1 then fRd e U hs f else fGo e U hs k (fRd e U hs f) := if_pos q
      rw [e0]
      have p7 := w.p7 hR
      have key : (fRd e U hs f = g ∧ ¬ fGs U hs g) ∨ (e 10 6 ≤ fRd e U hs f 2 + k ∧ WF e (fRd e U hs f) ∧ ∃ n', fR e U hs n' (fRd e U hs f) g) := by
        by_cases z : f 3 = 0
        · have e1 : fRd e U hs f = fD e f := by
            unfold fRd
            rw [fBs_stop (by omega), if_pos z]
          obtain ⟨n1, en1, hr'⟩ := fR_next hr ⟨q.1, q.2, h1⟩
          replace hr := hr'
          clear hr' en1
          have eS : fS e f = fD e f := if_pos z
          rw [eS] at hr
          obtain ⟨d1, d2, d3, d4⟩ := WF_D hR w.1 w.2.2 (w.lt q.1)
          rw [e1]
          exact Or.inr ⟨by omega, d1, n1, hr⟩
        · rcases fBs_run hR hS hU (f 3).toNat f n (by omega) (by omega) w ⟨q.1, q.2, h1⟩ hr with ⟨c1, c2, c3, n', c4⟩ | ⟨c1, c2, c3⟩
          · have e1 : fRd e U hs f = fD e (fBs e U hs (f 3).toNat f) := if_pos c1
            obtain ⟨d1, d2, d3, d4⟩ := WF_D hR c3.1 c3.2.2 (by rw [c2]; exact w.lt q.1)
            rw [e1]
            exact Or.inr ⟨by omega, d1, n', c4⟩
          · have e1 : fRd e U hs f = fBs e U hs (f 3).toNat f := if_neg c1
            exact Or.inl ⟨e1.trans c2, c3⟩
      rcases key with ⟨k1, k2⟩ | ⟨k1, k2, n', k3⟩
      · rw [k1]
        split
        · rfl
        · rename_i x
          exact fGo_stop (fun y => k2 ⟨y.1, y.2, fun z => Classical.byContradiction fun v => x ⟨z, v⟩⟩) k
      · split
        · rename_i x
          exact (fR_stop k3 (fun y => x.2 (y.2.2 x.1))).symm
        · rename_i x
          exact ih _ n' k1 k2 (fun z => Classical.byContradiction fun v => x ⟨z, v⟩) k3
    · rw [fGo_stop q]
      exact (fR_stop hr (fun x => q ⟨x.1, x.2.1⟩)).symm
/-- the class' rounds are a run -/
theorem fGo_ok (hR : YR e) (hS : WS e) (hU : U ≤ 2000) (w : WF e f) (h1 : hs = 1 → f 13 = -1) : ∃ n, fR e U hs n f (fGo e U hs 4 f) := by
  obtain ⟨n, g, hr⟩ := fR_ex hR hS (hs := hs) hU _ f (Nat.le_refl _) w
  have := fGo_run hR hS hU 4 f n (by have := hR.1; have := w.1.1; omega) w h1 hr
  exact ⟨n, by rw [this]; exact hr⟩
theorem fGo_un (hR : YR e) (hS : WS e) (hU : U ≤ 2000) (w : WF e f) (h1 : hs = 1 → f 13 = -1) (hr : fR e U hs n f g) : fGo e U hs 4 f = g :=
  fGo_run hR hS hU 4 f n (by have := hR.1; have := w.1.1; omega) w h1 hr
theorem fR_hasty (hR : YR e) (hS : WS e) (hU : U ≤ 2000) {gh : Nat → Int} : ∀ (n : Nat) (f : Nat → Int) (n' : Nat), WF e f → fR e U 1 n f gh → fR e U 0 n' f g → (¬ gh 13 = -1 → ¬ g 13 = -1) ∧ (gh 13 = -1 → gh = g) := by
  intro n
  induction n with
  | zero =>
    intro f n' w h1 h2
    obtain ⟨h1, rfl⟩ := h1
    refine ⟨(fR_WF hR hS hU n' _ h2 w).2.1, fun q => (fR_stop h2 (fun x => h1 ⟨x.1, x.2.1, fun _ => q⟩)).symm⟩
  | succ n ih =>
    intro f n' w h1 h2
    obtain ⟨q, h1⟩ := h1
    obtain ⟨m, em, h3⟩ := fR_next h2 ⟨q.1, q.2.1, fun x => absurd x (by decide)⟩
    exact ih _ m (WF_S hR hS w q.1 (by have := q.2.1; omega)).1 h1 h3
theorem fR_comp {U' : Int} (hUU : U ≤ U') {g' : Nat → Int} {n' : Nat} : ∀ (n : Nat) (f : Nat → Int), fR e U 0 n f g → fR e U' 0 n' g g' → ∃ n'', fR e U' 0 n'' f g' := by
  intro n
  induction n with
  | zero =>
    intro f h h2
    obtain ⟨-, rfl⟩ := h
    exact ⟨n', h2⟩
  | succ n ih =>
    intro f h h2
    obtain ⟨q, h⟩ := h
    obtain ⟨m, hm⟩ := ih _ h h2
    exact ⟨m + 1, ⟨q.1, by have := q.2.1; omega, fun x => absurd x (by decide)⟩, hm⟩
theorem fZ_ok (hR : YR e) : ∀ (k : Nat) (f : Nat → Int), e 10 6 ≤ f 2 + k → WF e f → 0 < f 7 → WF e (fZ e k f) ∧ 0 < fZ e k f 3 ∧ fZ e k f 2 < e 10 6 ∧ f 2 ≤ fZ e k f 2 ∧ (∀ j, 7 ≤ j → fZ e k f j = f j) ∧ ∀ (U hs : Int) (n : Nat) (g : Nat → Int), fR e U hs n f g → fGs U hs f → ∃ n', n' ≤ n ∧ fR e U hs n' (fZ e k f) g := by
  intro k
  induction k with
  | zero =>
    intro f hk w h7
    have := w.lt h7
    omega
  | succ k ih =>
    intro f hk w h7
    have lt := w.lt h7
    have p7 := w.p7 hR
    by_cases z : f 3 = 0
    · have e0 : fZ e (k + 1) f = fZ e k (fD e f) := if_pos z
      rw [e0]
      obtain ⟨d1, d2, d3, d4⟩ := WF_D hR w.1 w.2.2 lt
      obtain ⟨i1, i2, i3, i4, i5, i6⟩ := ih (fD e f) (by omega) d1 (by omega)
      have d8 := d4 8 (by omega)
      have d13 := d4 13 (by omega)
      refine ⟨i1, i2, i3, by omega, fun j hj => ?_, fun U hs n g hr q => ?_⟩
      · rw [i5 j hj]
        rcases (show j = 7 ∨ 8 ≤ j by omega) with rfl | h
        · omega
        · exact d4 j h
      · obtain ⟨m, em, hr'⟩ := fR_next hr q
        replace hr := hr'
        clear hr'
        have eS : fS e f = fD e f := if_pos z
        rw [eS] at hr
        obtain ⟨n', hn, h⟩ := i6 U hs m g hr ⟨by omega, by have := q.2.1; omega, by rw [d13]; exact q.2.2⟩
        exact ⟨n', by omega, h⟩
    · have e0 : fZ e (k + 1) f = f := if_neg z
      rw [e0]
      exact ⟨w, by omega, lt, Int.le_refl _, fun j _ => rfl, fun U hs n g hr _ => ⟨n, Nat.le_refl n, hr⟩⟩
theorem WF_Ls (hR : YR e) (w : WF e f) (lt : f 2 < e 10 6) : WF e (fLs e f) ∧ (∀ j, 8 ≤ j → fLs e f j = f j) := by
  have w1 := w.2.1 lt
  obtain ⟨⟨a1, a2, a3, a4⟩, -, t⟩ := id w
  obtain ⟨b1, b2, b3, b4, b5⟩ := a3 lt
  have wa : WA e (qUp f 4 (f 4 - 1)) := ⟨a1, a2, fun _ => ⟨b1, b2, show 0 ≤ f 4 - 1 by omega, show f 4 - 1 ≤ 9 by omega, b5⟩, fun q => by have q2 : f 2 = e 10 6 := q; omega⟩
  unfold fLs
  split
  · rename_i q
    obtain ⟨d1, d2, d3, d4⟩ := WF_D hR wa (show WT e f from t) (show f 2 < e 10 6 from lt)
    refine ⟨d1, fun j hj => ?_⟩
    rw [d4 j hj]
    exact if_neg (by omega)
  · refine ⟨⟨wa, fun _ => ?_, t⟩, fun j hj => if_neg (by omega)⟩
    show 1 ≤ f 4 - 1
    omega
theorem WF_Lose (hR : YR e) (w : WF e f) : WF e (fLose e f) ∧ fLose e f 13 = f 13 ∧ fLose e f 8 = f 8 := by
  unfold fLose
  split
  · rename_i q
    obtain ⟨i1, i2, i3, i4, i5, -⟩ := fZ_ok hR 4 f (by have := hR.1; have := w.1.1; omega) w q.1
    obtain ⟨l1, l2⟩ := WF_Ls hR i1 i3
    exact ⟨l1, (l2 13 (by omega)).trans (i5 13 (by omega)), (l2 8 (by omega)).trans (i5 8 (by omega))⟩
  · exact ⟨w, rfl, rfl⟩
theorem WF_Beg (hR : YR e) (hS : WS e) (hn : 0 < e 10 6) : WF e (fBeg e f) := by
  have s := hR.2.2.1 0
  have u := hR.2.2.2.1 0 (by omega)
  have m := YR.massS (σ := e) (k := 0) (by omega)
  have al := eAll_s (e := e) (k := 0) (by omega)
  have s2 := hS 0
  have c : (0 : Int) ≤ 0 ∧ (0 : Int) < e 10 6 := ⟨Int.le_refl _, hn⟩
  refine ⟨⟨Int.le_refl 0, ?_, fun _ => ?_, fun q => ?_⟩, fun _ => ?_, ?_⟩
  · show 0 ≤ e 10 6
    omega
  · show 0 ≤ (if (0 : Int) ≤ 0 ∧ (0 : Int) < e 10 6 then e 13 0 else 0) ∧ (if (0 : Int) ≤ 0 ∧ (0 : Int) < e 10 6 then e 13 0 else 0) ≤ 600 ∧ 0 ≤ (if (0 : Int) ≤ 0 ∧ (0 : Int) < e 10 6 then e 12 0 else 0) ∧ (if (0 : Int) ≤ 0 ∧ (0 : Int) < e 10 6 then e 12 0 else 0) ≤ 9 ∧ (if (0 : Int) ≤ 0 ∧ (0 : Int) < e 10 6 then eTh e 0 else 0) = eTh e 0 ∧ yMass e 0 = (if (0 : Int) ≤ 0 ∧ (0 : Int) < e 10 6 then e 13 0 else 0) + yDry e 0 + yMass e (0 + 1) ∧ qSum (e 13) (e 10 6).toNat 0 = (if (0 : Int) ≤ 0 ∧ (0 : Int) < e 10 6 then e 13 0 else 0) + eAll e (0 + 1)
    rw [if_pos c, if_pos c, if_pos c]
    have al2 : qSum (e 13) (e 10 6).toNat 0 = e 13 0 + eAll e (0 + 1) := al
    refine ⟨by omega, by omega, by omega, by omega, rfl, by omega, al2⟩
  · have q2 : 0 = e 10 6 := q
    omega
  · show 1 ≤ (if (0 : Int) ≤ 0 ∧ (0 : Int) < e 10 6 then e 12 0 else 0)
    rw [if_pos c]
    exact u.2
  · show ((0 : Int) ≤ 0 ∧ (0 : Int) ≤ 2000) ∧ ((0 : Int) ≤ 0 ∧ (0 : Int) ≤ 100000 * 0) ∧ ((-100000 : Int) ≤ 0 ∧ (0 : Int) ≤ 100000) ∧ ((0 : Int) = 0 → (0 : Int) = 0 ∧ (0 : Int) = 0 ∧ (0 : Int) = 0) ∧ ((0 : Int) ≤ 0 ∧ (0 : Int) ≤ 1000000000) ∧ ((0 : Int) ≤ 0 ∧ (0 : Int) ≤ 2000) ∧ ((-1 : Int) ≤ -1 ∧ (-1 : Int) ≤ 2000) ∧ ((-1 : Int) = -1 → 0 ≤ e 27 0)
    omega
end FLY
