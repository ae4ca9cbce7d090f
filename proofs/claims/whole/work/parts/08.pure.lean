/-! plain numbers: what stages weigh and gain -/
def qTank (sr z : Int) : Int := (z * sr + 99) / 100
def qBare (wt kd mn fr : Nat → Int) (k : Nat) : Int := mn k * wt (kd k).toNat + fr k
def qDry (sr : Int) (wt kd mn sf fr : Nat → Int) (k : Nat) : Int := qBare wt kd mn fr k + qTank sr (sf k)
def qSum (f : Nat → Int) : Nat → Nat → Int
  | 0, _ => 0
  | n + 1, j => f j + qSum f n (j + 1)
def qMass (ld sr : Int) (wt kd mn sf fr : Nat → Int) (n k : Nat) : Int := ld + qSum (fun j => qDry sr wt kd mn sf fr j + sf j) (n - k) k
def qLow (top : Int) : Nat → Int → Int
  | 0, _ => 0
  | n + 1, m => top / m + qLow top n (m - 1)
def qHigh (top : Int) : Nat → Int → Int
  | 0, _ => 0
  | n + 1, b => (top + b - 1) / b + qHigh top n (b - 1)
abbrev yTank (σ : vSt) (z : Int) : Int := qTank (σ 2 1) z
abbrev yBare (σ : vSt) (k : Nat) : Int := qBare (σ 6) (σ 11) (σ 12) (σ 14) k
abbrev yDry (σ : vSt) (k : Nat) : Int := qDry (σ 2 1) (σ 6) (σ 11) (σ 12) (σ 13) (σ 14) k
abbrev yMass (σ : vSt) (k : Nat) : Int := qMass (σ 2 0) (σ 2 1) (σ 6) (σ 11) (σ 12) (σ 13) (σ 14) (σ 10 6).toNat k
/-- the bounds of what the class keeps of engines and stages -/
def YR (σ : vSt) : Prop := (0 ≤ σ 2 0 ∧ σ 2 0 ≤ 999 ∧ 1 ≤ σ 2 1 ∧ σ 2 1 ≤ 50 ∧ 50 ≤ σ 2 2 ∧ σ 2 2 ≤ 100 ∧ 0 ≤ σ 3 6 ∧ σ 3 6 ≤ 6 ∧ 0 ≤ σ 10 6 ∧ σ 10 6 ≤ 4) ∧
  (∀ j : Nat, 0 ≤ σ 4 j ∧ σ 4 j ≤ 999 ∧ 0 ≤ σ 5 j ∧ σ 5 j ≤ 999 ∧ 0 ≤ σ 6 j ∧ σ 6 j ≤ 99 ∧ 0 ≤ σ 7 j ∧ σ 7 j ≤ 9999 ∧ 0 ≤ σ 8 j ∧ σ 8 j ≤ 99 ∧ 0 ≤ σ 9 j ∧ σ 9 j ≤ 900) ∧
  (∀ j : Nat, 0 ≤ σ 11 j ∧ σ 11 j ≤ 5 ∧ 0 ≤ σ 12 j ∧ σ 12 j ≤ 9 ∧ 0 ≤ σ 13 j ∧ σ 13 j ≤ 600 ∧ 0 ≤ σ 14 j ∧ σ 14 j ≤ 99) ∧
  (∀ j : Nat, (j : Int) < σ 10 6 → σ 11 j < σ 3 6 ∧ 1 ≤ σ 12 j) ∧ ∀ j : Nat, (j : Int) < σ 3 6 → 1 ≤ σ 4 j ∧ 1 ≤ σ 5 j ∧ 1 ≤ σ 6 j ∧ 1 ≤ σ 7 j
theorem tdiv_pos {x y : Int} (hx : 0 ≤ x) : x.tdiv y = x / y := Int.tdiv_eq_ediv_of_nonneg hx
theorem qTank_le {sr z : Int} (h1 : 0 ≤ sr) (h2 : sr ≤ 50) (h3 : 0 ≤ z) (h4 : z ≤ 600) : 0 ≤ qTank sr z ∧ qTank sr z ≤ 300 := by
  have a : 0 ≤ z * sr := Int.mul_nonneg h3 h1
  have b : z * sr ≤ 600 * 50 := Int.mul_le_mul h4 h2 h1 (by omega)
  unfold qTank
  omega
theorem mul_le {a b A B : Int} (h1 : 0 ≤ a) (h2 : a ≤ A) (h3 : 0 ≤ b) (h4 : b ≤ B) : 0 ≤ a * b ∧ a * b ≤ A * B := ⟨Int.mul_nonneg h1 h3, Int.mul_le_mul h2 h4 h3 (by omega)⟩
theorem YR.bare {σ : vSt} (h : YR σ) (k : Nat) : 0 ≤ yBare σ k ∧ yBare σ k ≤ 990 := by
  obtain ⟨-, hE, hS, -⟩ := h
  have a := hS k
  have b := hE (σ 11 k).toNat
  have c := mul_le (a := σ 12 k) (b := σ 6 (σ 11 k).toNat) (A := 9) (B := 99) (by omega) (by omega) (by omega) (by omega)
  unfold yBare qBare
  omega
theorem YR.bare1 {σ : vSt} (h : YR σ) {k : Nat} (hk : (k : Int) < σ 10 6) : 1 ≤ yBare σ k := by
  obtain ⟨-, hE, hS, h1, h2⟩ := h
  have a := hS k
  have b := h1 k hk
  have c := h2 (σ 11 k).toNat (by omega)
  have e : 1 * 1 ≤ σ 12 k * σ 6 (σ 11 k).toNat := Int.mul_le_mul b.2 c.2.2.1 (by omega) (by omega)
  unfold yBare qBare
  omega
theorem YR.dry {σ : vSt} (h : YR σ) (k : Nat) : 0 ≤ yDry σ k ∧ yDry σ k ≤ 1290 := by
  have a := h.bare k
  obtain ⟨h0, -, hS, -⟩ := h
  have b := qTank_le (sr := σ 2 1) (z := σ 13 k) (by omega) (by omega) (hS k).2.2.2.2.1 (hS k).2.2.2.2.2.1
  unfold yDry qDry
  unfold yBare at a
  omega
theorem qSum_bound {f : Nat → Int} {B : Int} (h : ∀ j, 0 ≤ f j ∧ f j ≤ B) : ∀ n j : Nat, 0 ≤ qSum f n j ∧ qSum f n j ≤ n * B := by
  intro n
  induction n with
  | zero => intro j; exact ⟨Int.le_refl _, by simp [qSum]⟩
  | succ n ih =>
    intro j
    have a := ih (j + 1)
    have b := h j
    have e : ((n + 1 : Nat) : Int) * B = n * B + B := by rw [Int.natCast_add, Int.add_mul]; simp
    show 0 ≤ f j + qSum f n (j + 1) ∧ f j + qSum f n (j + 1) ≤ _
    rw [e]
    omega
theorem qSum_snoc (f : Nat → Int) : ∀ n j : Nat, qSum f (n + 1) j = qSum f n j + f (j + n) := by
  intro n
  induction n with
  | zero => intro j; show f j + 0 = 0 + f j; omega
  | succ n ih =>
    intro j
    show f j + qSum f (n + 1) (j + 1) = f j + qSum f n (j + 1) + f (j + (n + 1))
    rw [ih, show j + 1 + n = j + (n + 1) by omega]
    omega
theorem YR.mass {σ : vSt} (h : YR σ) (k : Nat) : 0 ≤ yMass σ k ∧ yMass σ k ≤ 8559 := by
  have a := qSum_bound (f := fun j => qDry (σ 2 1) (σ 6) (σ 11) (σ 12) (σ 13) (σ 14) j + σ 13 j) (B := 1890) (fun j => by
    have b := h.dry j
    have c := h.2.2.1 j
    unfold yDry at b
    exact ⟨by omega, by omega⟩) ((σ 10 6).toNat - k) k
  obtain ⟨h0, -⟩ := h
  unfold yMass qMass
  have e : (((σ 10 6).toNat - k : Nat) : Int) ≤ 4 := by omega
  have e2 : (((σ 10 6).toNat - k : Nat) : Int) * 1890 ≤ 4 * 1890 := Int.mul_le_mul_of_nonneg_right e (by omega)
  omega
/-- a stage's mass is its own and what is above it -/
theorem YR.massS {σ : vSt} {k : Nat} (hk : (k : Int) < σ 10 6) : yMass σ k = yDry σ k + σ 13 k + yMass σ (k + 1) := by
  unfold yMass qMass yDry
  have e : (σ 10 6).toNat - k = ((σ 10 6).toNat - (k + 1)) + 1 := by omega
  rw [e]
  show σ 2 0 + ((qDry (σ 2 1) (σ 6) (σ 11) (σ 12) (σ 13) (σ 14) k + σ 13 k) + qSum _ _ (k + 1)) = _
  omega
theorem YR.mass1 {σ : vSt} (h : YR σ) {k : Nat} (hk : (k : Int) < σ 10 6) : 1 + σ 13 k ≤ yMass σ k := by
  rw [YR.massS hk]
  have a := h.bare1 hk
  have b := h.mass (k + 1)
  obtain ⟨h0, -, hS, -⟩ := h
  have c := qTank_le (sr := σ 2 1) (z := σ 13 k) (by omega) (by omega) (hS k).2.2.2.2.1 (hS k).2.2.2.2.2.1
  unfold yDry qDry
  unfold yBare at a
  omega
theorem ite_test (k s : Int) (h : (if 0 ≤ k ∧ k < s then (1 : Int) else 0) = 0) (h2 : 0 ≤ k) : s ≤ k := by omega
