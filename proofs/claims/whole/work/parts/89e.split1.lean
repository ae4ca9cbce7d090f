/-! plain: the best split -/
theorem qLow_add (top : Int) : ∀ (i j : Nat) (m : Int), qLow top (i + j) m = qLow top i m + qLow top j (m - i) := by
  intro i
  induction i with
  | zero =>
    intro j m
    rw [Nat.zero_add, show m - ((0 : Nat) : Int) = m by omega]
    show _ = 0 + _
    rw [Int.zero_add]
  | succ i ih =>
    intro j m
    rw [show i + 1 + j = (i + j) + 1 by omega]
    show top / m + qLow top (i + j) (m - 1) = top / m + qLow top i (m - 1) + qLow top j (m - ((i + 1 : Nat) : Int))
    rw [ih, Int.add_assoc, show m - 1 - (i : Int) = m - ((i + 1 : Nat) : Int) by omega]
theorem qLow_rng {top : Int} (h : 0 ≤ top) : ∀ (i : Nat) (m : Int), (i : Int) ≤ m → 0 ≤ qLow top i m ∧ qLow top i m ≤ top * i := by
  intro i
  induction i with
  | zero => intro m _; exact ⟨Int.le_refl _, by show (0 : Int) ≤ top * 0; omega⟩
  | succ i ih =>
    intro m hm
    have a := ih (m - 1) (by omega)
    have b : 0 ≤ top / m := Int.ediv_nonneg h (by omega)
    have c : top / m ≤ top := Int.ediv_le_self _ h
    have e : top * ((i + 1 : Nat) : Int) = top * i + top := by
      rw [show ((i + 1 : Nat) : Int) = (i : Int) + 1 by omega, Int.mul_add, Int.mul_one]
    show 0 ≤ top / m + qLow top i (m - 1) ∧ top / m + qLow top i (m - 1) ≤ _
    omega
theorem qSum_k {f : Nat → Int} {n k : Nat} (h : k < n) : qSum f (n - k) k = f k + qSum f (n - (k + 1)) (k + 1) := by
  rw [show n - k = (n - (k + 1)) + 1 by omega]
  rfl
theorem qSum_e {f : Nat → Int} {n k : Nat} (h : n ≤ k) : qSum f (n - k) k = 0 := by
  rw [show n - k = 0 by omega]
  rfl
theorem qTank_two {sr a b : Int} : 0 ≤ qTank sr a + qTank sr b - qTank sr (a + b) ∧ qTank sr a + qTank sr b - qTank sr (a + b) ≤ 1 := by
  unfold qTank
  rw [Int.add_mul]
  omega
theorem qTank_mono {sr a b : Int} (h : 0 ≤ sr) (hab : a ≤ b) : qTank sr a ≤ qTank sr b := by
  unfold qTank
  have := Int.mul_le_mul_of_nonneg_right hab h
  omega
theorem qTank_0 {sr : Int} : qTank sr 0 = 0 := by
  unfold qTank
  rw [Int.zero_mul]
  decide
def sY (e : vSt) (z : Int) (x : Nat → Int) : vSt := vRow e 13 (fun j => x j * z)
abbrev sN (e : vSt) : Nat := (e 10 6).toNat
theorem sN_le {e : vSt} (hR : YR e) : sN e ≤ 4 := by
  have := hR.1
  show (e 10 6).toNat ≤ 4
  omega
def sSu (n k : Nat) (x : Nat → Int) : Int := qSum x (n - k) k
def sTk (e : vSt) (z : Int) (k : Nat) (x : Nat → Int) : Int := qSum (fun j => qTank (e 2 1) (x j * z)) (sN e - k) k
def sEx (e : vSt) (z : Int) (k : Nat) (x : Nat → Int) : Int := sTk e z k x - qTank (e 2 1) (sSu (sN e) k x * z)
def sBa (e : vSt) (k : Nat) : Int := e 2 0 + qSum (yBare e) (sN e - k) k
def sTop (e : vSt) (k : Nat) : Int := 1000 * e 5 (e 11 k).toNat
def sGa (e : vSt) (z : Int) (x : Nat → Int) (k : Nat) : Int := qLow (sTop e k) (x k * z).toNat (sBa e k + sTk e z k x + sSu (sN e) k x * z)
def sLo (e : vSt) (z : Int) (k : Nat) (x : Nat → Int) : Int := qSum (sGa e z x) (sN e - k) k
def sKe (n k : Nat) (x : Nat → Int) : Int := qSum (fun j => x j * qPow j) (n - k) k
theorem sMass (e : vSt) (z : Int) (x : Nat → Int) (k : Nat) : yMass (sY e z x) k = sBa e k + sTk e z k x + sSu (sN e) k x * z := by
  have a : ∀ (m j : Nat), qSum (fun j => qDry (e 2 1) (e 6) (e 11) (e 12) (fun j => x j * z) (e 14) j + x j * z) m j = qSum (yBare e) m j + qSum (fun j => qTank (e 2 1) (x j * z)) m j + qSum x m j * z := by
    intro m
    induction m with
    | zero => intro j; show (0 : Int) = 0 + 0 + 0 * z; omega
    | succ m ih =>
      intro j
      show (qBare (e 6) (e 11) (e 12) (e 14) j + qTank (e 2 1) (x j * z) + x j * z) + qSum _ m (j + 1) = (yBare e j + qSum (yBare e) m (j + 1)) + (qTank (e 2 1) (x j * z) + qSum _ m (j + 1)) + (x j + qSum x m (j + 1)) * z
      rw [ih, Int.add_mul]
      show yBare e j + qTank (e 2 1) (x j * z) + x j * z + _ = _
      omega
  show e 2 0 + qSum (fun j => qDry (e 2 1) (e 6) (e 11) (e 12) (fun j => x j * z) (e 14) j + x j * z) (sN e - k) k = _
  rw [a]
  unfold sBa sTk sSu
  omega
theorem sYlow (e : vSt) (z : Int) (x : Nat → Int) (k : Nat) : yLow (sY e z x) k = sGa e z x k := by
  unfold yLow sGa
  rw [sMass]
  rfl
section SPL
variable {e : vSt} {z : Int} {k : Nat} {x y : Nat → Int}
theorem sSu_s {n : Nat} (h : k < n) : sSu n k x = x k + sSu n (k + 1) x := qSum_k h
theorem sKe_s {n : Nat} (h : k < n) : sKe n k x = x k * qPow k + sKe n (k + 1) x := qSum_k h
theorem sTk_s (h : k < sN e) : sTk e z k x = qTank (e 2 1) (x k * z) + sTk e z (k + 1) x := qSum_k h
theorem sLo_s (h : k < sN e) : sLo e z k x = sGa e z x k + sLo e z (k + 1) x := qSum_k h
theorem sBa_s (h : k < sN e) : sBa e k = yBare e k + sBa e (k + 1) := by
  unfold sBa
  rw [qSum_k h]
  omega
theorem sEx_s (h : k < sN e) : sEx e z k x = sEx e z (k + 1) x + (qTank (e 2 1) (sSu (sN e) (k + 1) x * z) + qTank (e 2 1) (x k * z) - qTank (e 2 1) (sSu (sN e) k x * z)) := by
  unfold sEx
  rw [sTk_s h]
  omega
def sAg (n k : Nat) (x y : Nat → Int) : Prop := ∀ j, k ≤ j → j < n → x j = y j
theorem sSu_c {n : Nat} (h : sAg n k x y) : sSu n k x = sSu n k y := qSum_cong _ _ (fun i h1 h2 => h i h1 (by omega))
theorem sKe_c {n : Nat} (h : sAg n k x y) : sKe n k x = sKe n k y := qSum_cong _ _ (fun i h1 h2 => by rw [h i h1 (by omega)])
theorem sTk_c (h : sAg (sN e) k x y) : sTk e z k x = sTk e z k y := qSum_cong _ _ (fun i h1 h2 => by rw [h i h1 (by omega)])
theorem sEx_c (h : sAg (sN e) k x y) : sEx e z k x = sEx e z k y := by
  unfold sEx
  rw [sTk_c h, sSu_c h]
theorem sLo_c (h : sAg (sN e) k x y) : sLo e z k x = sLo e z k y := qSum_cong _ _ (fun i h1 h2 => by
  have h' : sAg (sN e) i x y := fun j a b => h j (by omega) b
  unfold sGa
  rw [sTk_c h', sSu_c h', h i h1 (by omega)])
def sNn (n k : Nat) (x : Nat → Int) : Prop := ∀ j, k ≤ j → j < n → 0 ≤ x j
theorem sSu_nn {n : Nat} : ∀ (m k : Nat), n - k = m → sNn n k x → 0 ≤ sSu n k x ∧ ∀ j, k ≤ j → j < n → x j ≤ sSu n k x := by
  intro m
  induction m with
  | zero => intro k hm _; exact ⟨by unfold sSu; rw [qSum_e (by omega)]; exact Int.le_refl _, fun j _ _ => by omega⟩
  | succ m ih =>
    intro k hm h
    have a := ih (k + 1) (by omega) (fun j p q => h j (by omega) q)
    have b := h k (Nat.le_refl _) (by omega)
    rw [sSu_s (by omega)]
    refine ⟨by omega, fun j p q => ?_⟩
    rcases (show j = k ∨ k + 1 ≤ j by omega) with rfl | t
    · omega
    · have := a.2 j t q
      omega
theorem sTk_nn (hR : YR e) (hz : 0 ≤ z) : ∀ (m k : Nat), sN e - k = m → sNn (sN e) k x → 0 ≤ sTk e z k x := by
  intro m
  induction m with
  | zero => intro k hm _; unfold sTk; rw [qSum_e (by omega)]; exact Int.le_refl _
  | succ m ih =>
    intro k hm h
    have a := ih (k + 1) (by omega) (fun j p q => h j (by omega) q)
    have b := qTank_mono (sr := e 2 1) (a := 0) (b := x k * z) (by have := hR.1; omega) (Int.mul_nonneg (h k (Nat.le_refl _) (by omega)) hz)
    rw [qTank_0] at b
    rw [sTk_s (by omega)]
    omega
theorem sEx_rng : ∀ (m k : Nat), sN e - k = m → 0 ≤ sEx e z k x ∧ sEx e z k x ≤ (m - 1 : Nat) := by
  intro m
  induction m with
  | zero =>
    intro k hm
    unfold sEx sTk sSu
    rw [qSum_e (by omega), qSum_e (by omega), Int.zero_mul, qTank_0]
    omega
  | succ m ih =>
    intro k hm
    have a := ih (k + 1) (by omega)
    have b := qTank_two (sr := e 2 1) (a := sSu (sN e) (k + 1) x * z) (b := x k * z)
    rw [sEx_s (by omega), sSu_s (k := k) (by omega), Int.add_mul, Int.add_comm (x k * z)]
    rcases (show m = 0 ∨ 0 < m by omega) with rfl | t
    · have c : sSu (sN e) (k + 1) x = 0 := qSum_e (by omega)
      rw [c, Int.zero_mul, Int.zero_add, qTank_0]
      omega
    · omega
theorem sEx_4 (hR : YR e) : 0 ≤ sEx e z k x ∧ sEx e z k x ≤ 3 := by
  have a := sEx_rng (e := e) (z := z) (x := x) (sN e - k) k rfl
  have b := sN_le hR
  omega
theorem sKe_b {n : Nat} (hn : n ≤ 4) (hk : k < n) (hx : ∀ j, k < j → j < n → 0 ≤ x j ∧ x j ≤ 31) : 0 ≤ sKe n (k + 1) x ∧ sKe n (k + 1) x < qPow k := by
  have k4 : sKe n 4 x = 0 := qSum_e (by omega)
  have k3 : k < 3 → 0 ≤ sKe n 3 x ∧ sKe n 3 x ≤ 31 := by
    intro q
    rcases (show 3 < n ∨ n ≤ 3 by omega) with t | t
    · have := hx 3 q t
      rw [sKe_s t, k4]
      show 0 ≤ x 3 * 1 + 0 ∧ x 3 * 1 + 0 ≤ 31
      omega
    · rw [show sKe n 3 x = 0 from qSum_e t]
      omega
  have k2 : k < 2 → 0 ≤ sKe n 2 x ∧ sKe n 2 x ≤ 1023 := by
    intro q
    have := k3 (by omega)
    rcases (show 2 < n ∨ n ≤ 2 by omega) with t | t
    · have := hx 2 q t
      rw [sKe_s t]
      show 0 ≤ x 2 * 32 + sKe n 3 x ∧ x 2 * 32 + sKe n 3 x ≤ 1023
      omega
    · rw [show sKe n 2 x = 0 from qSum_e t]
      omega
  have k1 : k < 1 → 0 ≤ sKe n 1 x ∧ sKe n 1 x ≤ 32767 := by
    intro q
    have := k2 (by omega)
    rcases (show 1 < n ∨ n ≤ 1 by omega) with t | t
    · have := hx 1 q t
      rw [sKe_s t]
      show 0 ≤ x 1 * 1024 + sKe n 2 x ∧ x 1 * 1024 + sKe n 2 x ≤ 32767
      omega
    · rw [show sKe n 1 x = 0 from qSum_e t]
      omega
  rcases (show k = 0 ∨ k = 1 ∨ k = 2 ∨ k = 3 by omega) with rfl | rfl | rfl | rfl
  · have := k1 (by omega)
    show 0 ≤ sKe n 1 x ∧ sKe n 1 x < 32768
    omega
  · have := k2 (by omega)
    show 0 ≤ sKe n 2 x ∧ sKe n 2 x < 1024
    omega
  · have := k3 (by omega)
    show 0 ≤ sKe n 3 x ∧ sKe n 3 x < 32
    omega
  · show 0 ≤ sKe n 4 x ∧ sKe n 4 x < 1
    omega
theorem sBa_nn (hR : YR e) (k : Nat) : 0 ≤ sBa e k ∧ sBa e k ≤ 5000 := by
  have a := qSum_bound (f := yBare e) (B := 990) (fun j => hR.bare j) (sN e - k) k
  have b : (((sN e - k : Nat) : Int)) * 990 ≤ 4 * 990 := Int.mul_le_mul_of_nonneg_right (by have := sN_le hR; omega) (by omega)
  have c := hR.1
  unfold sBa
  omega
theorem sTop_rng (hR : YR e) (k : Nat) : 0 ≤ sTop e k ∧ sTop e k ≤ 999000 := by
  have := hR.2.1 (e 11 k).toNat
  unfold sTop
  omega
theorem sLo_rng (hR : YR e) (hz : 0 ≤ z) : ∀ (m k : Nat), sN e - k = m → sNn (sN e) k x → 0 ≤ sLo e z k x ∧ sLo e z k x ≤ 999000 * (sSu (sN e) k x * z) := by
  intro m
  induction m with
  | zero =>
    intro k hm _
    unfold sLo sSu
    rw [qSum_e (by omega), qSum_e (by omega), Int.zero_mul]
    omega
  | succ m ih =>
    intro k hm h
    have a := ih (k + 1) (by omega) (fun j p q => h j (by omega) q)
    have hk := h k (Nat.le_refl _) (by omega)
    have p1 := Int.mul_nonneg hk hz
    have p2 := sTk_nn (z := z) hR hz (m + 1) k hm h
    have p3 := Int.mul_nonneg (sSu_nn m (k + 1) (by omega) (fun j p q => h j (by omega) q)).1 hz
    have p4 := sBa_nn hR k
    have p5 := sTop_rng hR k
    rw [sLo_s (by omega), sSu_s (by omega), Int.add_mul]
    have es : sSu (sN e) k x * z = x k * z + sSu (sN e) (k + 1) x * z := by rw [sSu_s (by omega), Int.add_mul]
    have b := qLow_rng p5.1 (x k * z).toNat (sBa e k + sTk e z k x + sSu (sN e) k x * z) (by omega)
    have c : sTop e k * ((x k * z).toNat : Int) ≤ 999000 * ((x k * z).toNat : Int) := Int.mul_le_mul_of_nonneg_right p5.2 (by omega)
    have d : (((x k * z).toNat : Nat) : Int) = x k * z := by omega
    rw [d] at b c
    unfold sGa
    omega
def sC (e : vSt) (z : Int) (k : Nat) (s ex : Int) (x : Nat → Int) : Prop := sNn (sN e) k x ∧ sSu (sN e) k x = s ∧ sEx e z k x = ex
def sB (lo ke : (Nat → Int) → Int) (C : (Nat → Int) → Prop) (a b : Int) : Prop := (a = -1 ∧ ∀ x, ¬ C x) ∨ (0 ≤ a ∧ ∃ x, C x ∧ lo x = a ∧ ke x = b ∧ ∀ y, C y → lo y < a ∨ (lo y = a ∧ b ≤ ke y))
theorem sB_c {lo ke : (Nat → Int) → Int} {C C' : (Nat → Int) → Prop} {a b : Int} (h : sB lo ke C a b) (hc : ∀ x, C x ↔ C' x) : sB lo ke C' a b := by
  rcases h with ⟨h1, h2⟩ | ⟨h1, x, h2, h3, h4, h5⟩
  · exact Or.inl ⟨h1, fun x q => h2 x ((hc x).mpr q)⟩
  · exact Or.inr ⟨h1, x, (hc x).mp h2, h3, h4, fun y q => h5 y ((hc y).mpr q)⟩
/-- the gain of stage k with h lots, when s lots in all stand from it up and those above weigh t extra -/
def sGn (e : vSt) (z : Int) (k : Nat) (s h t : Int) : Int := qLow (sTop e k) (h * z).toNat (sBa e k + (qTank (e 2 1) ((s - h) * z) + qTank (e 2 1) (h * z) + t) + s * z)
def sMo (e : vSt) (z s h : Int) : Int := qTank (e 2 1) ((s - h) * z) + qTank (e 2 1) (h * z) - qTank (e 2 1) (s * z)
theorem sC_dn {s ex : Int} (h : k < sN e) (c : sC e z k s ex x) : sC e z (k + 1) (s - x k) (sEx e z (k + 1) x) x ∧ ex = sEx e z (k + 1) x + sMo e z s (x k) ∧ sLo e z k x = sGn e z k s (x k) (sEx e z (k + 1) x) + sLo e z (k + 1) x ∧ 0 ≤ x k ∧ x k ≤ s := by
  obtain ⟨c1, c2, c3⟩ := c
  have a := sSu_s (x := x) h
  have n1 : sNn (sN e) (k + 1) x := fun j p q => c1 j (by omega) q
  have b := (sSu_nn (sN e - (k + 1)) (k + 1) rfl n1).1
  have d := c1 k (Nat.le_refl _) h
  have e1 : sSu (sN e) (k + 1) x = s - x k := by omega
  have t1 : sTk e z k x = qTank (e 2 1) ((s - x k) * z) + qTank (e 2 1) (x k * z) + sEx e z (k + 1) x := by
    rw [sTk_s h, ← e1]
    unfold sEx
    omega
  refine ⟨⟨n1, e1, rfl⟩, ?_, ?_, d, by omega⟩
  · rw [← c3, sEx_s h, e1, c2]
    rfl
  · rw [sLo_s h]
    unfold sGa sGn
    rw [t1, c2]
theorem sC_up {s t v : Int} (h : k < sN e) (c : sC e z (k + 1) (s - v) t y) (hv : 0 ≤ v) : sC e z k s (t + sMo e z s v) (qUp y k v) ∧ sAg (sN e) (k + 1) (qUp y k v) y ∧ sEx e z (k + 1) (qUp y k v) = t ∧ sLo e z k (qUp y k v) = sGn e z k s v t + sLo e z (k + 1) y ∧ sKe (sN e) k (qUp y k v) = v * qPow k + sKe (sN e) (k + 1) y := by
  obtain ⟨c1, c2, c3⟩ := c
  have ag : sAg (sN e) (k + 1) (qUp y k v) y := fun j p q => if_neg (by omega)
  have ek : qUp y k v k = v := if_pos rfl
  have s1 : sSu (sN e) k (qUp y k v) = s := by
    rw [sSu_s h, sSu_c ag, ek, c2]
    omega
  have x1 : sEx e z (k + 1) (qUp y k v) = t := by rw [sEx_c ag, c3]
  have n1 : sNn (sN e) k (qUp y k v) := by
    intro j p q
    rcases (show j = k ∨ k + 1 ≤ j by omega) with rfl | u
    · rw [ek]; exact hv
    · rw [ag j u q]; exact c1 j u q
  have cc : sC e z k s (sEx e z k (qUp y k v)) (qUp y k v) := ⟨n1, s1, rfl⟩
  obtain ⟨d1, d2, d3, d4, d5⟩ := sC_dn h cc
  rw [x1, ek] at d2 d3
  refine ⟨⟨n1, s1, d2⟩, ag, x1, ?_, ?_⟩
  · rw [d3, sLo_c ag]
  · rw [sKe_s h, ek, sKe_c ag]
theorem sB_zero {s ex a b : Int} (h : k < sN e) (hs : sB (sLo e z (k + 1)) (sKe (sN e) (k + 1)) (sC e z (k + 1) s ex) a b) : sB (sLo e z k) (sKe (sN e) k) (fun x => sC e z k s ex x ∧ x k < 1) a b := by
  have g0 : ∀ t, sGn e z k s 0 t = 0 := by
    intro t
    unfold sGn
    rw [Int.zero_mul]
    rfl
  have m0 : sMo e z s 0 = 0 := by
    unfold sMo
    rw [Int.zero_mul, qTank_0, show s - 0 = s by omega]
    omega
  have dn : ∀ x, sC e z k s ex x ∧ x k < 1 → sC e z (k + 1) s ex x ∧ sLo e z k x = sLo e z (k + 1) x ∧ sKe (sN e) k x = sKe (sN e) (k + 1) x := by
    intro x hx
    obtain ⟨d1, d2, d3, d4, d5⟩ := sC_dn h hx.1
    have x0 : x k = 0 := by omega
    rw [x0] at d1 d2 d3
    rw [m0] at d2
    rw [g0] at d3
    rw [show s - 0 = s by omega, show sEx e z (k + 1) x = ex by omega] at d1
    refine ⟨d1, by omega, ?_⟩
    rw [sKe_s h, x0]
    omega
  rcases hs with ⟨h1, h2⟩ | ⟨h1, y, h2, h3, h4, h5⟩
  · exact Or.inl ⟨h1, fun x q => h2 x (dn x q).1⟩
  · obtain ⟨u1, u2, u3, u4, u5⟩ := sC_up (v := 0) h (show sC e z (k + 1) (s - 0) ex y by rw [show s - 0 = s by omega]; exact h2) (Int.le_refl _)
    rw [m0, Int.add_zero] at u1
    rw [g0] at u4
    refine Or.inr ⟨h1, qUp y k 0, ⟨u1, by unfold qUp; rw [if_pos rfl]; decide⟩, by omega, by omega, fun w q => ?_⟩
    obtain ⟨w1, w2, w3⟩ := dn w q
    have := h5 w w1
    omega
def sP (e : vSt) (z : Int) (k : Nat) (h t : Int) (x : Nat → Int) : Prop := x k < h ∨ (x k = h ∧ sEx e z (k + 1) x < t)
/-- what an offer changes -/
theorem sB_offer {s v t a b a0 b0 : Int} (hR : YR e) (h : k < sN e) (hs : s ≤ 20) (hv : 0 ≤ v) (hz : 0 ≤ z)
    (hs1 : sB (sLo e z k) (sKe (sN e) k) (fun x => sC e z k s (t + sMo e z s v) x ∧ sP e z k v t x) a b) (hs0 : sB (sLo e z (k + 1)) (sKe (sN e) (k + 1)) (sC e z (k + 1) (s - v) t) a0 b0) :
    (a0 = -1 → sB (sLo e z k) (sKe (sN e) k) (fun x => sC e z k s (t + sMo e z s v) x ∧ sP e z k v (t + 1) x) a b) ∧
    (¬ a0 = -1 → (0 ≤ a0 ∧ 0 ≤ a0 + sGn e z k s v t ∧ a0 + sGn e z k s v t ≤ 999000 * (s * z) ∧ 0 ≤ t + sMo e z s v ∧ t + sMo e z s v ≤ 3) ∧
      sB (sLo e z k) (sKe (sN e) k) (fun x => sC e z k s (t + sMo e z s v) x ∧ sP e z k v (t + 1) x) (if a < a0 + sGn e z k s v t then a0 + sGn e z k s v t else a) (if a < a0 + sGn e z k s v t then b0 + v * qPow k else b)) := by
  have hn := sN_le hR
  have pl : ∀ x, sC e z k s (t + sMo e z s v) x → sP e z k v t x → x k < v := by
    intro x c p
    rcases p with p | ⟨p, q⟩
    · exact p
    · have d := (sC_dn h c).2.1
      rw [p] at d
      omega
  have nw : ∀ x, sC e z k s (t + sMo e z s v) x → sP e z k v (t + 1) x → sP e z k v t x ∨ (x k = v ∧ sC e z (k + 1) (s - v) t x ∧ sLo e z k x = sGn e z k s v t + sLo e z (k + 1) x ∧ sKe (sN e) k x = v * qPow k + sKe (sN e) (k + 1) x) := by
    intro x c p
    rcases p with p | ⟨p, q⟩
    · exact Or.inl (Or.inl p)
    · obtain ⟨d1, d2, d3, -⟩ := sC_dn h c
      rw [p] at d1 d2 d3
      have et : sEx e z (k + 1) x = t := by omega
      rw [et] at d1 d3
      refine Or.inr ⟨p, d1, d3, ?_⟩
      rw [sKe_s h, p]
  refine ⟨fun q => ?_, fun q => ?_⟩
  · refine sB_c hs1 (fun x => ⟨fun u => ⟨u.1, ?_⟩, fun u => ⟨u.1, ?_⟩⟩)
    · rcases u.2 with p | ⟨p, r⟩
      · exact Or.inl p
      · exact Or.inr ⟨p, by omega⟩
    · rcases nw x u.1 u.2 with p | ⟨-, p, -⟩
      · exact p
      · rcases hs0 with ⟨-, f⟩ | ⟨f, -⟩
        · exact absurd p (f x)
        · omega
  · rcases hs0 with ⟨f, -⟩ | ⟨f, y, c1, c2, c3, c4⟩
    · exact absurd f q
    · obtain ⟨u1, u2, u3, u4, u5⟩ := sC_up h c1 hv
      have lr := sLo_rng hR hz (sN e - k) k rfl u1.1
      rw [u1.2.1] at lr
      have er := sEx_4 (e := e) (z := z) (k := k) (x := qUp y k v) hR
      rw [u1.2.2] at er
      have ek : qUp y k v k = v := if_pos rfl
      refine ⟨⟨f, by omega, by omega, by omega, by omega⟩, ?_⟩
      have cy : sC e z k s (t + sMo e z s v) (qUp y k v) ∧ sP e z k v (t + 1) (qUp y k v) := ⟨u1, Or.inr ⟨ek, by omega⟩⟩
      have old : ∀ w, sC e z k s (t + sMo e z s v) w → sP e z k v t w → sKe (sN e) k w < v * qPow k + sKe (sN e) (k + 1) y := by
        intro w cw pw
        have d := pl w cw pw
        have m1 := (sSu_nn (sN e - k) k rfl cw.1).2
        rw [cw.2.1] at m1
        have b1 := sKe_b (x := w) hn h (fun j p q => ⟨cw.1 j (by omega) q, by have := m1 j (by omega) q; omega⟩)
        have m2 := (sSu_nn (sN e - (k + 1)) (k + 1) rfl c1.1).2
        rw [c1.2.1] at m2
        have b2 := sKe_b (x := y) hn h (fun j p q => ⟨c1.1 j (by omega) q, by have := m2 j (by omega) q; omega⟩)
        rw [sKe_s h]
        have q1 : (w k + 1) * qPow k ≤ v * qPow k := Int.mul_le_mul_of_nonneg_right (by omega) (by omega)
        rw [Int.add_mul, Int.one_mul] at q1
        omega
      by_cases g : a < a0 + sGn e z k s v t
      · rw [if_pos g, if_pos g]
        refine Or.inr ⟨by omega, qUp y k v, cy, by omega, by omega, fun w cw => ?_⟩
        rcases nw w cw.1 cw.2 with p | ⟨-, p1, p2, p3⟩
        · rcases hs1 with ⟨r1, r2⟩ | ⟨r1, x1, r2, r3, r4, r5⟩
          · exact absurd ⟨cw.1, p⟩ (r2 w)
          · have := r5 w ⟨cw.1, p⟩
            omega
        · have := c4 w p1
          omega
      · rw [if_neg g, if_neg g]
        rcases hs1 with ⟨r1, r2⟩ | ⟨r1, x1, r2, r3, r4, r5⟩
        · omega
        · refine Or.inr ⟨r1, x1, ⟨r2.1, ?_⟩, r3, r4, fun w cw => ?_⟩
          · rcases r2.2 with p | ⟨p, r⟩
            · exact Or.inl p
            · exact Or.inr ⟨p, by omega⟩
          · rcases nw w cw.1 cw.2 with p | ⟨-, p1, p2, p3⟩
            · exact r5 w ⟨cw.1, p⟩
            · have h1 := c4 w p1
              have h2 := old x1 r2.1 r2.2
              have m1 : sKe (sN e) (k + 1) y ≤ sKe (sN e) (k + 1) w ∨ sLo e z (k + 1) w < a0 := by omega
              omega
theorem sKe_0 {n : Nat} (hn : n ≤ 4) (hx : ∀ j, j < n → 0 ≤ x j ∧ x j ≤ 31) : 0 ≤ sKe n 0 x ∧ sKe n 0 x ≤ 1048575 := by
  rcases (show 0 < n ∨ n ≤ 0 by omega) with t | t
  · have a := sKe_b (k := 0) (x := x) hn t (fun j _ q => hx j q)
    have b := hx 0 t
    rw [sKe_s t]
    have c : qPow 0 = 32768 := rfl
    rw [c] at a
    show 0 ≤ x 0 * 32768 + sKe n (0 + 1) x ∧ x 0 * 32768 + sKe n (0 + 1) x ≤ 1048575
    omega
  · rw [show sKe n 0 x = 0 from qSum_e t]
    omega
def sAll (e : vSt) (z : Int) (L k : Nat) (A B : Nat → Int) : Prop := ∀ s ex : Nat, s ≤ L → ex < 4 → sB (sLo e z k) (sKe (sN e) k) (sC e z k s ex) (A (4 * s + ex)) (B (4 * s + ex))
def sRI (e : vSt) (z : Int) (L k m : Nat) (A B : Nat → Int) : Prop := ∀ s ex : Nat, s ≤ L → ex < 4 → (s ≤ m → sB (sLo e z (k + 1)) (sKe (sN e) (k + 1)) (sC e z (k + 1) s ex) (A (4 * s + ex)) (B (4 * s + ex))) ∧ (m < s → sB (sLo e z k) (sKe (sN e) k) (sC e z k s ex) (A (4 * s + ex)) (B (4 * s + ex)))
def sRF (e : vSt) (z : Int) (L k s : Nat) (h t : Int) (A B : Nat → Int) : Prop := ∀ s' ex : Nat, s' ≤ L → ex < 4 → (s' < s → sB (sLo e z (k + 1)) (sKe (sN e) (k + 1)) (sC e z (k + 1) s' ex) (A (4 * s' + ex)) (B (4 * s' + ex))) ∧ (s < s' → sB (sLo e z k) (sKe (sN e) k) (sC e z k s' ex) (A (4 * s' + ex)) (B (4 * s' + ex))) ∧ (s' = s → sB (sLo e z k) (sKe (sN e) k) (fun x => sC e z k s ex x ∧ sP e z k h t x) (A (4 * s' + ex)) (B (4 * s' + ex)))
variable {A B : Nat → Int} {L : Nat}
theorem sRF_start {s : Nat} (hR : YR e) (hk : k < sN e) (h : sRI e z L k s A B) : sRF e z L k s 1 0 A B := by
  intro s' ex h1 h2
  refine ⟨fun q => (h s' ex h1 h2).1 (by omega), fun q => (h s' ex h1 h2).2 q, fun q => ?_⟩
  subst q
  refine sB_c (sB_zero hk ((h s' ex h1 h2).1 (Nat.le_refl _))) (fun x => ?_)
  have r := sEx_4 (e := e) (z := z) (k := k + 1) (x := x) hR
  unfold sP
  constructor
  · exact fun u => ⟨u.1, by omega⟩
  · exact fun u => ⟨u.1, by omega⟩
theorem sRF_next {s : Nat} {v : Int} (hR : YR e) (h : sRF e z L k s v 4 A B) : sRF e z L k s (v + 1) 0 A B := by
  intro s' ex h1 h2
  obtain ⟨a, b, c⟩ := h s' ex h1 h2
  refine ⟨a, b, fun q => sB_c (c q) (fun x => ?_)⟩
  have r := sEx_4 (e := e) (z := z) (k := k + 1) (x := x) hR
  unfold sP
  constructor
  · exact fun u => ⟨u.1, by omega⟩
  · exact fun u => ⟨u.1, by omega⟩
theorem sRF_end {s : Nat} {v : Int} (hk : k < sN e) (hv : (s : Int) < v) (h : sRF e z L k s v 0 A B) (hs : 1 ≤ s) : sRI e z L k (s - 1) A B := by
  intro s' ex h1 h2
  obtain ⟨a, b, c⟩ := h s' ex h1 h2
  refine ⟨fun q => a (by omega), fun q => ?_⟩
  rcases (show s' = s ∨ s < s' by omega) with t | t
  · subst t
    refine sB_c (c rfl) (fun x => ⟨fun u => u.1, fun u => ⟨u, Or.inl ?_⟩⟩)
    have := (sC_dn hk u).2.2.2.2
    omega
  · exact b t
theorem sRI_top (h : sAll e z L (k + 1) A B) : sRI e z L k L A B := fun s ex h1 h2 => ⟨fun _ => h s ex h1 h2, fun q => by omega⟩
theorem sRI_all (hk : k < sN e) (h : sRI e z L k 0 A B) : sAll e z L k A B := by
  intro s ex h1 h2
  obtain ⟨a, b⟩ := h s ex h1 h2
  rcases (show s = 0 ∨ 0 < s by omega) with t | t
  · subst t
    refine sB_c (sB_zero hk (a (Nat.le_refl _))) (fun x => ⟨fun u => u.1, fun u => ⟨u, ?_⟩⟩)
    have := (sC_dn hk u).2.2.2.2
    have c0 : ((0 : Nat) : Int) = 0 := rfl
    omega
  · exact b t
theorem sRF_off {s v t : Nat} (hR : YR e) (hk : k < sN e) (hL : L ≤ 20) (hs : s ≤ L) (hv : v ≤ s) (hv1 : 1 ≤ v) (ht : t < 4) (hz : 0 ≤ z) (h : sRF e z L k s v t A B) :
    (A (4 * (s - v) + t) = -1 → sRF e z L k s v (t + 1) A B) ∧
    (¬ A (4 * (s - v) + t) = -1 → (0 ≤ A (4 * (s - v) + t) ∧ 0 ≤ A (4 * (s - v) + t) + sGn e z k s v t ∧ A (4 * (s - v) + t) + sGn e z k s v t ≤ 999000 * (s * z) ∧ 0 ≤ (t : Int) + sMo e z s v ∧ (t : Int) + sMo e z s v ≤ 3) ∧
      ∀ p : Nat, (p : Int) = s * 4 + t + sMo e z s v → sRF e z L k s v (t + 1) (if A p < A (4 * (s - v) + t) + sGn e z k s v t then qUp A p (A (4 * (s - v) + t) + sGn e z k s v t) else A) (if A p < A (4 * (s - v) + t) + sGn e z k s v t then qUp B p (B (4 * (s - v) + t) + v * qPow k) else B)) := by
  have c0 := (h (s - v) t (by omega) ht).1 (by omega)
  rw [show ((s - v : Nat) : Int) = (s : Int) - v by omega] at c0
  have keep : ∀ ex : Nat, ex < 4 → ¬ (ex : Int) = t + sMo e z s v → ∀ x, (sC e z k s ex x ∧ sP e z k v t x) ↔ (sC e z k s ex x ∧ sP e z k v (t + 1) x) := by
    intro ex _ hne x
    constructor
    · rintro ⟨c, p | ⟨p, q⟩⟩
      · exact ⟨c, Or.inl p⟩
      · exact ⟨c, Or.inr ⟨p, by omega⟩⟩
    · rintro ⟨c, p | ⟨p, q⟩⟩
      · exact ⟨c, Or.inl p⟩
      · refine ⟨c, Or.inr ⟨p, ?_⟩⟩
        have d := (sC_dn hk c).2.1
        rw [p] at d
        omega
  constructor
  · intro q
    rw [q] at c0
    intro s' ex h1 h2
    obtain ⟨a, b, c⟩ := h s' ex h1 h2
    refine ⟨a, b, fun es => ?_⟩
    subst es
    by_cases ne : (ex : Int) = t + sMo e z s' v
    · have c1 := c rfl
      rw [ne] at c1 ⊢
      exact (sB_offer hR hk (by omega) (by omega) hz c1 c0).1 rfl
    · exact sB_c (c rfl) (keep ex h2 ne)
  · intro q
    have bb : ∀ ex : Nat, ex < 4 → (ex : Int) = t + sMo e z s v → _ := fun ex he heq => by
      have c1 := (h s ex hs he).2.2 rfl
      rw [heq] at c1
      exact (sB_offer hR hk (by omega) (by omega) hz c1 c0).2 q
    have rg : 0 ≤ (t : Int) + sMo e z s v ∧ (t : Int) + sMo e z s v ≤ 3 := by
      rcases c0 with ⟨f, -⟩ | ⟨f, y, c1, -⟩
      · exact absurd f q
      · obtain ⟨u1, -⟩ := sC_up (v := (v : Int)) hk c1 (by omega)
        have er := sEx_4 (e := e) (z := z) (k := k) (x := qUp y k v) hR
        rw [u1.2.2] at er
        exact er
    have b1 := bb ((t : Int) + sMo e z s v).toNat (by omega) (by omega)
    refine ⟨b1.1, fun p hp => ?_⟩
    have ep : p = 4 * s + ((t : Int) + sMo e z s v).toNat := by omega
    intro s' ex h1 h2
    obtain ⟨a, b, c⟩ := h s' ex h1 h2
    by_cases same : 4 * s' + ex = p
    · have es : s' = s := by omega
      subst es
      have ne : (ex : Int) = t + sMo e z s' v := by omega
      refine ⟨fun x => by omega, fun x => by omega, fun _ => ?_⟩
      have b2 := b1.2
      rw [← ep] at b2
      rw [show 4 * s' + ex = p from same, ne]
      split
      · rename_i g
        rw [if_pos g, if_pos g] at b2
        rw [show qUp A p (A (4 * (s' - v) + t) + sGn e z k s' v t) p = A (4 * (s' - v) + t) + sGn e z k s' v t from if_pos rfl, show qUp B p (B (4 * (s' - v) + t) + v * qPow k) p = B (4 * (s' - v) + t) + v * qPow k from if_pos rfl]
        exact b2
      · rename_i g
        rw [if_neg g, if_neg g] at b2
        exact b2
    · have k1 : ∀ (X : Nat → Int) (y : Int), qUp X p y (4 * s' + ex) = X (4 * s' + ex) := fun X y => if_neg same
      have k2 : (if A p < A (4 * (s - v) + t) + sGn e z k s v t then qUp A p (A (4 * (s - v) + t) + sGn e z k s v t) else A) (4 * s' + ex) = A (4 * s' + ex) := by
        split
        · exact k1 _ _
        · rfl
      have k3 : (if A p < A (4 * (s - v) + t) + sGn e z k s v t then qUp B p (B (4 * (s - v) + t) + v * qPow k) else B) (4 * s' + ex) = B (4 * s' + ex) := by
        split
        · exact k1 _ _
        · rfl
      rw [k2, k3]
      refine ⟨a, b, fun es => ?_⟩
      subst es
      exact sB_c (c rfl) (keep ex h2 (by omega))
def sTB (e : vSt) (z : Int) (L : Nat) (t a b : Int) : Prop := sB (sLo e z 0) (sKe (sN e) 0) (fun x => sNn (sN e) 0 x ∧ sSu (sN e) 0 x = L ∧ sEx e z 0 x < t) a b
theorem sTB_0 {b : Int} (hR : YR e) : sTB e z L 0 (-1) b := Or.inl ⟨rfl, fun x h => by have := sEx_4 (e := e) (z := z) (k := 0) (x := x) hR; omega⟩
theorem sB_rng {a b : Int} {C : (Nat → Int) → Prop} (hR : YR e) (hz : 0 ≤ z) (hz2 : z ≤ 30) (hL : L ≤ 20) (hC : ∀ x, C x → sNn (sN e) 0 x ∧ sSu (sN e) 0 x = L) (h : sB (sLo e z 0) (sKe (sN e) 0) C a b) : -1 ≤ a ∧ a ≤ 600000000 ∧ (¬ a = -1 → 0 ≤ a ∧ 0 ≤ b ∧ b ≤ 1048575) := by
  rcases h with ⟨h1, -⟩ | ⟨h1, x, h2, h3, h4, -⟩
  · exact ⟨by omega, by omega, fun q => absurd h1 q⟩
  · obtain ⟨c1, c2⟩ := hC x h2
    have l := sLo_rng hR hz (sN e - 0) 0 rfl c1
    rw [c2] at l
    have m := mul_le (a := (L : Int)) (b := z) (A := 20) (B := 30) (by omega) (by omega) hz hz2
    have s := (sSu_nn (sN e - 0) 0 rfl c1).2
    rw [c2] at s
    have kb := sKe_0 (x := x) (sN_le hR) (fun j q => ⟨c1 j (by omega) q, by have := s j (by omega) q; omega⟩)
    exact ⟨by omega, by omega, fun _ => by omega⟩
theorem sTB_s {a b : Int} {t : Nat} (ht : t < 4) (h : sTB e z L t a b) (hA : sAll e z L 0 A B) : (A (4 * L + t) = -1 → sTB e z L (t + 1) a b) ∧ (¬ A (4 * L + t) = -1 → (a < A (4 * L + t) ∨ (A (4 * L + t) = a ∧ B (4 * L + t) < b) → sTB e z L (t + 1) (A (4 * L + t)) (B (4 * L + t))) ∧ (¬ (a < A (4 * L + t) ∨ (A (4 * L + t) = a ∧ B (4 * L + t) < b)) → sTB e z L (t + 1) a b)) := by
  have c := hA L t (Nat.le_refl _) ht
  have sp : ∀ x, (sNn (sN e) 0 x ∧ sSu (sN e) 0 x = L ∧ sEx e z 0 x < (t : Int) + 1) → (sNn (sN e) 0 x ∧ sSu (sN e) 0 x = L ∧ sEx e z 0 x < t) ∨ sC e z 0 L t x := by
    intro x ⟨h1, h2, h3⟩
    rcases (show sEx e z 0 x < t ∨ sEx e z 0 x = t by omega) with q | q
    · exact Or.inl ⟨h1, h2, q⟩
    · exact Or.inr ⟨h1, h2, q⟩
  have in1 : ∀ x, (sNn (sN e) 0 x ∧ sSu (sN e) 0 x = L ∧ sEx e z 0 x < t) → (sNn (sN e) 0 x ∧ sSu (sN e) 0 x = L ∧ sEx e z 0 x < (t : Int) + 1) := fun x q => ⟨q.1, q.2.1, by have := q.2.2; omega⟩
  have in2 : ∀ x, sC e z 0 L t x → (sNn (sN e) 0 x ∧ sSu (sN e) 0 x = L ∧ sEx e z 0 x < (t : Int) + 1) := fun x q => ⟨q.1, q.2.1, by have := q.2.2; omega⟩
  constructor
  · intro q
    rcases c with ⟨-, c⟩ | ⟨c, -⟩
    · refine sB_c h (fun x => ⟨in1 x, fun u => ?_⟩)
      rcases sp x u with w | w
      · exact w
      · exact absurd w (c x)
    · omega
  · intro q
    rcases c with ⟨c, -⟩ | ⟨c, x0, c1, c2, c3, c4⟩
    · exact absurd c q
    · constructor
      · intro g
        refine Or.inr ⟨c, x0, in2 x0 c1, c2, c3, fun y cy => ?_⟩
        rcases sp y cy with w | w
        · rcases h with ⟨h1, h2⟩ | ⟨h1, x1, h2, h3, h4, h5⟩
          · exact absurd w (h2 y)
          · have := h5 y w
            omega
        · exact c4 y w
      · intro g
        rcases h with ⟨h1, h2⟩ | ⟨h1, x1, h2, h3, h4, h5⟩
        · omega
        · refine Or.inr ⟨h1, x1, in1 x1 h2, h3, h4, fun y cy => ?_⟩
          rcases sp y cy with w | w
          · exact h5 y w
          · have := c4 y w
            omega
def sCd (n : Nat) (L : Int) (x : Nat → Int) : Prop := sNn n 0 x ∧ sSu n 0 x = L
theorem sTB_4 {a b : Int} (hR : YR e) (h : sTB e z L 4 a b) : sB (sLo e z 0) (sKe (sN e) 0) (sCd (sN e) L) a b :=
  sB_c h (fun x => ⟨fun u => ⟨u.1, u.2.1⟩, fun u => ⟨u.1, u.2, by have := sEx_4 (e := e) (z := z) (k := 0) (x := x) hR; omega⟩⟩)
theorem sAll_0 (hA0 : A 0 = 0) (hB0 : B 0 = 0) (hA : ∀ j : Nat, 0 < j → j < 84 → A j = -1) (hL : L ≤ 20) : sAll e z L (sN e) A B := by
  intro s ex h1 h2
  have ee : ∀ x, sEx e z (sN e) x = 0 := by
    intro x
    unfold sEx sTk sSu
    rw [qSum_e (Nat.le_refl _), qSum_e (Nat.le_refl _), Int.zero_mul, qTank_0]
    rfl
  rcases (show (s = 0 ∧ ex = 0) ∨ 0 < 4 * s + ex by omega) with ⟨rfl, rfl⟩ | t
  · refine Or.inr ⟨by rw [hA0]; exact Int.le_refl _, fun _ => 0, ⟨fun j p q => by omega, qSum_e (Nat.le_refl _), ee _⟩, ?_, ?_, fun y _ => Or.inr ⟨?_, ?_⟩⟩
    · rw [hA0]; exact qSum_e (Nat.le_refl _)
    · rw [hB0]; exact qSum_e (Nat.le_refl _)
    · rw [hA0]; exact qSum_e (Nat.le_refl _)
    · rw [hB0, show sKe (sN e) (sN e) y = 0 from qSum_e (Nat.le_refl _)]; exact Int.le_refl _
  · refine Or.inl ⟨hA _ t (by omega), fun x c => ?_⟩
    have c2 : sSu (sN e) (sN e) x = 0 := qSum_e (Nat.le_refl _)
    have c3 := c.2.1
    have c4 := c.2.2
    rw [c2] at c3
    rw [ee] at c4
    omega
end SPL
def qNx (last : Nat) : Nat → (Nat → Int) → Option (Nat → Int)
  | 0, _ => none
  | k + 1, x => if x last = 0 then qNx last k (qUp (qUp x last (x k)) k 0) else some (qUp (qUp x k (x k + 1)) last (x last - 1))
def sNo (n : Nat) (L : Int) (x : Nat → Int) : Prop := ∀ y, sCd n L y → sKe n 0 y ≤ sKe n 0 x
def sNw (n : Nat) (L : Int) (x w : Nat → Int) : Prop := sCd n L w ∧ sKe n 0 x < sKe n 0 w ∧ ∀ y, sCd n L y → sKe n 0 x < sKe n 0 y → sKe n 0 w ≤ sKe n 0 y
theorem sCd_1 {L : Int} {x : Nat → Int} : sCd 1 L x ↔ 0 ≤ x 0 ∧ x 0 = L := by
  constructor
  · intro h
    have a : x 0 + 0 = L := h.2
    exact ⟨h.1 0 (by omega) (by omega), by omega⟩
  · intro h
    refine ⟨fun j _ q => ?_, show x 0 + 0 = L by omega⟩
    rw [show j = 0 by omega]; exact h.1
theorem sCd_2 {L : Int} {x : Nat → Int} : sCd 2 L x ↔ 0 ≤ x 0 ∧ 0 ≤ x 1 ∧ x 0 + x 1 = L := by
  constructor
  · intro h
    have a : x 0 + (x 1 + 0) = L := h.2
    exact ⟨h.1 0 (by omega) (by omega), h.1 1 (by omega) (by omega), by omega⟩
  · intro h
    refine ⟨fun j _ q => ?_, show x 0 + (x 1 + 0) = L by omega⟩
    rcases (show j = 0 ∨ j = 1 by omega) with rfl | rfl
    · exact h.1
    · exact h.2.1
theorem sCd_3 {L : Int} {x : Nat → Int} : sCd 3 L x ↔ 0 ≤ x 0 ∧ 0 ≤ x 1 ∧ 0 ≤ x 2 ∧ x 0 + x 1 + x 2 = L := by
  constructor
  · intro h
    have a : x 0 + (x 1 + (x 2 + 0)) = L := h.2
    exact ⟨h.1 0 (by omega) (by omega), h.1 1 (by omega) (by omega), h.1 2 (by omega) (by omega), by omega⟩
  · intro h
    refine ⟨fun j _ q => ?_, show x 0 + (x 1 + (x 2 + 0)) = L by omega⟩
    rcases (show j = 0 ∨ j = 1 ∨ j = 2 by omega) with rfl | rfl | rfl
    · exact h.1
    · exact h.2.1
    · exact h.2.2.1
theorem sCd_4 {L : Int} {x : Nat → Int} : sCd 4 L x ↔ 0 ≤ x 0 ∧ 0 ≤ x 1 ∧ 0 ≤ x 2 ∧ 0 ≤ x 3 ∧ x 0 + x 1 + x 2 + x 3 = L := by
  constructor
  · intro h
    have a : x 0 + (x 1 + (x 2 + (x 3 + 0))) = L := h.2
    exact ⟨h.1 0 (by omega) (by omega), h.1 1 (by omega) (by omega), h.1 2 (by omega) (by omega), h.1 3 (by omega) (by omega), by omega⟩
  · intro h
    refine ⟨fun j _ q => ?_, show x 0 + (x 1 + (x 2 + (x 3 + 0))) = L by omega⟩
    rcases (show j = 0 ∨ j = 1 ∨ j = 2 ∨ j = 3 by omega) with rfl | rfl | rfl | rfl
    · exact h.1
    · exact h.2.1
    · exact h.2.2.1
    · exact h.2.2.2.1
theorem sKe_1 (x : Nat → Int) : sKe 1 0 x = x 0 * 32768 := by
  show x 0 * 32768 + 0 = _
  omega
theorem sKe_2 (x : Nat → Int) : sKe 2 0 x = x 0 * 32768 + x 1 * 1024 := by
  show x 0 * 32768 + (x 1 * 1024 + 0) = _
  omega
theorem sKe_3 (x : Nat → Int) : sKe 3 0 x = x 0 * 32768 + x 1 * 1024 + x 2 * 32 := by
  show x 0 * 32768 + (x 1 * 1024 + (x 2 * 32 + 0)) = _
  omega
theorem sKe_4 (x : Nat → Int) : sKe 4 0 x = x 0 * 32768 + x 1 * 1024 + x 2 * 32 + x 3 := by
  show x 0 * 32768 + (x 1 * 1024 + (x 2 * 32 + (x 3 * 1 + 0))) = _
  omega
theorem nx_1 {L : Int} {x : Nat → Int} (h : sCd 1 L x) : (qNx 0 0 x = none → sNo 1 L x) ∧ ∀ w, qNx 0 0 x = some w → sNw 1 L x w := by
  refine ⟨fun _ y hy => ?_, fun w q => ?_⟩
  · rw [sCd_1] at h hy
    rw [sKe_1, sKe_1]
    omega
  · cases q
theorem nx_2 {L : Int} {x : Nat → Int} (hL : L ≤ 20) (h : sCd 2 L x) : (qNx 1 1 x = none → sNo 2 L x) ∧ ∀ w, qNx 1 1 x = some w → sNw 2 L x w := by
  rw [sCd_2] at h
  have e0 : qNx 1 1 x = if x 1 = 0 then none else some (qUp (qUp x 0 (x 0 + 1)) 1 (x 1 - 1)) := rfl
  by_cases z : x 1 = 0
  · rw [e0, if_pos z]
    refine ⟨fun _ y hy => ?_, fun w q => (by cases q)⟩
    rw [sCd_2] at hy
    rw [sKe_2, sKe_2]
    omega
  · rw [e0, if_neg z]
    refine ⟨fun q => (by cases q), fun w q => ?_⟩
    cases q
    refine ⟨sCd_2.mpr (show 0 ≤ x 0 + 1 ∧ 0 ≤ x 1 - 1 ∧ x 0 + 1 + (x 1 - 1) = L by omega), ?_, fun y hy => ?_⟩
    · rw [sKe_2, sKe_2]
      show _ < (x 0 + 1) * 32768 + (x 1 - 1) * 1024
      omega
    · rw [sCd_2] at hy
      rw [sKe_2, sKe_2, sKe_2]
      show _ → (x 0 + 1) * 32768 + (x 1 - 1) * 1024 ≤ _
      omega
theorem nx_3 {L : Int} {x : Nat → Int} (hL : L ≤ 20) (h : sCd 3 L x) : (qNx 2 2 x = none → sNo 3 L x) ∧ ∀ w, qNx 2 2 x = some w → sNw 3 L x w := by
  rw [sCd_3] at h
  have e0 : qNx 2 2 x = if x 2 = 0 then (if x 1 = 0 then none else some (qUp (qUp (qUp (qUp x 2 (x 1)) 1 0) 0 (x 0 + 1)) 2 (x 1 - 1))) else some (qUp (qUp x 1 (x 1 + 1)) 2 (x 2 - 1)) := rfl
  by_cases z : x 2 = 0
  · rw [e0, if_pos z]
    by_cases z1 : x 1 = 0
    · rw [if_pos z1]
      refine ⟨fun _ y hy => ?_, fun w q => (by cases q)⟩
      rw [sCd_3] at hy
      rw [sKe_3, sKe_3]
      omega
    · rw [if_neg z1]
      refine ⟨fun q => (by cases q), fun w q => ?_⟩
      cases q
      refine ⟨sCd_3.mpr (show 0 ≤ x 0 + 1 ∧ 0 ≤ (0 : Int) ∧ 0 ≤ x 1 - 1 ∧ x 0 + 1 + 0 + (x 1 - 1) = L by omega), ?_, fun y hy => ?_⟩
      · rw [sKe_3, sKe_3]
        show _ < (x 0 + 1) * 32768 + 0 * 1024 + (x 1 - 1) * 32
        omega
      · rw [sCd_3] at hy
        rw [sKe_3, sKe_3, sKe_3]
        show _ → (x 0 + 1) * 32768 + 0 * 1024 + (x 1 - 1) * 32 ≤ _
        intro ky
        rcases (show y 0 < x 0 ∨ y 0 = x 0 ∨ y 0 = x 0 + 1 ∨ x 0 + 1 < y 0 by omega) with s0 | s0 | s0 | s0 <;> rcases (show y 1 < x 1 ∨ y 1 = x 1 ∨ y 1 = x 1 + 1 ∨ x 1 + 1 < y 1 by omega) with s1 | s1 | s1 | s1 <;> omega
  · rw [e0, if_neg z]
    refine ⟨fun q => (by cases q), fun w q => ?_⟩
    cases q
    refine ⟨sCd_3.mpr (show 0 ≤ x 0 ∧ 0 ≤ x 1 + 1 ∧ 0 ≤ x 2 - 1 ∧ x 0 + (x 1 + 1) + (x 2 - 1) = L by omega), ?_, fun y hy => ?_⟩
    · rw [sKe_3, sKe_3]
      show _ < x 0 * 32768 + (x 1 + 1) * 1024 + (x 2 - 1) * 32
      omega
    · rw [sCd_3] at hy
      rw [sKe_3, sKe_3, sKe_3]
      show _ → x 0 * 32768 + (x 1 + 1) * 1024 + (x 2 - 1) * 32 ≤ _
      omega
theorem nx_4 {L : Int} {x : Nat → Int} (hL : L ≤ 20) (h : sCd 4 L x) : (qNx 3 3 x = none → sNo 4 L x) ∧ ∀ w, qNx 3 3 x = some w → sNw 4 L x w := by
  rw [sCd_4] at h
  have e0 : qNx 3 3 x = if x 3 = 0 then (if x 2 = 0 then (if x 1 = 0 then none else some (qUp (qUp (qUp (qUp (qUp (qUp x 3 (x 2)) 2 0) 3 (x 1)) 1 0) 0 (x 0 + 1)) 3 (x 1 - 1))) else some (qUp (qUp (qUp (qUp x 3 (x 2)) 2 0) 1 (x 1 + 1)) 3 (x 2 - 1))) else some (qUp (qUp x 2 (x 2 + 1)) 3 (x 3 - 1)) := rfl
  by_cases z : x 3 = 0
  · rw [e0, if_pos z]
    by_cases z2 : x 2 = 0
    · rw [if_pos z2]
      by_cases z1 : x 1 = 0
      · rw [if_pos z1]
        refine ⟨fun _ y hy => ?_, fun w q => (by cases q)⟩
        rw [sCd_4] at hy
        rw [sKe_4, sKe_4]
        omega
      · rw [if_neg z1]
        refine ⟨fun q => (by cases q), fun w q => ?_⟩
        cases q
        refine ⟨sCd_4.mpr (show 0 ≤ x 0 + 1 ∧ 0 ≤ (0 : Int) ∧ 0 ≤ (0 : Int) ∧ 0 ≤ x 1 - 1 ∧ x 0 + 1 + 0 + 0 + (x 1 - 1) = L by omega), ?_, fun y hy => ?_⟩
        · rw [sKe_4, sKe_4]
          show _ < (x 0 + 1) * 32768 + 0 * 1024 + 0 * 32 + (x 1 - 1)
          omega
        · rw [sCd_4] at hy
          rw [sKe_4, sKe_4, sKe_4]
          show _ → (x 0 + 1) * 32768 + 0 * 1024 + 0 * 32 + (x 1 - 1) ≤ _
          intro ky
          rcases (show y 0 < x 0 ∨ y 0 = x 0 ∨ y 0 = x 0 + 1 ∨ x 0 + 1 < y 0 by omega) with s0 | s0 | s0 | s0 <;> rcases (show y 1 < x 1 ∨ y 1 = x 1 ∨ y 1 = x 1 + 1 ∨ x 1 + 1 < y 1 by omega) with s1 | s1 | s1 | s1 <;> omega
    · rw [if_neg z2]
      refine ⟨fun q => (by cases q), fun w q => ?_⟩
      cases q
      refine ⟨sCd_4.mpr (show 0 ≤ x 0 ∧ 0 ≤ x 1 + 1 ∧ 0 ≤ (0 : Int) ∧ 0 ≤ x 2 - 1 ∧ x 0 + (x 1 + 1) + 0 + (x 2 - 1) = L by omega), ?_, fun y hy => ?_⟩
      · rw [sKe_4, sKe_4]
        show _ < x 0 * 32768 + (x 1 + 1) * 1024 + 0 * 32 + (x 2 - 1)
        omega
      · rw [sCd_4] at hy
        rw [sKe_4, sKe_4, sKe_4]
        show _ → x 0 * 32768 + (x 1 + 1) * 1024 + 0 * 32 + (x 2 - 1) ≤ _
        intro ky
        rcases (show y 0 < x 0 ∨ y 0 = x 0 ∨ y 0 = x 0 + 1 ∨ x 0 + 1 < y 0 by omega) with s0 | s0 | s0 | s0 <;> rcases (show y 1 < x 1 ∨ y 1 = x 1 ∨ y 1 = x 1 + 1 ∨ x 1 + 1 < y 1 by omega) with s1 | s1 | s1 | s1 <;> rcases (show y 2 < x 2 ∨ y 2 = x 2 ∨ y 2 = x 2 + 1 ∨ x 2 + 1 < y 2 by omega) with s2 | s2 | s2 | s2 <;> omega
  · rw [e0, if_neg z]
    refine ⟨fun q => (by cases q), fun w q => ?_⟩
    cases q
    refine ⟨sCd_4.mpr (show 0 ≤ x 0 ∧ 0 ≤ x 1 ∧ 0 ≤ x 2 + 1 ∧ 0 ≤ x 3 - 1 ∧ x 0 + x 1 + (x 2 + 1) + (x 3 - 1) = L by omega), ?_, fun y hy => ?_⟩
    · rw [sKe_4, sKe_4]
      show _ < x 0 * 32768 + x 1 * 1024 + (x 2 + 1) * 32 + (x 3 - 1)
      omega
    · rw [sCd_4] at hy
      rw [sKe_4, sKe_4, sKe_4]
      show _ → x 0 * 32768 + x 1 * 1024 + (x 2 + 1) * 32 + (x 3 - 1) ≤ _
      omega
theorem nx_ok {n : Nat} {L : Int} {x : Nat → Int} (hn : 0 < n) (hn4 : n ≤ 4) (hL : L ≤ 20) (h : sCd n L x) : (qNx (n - 1) (n - 1) x = none → sNo n L x) ∧ ∀ w, qNx (n - 1) (n - 1) x = some w → sNw n L x w := by
  rcases (show n = 1 ∨ n = 2 ∨ n = 3 ∨ n = 4 by omega) with rfl | rfl | rfl | rfl
  · exact nx_1 h
  · exact nx_2 hL h
  · exact nx_3 hL h
  · exact nx_4 hL h
/-- the first: all lots in the last stage -/
theorem nx_0 {n : Nat} {L : Int} {x : Nat → Int} (hn : 0 < n) (hn4 : n ≤ 4) (hL0 : 0 ≤ L) (hL : L ≤ 20) (h : ∀ j, j < n → x j = if j = n - 1 then L else 0) : sCd n L x ∧ ∀ y, sCd n L y → sKe n 0 x ≤ sKe n 0 y := by
  rcases (show n = 1 ∨ n = 2 ∨ n = 3 ∨ n = 4 by omega) with rfl | rfl | rfl | rfl
  · have h0 : x 0 = L := h 0 (by omega)
    refine ⟨sCd_1.mpr (by omega), fun y hy => ?_⟩
    rw [sCd_1] at hy
    rw [sKe_1, sKe_1]
    omega
  · have h0 : x 0 = 0 := h 0 (by omega)
    have h1 : x 1 = L := h 1 (by omega)
    refine ⟨sCd_2.mpr (by omega), fun y hy => ?_⟩
    rw [sCd_2] at hy
    rw [sKe_2, sKe_2]
    omega
  · have h0 : x 0 = 0 := h 0 (by omega)
    have h1 : x 1 = 0 := h 1 (by omega)
    have h2 : x 2 = L := h 2 (by omega)
    refine ⟨sCd_3.mpr (by omega), fun y hy => ?_⟩
    rw [sCd_3] at hy
    rw [sKe_3, sKe_3]
    omega
  · have h0 : x 0 = 0 := h 0 (by omega)
    have h1 : x 1 = 0 := h 1 (by omega)
    have h2 : x 2 = 0 := h 2 (by omega)
    have h3 : x 3 = L := h 3 (by omega)
    refine ⟨sCd_4.mpr (by omega), fun y hy => ?_⟩
    rw [sCd_4] at hy
    rw [sKe_4, sKe_4]
    omega
theorem sKe_dig {n : Nat} {L : Int} {x : Nat → Int} (hn4 : n ≤ 4) (hL : L ≤ 20) (h : sCd n L x) : ∀ k, k < n → qDig (sKe n 0 x) k = x k := by
  intro k hk
  have p0 : qPow 0 = 32768 := rfl
  have p1 : qPow 1 = 1024 := rfl
  have p2 : qPow 2 = 32 := rfl
  have p3 : qPow 3 = 1 := rfl
  unfold qDig
  rcases (show n = 1 ∨ n = 2 ∨ n = 3 ∨ n = 4 by omega) with rfl | rfl | rfl | rfl
  · rw [sCd_1] at h
    rw [sKe_1, show k = 0 by omega, p0]
    omega
  · rw [sCd_2] at h
    rw [sKe_2]
    rcases (show k = 0 ∨ k = 1 by omega) with rfl | rfl
    · rw [p0]; omega
    · rw [p1]; omega
  · rw [sCd_3] at h
    rw [sKe_3]
    rcases (show k = 0 ∨ k = 1 ∨ k = 2 by omega) with rfl | rfl | rfl
    · rw [p0]; omega
    · rw [p1]; omega
    · rw [p2]; omega
  · rw [sCd_4] at h
    rw [sKe_4]
    rcases (show k = 0 ∨ k = 1 ∨ k = 2 ∨ k = 3 by omega) with rfl | rfl | rfl | rfl
    · rw [p0]; omega
    · rw [p1]; omega
    · rw [p2]; omega
    · rw [p3]; omega
theorem sKe_ag {n : Nat} {L : Int} {x y : Nat → Int} (hn4 : n ≤ 4) (hL : L ≤ 20) (hx : sCd n L x) (hy : sCd n L y) (h : sKe n 0 x = sKe n 0 y) : sAg n 0 x y := fun j _ q => by
  rw [← sKe_dig hn4 hL hx j q, ← sKe_dig hn4 hL hy j q, h]
/-- what the reference has found of those before x -/
def sRB (e : vSt) (z L : Int) (x b : Nat → Int) (best : Int) : Prop := (best = -1 ∧ ∀ y, sCd (sN e) L y → sKe (sN e) 0 x ≤ sKe (sN e) 0 y) ∨ (0 ≤ best ∧ sCd (sN e) L b ∧ sLo e z 0 b = best ∧ sKe (sN e) 0 b < sKe (sN e) 0 x ∧ ∀ y, sCd (sN e) L y → sKe (sN e) 0 y < sKe (sN e) 0 x → sLo e z 0 y < best ∨ (sLo e z 0 y = best ∧ sKe (sN e) 0 b ≤ sKe (sN e) 0 y))
def sRC (e : vSt) (z L : Int) (x b : Nat → Int) (best : Int) : Prop := 0 ≤ best ∧ sCd (sN e) L b ∧ sLo e z 0 b = best ∧ sKe (sN e) 0 b ≤ sKe (sN e) 0 x ∧ ∀ y, sCd (sN e) L y → sKe (sN e) 0 y ≤ sKe (sN e) 0 x → sLo e z 0 y < best ∨ (sLo e z 0 y = best ∧ sKe (sN e) 0 b ≤ sKe (sN e) 0 y)
section SPM
variable {e : vSt} {z L best : Int} {x b w : Nat → Int}
theorem sRC_of (hR : YR e) (hz : 0 ≤ z) (hL : L ≤ 20) (cx : sCd (sN e) L x) (h : sRB e z L x b best) : (best < sLo e z 0 x → ∀ b', sAg (sN e) 0 b' x → sRC e z L x b' (sLo e z 0 x)) ∧ (¬ best < sLo e z 0 x → sRC e z L x b best) := by
  have l0 := (sLo_rng hR hz (sN e - 0) 0 rfl cx.1).1
  have same : ∀ y, sCd (sN e) L y → sKe (sN e) 0 y = sKe (sN e) 0 x → sLo e z 0 y = sLo e z 0 x := fun y cy q => sLo_c (sKe_ag (sN_le hR) hL cy cx q)
  refine ⟨fun q b' ag => ?_, fun q => ?_⟩
  · have k1 := sKe_c ag
    have s1 := sSu_c ag
    refine ⟨l0, ⟨fun j p r => by rw [ag j p r]; exact cx.1 j p r, by rw [s1]; exact cx.2⟩, sLo_c ag, by omega, fun y cy ky => ?_⟩
    rcases (show sKe (sN e) 0 y = sKe (sN e) 0 x ∨ sKe (sN e) 0 y < sKe (sN e) 0 x by omega) with u | u
    · have := same y cy u
      omega
    · rcases h with ⟨h1, h2⟩ | ⟨h1, h2, h3, h4, h5⟩
      · have := h2 y cy
        omega
      · have := h5 y cy u
        omega
  · rcases h with ⟨h1, h2⟩ | ⟨h1, h2, h3, h4, h5⟩
    · omega
    · refine ⟨h1, h2, h3, by omega, fun y cy ky => ?_⟩
      rcases (show sKe (sN e) 0 y = sKe (sN e) 0 x ∨ sKe (sN e) 0 y < sKe (sN e) 0 x by omega) with u | u
      · have := same y cy u
        omega
      · exact h5 y cy u
theorem sRB_next (h : sRC e z L x b best) (hw : sNw (sN e) L x w) : sRB e z L w b best := by
  obtain ⟨h1, h2, h3, h4, h5⟩ := h
  obtain ⟨w1, w2, w3⟩ := hw
  refine Or.inr ⟨h1, h2, h3, by omega, fun y cy ky => h5 y cy ?_⟩
  rcases (show sKe (sN e) 0 y ≤ sKe (sN e) 0 x ∨ sKe (sN e) 0 x < sKe (sN e) 0 y by omega) with u | u
  · exact u
  · have := w3 y cy u
    omega
/-- both find the same -/
theorem sBest {a k : Int} {c : Nat → Int} (h : sB (sLo e z 0) (sKe (sN e) 0) (sCd (sN e) L) a k) (hc : sRC e z L x c best) (ht : sNo (sN e) L x) : a = best ∧ k = sKe (sN e) 0 c := by
  obtain ⟨h1, h2, h3, h4, h5⟩ := hc
  rcases h with ⟨-, g⟩ | ⟨g1, y, g2, g3, g4, g5⟩
  · exact absurd h2 (g c)
  · have u := g5 c h2
    have v := h5 y g2 (ht y g2)
    omega
end SPM
