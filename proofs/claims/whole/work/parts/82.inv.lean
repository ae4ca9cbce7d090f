/-! what holds between two calls -/
def IM (σ : vSt) : Prop := (σ 38 12 = σ 3 6 ∧ σ 38 13 = σ 10 6 ∧ σ 38 14 = σ 2 0 ∧ σ 38 15 = σ 2 1 ∧ σ 38 16 = σ 2 2) ∧ (σ 39 = σ 4 ∧ σ 40 = σ 5 ∧ σ 41 = σ 6 ∧ σ 42 = σ 7 ∧ σ 43 = σ 8 ∧ σ 44 = σ 9) ∧ σ 45 = σ 11 ∧ σ 46 = σ 12 ∧ σ 47 = σ 13 ∧ σ 48 = σ 14
def IZ (σ : vSt) : Prop := ∀ j : Nat, σ 3 6 ≤ j → σ 8 j = 0 ∧ σ 9 j = 0
def ISky (σ : vSt) : Prop := σ 49 = σ 26 ∧ σ 50 = σ 27 ∧ ∀ j : Nat, 0 ≤ σ 26 j ∧ σ 26 j ≤ 999 ∧ 0 ≤ σ 27 j ∧ σ 27 j ≤ 1000000
def IFl (σ : vSt) : Prop := (σ 1 9 = 0 ∨ σ 1 9 = 1) ∧ σ 38 39 = σ 1 9 ∧ (σ 1 9 = 1 → σ 61 0 = σ 28 8 ∧ σ 61 1 = σ 28 9 ∧ σ 61 2 = σ 28 10 ∧ σ 61 3 = σ 28 11 ∧ σ 61 4 = σ 28 12 ∧ σ 61 5 = σ 28 13 ∧ σ 61 6 = σ 28 2)
def ISp (σ : vSt) : Prop := σ 38 20 = σ 17 6 ∧ (0 ≤ σ 17 6 ∧ σ 17 6 ≤ 4) ∧ (0 ≤ σ 17 5 ∧ σ 17 5 ≤ 1048575) ∧ ∀ k : Nat, (k : Int) < σ 17 6 → qDig (σ 17 5) k = σ 53 k
def ICh (σ : vSt) : Prop := σ 38 27 = σ 20 13 ∧ (0 ≤ σ 20 13 ∧ σ 20 13 ≤ 3) ∧ (0 ≤ σ 20 12 ∧ σ 20 12 ≤ 1048575) ∧ (∀ k : Nat, 0 ≤ σ 54 k ∧ σ 54 k ≤ 17) ∧ ∀ k : Nat, (k : Int) < σ 20 13 → qDig (σ 20 12) k = σ 54 k
def IBy (σ : vSt) : Prop := (∀ j : Nat, (j : Int) < σ 31 6 → σ 35 j < σ 31 6) ∧ (∀ i j : Nat, i < j → (j : Int) < σ 31 6 → σ 35 i ≠ σ 35 j) ∧ ∀ i j : Nat, i < j → (j : Int) < σ 31 6 → σ 33 (σ 35 i).toNat ≤ σ 33 (σ 35 j).toNat
def IYe (σ : vSt) : Prop := YY σ ∧ σ 38 45 = σ 31 6 ∧ σ 63 = σ 32 ∧ σ 64 = σ 33 ∧ σ 65 = σ 34 ∧ σ 66 = σ 36 ∧ IBy σ
def IAll (σ : vSt) : Prop := YR σ ∧ IM σ ∧ IZ σ ∧ ISky σ ∧ IFl σ ∧ ISp σ ∧ ICh σ ∧ IYe σ ∧ σ 16 0 = 0
theorem IM.r {σ : vSt} (h : IM σ) (hR : YR σ) : MR σ := by
  obtain ⟨⟨a1, a2, a3, a4, a5⟩, ⟨b1, b2, b3, b4, b5, b6⟩, c1, c2, c3, c4⟩ := h
  unfold MR
  rw [a1, a2, a3, a4, a5, b1, b2, b3, b4, b5, b6, c1, c2, c3, c4]
  exact hR
theorem IM.mass {σ : vSt} (h : IM σ) (k : Nat) : yMass (mY σ) k = yMass σ k := by
  obtain ⟨⟨a1, a2, a3, a4, a5⟩, ⟨b1, b2, b3, b4, b5, b6⟩, c1, c2, c3, c4⟩ := h
  show qMass (σ 38 14) (σ 38 15) (σ 41) (σ 45) (σ 46) (σ 47) (σ 48) (σ 38 13).toNat k = _
  rw [a2, a3, a4, b3, c1, c2, c3, c4]
theorem IM.dry {σ : vSt} (h : IM σ) (k : Nat) : yDry (mY σ) k = yDry σ k := by
  obtain ⟨⟨a1, a2, a3, a4, a5⟩, ⟨b1, b2, b3, b4, b5, b6⟩, c1, c2, c3, c4⟩ := h
  show qDry (σ 38 15) (σ 41) (σ 45) (σ 46) (σ 47) (σ 48) k = _
  rw [a4, b3, c1, c2, c3, c4]
theorem IM.low {σ : vSt} (h : IM σ) (k : Nat) : yLow (mY σ) k = yLow σ k := by
  have e := h.mass k
  obtain ⟨-, ⟨b1, b2, b3, b4, b5, b6⟩, c1, c2, c3, c4⟩ := h
  unfold yLow
  rw [e]
  show qLow (1000 * σ 40 (σ 45 k).toNat) (σ 47 k).toNat _ = _
  rw [b2, c1, c3]
theorem IM.high {σ : vSt} (h : IM σ) (k : Nat) : yHigh (mY σ) k = yHigh σ k := by
  have e := h.mass k
  obtain ⟨-, ⟨b1, b2, b3, b4, b5, b6⟩, c1, c2, c3, c4⟩ := h
  unfold yHigh
  rw [e]
  show qHigh (1000 * σ 40 (σ 45 k).toNat) (σ 47 k).toNat _ = _
  rw [b2, c1, c3]
theorem IM.gain {σ : vSt} (h : IM σ) (w : Int) : yGain (mY σ) w = yGain σ w := by
  funext k
  unfold yGain
  rw [h.low, h.high]
theorem IM.about {σ : vSt} (h : IM σ) (k : Nat) (w : Int) : yAbout (mY σ) k w = yAbout σ k w := by
  have e1 := h.mass k
  have e2 := h.dry k
  have e3 := h.low k
  have e4 := h.high k
  obtain ⟨-, ⟨b1, b2, b3, b4, b5, b6⟩, c1, c2, c3, c4⟩ := h
  unfold yAbout
  rw [e1, e2, e3, e4]
  show (if w = 0 then σ 45 k else if w = 1 then σ 46 k else if w = 2 then σ 47 k else if w = 3 then σ 48 k else if w = 4 then _ else if w = 5 then _ else if w = 6 then _ else if w = 7 then _ else if w = 8 then 100 * σ 39 (σ 45 k).toNat * σ 46 k / _ else -1) = _
  rw [b1, c1, c2, c3, c4]
theorem IM.need {σ : vSt} (h : IM σ) (e : Int) : yNeed (mY σ) e = yNeed σ e := by
  obtain ⟨⟨a1, a2, a3, a4, a5⟩, -, c1, c2, c3, c4⟩ := h
  show qSum (fun k => if σ 45 k = e then σ 46 k else 0) (σ 38 13).toNat 0 = _
  rw [a2, c1, c2]
  rfl
theorem IM.more {σ : vSt} (h : IM σ) (e : Nat) : yMore (mY σ) e = yMore σ e := by
  have e1 := h.need e
  obtain ⟨-, ⟨b1, b2, b3, b4, b5, b6⟩, -⟩ := h
  unfold yMore
  rw [e1]
  show max (_ - σ 43 e) 0 = _
  rw [b5]
theorem IM.price {σ : vSt} (h : IM σ) : yPrice (mY σ) = yPrice σ := by
  have e1 : yFresh (mY σ) = yFresh σ := by
    funext e
    have e1 := h.need e
    obtain ⟨⟨a1, a2, a3, a4, a5⟩, ⟨b1, b2, b3, b4, b5, b6⟩, -⟩ := h
    unfold yFresh
    rw [e1]
    show qCosts (σ 38 16) (qCost (σ 38 16) (σ 42 e) (σ 44 e).toNat) (_ - σ 43 e).toNat = _
    rw [a5, b4, b5, b6]
  have e2 : yFrame (mY σ) = yFrame σ := by
    funext k
    obtain ⟨⟨a1, a2, a3, a4, a5⟩, -, c1, c2, c3, c4⟩ := h
    show σ 48 k + (if 0 < σ 47 k then σ 38 15 else 0) = _
    rw [a4, c3, c4]
    rfl
  obtain ⟨⟨a1, a2, a3, a4, a5⟩, -⟩ := h
  unfold yPrice
  rw [e1, e2]
  show qSum _ (σ 38 12).toNat 0 + qSum _ (σ 38 13).toNat 0 = _
  rw [a1, a2]
theorem qSum_zero {f : Nat → Int} : ∀ (n j : Nat), (∀ i, j ≤ i → f i = 0) → qSum f n j = 0 := by
  intro n
  induction n with
  | zero => intro j h; rfl
  | succ n ih =>
    intro j h
    show f j + qSum f n (j + 1) = 0
    rw [h j (Nat.le_refl j), ih (j + 1) (fun i hi => h i (by omega))]
    rfl
theorem qSum_app (f : Nat → Int) : ∀ (m n j : Nat), qSum f (m + n) j = qSum f m j + qSum f n (j + m) := by
  intro m
  induction m with
  | zero => intro n j; rw [Nat.zero_add, Nat.add_zero]; show _ = 0 + _; omega
  | succ m ih =>
    intro n j
    rw [show m + 1 + n = (m + n) + 1 by omega]
    show f j + qSum f (m + n) (j + 1) = f j + qSum f m (j + 1) + qSum f n (j + (m + 1))
    rw [ih, show j + 1 + m = j + (m + 1) by omega]
    omega
set_option maxHeartbeats 4000000 in
set_option maxRecDepth 100000 in
theorem pair_about (g : vGl) : vP_about IAll g := by
  intro a b ha hb σ Q hI K
  obtain ⟨hR, hm, hz, hsk, hfl, hsp, hch, hye, h16⟩ := id hI
  have hM := hm.r hR
  have hr := hR.1
  have hm1 := hm.1
  refine c_X8_about (by omega) hR ha hb (fun h => ?_) (fun h1 h2 => ?_)
  · refine K _ _ (fun Q' hQ' => ?_)
    exact c_X9_about (by omega) hM ha hb (fun _ => hQ' _ hI) (fun h1 h2 => by exfalso; omega)
  · refine K _ _ (fun Q' hQ' => ?_)
    refine c_X9_about (by omega) hM ha hb (fun h => by exfalso; omega) (fun _ _ => ?_)
    rw [hm.about]
    exact hQ' _ hI
set_option maxHeartbeats 4000000 in
set_option maxRecDepth 100000 in
theorem pair_speed (g : vGl) : vP_speed IAll g := by
  intro a ha σ Q hI K
  obtain ⟨hR, hm, hz, hsk, hfl, hsp, hch, hye, h16⟩ := id hI
  have hM := hm.r hR
  have hr := hR.1
  have hm1 := hm.1
  refine c_X8_speed (by omega) hR ha (fun h => ?_) (fun h1 h2 => ?_)
  · refine K _ _ (fun Q' hQ' => ?_)
    exact c_X9_speed (by omega) hM ha (fun _ => hQ' _ hI) (fun h1 h2 => by exfalso; omega)
  · refine K _ _ (fun Q' hQ' => ?_)
    refine c_X9_speed (by omega) hM ha (fun h => by exfalso; omega) (fun _ _ => ?_)
    rw [hm.gain, hm1.2.1]
    exact hQ' _ hI
set_option maxHeartbeats 4000000 in
set_option maxRecDepth 100000 in
theorem pair_lots (g : vGl) : vP_lots IAll g := by
  intro a ha σ Q hI K
  obtain ⟨hR, hm, hz, hsk, hfl, hsp, hch, hye, h16⟩ := id hI
  have hM := hm.r hR
  have hr := hR.1
  have hm1 := hm.1
  obtain ⟨s1, s2, s3, s4⟩ := hsp
  refine c_X8_lots (by omega) ha s2 (by omega) (fun h => ?_) (fun h1 h2 => ?_)
  · refine K _ _ (fun Q' hQ' => ?_)
    exact c_X9_lots (by omega) ha (by omega) (fun _ => hQ' _ hI) (fun h1 h2 => by exfalso; omega)
  · refine K _ _ (fun Q' hQ' => ?_)
    refine c_X9_lots (by omega) ha (by omega) (fun h => by exfalso; omega) (fun _ _ => ?_)
    rw [← s4 a.toNat (by omega)]
    exact hQ' _ hI
set_option maxHeartbeats 4000000 in
set_option maxRecDepth 100000 in
theorem pair_chosen (g : vGl) : vP_chosen IAll g := by
  intro a b ha hb σ Q hI K
  obtain ⟨hR, hm, hz, hsk, hfl, hsp, hch, hye, h16⟩ := id hI
  have hM := hm.r hR
  have hr := hR.1
  have hm1 := hm.1
  obtain ⟨s1, s2, s3, s5, s4⟩ := hch
  refine c_X8_chosen (by omega) ha hb s2 (by omega) (fun h => ?_) (fun h1 h2 h3 h4 => ?_)
  · refine K _ _ (fun Q' hQ' => ?_)
    exact c_X9_chosen (by omega) ha hb (by omega) (fun k => by have := s5 k; omega) (fun _ => hQ' _ hI) (fun h1 h2 h3 h4 => by exfalso; omega)
  · refine K _ _ (fun Q' hQ' => ?_)
    refine c_X9_chosen (by omega) ha hb (by omega) (fun k => by have := s5 k; omega) (fun h => by exfalso; omega) (fun _ _ _ _ => ?_)
    rw [← s4 a.toNat (by omega)]
    exact hQ' _ hI
set_option maxHeartbeats 4000000 in
set_option maxRecDepth 100000 in
theorem pair_flown (g : vGl) : vP_flown IAll g := by
  intro a ha σ Q hI K
  obtain ⟨hR, hm, hz, hsk, hfl, hsp, hch, hye, h16⟩ := id hI
  have hM := hm.r hR
  have hr := hR.1
  have hm1 := hm.1
  obtain ⟨s1, s2, s3⟩ := hfl
  refine c_X8_flown ha s1 (fun h => ?_) (fun h => ?_)
  · refine K _ _ (fun Q' hQ' => ?_)
    exact c_X9_flown (by omega) ha (by omega) (fun _ => hQ' _ hI) (fun h1 h2 => by exfalso; omega)
  · refine K _ _ (fun Q' hQ' => ?_)
    obtain ⟨t0, t1, t2, t3, t4, t5, t6⟩ := s3 h
    refine c_X9_flown (by omega) ha (by omega) (fun h2 => ?_) (fun _ h1 h2 => ?_)
    · refine q_eq (hQ' _ hI) ?_
      unfold yFlown
      rw [if_neg (by omega), if_neg (by omega), if_neg (by omega), if_neg (by omega), if_neg (by omega), if_neg (by omega), if_neg (by omega)]
    · refine q_eq (hQ' _ hI) ?_
      rcases (show a = 0 ∨ a = 1 ∨ a = 2 ∨ a = 3 ∨ a = 4 ∨ a = 5 ∨ a = 6 by omega) with rfl | rfl | rfl | rfl | rfl | rfl | rfl
      · exact t0
      · exact t1
      · exact t2
      · exact t3
      · exact t4
      · exact t5
      · exact t6
set_option maxHeartbeats 4000000 in
set_option maxRecDepth 100000 in
theorem pair_cost (g : vGl) : vP_cost IAll g := by
  intro a b ha hb σ Q hI K
  obtain ⟨hR, hm, hz, hsk, hfl, hsp, hch, hye, h16⟩ := id hI
  have hM := hm.r hR
  have hr := hR.1
  have hm1 := hm.1
  refine c_X8_cost (by omega) hR ha hb (fun h => ?_) (fun h1 h2 h3 => ?_) (fun h1 h2 h3 h4 => ?_)
  · refine K _ _ (fun Q' hQ' => ?_)
    exact c_X9_cost (by omega) hM ha hb (fun _ => hQ' _ hI) (fun _ _ _ => by exfalso; omega) (fun _ _ _ _ => by exfalso; omega)
  · refine K _ _ (fun Q' hQ' => ?_)
    exact c_X9_cost (by omega) hM ha hb (fun _ => by exfalso; omega) (fun _ _ _ => hQ' _ hI) (fun _ _ _ _ => by exfalso; omega)
  · refine K _ _ (fun Q' hQ' => ?_)
    refine c_X9_cost (by omega) hM ha hb (fun _ => by exfalso; omega) (fun _ _ _ => by exfalso; omega) (fun _ _ _ _ => ?_)
    rw [hm1.2.2.2.2, hm.2.1.2.2.2.1]
    exact hQ' _ hI
set_option maxHeartbeats 4000000 in
set_option maxRecDepth 100000 in
theorem pair_keeping (g : vGl) : vP_keeping IAll g := by
  intro a b ha hb σ Q hI K
  obtain ⟨hR, hm, hz, hsk, hfl, hsp, hch, hye, h16⟩ := id hI
  have hM := hm.r hR
  have hr := hR.1
  have hm1 := hm.1
  have e47 := hm.2.2.2.2.1
  refine c_X8_keeping (by omega) hR ha hb (fun h => ?_) (fun h1 h2 h3 => ?_) (fun h1 h2 h3 h4 h5 => ?_)
  · refine K _ _ (fun Q' hQ' => ?_)
    exact c_X9_keeping (by omega) hM ha hb (fun _ => hQ' _ hI) (fun _ _ _ => by exfalso; omega) (fun _ _ _ _ _ => by exfalso; omega)
  · refine K _ _ (fun Q' hQ' => ?_)
    refine c_X9_keeping (by omega) hM ha hb (fun _ => by exfalso; omega) (fun _ _ _ => hQ' _ hI) (fun _ _ t1 t2 t3 => ?_)
    rw [e47] at t3
    exfalso; omega
  · refine K _ _ (fun Q' hQ' => ?_)
    refine c_X9_keeping (by omega) hM ha hb (fun _ => by exfalso; omega) (fun _ _ t => ?_) (fun _ _ _ _ _ => ?_)
    · rw [e47] at t
      exfalso; omega
    · rw [hm.mass, e47, hm.2.1.2.1, hm.2.2.1]
      exact hQ' _ hI
set_option maxHeartbeats 4000000 in
set_option maxRecDepth 100000 in
theorem pair_even (g : vGl) : vP_even IAll g := by
  intro a b c ha hb hc σ Q hI K
  obtain ⟨hR, hm, hz, hsk, hfl, hsp, hch, hye, h16⟩ := id hI
  have hM := hm.r hR
  have hr := hR.1
  have hm1 := hm.1
  refine c_X8_even (by omega) hR ha hb hc (fun h => ?_) (fun h1 h2 h3 => ?_) (fun h1 h2 h3 => ?_)
  · refine K _ _ (fun Q' hQ' => ?_)
    exact c_X9_even (by omega) hM ha hb hc (fun _ => hQ' _ hI) (fun _ _ _ => by exfalso; omega) (fun _ _ _ => by exfalso; omega)
  · refine K _ _ (fun Q' hQ' => ?_)
    exact c_X9_even (by omega) hM ha hb hc (fun _ => by exfalso; omega) (fun _ _ _ => hQ' _ hI) (fun _ _ _ => by exfalso; omega)
  · refine K _ _ (fun Q' hQ' => ?_)
    refine c_X9_even (by omega) hM ha hb hc (fun _ => by exfalso; omega) (fun _ _ _ => by exfalso; omega) (fun _ _ _ => ?_)
    rw [hm.2.2.2.1, hm.2.1.2.2.2.1, hm.2.2.1]
    exact hQ' _ hI
set_option maxHeartbeats 4000000 in
set_option maxRecDepth 100000 in
theorem pair_count (g : vGl) : vP_count IAll g := by
  intro a ha σ Q hI K
  obtain ⟨hR, hm, hz, hsk, hfl, hsp, hch, hye, h16⟩ := id hI
  have hM := hm.r hR
  have hr := hR.1
  have hm1 := hm.1
  refine c_X8_count (by omega) hR ha ?_
  refine K _ _ (fun Q' hQ' => ?_)
  refine c_X9_count (by omega) hM ha ?_
  refine q_eq (hQ' _ hI) ?_
  unfold mCount yCount
  have e8 : qSum (σ 8) 6 0 = qSum (σ 8) (σ 3 6).toNat 0 := by
    have := qSum_app (σ 8) (σ 3 6).toNat (6 - (σ 3 6).toNat) 0
    rw [show (σ 3 6).toNat + (6 - (σ 3 6).toNat) = 6 by omega, qSum_zero _ (0 + (σ 3 6).toNat) (fun i hi => (hz i (by omega)).1)] at this
    omega
  have e9 : qSum (σ 9) 6 0 = qSum (σ 9) (σ 3 6).toNat 0 := by
    have := qSum_app (σ 9) (σ 3 6).toNat (6 - (σ 3 6).toNat) 0
    rw [show (σ 3 6).toNat + (6 - (σ 3 6).toNat) = 6 by omega, qSum_zero _ (0 + (σ 3 6).toNat) (fun i hi => (hz i (by omega)).2)] at this
    omega
  rw [hm.mass, e8, e9, hm1.1, hm1.2.1, hye.2.1, hm.2.1.2.2.2.2.1, hm.2.1.2.2.2.2.2]
set_option maxHeartbeats 4000000 in
set_option maxRecDepth 100000 in
theorem pair_price (g : vGl) : vP_price IAll g := by
  intro σ Q hI K
  obtain ⟨hR, hm, hz, hsk, hfl, hsp, hch, hye, h16⟩ := id hI
  have hM := hm.r hR
  have hr := hR.1
  have hm1 := hm.1
  refine c_X8_price (by omega) hR (fun h => ?_) (fun h => ?_)
  · refine K _ _ (fun Q' hQ' => ?_)
    exact c_X9_price (by omega) hM (fun _ => hQ' _ hI) (fun t => by exfalso; omega)
  · refine K _ _ (fun Q' hQ' => ?_)
    refine c_X9_price (by omega) hM (fun t => by exfalso; omega) (fun _ τ ht => ?_)
    rw [hm.price]
    refine hQ' _ ?_
    have e : τ = vRow σ 62 (τ 62) := by
      funext p
      by_cases hp : p = 62
      · subst hp; rw [vRow_s]
      · rw [vRow_o hp, ht p hp]
    rw [e]
    exact hI
