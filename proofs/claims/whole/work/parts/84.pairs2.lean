theorem off62 {σ τ : vSt} (ht : ∀ p, p ≠ 62 → τ p = σ p) : τ = vRow σ 62 (τ 62) := by
  funext p
  by_cases hp : p = 62
  · subst hp; rw [vRow_s]
  · rw [vRow_o hp, ht p hp]
set_option maxHeartbeats 4000000 in
set_option maxRecDepth 100000 in
theorem pair_buy (g : vGl) : vP_buy IAll g := by
  intro σ Q hI K
  obtain ⟨hR, hm, hz, hsk, hfl, hsp, hch, hye, h16⟩ := id hI
  have hM := hm.r hR
  have hr := hR.1
  have hm1 := hm.1
  obtain ⟨⟨a1, a2, a3, a4, a5⟩, ⟨b1, b2, b3, b4, b5, b6⟩, c1, c2, c3, c4⟩ := id hm
  have eC : mCan σ ↔ yCan σ := by
    unfold mCan yCan
    rw [a1]
    constructor
    · intro h e he
      have := h e he
      rw [hm.more, b6] at this
      exact this
    · intro h e he
      rw [hm.more, b6]
      exact h e he
  refine c_X8_buy (by omega) hR (fun h => ?_) (fun h h2 => ?_) (fun h h2 => ?_)
  · refine K _ _ (fun Q' hQ' => ?_)
    exact c_X9_buy (by omega) hM (fun _ => hQ' _ hI) (fun t => by exfalso; omega) (fun t => by exfalso; omega)
  · refine K _ _ (fun Q' hQ' => ?_)
    refine c_X9_buy (by omega) hM (fun t => by exfalso; omega) (fun _ _ τ ht => ?_) (fun _ t => absurd (eC.mp t) h2)
    rw [off62 ht]
    exact hQ' _ hI
  · refine K _ _ (fun Q' hQ' => ?_)
    refine c_X9_buy (by omega) (by exact hM) (fun t => by have t2 : σ 38 13 = 0 := t; exfalso; omega) (fun _ t => absurd (show mCan (yBuy σ (σ 3 6).toNat) from eC.mpr h2) t) (fun _ _ τ ht => ?_)
    show Q' (some (vi (yPrice (mY σ)))) (hp (mBuy τ (σ 38 12).toNat))
    rw [hm.price, a1, off62 ht]
    generalize τ 62 = f
    have hY := yBuy_R (n := (σ 3 6).toNat) hR (fun j hj => h2 j (by omega))
    refine hQ' _ ⟨hY, ⟨⟨a1, a2, a3, a4, a5⟩, ⟨b1, b2, b3, b4, ?_, ?_⟩, c1, c2, c3, c4⟩, fun j hj => ?_, hsk, hfl, hsp, hch, hye, h16⟩
    · funext j
      show mBuy (vRow (yBuy σ (σ 3 6).toNat) 62 f) (σ 3 6).toNat 43 j = yBuy σ (σ 3 6).toNat 8 j
      have e1 : mBuy (vRow (yBuy σ (σ 3 6).toNat) 62 f) (σ 3 6).toNat 43 j = if j < (σ 3 6).toNat then σ 43 j - (yNeed (mY σ) j - yMore (mY σ) j) else σ 43 j := by
        by_cases hj : j < (σ 3 6).toNat
        · rw [if_pos hj]; unfold mBuy; rw [if_pos ⟨rfl, hj⟩]; rfl
        · rw [if_neg hj]; unfold mBuy; rw [if_neg (fun t => hj t.2), if_neg (fun t => hj t.2)]; rfl
      have e2 : yBuy σ (σ 3 6).toNat 8 j = if j < (σ 3 6).toNat then σ 8 j - (yNeed σ j - yMore σ j) else σ 8 j := by
        by_cases hj : j < (σ 3 6).toNat
        · simp [yBuy, hj]
        · simp [yBuy, hj]
      rw [e1, e2, hm.need, hm.more, b5]
    · funext j
      show mBuy (vRow (yBuy σ (σ 3 6).toNat) 62 f) (σ 3 6).toNat 44 j = yBuy σ (σ 3 6).toNat 9 j
      have e1 : mBuy (vRow (yBuy σ (σ 3 6).toNat) 62 f) (σ 3 6).toNat 44 j = if j < (σ 3 6).toNat then σ 44 j + yMore (mY σ) j else σ 44 j := by
        by_cases hj : j < (σ 3 6).toNat
        · rw [if_pos hj]; unfold mBuy; rw [if_neg (fun t => absurd t.1 (by decide)), if_pos ⟨rfl, hj⟩]; rfl
        · rw [if_neg hj]; unfold mBuy; rw [if_neg (fun t => hj t.2), if_neg (fun t => hj t.2)]; rfl
      have e2 : yBuy σ (σ 3 6).toNat 9 j = if j < (σ 3 6).toNat then σ 9 j + yMore σ j else σ 9 j := by
        by_cases hj : j < (σ 3 6).toNat
        · simp [yBuy, hj]
        · simp [yBuy, hj]
      rw [e1, e2, hm.more, b6]
    · have hj2 : σ 3 6 ≤ j := hj
      have := hz j hj2
      show yBuy σ (σ 3 6).toNat 8 j = 0 ∧ yBuy σ (σ 3 6).toNat 9 j = 0
      have hn : ¬ j < (σ 3 6).toNat := by omega
      have e1 : yBuy σ (σ 3 6).toNat 8 j = σ 8 j := by simp [yBuy, hn]
      have e2 : yBuy σ (σ 3 6).toNat 9 j = σ 9 j := by simp [yBuy, hn]
      rw [e1, e2]
      exact this
theorem qIns_spec (en : Nat → Int) (e v : Int) : ∀ (n : Nat) (b : Nat → Int), ∃ p : Nat, p ≤ n ∧ (∀ i, i < p → qIns en e v n b i = b i) ∧ qIns en e v n b p = v ∧ (∀ i, p < i → i ≤ n → qIns en e v n b i = b (i - 1)) ∧ (∀ i, n < i → qIns en e v n b i = b i) ∧ (∀ i, p ≤ i → i < n → e < en (b i).toNat) ∧ (p = 0 ∨ en (b (p - 1)).toNat ≤ e) := by
  intro n
  induction n with
  | zero =>
    intro b
    refine ⟨0, Nat.le_refl 0, fun i h => absurd h (by omega), by show qUp b 0 v 0 = v; simp [qUp], fun i h1 h2 => absurd h1 (by omega), fun i h => by show qUp b 0 v i = b i; simp [qUp, show i ≠ 0 by omega], fun i h1 h2 => absurd h2 (by omega), Or.inl rfl⟩
  | succ n ih =>
    intro b
    by_cases hc : e < en (b n).toNat
    · have e0 : qIns en e v (n + 1) b = qIns en e v n (qUp b (n + 1) (b n)) := by
        show (if e < en (b n).toNat then _ else _) = _
        rw [if_pos hc]
      rw [e0]
      obtain ⟨p, h1, h2, h3, h4, h5, h6, h7⟩ := ih (qUp b (n + 1) (b n))
      have eb : ∀ i, i ≠ n + 1 → qUp b (n + 1) (b n) i = b i := fun i hi => by simp [qUp, hi]
      refine ⟨p, by omega, fun i hi => by rw [h2 i hi, eb i (by omega)], h3, fun i hi hi2 => ?_, fun i hi => by rw [h5 i (by omega), eb i (by omega)], fun i hi hi2 => ?_, ?_⟩
      · by_cases hn : i ≤ n
        · rw [h4 i hi hn, eb (i - 1) (by omega)]
        · obtain rfl : i = n + 1 := by omega
          rw [h5 (n + 1) (by omega)]
          show qUp b (n + 1) (b n) (n + 1) = b n
          simp [qUp]
      · by_cases hn : i < n
        · have := h6 i hi hn
          rw [eb i (by omega)] at this
          exact this
        · obtain rfl : i = n := by omega
          exact hc
      · rcases h7 with h | h
        · exact Or.inl h
        · by_cases hp : p = 0
          · exact Or.inl hp
          · rw [eb (p - 1) (by omega)] at h
            exact Or.inr h
    · have e0 : qIns en e v (n + 1) b = qUp b (n + 1) v := by
        show (if e < en (b n).toNat then _ else _) = _
        rw [if_neg hc]
      rw [e0]
      refine ⟨n + 1, Nat.le_refl _, fun i hi => by simp [qUp, show i ≠ n + 1 by omega], by simp [qUp], fun i h1 h2 => absurd h1 (by omega), fun i hi => by simp [qUp, show i ≠ n + 1 by omega], fun i h1 h2 => absurd h2 (by omega), Or.inr ?_⟩
      show en (b n).toNat ≤ e
      omega
/-- a flight more keeps the order by END -/
theorem ins_by {b en : Nat → Int} {z : Nat} {e : Int} (h0 : ∀ j : Nat, 0 ≤ b j) (h1 : ∀ j : Nat, j < z → b j < z) (h2 : ∀ i j : Nat, i < j → j < z → b i ≠ b j) (h3 : ∀ i j : Nat, i < j → j < z → en (b i).toNat ≤ en (b j).toNat) :
    (∀ j : Nat, j < z + 1 → qIns (qUp en z e) e z z b j < (z : Int) + 1) ∧ (∀ i j : Nat, i < j → j < z + 1 → qIns (qUp en z e) e z z b i ≠ qIns (qUp en z e) e z z b j) ∧ (∀ i j : Nat, i < j → j < z + 1 → qUp en z e (qIns (qUp en z e) e z z b i).toNat ≤ qUp en z e (qIns (qUp en z e) e z z b j).toNat) := by
  obtain ⟨p, g1, g2, g3, g4, g5, g6, g7⟩ := qIns_spec (qUp en z e) e z z b
  have eo : ∀ i, i < z → qUp en z e (b i).toNat = en (b i).toNat := fun i hi => by
    have := h1 i hi
    have := h0 i
    simp [qUp, show (b i).toNat ≠ z by omega]
  have ez : qUp en z e ((z : Int)).toNat = e := by simp [qUp]
  refine ⟨fun j hj => ?_, fun i j hij hj => ?_, fun i j hij hj => ?_⟩
  · rcases (show j < p ∨ j = p ∨ p < j by omega) with h | h | h
    · rw [g2 j h]; have := h1 j (by omega); omega
    · rw [h, g3]; omega
    · rw [g4 j h (by omega)]; have := h1 (j - 1) (by omega); omega
  · rcases (show i < p ∨ i = p ∨ p < i by omega) with hi | hi | hi <;> rcases (show j < p ∨ j = p ∨ p < j by omega) with h | h | h
    · rw [g2 i hi, g2 j h]; exact h2 i j hij (by omega)
    · rw [g2 i hi, h, g3]; have := h1 i (by omega); omega
    · rw [g2 i hi, g4 j h (by omega)]; exact h2 i (j - 1) (by omega) (by omega)
    · omega
    · omega
    · rw [hi, g3, g4 j h (by omega)]; have := h1 (j - 1) (by omega); omega
    · omega
    · omega
    · rw [g4 i hi (by omega), g4 j h (by omega)]; exact h2 (i - 1) (j - 1) (by omega) (by omega)
  · rcases (show i < p ∨ i = p ∨ p < i by omega) with hi | hi | hi <;> rcases (show j < p ∨ j = p ∨ p < j by omega) with h | h | h
    · rw [g2 i hi, g2 j h, eo i (by omega), eo j (by omega)]; exact h3 i j hij (by omega)
    · rw [g2 i hi, h, g3, ez]
      rcases g7 with q | q
      · omega
      · by_cases hq : i = p - 1
        · rw [hq]; exact q
        · have := h3 i (p - 1) (by omega) (by omega)
          rw [eo (p - 1) (by omega)] at q
          rw [eo i (by omega)]
          omega
    · rw [g2 i hi, g4 j h (by omega), eo i (by omega), eo (j - 1) (by omega)]; exact h3 i (j - 1) (by omega) (by omega)
    · omega
    · omega
    · rw [hi, g3, g4 j h (by omega), ez]
      have := g6 (j - 1) (by omega) (by omega)
      omega
    · omega
    · omega
    · rw [g4 i hi (by omega), g4 j h (by omega), eo (i - 1) (by omega), eo (j - 1) (by omega)]; exact h3 (i - 1) (j - 1) (by omega) (by omega)
set_option maxHeartbeats 4000000 in
set_option maxRecDepth 100000 in
theorem pair_flight (g : vGl) : vP_flight IAll g := by
  intro a b c d e ha hb hc hd he σ Q hI K
  obtain ⟨hR, hm, hz, hsk, hfl, hsp, hch, hye, h16⟩ := id hI
  have hM := hm.r hR
  have hr := hR.1
  have hm1 := hm.1
  obtain ⟨y1, y2, y3, y4, y5, y6, y7, y8, y9⟩ := id hye
  have ys := y1.1
  refine c_X8_flight (by omega) ha hb hc hd he y1 (fun h => ?_) (fun h1 h2 => ?_) (fun h1 h2 z hz0 => ?_)
  · refine K _ _ (fun Q' hQ' => ?_)
    exact c_X9_flight (by omega) ha hb hc hd he (by omega) (fun _ => hQ' _ hI) (fun _ _ => by exfalso; omega) (fun _ _ _ _ => by exfalso; omega)
  · refine K _ _ (fun Q' hQ' => ?_)
    exact c_X9_flight (by omega) ha hb hc hd he (by omega) (fun _ => by exfalso; omega) (fun _ _ => hQ' _ hI) (fun _ _ _ _ => by exfalso; omega)
  · refine K _ _ (fun Q' hQ' => ?_)
    refine c_X9_flight (by omega) ha hb hc hd he (by show 0 ≤ σ 38 45 ∧ σ 38 45 ≤ 10; omega) (fun _ => by exfalso; omega) (fun _ t => by have t2 : σ 38 45 = 10 := t; exfalso; omega) (fun _ _ y hy => ?_)
    have hy2 : σ 38 45 = y := hy
    obtain rfl : y = z := by omega
    have ib := ins_by (b := σ 35) (en := σ 33) (z := y) (e := d) (fun j => (y1.2 j).2.2.2.2.2.2.1) (fun j hj => by have := y7 j (by omega); omega) (fun i j hij hj => y8 i j hij (by omega)) (fun i j hij hj => y9 i j hij (by omega))
    have e35 : ∀ j : Nat, 0 ≤ qIns (qUp (σ 33) y d) d y y (σ 35) j ∧ qIns (qUp (σ 33) y d) d y y (σ 35) j ≤ 9 := by
      intro j
      obtain ⟨p, g1, g2, g3, g4, g5, -⟩ := qIns_spec (qUp (σ 33) y d) d y y (σ 35)
      have t1 := y1.2 j
      have t2 := y1.2 (j - 1)
      rcases (show j < p ∨ j = p ∨ (p < j ∧ j ≤ y) ∨ y < j by omega) with q | q | q | q
      · rw [g2 j q]; omega
      · rw [q, g3]; omega
      · rw [g4 j q.1 q.2]; omega
      · rw [g5 j q]; omega
    refine hQ' _ ⟨hR, hm, hz, hsk, hfl, hsp, hch, ⟨⟨?_, fun j => ?_⟩, rfl, row_up (row_up (row_up y3 _ _) _ _) _ _, row_up y4 _ _, row_up y5 _ _, y6, ?_, ?_, ?_⟩, h16⟩
    · show 0 ≤ (y : Int) + 1 ∧ (y : Int) + 1 ≤ 10
      omega
    · have := y1.2 j
      have := e35 j
      show 0 ≤ (if j = 3 * y + 2 then c else if j = 3 * y + 1 then b else if j = 3 * y then a else σ 32 j) ∧ (if j = 3 * y + 2 then c else if j = 3 * y + 1 then b else if j = 3 * y then a else σ 32 j) ≤ 9 ∧ 0 ≤ (if j = y then d else σ 33 j) ∧ (if j = y then d else σ 33 j) ≤ 11 ∧ 0 ≤ (if j = y then e else σ 34 j) ∧ (if j = y then e else σ 34 j) ≤ 999 ∧ 0 ≤ qIns (qUp (σ 33) y d) d y y (σ 35) j ∧ qIns (qUp (σ 33) y d) d y y (σ 35) j ≤ 9 ∧ 0 ≤ σ 36 j ∧ σ 36 j ≤ 9
      omega
    · intro j hj
      have hj2 : (j : Int) < (y : Int) + 1 := hj
      exact ib.1 j (by omega)
    · intro i j hij hj
      have hj2 : (j : Int) < (y : Int) + 1 := hj
      exact ib.2.1 i j hij (by omega)
    · intro i j hij hj
      have hj2 : (j : Int) < (y : Int) + 1 := hj
      exact ib.2.2 i j hij (by omega)
