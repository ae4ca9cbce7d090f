/-! plain: the safe ticks; then the pairs -/
theorem fS_c {e e' : vSt} (h : fEq e e') (f : Nat → Int) : fS e f = fS e' f := by
  unfold fS fT
  rw [fD_c h, fB_c h, fD_c h]
theorem fBeg_c {e e' : vSt} (h : fEq e e') (f : Nat → Int) : fBeg e f = fBeg e' f := by
  obtain ⟨a2, a4, a6, a10, a11, a12, a13, a14, a26, a27⟩ := h
  unfold fBeg fRdy eTh yMass
  rw [a2, a4, a6, a10, a11, a12, a13, a14]
theorem fR_c {e e' : vSt} (h : fEq e e') {U hs : Int} {g : Nat → Int} : ∀ (n : Nat) (f : Nat → Int), fR e U hs n f g → fR e' U hs n f g := by
  intro n
  induction n with
  | zero => intro f q; exact q
  | succ n ih =>
    intro f q
    have q2 := ih _ q.2
    rw [fS_c h] at q2
    exact ⟨q.1, q2⟩
theorem fFl_c {e e' : vSt} (h : fEq e e') {t : Int} {f g : Nat → Int} (q : fFl e t f g) : fFl e' t f g := by
  rcases q with ⟨h1, n, hr⟩ | ⟨h1, h2, f1, n, n', hr, hr2⟩
  · exact Or.inl ⟨h1, n, fR_c h n f hr⟩
  · have r2 := fR_c h n' _ hr2
    rw [fLose_c h] at r2
    exact Or.inr ⟨h1, h2, f1, n, n', fR_c h n f hr, r2⟩
theorem fR_un {e : vSt} {f g g' : Nat → Int} {U : Int} {n m : Nat} (hR : YR e) (hS : WS e) (hU : U ≤ 2000) (w : WF e f) (h1 : fR e U 0 n f g) (h2 : fR e U 0 m f g') : g = g' :=
  (fGo_un hR hS hU w (fun x => absurd x (by decide)) h1).symm.trans (fGo_un hR hS hU w (fun x => absurd x (by decide)) h2)
theorem fR_tick {e : vSt} {f g : Nat → Int} {n : Nat} (hR : YR e) (hS : WS e) (hr : fR e 2000 0 n f g) (w : WF e f) (h7 : 0 < f 7) (h8 : f 8 < 2000) : f 8 + 1 ≤ g 8 := by
  obtain ⟨i1, i2, i3, i4, i5, i6⟩ := fZ_ok hR 4 f (by have := hR.1; have := w.1.1; omega) w h7
  have i58 := i5 8 (by omega)
  have i57 := i5 7 (by omega)
  obtain ⟨m1, hm1, hr1⟩ := i6 2000 0 n g hr ⟨h7, h8, fun x => absurd x (by decide)⟩
  obtain ⟨m2, em2, hr2⟩ := fR_next hr1 ⟨by omega, by omega, fun x => absurd x (by decide)⟩
  have eS : fS e (fZ e 4 f) = fT e (fZ e 4 f) := if_neg (by omega)
  rw [eS] at hr2
  obtain ⟨t1, t2, -⟩ := WF_T hR hS i1 (by omega) (by omega) i2
  have := (fR_WF hR hS (Int.le_refl _) m2 _ hr2 t1).2.2.2.1
  omega
theorem fSafe_br {e : vSt} {f : Nat → Int} (z : ¬ f 13 = -1) : ∀ n, fSafe e n f = 0 := by
  intro n
  cases n with
  | zero => rfl
  | succ n => exact if_neg (fun x => z x.2.2)
theorem fSafe_ind {e : vSt} {f0 g : Nat → Int} {G : Nat → Nat → Int} (hR : YR e) (hS : WS e) (w0 : WF e f0) (h8 : f0 8 = 0) {ng : Nat} (hg : fR e 2000 0 ng f0 g) (hG : ∀ t : Nat, (t : Int) < g 8 → fFl e t f0 (G t)) : ∀ (n : Nat) (f : Nat → Int) (m : Nat), n ≤ 2000 → fR e (2000 - n) 0 m f0 f → fSafe e n f = qSum (fun t => if fBk e (G t) = 0 then 1 else 0) ((g 8).toNat - (2000 - n)) (2000 - n) := by
  obtain ⟨wg, -, -, -, gU⟩ := fR_WF hR hS (Int.le_refl _) ng f0 hg w0
  have gU2 := gU (by omega)
  intro n
  induction n with
  | zero =>
    intro f m _ _
    show (0 : Int) = qSum _ ((g 8).toNat - 2000) 2000
    rw [show (g 8).toNat - 2000 = 0 by omega]
    rfl
  | succ n ih =>
    intro f m hn hr
    obtain ⟨w, -, st, -, fU⟩ := fR_WF hR hS (by omega) m f0 hr w0
    have fU2 := fU (by omega)
    have p7 := w.p7 hR
    obtain ⟨k, hk⟩ := fGo_ok (U := 2000) (hs := 0) hR hS (Int.le_refl _) w (fun x => absurd x (by decide))
    have eg : fGo e 2000 0 4 f = g := by
      obtain ⟨k2, hk2⟩ := fR_comp (U' := 2000) (by omega) m f0 hr hk
      exact fR_un hR hS (Int.le_refl _) w0 hk2 hg
    rw [eg] at hk
    by_cases q : 0 < f 7 ∧ f 8 < 2000 ∧ f 13 = -1
    · have e0 : fSafe e (n + 1) f = (if fBk e (fGo e 2000 1 4 (fLose e f)) = 0 then 1 else 0) + fSafe e n (fGo e (2000 - n) 1 4 f) := if_pos q
      have t8 : f 8 = 2000 - ((n + 1 : Nat) : Int) := by
        have : ¬ f 8 < 2000 - ((n + 1 : Nat) : Int) := fun x => st ⟨q.1, x, fun x => absurd x (by decide)⟩
        omega
      have tk := fR_tick hR hS hk w q.1 q.2.1
      rw [e0, show (g 8).toNat - (2000 - (n + 1)) = ((g 8).toNat - (2000 - n)) + 1 by omega]
      show _ = (if fBk e (G (2000 - (n + 1))) = 0 then (1 : Int) else 0) + qSum (fun t => if fBk e (G t) = 0 then 1 else 0) ((g 8).toNat - (2000 - n)) (2000 - (n + 1) + 1)
      rw [show 2000 - (n + 1) + 1 = 2000 - n by omega]
      have A1 : (if fBk e (fGo e 2000 1 4 (fLose e f)) = 0 then (1 : Int) else 0) = if fBk e (G (2000 - (n + 1))) = 0 then 1 else 0 := by
        have et : ((2000 - (n + 1) : Nat) : Int) = 2000 - ((n + 1 : Nat) : Int) := by omega
        rcases hG (2000 - (n + 1)) (by omega) with ⟨h1, -⟩ | ⟨-, -, f1, n1, n2, r1, r2⟩
        · omega
        · rw [et] at r1
          have ef : f1 = f := fR_un hR hS (by omega) w0 r1 hr
          rw [ef] at r2
          have wl := WF_Lose hR w
          obtain ⟨n3, r3⟩ := fGo_ok (U := 2000) (hs := 1) hR hS (Int.le_refl _) wl.1 (fun _ => wl.2.1.trans q.2.2)
          obtain ⟨a1, a2⟩ := fR_hasty hR hS (Int.le_refl _) n3 _ n2 wl.1 r3 r2
          by_cases z : fGo e 2000 1 4 (fLose e f) 13 = -1
          · rw [a2 z]
          · have z2 := a1 z
            have b1 : fBk e (fGo e 2000 1 4 (fLose e f)) = 1 := if_pos z
            have b2 : fBk e (G (2000 - (n + 1))) = 1 := if_pos z2
            rw [b1, b2]
      have A2 : fSafe e n (fGo e (2000 - n) 1 4 f) = qSum (fun t => if fBk e (G t) = 0 then 1 else 0) ((g 8).toNat - (2000 - n)) (2000 - n) := by
        obtain ⟨n3, r3⟩ := fGo_ok (U := 2000 - (n : Int)) (hs := 1) hR hS (by omega) w (fun _ => q.2.2)
        obtain ⟨n4, r4⟩ := fGo_ok (U := 2000 - (n : Int)) (hs := 0) hR hS (by omega) w (fun x => absurd x (by decide))
        obtain ⟨n5, r5⟩ := fR_comp (by omega) m f0 hr r4
        have i := ih _ n5 (by omega) r5
        obtain ⟨a1, a2⟩ := fR_hasty hR hS (by omega) n3 _ n4 w r3 r4
        rw [← i]
        by_cases z : fGo e (2000 - (n : Int)) 1 4 f 13 = -1
        · rw [a2 z]
        · rw [fSafe_br z, fSafe_br (a1 z)]
      rw [A1, A2]
    · have e0 : fSafe e (n + 1) f = 0 := if_neg q
      rw [e0]
      by_cases q2 : 0 < f 7 ∧ f 8 < 2000
      · have z : ¬ f 13 = -1 := fun x => q ⟨q2.1, q2.2, x⟩
        rw [qSum_cong (g := fun _ => 0) _ _ (fun i h1 h2 => ?_), qSum_zero _ _ (fun _ _ => rfl)]
        rcases hG i (by omega) with ⟨h, -⟩ | ⟨-, h3, f1, n1, n2, r1, r2⟩
        · omega
        · obtain ⟨k3, r3⟩ := fGo_ok (U := (i : Int)) (hs := 0) hR hS (by omega) w (fun x => absurd x (by decide))
          obtain ⟨k4, r4⟩ := fR_comp (U' := (i : Int)) (by omega) m f0 hr r3
          have ef := fR_un hR hS (by omega) w0 r1 r4
          have w1 := fR_WF hR hS (by omega) k3 f r3 w
          have z1 := w1.2.1 z
          rw [ef] at r2
          have wl := WF_Lose hR w1.1
          have z2 := (fR_WF hR hS (Int.le_refl _) n2 _ r2 wl.1).2.1 (by rw [wl.2.1]; exact z1)
          have b : fBk e (G i) = 1 := if_pos z2
          show (if fBk e (G i) = 0 then (1 : Int) else 0) = 0
          rw [b]
          rfl
      · have eg2 := fR_stop hk (fun x => q2 ⟨x.1, x.2.1⟩)
        rw [eg2, show (f 8).toNat - (2000 - (n + 1)) = 0 by omega]
        rfl
theorem IAll_mS {σ : vSt} {a l : Nat → Int} (hI : IAll σ) (h0 : eO σ a) : IAll (mS σ a l) := by
  obtain ⟨hR, hm, hz, hsk, hfl, hsp, hch, hye, h16⟩ := hI
  exact ⟨hR, IM_mS hm h0, hz, hsk, ⟨hfl.1, (h0 39 (by omega)).trans hfl.2.1, hfl.2.2⟩, ⟨(h0 20 (by omega)).trans hsp.1, hsp.2⟩, ⟨(h0 27 (by omega)).trans hch.1, hch.2⟩, ⟨hye.1, (h0 45 (by omega)).trans hye.2.1, hye.2.2⟩, h16⟩
theorem IAll_fly {σ : vSt} {a l g : Nat → Int} (hI : IAll σ) (h0 : eO σ a) : IAll (mS (vFly (vRow (vU σ 1 9 1) 28 g) g) (qUp a 39 1) l) := by
  obtain ⟨hR, hm, hz, hsk, hfl, hsp, hch, hye, h16⟩ := hI
  have h := IM_mS (l := l) hm h0
  exact ⟨hR, h, hz, hsk, ⟨Or.inr rfl, rfl, fun _ => ⟨rfl, rfl, rfl, rfl, rfl, rfl, rfl⟩⟩, ⟨(h0 20 (by omega)).trans hsp.1, hsp.2⟩, ⟨(h0 27 (by omega)).trans hch.1, hch.2⟩, ⟨hye.1, (h0 45 (by omega)).trans hye.2.1, hye.2.2⟩, h16⟩
set_option maxHeartbeats 4000000 in
set_option maxRecDepth 100000 in
theorem pair_fly (g : vGl) : vP_fly IAll g := by
  intro σ Q hI K
  obtain ⟨hR, hm, hz, hsk, hfl, hsp, hch, hye, h16⟩ := id hI
  refine c_X8_fly (by omega) hR hsk.2.2 (fun z => ?_) (fun z => ?_)
  · refine K _ _ (fun Q' hQ' => ?_)
    exact c_X9_fly (f0 := σ 28) (g2 := σ 28) (by omega) hR hm hsk (fun h => absurd z h) (fun _ => hQ' _ hI) (fun h => absurd z h)
  · refine K _ _ (fun Q' hQ' => ?_)
    have sb := (qSum_bound (f := σ 13) (B := 600) (fun j => by have := hR.2.2.1 j; omega) (σ 10 6).toNat 0).1
    have hn : 0 < σ 10 6 := n_pos (by omega)
    have w0 := WF_Beg (f := σ 28) hR hsk.2.2 hn
    obtain ⟨n, hr⟩ := fGo_ok (U := 2000) (hs := 0) hR hsk.2.2 (Int.le_refl _) w0 (fun x => absurd x (by decide))
    generalize fGo σ 2000 0 4 (fBeg σ (σ 28)) = g2 at hr hQ' ⊢
    refine c_X9_fly (σ := vRow (vU σ 1 9 1) 28 g2) (f0 := σ 28) (g2 := g2) (by omega) hR hm hsk (fun _ => Or.inl ⟨by decide, n, ?_⟩) (fun h => absurd h z) (fun _ a l N => ?_)
    · have fe : fEq σ (vRow (vU σ 1 9 1) 28 g2) := ⟨rfl, rfl, rfl, rfl, rfl, rfl, rfl, rfl, rfl, rfl⟩
      rw [← fBeg_c fe]
      exact fR_c fe n _ hr
    · exact hQ' _ (IAll_fly hI N.1)
set_option maxHeartbeats 4000000 in
set_option maxRecDepth 100000 in
theorem pair_out (g : vGl) : vP_out IAll g := by
  intro a ha σ Q hI K
  obtain ⟨hR, hm, hz, hsk, hfl, hsp, hch, hye, h16⟩ := id hI
  refine c_X8_out ha (by omega) hR hsk.2.2 (fun h => ?_) (fun h1 h2 z => ?_) (fun h1 h2 z => ?_)
  · refine K _ _ (fun Q' hQ' => ?_)
    exact c_X9_out (f0 := σ 30) (g2 := σ 30) (by omega) hR hm hsk ha (fun _ => hQ' _ hI) (fun h1 h2 => absurd ⟨h1, h2⟩ h) (fun h1 h2 => absurd ⟨h1, h2⟩ h) (fun h1 h2 => absurd ⟨h1, h2⟩ h)
  · refine K _ _ (fun Q' hQ' => ?_)
    exact c_X9_out (f0 := σ 30) (g2 := σ 30) (by omega) hR hm hsk ha (fun h => absurd ⟨h1, h2⟩ h) (fun _ _ _ => hQ' _ hI) (fun _ _ h => absurd z h) (fun _ _ h => absurd z h)
  · refine K _ _ (fun Q' hQ' => ?_)
    have sb := (qSum_bound (f := σ 13) (B := 600) (fun j => by have := hR.2.2.1 j; omega) (σ 10 6).toNat 0).1
    have hn : 0 < σ 10 6 := n_pos (by omega)
    have w0 := WF_Beg (f := σ 30) hR hsk.2.2 hn
    obtain ⟨n, hr⟩ := fGo_ok (U := a) (hs := 0) hR hsk.2.2 (by omega) w0 (fun x => absurd x (by decide))
    have w1 := (fR_WF hR hsk.2.2 (by omega) n _ hr w0).1
    have w2 := (WF_Lose hR w1).1
    obtain ⟨n2, hr2⟩ := fGo_ok (U := 2000) (hs := 0) hR hsk.2.2 (Int.le_refl _) w2 (fun x => absurd x (by decide))
    have fl : fFl σ a (fBeg σ (σ 30)) (fGo σ 2000 0 4 (fLose σ (fGo σ a 0 4 (fBeg σ (σ 30))))) := Or.inr ⟨h1, by omega, _, n, n2, hr, hr2⟩
    generalize fGo σ 2000 0 4 (fLose σ (fGo σ a 0 4 (fBeg σ (σ 30)))) = g2 at fl hQ' ⊢
    refine c_X9_out (σ := vRow σ 30 g2) (f0 := σ 30) (g2 := g2) (by omega) hR hm hsk ha (fun h => absurd ⟨h1, h2⟩ h) (fun _ _ h => absurd h z) (fun _ _ _ => ?_) (fun _ _ _ b l h0 => ?_)
    · have fe : fEq σ (vRow σ 30 g2) := ⟨rfl, rfl, rfl, rfl, rfl, rfl, rfl, rfl, rfl, rfl⟩
      rw [← fBeg_c fe]
      exact fFl_c fe fl
    · exact hQ' _ (IAll_mS (show IAll (vRow σ 30 g2) from ⟨hR, hm, hz, hsk, hfl, hsp, hch, hye, h16⟩) h0)
set_option maxHeartbeats 4000000 in
set_option maxRecDepth 100000 in
theorem pair_safe (g : vGl) : vP_safe IAll g := by
  intro σ Q hI K
  obtain ⟨hR, hm, hz, hsk, hfl, hsp, hch, hye, h16⟩ := id hI
  refine c_X8_safe (by omega) hR hsk.2.2 (fun z => ?_) (fun z f h => ?_)
  · refine K _ _ (fun Q' hQ' => ?_)
    exact c_X9_safe (f0 := σ 29) (g2 := σ 29) (G := fun _ => σ 29) (by omega) hR hm hsk (fun h => absurd z h) (fun _ => hQ' _ hI) (fun h => absurd z h)
  · refine K _ _ (fun Q' hQ' => ?_)
    have sb := (qSum_bound (f := σ 13) (B := 600) (fun j => by have := hR.2.2.1 j; omega) (σ 10 6).toNat 0).1
    have hn : 0 < σ 10 6 := n_pos (by omega)
    have w0 := WF_Beg (f := σ 29) hR hsk.2.2 hn
    obtain ⟨n, hr⟩ := fGo_ok (U := 2000) (hs := 0) hR hsk.2.2 (Int.le_refl _) w0 (fun x => absurd x (by decide))
    have wg := fR_WF hR hsk.2.2 (Int.le_refl _) n _ hr w0
    have g8 := wg.2.2.2.2 (show (0 : Int) ≤ 2000 by decide)
    have fl : ∀ t : Nat, (t : Int) < fGo σ 2000 0 4 (fBeg σ (σ 29)) 8 → fFl σ t (fBeg σ (σ 29)) (fGo σ 2000 0 4 (fLose σ (fGo σ t 0 4 (fBeg σ (σ 29))))) := by
      intro t ht
      obtain ⟨n1, hr1⟩ := fGo_ok (U := (t : Int)) (hs := 0) hR hsk.2.2 (by omega) w0 (fun x => absurd x (by decide))
      have w1 := (fR_WF hR hsk.2.2 (by omega) n1 _ hr1 w0).1
      have w2 := (WF_Lose hR w1).1
      obtain ⟨n2, hr2⟩ := fGo_ok (U := 2000) (hs := 0) hR hsk.2.2 (Int.le_refl _) w2 (fun x => absurd x (by decide))
      exact Or.inr ⟨by omega, by omega, _, n1, n2, hr1, hr2⟩
    have r0 : fR σ (2000 - (2000 : Nat)) 0 0 (fBeg σ (σ 29)) (fBeg σ (σ 29)) := ⟨fun x => absurd (show (0 : Int) < 2000 - (2000 : Nat) from x.2.1) (by decide), rfl⟩
    have ev := fSafe_ind (G := fun t => fGo σ 2000 0 4 (fLose σ (fGo σ t 0 4 (fBeg σ (σ 29))))) hR hsk.2.2 w0 rfl hr fl 2000 (fBeg σ (σ 29)) 0 (Nat.le_refl _) r0
    rw [ev] at hQ'
    have fe : fEq σ (vRow (vRow σ 29 f) 30 h) := ⟨rfl, rfl, rfl, rfl, rfl, rfl, rfl, rfl, rfl, rfl⟩
    refine c_X9_safe (σ := vRow (vRow σ 29 f) 30 h) (f0 := σ 29) (g2 := fGo σ 2000 0 4 (fBeg σ (σ 29))) (G := fun t => fGo σ 2000 0 4 (fLose σ (fGo σ t 0 4 (fBeg σ (σ 29))))) (by omega) hR hm hsk (fun _ => ⟨?_, fun t ht => ?_⟩) (fun h => absurd h z) (fun _ a l h0 => ?_)
    · rw [← fBeg_c fe]
      exact fFl_c fe (Or.inl ⟨by decide, n, hr⟩)
    · rw [← fBeg_c fe]
      exact fFl_c fe (fl t ht)
    · exact hQ' _ (IAll_mS (show IAll (vRow (vRow σ 29 f) 30 h) from ⟨hR, hm, hz, hsk, hfl, hsp, hch, hye, h16⟩) h0)
