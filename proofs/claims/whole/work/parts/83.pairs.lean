theorem row_up {f h : Nat → Int} (e : f = h) (z : Nat) (a : Int) : (fun j => if j = z then a else f j) = fun j => if j = z then a else h j := by rw [e]
set_option maxHeartbeats 4000000 in
set_option maxRecDepth 100000 in
theorem pair_engine (g : vGl) : vP_engine IAll g := by
  intro a b c d ha hb hc hd σ Q hI K
  obtain ⟨hR, hm, hz, hsk, hfl, hsp, hch, hye, h16⟩ := id hI
  have hM := hm.r hR
  have hr := hR.1
  have hm1 := hm.1
  obtain ⟨⟨a1, a2, a3, a4, a5⟩, ⟨b1, b2, b3, b4, b5, b6⟩, c1, c2, c3, c4⟩ := id hm
  refine c_X8_engine (by omega) hR ha hb hc hd (fun h => ?_) (fun h1 h2 => ?_) (fun h1 h2 z hz0 => ?_)
  · refine K _ _ (fun Q' hQ' => ?_)
    exact c_X9_engine (by omega) hM ha hb hc hd (fun _ => hQ' _ hI) (fun _ _ => by exfalso; omega) (fun _ _ _ _ => by exfalso; omega)
  · refine K _ _ (fun Q' hQ' => ?_)
    exact c_X9_engine (by omega) hM ha hb hc hd (fun _ => by exfalso; omega) (fun _ _ => hQ' _ hI) (fun _ _ _ _ => by exfalso; omega)
  · refine K _ _ (fun Q' hQ' => ?_)
    refine c_X9_engine (by omega) (by exact hM) ha hb hc hd (fun _ => by exfalso; omega) (fun _ t => by have t2 : σ 38 12 = 6 := t; exfalso; omega) (fun _ _ y hy => ?_)
    have hy2 : σ 38 12 = y := hy
    obtain rfl : y = z := by omega
    refine hQ' _ ⟨?_, ?_, ?_, hsk, hfl, hsp, hch, hye, h16⟩
    · obtain ⟨h0, hE, hS, hT, hF⟩ := id hR
      refine ⟨?_, fun j => ?_, hS, fun j hj => ?_, fun j hj => ?_⟩
      · show 0 ≤ σ 2 0 ∧ σ 2 0 ≤ 999 ∧ 1 ≤ σ 2 1 ∧ σ 2 1 ≤ 50 ∧ 50 ≤ σ 2 2 ∧ σ 2 2 ≤ 100 ∧ 0 ≤ (y : Int) + 1 ∧ (y : Int) + 1 ≤ 6 ∧ 0 ≤ σ 10 6 ∧ σ 10 6 ≤ 4
        omega
      · have := hE j
        show 0 ≤ (if j = y then a else σ 4 j) ∧ (if j = y then a else σ 4 j) ≤ 999 ∧ 0 ≤ (if j = y then b else σ 5 j) ∧ (if j = y then b else σ 5 j) ≤ 999 ∧ 0 ≤ (if j = y then c else σ 6 j) ∧ (if j = y then c else σ 6 j) ≤ 99 ∧ 0 ≤ (if j = y then d else σ 7 j) ∧ (if j = y then d else σ 7 j) ≤ 9999 ∧ 0 ≤ σ 8 j ∧ σ 8 j ≤ 99 ∧ 0 ≤ σ 9 j ∧ σ 9 j ≤ 900
        omega
      · have := hT j hj
        show σ 11 j < (y : Int) + 1 ∧ 1 ≤ σ 12 j
        omega
      · have hj2 : (j : Int) < (y : Int) + 1 := hj
        show 1 ≤ (if j = y then a else σ 4 j) ∧ 1 ≤ (if j = y then b else σ 5 j) ∧ 1 ≤ (if j = y then c else σ 6 j) ∧ 1 ≤ (if j = y then d else σ 7 j)
        by_cases e : j = y
        · simp only [if_pos e]; omega
        · have := hF j (by omega)
          simp only [if_neg e]; exact this
    · exact ⟨⟨rfl, a2, a3, a4, a5⟩, ⟨row_up b1 y a, row_up b2 y b, row_up b3 y c, row_up b4 y d, b5, b6⟩, c1, c2, c3, c4⟩
    · intro j hj
      have hj2 : (y : Int) + 1 ≤ j := hj
      exact hz j (by omega)
set_option maxHeartbeats 4000000 in
set_option maxRecDepth 100000 in
theorem pair_store (g : vGl) : vP_store IAll g := by
  intro a b ha hb σ Q hI K
  obtain ⟨hR, hm, hz, hsk, hfl, hsp, hch, hye, h16⟩ := id hI
  have hM := hm.r hR
  have hr := hR.1
  have hm1 := hm.1
  obtain ⟨⟨a1, a2, a3, a4, a5⟩, ⟨b1, b2, b3, b4, b5, b6⟩, c1, c2, c3, c4⟩ := id hm
  have e43 : σ 43 a.toNat = σ 8 a.toNat := by rw [b5]
  refine c_X8_store (by omega) hR ha hb (fun h => ?_) (fun h1 h2 h3 => ?_) (fun h1 h2 h3 h4 h5 => ?_) (fun h1 h2 h3 h4 h5 => ?_)
  · refine K _ _ (fun Q' hQ' => ?_)
    exact c_X9_store (by omega) hM ha hb (fun _ => hQ' _ hI) (fun _ _ _ => by exfalso; omega) (fun _ _ _ _ _ => by exfalso; omega) (fun _ _ _ _ _ => by exfalso; omega)
  · refine K _ _ (fun Q' hQ' => ?_)
    exact c_X9_store (by omega) hM ha hb (fun _ => by exfalso; omega) (fun _ _ _ => hQ' _ hI) (fun _ _ _ _ _ => by exfalso; omega) (fun _ _ _ _ _ => by exfalso; omega)
  · refine K _ _ (fun Q' hQ' => ?_)
    exact c_X9_store (by omega) hM ha hb (fun _ => by exfalso; omega) (fun _ _ _ => by exfalso; omega) (fun _ _ _ _ _ => hQ' _ hI) (fun _ _ _ _ _ => by exfalso; omega)
  · refine K _ _ (fun Q' hQ' => ?_)
    refine c_X9_store (by omega) (by exact hM) ha hb (fun t => by have t2 : ¬ (0 ≤ a ∧ a < σ 38 12) := t; exfalso; omega) (fun _ _ _ => by exfalso; omega) (fun _ _ _ _ t => by have t2 : 99 < σ 43 a.toNat + b := t; exfalso; omega) (fun _ _ _ _ _ => ?_)
    show Q' (some (vi (σ 43 a.toNat + b))) (hp (vU (vU σ 8 a.toNat (σ 8 a.toNat + b)) 43 a.toNat (σ 43 a.toNat + b)))
    rw [e43]
    refine hQ' _ ⟨?_, ?_, ?_, hsk, hfl, hsp, hch, hye, h16⟩
    · obtain ⟨h0, hE, hS, hT, hF⟩ := id hR
      refine ⟨h0, fun j => ?_, hS, hT, hF⟩
      have := hE j
      have := hE a.toNat
      show 0 ≤ σ 4 j ∧ σ 4 j ≤ 999 ∧ 0 ≤ σ 5 j ∧ σ 5 j ≤ 999 ∧ 0 ≤ σ 6 j ∧ σ 6 j ≤ 99 ∧ 0 ≤ σ 7 j ∧ σ 7 j ≤ 9999 ∧ 0 ≤ (if j = a.toNat then σ 8 a.toNat + b else σ 8 j) ∧ (if j = a.toNat then σ 8 a.toNat + b else σ 8 j) ≤ 99 ∧ 0 ≤ σ 9 j ∧ σ 9 j ≤ 900
      omega
    · exact ⟨⟨a1, a2, a3, a4, a5⟩, ⟨b1, b2, b3, b4, row_up b5 _ _, b6⟩, c1, c2, c3, c4⟩
    · intro j hj
      have hj2 : σ 3 6 ≤ j := hj
      have := hz j hj2
      show (if j = a.toNat then σ 8 a.toNat + b else σ 8 j) = 0 ∧ σ 9 j = 0
      rw [if_neg (by omega)]
      exact this
set_option maxHeartbeats 4000000 in
set_option maxRecDepth 100000 in
theorem pair_stage (g : vGl) : vP_stage IAll g := by
  intro a b c d ha hb hc hd σ Q hI K
  obtain ⟨hR, hm, hz, hsk, hfl, hsp, hch, hye, h16⟩ := id hI
  have hM := hm.r hR
  have hr := hR.1
  have hm1 := hm.1
  obtain ⟨⟨a1, a2, a3, a4, a5⟩, ⟨b1, b2, b3, b4, b5, b6⟩, c1, c2, c3, c4⟩ := id hm
  refine c_X8_stage (by omega) hR ha hb hc hd (fun h => ?_) (fun h1 h2 h3 => ?_) (fun h1 h2 h3 h4 => ?_) (fun h1 h2 h3 h4 z hz0 => ?_)
  · refine K _ _ (fun Q' hQ' => ?_)
    exact c_X9_stage (by omega) hM ha hb hc hd (fun _ => hQ' _ hI) (fun _ _ _ => by exfalso; omega) (fun _ _ _ _ => by exfalso; omega) (fun _ _ _ _ _ _ => by exfalso; omega)
  · refine K _ _ (fun Q' hQ' => ?_)
    exact c_X9_stage (by omega) hM ha hb hc hd (fun _ => by exfalso; omega) (fun _ _ _ => hQ' _ hI) (fun _ _ _ _ => by exfalso; omega) (fun _ _ _ _ _ _ => by exfalso; omega)
  · refine K _ _ (fun Q' hQ' => ?_)
    exact c_X9_stage (by omega) hM ha hb hc hd (fun _ => by exfalso; omega) (fun _ _ _ => by exfalso; omega) (fun _ _ _ _ => hQ' _ hI) (fun _ _ _ _ _ _ => by exfalso; omega)
  · refine K _ _ (fun Q' hQ' => ?_)
    refine c_X9_stage (by omega) (by exact hM) ha hb hc hd (fun t => by have t2 : ¬ (0 ≤ a ∧ a < σ 38 12) := t; exfalso; omega) (fun _ _ _ => by exfalso; omega) (fun _ _ _ t => by have t2 : σ 38 13 = 4 := t; exfalso; omega) (fun _ _ _ _ y hy => ?_)
    have hy2 : σ 38 13 = y := hy
    obtain rfl : y = z := by omega
    refine hQ' _ ⟨?_, ?_, hz, hsk, hfl, hsp, hch, hye, h16⟩
    · obtain ⟨h0, hE, hS, hT, hF⟩ := id hR
      refine ⟨?_, hE, fun j => ?_, fun j hj => ?_, hF⟩
      · show 0 ≤ σ 2 0 ∧ σ 2 0 ≤ 999 ∧ 1 ≤ σ 2 1 ∧ σ 2 1 ≤ 50 ∧ 50 ≤ σ 2 2 ∧ σ 2 2 ≤ 100 ∧ 0 ≤ σ 3 6 ∧ σ 3 6 ≤ 6 ∧ 0 ≤ (y : Int) + 1 ∧ (y : Int) + 1 ≤ 4
        omega
      · have := hS j
        show 0 ≤ (if j = y then a else σ 11 j) ∧ (if j = y then a else σ 11 j) ≤ 5 ∧ 0 ≤ (if j = y then b else σ 12 j) ∧ (if j = y then b else σ 12 j) ≤ 9 ∧ 0 ≤ (if j = y then c else σ 13 j) ∧ (if j = y then c else σ 13 j) ≤ 600 ∧ 0 ≤ (if j = y then d else σ 14 j) ∧ (if j = y then d else σ 14 j) ≤ 99
        omega
      · have hj2 : (j : Int) < (y : Int) + 1 := hj
        show (if j = y then a else σ 11 j) < σ 3 6 ∧ 1 ≤ (if j = y then b else σ 12 j)
        by_cases e : j = y
        · simp only [if_pos e]; omega
        · have := hT j (by omega)
          simp only [if_neg e]; exact this
    · exact ⟨⟨a1, rfl, a3, a4, a5⟩, ⟨b1, b2, b3, b4, b5, b6⟩, row_up c1 y a, row_up c2 y b, row_up c3 y c, row_up c4 y d⟩
set_option maxHeartbeats 4000000 in
set_option maxRecDepth 100000 in
theorem pair_undo (g : vGl) : vP_undo IAll g := by
  intro σ Q hI K
  obtain ⟨hR, hm, hz, hsk, hfl, hsp, hch, hye, h16⟩ := id hI
  have hM := hm.r hR
  have hr := hR.1
  have hm1 := hm.1
  obtain ⟨⟨a1, a2, a3, a4, a5⟩, hb, hc⟩ := id hm
  refine c_X8_undo (by omega) hR (fun h => ?_) (fun h => ?_)
  · refine K _ _ (fun Q' hQ' => ?_)
    exact c_X9_undo (by omega) hM (fun _ => hQ' _ hI) (fun t => by exfalso; omega)
  · refine K _ _ (fun Q' hQ' => ?_)
    refine c_X9_undo (by omega) (by exact hM) (fun t => by have t2 : σ 38 13 = 0 := t; exfalso; omega) (fun _ => ?_)
    show Q' (some (vi (σ 38 13 - 1))) (hp (vU (vU σ 10 6 (σ 10 6 - 1)) 38 13 (σ 38 13 - 1)))
    rw [a2]
    refine hQ' _ ⟨?_, ⟨⟨a1, rfl, a3, a4, a5⟩, hb, hc⟩, hz, hsk, hfl, hsp, hch, hye, h16⟩
    obtain ⟨h0, hE, hS, hT, hF⟩ := id hR
    refine ⟨?_, hE, hS, fun j hj => ?_, hF⟩
    · show 0 ≤ σ 2 0 ∧ σ 2 0 ≤ 999 ∧ 1 ≤ σ 2 1 ∧ σ 2 1 ≤ 50 ∧ 50 ≤ σ 2 2 ∧ σ 2 2 ≤ 100 ∧ 0 ≤ σ 3 6 ∧ σ 3 6 ≤ 6 ∧ 0 ≤ σ 10 6 - 1 ∧ σ 10 6 - 1 ≤ 4
      omega
    · have hj2 : (j : Int) < σ 10 6 - 1 := hj
      exact hT j (by omega)
set_option maxHeartbeats 4000000 in
set_option maxRecDepth 100000 in
theorem pair_stuff (g : vGl) : vP_stuff IAll g := by
  intro a b ha hb σ Q hI K
  obtain ⟨hR, hm, hz, hsk, hfl, hsp, hch, hye, h16⟩ := id hI
  have hM := hm.r hR
  have hr := hR.1
  have hm1 := hm.1
  obtain ⟨⟨a1, a2, a3, a4, a5⟩, hb0, c1, c2, c3, c4⟩ := id hm
  refine c_X8_stuff (by omega) hR ha hb (fun h => ?_) (fun h1 h2 h3 => ?_) (fun h1 h2 h3 h4 => ?_)
  · refine K _ _ (fun Q' hQ' => ?_)
    exact c_X9_stuff (by omega) hM ha hb (fun _ => hQ' _ hI) (fun _ _ _ => by exfalso; omega) (fun _ _ _ _ => by exfalso; omega)
  · refine K _ _ (fun Q' hQ' => ?_)
    exact c_X9_stuff (by omega) hM ha hb (fun _ => by exfalso; omega) (fun _ _ _ => hQ' _ hI) (fun _ _ _ _ => by exfalso; omega)
  · refine K _ _ (fun Q' hQ' => ?_)
    refine c_X9_stuff (by omega) (by exact hM) ha hb (fun t => by have t2 : ¬ (0 ≤ a ∧ a < σ 38 13) := t; exfalso; omega) (fun _ _ _ => by exfalso; omega) (fun _ _ _ _ => ?_)
    show Q' (some (vi (σ 47 a.toNat))) (hp _)
    rw [c3]
    refine hQ' _ ⟨?_, ⟨⟨a1, a2, a3, a4, a5⟩, hb0, c1, c2, row_up c3 _ _, c4⟩, hz, hsk, hfl, hsp, hch, hye, h16⟩
    obtain ⟨h0, hE, hS, hT, hF⟩ := id hR
    refine ⟨h0, hE, fun j => ?_, hT, hF⟩
    have := hS j
    show 0 ≤ σ 11 j ∧ σ 11 j ≤ 5 ∧ 0 ≤ σ 12 j ∧ σ 12 j ≤ 9 ∧ 0 ≤ (if j = a.toNat then b else σ 13 j) ∧ (if j = a.toNat then b else σ 13 j) ≤ 600 ∧ 0 ≤ σ 14 j ∧ σ 14 j ≤ 99
    omega
set_option maxHeartbeats 4000000 in
set_option maxRecDepth 100000 in
theorem pair_set (g : vGl) : vP_set IAll g := by
  intro a b ha hb σ Q hI K
  obtain ⟨hR, hm, hz, hsk, hfl, hsp, hch, hye, h16⟩ := id hI
  have hM := hm.r hR
  have hr := hR.1
  have hm1 := hm.1
  obtain ⟨⟨a1, a2, a3, a4, a5⟩, hb0, hc0⟩ := id hm
  refine c_X8_set (by omega) hR ha hb (fun h => ?_) (fun h1 h2 h3 => ?_) (fun h1 h2 h3 h4 => ?_)
  · refine K _ _ (fun Q' hQ' => ?_)
    exact c_X9_set (by omega) hM ha hb (fun _ => hQ' _ hI) (fun _ _ _ => by exfalso; omega) (fun _ _ _ _ => by exfalso; omega)
  · refine K _ _ (fun Q' hQ' => ?_)
    exact c_X9_set (by omega) hM ha hb (fun _ => by exfalso; omega) (fun _ _ _ => hQ' _ hI) (fun _ _ _ _ => by exfalso; omega)
  · refine K _ _ (fun Q' hQ' => ?_)
    refine c_X9_set (by omega) (by exact hM) ha hb (fun _ => by exfalso; omega) (fun _ _ _ => by exfalso; omega) (fun _ _ _ _ => ?_)
    obtain ⟨h0, hE, hS, hT, hF⟩ := id hR
    rcases (show a = 0 ∨ a = 1 ∨ a = 2 by omega) with rfl | rfl | rfl
    · show Q' (some (vi (σ 38 14))) (hp (vU (vU σ 2 0 b) 38 14 b))
      rw [a3]
      refine hQ' _ ⟨⟨?_, hE, hS, hT, hF⟩, ⟨⟨a1, a2, rfl, a4, a5⟩, hb0, hc0⟩, hz, hsk, hfl, hsp, hch, hye, h16⟩
      show 0 ≤ b ∧ b ≤ 999 ∧ 1 ≤ σ 2 1 ∧ σ 2 1 ≤ 50 ∧ 50 ≤ σ 2 2 ∧ σ 2 2 ≤ 100 ∧ 0 ≤ σ 3 6 ∧ σ 3 6 ≤ 6 ∧ 0 ≤ σ 10 6 ∧ σ 10 6 ≤ 4
      omega
    · show Q' (some (vi (σ 38 15))) (hp (vU (vU σ 2 1 b) 38 15 b))
      rw [a4]
      refine hQ' _ ⟨⟨?_, hE, hS, hT, hF⟩, ⟨⟨a1, a2, a3, rfl, a5⟩, hb0, hc0⟩, hz, hsk, hfl, hsp, hch, hye, h16⟩
      show 0 ≤ σ 2 0 ∧ σ 2 0 ≤ 999 ∧ 1 ≤ b ∧ b ≤ 50 ∧ 50 ≤ σ 2 2 ∧ σ 2 2 ≤ 100 ∧ 0 ≤ σ 3 6 ∧ σ 3 6 ≤ 6 ∧ 0 ≤ σ 10 6 ∧ σ 10 6 ≤ 4
      omega
    · show Q' (some (vi (σ 38 16))) (hp (vU (vU σ 2 2 b) 38 16 b))
      rw [a5]
      refine hQ' _ ⟨⟨?_, hE, hS, hT, hF⟩, ⟨⟨a1, a2, a3, a4, rfl⟩, hb0, hc0⟩, hz, hsk, hfl, hsp, hch, hye, h16⟩
      show 0 ≤ σ 2 0 ∧ σ 2 0 ≤ 999 ∧ 1 ≤ σ 2 1 ∧ σ 2 1 ≤ 50 ∧ 50 ≤ b ∧ b ≤ 100 ∧ 0 ≤ σ 3 6 ∧ σ 3 6 ≤ 6 ∧ 0 ≤ σ 10 6 ∧ σ 10 6 ≤ 4
      omega
set_option maxHeartbeats 4000000 in
set_option maxRecDepth 100000 in
theorem pair_air (g : vGl) : vP_air IAll g := by
  intro a b ha hb σ Q hI K
  obtain ⟨hR, hm, hz, hsk, hfl, hsp, hch, hye, h16⟩ := id hI
  have hM := hm.r hR
  have hr := hR.1
  have hm1 := hm.1
  obtain ⟨s1, s2, s3⟩ := id hsk
  refine c_X8_air (by omega) hR ha hb (fun h => ?_) (fun h1 h2 h3 => ?_) (fun h1 h2 h3 h4 => ?_)
  · refine K _ _ (fun Q' hQ' => ?_)
    exact c_X9_air (by omega) hM ha hb (fun _ => hQ' _ hI) (fun _ _ _ => by exfalso; omega) (fun _ _ _ _ => by exfalso; omega)
  · refine K _ _ (fun Q' hQ' => ?_)
    exact c_X9_air (by omega) hM ha hb (fun _ => by exfalso; omega) (fun _ _ _ => hQ' _ hI) (fun _ _ _ _ => by exfalso; omega)
  · refine K _ _ (fun Q' hQ' => ?_)
    refine c_X9_air (by omega) (by exact hM) ha hb (fun _ => by exfalso; omega) (fun _ _ _ => by exfalso; omega) (fun _ _ _ _ => ?_)
    show Q' (some (vi (σ 49 a.toNat))) (hp _)
    rw [s1]
    refine hQ' _ ⟨hR, hm, hz, ⟨row_up s1 _ _, s2, fun j => ?_⟩, hfl, hsp, hch, hye, h16⟩
    have := s3 j
    show 0 ≤ (if j = a.toNat then b else σ 26 j) ∧ (if j = a.toNat then b else σ 26 j) ≤ 999 ∧ 0 ≤ σ 27 j ∧ σ 27 j ≤ 1000000
    omega
set_option maxHeartbeats 4000000 in
set_option maxRecDepth 100000 in
theorem pair_limit (g : vGl) : vP_limit IAll g := by
  intro a b ha hb σ Q hI K
  obtain ⟨hR, hm, hz, hsk, hfl, hsp, hch, hye, h16⟩ := id hI
  have hM := hm.r hR
  have hr := hR.1
  have hm1 := hm.1
  obtain ⟨s1, s2, s3⟩ := id hsk
  refine c_X8_limit (by omega) hR ha hb (fun h => ?_) (fun h1 h2 h3 => ?_) (fun h1 h2 h3 h4 => ?_)
  · refine K _ _ (fun Q' hQ' => ?_)
    exact c_X9_limit (by omega) hM ha hb (fun _ => hQ' _ hI) (fun _ _ _ => by exfalso; omega) (fun _ _ _ _ => by exfalso; omega)
  · refine K _ _ (fun Q' hQ' => ?_)
    exact c_X9_limit (by omega) hM ha hb (fun _ => by exfalso; omega) (fun _ _ _ => hQ' _ hI) (fun _ _ _ _ => by exfalso; omega)
  · refine K _ _ (fun Q' hQ' => ?_)
    refine c_X9_limit (by omega) (by exact hM) ha hb (fun _ => by exfalso; omega) (fun _ _ _ => by exfalso; omega) (fun _ _ _ _ => ?_)
    show Q' (some (vi (σ 50 a.toNat))) (hp _)
    rw [s2]
    refine hQ' _ ⟨hR, hm, hz, ⟨s1, row_up s2 _ _, fun j => ?_⟩, hfl, hsp, hch, hye, h16⟩
    have := s3 j
    show 0 ≤ σ 26 j ∧ σ 26 j ≤ 999 ∧ 0 ≤ (if j = a.toNat then b else σ 27 j) ∧ (if j = a.toNat then b else σ 27 j) ≤ 1000000
    omega
set_option maxHeartbeats 4000000 in
set_option maxRecDepth 100000 in
theorem pair_deliver (g : vGl) : vP_deliver IAll g := by
  intro a b c ha hb hc σ Q hI K
  obtain ⟨hR, hm, hz, hsk, hfl, hsp, hch, hye, h16⟩ := id hI
  have hM := hm.r hR
  have hr := hR.1
  have hm1 := hm.1
  obtain ⟨y1, y2, y3, y4, y5, y6, y7⟩ := id hye
  refine c_X8_deliver (by omega) hR ha hb hc (fun h => ?_) (fun h1 h2 => ?_) (fun h1 h2 h3 => ?_)
  · refine K _ _ (fun Q' hQ' => ?_)
    exact c_X9_deliver (by omega) hM ha hb hc (fun _ => hQ' _ hI) (fun _ _ => by exfalso; omega) (fun _ _ _ => by exfalso; omega)
  · refine K _ _ (fun Q' hQ' => ?_)
    exact c_X9_deliver (by omega) hM ha hb hc (fun _ => by exfalso; omega) (fun _ _ => hQ' _ hI) (fun _ _ _ => by exfalso; omega)
  · refine K _ _ (fun Q' hQ' => ?_)
    refine c_X9_deliver (by omega) (by exact hM) ha hb hc (fun _ => by exfalso; omega) (fun _ _ => by exfalso; omega) (fun _ _ _ => ?_)
    show Q' (some (vi (σ 66 (12 * a + b).toNat))) (hp _)
    rw [y6]
    refine hQ' _ ⟨hR, hm, hz, hsk, hfl, hsp, hch, ⟨⟨y1.1, fun j => ?_⟩, y2, y3, y4, y5, row_up y6 _ _, y7⟩, h16⟩
    have := y1.2 j
    show 0 ≤ σ 32 j ∧ σ 32 j ≤ 9 ∧ 0 ≤ σ 33 j ∧ σ 33 j ≤ 11 ∧ 0 ≤ σ 34 j ∧ σ 34 j ≤ 999 ∧ 0 ≤ σ 35 j ∧ σ 35 j ≤ 9 ∧ 0 ≤ (if j = (12 * a + b).toNat then c else σ 36 j) ∧ (if j = (12 * a + b).toNat then c else σ 36 j) ≤ 9
    omega
theorem IAll_init : IAll yInit := by
  refine ⟨⟨by decide, fun j => (show (0 : Int) ≤ 0 ∧ (0 : Int) ≤ 999 ∧ (0 : Int) ≤ 0 ∧ (0 : Int) ≤ 999 ∧ (0 : Int) ≤ 0 ∧ (0 : Int) ≤ 99 ∧ (0 : Int) ≤ 0 ∧ (0 : Int) ≤ 9999 ∧ (0 : Int) ≤ 0 ∧ (0 : Int) ≤ 99 ∧ (0 : Int) ≤ 0 ∧ (0 : Int) ≤ 900 from by decide), fun j => (show (0 : Int) ≤ 0 ∧ (0 : Int) ≤ 5 ∧ (0 : Int) ≤ 0 ∧ (0 : Int) ≤ 9 ∧ (0 : Int) ≤ 0 ∧ (0 : Int) ≤ 600 ∧ (0 : Int) ≤ 0 ∧ (0 : Int) ≤ 99 from by decide), fun j hj => ?_, fun j hj => ?_⟩, ⟨by decide, ⟨rfl, rfl, rfl, rfl, rfl, rfl⟩, rfl, rfl, rfl, rfl⟩, fun j hj => ⟨rfl, rfl⟩, ⟨rfl, ?_, fun j => ?_⟩, ⟨Or.inl rfl, rfl, fun h => by exact absurd h (by decide)⟩, ⟨rfl, by decide, by decide, fun k hk => ?_⟩, ⟨rfl, by decide, by decide, fun k => (show (0 : Int) ≤ 0 ∧ (0 : Int) ≤ 17 from by decide), fun k hk => ?_⟩, ⟨⟨by decide, fun j => (show (0 : Int) ≤ 0 ∧ (0 : Int) ≤ 9 ∧ (0 : Int) ≤ 0 ∧ (0 : Int) ≤ 11 ∧ (0 : Int) ≤ 0 ∧ (0 : Int) ≤ 999 ∧ (0 : Int) ≤ 0 ∧ (0 : Int) ≤ 9 ∧ (0 : Int) ≤ 0 ∧ (0 : Int) ≤ 9 from by decide)⟩, rfl, rfl, rfl, rfl, rfl, fun j hj => ?_, fun i j h hj => ?_, fun i j h hj => ?_⟩, rfl⟩
  · have h2 : (j : Int) < 0 := hj
    exfalso; omega
  · have h2 : (j : Int) < 0 := hj
    exfalso; omega
  · rfl
  · show 0 ≤ (if j < 10 then 100 - 10 * (j : Int) else 0) ∧ (if j < 10 then 100 - 10 * (j : Int) else 0) ≤ 999 ∧ 0 ≤ (if j = 0 then (1000000 : Int) else 0) ∧ (if j = 0 then (1000000 : Int) else 0) ≤ 1000000
    omega
  · have h2 : (k : Int) < 0 := hk
    exfalso; omega
  · have h2 : (k : Int) < 0 := hk
    exfalso; omega
  · have h2 : (j : Int) < 0 := hj
    exfalso; omega
  · have h2 : (j : Int) < 0 := hj
    exfalso; omega
  · have h2 : (j : Int) < 0 := hj
    exfalso; omega
