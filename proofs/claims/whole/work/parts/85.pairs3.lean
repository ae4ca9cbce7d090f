set_option maxHeartbeats 4000000 in
set_option maxRecDepth 100000 in
theorem pair_year (g : vGl) : vP_year IAll g := by
  intro σ Q hI K
  obtain ⟨hR, hm, hz, hsk, hfl, hsp, hch, hye, h16⟩ := id hI
  have hM := hm.r hR
  have hr := hR.1
  have hm1 := hm.1
  obtain ⟨y1, y2, y3, y4, y5, y6, y7, y8, y9⟩ := id hye
  have ys := y1.1
  refine c_X8_year (by omega) y1 (fun f hf => ?_)
  have key := qYr_qCh (nd := σ 32) (en := σ 33) (wo := σ 34) (bd := σ 35) (up := f) (dl := σ 36) (n := (σ 31 6).toNat) (fun j => (y1.2 j).1) (fun j => ⟨(y1.2 j).2.2.1, (y1.2 j).2.2.2.1⟩) (fun j => (y1.2 j).2.2.2.2.2.2.2.2.1) hf (fun i hi => by have := y7 i (by omega); omega) (fun i j hij hj => by have := y8 i j hij (by omega); have := (y1.2 i).2.2.2.2.2.2.1; have := (y1.2 j).2.2.2.2.2.2.1; omega) (fun i j hij hj => y9 i j hij (by omega))
  refine K _ _ (fun Q' hQ' => ?_)
  refine c_X9_year (σ := yB (vRow σ 37 f) (qCh (σ 32) (σ 33) (σ 34) (σ 35) f (σ 31 6).toNat 0 0 0 0 0 0 (0, 0)).1 (qCh (σ 32) (σ 33) (σ 34) (σ 35) f (σ 31 6).toNat 0 0 0 0 0 0 (0, 0)).2) (r := qCh (σ 32) (σ 33) (σ 34) (σ 35) f (σ 31 6).toNat 0 0 0 0 0 0 (0, 0)) (by omega) ?_ ?_ ?_
  · refine ⟨?_, fun j => ?_⟩
    · show 0 ≤ σ 38 45 ∧ σ 38 45 ≤ 10
      omega
    · show 0 ≤ σ 63 j ∧ σ 63 j ≤ 9 ∧ 0 ≤ σ 64 j ∧ σ 64 j ≤ 11 ∧ 0 ≤ σ 65 j ∧ σ 65 j ≤ 999 ∧ 0 ≤ σ 66 j ∧ σ 66 j ≤ 9
      rw [y3, y4, y5, y6]
      have := y1.2 j
      omega
  · show qYr (σ 63) (σ 64) (σ 65) (σ 66) (σ 38 45).toNat (2 ^ (σ 38 45).toNat - 1) 1 (0, 0) _
    rw [y2, y3, y4, y5, y6]
    exact key
  · exact hQ' _ ⟨hR, hm, hz, hsk, hfl, hsp, hch, ⟨y1, y2, y3, y4, y5, y6, y7, y8, y9⟩, h16⟩
set_option maxHeartbeats 4000000 in
set_option maxRecDepth 100000 in
theorem pair_flights (g : vGl) : vP_flights IAll g := by
  intro σ Q hI K
  obtain ⟨hR, hm, hz, hsk, hfl, hsp, hch, hye, h16⟩ := id hI
  have hM := hm.r hR
  have hr := hR.1
  have hm1 := hm.1
  obtain ⟨y1, y2, y3, y4, y5, y6, y7, y8, y9⟩ := id hye
  have ys := y1.1
  refine c_X8_flights (by omega) y1 (fun f hf => ?_)
  have key := qYr_qCh (nd := σ 32) (en := σ 33) (wo := σ 34) (bd := σ 35) (up := f) (dl := σ 36) (n := (σ 31 6).toNat) (fun j => (y1.2 j).1) (fun j => ⟨(y1.2 j).2.2.1, (y1.2 j).2.2.2.1⟩) (fun j => (y1.2 j).2.2.2.2.2.2.2.2.1) hf (fun i hi => by have := y7 i (by omega); omega) (fun i j hij hj => by have := y8 i j hij (by omega); have := (y1.2 i).2.2.2.2.2.2.1; have := (y1.2 j).2.2.2.2.2.2.1; omega) (fun i j hij hj => y9 i j hij (by omega))
  refine K _ _ (fun Q' hQ' => ?_)
  refine c_X9_flights (σ := yB (vRow σ 37 f) (qCh (σ 32) (σ 33) (σ 34) (σ 35) f (σ 31 6).toNat 0 0 0 0 0 0 (0, 0)).1 (qCh (σ 32) (σ 33) (σ 34) (σ 35) f (σ 31 6).toNat 0 0 0 0 0 0 (0, 0)).2) (r := qCh (σ 32) (σ 33) (σ 34) (σ 35) f (σ 31 6).toNat 0 0 0 0 0 0 (0, 0)) (by omega) ?_ ?_ ?_
  · refine ⟨?_, fun j => ?_⟩
    · show 0 ≤ σ 38 45 ∧ σ 38 45 ≤ 10
      omega
    · show 0 ≤ σ 63 j ∧ σ 63 j ≤ 9 ∧ 0 ≤ σ 64 j ∧ σ 64 j ≤ 11 ∧ 0 ≤ σ 65 j ∧ σ 65 j ≤ 999 ∧ 0 ≤ σ 66 j ∧ σ 66 j ≤ 9
      rw [y3, y4, y5, y6]
      have := y1.2 j
      omega
  · show qYr (σ 63) (σ 64) (σ 65) (σ 66) (σ 38 45).toNat (2 ^ (σ 38 45).toNat - 1) 1 (0, 0) _
    rw [y2, y3, y4, y5, y6]
    exact key
  · exact hQ' _ ⟨hR, hm, hz, hsk, hfl, hsp, hch, ⟨y1, y2, y3, y4, y5, y6, y7, y8, y9⟩, h16⟩
