section MORE
variable {g : vGl} {M : vMt} {d : Nat} {N : Nat × Nat × Nat × Nat} {Q : Option Value → List mC → Prop} {pc : Nat} {lv : List (Nat × Value)} {st : List Value} {σ : vSt}
theorem v_gIv {p ci k0 idx z : Nat} {ds : String} {fin : Bool} (v : Int) (hd : decode M.2.2.1 pc = .ok (.getfield idx, 3)) (hf : vFl M.1 idx ci k0 ds fin) (hs : vFT p k0 = some (ci, 0, z)) (hv : σ p k0 = v) (k : V g M d N Q (pc + 3) lv (vi v :: st) (hp σ)) : V g M d N Q pc lv (.ref p :: st) (hp σ) := by
  subst hv
  exact v_gI hd hf hs k
theorem v_gJv {p ci k0 idx z : Nat} {ds : String} {fin : Bool} (v : Int) (hd : decode M.2.2.1 pc = .ok (.getfield idx, 3)) (hf : vFl M.1 idx ci k0 ds fin) (hs : vFT p k0 = some (ci, 1, z)) (hv : σ p k0 = v) (k : V g M d N Q (pc + 3) lv (vj v :: st) (hp σ)) : V g M d N Q pc lv (.ref p :: st) (hp σ) := by
  subst hv
  exact v_gJ hd hf hs k
theorem v_aIv {p n j : Nat} {x : Int} (v : Int) (hd : decode M.2.2.1 pc = .ok (.iaload, 1)) (hs : vAT p = some (0, n)) (hj : x.toNat = j) (hx : 0 ≤ x) (hx2 : x < n) (hv : σ p j = v) (k : V g M d N Q (pc + 1) lv (vi v :: st) (hp σ)) : V g M d N Q pc lv (vi x :: .ref p :: st) (hp σ) := by
  subst hv
  exact v_aI hd hs hj hx hx2 k
theorem v_aJv {p n j : Nat} {x : Int} (v : Int) (hd : decode M.2.2.1 pc = .ok (.laload, 1)) (hs : vAT p = some (1, n)) (hj : x.toNat = j) (hx : 0 ≤ x) (hx2 : x < n) (hv : σ p j = v) (k : V g M d N Q (pc + 1) lv (vj v :: st) (hp σ)) : V g M d N Q pc lv (vi x :: .ref p :: st) (hp σ) := by
  subst hv
  exact v_aJ hd hs hj hx hx2 k
/-- the top of the stack, under another name -/
theorem v_top {v : Int} {y : Int} (hv : v = y) (k : V g M d N Q pc lv (vi y :: st) (hp σ)) : V g M d N Q pc lv (vi v :: st) (hp σ) := by
  subst hv
  exact k
theorem v_topj {v : Int} {y : Int} (hv : v = y) (k : V g M d N Q pc lv (vj y :: st) (hp σ)) : V g M d N Q pc lv (vj v :: st) (hp σ) := by
  subst hv
  exact k
theorem v_sg {τ : vSt} (h : σ = τ) (k : V g M d N Q pc lv st (hp τ)) : V g M d N Q pc lv st (hp σ) := by
  subst h
  exact k
end MORE
