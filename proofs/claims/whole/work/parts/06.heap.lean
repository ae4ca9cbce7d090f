theorem vP.one {a : vAd} {cls : Nat → ClassId} {D : va_G} {w : List mC} {H : Heap} {p0 : Nat} {e : mC} (h : vP a cls D w H) (hw : w[p0]? = some e) : va_P D vwCl [(a.1 + p0, tre a cls e)] H := by
  intro k q hk
  have hz : k < 1 := (List.getElem?_eq_some_iff.mp hk).1
  rw [show k = 0 by omega] at hk
  cases hk
  exact h.2 p0 e hw
theorem vP.set {a : vAd} {cls : Nat → ClassId} {D : va_G} {w : List mC} {H H1 : Heap} {p0 : Nat} {e e1 : mC} (h : vP a cls D w H) (hw : w[p0]? = some e) (hz : H1.size = H.size) (ho : ∀ q : Nat, q ≠ a.1 + p0 → H1[q]? = H[q]?) (hn : va_at D vwCl (a.1 + p0, tre a cls e1) H1) : vP a cls D (w.set p0 e1) H1 := by
  have hl := (List.getElem?_eq_some_iff.mp hw).1
  refine ⟨by rw [hz, h.1, List.length_set], fun k x hk => ?_⟩
  by_cases hp : k = p0
  · subst hp
    rw [List.getElem?_set_self hl] at hk
    cases hk
    exact hn
  · rw [List.getElem?_set_ne (fun q => hp q.symm)] at hk
    exact (h.2 k x hk).kept (ho _ (show a.1 + k ≠ a.1 + p0 by omega))
theorem vP.push {a : vAd} {cls : Nat → ClassId} {D : va_G} {w : List mC} {H H1 : Heap} {e1 : mC} (h : vP a cls D w H) (hz : H1.size = H.size + 1) (ho : ∀ q : Nat, q < H.size → H1[q]? = H[q]?) (hn : va_at D vwCl (a.1 + w.length, tre a cls e1) H1) : vP a cls D (w ++ [e1]) H1 := by
  refine ⟨by rw [hz, h.1, List.length_append]; simp; omega, fun k x hk => ?_⟩
  by_cases hp : k < w.length
  · rw [List.getElem?_append_left hp] at hk
    have h2 := h.2 k x hk
    exact h2.kept (ho _ (show a.1 + k < H.size by rw [h.1]; omega))
  · rw [List.getElem?_append_right (by omega)] at hk
    have hz2 : k - w.length < 1 := (List.getElem?_eq_some_iff.mp hk).1
    have hk2 : k = w.length := by omega
    subst hk2
    rw [Nat.sub_self] at hk
    cases hk
    exact hn
theorem va_S_push {A : Nat → Prop} {H0 H H1 : Heap} {locs : List Loc} (h : va_S A H0 H locs) (hz : H1.size = H.size + 1) (ho : ∀ q : Nat, q < H.size → H1[q]? = H[q]?) : va_S A H0 H1 locs :=
  ⟨Nat.le_trans h.1 (by omega), fun q h1 h2 => (ho q (Nat.lt_of_lt_of_le h1 h.1)).trans (h.2.1 q h1 h2), h.2.2⟩
set_option maxRecDepth 100000 in
theorem vgX0 : ∀ w ∈ u_ws RX0 TX0 14, goodWord w = true := by decide +kernel
theorem vinX0 : ∀ w ∈ u_ws RX0 TX0 14, w ∈ vWords := fun w h => List.mem_filter.mpr ⟨inX0 w h, vgX0 w h⟩
set_option maxRecDepth 100000 in
theorem vgX1 : ∀ w ∈ u_ws RX1 TX1 7, goodWord w = true := by decide +kernel
theorem vinX1 : ∀ w ∈ u_ws RX1 TX1 7, w ∈ vWords := fun w h => List.mem_filter.mpr ⟨inX1 w h, vgX1 w h⟩
set_option maxRecDepth 100000 in
theorem vgX2 : ∀ w ∈ u_ws RX2 TX2 14, goodWord w = true := by decide +kernel
theorem vinX2 : ∀ w ∈ u_ws RX2 TX2 14, w ∈ vWords := fun w h => List.mem_filter.mpr ⟨inX2 w h, vgX2 w h⟩
set_option maxRecDepth 100000 in
theorem vgX3 : ∀ w ∈ u_ws RX3 TX3 3, goodWord w = true := by decide +kernel
theorem vinX3 : ∀ w ∈ u_ws RX3 TX3 3, w ∈ vWords := fun w h => List.mem_filter.mpr ⟨inX3 w h, vgX3 w h⟩
set_option maxRecDepth 100000 in
theorem vgX4 : ∀ w ∈ u_ws RX4 TX4 7, goodWord w = true := by decide +kernel
theorem vinX4 : ∀ w ∈ u_ws RX4 TX4 7, w ∈ vWords := fun w h => List.mem_filter.mpr ⟨inX4 w h, vgX4 w h⟩
set_option maxRecDepth 100000 in
theorem vgX5 : ∀ w ∈ u_ws RX5 TX5 2, goodWord w = true := by decide +kernel
theorem vinX5 : ∀ w ∈ u_ws RX5 TX5 2, w ∈ vWords := fun w h => List.mem_filter.mpr ⟨inX5 w h, vgX5 w h⟩
set_option maxRecDepth 100000 in
theorem vgX6 : ∀ w ∈ u_ws RX6 TX6 7, goodWord w = true := by decide +kernel
theorem vinX6 : ∀ w ∈ u_ws RX6 TX6 7, w ∈ vWords := fun w h => List.mem_filter.mpr ⟨inX6 w h, vgX6 w h⟩
set_option maxRecDepth 100000 in
theorem vgX7 : ∀ w ∈ u_ws RX7 TX7 9, goodWord w = true := by decide +kernel
theorem vinX7 : ∀ w ∈ u_ws RX7 TX7 9, w ∈ vWords := fun w h => List.mem_filter.mpr ⟨inX7 w h, vgX7 w h⟩
set_option maxRecDepth 100000 in
theorem vgX8 : ∀ w ∈ u_ws RX8 TX8 11, goodWord w = true := by decide +kernel
theorem vinX8 : ∀ w ∈ u_ws RX8 TX8 11, w ∈ vWords := fun w h => List.mem_filter.mpr ⟨inX8 w h, vgX8 w h⟩
set_option maxRecDepth 100000 in
theorem vgX9 : ∀ w ∈ u_ws RX9 TX9 47, goodWord w = true := by decide +kernel
theorem vinX9 : ∀ w ∈ u_ws RX9 TX9 47, w ∈ vWords := fun w h => List.mem_filter.mpr ⟨inX9 w h, vgX9 w h⟩
def vTab (C : String) (T : u_T) (N : Nat) : Prop := (∀ w ∈ u_ws C T N, w ∈ vWords) ∧ (∃ ty : Nat → FieldType, ∀ k, k < N → parseFieldDescriptor (T k).2.2.1 = some (ty k)) ∧ ∀ a, a < N → ∀ b, b < N → a ≠ b → (T a).2.1 ≠ (T b).2.1
theorem vtab {ci : Nat} {C : String} {T : u_T} {n : Nat} (h : vwCl[ci]? = some (C, T, n)) : vTab C T n := by
  match ci, h with
  | 0, h => cases h; exact ⟨vinX0, ⟨tyX0, tyX0_ok⟩, nmX0⟩
  | 1, h => cases h; exact ⟨vinX1, ⟨tyX1, tyX1_ok⟩, nmX1⟩
  | 2, h => cases h; exact ⟨vinX2, ⟨tyX2, tyX2_ok⟩, nmX2⟩
  | 3, h => cases h; exact ⟨vinX3, ⟨tyX3, tyX3_ok⟩, nmX3⟩
  | 4, h => cases h; exact ⟨vinX4, ⟨tyX4, tyX4_ok⟩, nmX4⟩
  | 5, h => cases h; exact ⟨vinX5, ⟨tyX5, tyX5_ok⟩, nmX5⟩
  | 6, h => cases h; exact ⟨vinX6, ⟨tyX6, tyX6_ok⟩, nmX6⟩
  | 7, h => cases h; exact ⟨vinX7, ⟨tyX7, tyX7_ok⟩, nmX7⟩
  | 8, h => cases h; exact ⟨vinX8, ⟨tyX8, tyX8_ok⟩, nmX8⟩
  | 9, h => cases h; exact ⟨vinX9, ⟨tyX9, tyX9_ok⟩, nmX9⟩
  | k + 10, h => simp [vwCl] at h
/-- an entry of a class' constants that names field k of class ci -/
def vFl (own : String) (idx ci k : Nat) (ds : String) (fin : Bool) : Prop := ∃ (C : String) (T : u_T) (n : Nat), vwCl[ci]? = some (C, T, n) ∧ k < n ∧ Cond.fieldLink own idx C (T k).2.1 ds ∈ vWords ∧ (T k).1 = C ∧ (T k).2.2.1 = ds ∧ (T k).2.2.2 = fin
section HEAP
variable {g : vGl} {M : vMt} {d : Nat} {N : Nat × Nat × Nat × Nat} {Q : Option Value → List mC → Prop} {pc : Nat} {lv : List (Nat × Value)} {st : List Value} {w : List mC}
theorem v_getf {p0 ci k0 idx : Nat} {fs : List Value} {ds : String} {fin : Bool} {v : Value} (hd : decode M.2.2.1 pc = .ok (.getfield idx, 3)) (hf : vFl M.1 idx ci k0 ds fin) (hw : w[p0]? = some (.inr (ci, fs))) (hv : fs[k0]? = some v) (k : V g M d N Q (pc + 3) lv (v :: st) w) : V g M d N Q pc lv (.ref (p0 + 1) :: st) w := by
  intro p e R s m args below meth c a cls D H locs ls QQ hF hG hR hl hr
  obtain ⟨C, T, n, hc, hk, hlk, hC, hds, -⟩ := hf
  subst hds
  exact va_get hF.1 hF.2.1 hF.2.2.2.2.1 (vtab hc).1 hF.2.2.2.1 hG.1 (hR.1.one hw) 0 rfl hc k0 hk (hF.2.2.2.2.1 _ hlk) (fun x h => by rw [hC] at h; exact h) (v := trv a v) (by rw [List.getElem?_map, hv]; rfl) hd (k p e R s m args below meth c a cls D H locs ls QQ hF hG hR hl hr)
theorem v_putf {p0 ci k0 idx : Nat} {fs : List Value} {ds : String} {v : Value} {ty : FieldType} (hd : decode M.2.2.1 pc = .ok (.putfield idx, 3)) (hf : vFl M.1 idx ci k0 ds false) (hw : w[p0]? = some (.inr (ci, fs))) (hty : parseFieldDescriptor ds = some ty) (hn : ∀ a, narrow ty (trv a v) = trv a v) (hfit : ∀ a, fits ty (trv a v) = true) (hlen : k0 < fs.length) (k : V g M d N Q (pc + 3) lv st (w.set p0 (.inr (ci, fs.set k0 v)))) : V g M d N Q pc lv (v :: .ref (p0 + 1) :: st) w := by
  intro p e R s m args below meth c a cls D H locs ls QQ hF hG hR hl hr
  obtain ⟨C, T, n, hc, hk, hlk, hC, hds, hfin⟩ := hf
  subst hds
  have hts := hF.2.2.2.2.1
  obtain ⟨hin, ⟨ty0, hty0⟩, hnm⟩ := vtab hc
  have hap := va_apart (own := M.1) hts hin ty0 hty0 hnm hG.1 hc
  obtain ⟨r, h1, cell, q1, q2, q3, q4⟩ := hR.1.2 p0 _ hw
  have hr0 : r = (C, T, n) := Option.some.inj (h1.symm.trans hc)
  subst hr0
  obtain ⟨hS, hfc, kC, hkC, hkind⟩ := hG.1.1 ci _ hc
  obtain ⟨cf, kf, fi, f, hi, hsl⟩ := hS k0 hk
  have hlay := hts _ (hin _ (u_in_lay hk))
  unfold u_lay at hlay
  rw [if_neg (by rw [hfin]; decide)] at hlay
  have hst := (u_facts hfc hkC (u_lays hts hin hk) hi).1
  have h6 := u_store hfc hkC hkind hlay hi hty (hn a) (hfit a)
  refine W.putK hF.1 hF.2.1 (f := f) ⟨hF.2.2.2.1, hts _ hlk, ⟨_, _, _, by rw [hC] at hi; exact hi⟩, hst⟩ (by rw [q2]; exact h6) q1 q3 (by rw [hsl]; exact k2_hasslot (q4 k0 hk)) rfl rfl hd fun H' e1 e2 e3 => ?_
  rw [hsl] at e1
  refine k p e R s m args below meth c a cls D H' _ ls QQ hF hG ⟨hR.1.set hw e2 e3 ?_, hR.2.1, hR.2.2.put e2 e3 (Nat.le_add_right _ _)⟩ hl hr
  refine ⟨_, hc, t_OB.to (V := updV (vp_V (fs.map (trv a))) k0 (trv a v)) ⟨_, e1, q2, q3, t_set q4 hap hk (trv a v)⟩ (fun j _ => ?_)⟩
  rw [vp_updV_set (by rw [List.length_map]; exact hlen), List.map_set]
theorem v_putF {p0 ci k0 idx : Nat} {fs : List Value} {ds : String} {v : Value} {ty : FieldType} (hd : decode M.2.2.1 pc = .ok (.putfield idx, 3)) (hf : vFl M.1 idx ci k0 ds true) (hini : M.2.1.name = "<init>") (hdecl : ∀ C T n, vwCl[ci]? = some (C, T, n) → C = M.1) (hw : w[p0]? = some (.inr (ci, fs))) (hty : parseFieldDescriptor ds = some ty) (hn : ∀ a, narrow ty (trv a v) = trv a v) (hfit : ∀ a, fits ty (trv a v) = true) (hlen : k0 < fs.length) (k : V g M d N Q (pc + 3) lv st (w.set p0 (.inr (ci, fs.set k0 v)))) : V g M d N Q pc lv (v :: .ref (p0 + 1) :: st) w := by
  intro p e R s m args below meth c a cls D H locs ls QQ hF hG hR hl hr
  obtain ⟨C, T, n, hc, hk, hlk, hC, hds, hfin⟩ := hf
  subst hds
  have hts := hF.2.2.2.2.1
  obtain ⟨hin, ⟨ty0, hty0⟩, hnm⟩ := vtab hc
  have hap := va_apart (own := M.1) hts hin ty0 hty0 hnm hG.1 hc
  obtain ⟨r, h1, cell, q1, q2, q3, q4⟩ := hR.1.2 p0 _ hw
  have hr0 : r = (C, T, n) := Option.some.inj (h1.symm.trans hc)
  subst hr0
  obtain ⟨hS, hfc, kC, hkC, hkind⟩ := hG.1.1 ci _ hc
  obtain ⟨cf, kf, fi, f, hi, hsl⟩ := hS k0 hk
  have hlay := hts _ (hin _ (u_in_lay hk))
  unfold u_lay at hlay
  rw [if_pos hfin] at hlay
  have hst := (u_facts hfc hkC (u_lays hts hin hk) hi).1
  have hcf : m.cls = cf := by
    obtain ⟨_, _, c', _, _, _, -, -, hf', -, -, -, hown2, -⟩ := Cond.laysFinal_spec hlay
    have e1 : c' = cf := by have := hi.symm.trans hf'; simp at this; exact this.1.symm
    rw [hC, hdecl C T n hc] at hown2
    rw [← e1]; exact Option.some.inj (hF.2.2.2.1.symm.trans hown2)
  have h6 := u_fits hfc hkC hkind (Or.inr hlay) hi hty (hn a) (hfit a)
  refine W.putFinK hF.1 hF.2.1 hF.2.2.2.1 (hts _ hlk) (by rw [hC] at hi; exact hi) hst hcf (hF.2.2.2.2.2.1 hini) (by rw [q2]; exact h6) q1 q3 (by rw [hsl]; exact k2_hasslot (q4 k0 hk)) rfl rfl hd fun H' e1 e2 e3 => ?_
  rw [hsl] at e1
  refine k p e R s m args below meth c a cls D H' _ ls QQ hF hG ⟨hR.1.set hw e2 e3 ?_, hR.2.1, hR.2.2.put e2 e3 (Nat.le_add_right _ _)⟩ hl hr
  refine ⟨_, hc, t_OB.to (V := updV (vp_V (fs.map (trv a))) k0 (trv a v)) ⟨_, e1, q2, q3, t_set q4 hap hk (trv a v)⟩ (fun j _ => ?_)⟩
  rw [vp_updV_set (by rw [List.length_map]; exact hlen), List.map_set]
theorem v_iald {p0 n : Nat} {f : Nat → Int32} {x : Int} (hd : decode M.2.2.1 pc = .ok (.iaload, 1)) (hw : w[p0]? = some (.inl (0, n, .inl f))) (hx : 0 ≤ x) (hx2 : x < n) (hn : n ≤ 2147483647) (k : V g M d N Q (pc + 1) lv (.int (f x.toNat) :: st) w) : V g M d N Q pc lv (vi x :: .ref (p0 + 1) :: st) w := by
  intro p e R s m args below meth c a cls D H locs ls QQ hF hG hR hl hr
  have h1 : vr x := ⟨by omega, by omega⟩
  have k1 := (k p e R s m args below meth c a cls D H locs ls QQ hF hG hR hl hr)
  rw [← vI_clamp h1] at k1
  exact va_iald hF.1 hF.2.1 hG.1 (hR.1.one hw) 0 0 rfl rfl (vI_in hx hx2 hn) hd k1
theorem v_lald {p0 n : Nat} {f : Nat → Int64} {x : Int} (hd : decode M.2.2.1 pc = .ok (.laload, 1)) (hw : w[p0]? = some (.inl (1, n, .inr (.inl f)))) (hx : 0 ≤ x) (hx2 : x < n) (hn : n ≤ 2147483647) (k : V g M d N Q (pc + 1) lv (.long (f x.toNat) :: st) w) : V g M d N Q pc lv (vi x :: .ref (p0 + 1) :: st) w := by
  intro p e R s m args below meth c a cls D H locs ls QQ hF hG hR hl hr
  have h1 : vr x := ⟨by omega, by omega⟩
  have k1 := (k p e R s m args below meth c a cls D H locs ls QQ hF hG hR hl hr)
  rw [← vI_clamp h1] at k1
  exact va_lald hF.1 hF.2.1 hG.1 (hR.1.one hw) 0 1 rfl rfl (vI_in hx hx2 hn) hd k1
theorem v_zald {p0 n : Nat} {f : Nat → Int32} {x : Int} (hd : decode M.2.2.1 pc = .ok (.baload, 1)) (hw : w[p0]? = some (.inl (2, n, .inl f))) (hx : 0 ≤ x) (hx2 : x < n) (hn : n ≤ 2147483647) (k : V g M d N Q (pc + 1) lv (.int (f x.toNat) :: st) w) : V g M d N Q pc lv (vi x :: .ref (p0 + 1) :: st) w := by
  intro p e R s m args below meth c a cls D H locs ls QQ hF hG hR hl hr
  have h1 : vr x := ⟨by omega, by omega⟩
  have k1 := (k p e R s m args below meth c a cls D H locs ls QQ hF hG hR hl hr)
  rw [← vI_clamp h1] at k1
  exact va_zald hF.1 hF.2.1 hG.1 (hR.1.one hw) 0 2 rfl rfl (vI_in hx hx2 hn) hd k1
theorem v_iast {p0 n : Nat} {f : Nat → Int32} {x y : Int} (hd : decode M.2.2.1 pc = .ok (.iastore, 1)) (hw : w[p0]? = some (.inl (0, n, .inl f))) (hx : 0 ≤ x) (hx2 : x < n) (hn : n ≤ 2147483647) (k : V g M d N Q (pc + 1) lv st (w.set p0 (.inl (0, n, .inl (upd f x.toNat (Int32.ofInt y)))))) : V g M d N Q pc lv (vi y :: vi x :: .ref (p0 + 1) :: st) w := by
  intro p e R s m args below meth c a cls D H locs ls QQ hF hG hR hl hr
  have h1 : vr x := ⟨by omega, by omega⟩
  have hcell := hR.1.2 p0 _ hw
  refine W.iast hF.1 hF.2.1 hcell ((hG.1.2 0 _ rfl).1 n (fun j => .int (f j))) (fun q => by cases q) (by show ¬ (Int32.ofInt x < 0 ∨ (arrV _ _ _).slots.size ≤ _); rw [arrV_size]; exact vI_in hx hx2 hn) rfl rfl hd fun H1 e1 z oq => ?_
  refine k p e R s m args below meth c a cls D H1 _ ls QQ hF hG ⟨hR.1.set hw z oq ?_, hR.2.1, hR.2.2.put z oq (Nat.le_add_right _ _)⟩ hl hr
  show H1[a.1 + p0]? = some (vp_cell _ _)
  rw [e1]
  rw [vI_clamp h1]
  show some ((vp_cell _ _).setSlot _ _) = _
  rw [vp_cell_i, vp_cell_i, arrV_store]
  congr 2
  funext q
  by_cases hq : q = x.toNat
  · subst hq
    simp [updV, upd]
  · simp [updV, upd, hq]
theorem v_last {p0 n : Nat} {f : Nat → Int64} {x y : Int} (hd : decode M.2.2.1 pc = .ok (.lastore, 1)) (hw : w[p0]? = some (.inl (1, n, .inr (.inl f)))) (hx : 0 ≤ x) (hx2 : x < n) (hn : n ≤ 2147483647) (k : V g M d N Q (pc + 1) lv st (w.set p0 (.inl (1, n, .inr (.inl (vp_updL f x.toNat (Int64.ofInt y))))))) : V g M d N Q pc lv (vj y :: vi x :: .ref (p0 + 1) :: st) w := by
  intro p e R s m args below meth c a cls D H locs ls QQ hF hG hR hl hr
  have h1 : vr x := ⟨by omega, by omega⟩
  have hcell := hR.1.2 p0 _ hw
  refine W.last hF.1 hF.2.1 hcell ((hG.1.2 1 _ rfl).1 n (fun j => .long (f j))) (fun q => by cases q) (by show ¬ (Int32.ofInt x < 0 ∨ (arrV _ _ _).slots.size ≤ _); rw [arrV_size]; exact vI_in hx hx2 hn) rfl rfl hd fun H1 e1 z oq => ?_
  refine k p e R s m args below meth c a cls D H1 _ ls QQ hF hG ⟨hR.1.set hw z oq ?_, hR.2.1, hR.2.2.put z oq (Nat.le_add_right _ _)⟩ hl hr
  show H1[a.1 + p0]? = some (vp_cell _ _)
  rw [e1]
  rw [vI_clamp h1]
  show some ((vp_cell _ _).setSlot _ _) = _
  rw [vp_cell_l, vp_cell_l, arrV_store]
  congr 2
  funext q
  by_cases hq : q = x.toNat
  · subst hq
    simp [updV, vp_updL]
  · simp [updV, vp_updL, hq]
theorem v_zast {p0 n : Nat} {f : Nat → Int32} {x y : Int} (hd : decode M.2.2.1 pc = .ok (.bastore, 1)) (hw : w[p0]? = some (.inl (2, n, .inl f))) (hx : 0 ≤ x) (hx2 : x < n) (hn : n ≤ 2147483647) (hy : y = 0 ∨ y = 1) (k : V g M d N Q (pc + 1) lv st (w.set p0 (.inl (2, n, .inl (upd f x.toNat (Int32.ofInt y)))))) : V g M d N Q pc lv (vi y :: vi x :: .ref (p0 + 1) :: st) w := by
  intro p e R s m args below meth c a cls D H locs ls QQ hF hG hR hl hr
  have h1 : vr x := ⟨by omega, by omega⟩
  have hcell := hR.1.2 p0 _ hw
  refine W.zast hF.1 hF.2.1 hcell ((hG.1.2 2 _ rfl).1 n (fun j => .int (f j))) (fun q => by cases q) (by show ¬ (Int32.ofInt x < 0 ∨ (arrV _ _ _).slots.size ≤ _); rw [arrV_size]; exact vI_in hx hx2 hn) rfl rfl hd fun H1 e1 z oq => ?_
  refine k p e R s m args below meth c a cls D H1 _ ls QQ hF hG ⟨hR.1.set hw z oq ?_, hR.2.1, hR.2.2.put z oq (Nat.le_add_right _ _)⟩ hl hr
  show H1[a.1 + p0]? = some (vp_cell _ _)
  rw [e1]
  rw [vZ hy]
  rw [vI_clamp h1]
  show some ((vp_cell _ _).setSlot _ _) = _
  rw [vp_cell_i, vp_cell_i, arrV_store]
  congr 2
  funext q
  by_cases hq : q = x.toNat
  · subst hq
    simp [updV, upd]
  · simp [updV, upd, hq]
theorem v_alen {p0 t n : Nat} {f : (Nat → Int32) ⊕ (Nat → Int64) ⊕ (Nat → UInt32) ⊕ (Nat → UInt64) ⊕ (Nat → Option Nat)} (hd : decode M.2.2.1 pc = .ok (.arraylength, 1)) (hw : w[p0]? = some (.inl (t, n, f))) (ht : t < 3) (k : V g M d N Q (pc + 1) lv (vi n :: st) w) : V g M d N Q pc lv (.ref (p0 + 1) :: st) w := by
  intro p e R s m args below meth c a cls D H locs ls QQ hF hG hR hl hr
  have k1 := (k p e R s m args below meth c a cls D H locs ls QQ hF hG hR hl hr)
  have e0 : Int32.ofNat n = Int32.ofInt (n : Int) := Int32.ofInt_eq_ofNat.symm
  match t, ht with
  | 0, _ => exact va_alen (x := (n, f)) hF.1 hF.2.1 hG.1 (hR.1.one hw) 0 0 rfl (ty := .int) rfl e0 hd k1
  | 1, _ => exact va_alen (x := (n, f)) hF.1 hF.2.1 hG.1 (hR.1.one hw) 0 1 rfl (ty := .long) rfl e0 hd k1
  | 2, _ => exact va_alen (x := (n, f)) hF.1 hF.2.1 hG.1 (hR.1.one hw) 0 2 rfl (ty := .boolean) rfl e0 hd k1
theorem v_slen (hd : decode M.2.2.1 pc = .ok (.arraylength, 1)) (k : V g M d N Q (pc + 1) lv (vi g.2.1 :: st) w) : V g M d N Q pc lv (.ref 0 :: st) w := by
  intro p e R s m args below meth c a cls D H locs ls QQ hF hG hR hl hr
  have k1 := (k p e R s m args below meth c a cls D H locs ls QQ hF hG hR hl hr)
  exact va_slen hF.1 hF.2.1 hG.2.2.1 (Nat.lt_of_lt_of_le hG.2.2.2.1 hG.2.2.2.2.1) (Nat.not_le.mpr hG.2.2.2.1) hR.2.2 hd (by rw [← Int32.ofInt_eq_ofNat]; exact k1)
theorem v_sld {x : Int} (hd : decode M.2.2.1 pc = .ok (.iaload, 1)) (hx : 0 ≤ x) (hx2 : x < g.2.1) (hn : g.2.1 ≤ 2147483647) (k : V g M d N Q (pc + 1) lv (vi (g.2.2 x.toNat).toInt :: st) w) : V g M d N Q pc lv (vi x :: .ref 0 :: st) w := by
  intro p e R s m args below meth c a cls D H locs ls QQ hF hG hR hl hr
  have h1 : vr x := ⟨by omega, by omega⟩
  have k1 := (k p e R s m args below meth c a cls D H locs ls QQ hF hG hR hl hr)
  refine va_sld hF.1 hF.2.1 hG.2.2.1 (Nat.lt_of_lt_of_le hG.2.2.2.1 hG.2.2.2.2.1) (Nat.not_le.mpr hG.2.2.2.1) hR.2.2 (vI_in hx hx2 hn) hd ?_
  rw [vI_clamp h1]
  have e0 : trv a (vi (g.2.2 x.toNat).toInt) = .int (g.2.2 x.toNat) := by show Value.int (Int32.ofInt _) = _; rw [Int32.ofInt_toInt]
  have k2 : W p g.1 e R s m args below meth c H locs N.2.2.1 N.2.2.2 QQ (F0 m (pc + 1) ls (trv a (vi (g.2.2 x.toNat).toInt) :: st.map (trv a))) := k1
  rw [e0] at k2
  exact k2
theorem v_getsL {idx : Nat} (hd : decode M.2.2.1 pc = .ok (.getstatic idx, 3)) (hw : Cond.fieldLink M.1 idx RX8 "SETTING_LEAST" "[I" ∈ vWords) (k : V g M d N Q (pc + 3) lv (.retAddr 0 :: st) w) : V g M d N Q pc lv st w := by
  intro p e R s m args below meth c a cls D H locs ls QQ hF hG hR hl hr
  exact va_gets hF.1 hF.2.1 hG.2.2.2.2.2.1.1 hR.2.2 hF.2.2.2.1 (hF.2.2.2.2.1 _ hw) (fun _ h => h) hd (k p e R s m args below meth c a cls D H locs ls QQ hF hG hR hl hr)
theorem v_getsM {idx : Nat} (hd : decode M.2.2.1 pc = .ok (.getstatic idx, 3)) (hw : Cond.fieldLink M.1 idx RX8 "SETTING_MOST" "[I" ∈ vWords) (k : V g M d N Q (pc + 3) lv (.retAddr 1 :: st) w) : V g M d N Q pc lv st w := by
  intro p e R s m args below meth c a cls D H locs ls QQ hF hG hR hl hr
  exact va_gets hF.1 hF.2.1 hG.2.2.2.2.2.2.1 hR.2.2 hF.2.2.2.1 (hF.2.2.2.2.1 _ hw) (fun _ h => h) hd (k p e R s m args below meth c a cls D H locs ls QQ hF hG hR hl hr)
theorem v_tL {x : Int} (hd : decode M.2.2.1 pc = .ok (.iaload, 1)) (hx : 0 ≤ x) (hx2 : x < 3) (k : V g M d N Q (pc + 1) lv (vi (if x = 0 then 0 else if x = 1 then 1 else 50) :: st) w) : V g M d N Q pc lv (vi x :: .retAddr 0 :: st) w := by
  intro p e R s m args below meth c a cls D H locs ls QQ hF hG hR hl hr
  have h1 : vr x := ⟨by omega, by omega⟩
  refine va_ti hF.1 hF.2.1 hG.2.2.2.2.2.1.2 hR.2.2 (vI_in hx hx2 (by omega)) ?_ hd (k p e R s m args below meth c a cls D H locs ls QQ hF hG hR hl hr)
  rw [vI_clamp h1]
  rcases (show x = 0 ∨ x = 1 ∨ x = 2 by omega) with rfl | rfl | rfl <;> (show vLeast _ = vi _; decide)
theorem v_tM {x : Int} (hd : decode M.2.2.1 pc = .ok (.iaload, 1)) (hx : 0 ≤ x) (hx2 : x < 3) (k : V g M d N Q (pc + 1) lv (vi (if x = 0 then 999 else if x = 1 then 50 else 100) :: st) w) : V g M d N Q pc lv (vi x :: .retAddr 1 :: st) w := by
  intro p e R s m args below meth c a cls D H locs ls QQ hF hG hR hl hr
  have h1 : vr x := ⟨by omega, by omega⟩
  refine va_ti hF.1 hF.2.1 hG.2.2.2.2.2.2.2 hR.2.2 (vI_in hx hx2 (by omega)) ?_ hd (k p e R s m args below meth c a cls D H locs ls QQ hF hG hR hl hr)
  rw [vI_clamp h1]
  rcases (show x = 0 ∨ x = 1 ∨ x = 2 by omega) with rfl | rfl | rfl <;> (show vMost _ = vi _; decide)
theorem v_objInit {idx x : Nat} (hd : decode M.2.2.1 pc = .ok (.invokespecial idx, 3)) (hw : Cond.methodLink M.1 idx Lib.objectInit ∈ vWords) (hi : Cond.instanceMethod Lib.objectInit ∈ vWords) (hc : Cond.code Lib.objectInit ⟨#[0xb1]⟩ 1 none ∈ vWords) (h8 : vSl st ≤ 8) (h1 : 1 ≤ d) (k : V g M d N Q (pc + 3) lv st w) : V g M d N Q pc lv (.ref x :: st) w := by
  intro p e R s m args below meth c a cls D H locs ls QQ hF hG hR hl hr
  obtain ⟨y, hy⟩ := trv_ref a x
  have hts := hF.2.2.2.2.1
  have hf := hF.2.2.2.2.2.2.1
  have hlo := hF.2.2.2.2.2.2.2.1
  show W p g.1 e R s m args below meth c H locs N.2.2.1 N.2.2.2 QQ (F0 m pc ls (trv a (.ref x) :: st.map (trv a)))
  rw [hy]
  exact W.objInit hF.1 hF.2.1 hF.2.2.2.1 (hts _ hw) (hts _ hi) (hts _ hc) rfl (by rw [hF.2.2.1]; exact hl.1.1) rfl hd (by omega) (by show 2 * 0 + _ + 12 ≤ _; rw [v_sum]; omega) (k p e R s m args below meth c a cls D H locs ls QQ hF hG hR hl hr)
theorem v_newI {n : Nat} {x : Int} (hd : decode M.2.2.1 pc = .ok (.newarray .int, 2)) (hw : Cond.arrayClass .int ∈ vWords) (hx : x = n) (hn : n ≤ 100000) (hN : N.2.2.1 + 1 ≤ N.1 ∧ N.2.2.2 + n ≤ N.2.1) (k : V g M d (N.1, N.2.1, N.2.2.1 + 1, N.2.2.2 + n) Q (pc + 2) lv (.ref (w.length + 1) :: st) (w ++ [.inl (0, n, .inl (fun _ => 0))])) : V g M d N Q pc lv (vi x :: st) w := by
  intro p e R s m args below meth c a cls D H locs ls QQ hF hG hR hl hr
  subst hx
  have h1 : vr (n : Int) := ⟨by omega, by omega⟩
  have hRc := hF.2.2.2.2.2.2.2.2.1
  have hRs := hF.2.2.2.2.2.2.2.2.2
  refine va_newaK (atype := .int) hF.1 hF.2.1 (hF.2.2.2.2.1 _ hw) rfl hd rfl (by rw [Int32.lt_iff_toInt_lt, vI h1]; show ¬ (n : Int) < 0; omega) (N := n) (by rw [vI_clamp h1]; omega) ?_ (by rw [hRc]; exact hN.1) (by rw [hRs]; exact hN.2) hR.1.1 fun H1 cA e1 z1 o1 hAr hNm => ?_
  · show n * _ ≤ 536870912
    have : componentBytes (newarray.typeOf .int) ≤ 8 := by decide
    calc n * componentBytes (newarray.typeOf .int) ≤ 100000 * 8 := Nat.mul_le_mul hn this
      _ ≤ 536870912 := by decide
  · have hcA : cA = cls 0 := Option.some.inj (hNm.symm.trans (hG.1.2 0 _ rfl).2)
    rw [← hR.1.1] at z1 o1
    refine k p e R s m args below meth c a cls D H1 locs ls QQ hF hG ⟨hR.1.push z1 o1 ?_, hR.2.1, va_S_push hR.2.2 z1 o1⟩ hl hr
    show H1[a.1 + w.length]? = some (vp_cell (cls 0) (n, .inl (fun _ => 0)))
    rw [e1, hcA]
    rfl
theorem v_newJ {n : Nat} {x : Int} (hd : decode M.2.2.1 pc = .ok (.newarray .long, 2)) (hw : Cond.arrayClass .long ∈ vWords) (hx : x = n) (hn : n ≤ 100000) (hN : N.2.2.1 + 1 ≤ N.1 ∧ N.2.2.2 + n ≤ N.2.1) (k : V g M d (N.1, N.2.1, N.2.2.1 + 1, N.2.2.2 + n) Q (pc + 2) lv (.ref (w.length + 1) :: st) (w ++ [.inl (1, n, .inr (.inl (fun _ => 0)))])) : V g M d N Q pc lv (vi x :: st) w := by
  intro p e R s m args below meth c a cls D H locs ls QQ hF hG hR hl hr
  subst hx
  have h1 : vr (n : Int) := ⟨by omega, by omega⟩
  have hRc := hF.2.2.2.2.2.2.2.2.1
  have hRs := hF.2.2.2.2.2.2.2.2.2
  refine va_newaK (atype := .long) hF.1 hF.2.1 (hF.2.2.2.2.1 _ hw) rfl hd rfl (by rw [Int32.lt_iff_toInt_lt, vI h1]; show ¬ (n : Int) < 0; omega) (N := n) (by rw [vI_clamp h1]; omega) ?_ (by rw [hRc]; exact hN.1) (by rw [hRs]; exact hN.2) hR.1.1 fun H1 cA e1 z1 o1 hAr hNm => ?_
  · show n * _ ≤ 536870912
    have : componentBytes (newarray.typeOf .long) ≤ 8 := by decide
    calc n * componentBytes (newarray.typeOf .long) ≤ 100000 * 8 := Nat.mul_le_mul hn this
      _ ≤ 536870912 := by decide
  · have hcA : cA = cls 1 := Option.some.inj (hNm.symm.trans (hG.1.2 1 _ rfl).2)
    rw [← hR.1.1] at z1 o1
    refine k p e R s m args below meth c a cls D H1 locs ls QQ hF hG ⟨hR.1.push z1 o1 ?_, hR.2.1, va_S_push hR.2.2 z1 o1⟩ hl hr
    show H1[a.1 + w.length]? = some (vp_cell (cls 1) (n, .inr (.inl (fun _ => 0))))
    rw [e1, hcA]
    rfl
theorem v_newZ {n : Nat} {x : Int} (hd : decode M.2.2.1 pc = .ok (.newarray .boolean, 2)) (hw : Cond.arrayClass .boolean ∈ vWords) (hx : x = n) (hn : n ≤ 100000) (hN : N.2.2.1 + 1 ≤ N.1 ∧ N.2.2.2 + n ≤ N.2.1) (k : V g M d (N.1, N.2.1, N.2.2.1 + 1, N.2.2.2 + n) Q (pc + 2) lv (.ref (w.length + 1) :: st) (w ++ [.inl (2, n, .inl (fun _ => 0))])) : V g M d N Q pc lv (vi x :: st) w := by
  intro p e R s m args below meth c a cls D H locs ls QQ hF hG hR hl hr
  subst hx
  have h1 : vr (n : Int) := ⟨by omega, by omega⟩
  have hRc := hF.2.2.2.2.2.2.2.2.1
  have hRs := hF.2.2.2.2.2.2.2.2.2
  refine va_newaK (atype := .boolean) hF.1 hF.2.1 (hF.2.2.2.2.1 _ hw) rfl hd rfl (by rw [Int32.lt_iff_toInt_lt, vI h1]; show ¬ (n : Int) < 0; omega) (N := n) (by rw [vI_clamp h1]; omega) ?_ (by rw [hRc]; exact hN.1) (by rw [hRs]; exact hN.2) hR.1.1 fun H1 cA e1 z1 o1 hAr hNm => ?_
  · show n * _ ≤ 536870912
    have : componentBytes (newarray.typeOf .boolean) ≤ 8 := by decide
    calc n * componentBytes (newarray.typeOf .boolean) ≤ 100000 * 8 := Nat.mul_le_mul hn this
      _ ≤ 536870912 := by decide
  · have hcA : cA = cls 2 := Option.some.inj (hNm.symm.trans (hG.1.2 2 _ rfl).2)
    rw [← hR.1.1] at z1 o1
    refine k p e R s m args below meth c a cls D H1 locs ls QQ hF hG ⟨hR.1.push z1 o1 ?_, hR.2.1, va_S_push hR.2.2 z1 o1⟩ hl hr
    show H1[a.1 + w.length]? = some (vp_cell (cls 2) (n, .inl (fun _ => 0)))
    rw [e1, hcA]
    rfl
theorem v_new {ci idx n : Nat} {C : String} {T : u_T} {fs : List Value} (hd : decode M.2.2.1 pc = .ok (.new idx, 3)) (hc : vwCl[ci]? = some (C, T, n)) (hcl : Cond.classLink M.1 idx C ∈ vWords) (hins : Cond.instantiable C n ∈ vWords) (hini : Cond.initialized C ∈ vWords) (ty : Nat → FieldType) (hty : ∀ k, k < n → parseFieldDescriptor (T k).2.2.1 = some (ty k)) (hfs : ∀ a j, j < n → defaultValue (ty j) = vp_V (fs.map (trv a)) j) (hN : N.2.2.1 + 1 ≤ N.1 ∧ N.2.2.2 + n ≤ N.2.1) (k : V g M d (N.1, N.2.1, N.2.2.1 + 1, N.2.2.2 + n) Q (pc + 3) lv (.ref (w.length + 1) :: st) (w ++ [.inr (ci, fs)])) : V g M d N Q pc lv st w := by
  intro p e R s m args below meth c a cls D H locs ls QQ hF hG hR hl hr
  have hts := hF.2.2.2.2.1
  have hRc := hF.2.2.2.2.2.2.2.2.1
  have hRs := hF.2.2.2.2.2.2.2.2.2
  have hKn := hG.1.1 ci _ hc
  refine W.newcK hF.1 hF.2.1 hF.2.2.2.1 (hts _ hcl) (hts _ hins) (hts _ hini) rfl hd (by rw [hRc]; exact hN.1) (by rw [hRs]; exact hN.2) hKn.2.1 hR.1.1 fun H1 kC hkC e1 z1 o1 => ?_
  rw [← hR.1.1] at z1 o1
  refine k p e R s m args below meth c a cls D H1 locs ls QQ hF hG ⟨hR.1.push z1 o1 ?_, hR.2.1, va_S_push hR.2.2 z1 o1⟩ hl hr
  exact ⟨_, hc, (u_born ty hts (vtab hc).1 hKn hkC e1 hty).to (hfs a)⟩
theorem v_callV {M' : vMt} {d' mc ms n p0 idx : Nat} {As : List Value} {ci m0 : Nat} {fs : List Value} {T : u_T} (hd : decode M.2.2.1 pc = .ok (.invokevirtual idx, 3)) (hc : vCal M' n) (hlk : Cond.methodLink M.1 idx M'.2.1 ∈ vWords) (hi : Cond.instanceMethod M'.2.1 ∈ vWords) (hse : Cond.selects M'.2.1.cls M'.2.1 M'.2.1 ∈ vWords) (hw : w[p0]? = some (.inr (ci, fs))) (hcl : vwCl[ci]? = some (M'.2.1.cls, T, m0)) (hn : vSl (.ref (p0 + 1) :: As) ≤ M'.2.2.2.1) (hAs : As.length = n) (h8 : vSl st ≤ 8) (hdd : d' + 1 ≤ d) (hN : N.2.2.1 + mc ≤ N.1 ∧ N.2.2.2 + ms ≤ N.2.1) (k : V g M' d' (mc, ms, 0, 0) (fun r w' => V g M d (N.1, N.2.1, N.2.2.1 + mc, N.2.2.2 + ms) Q (pc + 3) lv (r.toList ++ st) w') 0 (vargs 0 (.ref (p0 + 1) :: As)) [] w) : V g M d N Q pc lv (As.reverse ++ .ref (p0 + 1) :: st) w := by
  intro p e R s m args below meth c a cls D H locs ls QQ hF hG hR hl hr
  have hM := v_met a cls D hc hn k
  have hts := hF.2.2.2.2.1
  have hf := hF.2.2.2.2.2.2.1
  have hlo := hF.2.2.2.2.2.2.2.1
  have hRc := hF.2.2.2.2.2.2.2.2.1
  have hRs := hF.2.2.2.2.2.2.2.2.2
  obtain ⟨c1, c2, c3, c4, ⟨c5, c6, c7⟩, c8⟩ := id hc
  have hws : ∀ x ∈ vWs M', ∀ (a' : Array Value) (U : State), s.WarmedH U.vm → x.before a' U = true := by
    intro x hx a' U hW
    have hx2 : x ∈ vWords := (List.mem_cons.mp hx).elim (fun h => by rw [h]; exact c3) id
    exact word_at hW (good_of_word (vGood hx2)) (hts x hx2)
  have hlen : ∀ sig, parseMethodDescriptor M'.2.1.desc = some sig → n = sig.parameters.length := fun sig h => by
    rw [h] at c7
    exact (Option.some.inj c7).symm
  have hcb : CallB R s args M.1 idx M'.2.1 M'.2.2.1 M'.2.2.2.1 M'.2.2.2.2 (vWs M') (vRm d' mc ms) mc ms n := ⟨rfl, rfl, (by show d' + 1 ≤ _; omega), (by show 8 + (_ + 11) + 100 * d' ≤ _; omega), hws, List.mem_cons_self, hts _ c3, hts _ c4, ⟨c5, c6⟩, hlen, hts _ hlk⟩
  exact v_back hF hG hR hl hr (va_runV (As := As.map (trv a)) (rest := st.map (trv a)) (b := a.1 + p0) (g := F0 m pc ls ((As.reverse ++ .ref (p0 + 1) :: st).map (trv a))) ⟨hF.1, hF.2.1, hF.2.2.1, hF.2.2.2.1, hts⟩ hM ⟨hcb, hts _ hi, hts _ hse⟩ ⟨fun x U f mk h => ⟨h.1, h.2.1.blind f mk x, h.2.2⟩, va_recv (q := (M'.2.1.cls, T, m0)) hG.1 (hR.1.one hw) hcl (q0 := 0) rfl, fun U hU hW => ⟨rfl, by rw [hU]; exact hG.go hR.2.2 hW, by rw [hU]; exact hR.1⟩⟩ rfl (by rw [List.length_map]; exact hAs) hl.1.1 (by show (As.reverse ++ .ref (p0 + 1) :: st).map (trv a) = _; simp [trv]) (lv_room (by rw [v_sum]; exact h8)) hd ⟨by rw [hRc]; exact hN.1, by rw [hRs]; exact hN.2⟩)
theorem v_callS {M' : vMt} {d' mc ms n p0 idx : Nat} {As : List Value}  (hd : decode M.2.2.1 pc = .ok (.invokestatic idx, 3)) (hc : vCal M' n) (hlk : Cond.methodLink M.1 idx M'.2.1 ∈ vWords) (hs : Cond.static M'.2.1 ∈ vWords) (hn : vSl As ≤ M'.2.2.2.1) (hAs : As.length = n) (h8 : vSl st ≤ 8) (hdd : d' + 1 ≤ d) (hN : N.2.2.1 + mc ≤ N.1 ∧ N.2.2.2 + ms ≤ N.2.1) (k : V g M' d' (mc, ms, 0, 0) (fun r w' => V g M d (N.1, N.2.1, N.2.2.1 + mc, N.2.2.2 + ms) Q (pc + 3) lv (r.toList ++ st) w') 0 (vargs 0 As) [] w) : V g M d N Q pc lv (As.reverse ++ st) w := by
  intro p e R s m args below meth c a cls D H locs ls QQ hF hG hR hl hr
  have hM := v_met a cls D hc hn k
  have hts := hF.2.2.2.2.1
  have hf := hF.2.2.2.2.2.2.1
  have hlo := hF.2.2.2.2.2.2.2.1
  have hRc := hF.2.2.2.2.2.2.2.2.1
  have hRs := hF.2.2.2.2.2.2.2.2.2
  obtain ⟨c1, c2, c3, c4, ⟨c5, c6, c7⟩, c8⟩ := id hc
  have hws : ∀ x ∈ vWs M', ∀ (a' : Array Value) (U : State), s.WarmedH U.vm → x.before a' U = true := by
    intro x hx a' U hW
    have hx2 : x ∈ vWords := (List.mem_cons.mp hx).elim (fun h => by rw [h]; exact c3) id
    exact word_at hW (good_of_word (vGood hx2)) (hts x hx2)
  have hlen : ∀ sig, parseMethodDescriptor M'.2.1.desc = some sig → n = sig.parameters.length := fun sig h => by
    rw [h] at c7
    exact (Option.some.inj c7).symm
  have hcb : CallB R s args M.1 idx M'.2.1 M'.2.2.1 M'.2.2.2.1 M'.2.2.2.2 (vWs M') (vRm d' mc ms) mc ms n := ⟨rfl, rfl, (by show d' + 1 ≤ _; omega), (by show 8 + (_ + 11) + 100 * d' ≤ _; omega), hws, List.mem_cons_self, hts _ c3, hts _ c4, ⟨c5, c6⟩, hlen, hts _ hlk⟩
  exact v_back hF hG hR hl hr (va_runS (As := As.map (trv a)) (rest := st.map (trv a)) (g := F0 m pc ls ((As.reverse ++ st).map (trv a))) ⟨hF.1, hF.2.1, hF.2.2.1, hF.2.2.2.1, hts⟩ hM ⟨hcb, hts _ hs⟩ ⟨fun x U f mk h => ⟨h.1, h.2.1.blind f mk x, h.2.2⟩, fun U hU hW => ⟨rfl, by rw [hU]; exact hG.go hR.2.2 hW, by rw [hU]; exact hR.1⟩⟩ rfl (by rw [List.length_map]; exact hAs) hl.1.1 (by show (As.reverse ++ st).map (trv a) = _; simp [trv]) (lv_room (by rw [v_sum]; exact h8)) hd ⟨by rw [hRc]; exact hN.1, by rw [hRs]; exact hN.2⟩)
theorem v_callSN {M' : vMt} {d' mc ms n p0 idx : Nat} {As : List Value}  (hd : decode M.2.2.1 pc = .ok (.invokestatic idx, 3)) (hc : vCal M' n) (hlk : vNest M.1 idx M'.2.1) (hs : Cond.static M'.2.1 ∈ vWords) (hn : vSl As ≤ M'.2.2.2.1) (hAs : As.length = n) (h8 : vSl st ≤ 8) (hdd : d' + 1 ≤ d) (hN : N.2.2.1 + mc ≤ N.1 ∧ N.2.2.2 + ms ≤ N.2.1) (k : V g M' d' (mc, ms, 0, 0) (fun r w' => V g M d (N.1, N.2.1, N.2.2.1 + mc, N.2.2.2 + ms) Q (pc + 3) lv (r.toList ++ st) w') 0 (vargs 0 As) [] w) : V g M d N Q pc lv (As.reverse ++ st) w := by
  intro p e R s m args below meth c a cls D H locs ls QQ hF hG hR hl hr
  have hM := v_met a cls D hc hn k
  have hts := hF.2.2.2.2.1
  have hf := hF.2.2.2.2.2.2.1
  have hlo := hF.2.2.2.2.2.2.2.1
  have hRc := hF.2.2.2.2.2.2.2.2.1
  have hRs := hF.2.2.2.2.2.2.2.2.2
  obtain ⟨c1, c2, c3, c4, ⟨c5, c6, c7⟩, c8⟩ := id hc
  have hws : ∀ x ∈ vWs M', ∀ (a' : Array Value) (U : State), s.WarmedH U.vm → x.before a' U = true := by
    intro x hx a' U hW
    have hx2 : x ∈ vWords := (List.mem_cons.mp hx).elim (fun h => by rw [h]; exact c3) id
    exact word_at hW (good_of_word (vGood hx2)) (hts x hx2)
  have hlen : ∀ sig, parseMethodDescriptor M'.2.1.desc = some sig → n = sig.parameters.length := fun sig h => by
    rw [h] at c7
    exact (Option.some.inj c7).symm
  have hcb : va_CN R s args M.1 idx M'.2.1 RX8 M'.2.2.1 M'.2.2.2.1 M'.2.2.2.2 (vWs M') (vRm d' mc ms) mc ms n := ⟨⟨rfl, rfl, (by show d' + 1 ≤ _; omega), (by show 8 + (_ + 11) + 100 * d' ≤ _; omega), hws, List.mem_cons_self⟩, hts _ c3, hts _ c4, ⟨c5, c6⟩, hlen, va_Nw.use rfl (hG.2.1 _ _ _ hlk)⟩
  exact v_back hF hG hR hl hr (va_runSN (As := As.map (trv a)) (rest := st.map (trv a)) (g := F0 m pc ls ((As.reverse ++ st).map (trv a))) ⟨hF.1, hF.2.1, hF.2.2.1, hF.2.2.2.1, hts⟩ hM ⟨hcb, hts _ hs, trivial⟩ ⟨fun x U f mk h => ⟨h.1, h.2.1.blind f mk x, h.2.2⟩, fun U hU hW => ⟨rfl, by rw [hU]; exact hG.go hR.2.2 hW, by rw [hU]; exact hR.1⟩⟩ rfl (by rw [List.length_map]; exact hAs) hl.1.1 (by show (As.reverse ++ st).map (trv a) = _; simp [trv]) (lv_room (by rw [v_sum]; exact h8)) hd ⟨by rw [hRc]; exact hN.1, by rw [hRs]; exact hN.2⟩)
theorem v_callI {M' : vMt} {d' mc ms n p0 idx : Nat} {As : List Value}  (hd : decode M.2.2.1 pc = .ok (.invokespecial idx, 3)) (hc : vCal M' n) (hlk : Cond.methodLink M.1 idx M'.2.1 ∈ vWords) (hret : M'.2.2.2.2 = none) (hnm : M'.2.1.name = "<init>") (hi : Cond.instanceMethod M'.2.1 ∈ vWords) (hn : vSl (.ref (p0 + 1) :: As) ≤ M'.2.2.2.1) (hAs : As.length = n) (h8 : vSl st ≤ 8) (hdd : d' + 1 ≤ d) (hN : N.2.2.1 + mc ≤ N.1 ∧ N.2.2.2 + ms ≤ N.2.1) (k : V g M' d' (mc, ms, 0, 0) (fun r w' => V g M d (N.1, N.2.1, N.2.2.1 + mc, N.2.2.2 + ms) Q (pc + 3) lv (r.toList ++ st) w') 0 (vargs 0 (.ref (p0 + 1) :: As)) [] w) : V g M d N Q pc lv (As.reverse ++ .ref (p0 + 1) :: st) w := by
  intro p e R s m args below meth c a cls D H locs ls QQ hF hG hR hl hr
  have hM := v_met a cls D hc hn k
  have hts := hF.2.2.2.2.1
  have hf := hF.2.2.2.2.2.2.1
  have hlo := hF.2.2.2.2.2.2.2.1
  have hRc := hF.2.2.2.2.2.2.2.2.1
  have hRs := hF.2.2.2.2.2.2.2.2.2
  obtain ⟨c1, c2, c3, c4, ⟨c5, c6, c7⟩, c8⟩ := id hc
  have hws : ∀ x ∈ vWs M', ∀ (a' : Array Value) (U : State), s.WarmedH U.vm → x.before a' U = true := by
    intro x hx a' U hW
    have hx2 : x ∈ vWords := (List.mem_cons.mp hx).elim (fun h => by rw [h]; exact c3) id
    exact word_at hW (good_of_word (vGood hx2)) (hts x hx2)
  have hlen : ∀ sig, parseMethodDescriptor M'.2.1.desc = some sig → n = sig.parameters.length := fun sig h => by
    rw [h] at c7
    exact (Option.some.inj c7).symm
  have hcb : CallB R s args M.1 idx M'.2.1 M'.2.2.1 M'.2.2.2.1 M'.2.2.2.2 (vWs M') (vRm d' mc ms) mc ms n := ⟨rfl, rfl, (by show d' + 1 ≤ _; omega), (by show 8 + (_ + 11) + 100 * d' ≤ _; omega), hws, List.mem_cons_self, hts _ c3, hts _ c4, ⟨c5, c6⟩, hlen, hts _ hlk⟩
  rw [hret] at hcb
  exact v_back hF hG hR hl hr (va_runI (As := As.map (trv a)) (rest := st.map (trv a)) (b := a.1 + p0) (g := F0 m pc ls ((As.reverse ++ .ref (p0 + 1) :: st).map (trv a))) ⟨hF.1, hF.2.1, hF.2.2.1, hF.2.2.2.1, hts⟩ hM ⟨hcb, hnm, hts _ hi⟩ ⟨fun x U f mk h => ⟨h.1, h.2.1.blind f mk x, h.2.2⟩, fun U hU hW => ⟨rfl, by rw [hU]; exact hG.go hR.2.2 hW, by rw [hU]; exact hR.1⟩⟩ rfl (by rw [List.length_map]; exact hAs) hl.1.1 (by show (As.reverse ++ .ref (p0 + 1) :: st).map (trv a) = _; simp [trv]) (lv_room (by rw [v_sum]; exact h8)) hd ⟨by rw [hRc]; exact hN.1, by rw [hRs]; exact hN.2⟩)
theorem v_callIN {M' : vMt} {d' mc ms n p0 idx : Nat} {As : List Value}  (hd : decode M.2.2.1 pc = .ok (.invokespecial idx, 3)) (hc : vCal M' n) (hlk : vNest M.1 idx M'.2.1) (hret : M'.2.2.2.2 = none) (hnm : M'.2.1.name = "<init>") (hi : Cond.instanceMethod M'.2.1 ∈ vWords) (hn : vSl (.ref (p0 + 1) :: As) ≤ M'.2.2.2.1) (hAs : As.length = n) (h8 : vSl st ≤ 8) (hdd : d' + 1 ≤ d) (hN : N.2.2.1 + mc ≤ N.1 ∧ N.2.2.2 + ms ≤ N.2.1) (k : V g M' d' (mc, ms, 0, 0) (fun r w' => V g M d (N.1, N.2.1, N.2.2.1 + mc, N.2.2.2 + ms) Q (pc + 3) lv (r.toList ++ st) w') 0 (vargs 0 (.ref (p0 + 1) :: As)) [] w) : V g M d N Q pc lv (As.reverse ++ .ref (p0 + 1) :: st) w := by
  intro p e R s m args below meth c a cls D H locs ls QQ hF hG hR hl hr
  have hM := v_met a cls D hc hn k
  have hts := hF.2.2.2.2.1
  have hf := hF.2.2.2.2.2.2.1
  have hlo := hF.2.2.2.2.2.2.2.1
  have hRc := hF.2.2.2.2.2.2.2.2.1
  have hRs := hF.2.2.2.2.2.2.2.2.2
  obtain ⟨c1, c2, c3, c4, ⟨c5, c6, c7⟩, c8⟩ := id hc
  have hws : ∀ x ∈ vWs M', ∀ (a' : Array Value) (U : State), s.WarmedH U.vm → x.before a' U = true := by
    intro x hx a' U hW
    have hx2 : x ∈ vWords := (List.mem_cons.mp hx).elim (fun h => by rw [h]; exact c3) id
    exact word_at hW (good_of_word (vGood hx2)) (hts x hx2)
  have hlen : ∀ sig, parseMethodDescriptor M'.2.1.desc = some sig → n = sig.parameters.length := fun sig h => by
    rw [h] at c7
    exact (Option.some.inj c7).symm
  have hcb : va_CN R s args M.1 idx M'.2.1 RX8 M'.2.2.1 M'.2.2.2.1 M'.2.2.2.2 (vWs M') (vRm d' mc ms) mc ms n := ⟨⟨rfl, rfl, (by show d' + 1 ≤ _; omega), (by show 8 + (_ + 11) + 100 * d' ≤ _; omega), hws, List.mem_cons_self⟩, hts _ c3, hts _ c4, ⟨c5, c6⟩, hlen, va_Nw.use rfl (hG.2.1 _ _ _ hlk)⟩
  rw [hret] at hcb
  exact v_back hF hG hR hl hr (va_runIN (As := As.map (trv a)) (rest := st.map (trv a)) (b := a.1 + p0) (g := F0 m pc ls ((As.reverse ++ .ref (p0 + 1) :: st).map (trv a))) ⟨hF.1, hF.2.1, hF.2.2.1, hF.2.2.2.1, hts⟩ hM ⟨hcb, hnm, hts _ hi⟩ ⟨fun x U f mk h => ⟨h.1, h.2.1.blind f mk x, h.2.2⟩, fun U hU hW => ⟨rfl, by rw [hU]; exact hG.go hR.2.2 hW, by rw [hU]; exact hR.1⟩⟩ rfl (by rw [List.length_map]; exact hAs) hl.1.1 (by show (As.reverse ++ .ref (p0 + 1) :: st).map (trv a) = _; simp [trv]) (lv_room (by rw [v_sum]; exact h8)) hd ⟨by rw [hRc]; exact hN.1, by rw [hRs]; exact hN.2⟩)
end HEAP
