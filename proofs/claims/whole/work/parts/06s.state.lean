/-! the shape of the cells of the two objects (kind 0, 1, 2: rows of int, long, boolean; 3: an object, its class, its fields: 0 int, 1 long, 2 boolean, 3 a reference) -/
def vSh : List (Nat × Nat × List (Nat × Nat)) := [(3, 8, [(3, 2), (3, 3), (3, 10), (3, 17), (3, 20), (3, 25), (3, 28), (3, 29), (3, 30), (2, 0), (3, 31)]),
  (0, 3, []),
  (3, 1, [(3, 4), (3, 5), (3, 6), (3, 7), (3, 8), (3, 9), (0, 0)]),
  (0, 6, []),
  (0, 6, []),
  (0, 6, []),
  (0, 6, []),
  (0, 6, []),
  (0, 6, []),
  (3, 4, [(3, 3), (3, 2), (3, 11), (3, 12), (3, 13), (3, 14), (0, 0)]),
  (0, 4, []),
  (0, 4, []),
  (0, 4, []),
  (0, 4, []),
  (3, 3, [(3, 16), (0, 0), (0, 0)]),
  (0, 1492, []),
  (3, 6, [(3, 10), (3, 15), (3, 18), (3, 19), (0, 0), (0, 0), (0, 0)]),
  (0, 84, []),
  (0, 84, []),
  (3, 0, [(3, 10), (3, 3), (3, 15), (3, 21), (3, 22), (3, 23), (3, 24), (0, 0), (0, 0), (0, 0), (0, 0), (0, 0), (0, 0), (0, 0)]),
  (0, 343, []),
  (0, 343, []),
  (0, 343, []),
  (0, 343, []),
  (3, 5, [(3, 26), (3, 27)]),
  (0, 10, []),
  (0, 3, []),
  (3, 2, [(3, 10), (3, 25), (0, 0), (0, 0), (0, 0), (0, 0), (0, 0), (0, 0), (0, 0), (0, 0), (0, 0), (0, 0), (0, 0), (0, 0)]),
  (3, 2, [(3, 10), (3, 25), (0, 0), (0, 0), (0, 0), (0, 0), (0, 0), (0, 0), (0, 0), (0, 0), (0, 0), (0, 0), (0, 0), (0, 0)]),
  (3, 2, [(3, 10), (3, 25), (0, 0), (0, 0), (0, 0), (0, 0), (0, 0), (0, 0), (0, 0), (0, 0), (0, 0), (0, 0), (0, 0), (0, 0)]),
  (3, 7, [(3, 32), (3, 33), (3, 34), (3, 35), (3, 36), (3, 37), (0, 0), (0, 0), (0, 0)]),
  (0, 30, []),
  (0, 10, []),
  (0, 10, []),
  (0, 10, []),
  (0, 36, []),
  (0, 36, []),
  (3, 9, [(3, 39), (3, 40), (3, 41), (3, 42), (3, 43), (3, 44), (3, 45), (3, 46), (3, 47), (3, 48), (3, 49), (3, 50), (0, 0), (0, 0), (0, 0), (0, 0), (0, 0), (3, 51), (3, 52), (3, 53), (0, 0), (3, 54), (3, 55), (3, 56), (3, 57), (3, 58), (3, 59), (0, 0), (3, 60), (0, 0), (0, 0), (0, 0), (0, 0), (0, 0), (0, 0), (0, 0), (1, 0), (1, 0), (3, 61), (2, 0), (3, 62), (3, 63), (3, 64), (3, 65), (3, 66), (0, 0), (0, 0)]),
  (0, 6, []),
  (0, 6, []),
  (0, 6, []),
  (0, 6, []),
  (0, 6, []),
  (0, 6, []),
  (0, 4, []),
  (0, 4, []),
  (0, 4, []),
  (0, 4, []),
  (0, 10, []),
  (0, 3, []),
  (0, 4, []),
  (0, 4, []),
  (0, 4, []),
  (0, 3, []),
  (0, 3, []),
  (1, 4, []),
  (1, 4, []),
  (1, 4, []),
  (2, 4, []),
  (0, 4, []),
  (0, 7, []),
  (0, 6, []),
  (0, 30, []),
  (0, 10, []),
  (0, 10, []),
  (0, 36, [])]
abbrev vSt : Type := Nat → Nat → Int
def vfld (σ : vSt) (p k : Nat) (f : Nat × Nat) : Value := match f.1 with
  | 0 => vi (σ p k)
  | 1 => vj (σ p k)
  | 2 => vi (σ p k)
  | _ => .ref f.2
def vflds (σ : vSt) (p : Nat) : Nat → List (Nat × Nat) → List Value
  | _, [] => []
  | k, f :: l => vfld σ p k f :: vflds σ p (k + 1) l
def vcell (σ : vSt) (p : Nat) (s : Nat × Nat × List (Nat × Nat)) : mC := match s.1 with
  | 0 => .inl (0, s.2.1, .inl (fun j => Int32.ofInt (σ p j)))
  | 1 => .inl (1, s.2.1, .inr (.inl (fun j => Int64.ofInt (σ p j))))
  | 2 => .inl (2, s.2.1, .inl (fun j => Int32.ofInt (σ p j)))
  | _ => .inr (s.2.1, vflds σ p 0 s.2.2)
def vcells (σ : vSt) : Nat → List (Nat × Nat × List (Nat × Nat)) → List mC
  | _, [] => []
  | p, s :: l => vcell σ p s :: vcells σ (p + 1) l
def hp (σ : vSt) : List mC := vcells σ 1 vSh
def vU (σ : vSt) (p k : Nat) (z : Int) : vSt := fun q j => if q = p then (if j = k then z else σ q j) else σ q j
theorem vU_same (σ : vSt) (p k : Nat) (z : Int) : vU σ p k z p k = z := by simp [vU]
theorem vU_ne {σ : vSt} {p k : Nat} {z : Int} {q : Nat} (h : q ≠ p) (j : Nat) : vU σ p k z q j = σ q j := by simp [vU, h]
theorem vU_ne' {σ : vSt} {p k : Nat} {z : Int} {q : Nat} (h : q ≠ p) : vU σ p k z q = σ q := by funext j; simp [vU, h]
theorem vU_nk {σ : vSt} {p k : Nat} {z : Int} {q j : Nat} (h : j ≠ k) : vU σ p k z q j = σ q j := by simp [vU, h]
theorem vflds_get (σ : vSt) (p : Nat) : ∀ (l : List (Nat × Nat)) (k j : Nat), (vflds σ p k l)[j]? = (l[j]?).map (vfld σ p (k + j)) := by
  intro l
  induction l with
  | nil => intro k j; rfl
  | cons f l ih =>
    intro k j
    cases j with
    | zero => rfl
    | succ j =>
      show (vflds σ p (k + 1) l)[j]? = (l[j]?).map (vfld σ p (k + (j + 1)))
      rw [ih, show k + 1 + j = k + (j + 1) by omega]
theorem vflds_len (σ : vSt) (p : Nat) : ∀ (l : List (Nat × Nat)) (k : Nat), (vflds σ p k l).length = l.length := by
  intro l
  induction l with
  | nil => intro k; rfl
  | cons f l ih => intro k; show (vflds σ p (k + 1) l).length + 1 = l.length + 1; rw [ih]
theorem vcells_get (σ : vSt) : ∀ (l : List (Nat × Nat × List (Nat × Nat))) (p k : Nat), (vcells σ p l)[k]? = (l[k]?).map (vcell σ (p + k)) := by
  intro l
  induction l with
  | nil => intro k j; rfl
  | cons f l ih =>
    intro k j
    cases j with
    | zero => rfl
    | succ j =>
      show (vcells σ (k + 1) l)[j]? = (l[j]?).map (vcell σ (k + (j + 1)))
      rw [ih, show k + 1 + j = k + (j + 1) by omega]
theorem vcells_len (σ : vSt) : ∀ (l : List (Nat × Nat × List (Nat × Nat))) (p : Nat), (vcells σ p l).length = l.length := by
  intro l
  induction l with
  | nil => intro k; rfl
  | cons f l ih => intro k; show (vcells σ (k + 1) l).length + 1 = l.length + 1; rw [ih]
theorem vfld_cong {σ τ : vSt} {p : Nat} (k : Nat) (h : σ p k = τ p k) (f : Nat × Nat) : vfld σ p k f = vfld τ p k f := by
  unfold vfld
  rw [h]
theorem vcell_cong {σ τ : vSt} {p : Nat} (h : ∀ j, σ p j = τ p j) (s : Nat × Nat × List (Nat × Nat)) : vcell σ p s = vcell τ p s := by
  have e : vflds σ p 0 s.2.2 = vflds τ p 0 s.2.2 := by
    apply List.ext_getElem?
    intro j
    rw [vflds_get, vflds_get]
    cases s.2.2[j]? with
    | none => rfl
    | some f => exact congrArg some (vfld_cong _ (h _) f)
  unfold vcell
  rw [e]
  simp only [h]
/-- one cell changes -/
theorem hp_set {σ τ : vSt} {q : Nat} {s : Nat × Nat × List (Nat × Nat)} (hs : vSh[q]? = some s) (h : ∀ p j, p ≠ q + 1 → τ p j = σ p j) : (hp σ).set q (vcell τ (q + 1) s) = hp τ := by
  have hq := (List.getElem?_eq_some_iff.mp hs).1
  apply List.ext_getElem?
  intro k
  by_cases hk : k = q
  · subst hk
    rw [List.getElem?_set_self (by rw [hp, vcells_len]; exact hq), hp, vcells_get, hs, Nat.add_comm]
    rfl
  · rw [List.getElem?_set_ne (fun e => hk e.symm), hp, hp, vcells_get, vcells_get]
    cases vSh[k]? with
    | none => rfl
    | some f => exact congrArg some (vcell_cong (fun j => (h (1 + k) j (by omega)).symm) f)
def vFT (p k : Nat) : Option (Nat × Nat × Nat) := match p with
  | 0 => none
  | q + 1 => match vSh[q]? with
    | some (3, ci, l) => (l[k]?).map (fun f => (ci, f))
    | _ => none
def vAT (p : Nat) : Option (Nat × Nat) := match p with
  | 0 => none
  | q + 1 => match vSh[q]? with
    | some (0, n, _) => some (0, n)
    | some (1, n, _) => some (1, n)
    | some (2, n, _) => some (2, n)
    | _ => none
theorem vFT_of {p k ci : Nat} {f : Nat × Nat} (h : vFT p k = some (ci, f)) : ∃ (q : Nat) (l : List (Nat × Nat)), p = q + 1 ∧ vSh[q]? = some (3, ci, l) ∧ l[k]? = some f := by
  unfold vFT at h
  split at h
  · cases h
  · split at h
    · rename_i q _ ci' l e
      cases hl : l[k]? with
      | none => rw [hl] at h; cases h
      | some x => rw [hl] at h; cases h; exact ⟨q, l, rfl, e, hl⟩
    · cases h
theorem vAT_of {p t n : Nat} (h : vAT p = some (t, n)) : ∃ (q : Nat) (l : List (Nat × Nat)), p = q + 1 ∧ vSh[q]? = some (t, n, l) ∧ t < 3 := by
  unfold vAT at h
  split at h
  · cases h
  · split at h
    · rename_i e; cases h; exact ⟨_, _, rfl, e, by omega⟩
    · rename_i e; cases h; exact ⟨_, _, rfl, e, by omega⟩
    · rename_i e; cases h; exact ⟨_, _, rfl, e, by omega⟩
    · cases h
theorem vSh_small : ∀ s ∈ vSh, s.2.1 ≤ 100000 := by decide +kernel
theorem hp_at (σ : vSt) {q : Nat} {s : Nat × Nat × List (Nat × Nat)} (h : vSh[q]? = some s) : (hp σ)[q]? = some (vcell σ (q + 1) s) := by
  rw [hp, vcells_get, h, Nat.add_comm]
  rfl
section STATE
variable {g : vGl} {M : vMt} {d : Nat} {N : Nat × Nat × Nat × Nat} {Q : Option Value → List mC → Prop} {pc : Nat} {lv : List (Nat × Value)} {st : List Value} {σ : vSt}
theorem v_gI {p ci k0 idx z : Nat} {ds : String} {fin : Bool} (hd : decode M.2.2.1 pc = .ok (.getfield idx, 3)) (hf : vFl M.1 idx ci k0 ds fin) (hs : vFT p k0 = some (ci, 0, z)) (k : V g M d N Q (pc + 3) lv (vi (σ p k0) :: st) (hp σ)) : V g M d N Q pc lv (.ref p :: st) (hp σ) := by
  obtain ⟨q, l, rfl, h1, h2⟩ := vFT_of hs
  exact v_getf hd hf (hp_at σ h1) (by rw [vflds_get, h2, Nat.zero_add]; rfl) k
theorem v_gJ {p ci k0 idx z : Nat} {ds : String} {fin : Bool} (hd : decode M.2.2.1 pc = .ok (.getfield idx, 3)) (hf : vFl M.1 idx ci k0 ds fin) (hs : vFT p k0 = some (ci, 1, z)) (k : V g M d N Q (pc + 3) lv (vj (σ p k0) :: st) (hp σ)) : V g M d N Q pc lv (.ref p :: st) (hp σ) := by
  obtain ⟨q, l, rfl, h1, h2⟩ := vFT_of hs
  exact v_getf hd hf (hp_at σ h1) (by rw [vflds_get, h2, Nat.zero_add]; rfl) k
theorem v_gZ {p ci k0 idx z : Nat} {ds : String} {fin : Bool} (hd : decode M.2.2.1 pc = .ok (.getfield idx, 3)) (hf : vFl M.1 idx ci k0 ds fin) (hs : vFT p k0 = some (ci, 2, z)) (k : V g M d N Q (pc + 3) lv (vi (σ p k0) :: st) (hp σ)) : V g M d N Q pc lv (.ref p :: st) (hp σ) := by
  obtain ⟨q, l, rfl, h1, h2⟩ := vFT_of hs
  exact v_getf hd hf (hp_at σ h1) (by rw [vflds_get, h2, Nat.zero_add]; rfl) k
theorem v_gR {p ci k0 idx z : Nat} {ds : String} {fin : Bool} (hd : decode M.2.2.1 pc = .ok (.getfield idx, 3)) (hf : vFl M.1 idx ci k0 ds fin) (hs : vFT p k0 = some (ci, 3, z)) (k : V g M d N Q (pc + 3) lv (.ref z :: st) (hp σ)) : V g M d N Q pc lv (.ref p :: st) (hp σ) := by
  obtain ⟨q, l, rfl, h1, h2⟩ := vFT_of hs
  exact v_getf hd hf (hp_at σ h1) (by rw [vflds_get, h2, Nat.zero_add]; rfl) k
theorem v_pI {p ci k0 idx z : Nat} {x : Int} (hd : decode M.2.2.1 pc = .ok (.putfield idx, 3)) (hf : vFl M.1 idx ci k0 "I" false) (hs : vFT p k0 = some (ci, 0, z)) (k : V g M d N Q (pc + 3) lv st (hp (vU σ p k0 x))) : V g M d N Q pc lv (vi x :: .ref p :: st) (hp σ) := by
  obtain ⟨q, l, rfl, h1, h2⟩ := vFT_of hs
  refine v_putf (ty := .int) hd hf (hp_at σ h1) (by decide +kernel) (fun _ => rfl) (fun _ => rfl) (by rw [vflds_len]; exact (List.getElem?_eq_some_iff.mp h2).1) ?_
  have e : (.inr (ci, (vflds σ (q + 1) 0 l).set k0 (vi x)) : mC) = vcell (vU σ (q + 1) k0 x) (q + 1) (3, ci, l) := by
    show _ = Sum.inr (ci, vflds (vU σ (q + 1) k0 x) (q + 1) 0 l)
    congr 2
    apply List.ext_getElem?
    intro j
    by_cases hj : j = k0
    · subst hj
      rw [List.getElem?_set_self (by rw [vflds_len]; exact (List.getElem?_eq_some_iff.mp h2).1), vflds_get, h2, Nat.zero_add]
      show _ = some (vi (vU σ (q + 1) j x (q + 1) j))
      rw [vU_same]
    · rw [List.getElem?_set_ne (fun e => hj e.symm), vflds_get, vflds_get, Nat.zero_add]
      cases l[j]? with
      | none => rfl
      | some f => exact congrArg some (vfld_cong _ (vU_nk hj).symm f)
  rw [e, hp_set h1 (fun p j hp => vU_ne hp j)]
  exact k
theorem v_pJ {p ci k0 idx z : Nat} {x : Int} (hd : decode M.2.2.1 pc = .ok (.putfield idx, 3)) (hf : vFl M.1 idx ci k0 "J" false) (hs : vFT p k0 = some (ci, 1, z)) (k : V g M d N Q (pc + 3) lv st (hp (vU σ p k0 x))) : V g M d N Q pc lv (vj x :: .ref p :: st) (hp σ) := by
  obtain ⟨q, l, rfl, h1, h2⟩ := vFT_of hs
  refine v_putf (ty := .long) hd hf (hp_at σ h1) (by decide +kernel) (fun _ => rfl) (fun _ => rfl) (by rw [vflds_len]; exact (List.getElem?_eq_some_iff.mp h2).1) ?_
  have e : (.inr (ci, (vflds σ (q + 1) 0 l).set k0 (vj x)) : mC) = vcell (vU σ (q + 1) k0 x) (q + 1) (3, ci, l) := by
    show _ = Sum.inr (ci, vflds (vU σ (q + 1) k0 x) (q + 1) 0 l)
    congr 2
    apply List.ext_getElem?
    intro j
    by_cases hj : j = k0
    · subst hj
      rw [List.getElem?_set_self (by rw [vflds_len]; exact (List.getElem?_eq_some_iff.mp h2).1), vflds_get, h2, Nat.zero_add]
      show _ = some (vj (vU σ (q + 1) j x (q + 1) j))
      rw [vU_same]
    · rw [List.getElem?_set_ne (fun e => hj e.symm), vflds_get, vflds_get, Nat.zero_add]
      cases l[j]? with
      | none => rfl
      | some f => exact congrArg some (vfld_cong _ (vU_nk hj).symm f)
  rw [e, hp_set h1 (fun p j hp => vU_ne hp j)]
  exact k
theorem v_pZ {p ci k0 idx z : Nat} {x : Int} (hd : decode M.2.2.1 pc = .ok (.putfield idx, 3)) (hf : vFl M.1 idx ci k0 "Z" false) (hs : vFT p k0 = some (ci, 2, z)) (hz : x = 0 ∨ x = 1) (k : V g M d N Q (pc + 3) lv st (hp (vU σ p k0 x))) : V g M d N Q pc lv (vi x :: .ref p :: st) (hp σ) := by
  obtain ⟨q, l, rfl, h1, h2⟩ := vFT_of hs
  refine v_putf (ty := .boolean) hd hf (hp_at σ h1) (by decide +kernel) (fun _ => vZ hz) (fun _ => by rcases hz with rfl | rfl <;> (show fits .boolean (.int _) = true; decide)) (by rw [vflds_len]; exact (List.getElem?_eq_some_iff.mp h2).1) ?_
  have e : (.inr (ci, (vflds σ (q + 1) 0 l).set k0 (vi x)) : mC) = vcell (vU σ (q + 1) k0 x) (q + 1) (3, ci, l) := by
    show _ = Sum.inr (ci, vflds (vU σ (q + 1) k0 x) (q + 1) 0 l)
    congr 2
    apply List.ext_getElem?
    intro j
    by_cases hj : j = k0
    · subst hj
      rw [List.getElem?_set_self (by rw [vflds_len]; exact (List.getElem?_eq_some_iff.mp h2).1), vflds_get, h2, Nat.zero_add]
      show _ = some (vi (vU σ (q + 1) j x (q + 1) j))
      rw [vU_same]
    · rw [List.getElem?_set_ne (fun e => hj e.symm), vflds_get, vflds_get, Nat.zero_add]
      cases l[j]? with
      | none => rfl
      | some f => exact congrArg some (vfld_cong _ (vU_nk hj).symm f)
  rw [e, hp_set h1 (fun p j hp => vU_ne hp j)]
  exact k
theorem v_aI {p n j : Nat} {x : Int} (hd : decode M.2.2.1 pc = .ok (.iaload, 1)) (hs : vAT p = some (0, n)) (hj : x.toNat = j) (hx : 0 ≤ x) (hx2 : x < n) (k : V g M d N Q (pc + 1) lv (vi (σ p j) :: st) (hp σ)) : V g M d N Q pc lv (vi x :: .ref p :: st) (hp σ) := by
  subst hj
  obtain ⟨q, l, rfl, h1, -⟩ := vAT_of hs
  exact v_iald hd (hp_at σ h1) hx hx2 (Nat.le_trans (vSh_small _ (List.mem_of_getElem? h1)) (by decide)) k
theorem v_aJ {p n j : Nat} {x : Int} (hd : decode M.2.2.1 pc = .ok (.laload, 1)) (hs : vAT p = some (1, n)) (hj : x.toNat = j) (hx : 0 ≤ x) (hx2 : x < n) (k : V g M d N Q (pc + 1) lv (vj (σ p j) :: st) (hp σ)) : V g M d N Q pc lv (vi x :: .ref p :: st) (hp σ) := by
  subst hj
  obtain ⟨q, l, rfl, h1, -⟩ := vAT_of hs
  exact v_lald hd (hp_at σ h1) hx hx2 (Nat.le_trans (vSh_small _ (List.mem_of_getElem? h1)) (by decide)) k
theorem v_aZ {p n j : Nat} {x : Int} (hd : decode M.2.2.1 pc = .ok (.baload, 1)) (hs : vAT p = some (2, n)) (hj : x.toNat = j) (hx : 0 ≤ x) (hx2 : x < n) (k : V g M d N Q (pc + 1) lv (vi (σ p j) :: st) (hp σ)) : V g M d N Q pc lv (vi x :: .ref p :: st) (hp σ) := by
  subst hj
  obtain ⟨q, l, rfl, h1, -⟩ := vAT_of hs
  exact v_zald hd (hp_at σ h1) hx hx2 (Nat.le_trans (vSh_small _ (List.mem_of_getElem? h1)) (by decide)) k
theorem v_sI {p n j : Nat} {x y : Int} (hd : decode M.2.2.1 pc = .ok (.iastore, 1)) (hs : vAT p = some (0, n)) (hj : x.toNat = j) (hx : 0 ≤ x) (hx2 : x < n) (k : V g M d N Q (pc + 1) lv st (hp (vU σ p j y))) : V g M d N Q pc lv (vi y :: vi x :: .ref p :: st) (hp σ) := by
  subst hj
  obtain ⟨q, l, rfl, h1, -⟩ := vAT_of hs
  refine v_iast hd (hp_at σ h1) hx hx2 (Nat.le_trans (vSh_small _ (List.mem_of_getElem? h1)) (by decide)) ?_
  have e : (.inl (0, n, .inl (upd (fun j => Int32.ofInt (σ (q + 1) j)) x.toNat (Int32.ofInt y))) : mC) = vcell (vU σ (q + 1) x.toNat y) (q + 1) (0, n, l) := by
    show _ = (Sum.inl (0, n, .inl (fun j => Int32.ofInt (vU σ (q + 1) x.toNat y (q + 1) j))) : mC)
    congr
    funext j
    unfold upd vU
    by_cases hj : j = x.toNat
    · simp [hj]
    · simp [hj]
  rw [e, hp_set h1 (fun p j hp => vU_ne hp j)]
  exact k
theorem v_sJ {p n j : Nat} {x y : Int} (hd : decode M.2.2.1 pc = .ok (.lastore, 1)) (hs : vAT p = some (1, n)) (hj : x.toNat = j) (hx : 0 ≤ x) (hx2 : x < n) (k : V g M d N Q (pc + 1) lv st (hp (vU σ p j y))) : V g M d N Q pc lv (vj y :: vi x :: .ref p :: st) (hp σ) := by
  subst hj
  obtain ⟨q, l, rfl, h1, -⟩ := vAT_of hs
  refine v_last hd (hp_at σ h1) hx hx2 (Nat.le_trans (vSh_small _ (List.mem_of_getElem? h1)) (by decide)) ?_
  have e : (.inl (1, n, .inr (.inl (vp_updL (fun j => Int64.ofInt (σ (q + 1) j)) x.toNat (Int64.ofInt y)))) : mC) = vcell (vU σ (q + 1) x.toNat y) (q + 1) (1, n, l) := by
    show _ = (Sum.inl (1, n, .inr (.inl (fun j => Int64.ofInt (vU σ (q + 1) x.toNat y (q + 1) j)))) : mC)
    congr
    funext j
    unfold vp_updL vU
    by_cases hj : j = x.toNat
    · simp [hj]
    · simp [hj]
  rw [e, hp_set h1 (fun p j hp => vU_ne hp j)]
  exact k
theorem v_sZ {p n j : Nat} {x y : Int} (hd : decode M.2.2.1 pc = .ok (.bastore, 1)) (hs : vAT p = some (2, n)) (hj : x.toNat = j) (hx : 0 ≤ x) (hx2 : x < n) (hy : y = 0 ∨ y = 1) (k : V g M d N Q (pc + 1) lv st (hp (vU σ p j y))) : V g M d N Q pc lv (vi y :: vi x :: .ref p :: st) (hp σ) := by
  subst hj
  obtain ⟨q, l, rfl, h1, -⟩ := vAT_of hs
  refine v_zast hd (hp_at σ h1) hx hx2 (Nat.le_trans (vSh_small _ (List.mem_of_getElem? h1)) (by decide)) hy ?_
  have e : (.inl (2, n, .inl (upd (fun j => Int32.ofInt (σ (q + 1) j)) x.toNat (Int32.ofInt y))) : mC) = vcell (vU σ (q + 1) x.toNat y) (q + 1) (2, n, l) := by
    show _ = (Sum.inl (2, n, .inl (fun j => Int32.ofInt (vU σ (q + 1) x.toNat y (q + 1) j))) : mC)
    congr
    funext j
    unfold upd vU
    by_cases hj : j = x.toNat
    · simp [hj]
    · simp [hj]
  rw [e, hp_set h1 (fun p j hp => vU_ne hp j)]
  exact k
theorem v_len {p n : Nat} (hd : decode M.2.2.1 pc = .ok (.arraylength, 1)) (hs : vAT p = some (0, n)) (k : V g M d N Q (pc + 1) lv (vi n :: st) (hp σ)) : V g M d N Q pc lv (.ref p :: st) (hp σ) := by
  obtain ⟨q, l, rfl, h1, ht⟩ := vAT_of hs
  exact v_alen hd (hp_at σ h1) ht k
theorem v_cVi0 {M' : vMt} {d' idx : Nat} {p ci z m0 : Nat} {f : Nat × Nat} {T : u_T} (hd : decode M.2.2.1 pc = .ok (.invokevirtual idx, 3)) (hc : vCal M' 0) (hlk : Cond.methodLink M.1 idx M'.2.1 ∈ vWords) (hi : Cond.instanceMethod M'.2.1 ∈ vWords) (hse : Cond.selects M'.2.1.cls M'.2.1 M'.2.1 ∈ vWords) (hp0 : vFT p 0 = some (ci, f)) (hcl : vwCl[ci]? = some (M'.2.1.cls, T, m0)) (hn : vSl [.ref p] ≤ M'.2.2.2.1) (h8 : vSl st ≤ 8) (hdd : d' + 1 ≤ d) (hN : N.2.2.1 ≤ N.1 ∧ N.2.2.2 ≤ N.2.1) (k : V g M' d' (0, 0, 0, 0) (fun r w' => ∃ z, r = some (vi z) ∧ V g M d N Q (pc + 3) lv (vi z :: st) w') 0 (vargs 0 [.ref p]) [] (hp σ)) : V g M d N Q pc lv (.ref p :: st) (hp σ) := by
  obtain ⟨q, l, rfl, h1, -⟩ := vFT_of hp0
  exact v_callV (As := []) (mc := 0) (ms := 0) hd hc hlk hi hse (hp_at σ h1) hcl hn rfl h8 hdd hN (v_cons k (fun r w' h => by obtain ⟨z, rfl, h⟩ := h; exact h))
theorem v_cVi1 {M' : vMt} {d' idx : Nat} {a1 : Value} {p ci z m0 : Nat} {f : Nat × Nat} {T : u_T} (hd : decode M.2.2.1 pc = .ok (.invokevirtual idx, 3)) (hc : vCal M' 1) (hlk : Cond.methodLink M.1 idx M'.2.1 ∈ vWords) (hi : Cond.instanceMethod M'.2.1 ∈ vWords) (hse : Cond.selects M'.2.1.cls M'.2.1 M'.2.1 ∈ vWords) (hp0 : vFT p 0 = some (ci, f)) (hcl : vwCl[ci]? = some (M'.2.1.cls, T, m0)) (hn : vSl [.ref p, a1] ≤ M'.2.2.2.1) (h8 : vSl st ≤ 8) (hdd : d' + 1 ≤ d) (hN : N.2.2.1 ≤ N.1 ∧ N.2.2.2 ≤ N.2.1) (k : V g M' d' (0, 0, 0, 0) (fun r w' => ∃ z, r = some (vi z) ∧ V g M d N Q (pc + 3) lv (vi z :: st) w') 0 (vargs 0 [.ref p, a1]) [] (hp σ)) : V g M d N Q pc lv (a1 :: .ref p :: st) (hp σ) := by
  obtain ⟨q, l, rfl, h1, -⟩ := vFT_of hp0
  exact v_callV (As := [a1]) (mc := 0) (ms := 0) hd hc hlk hi hse (hp_at σ h1) hcl hn rfl h8 hdd hN (v_cons k (fun r w' h => by obtain ⟨z, rfl, h⟩ := h; exact h))
theorem v_cVi2 {M' : vMt} {d' idx : Nat} {a1 a2 : Value} {p ci z m0 : Nat} {f : Nat × Nat} {T : u_T} (hd : decode M.2.2.1 pc = .ok (.invokevirtual idx, 3)) (hc : vCal M' 2) (hlk : Cond.methodLink M.1 idx M'.2.1 ∈ vWords) (hi : Cond.instanceMethod M'.2.1 ∈ vWords) (hse : Cond.selects M'.2.1.cls M'.2.1 M'.2.1 ∈ vWords) (hp0 : vFT p 0 = some (ci, f)) (hcl : vwCl[ci]? = some (M'.2.1.cls, T, m0)) (hn : vSl [.ref p, a1, a2] ≤ M'.2.2.2.1) (h8 : vSl st ≤ 8) (hdd : d' + 1 ≤ d) (hN : N.2.2.1 ≤ N.1 ∧ N.2.2.2 ≤ N.2.1) (k : V g M' d' (0, 0, 0, 0) (fun r w' => ∃ z, r = some (vi z) ∧ V g M d N Q (pc + 3) lv (vi z :: st) w') 0 (vargs 0 [.ref p, a1, a2]) [] (hp σ)) : V g M d N Q pc lv (a2 :: a1 :: .ref p :: st) (hp σ) := by
  obtain ⟨q, l, rfl, h1, -⟩ := vFT_of hp0
  exact v_callV (As := [a1, a2]) (mc := 0) (ms := 0) hd hc hlk hi hse (hp_at σ h1) hcl hn rfl h8 hdd hN (v_cons k (fun r w' h => by obtain ⟨z, rfl, h⟩ := h; exact h))
theorem v_cVi3 {M' : vMt} {d' idx : Nat} {a1 a2 a3 : Value} {p ci z m0 : Nat} {f : Nat × Nat} {T : u_T} (hd : decode M.2.2.1 pc = .ok (.invokevirtual idx, 3)) (hc : vCal M' 3) (hlk : Cond.methodLink M.1 idx M'.2.1 ∈ vWords) (hi : Cond.instanceMethod M'.2.1 ∈ vWords) (hse : Cond.selects M'.2.1.cls M'.2.1 M'.2.1 ∈ vWords) (hp0 : vFT p 0 = some (ci, f)) (hcl : vwCl[ci]? = some (M'.2.1.cls, T, m0)) (hn : vSl [.ref p, a1, a2, a3] ≤ M'.2.2.2.1) (h8 : vSl st ≤ 8) (hdd : d' + 1 ≤ d) (hN : N.2.2.1 ≤ N.1 ∧ N.2.2.2 ≤ N.2.1) (k : V g M' d' (0, 0, 0, 0) (fun r w' => ∃ z, r = some (vi z) ∧ V g M d N Q (pc + 3) lv (vi z :: st) w') 0 (vargs 0 [.ref p, a1, a2, a3]) [] (hp σ)) : V g M d N Q pc lv (a3 :: a2 :: a1 :: .ref p :: st) (hp σ) := by
  obtain ⟨q, l, rfl, h1, -⟩ := vFT_of hp0
  exact v_callV (As := [a1, a2, a3]) (mc := 0) (ms := 0) hd hc hlk hi hse (hp_at σ h1) hcl hn rfl h8 hdd hN (v_cons k (fun r w' h => by obtain ⟨z, rfl, h⟩ := h; exact h))
theorem v_cVi4 {M' : vMt} {d' idx : Nat} {a1 a2 a3 a4 : Value} {p ci z m0 : Nat} {f : Nat × Nat} {T : u_T} (hd : decode M.2.2.1 pc = .ok (.invokevirtual idx, 3)) (hc : vCal M' 4) (hlk : Cond.methodLink M.1 idx M'.2.1 ∈ vWords) (hi : Cond.instanceMethod M'.2.1 ∈ vWords) (hse : Cond.selects M'.2.1.cls M'.2.1 M'.2.1 ∈ vWords) (hp0 : vFT p 0 = some (ci, f)) (hcl : vwCl[ci]? = some (M'.2.1.cls, T, m0)) (hn : vSl [.ref p, a1, a2, a3, a4] ≤ M'.2.2.2.1) (h8 : vSl st ≤ 8) (hdd : d' + 1 ≤ d) (hN : N.2.2.1 ≤ N.1 ∧ N.2.2.2 ≤ N.2.1) (k : V g M' d' (0, 0, 0, 0) (fun r w' => ∃ z, r = some (vi z) ∧ V g M d N Q (pc + 3) lv (vi z :: st) w') 0 (vargs 0 [.ref p, a1, a2, a3, a4]) [] (hp σ)) : V g M d N Q pc lv (a4 :: a3 :: a2 :: a1 :: .ref p :: st) (hp σ) := by
  obtain ⟨q, l, rfl, h1, -⟩ := vFT_of hp0
  exact v_callV (As := [a1, a2, a3, a4]) (mc := 0) (ms := 0) hd hc hlk hi hse (hp_at σ h1) hcl hn rfl h8 hdd hN (v_cons k (fun r w' h => by obtain ⟨z, rfl, h⟩ := h; exact h))
theorem v_cVi5 {M' : vMt} {d' idx : Nat} {a1 a2 a3 a4 a5 : Value} {p ci z m0 : Nat} {f : Nat × Nat} {T : u_T} (hd : decode M.2.2.1 pc = .ok (.invokevirtual idx, 3)) (hc : vCal M' 5) (hlk : Cond.methodLink M.1 idx M'.2.1 ∈ vWords) (hi : Cond.instanceMethod M'.2.1 ∈ vWords) (hse : Cond.selects M'.2.1.cls M'.2.1 M'.2.1 ∈ vWords) (hp0 : vFT p 0 = some (ci, f)) (hcl : vwCl[ci]? = some (M'.2.1.cls, T, m0)) (hn : vSl [.ref p, a1, a2, a3, a4, a5] ≤ M'.2.2.2.1) (h8 : vSl st ≤ 8) (hdd : d' + 1 ≤ d) (hN : N.2.2.1 ≤ N.1 ∧ N.2.2.2 ≤ N.2.1) (k : V g M' d' (0, 0, 0, 0) (fun r w' => ∃ z, r = some (vi z) ∧ V g M d N Q (pc + 3) lv (vi z :: st) w') 0 (vargs 0 [.ref p, a1, a2, a3, a4, a5]) [] (hp σ)) : V g M d N Q pc lv (a5 :: a4 :: a3 :: a2 :: a1 :: .ref p :: st) (hp σ) := by
  obtain ⟨q, l, rfl, h1, -⟩ := vFT_of hp0
  exact v_callV (As := [a1, a2, a3, a4, a5]) (mc := 0) (ms := 0) hd hc hlk hi hse (hp_at σ h1) hcl hn rfl h8 hdd hN (v_cons k (fun r w' h => by obtain ⟨z, rfl, h⟩ := h; exact h))
theorem v_cVi6 {M' : vMt} {d' idx : Nat} {a1 a2 a3 a4 a5 a6 : Value} {p ci z m0 : Nat} {f : Nat × Nat} {T : u_T} (hd : decode M.2.2.1 pc = .ok (.invokevirtual idx, 3)) (hc : vCal M' 6) (hlk : Cond.methodLink M.1 idx M'.2.1 ∈ vWords) (hi : Cond.instanceMethod M'.2.1 ∈ vWords) (hse : Cond.selects M'.2.1.cls M'.2.1 M'.2.1 ∈ vWords) (hp0 : vFT p 0 = some (ci, f)) (hcl : vwCl[ci]? = some (M'.2.1.cls, T, m0)) (hn : vSl [.ref p, a1, a2, a3, a4, a5, a6] ≤ M'.2.2.2.1) (h8 : vSl st ≤ 8) (hdd : d' + 1 ≤ d) (hN : N.2.2.1 ≤ N.1 ∧ N.2.2.2 ≤ N.2.1) (k : V g M' d' (0, 0, 0, 0) (fun r w' => ∃ z, r = some (vi z) ∧ V g M d N Q (pc + 3) lv (vi z :: st) w') 0 (vargs 0 [.ref p, a1, a2, a3, a4, a5, a6]) [] (hp σ)) : V g M d N Q pc lv (a6 :: a5 :: a4 :: a3 :: a2 :: a1 :: .ref p :: st) (hp σ) := by
  obtain ⟨q, l, rfl, h1, -⟩ := vFT_of hp0
  exact v_callV (As := [a1, a2, a3, a4, a5, a6]) (mc := 0) (ms := 0) hd hc hlk hi hse (hp_at σ h1) hcl hn rfl h8 hdd hN (v_cons k (fun r w' h => by obtain ⟨z, rfl, h⟩ := h; exact h))
theorem v_cVl0 {M' : vMt} {d' idx : Nat} {p ci z m0 : Nat} {f : Nat × Nat} {T : u_T} (hd : decode M.2.2.1 pc = .ok (.invokevirtual idx, 3)) (hc : vCal M' 0) (hlk : Cond.methodLink M.1 idx M'.2.1 ∈ vWords) (hi : Cond.instanceMethod M'.2.1 ∈ vWords) (hse : Cond.selects M'.2.1.cls M'.2.1 M'.2.1 ∈ vWords) (hp0 : vFT p 0 = some (ci, f)) (hcl : vwCl[ci]? = some (M'.2.1.cls, T, m0)) (hn : vSl [.ref p] ≤ M'.2.2.2.1) (h8 : vSl st ≤ 8) (hdd : d' + 1 ≤ d) (hN : N.2.2.1 ≤ N.1 ∧ N.2.2.2 ≤ N.2.1) (k : V g M' d' (0, 0, 0, 0) (fun r w' => ∃ z, r = some (vj z) ∧ V g M d N Q (pc + 3) lv (vj z :: st) w') 0 (vargs 0 [.ref p]) [] (hp σ)) : V g M d N Q pc lv (.ref p :: st) (hp σ) := by
  obtain ⟨q, l, rfl, h1, -⟩ := vFT_of hp0
  exact v_callV (As := []) (mc := 0) (ms := 0) hd hc hlk hi hse (hp_at σ h1) hcl hn rfl h8 hdd hN (v_cons k (fun r w' h => by obtain ⟨z, rfl, h⟩ := h; exact h))
theorem v_cVl1 {M' : vMt} {d' idx : Nat} {a1 : Value} {p ci z m0 : Nat} {f : Nat × Nat} {T : u_T} (hd : decode M.2.2.1 pc = .ok (.invokevirtual idx, 3)) (hc : vCal M' 1) (hlk : Cond.methodLink M.1 idx M'.2.1 ∈ vWords) (hi : Cond.instanceMethod M'.2.1 ∈ vWords) (hse : Cond.selects M'.2.1.cls M'.2.1 M'.2.1 ∈ vWords) (hp0 : vFT p 0 = some (ci, f)) (hcl : vwCl[ci]? = some (M'.2.1.cls, T, m0)) (hn : vSl [.ref p, a1] ≤ M'.2.2.2.1) (h8 : vSl st ≤ 8) (hdd : d' + 1 ≤ d) (hN : N.2.2.1 ≤ N.1 ∧ N.2.2.2 ≤ N.2.1) (k : V g M' d' (0, 0, 0, 0) (fun r w' => ∃ z, r = some (vj z) ∧ V g M d N Q (pc + 3) lv (vj z :: st) w') 0 (vargs 0 [.ref p, a1]) [] (hp σ)) : V g M d N Q pc lv (a1 :: .ref p :: st) (hp σ) := by
  obtain ⟨q, l, rfl, h1, -⟩ := vFT_of hp0
  exact v_callV (As := [a1]) (mc := 0) (ms := 0) hd hc hlk hi hse (hp_at σ h1) hcl hn rfl h8 hdd hN (v_cons k (fun r w' h => by obtain ⟨z, rfl, h⟩ := h; exact h))
theorem v_cVl2 {M' : vMt} {d' idx : Nat} {a1 a2 : Value} {p ci z m0 : Nat} {f : Nat × Nat} {T : u_T} (hd : decode M.2.2.1 pc = .ok (.invokevirtual idx, 3)) (hc : vCal M' 2) (hlk : Cond.methodLink M.1 idx M'.2.1 ∈ vWords) (hi : Cond.instanceMethod M'.2.1 ∈ vWords) (hse : Cond.selects M'.2.1.cls M'.2.1 M'.2.1 ∈ vWords) (hp0 : vFT p 0 = some (ci, f)) (hcl : vwCl[ci]? = some (M'.2.1.cls, T, m0)) (hn : vSl [.ref p, a1, a2] ≤ M'.2.2.2.1) (h8 : vSl st ≤ 8) (hdd : d' + 1 ≤ d) (hN : N.2.2.1 ≤ N.1 ∧ N.2.2.2 ≤ N.2.1) (k : V g M' d' (0, 0, 0, 0) (fun r w' => ∃ z, r = some (vj z) ∧ V g M d N Q (pc + 3) lv (vj z :: st) w') 0 (vargs 0 [.ref p, a1, a2]) [] (hp σ)) : V g M d N Q pc lv (a2 :: a1 :: .ref p :: st) (hp σ) := by
  obtain ⟨q, l, rfl, h1, -⟩ := vFT_of hp0
  exact v_callV (As := [a1, a2]) (mc := 0) (ms := 0) hd hc hlk hi hse (hp_at σ h1) hcl hn rfl h8 hdd hN (v_cons k (fun r w' h => by obtain ⟨z, rfl, h⟩ := h; exact h))
theorem v_cVl3 {M' : vMt} {d' idx : Nat} {a1 a2 a3 : Value} {p ci z m0 : Nat} {f : Nat × Nat} {T : u_T} (hd : decode M.2.2.1 pc = .ok (.invokevirtual idx, 3)) (hc : vCal M' 3) (hlk : Cond.methodLink M.1 idx M'.2.1 ∈ vWords) (hi : Cond.instanceMethod M'.2.1 ∈ vWords) (hse : Cond.selects M'.2.1.cls M'.2.1 M'.2.1 ∈ vWords) (hp0 : vFT p 0 = some (ci, f)) (hcl : vwCl[ci]? = some (M'.2.1.cls, T, m0)) (hn : vSl [.ref p, a1, a2, a3] ≤ M'.2.2.2.1) (h8 : vSl st ≤ 8) (hdd : d' + 1 ≤ d) (hN : N.2.2.1 ≤ N.1 ∧ N.2.2.2 ≤ N.2.1) (k : V g M' d' (0, 0, 0, 0) (fun r w' => ∃ z, r = some (vj z) ∧ V g M d N Q (pc + 3) lv (vj z :: st) w') 0 (vargs 0 [.ref p, a1, a2, a3]) [] (hp σ)) : V g M d N Q pc lv (a3 :: a2 :: a1 :: .ref p :: st) (hp σ) := by
  obtain ⟨q, l, rfl, h1, -⟩ := vFT_of hp0
  exact v_callV (As := [a1, a2, a3]) (mc := 0) (ms := 0) hd hc hlk hi hse (hp_at σ h1) hcl hn rfl h8 hdd hN (v_cons k (fun r w' h => by obtain ⟨z, rfl, h⟩ := h; exact h))
theorem v_cVl4 {M' : vMt} {d' idx : Nat} {a1 a2 a3 a4 : Value} {p ci z m0 : Nat} {f : Nat × Nat} {T : u_T} (hd : decode M.2.2.1 pc = .ok (.invokevirtual idx, 3)) (hc : vCal M' 4) (hlk : Cond.methodLink M.1 idx M'.2.1 ∈ vWords) (hi : Cond.instanceMethod M'.2.1 ∈ vWords) (hse : Cond.selects M'.2.1.cls M'.2.1 M'.2.1 ∈ vWords) (hp0 : vFT p 0 = some (ci, f)) (hcl : vwCl[ci]? = some (M'.2.1.cls, T, m0)) (hn : vSl [.ref p, a1, a2, a3, a4] ≤ M'.2.2.2.1) (h8 : vSl st ≤ 8) (hdd : d' + 1 ≤ d) (hN : N.2.2.1 ≤ N.1 ∧ N.2.2.2 ≤ N.2.1) (k : V g M' d' (0, 0, 0, 0) (fun r w' => ∃ z, r = some (vj z) ∧ V g M d N Q (pc + 3) lv (vj z :: st) w') 0 (vargs 0 [.ref p, a1, a2, a3, a4]) [] (hp σ)) : V g M d N Q pc lv (a4 :: a3 :: a2 :: a1 :: .ref p :: st) (hp σ) := by
  obtain ⟨q, l, rfl, h1, -⟩ := vFT_of hp0
  exact v_callV (As := [a1, a2, a3, a4]) (mc := 0) (ms := 0) hd hc hlk hi hse (hp_at σ h1) hcl hn rfl h8 hdd hN (v_cons k (fun r w' h => by obtain ⟨z, rfl, h⟩ := h; exact h))
theorem v_cVl5 {M' : vMt} {d' idx : Nat} {a1 a2 a3 a4 a5 : Value} {p ci z m0 : Nat} {f : Nat × Nat} {T : u_T} (hd : decode M.2.2.1 pc = .ok (.invokevirtual idx, 3)) (hc : vCal M' 5) (hlk : Cond.methodLink M.1 idx M'.2.1 ∈ vWords) (hi : Cond.instanceMethod M'.2.1 ∈ vWords) (hse : Cond.selects M'.2.1.cls M'.2.1 M'.2.1 ∈ vWords) (hp0 : vFT p 0 = some (ci, f)) (hcl : vwCl[ci]? = some (M'.2.1.cls, T, m0)) (hn : vSl [.ref p, a1, a2, a3, a4, a5] ≤ M'.2.2.2.1) (h8 : vSl st ≤ 8) (hdd : d' + 1 ≤ d) (hN : N.2.2.1 ≤ N.1 ∧ N.2.2.2 ≤ N.2.1) (k : V g M' d' (0, 0, 0, 0) (fun r w' => ∃ z, r = some (vj z) ∧ V g M d N Q (pc + 3) lv (vj z :: st) w') 0 (vargs 0 [.ref p, a1, a2, a3, a4, a5]) [] (hp σ)) : V g M d N Q pc lv (a5 :: a4 :: a3 :: a2 :: a1 :: .ref p :: st) (hp σ) := by
  obtain ⟨q, l, rfl, h1, -⟩ := vFT_of hp0
  exact v_callV (As := [a1, a2, a3, a4, a5]) (mc := 0) (ms := 0) hd hc hlk hi hse (hp_at σ h1) hcl hn rfl h8 hdd hN (v_cons k (fun r w' h => by obtain ⟨z, rfl, h⟩ := h; exact h))
theorem v_cVl6 {M' : vMt} {d' idx : Nat} {a1 a2 a3 a4 a5 a6 : Value} {p ci z m0 : Nat} {f : Nat × Nat} {T : u_T} (hd : decode M.2.2.1 pc = .ok (.invokevirtual idx, 3)) (hc : vCal M' 6) (hlk : Cond.methodLink M.1 idx M'.2.1 ∈ vWords) (hi : Cond.instanceMethod M'.2.1 ∈ vWords) (hse : Cond.selects M'.2.1.cls M'.2.1 M'.2.1 ∈ vWords) (hp0 : vFT p 0 = some (ci, f)) (hcl : vwCl[ci]? = some (M'.2.1.cls, T, m0)) (hn : vSl [.ref p, a1, a2, a3, a4, a5, a6] ≤ M'.2.2.2.1) (h8 : vSl st ≤ 8) (hdd : d' + 1 ≤ d) (hN : N.2.2.1 ≤ N.1 ∧ N.2.2.2 ≤ N.2.1) (k : V g M' d' (0, 0, 0, 0) (fun r w' => ∃ z, r = some (vj z) ∧ V g M d N Q (pc + 3) lv (vj z :: st) w') 0 (vargs 0 [.ref p, a1, a2, a3, a4, a5, a6]) [] (hp σ)) : V g M d N Q pc lv (a6 :: a5 :: a4 :: a3 :: a2 :: a1 :: .ref p :: st) (hp σ) := by
  obtain ⟨q, l, rfl, h1, -⟩ := vFT_of hp0
  exact v_callV (As := [a1, a2, a3, a4, a5, a6]) (mc := 0) (ms := 0) hd hc hlk hi hse (hp_at σ h1) hcl hn rfl h8 hdd hN (v_cons k (fun r w' h => by obtain ⟨z, rfl, h⟩ := h; exact h))
theorem v_cVv0 {M' : vMt} {d' idx : Nat} {p ci z m0 : Nat} {f : Nat × Nat} {T : u_T} (hd : decode M.2.2.1 pc = .ok (.invokevirtual idx, 3)) (hc : vCal M' 0) (hlk : Cond.methodLink M.1 idx M'.2.1 ∈ vWords) (hi : Cond.instanceMethod M'.2.1 ∈ vWords) (hse : Cond.selects M'.2.1.cls M'.2.1 M'.2.1 ∈ vWords) (hp0 : vFT p 0 = some (ci, f)) (hcl : vwCl[ci]? = some (M'.2.1.cls, T, m0)) (hn : vSl [.ref p] ≤ M'.2.2.2.1) (h8 : vSl st ≤ 8) (hdd : d' + 1 ≤ d) (hN : N.2.2.1 ≤ N.1 ∧ N.2.2.2 ≤ N.2.1) (k : V g M' d' (0, 0, 0, 0) (fun r w' => r = none ∧ V g M d N Q (pc + 3) lv st w') 0 (vargs 0 [.ref p]) [] (hp σ)) : V g M d N Q pc lv (.ref p :: st) (hp σ) := by
  obtain ⟨q, l, rfl, h1, -⟩ := vFT_of hp0
  exact v_callV (As := []) (mc := 0) (ms := 0) hd hc hlk hi hse (hp_at σ h1) hcl hn rfl h8 hdd hN (v_cons k (fun r w' h => by obtain ⟨rfl, h⟩ := h; exact h))
theorem v_cVv1 {M' : vMt} {d' idx : Nat} {a1 : Value} {p ci z m0 : Nat} {f : Nat × Nat} {T : u_T} (hd : decode M.2.2.1 pc = .ok (.invokevirtual idx, 3)) (hc : vCal M' 1) (hlk : Cond.methodLink M.1 idx M'.2.1 ∈ vWords) (hi : Cond.instanceMethod M'.2.1 ∈ vWords) (hse : Cond.selects M'.2.1.cls M'.2.1 M'.2.1 ∈ vWords) (hp0 : vFT p 0 = some (ci, f)) (hcl : vwCl[ci]? = some (M'.2.1.cls, T, m0)) (hn : vSl [.ref p, a1] ≤ M'.2.2.2.1) (h8 : vSl st ≤ 8) (hdd : d' + 1 ≤ d) (hN : N.2.2.1 ≤ N.1 ∧ N.2.2.2 ≤ N.2.1) (k : V g M' d' (0, 0, 0, 0) (fun r w' => r = none ∧ V g M d N Q (pc + 3) lv st w') 0 (vargs 0 [.ref p, a1]) [] (hp σ)) : V g M d N Q pc lv (a1 :: .ref p :: st) (hp σ) := by
  obtain ⟨q, l, rfl, h1, -⟩ := vFT_of hp0
  exact v_callV (As := [a1]) (mc := 0) (ms := 0) hd hc hlk hi hse (hp_at σ h1) hcl hn rfl h8 hdd hN (v_cons k (fun r w' h => by obtain ⟨rfl, h⟩ := h; exact h))
theorem v_cVv2 {M' : vMt} {d' idx : Nat} {a1 a2 : Value} {p ci z m0 : Nat} {f : Nat × Nat} {T : u_T} (hd : decode M.2.2.1 pc = .ok (.invokevirtual idx, 3)) (hc : vCal M' 2) (hlk : Cond.methodLink M.1 idx M'.2.1 ∈ vWords) (hi : Cond.instanceMethod M'.2.1 ∈ vWords) (hse : Cond.selects M'.2.1.cls M'.2.1 M'.2.1 ∈ vWords) (hp0 : vFT p 0 = some (ci, f)) (hcl : vwCl[ci]? = some (M'.2.1.cls, T, m0)) (hn : vSl [.ref p, a1, a2] ≤ M'.2.2.2.1) (h8 : vSl st ≤ 8) (hdd : d' + 1 ≤ d) (hN : N.2.2.1 ≤ N.1 ∧ N.2.2.2 ≤ N.2.1) (k : V g M' d' (0, 0, 0, 0) (fun r w' => r = none ∧ V g M d N Q (pc + 3) lv st w') 0 (vargs 0 [.ref p, a1, a2]) [] (hp σ)) : V g M d N Q pc lv (a2 :: a1 :: .ref p :: st) (hp σ) := by
  obtain ⟨q, l, rfl, h1, -⟩ := vFT_of hp0
  exact v_callV (As := [a1, a2]) (mc := 0) (ms := 0) hd hc hlk hi hse (hp_at σ h1) hcl hn rfl h8 hdd hN (v_cons k (fun r w' h => by obtain ⟨rfl, h⟩ := h; exact h))
theorem v_cVv3 {M' : vMt} {d' idx : Nat} {a1 a2 a3 : Value} {p ci z m0 : Nat} {f : Nat × Nat} {T : u_T} (hd : decode M.2.2.1 pc = .ok (.invokevirtual idx, 3)) (hc : vCal M' 3) (hlk : Cond.methodLink M.1 idx M'.2.1 ∈ vWords) (hi : Cond.instanceMethod M'.2.1 ∈ vWords) (hse : Cond.selects M'.2.1.cls M'.2.1 M'.2.1 ∈ vWords) (hp0 : vFT p 0 = some (ci, f)) (hcl : vwCl[ci]? = some (M'.2.1.cls, T, m0)) (hn : vSl [.ref p, a1, a2, a3] ≤ M'.2.2.2.1) (h8 : vSl st ≤ 8) (hdd : d' + 1 ≤ d) (hN : N.2.2.1 ≤ N.1 ∧ N.2.2.2 ≤ N.2.1) (k : V g M' d' (0, 0, 0, 0) (fun r w' => r = none ∧ V g M d N Q (pc + 3) lv st w') 0 (vargs 0 [.ref p, a1, a2, a3]) [] (hp σ)) : V g M d N Q pc lv (a3 :: a2 :: a1 :: .ref p :: st) (hp σ) := by
  obtain ⟨q, l, rfl, h1, -⟩ := vFT_of hp0
  exact v_callV (As := [a1, a2, a3]) (mc := 0) (ms := 0) hd hc hlk hi hse (hp_at σ h1) hcl hn rfl h8 hdd hN (v_cons k (fun r w' h => by obtain ⟨rfl, h⟩ := h; exact h))
theorem v_cVv4 {M' : vMt} {d' idx : Nat} {a1 a2 a3 a4 : Value} {p ci z m0 : Nat} {f : Nat × Nat} {T : u_T} (hd : decode M.2.2.1 pc = .ok (.invokevirtual idx, 3)) (hc : vCal M' 4) (hlk : Cond.methodLink M.1 idx M'.2.1 ∈ vWords) (hi : Cond.instanceMethod M'.2.1 ∈ vWords) (hse : Cond.selects M'.2.1.cls M'.2.1 M'.2.1 ∈ vWords) (hp0 : vFT p 0 = some (ci, f)) (hcl : vwCl[ci]? = some (M'.2.1.cls, T, m0)) (hn : vSl [.ref p, a1, a2, a3, a4] ≤ M'.2.2.2.1) (h8 : vSl st ≤ 8) (hdd : d' + 1 ≤ d) (hN : N.2.2.1 ≤ N.1 ∧ N.2.2.2 ≤ N.2.1) (k : V g M' d' (0, 0, 0, 0) (fun r w' => r = none ∧ V g M d N Q (pc + 3) lv st w') 0 (vargs 0 [.ref p, a1, a2, a3, a4]) [] (hp σ)) : V g M d N Q pc lv (a4 :: a3 :: a2 :: a1 :: .ref p :: st) (hp σ) := by
  obtain ⟨q, l, rfl, h1, -⟩ := vFT_of hp0
  exact v_callV (As := [a1, a2, a3, a4]) (mc := 0) (ms := 0) hd hc hlk hi hse (hp_at σ h1) hcl hn rfl h8 hdd hN (v_cons k (fun r w' h => by obtain ⟨rfl, h⟩ := h; exact h))
theorem v_cVv5 {M' : vMt} {d' idx : Nat} {a1 a2 a3 a4 a5 : Value} {p ci z m0 : Nat} {f : Nat × Nat} {T : u_T} (hd : decode M.2.2.1 pc = .ok (.invokevirtual idx, 3)) (hc : vCal M' 5) (hlk : Cond.methodLink M.1 idx M'.2.1 ∈ vWords) (hi : Cond.instanceMethod M'.2.1 ∈ vWords) (hse : Cond.selects M'.2.1.cls M'.2.1 M'.2.1 ∈ vWords) (hp0 : vFT p 0 = some (ci, f)) (hcl : vwCl[ci]? = some (M'.2.1.cls, T, m0)) (hn : vSl [.ref p, a1, a2, a3, a4, a5] ≤ M'.2.2.2.1) (h8 : vSl st ≤ 8) (hdd : d' + 1 ≤ d) (hN : N.2.2.1 ≤ N.1 ∧ N.2.2.2 ≤ N.2.1) (k : V g M' d' (0, 0, 0, 0) (fun r w' => r = none ∧ V g M d N Q (pc + 3) lv st w') 0 (vargs 0 [.ref p, a1, a2, a3, a4, a5]) [] (hp σ)) : V g M d N Q pc lv (a5 :: a4 :: a3 :: a2 :: a1 :: .ref p :: st) (hp σ) := by
  obtain ⟨q, l, rfl, h1, -⟩ := vFT_of hp0
  exact v_callV (As := [a1, a2, a3, a4, a5]) (mc := 0) (ms := 0) hd hc hlk hi hse (hp_at σ h1) hcl hn rfl h8 hdd hN (v_cons k (fun r w' h => by obtain ⟨rfl, h⟩ := h; exact h))
theorem v_cVv6 {M' : vMt} {d' idx : Nat} {a1 a2 a3 a4 a5 a6 : Value} {p ci z m0 : Nat} {f : Nat × Nat} {T : u_T} (hd : decode M.2.2.1 pc = .ok (.invokevirtual idx, 3)) (hc : vCal M' 6) (hlk : Cond.methodLink M.1 idx M'.2.1 ∈ vWords) (hi : Cond.instanceMethod M'.2.1 ∈ vWords) (hse : Cond.selects M'.2.1.cls M'.2.1 M'.2.1 ∈ vWords) (hp0 : vFT p 0 = some (ci, f)) (hcl : vwCl[ci]? = some (M'.2.1.cls, T, m0)) (hn : vSl [.ref p, a1, a2, a3, a4, a5, a6] ≤ M'.2.2.2.1) (h8 : vSl st ≤ 8) (hdd : d' + 1 ≤ d) (hN : N.2.2.1 ≤ N.1 ∧ N.2.2.2 ≤ N.2.1) (k : V g M' d' (0, 0, 0, 0) (fun r w' => r = none ∧ V g M d N Q (pc + 3) lv st w') 0 (vargs 0 [.ref p, a1, a2, a3, a4, a5, a6]) [] (hp σ)) : V g M d N Q pc lv (a6 :: a5 :: a4 :: a3 :: a2 :: a1 :: .ref p :: st) (hp σ) := by
  obtain ⟨q, l, rfl, h1, -⟩ := vFT_of hp0
  exact v_callV (As := [a1, a2, a3, a4, a5, a6]) (mc := 0) (ms := 0) hd hc hlk hi hse (hp_at σ h1) hcl hn rfl h8 hdd hN (v_cons k (fun r w' h => by obtain ⟨rfl, h⟩ := h; exact h))
theorem v_cSi1 {M' : vMt} {d' idx : Nat} {a1 : Value} (hd : decode M.2.2.1 pc = .ok (.invokestatic idx, 3)) (hc : vCal M' 1) (hlk : Cond.methodLink M.1 idx M'.2.1 ∈ vWords) (hs : Cond.static M'.2.1 ∈ vWords) (hn : vSl [a1] ≤ M'.2.2.2.1) (h8 : vSl st ≤ 8) (hdd : d' + 1 ≤ d) (hN : N.2.2.1 ≤ N.1 ∧ N.2.2.2 ≤ N.2.1) (k : V g M' d' (0, 0, 0, 0) (fun r w' => ∃ z, r = some (vi z) ∧ V g M d N Q (pc + 3) lv (vi z :: st) w') 0 (vargs 0 [a1]) [] (hp σ)) : V g M d N Q pc lv (a1 :: st) (hp σ) := by
  exact v_callS (p0 := 0) (As := [a1]) (mc := 0) (ms := 0) hd hc hlk hs hn rfl h8 hdd hN (v_cons k (fun r w' h => by obtain ⟨z, rfl, h⟩ := h; exact h))
theorem v_cSi2 {M' : vMt} {d' idx : Nat} {a1 a2 : Value} (hd : decode M.2.2.1 pc = .ok (.invokestatic idx, 3)) (hc : vCal M' 2) (hlk : Cond.methodLink M.1 idx M'.2.1 ∈ vWords) (hs : Cond.static M'.2.1 ∈ vWords) (hn : vSl [a1, a2] ≤ M'.2.2.2.1) (h8 : vSl st ≤ 8) (hdd : d' + 1 ≤ d) (hN : N.2.2.1 ≤ N.1 ∧ N.2.2.2 ≤ N.2.1) (k : V g M' d' (0, 0, 0, 0) (fun r w' => ∃ z, r = some (vi z) ∧ V g M d N Q (pc + 3) lv (vi z :: st) w') 0 (vargs 0 [a1, a2]) [] (hp σ)) : V g M d N Q pc lv (a2 :: a1 :: st) (hp σ) := by
  exact v_callS (p0 := 0) (As := [a1, a2]) (mc := 0) (ms := 0) hd hc hlk hs hn rfl h8 hdd hN (v_cons k (fun r w' h => by obtain ⟨z, rfl, h⟩ := h; exact h))
theorem v_cSi3 {M' : vMt} {d' idx : Nat} {a1 a2 a3 : Value} (hd : decode M.2.2.1 pc = .ok (.invokestatic idx, 3)) (hc : vCal M' 3) (hlk : Cond.methodLink M.1 idx M'.2.1 ∈ vWords) (hs : Cond.static M'.2.1 ∈ vWords) (hn : vSl [a1, a2, a3] ≤ M'.2.2.2.1) (h8 : vSl st ≤ 8) (hdd : d' + 1 ≤ d) (hN : N.2.2.1 ≤ N.1 ∧ N.2.2.2 ≤ N.2.1) (k : V g M' d' (0, 0, 0, 0) (fun r w' => ∃ z, r = some (vi z) ∧ V g M d N Q (pc + 3) lv (vi z :: st) w') 0 (vargs 0 [a1, a2, a3]) [] (hp σ)) : V g M d N Q pc lv (a3 :: a2 :: a1 :: st) (hp σ) := by
  exact v_callS (p0 := 0) (As := [a1, a2, a3]) (mc := 0) (ms := 0) hd hc hlk hs hn rfl h8 hdd hN (v_cons k (fun r w' h => by obtain ⟨z, rfl, h⟩ := h; exact h))
theorem v_cSl1 {M' : vMt} {d' idx : Nat} {a1 : Value} (hd : decode M.2.2.1 pc = .ok (.invokestatic idx, 3)) (hc : vCal M' 1) (hlk : Cond.methodLink M.1 idx M'.2.1 ∈ vWords) (hs : Cond.static M'.2.1 ∈ vWords) (hn : vSl [a1] ≤ M'.2.2.2.1) (h8 : vSl st ≤ 8) (hdd : d' + 1 ≤ d) (hN : N.2.2.1 ≤ N.1 ∧ N.2.2.2 ≤ N.2.1) (k : V g M' d' (0, 0, 0, 0) (fun r w' => ∃ z, r = some (vj z) ∧ V g M d N Q (pc + 3) lv (vj z :: st) w') 0 (vargs 0 [a1]) [] (hp σ)) : V g M d N Q pc lv (a1 :: st) (hp σ) := by
  exact v_callS (p0 := 0) (As := [a1]) (mc := 0) (ms := 0) hd hc hlk hs hn rfl h8 hdd hN (v_cons k (fun r w' h => by obtain ⟨z, rfl, h⟩ := h; exact h))
theorem v_cSl2 {M' : vMt} {d' idx : Nat} {a1 a2 : Value} (hd : decode M.2.2.1 pc = .ok (.invokestatic idx, 3)) (hc : vCal M' 2) (hlk : Cond.methodLink M.1 idx M'.2.1 ∈ vWords) (hs : Cond.static M'.2.1 ∈ vWords) (hn : vSl [a1, a2] ≤ M'.2.2.2.1) (h8 : vSl st ≤ 8) (hdd : d' + 1 ≤ d) (hN : N.2.2.1 ≤ N.1 ∧ N.2.2.2 ≤ N.2.1) (k : V g M' d' (0, 0, 0, 0) (fun r w' => ∃ z, r = some (vj z) ∧ V g M d N Q (pc + 3) lv (vj z :: st) w') 0 (vargs 0 [a1, a2]) [] (hp σ)) : V g M d N Q pc lv (a2 :: a1 :: st) (hp σ) := by
  exact v_callS (p0 := 0) (As := [a1, a2]) (mc := 0) (ms := 0) hd hc hlk hs hn rfl h8 hdd hN (v_cons k (fun r w' h => by obtain ⟨z, rfl, h⟩ := h; exact h))
theorem v_cSl3 {M' : vMt} {d' idx : Nat} {a1 a2 a3 : Value} (hd : decode M.2.2.1 pc = .ok (.invokestatic idx, 3)) (hc : vCal M' 3) (hlk : Cond.methodLink M.1 idx M'.2.1 ∈ vWords) (hs : Cond.static M'.2.1 ∈ vWords) (hn : vSl [a1, a2, a3] ≤ M'.2.2.2.1) (h8 : vSl st ≤ 8) (hdd : d' + 1 ≤ d) (hN : N.2.2.1 ≤ N.1 ∧ N.2.2.2 ≤ N.2.1) (k : V g M' d' (0, 0, 0, 0) (fun r w' => ∃ z, r = some (vj z) ∧ V g M d N Q (pc + 3) lv (vj z :: st) w') 0 (vargs 0 [a1, a2, a3]) [] (hp σ)) : V g M d N Q pc lv (a3 :: a2 :: a1 :: st) (hp σ) := by
  exact v_callS (p0 := 0) (As := [a1, a2, a3]) (mc := 0) (ms := 0) hd hc hlk hs hn rfl h8 hdd hN (v_cons k (fun r w' h => by obtain ⟨z, rfl, h⟩ := h; exact h))
theorem v_cSNi2 {M' : vMt} {d' idx : Nat} {a1 a2 : Value} (hd : decode M.2.2.1 pc = .ok (.invokestatic idx, 3)) (hc : vCal M' 2) (hlk : vNest M.1 idx M'.2.1) (hs : Cond.static M'.2.1 ∈ vWords) (hn : vSl [a1, a2] ≤ M'.2.2.2.1) (h8 : vSl st ≤ 8) (hdd : d' + 1 ≤ d) (hN : N.2.2.1 ≤ N.1 ∧ N.2.2.2 ≤ N.2.1) (k : V g M' d' (0, 0, 0, 0) (fun r w' => ∃ z, r = some (vi z) ∧ V g M d N Q (pc + 3) lv (vi z :: st) w') 0 (vargs 0 [a1, a2]) [] (hp σ)) : V g M d N Q pc lv (a2 :: a1 :: st) (hp σ) := by
  exact v_callSN (p0 := 0) (As := [a1, a2]) (mc := 0) (ms := 0) hd hc hlk hs hn rfl h8 hdd hN (v_cons k (fun r w' h => by obtain ⟨z, rfl, h⟩ := h; exact h))
end STATE
