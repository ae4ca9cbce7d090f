/-! the small machine: worlds are the cells made since 'base', one beside another; a reference is its place (from 1 on) -/
abbrev mC : Type := (Nat × vp_A) ⊕ (Nat × List Value)
abbrev vAd : Type := Nat × Nat × Nat × Nat
abbrev vMt : Type := String × MethodName × ByteArray × Nat × Option FieldType
abbrev vGl : Type := Launch × Nat × (Nat → Int32)
def vi (z : Int) : Value := .int (Int32.ofInt z)
def vj (z : Int) : Value := .long (Int64.ofInt z)
def trv (a : vAd) (v : Value) : Value := match v with
  | .ref 0 => .ref a.2.1
  | .ref (k + 1) => .ref (a.1 + k)
  | .retAddr 0 => .ref a.2.2.1
  | .retAddr (_ + 1) => .ref a.2.2.2
  | v => v
theorem trv_cat (a : vAd) (v : Value) : (trv a v).category = v.category := by
  cases v with
  | ref k => cases k <;> rfl
  | retAddr k => cases k <;> rfl
  | _ => rfl
def tre (a : vAd) (cls : Nat → ClassId) (e : mC) : va_E := match e with
  | .inl x => .inl (cls x.1, x.2)
  | .inr o => .inr (o.1, o.2.map (trv a))
def vP (a : vAd) (cls : Nat → ClassId) (D : va_G) (w : List mC) (H : Heap) : Prop := H.size = a.1 + w.length ∧ ∀ (k : Nat) (e : mC), w[k]? = some e → va_at D vwCl (a.1 + k, tre a cls e) H
def vWords : List Cond := lw_tbl.filter goodWord
theorem vW {w : Cond} (i : Nat) (h : lw_tbl[i]? = some w) (hg : goodWord w = true) : w ∈ vWords := List.mem_filter.mpr ⟨List.mem_of_getElem? h, hg⟩
theorem vGood {w : Cond} (h : w ∈ vWords) : goodWord w = true := (List.mem_filter.mp h).2
def vTy (cls : Nat → ClassId) : List (ClassId × FieldType) := [(cls 0, .int), (cls 1, .long), (cls 2, .boolean)]
def vNest (own : String) (idx : Nat) (y : MethodName) : Prop := (own = RX8 ∧ idx = 15 ∧ y = yX1_init) ∨ (own = RX8 ∧ idx = 31 ∧ y = yX3_init) ∨ (own = RX8 ∧ idx = 76 ∧ y = yX7_init) ∨ (own = RX6 ∧ idx = 77 ∧ y = yX8_digitFor) ∨ (own = RX0 ∧ idx = 130 ∧ y = yX8_digitFor)
def vLeast (j : Nat) : Value := .int (if j = 0 then 0 else if j = 1 then 1 else 50)
def vMost (j : Nat) : Value := .int (if j = 0 then 999 else if j = 1 then 50 else 100)
def vG (g : vGl) (a : vAd) (cls : Nat → ClassId) (D : va_G) (U : State) (H : Heap) : Prop :=
  va_K D vwCl (vTy cls) U ∧ (∀ own idx y, vNest own idx y → va_Nw (.methodLinkNest own idx y RX8) U) ∧ va_X a.2.1 g.2.1 g.2.2 U H ∧ a.2.1 < a.1 ∧ a.1 ≤ H.size ∧
  (va_Z RX8 "SETTING_LEAST" "[I" (.ref a.2.2.1) (fun q => a.1 ≤ q) U H ∧ va_T .int a.2.2.1 3 vLeast (fun q => a.1 ≤ q) U H) ∧ va_Z RX8 "SETTING_MOST" "[I" (.ref a.2.2.2) (fun q => a.1 ≤ q) U H ∧ va_T .int a.2.2.2 3 vMost (fun q => a.1 ≤ q) U H
theorem vG.go {g : vGl} {a : vAd} {cls : Nat → ClassId} {D : va_G} {s U : State} {H : Heap} {locs : List Loc} (h : vG g a cls D s s.heap) (hS : va_S (fun q => a.1 ≤ q) s.heap H locs) (hW : s.WarmedH U.vm) : vG g a cls D U H := by
  obtain ⟨h1, h2, h3, h4, h5, ⟨h6, h7⟩, h8, h9⟩ := h
  have hq : ∀ x : Nat, x < s.heap.size → ¬ a.1 ≤ x → H[x]? = s.heap[x]? := hS.2.1
  refine ⟨va_K.moved hW.alike h1, fun own idx y hn => (h2 own idx y hn).warmM hW, (h3.kept (hq _ (by omega) (by omega))).moved hW.alike, h4, Nat.le_trans h5 hS.1, ⟨(h6.kept hq).moved hW.alike, (h7.kept hq).moved hW.alike⟩, (h8.kept hq).moved hW.alike, (h9.kept hq).moved hW.alike⟩
theorem vG.blind {g : vGl} {a : vAd} {cls : Nat → ClassId} {D : va_G} {U : State} (h : vG g a cls D U U.heap) (f : JFrame) (mk : MethodId) (x : Array Value) : vG g a cls D (U.calling f mk x) (U.calling f mk x).heap := by
  obtain ⟨h1, h2, h3, h4, h5, ⟨h6, h7⟩, h8, h9⟩ := h
  have e : U.vm.Alike (U.calling f mk x).vm := Vm.Alike.refl U.vm
  exact ⟨va_K.moved e h1, fun own idx y hn => (h2 own idx y hn).same rfl rfl, h3.moved e, h4, h5, ⟨h6.moved e, h7.moved e⟩, h8.moved e, h9.moved e⟩
def vget : List (Nat × Value) → Nat → Option Value
  | [], _ => none
  | (i, v) :: l, j => bif Nat.beq i j then some v else bif Nat.beq (i + 1) j && Nat.beq v.category 2 then none else match vget l j with
    | none => none
    | some u => bif Nat.beq (j + 1) i && Nat.beq u.category 2 then none else some u
def vL (a : vAd) (ls : Array Slot) (n : Nat) (lv : List (Nat × Value)) : Prop := lv_has ls n [] ∧ ∀ (i : Nat) (v : Value), vget lv i = some v → ls[i]? = some (.val (trv a v))
def vFx (M : vMt) (d mc ms : Nat) (p : Program) (R : Room) (s : State) (m : MethodId) (args : Array Value) (meth : Method) (c : Code) : Prop :=
  p.tables.exec = Jvm.exec ∧ c.code = M.2.2.1 ∧ c.maxLocals = M.2.2.2.1 ∧ s.vm.findClass M.1 = some m.cls ∧ (∀ w ∈ vWords, w.before args s = true) ∧ (M.2.1.name = "<init>" → meth.name = "<init>") ∧ d ≤ R.frames ∧ 100 * d ≤ R.locals ∧ R.cells = mc ∧ R.slots = ms
def vR (a : vAd) (cls : Nat → ClassId) (D : va_G) (w : List mC) (H0 H : Heap) (locs : List Loc) : Prop := vP a cls D w H ∧ a.1 ≤ H0.size ∧ va_S (fun q => a.1 ≤ q) H0 H locs
def vRt (M : vMt) (pc : Nat) (r : Option Value) : Prop :=
  (∃ x, r = some (.int x) ∧ decode M.2.2.1 pc = .ok (.ireturn, 1) ∧ ∃ ty, M.2.2.2.2 = some ty ∧ narrow ty (.int x) = .int x) ∨ (∃ x, r = some (.long x) ∧ decode M.2.2.1 pc = .ok (.lreturn, 1) ∧ M.2.2.2.2 = some .long) ∨ (r = none ∧ decode M.2.2.1 pc = .ok (.return_, 1) ∧ M.2.2.2.2 = none)
def V (g : vGl) (M : vMt) (d : Nat) (N : Nat × Nat × Nat × Nat) (Q : Option Value → List mC → Prop) (pc : Nat) (lv : List (Nat × Value)) (st : List Value) (w : List mC) : Prop :=
  ∀ (p : Program) (e : Env) (R : Room) (s : State) (m : MethodId) (args : Array Value) (below : List Frame) (meth : Method) (c : Code) (a : vAd) (cls : Nat → ClassId) (D : va_G) (H : Heap) (locs : List Loc) (ls : Array Slot) (QQ : State → Prop),
    vFx M d N.1 N.2.1 p R s m args meth c → vG g a cls D s s.heap → vR a cls D w s.heap H locs → vL a ls M.2.2.2.1 lv →
    (∀ (r : Option Value) (w' : List mC) (H' : Heap) (locs' : List Loc) (pc' : Nat) (ls' : Array Slot) (nc ns : Nat), nc ≤ N.1 → ns ≤ N.2.1 → Q r w' → vR a cls D w' s.heap H' locs' → vRt M pc' r → W p g.1 e R s m args below meth c H' locs' nc ns QQ (F0 m pc' ls' (r.map (trv a)).toList)) →
    W p g.1 e R s m args below meth c H locs N.2.2.1 N.2.2.2 QQ (F0 m pc ls (st.map (trv a)))
def vargs : Nat → List Value → List (Nat × Value)
  | _, [] => []
  | i, v :: vs => (i, v) :: vargs (bif Nat.beq v.category 2 then i + 2 else i + 1) vs
theorem vargs_lt : ∀ (vs : List Value) (i j : Nat) (v : Value), (j, v) ∈ vargs i vs → i ≤ j := by
  intro vs
  induction vs with
  | nil => intro i j v h; cases h
  | cons u vs ih =>
    intro i j v h
    rcases List.mem_cons.mp h with h | h
    · cases h; exact Nat.le_refl _
    · have := ih _ _ _ h
      cases hb : Nat.beq u.category 2 <;> rw [hb] at this <;> simp only [cond_true, cond_false] at this <;> omega
theorem vget_mem : ∀ (l : List (Nat × Value)) (i : Nat) (v : Value), vget l i = some v → (i, v) ∈ l := by
  intro l
  induction l with
  | nil => intro i v h; cases h
  | cons q l ih =>
    obtain ⟨j, u⟩ := q
    intro i v h
    rw [vget] at h
    cases h1 : Nat.beq j i with
    | true =>
      rw [h1] at h
      cases h
      rw [Nat.eq_of_beq_eq_true h1]
      exact List.mem_cons_self
    | false =>
      rw [h1, cond_false] at h
      cases h2 : Nat.beq (j + 1) i && Nat.beq u.category 2 with
      | true => rw [h2] at h; cases h
      | false =>
        rw [h2, cond_false] at h
        cases h3 : vget l i with
        | none => rw [h3] at h; cases h
        | some x =>
          rw [h3] at h
          cases h4 : Nat.beq (i + 1) j && Nat.beq x.category 2 with
          | true => simp only [h4, cond_true] at h; cases h
          | false =>
            simp only [h4, cond_false] at h
            cases h
            exact List.mem_cons_of_mem _ (ih i _ h3)
theorem vargs_tr (a : vAd) : ∀ (vs : List Value) (i : Nat), lv_args i (vs.map (trv a)) = (vargs i vs).map (fun q => (q.1, trv a q.2)) := by
  intro vs
  induction vs with
  | nil => intro i; rfl
  | cons u vs ih =>
    intro i
    show (i, trv a u) :: lv_args (if (trv a u).category = 2 then i + 2 else i + 1) (vs.map (trv a)) = (i, trv a u) :: (vargs (bif Nat.beq u.category 2 then i + 2 else i + 1) vs).map _
    rw [ih, trv_cat]
    by_cases h : u.category = 2
    · rw [if_pos h, h]; rfl
    · rw [if_neg h, show Nat.beq u.category 2 = false from by cases hb : Nat.beq u.category 2 with
        | true => exact absurd (Nat.eq_of_beq_eq_true hb) h
        | false => rfl]
      rfl
theorem vL_entry (a : vAd) (vs : List Value) {n : Nat} (h : (lg_sl (vs.map (trv a))).length ≤ n) : vL a ((lg_sl (vs.map (trv a)) ++ List.replicate (n - (lg_sl (vs.map (trv a))).length) Slot.unset).toArray) n (vargs 0 vs) := by
  have h1 := lv_entry (vs.map (trv a)) h
  refine ⟨⟨h1.1, h1.2.1, fun _ h => by cases h⟩, fun i v hv => ?_⟩
  have h2 := vget_mem _ _ _ hv
  exact h1.2.2 (i, trv a v) (by rw [vargs_tr]; exact List.mem_map.mpr ⟨(i, v), h2, rfl⟩)
def vSl (vs : List Value) : Nat := (vs.map (fun v => v.category)).sum
theorem vSl_eq (a : vAd) : ∀ vs : List Value, (lg_sl (vs.map (trv a))).length = vSl vs := by
  intro vs
  induction vs with
  | nil => rfl
  | cons u vs ih =>
    have e : (lg_sl (((u :: vs)).map (trv a))) = (if (trv a u).category = 2 then [Slot.val (trv a u), .second] else [.val (trv a u)]) ++ lg_sl (vs.map (trv a)) := rfl
    rw [e, List.length_append, ih, trv_cat]
    have e2 : vSl (u :: vs) = u.category + vSl vs := rfl
    rw [e2]
    rcases lv_cat u with h | h
    · rw [h]; rfl
    · rw [h]; rfl
def vWs (M : vMt) : List Cond := .code M.2.1 M.2.2.1 M.2.2.2.1 M.2.2.2.2 :: vWords
def vRm (d mc ms : Nat) : Room := { frames := d, cells := mc, slots := ms, locals := 100 * d }
def vPc (g : vGl) (a : vAd) (cls : Nat → ClassId) (D : va_G) (As : List Value) (w : List mC) : Array Value → State → Prop := fun v U => v = (As.map (trv a)).toArray ∧ vG g a cls D U U.heap ∧ vP a cls D w U.heap
def vQc (a : vAd) (cls : Nat → ClassId) (D : va_G) (Q : Option Value → List mC → Prop) : Array Value → State → Outcome → State → Prop := fun _ st o t => ∃ (r : Option Value) (w' : List mC), o = .returned (r.map (trv a)) ∧ Q r w' ∧ vP a cls D w' t.heap ∧ va_F (fun q => a.1 ≤ q) st t
/-- what a method must have to be called: its words, its number of parameters -/
def vCal (M : vMt) (n : Nat) : Prop := plainName M.2.1.cls = true ∧ M.2.1.cls = M.1 ∧ Cond.code M.2.1 M.2.2.1 M.2.2.2.1 M.2.2.2.2 ∈ vWords ∧ Cond.initialized M.2.1.cls ∈ vWords ∧ (M.2.1.cls ≠ "java/lang/invoke/MethodHandle" ∧ M.2.1.cls ≠ "java/lang/invoke/VarHandle" ∧ (parseMethodDescriptor M.2.1.desc).map (fun d => d.parameters.length) = some n) ∧ M.2.2.2.1 ≤ 80
set_option maxHeartbeats 1000000 in
theorem v_met {g : vGl} {M : vMt} {d mc ms n : Nat} {Q : Option Value → List mC → Prop} {As : List Value} {w : List mC} (a : vAd) (cls : Nat → ClassId) (D : va_G) (hc : vCal M n) (hn : vSl As ≤ M.2.2.2.1) (k : V g M d (mc, ms, 0, 0) Q 0 (vargs 0 As) [] w) :
    Met g.1 M.2.1 (vWs M) (vRm d mc ms) (vPc g a cls D As w) (vQc a cls D Q) mc ms (fun q => a.1 ≤ q) := by
  refine Met.ofW (cc := M.2.2.1) (maxL := M.2.2.2.1) (ret := M.2.2.2.2) hc.1 rfl ?_
  intro p e s m args below meth c s₁ B hml hv
  obtain ⟨rfl, hG, hP⟩ := hv
  have hts := atoms_spec (ws := vWs M) B.pre
  rw [lg_entry_eq]
  refine k p e _ s m _ below meth c a cls D s.heap [] _ _ ⟨B.exec, B.bytes, hml, ?_, fun w hw => hts w (List.mem_cons_of_mem _ hw), fun h => ((name_of_methodNamed B.named B.method).1).trans h, Nat.le_refl _, Nat.le_refl _, rfl, rfl⟩ hG ⟨hP, hG.2.2.2.2.1, va_S.rf⟩ (vL_entry a As (by rw [vSl_eq]; exact hn)) ?_
  · rw [← hc.2.1]; exact findClass_of_methodNamed B.named
  · intro r w' H' locs' pc' ls' nc ns h1 h2 hq hR hrt
    refine W.widen h1 h2 ?_
    rcases hrt with ⟨x, rfl, hd, ty, hty, hnn⟩ | ⟨x, rfl, hd, hty⟩ | ⟨rfl, hd, hty⟩
    · exact W.zret B.exec B.bytes (B.returns.trans hty) hnn (fun t ht hW => ⟨some (.int x), w', rfl, hq, by rw [ht]; exact hR.1, hR.2.2.F ht⟩) hR.2.2.2.2 hd
    · exact W.lret B.exec B.bytes (B.returns.trans hty) (fun t ht hW => ⟨some (.long x), w', rfl, hq, by rw [ht]; exact hR.1, hR.2.2.F ht⟩) hR.2.2.2.2 hd
    · exact W.vret B.exec B.bytes (B.returns.trans hty) (fun t ht hW => ⟨none, w', rfl, hq, by rw [ht]; exact hR.1, hR.2.2.F ht⟩) hR.2.2.2.2 hd
/-- behind a run of a callee -/
theorem v_back {g : vGl} {M : vMt} {d : Nat} {N : Nat × Nat × Nat × Nat} {Q : Option Value → List mC → Prop} {pc : Nat} {lv : List (Nat × Value)} {st : List Value} {mc ms : Nat} {x0 : Array Value} {sk : List Value}
    {p : Program} {e : Env} {R : Room} {s : State} {m : MethodId} {args : Array Value} {below : List Frame} {meth : Method} {c : Code} {a : vAd} {cls : Nat → ClassId} {D : va_G} {w : List mC} {H : Heap} {locs : List Loc} {ls : Array Slot} {QQ : State → Prop}
    (hF : vFx M d N.1 N.2.1 p R s m args meth c) (hG : vG g a cls D s s.heap) (hR : vR a cls D w s.heap H locs) (hl : vL a ls M.2.2.2.1 lv)
    (hr : ∀ (r : Option Value) (w' : List mC) (H' : Heap) (locs' : List Loc) (pc' : Nat) (ls' : Array Slot) (nc ns : Nat), nc ≤ N.1 → ns ≤ N.2.1 → Q r w' → vR a cls D w' s.heap H' locs' → vRt M pc' r → W p g.1 e R s m args below meth c H' locs' nc ns QQ (F0 m pc' ls' (r.map (trv a)).toList))
    (run : va_Run p g.1 e R s m args below meth c H locs N.2.2.1 N.2.2.2 mc ms (F0 m pc ls sk) (st.map (trv a)) (vQc a cls D (fun r w' => V g M d (N.1, N.2.1, N.2.2.1 + mc, N.2.2.2 + ms) Q (pc + 3) lv (r.toList ++ st) w') x0) (fun q => a.1 ≤ q)) :
    W p g.1 e R s m args below meth c H locs N.2.2.1 N.2.2.2 QQ (F0 m pc ls sk) := by
  intro T hT X
  obtain ⟨v, st₀, t, T', L, h0, X', hL, e1, e2, ⟨r, w', ho, hq, hP, hz, hk⟩, stp⟩ := run T hT X
  cases ho
  rw [h0] at hz hk
  have hS := hR.2.2
  have hS' : va_S (fun q => a.1 ≤ q) s.heap T'.heap (locs ++ L) := by
    refine ⟨Nat.le_trans hS.1 (by rw [e1]; exact hz), fun q h1 h2 => ?_, fun q hq => ?_⟩
    · rw [e1, hk q (Nat.lt_of_lt_of_le h1 hS.1) h2]; exact hS.2.1 q h1 h2
    · rcases List.mem_append.mp hq with h | h
      · exact hS.2.2 q h
      · exact hL q h
  obtain ⟨t2, a1, b1⟩ := hq p e R s m args below meth c a cls D T'.heap (locs ++ L) ls QQ hF hG ⟨by rw [e1]; exact hP, hR.2.1, hS'⟩ hl hr T' rfl X'
  refine ⟨t2, stp t2 ?_, b1⟩
  have e3 : ((r.toList ++ st).map (trv a)) = (r.map (trv a)).toList ++ st.map (trv a) := by cases r <;> simp
  rw [← e3]
  exact a1
