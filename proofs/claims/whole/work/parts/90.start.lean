def R_law : String := "StageYardLaw"
def lw_P (b : Addr) (xs : List Int32) (args : Array Value) (s : State) : Prop := args = #[.ref b] ∧ s.IntsAt b xs ∧ xs.length ≤ 3072 ∧ (Jvm.Cond.and given_1 narrow_1).before args s = true
def lw_Q (_ : Array Value) (s : State) (o : Outcome) (t : State) : Prop := o = .returned (some (.int 1)) ∧ Framed s o t [] 600000 7302250
def lw_Z (below : List Frame) (a : Array Value) (s : State) : State → Prop := fun t => ∃ o, t.status = .running ∧ Ended t below o ∧ lw_Q a s o t
/-- the law's own end, with 1 on the stack, nothing written that was there before, its room as the claim has it -/
theorem lw_ret {p : Program} {l : Launch} {e : Env} {s : State} {m : MethodId} {below : List Frame} {meth : Method} {c : Code} {b : Nat} (hx : p.tables.exec = Jvm.exec) (hb : c.code = code) (hr : meth.sig.returnType = ret) (hlocks : meth.locks = false) {pc : Nat} {H : Heap} {ls : Array Slot} (hdg : decode code pc = .ok (.ireturn, 1)) : W p l e room_1 s m #[Value.ref b] below meth c H [] 600000 7302250 (lw_Z below #[Value.ref b] s) (F0 m pc ls [.int 1]) := by
  intro T hT X
  obtain ⟨fs, hret, hrun, hended, hW, hframe⟩ := X.leave (v := some (.int 1)) (hlocks := hlocks) (fun h => by rw [hr] at h; cases h)
  have hmeth' : T.vm.method? m = some meth := X.method'
  refine ⟨T.setFrames fs, ?_, .returned (some (.int 1)), hrun, hended, rfl, ⟨_, rfl⟩, hW, hframe⟩
  jvm_step X.here [X.here.top, hx, hb, hdg, hmeth', hr, ret, narrow_b1]
  (try refine ⟨rfl, ?_⟩); (try refine ⟨rfl, ?_⟩)
  first | (intro acts; rw [hret _ acts rfl rfl rfl]) | rw [hret _ _ rfl rfl rfl]
  exact Steps.refl _
/-- what holds at the law's entry: the machine, the code, the tables' words (any of lw_tbl by 'hts w (by decide +kernel)'), the script of L ints xs at the cell b, what the Statement gives of the start (any of its parts by flat_of_before) -/
def lw_At (p : Program) (s : State) (m : MethodId) (meth : Method) (c : Code) (b L : Nat) (xs : Nat → Int32) : Prop :=
  p.tables.exec = Jvm.exec ∧ c.code = code ∧ meth.sig.returnType = ret ∧ c.maxLocals = 4 ∧ s.vm.findClass R_law = some m.cls ∧ (∀ w ∈ lw_tbl, w.before #[Value.ref b] s = true) ∧ va_X b L xs s s.heap ∧ b < s.heap.size ∧ meth.locks = false ∧ (Jvm.Cond.and given_1 narrow_1).before #[Value.ref b] s = true
theorem nw0 : Cond.methodLinkNest RX8 15 yX1_init RX8 ∈ lw_tbl := List.mem_of_getElem? (i := 56) (by decide +kernel)
theorem nw1 : Cond.methodLinkNest RX8 31 yX3_init RX8 ∈ lw_tbl := List.mem_of_getElem? (i := 141) (by decide +kernel)
theorem nw2 : Cond.methodLinkNest RX8 76 yX7_init RX8 ∈ lw_tbl := List.mem_of_getElem? (i := 312) (by decide +kernel)
theorem nw3 : Cond.methodLinkNest RX6 77 yX8_digitFor RX8 ∈ lw_tbl := List.mem_of_getElem? (i := 515) (by decide +kernel)
theorem nw4 : Cond.methodLinkNest RX0 130 yX8_digitFor RX8 ∈ lw_tbl := List.mem_of_getElem? (i := 568) (by decide +kernel)
theorem lay_LEAST : Cond.laysStatic RX8 "SETTING_LEAST" "[I" ∈ lw_tbl := List.mem_of_getElem? (i := 429) (by decide +kernel)
theorem lay_MOST : Cond.laysStatic RX8 "SETTING_MOST" "[I" ∈ lw_tbl := List.mem_of_getElem? (i := 431) (by decide +kernel)
theorem vArr {args : Array Value} {s : State} {ty : FieldType} (h : (Cond.arrayClass ty).before args s = true) : ∃ cA : ClassId, ArrOfT s cA ty ∧ s.vm.findClass ("[" ++ ty.toString) = some cA := by
  obtain ⟨cA, kA, comp, h1, h2, h3⟩ := Cond.arrayClass_spec h
  exact ⟨cA, fun n z => ⟨fun k h => (by cases h), kA, h2, comp, h3⟩, h1⟩
set_option maxHeartbeats 4000000 in
set_option maxRecDepth 100000 in
theorem whole_start_of {p : Program} {e : Env} {s : State} {m : MethodId} {below : List Frame} {meth : Method} {c : Code} (l : Launch) {b L : Nat} {xs : Nat → Int32} (C0 : lw_At p s m meth c b L xs)
    (hV : V (l, L, xs) mL_law 40 (600000, 7302250, 0, 0) (fun r _ => r = some (vi 1)) 0 [(0, .ref 0)] [] []) :
    W p l e room_1 s m #[Value.ref b] below meth c s.heap [] 0 0 (lw_Z below #[Value.ref b] s) (entryFrame m ([Value.ref b] : List Value).toArray 4) := by
  obtain ⟨hx, hb, hr, hml, hown, hts, hX, hbl, hlocks, hgv⟩ := id C0
  have hw : ∀ w ∈ vWords, w.before #[Value.ref b] s = true := fun w h => hts w (List.mem_filter.mp h).1
  obtain ⟨c0, iS0, hKn0⟩ := u_known (C := RX0) (T := TX0) (N := 14) (n := 14) hts inX0 (hw _ in_X0)
  obtain ⟨c1, iS1, hKn1⟩ := u_known (C := RX1) (T := TX1) (N := 7) (n := 7) hts inX1 (hw _ in_X1)
  obtain ⟨c2, iS2, hKn2⟩ := u_known (C := RX2) (T := TX2) (N := 14) (n := 14) hts inX2 (hw _ in_X2)
  obtain ⟨c3, iS3, hKn3⟩ := u_known (C := RX3) (T := TX3) (N := 3) (n := 3) hts inX3 (hw _ in_X3)
  obtain ⟨c4, iS4, hKn4⟩ := u_known (C := RX4) (T := TX4) (N := 7) (n := 7) hts inX4 (hw _ in_X4)
  obtain ⟨c5, iS5, hKn5⟩ := u_known (C := RX5) (T := TX5) (N := 2) (n := 2) hts inX5 (hw _ in_X5)
  obtain ⟨c6, iS6, hKn6⟩ := u_known (C := RX6) (T := TX6) (N := 7) (n := 7) hts inX6 (hw _ in_X6)
  obtain ⟨c7, iS7, hKn7⟩ := u_known (C := RX7) (T := TX7) (N := 9) (n := 9) hts inX7 (hw _ in_X7)
  obtain ⟨c8, iS8, hKn8⟩ := u_known (C := RX8) (T := TX8) (N := 11) (n := 11) hts inX8 (hw _ in_X8)
  obtain ⟨c9, iS9, hKn9⟩ := u_known (C := RX9) (T := TX9) (N := 47) (n := 47) hts inX9 (hw _ in_X9)
  obtain ⟨dC, dI, hKc⟩ : ∃ (dC : Nat → ClassId) (dI : Nat → Nat → Nat), ∀ (k : Nat) (q : vw_C), vwCl[k]? = some q → u_Kn s q.1 q.2.1 q.2.2 (dC k) (dI k) := by
    refine ⟨fun k => match k with | 0 => c0 | 1 => c1 | 2 => c2 | 3 => c3 | 4 => c4 | 5 => c5 | 6 => c6 | 7 => c7 | 8 => c8 | _ => c9, fun k => match k with | 0 => iS0 | 1 => iS1 | 2 => iS2 | 3 => iS3 | 4 => iS4 | 5 => iS5 | 6 => iS6 | 7 => iS7 | 8 => iS8 | _ => iS9, ?_⟩
    intro k q hq
    match k, hq with
    | 0, hq => cases hq; exact hKn0
    | 1, hq => cases hq; exact hKn1
    | 2, hq => cases hq; exact hKn2
    | 3, hq => cases hq; exact hKn3
    | 4, hq => cases hq; exact hKn4
    | 5, hq => cases hq; exact hKn5
    | 6, hq => cases hq; exact hKn6
    | 7, hq => cases hq; exact hKn7
    | 8, hq => cases hq; exact hKn8
    | 9, hq => cases hq; exact hKn9
    | k + 10, hq => simp [vwCl] at hq
  obtain ⟨cI, hI1, hI2⟩ := vArr (hw _ ac_int)
  obtain ⟨cJ, hJ1, hJ2⟩ := vArr (hw _ ac_long)
  obtain ⟨cZ, hZ1, hZ2⟩ := vArr (hw _ ac_boolean)
  have hg := flat_of_before _ hgv
  have hA : ∀ q : Nat, q < s.heap.size → ¬ (fun q : Nat => s.heap.size ≤ q) q := fun q h => Nat.not_le.mpr h
  obtain ⟨t1, ht1, hT1⟩ := va_Tof (tm := .static RX8 "SETTING_LEAST" "[I") (ty := .int) (N := 3) (f := vLeast) (A := fun q => s.heap.size ≤ q) (args := #[Value.ref b]) (s := s) (by decide) (hg _ (by decide +kernel)) (va_eqt (hg _ (by decide +kernel))) (fun j hj => by
    match j, hj with
    | 0, _ => exact va_eqt (hg _ (by decide +kernel))
    | 1, _ => exact va_eqt (hg _ (by decide +kernel))
    | 2, _ => exact va_eqt (hg _ (by decide +kernel))) hA
  obtain ⟨t2, ht2, hT2⟩ := va_Tof (tm := .static RX8 "SETTING_MOST" "[I") (ty := .int) (N := 3) (f := vMost) (A := fun q => s.heap.size ≤ q) (args := #[Value.ref b]) (s := s) (by decide) (hg _ (by decide +kernel)) (va_eqt (hg _ (by decide +kernel))) (fun j hj => by
    match j, hj with
    | 0, _ => exact va_eqt (hg _ (by decide +kernel))
    | 1, _ => exact va_eqt (hg _ (by decide +kernel))
    | 2, _ => exact va_eqt (hg _ (by decide +kernel))) hA
  have z1 := va_Zof (A := fun q => s.heap.size ≤ q) (hts _ lay_LEAST) (hw _ it_X8) ht1 hA
  have z2 := va_Zof (A := fun q => s.heap.size ≤ q) (hts _ lay_MOST) (hw _ it_X8) ht2 hA
  have hK : va_K (dC, dI) vwCl (vTy (fun k => match k with | 0 => cI | 1 => cJ | _ => cZ)) s := by
    refine ⟨hKc, fun k q hq => ?_⟩
    match k, hq with
    | 0, hq => cases hq; exact ⟨hI1, hI2⟩
    | 1, hq => cases hq; exact ⟨hJ1, hJ2⟩
    | 2, hq => cases hq; exact ⟨hZ1, hZ2⟩
    | k + 3, hq => simp [vTy] at hq
  have hN : ∀ own idx y, vNest own idx y → va_Nw (.methodLinkNest own idx y RX8) s := by
    intro own idx y h
    rcases h with ⟨rfl, rfl, rfl⟩ | ⟨rfl, rfl, rfl⟩ | ⟨rfl, rfl, rfl⟩ | ⟨rfl, rfl, rfl⟩ | ⟨rfl, rfl, rfl⟩
    · exact va_Nw.of rfl (hts _ nw0)
    · exact va_Nw.of rfl (hts _ nw1)
    · exact va_Nw.of rfl (hts _ nw2)
    · exact va_Nw.of rfl (hts _ nw3)
    · exact va_Nw.of rfl (hts _ nw4)
  rw [lg_entry_eq]
  refine hV p e room_1 s m #[Value.ref b] below meth c (s.heap.size, b, t1, t2) (fun k => match k with | 0 => cI | 1 => cJ | _ => cZ) (dC, dI) s.heap [] _ _ ⟨hx, hb, hml, hown, hw, fun h => absurd h (by decide), by decide, by decide, rfl, rfl⟩ ⟨hK, hN, hX, hbl, Nat.le_refl _, ⟨z1, hT1⟩, z2, hT2⟩ ⟨⟨rfl, fun k e h => by simp at h⟩, Nat.le_refl _, va_S.rf⟩ (vL_entry (s.heap.size, b, t1, t2) [.ref 0] (by rw [vSl_eq]; decide)) ?_
  intro r w' H' locs' pc' ls' nc ns h1 h2 hq hR hrt
  subst hq
  rcases hrt with ⟨z, e1, hd, -⟩ | ⟨z, e1, -⟩ | ⟨e1, -⟩
  · refine va_forget (fun q hq => hR.2.2.2.2 q hq) ?_
    refine W.widen (k := 600000) (n := 7302250) h1 h2 ?_
    exact lw_ret hx hb hr hlocks hd
  · cases e1
  · cases e1
