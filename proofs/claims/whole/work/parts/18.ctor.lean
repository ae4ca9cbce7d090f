section CTOR
variable {g : vGl} {M : vMt} {d : Nat} {N : Nat × Nat × Nat × Nat} {Q : Option Value → List mC → Prop} {pc : Nat} {lv : List (Nat × Value)} {st : List Value} {W0 l : List mC} {n : Nat}
theorem pw_get {i : Nat} (hn : W0.length = n) : (W0 ++ l)[n + i]? = l[i]? := by
  subst hn
  rw [List.getElem?_append_right (by omega), Nat.add_sub_cancel_left]
theorem pw_set {i : Nat} {x : mC} (hn : W0.length = n) : (W0 ++ l).set (n + i) x = W0 ++ l.set i x := by
  subst hn
  rw [List.set_append_right _ _ (by omega), Nat.add_sub_cancel_left]
theorem v_kG (i : Nat) {ci k0 idx : Nat} {fs : List Value} {ds : String} {fin : Bool} {v : Value} (hn : W0.length = n) (hd : decode M.2.2.1 pc = .ok (.getfield idx, 3)) (hf : vFl M.1 idx ci k0 ds fin) (hi : l[i]? = some (.inr (ci, fs))) (hv : fs[k0]? = some v) (k : V g M d N Q (pc + 3) lv (v :: st) (W0 ++ l)) : V g M d N Q pc lv (.ref (n + i + 1) :: st) (W0 ++ l) :=
  v_getf hd hf (by rw [pw_get hn]; exact hi) hv k
theorem v_kP (i : Nat) (l' : List mC) {ci k0 idx : Nat} {fs : List Value} {x : Int} (hn : W0.length = n) (hd : decode M.2.2.1 pc = .ok (.putfield idx, 3)) (hf : vFl M.1 idx ci k0 "I" false) (hi : l[i]? = some (.inr (ci, fs))) (hlen : k0 < fs.length) (hs : l.set i (.inr (ci, fs.set k0 (vi x))) = l') (k : V g M d N Q (pc + 3) lv st (W0 ++ l')) : V g M d N Q pc lv (vi x :: .ref (n + i + 1) :: st) (W0 ++ l) := by
  subst hs
  refine v_putf (ty := .int) hd hf (by rw [pw_get hn]; exact hi) (by decide +kernel) (fun _ => rfl) (fun _ => rfl) hlen ?_
  rw [pw_set hn]
  exact k
theorem v_kZ (i : Nat) (l' : List mC) {ci k0 idx : Nat} {fs : List Value} (hn : W0.length = n) (hd : decode M.2.2.1 pc = .ok (.putfield idx, 3)) (hf : vFl M.1 idx ci k0 "Z" false) (hi : l[i]? = some (.inr (ci, fs))) (hlen : k0 < fs.length) (hs : l.set i (.inr (ci, fs.set k0 (vi 0))) = l') (k : V g M d N Q (pc + 3) lv st (W0 ++ l')) : V g M d N Q pc lv (vi 0 :: .ref (n + i + 1) :: st) (W0 ++ l) := by
  subst hs
  refine v_putf (ty := .boolean) hd hf (by rw [pw_get hn]; exact hi) (by decide +kernel) (fun _ => vZ (Or.inl rfl)) (fun _ => by show fits .boolean (.int _) = true; decide) hlen ?_
  rw [pw_set hn]
  exact k
theorem v_kF (i : Nat) (l' : List mC) {ci k0 idx q : Nat} {fs : List Value} {ds : String} {ty : FieldType} (hn : W0.length = n) (hd : decode M.2.2.1 pc = .ok (.putfield idx, 3)) (hf : vFl M.1 idx ci k0 ds true) (hini : M.2.1.name = "<init>") (hdecl : ∀ C T m, vwCl[ci]? = some (C, T, m) → C = M.1) (hty : parseFieldDescriptor ds = some ty) (hnar : ∀ y, narrow ty (.ref y) = .ref y ∧ fits ty (.ref y) = true) (hi : l[i]? = some (.inr (ci, fs))) (hlen : k0 < fs.length) (hs : l.set i (.inr (ci, fs.set k0 (.ref q))) = l') (k : V g M d N Q (pc + 3) lv st (W0 ++ l')) : V g M d N Q pc lv (.ref q :: .ref (n + i + 1) :: st) (W0 ++ l) := by
  subst hs
  refine v_putF hd hf hini hdecl (by rw [pw_get hn]; exact hi) hty (fun a => ?_) (fun a => ?_) hlen ?_
  · obtain ⟨y, hy⟩ := trv_ref a q
    rw [hy]; exact (hnar y).1
  · obtain ⟨y, hy⟩ := trv_ref a q
    rw [hy]; exact (hnar y).2
  · rw [pw_set hn]
    exact k
theorem v_kS (i : Nat) (l' : List mC) {m j : Nat} {f : Nat → Int32} {x y : Int} (hn : W0.length = n) (hd : decode M.2.2.1 pc = .ok (.iastore, 1)) (hi : l[i]? = some (.inl (0, m, .inl f))) (hj : x.toNat = j) (hx : 0 ≤ x) (hx2 : x < m) (hm : m ≤ 2147483647) (hs : l.set i (.inl (0, m, .inl (upd f j (Int32.ofInt y)))) = l') (k : V g M d N Q (pc + 1) lv st (W0 ++ l')) : V g M d N Q pc lv (vi y :: vi x :: .ref (n + i + 1) :: st) (W0 ++ l) := by
  subst hs
  subst hj
  refine v_iast hd (by rw [pw_get hn]; exact hi) hx hx2 hm ?_
  rw [pw_set hn]
  exact k
theorem v_kI (m : Nat) (l' : List mC) {x : Int} {z : Nat} (hn : W0.length = n) (hm : l.length = m) (hd : decode M.2.2.1 pc = .ok (.newarray .int, 2)) (hw : Cond.arrayClass .int ∈ vWords) (hx : x = z) (hz : z ≤ 100000) (hN : N.2.2.1 + 1 ≤ N.1 ∧ N.2.2.2 + z ≤ N.2.1) (hs : l ++ [.inl (0, z, .inl (fun _ => 0))] = l') (k : V g M d (N.1, N.2.1, N.2.2.1 + 1, N.2.2.2 + z) Q (pc + 2) lv (.ref (n + m + 1) :: st) (W0 ++ l')) : V g M d N Q pc lv (vi x :: st) (W0 ++ l) := by
  subst hs
  refine v_newI hd hw hx hz hN ?_
  rw [List.length_append, hn, hm, List.append_assoc]
  exact k
theorem v_kJ (m : Nat) (l' : List mC) {x : Int} {z : Nat} (hn : W0.length = n) (hm : l.length = m) (hd : decode M.2.2.1 pc = .ok (.newarray .long, 2)) (hw : Cond.arrayClass .long ∈ vWords) (hx : x = z) (hz : z ≤ 100000) (hN : N.2.2.1 + 1 ≤ N.1 ∧ N.2.2.2 + z ≤ N.2.1) (hs : l ++ [.inl (1, z, .inr (.inl (fun _ => 0)))] = l') (k : V g M d (N.1, N.2.1, N.2.2.1 + 1, N.2.2.2 + z) Q (pc + 2) lv (.ref (n + m + 1) :: st) (W0 ++ l')) : V g M d N Q pc lv (vi x :: st) (W0 ++ l) := by
  subst hs
  refine v_newJ hd hw hx hz hN ?_
  rw [List.length_append, hn, hm, List.append_assoc]
  exact k
theorem v_kB (m : Nat) (l' : List mC) {x : Int} {z : Nat} (hn : W0.length = n) (hm : l.length = m) (hd : decode M.2.2.1 pc = .ok (.newarray .boolean, 2)) (hw : Cond.arrayClass .boolean ∈ vWords) (hx : x = z) (hz : z ≤ 100000) (hN : N.2.2.1 + 1 ≤ N.1 ∧ N.2.2.2 + z ≤ N.2.1) (hs : l ++ [.inl (2, z, .inl (fun _ => 0))] = l') (k : V g M d (N.1, N.2.1, N.2.2.1 + 1, N.2.2.2 + z) Q (pc + 2) lv (.ref (n + m + 1) :: st) (W0 ++ l')) : V g M d N Q pc lv (vi x :: st) (W0 ++ l) := by
  subst hs
  refine v_newZ hd hw hx hz hN ?_
  rw [List.length_append, hn, hm, List.append_assoc]
  exact k
theorem v_kN (m : Nat) (l' : List mC) {ci idx z : Nat} {C : String} {T : u_T} {fs : List Value} (hn : W0.length = n) (hm : l.length = m) (hd : decode M.2.2.1 pc = .ok (.new idx, 3)) (hc : vwCl[ci]? = some (C, T, z)) (hcl : Cond.classLink M.1 idx C ∈ vWords) (hins : Cond.instantiable C z ∈ vWords) (hini : Cond.initialized C ∈ vWords) (ty : Nat → FieldType) (hty : ∀ k, k < z → parseFieldDescriptor (T k).2.2.1 = some (ty k)) (hfs : ∀ a j, j < z → defaultValue (ty j) = vp_V (fs.map (trv a)) j) (hN : N.2.2.1 + 1 ≤ N.1 ∧ N.2.2.2 + z ≤ N.2.1) (hs : l ++ [.inr (ci, fs)] = l') (k : V g M d (N.1, N.2.1, N.2.2.1 + 1, N.2.2.2 + z) Q (pc + 3) lv (.ref (n + m + 1) :: st) (W0 ++ l')) : V g M d N Q pc lv st (W0 ++ l) := by
  subst hs
  refine v_new hd hc hcl hins hini ty hty hfs hN ?_
  rw [List.length_append, hn, hm, List.append_assoc]
  exact k
end CTOR
set_option maxHeartbeats 4000000 in
set_option maxRecDepth 100000 in
theorem c_X1_init {g : vGl} {d : Nat} {Q : Option Value → List mC → Prop} {W0 : List mC} {n : Nat} (hn : W0.length = n) (hd : 1 ≤ d) (hQ : Q none (W0 ++ [.inr (1, [.ref (n + 2), .ref (n + 3), .ref (n + 4), .ref (n + 5), .ref (n + 6), .ref (n + 7), vi (0)]), .inl (0, 6, .inl (fun _ => 0)), .inl (0, 6, .inl (fun _ => 0)), .inl (0, 6, .inl (fun _ => 0)), .inl (0, 6, .inl (fun _ => 0)), .inl (0, 6, .inl (fun _ => 0)), .inl (0, 6, .inl (fun _ => 0))])) : V g mX1_init d (6, 36, 0, 0) Q 0 [(0, .ref (n + 1))] [] (W0 ++ [.inr (1, [.null, .null, .null, .null, .null, .null, .int 0])]) := by
  refine v_aload_n (pc := 0) dX1_init_0 rfl ?_
  refine v_objInit (pc := 1) dX1_init_1 ml_X1_3 iw_obj co_obj (Nat.le_of_ble_eq_true rfl) (by omega) ?_
  refine v_aload_n (pc := 4) dX1_init_4 rfl ?_
  refine v_bipush (pc := 5) (6) dX1_init_5 (by decide) ?_
  refine v_kI (n := n) 1 [.inr (1, [.null, .null, .null, .null, .null, .null, .int 0]), .inl (0, 6, .inl (fun _ => 0))] (pc := 7) hn  rfl dX1_init_7 ac_int rfl (by decide) (by decide) rfl ?_
  refine v_kF (ty := (.array .int)) (n := n) 0 [.inr (1, [.ref (n + 2), .null, .null, .null, .null, .null, .int 0]), .inl (0, 6, .inl (fun _ => 0))] (pc := 9) hn dX1_init_9 fl_X1_9 rfl (fun C T m h => by cases h; rfl) (by decide +kernel) (fun y => ⟨rfl, rfl⟩) rfl (Nat.le_of_ble_eq_true rfl) rfl ?_
  refine v_aload_n (pc := 12) dX1_init_12 rfl ?_
  refine v_bipush (pc := 13) (6) dX1_init_13 (by decide) ?_
  refine v_kI (n := n) 2 [.inr (1, [.ref (n + 2), .null, .null, .null, .null, .null, .int 0]), .inl (0, 6, .inl (fun _ => 0)), .inl (0, 6, .inl (fun _ => 0))] (pc := 15) hn  rfl dX1_init_15 ac_int rfl (by decide) (by decide) rfl ?_
  refine v_kF (ty := (.array .int)) (n := n) 0 [.inr (1, [.ref (n + 2), .ref (n + 3), .null, .null, .null, .null, .int 0]), .inl (0, 6, .inl (fun _ => 0)), .inl (0, 6, .inl (fun _ => 0))] (pc := 17) hn dX1_init_17 fl_X1_15 rfl (fun C T m h => by cases h; rfl) (by decide +kernel) (fun y => ⟨rfl, rfl⟩) rfl (Nat.le_of_ble_eq_true rfl) rfl ?_
  refine v_aload_n (pc := 20) dX1_init_20 rfl ?_
  refine v_bipush (pc := 21) (6) dX1_init_21 (by decide) ?_
  refine v_kI (n := n) 3 [.inr (1, [.ref (n + 2), .ref (n + 3), .null, .null, .null, .null, .int 0]), .inl (0, 6, .inl (fun _ => 0)), .inl (0, 6, .inl (fun _ => 0)), .inl (0, 6, .inl (fun _ => 0))] (pc := 23) hn  rfl dX1_init_23 ac_int rfl (by decide) (by decide) rfl ?_
  refine v_kF (ty := (.array .int)) (n := n) 0 [.inr (1, [.ref (n + 2), .ref (n + 3), .ref (n + 4), .null, .null, .null, .int 0]), .inl (0, 6, .inl (fun _ => 0)), .inl (0, 6, .inl (fun _ => 0)), .inl (0, 6, .inl (fun _ => 0))] (pc := 25) hn dX1_init_25 fl_X1_18 rfl (fun C T m h => by cases h; rfl) (by decide +kernel) (fun y => ⟨rfl, rfl⟩) rfl (Nat.le_of_ble_eq_true rfl) rfl ?_
  refine v_aload_n (pc := 28) dX1_init_28 rfl ?_
  refine v_bipush (pc := 29) (6) dX1_init_29 (by decide) ?_
  refine v_kI (n := n) 4 [.inr (1, [.ref (n + 2), .ref (n + 3), .ref (n + 4), .null, .null, .null, .int 0]), .inl (0, 6, .inl (fun _ => 0)), .inl (0, 6, .inl (fun _ => 0)), .inl (0, 6, .inl (fun _ => 0)), .inl (0, 6, .inl (fun _ => 0))] (pc := 31) hn  rfl dX1_init_31 ac_int rfl (by decide) (by decide) rfl ?_
  refine v_kF (ty := (.array .int)) (n := n) 0 [.inr (1, [.ref (n + 2), .ref (n + 3), .ref (n + 4), .ref (n + 5), .null, .null, .int 0]), .inl (0, 6, .inl (fun _ => 0)), .inl (0, 6, .inl (fun _ => 0)), .inl (0, 6, .inl (fun _ => 0)), .inl (0, 6, .inl (fun _ => 0))] (pc := 33) hn dX1_init_33 fl_X1_21 rfl (fun C T m h => by cases h; rfl) (by decide +kernel) (fun y => ⟨rfl, rfl⟩) rfl (Nat.le_of_ble_eq_true rfl) rfl ?_
  refine v_aload_n (pc := 36) dX1_init_36 rfl ?_
  refine v_bipush (pc := 37) (6) dX1_init_37 (by decide) ?_
  refine v_kI (n := n) 5 [.inr (1, [.ref (n + 2), .ref (n + 3), .ref (n + 4), .ref (n + 5), .null, .null, .int 0]), .inl (0, 6, .inl (fun _ => 0)), .inl (0, 6, .inl (fun _ => 0)), .inl (0, 6, .inl (fun _ => 0)), .inl (0, 6, .inl (fun _ => 0)), .inl (0, 6, .inl (fun _ => 0))] (pc := 39) hn  rfl dX1_init_39 ac_int rfl (by decide) (by decide) rfl ?_
  refine v_kF (ty := (.array .int)) (n := n) 0 [.inr (1, [.ref (n + 2), .ref (n + 3), .ref (n + 4), .ref (n + 5), .ref (n + 6), .null, .int 0]), .inl (0, 6, .inl (fun _ => 0)), .inl (0, 6, .inl (fun _ => 0)), .inl (0, 6, .inl (fun _ => 0)), .inl (0, 6, .inl (fun _ => 0)), .inl (0, 6, .inl (fun _ => 0))] (pc := 41) hn dX1_init_41 fl_X1_24 rfl (fun C T m h => by cases h; rfl) (by decide +kernel) (fun y => ⟨rfl, rfl⟩) rfl (Nat.le_of_ble_eq_true rfl) rfl ?_
  refine v_aload_n (pc := 44) dX1_init_44 rfl ?_
  refine v_bipush (pc := 45) (6) dX1_init_45 (by decide) ?_
  refine v_kI (n := n) 6 [.inr (1, [.ref (n + 2), .ref (n + 3), .ref (n + 4), .ref (n + 5), .ref (n + 6), .null, .int 0]), .inl (0, 6, .inl (fun _ => 0)), .inl (0, 6, .inl (fun _ => 0)), .inl (0, 6, .inl (fun _ => 0)), .inl (0, 6, .inl (fun _ => 0)), .inl (0, 6, .inl (fun _ => 0)), .inl (0, 6, .inl (fun _ => 0))] (pc := 47) hn  rfl dX1_init_47 ac_int rfl (by decide) (by decide) rfl ?_
  refine v_kF (ty := (.array .int)) (n := n) 0 [.inr (1, [.ref (n + 2), .ref (n + 3), .ref (n + 4), .ref (n + 5), .ref (n + 6), .ref (n + 7), .int 0]), .inl (0, 6, .inl (fun _ => 0)), .inl (0, 6, .inl (fun _ => 0)), .inl (0, 6, .inl (fun _ => 0)), .inl (0, 6, .inl (fun _ => 0)), .inl (0, 6, .inl (fun _ => 0)), .inl (0, 6, .inl (fun _ => 0))] (pc := 49) hn dX1_init_49 fl_X1_27 rfl (fun C T m h => by cases h; rfl) (by decide +kernel) (fun y => ⟨rfl, rfl⟩) rfl (Nat.le_of_ble_eq_true rfl) rfl ?_
  refine v_aload_n (pc := 52) dX1_init_52 rfl ?_
  refine v_iconst (pc := 53) (0) dX1_init_53 (by decide) ?_
  refine v_kP (n := n) 0 [.inr (1, [.ref (n + 2), .ref (n + 3), .ref (n + 4), .ref (n + 5), .ref (n + 6), .ref (n + 7), vi (0)]), .inl (0, 6, .inl (fun _ => 0)), .inl (0, 6, .inl (fun _ => 0)), .inl (0, 6, .inl (fun _ => 0)), .inl (0, 6, .inl (fun _ => 0)), .inl (0, 6, .inl (fun _ => 0)), .inl (0, 6, .inl (fun _ => 0))] (pc := 54) hn dX1_init_54 fl_X1_30 rfl (Nat.le_of_ble_eq_true rfl) rfl ?_
  refine v_return (pc := 57) dX1_init_57 rfl (by decide) ?_
  exact hQ
set_option maxHeartbeats 4000000 in
set_option maxRecDepth 100000 in
theorem c_X4_init {g : vGl} {d : Nat} {Q : Option Value → List mC → Prop} {W0 : List mC} {n q1 q2 : Nat} (hn : W0.length = n) (hd : 1 ≤ d) (hQ : Q none (W0 ++ [.inr (4, [.ref q1, .ref q2, .ref (n + 2), .ref (n + 3), .ref (n + 4), .ref (n + 5), vi (0)]), .inl (0, 4, .inl (fun _ => 0)), .inl (0, 4, .inl (fun _ => 0)), .inl (0, 4, .inl (fun _ => 0)), .inl (0, 4, .inl (fun _ => 0))])) : V g mX4_init d (4, 16, 0, 0) Q 0 [(0, .ref (n + 1)), (1, .ref q1), (2, .ref q2)] [] (W0 ++ [.inr (4, [.null, .null, .null, .null, .null, .null, .int 0])]) := by
  refine v_aload_n (pc := 0) dX4_init_0 rfl ?_
  refine v_objInit (pc := 1) dX4_init_1 ml_X4_3 iw_obj co_obj (Nat.le_of_ble_eq_true rfl) (by omega) ?_
  refine v_aload_n (pc := 4) dX4_init_4 rfl ?_
  refine v_iconst (pc := 5) (4) dX4_init_5 (by decide) ?_
  refine v_kI (n := n) 1 [.inr (4, [.null, .null, .null, .null, .null, .null, .int 0]), .inl (0, 4, .inl (fun _ => 0))] (pc := 6) hn  rfl dX4_init_6 ac_int rfl (by decide) (by decide) rfl ?_
  refine v_kF (ty := (.array .int)) (n := n) 0 [.inr (4, [.null, .null, .ref (n + 2), .null, .null, .null, .int 0]), .inl (0, 4, .inl (fun _ => 0))] (pc := 8) hn dX4_init_8 fl_X4_9 rfl (fun C T m h => by cases h; rfl) (by decide +kernel) (fun y => ⟨rfl, rfl⟩) rfl (Nat.le_of_ble_eq_true rfl) rfl ?_
  refine v_aload_n (pc := 11) dX4_init_11 rfl ?_
  refine v_iconst (pc := 12) (4) dX4_init_12 (by decide) ?_
  refine v_kI (n := n) 2 [.inr (4, [.null, .null, .ref (n + 2), .null, .null, .null, .int 0]), .inl (0, 4, .inl (fun _ => 0)), .inl (0, 4, .inl (fun _ => 0))] (pc := 13) hn  rfl dX4_init_13 ac_int rfl (by decide) (by decide) rfl ?_
  refine v_kF (ty := (.array .int)) (n := n) 0 [.inr (4, [.null, .null, .ref (n + 2), .ref (n + 3), .null, .null, .int 0]), .inl (0, 4, .inl (fun _ => 0)), .inl (0, 4, .inl (fun _ => 0))] (pc := 15) hn dX4_init_15 fl_X4_15 rfl (fun C T m h => by cases h; rfl) (by decide +kernel) (fun y => ⟨rfl, rfl⟩) rfl (Nat.le_of_ble_eq_true rfl) rfl ?_
  refine v_aload_n (pc := 18) dX4_init_18 rfl ?_
  refine v_iconst (pc := 19) (4) dX4_init_19 (by decide) ?_
  refine v_kI (n := n) 3 [.inr (4, [.null, .null, .ref (n + 2), .ref (n + 3), .null, .null, .int 0]), .inl (0, 4, .inl (fun _ => 0)), .inl (0, 4, .inl (fun _ => 0)), .inl (0, 4, .inl (fun _ => 0))] (pc := 20) hn  rfl dX4_init_20 ac_int rfl (by decide) (by decide) rfl ?_
  refine v_kF (ty := (.array .int)) (n := n) 0 [.inr (4, [.null, .null, .ref (n + 2), .ref (n + 3), .ref (n + 4), .null, .int 0]), .inl (0, 4, .inl (fun _ => 0)), .inl (0, 4, .inl (fun _ => 0)), .inl (0, 4, .inl (fun _ => 0))] (pc := 22) hn dX4_init_22 fl_X4_18 rfl (fun C T m h => by cases h; rfl) (by decide +kernel) (fun y => ⟨rfl, rfl⟩) rfl (Nat.le_of_ble_eq_true rfl) rfl ?_
  refine v_aload_n (pc := 25) dX4_init_25 rfl ?_
  refine v_iconst (pc := 26) (4) dX4_init_26 (by decide) ?_
  refine v_kI (n := n) 4 [.inr (4, [.null, .null, .ref (n + 2), .ref (n + 3), .ref (n + 4), .null, .int 0]), .inl (0, 4, .inl (fun _ => 0)), .inl (0, 4, .inl (fun _ => 0)), .inl (0, 4, .inl (fun _ => 0)), .inl (0, 4, .inl (fun _ => 0))] (pc := 27) hn  rfl dX4_init_27 ac_int rfl (by decide) (by decide) rfl ?_
  refine v_kF (ty := (.array .int)) (n := n) 0 [.inr (4, [.null, .null, .ref (n + 2), .ref (n + 3), .ref (n + 4), .ref (n + 5), .int 0]), .inl (0, 4, .inl (fun _ => 0)), .inl (0, 4, .inl (fun _ => 0)), .inl (0, 4, .inl (fun _ => 0)), .inl (0, 4, .inl (fun _ => 0))] (pc := 29) hn dX4_init_29 fl_X4_21 rfl (fun C T m h => by cases h; rfl) (by decide +kernel) (fun y => ⟨rfl, rfl⟩) rfl (Nat.le_of_ble_eq_true rfl) rfl ?_
  refine v_aload_n (pc := 32) dX4_init_32 rfl ?_
  refine v_iconst (pc := 33) (0) dX4_init_33 (by decide) ?_
  refine v_kP (n := n) 0 [.inr (4, [.null, .null, .ref (n + 2), .ref (n + 3), .ref (n + 4), .ref (n + 5), vi (0)]), .inl (0, 4, .inl (fun _ => 0)), .inl (0, 4, .inl (fun _ => 0)), .inl (0, 4, .inl (fun _ => 0)), .inl (0, 4, .inl (fun _ => 0))] (pc := 34) hn dX4_init_34 fl_X4_24 rfl (Nat.le_of_ble_eq_true rfl) rfl ?_
  refine v_aload_n (pc := 37) dX4_init_37 rfl ?_
  refine v_aload_n (pc := 38) dX4_init_38 rfl ?_
  refine v_kF (ty := (.object "StageYard$Engines")) (n := n) 0 [.inr (4, [.ref q1, .null, .ref (n + 2), .ref (n + 3), .ref (n + 4), .ref (n + 5), vi (0)]), .inl (0, 4, .inl (fun _ => 0)), .inl (0, 4, .inl (fun _ => 0)), .inl (0, 4, .inl (fun _ => 0)), .inl (0, 4, .inl (fun _ => 0))] (pc := 39) hn dX4_init_39 fl_X4_28 rfl (fun C T m h => by cases h; rfl) (by decide +kernel) (fun y => ⟨rfl, rfl⟩) rfl (Nat.le_of_ble_eq_true rfl) rfl ?_
  refine v_aload_n (pc := 42) dX4_init_42 rfl ?_
  refine v_aload_n (pc := 43) dX4_init_43 rfl ?_
  refine v_kF (ty := (.array .int)) (n := n) 0 [.inr (4, [.ref q1, .ref q2, .ref (n + 2), .ref (n + 3), .ref (n + 4), .ref (n + 5), vi (0)]), .inl (0, 4, .inl (fun _ => 0)), .inl (0, 4, .inl (fun _ => 0)), .inl (0, 4, .inl (fun _ => 0)), .inl (0, 4, .inl (fun _ => 0))] (pc := 44) hn dX4_init_44 fl_X4_32 rfl (fun C T m h => by cases h; rfl) (by decide +kernel) (fun y => ⟨rfl, rfl⟩) rfl (Nat.le_of_ble_eq_true rfl) rfl ?_
  refine v_return (pc := 47) dX4_init_47 rfl (by decide) ?_
  exact hQ
set_option maxHeartbeats 4000000 in
set_option maxRecDepth 100000 in
theorem c_X3_init {g : vGl} {d : Nat} {Q : Option Value → List mC → Prop} {W0 : List mC} {n : Nat} (hn : W0.length = n) (hd : 1 ≤ d) (hQ : Q none (W0 ++ [.inr (3, [.ref (n + 2), vi (0), vi (0)]), .inl (0, 1492, .inl (fun _ => 0))])) : V g mX3_init d (1, 1492, 0, 0) Q 0 [(0, .ref (n + 1))] [] (W0 ++ [.inr (3, [.null, .int 0, .int 0])]) := by
  refine v_aload_n (pc := 0) dX3_init_0 rfl ?_
  refine v_objInit (pc := 1) dX3_init_1 ml_X3_3 iw_obj co_obj (Nat.le_of_ble_eq_true rfl) (by omega) ?_
  refine v_aload_n (pc := 4) dX3_init_4 rfl ?_
  refine v_sipush (pc := 5) (1492) dX3_init_5 (by decide) ?_
  refine v_kI (n := n) 1 [.inr (3, [.null, .int 0, .int 0]), .inl (0, 1492, .inl (fun _ => 0))] (pc := 8) hn  rfl dX3_init_8 ac_int rfl (by decide) (by decide) rfl ?_
  refine v_kF (ty := (.array .int)) (n := n) 0 [.inr (3, [.ref (n + 2), .int 0, .int 0]), .inl (0, 1492, .inl (fun _ => 0))] (pc := 10) hn dX3_init_10 fl_X3_11 rfl (fun C T m h => by cases h; rfl) (by decide +kernel) (fun y => ⟨rfl, rfl⟩) rfl (Nat.le_of_ble_eq_true rfl) rfl ?_
  refine v_aload_n (pc := 13) dX3_init_13 rfl ?_
  refine v_iconst (pc := 14) (0) dX3_init_14 (by decide) ?_
  refine v_kP (n := n) 0 [.inr (3, [.ref (n + 2), vi (0), .int 0]), .inl (0, 1492, .inl (fun _ => 0))] (pc := 15) hn dX3_init_15 fl_X3_15 rfl (Nat.le_of_ble_eq_true rfl) rfl ?_
  refine v_aload_n (pc := 18) dX3_init_18 rfl ?_
  refine v_iconst (pc := 19) (0) dX3_init_19 (by decide) ?_
  refine v_kP (n := n) 0 [.inr (3, [.ref (n + 2), vi (0), vi (0)]), .inl (0, 1492, .inl (fun _ => 0))] (pc := 20) hn dX3_init_20 fl_X3_19 rfl (Nat.le_of_ble_eq_true rfl) rfl ?_
  refine v_return (pc := 23) dX3_init_23 rfl (by decide) ?_
  exact hQ
set_option maxHeartbeats 4000000 in
set_option maxRecDepth 100000 in
theorem c_X6_init {g : vGl} {d : Nat} {Q : Option Value → List mC → Prop} {W0 : List mC} {n q1 q2 : Nat} (hn : W0.length = n) (hd : 1 ≤ d) (hQ : Q none (W0 ++ [.inr (6, [.ref q1, .ref q2, .ref (n + 2), .ref (n + 3), vi (1), vi (0), vi (0)]), .inl (0, 84, .inl (fun _ => 0)), .inl (0, 84, .inl (fun _ => 0))])) : V g mX6_init d (2, 168, 0, 0) Q 0 [(0, .ref (n + 1)), (1, .ref q1), (2, .ref q2)] [] (W0 ++ [.inr (6, [.null, .null, .null, .null, .int 0, .int 0, .int 0])]) := by
  refine v_aload_n (pc := 0) dX6_init_0 rfl ?_
  refine v_objInit (pc := 1) dX6_init_1 ml_X6_3 iw_obj co_obj (Nat.le_of_ble_eq_true rfl) (by omega) ?_
  refine v_aload_n (pc := 4) dX6_init_4 rfl ?_
  refine v_bipush (pc := 5) (84) dX6_init_5 (by decide) ?_
  refine v_kI (n := n) 1 [.inr (6, [.null, .null, .null, .null, .int 0, .int 0, .int 0]), .inl (0, 84, .inl (fun _ => 0))] (pc := 7) hn  rfl dX6_init_7 ac_int rfl (by decide) (by decide) rfl ?_
  refine v_kF (ty := (.array .int)) (n := n) 0 [.inr (6, [.null, .null, .ref (n + 2), .null, .int 0, .int 0, .int 0]), .inl (0, 84, .inl (fun _ => 0))] (pc := 9) hn dX6_init_9 fl_X6_11 rfl (fun C T m h => by cases h; rfl) (by decide +kernel) (fun y => ⟨rfl, rfl⟩) rfl (Nat.le_of_ble_eq_true rfl) rfl ?_
  refine v_aload_n (pc := 12) dX6_init_12 rfl ?_
  refine v_bipush (pc := 13) (84) dX6_init_13 (by decide) ?_
  refine v_kI (n := n) 2 [.inr (6, [.null, .null, .ref (n + 2), .null, .int 0, .int 0, .int 0]), .inl (0, 84, .inl (fun _ => 0)), .inl (0, 84, .inl (fun _ => 0))] (pc := 15) hn  rfl dX6_init_15 ac_int rfl (by decide) (by decide) rfl ?_
  refine v_kF (ty := (.array .int)) (n := n) 0 [.inr (6, [.null, .null, .ref (n + 2), .ref (n + 3), .int 0, .int 0, .int 0]), .inl (0, 84, .inl (fun _ => 0)), .inl (0, 84, .inl (fun _ => 0))] (pc := 17) hn dX6_init_17 fl_X6_15 rfl (fun C T m h => by cases h; rfl) (by decide +kernel) (fun y => ⟨rfl, rfl⟩) rfl (Nat.le_of_ble_eq_true rfl) rfl ?_
  refine v_aload_n (pc := 20) dX6_init_20 rfl ?_
  refine v_iconst (pc := 21) (1) dX6_init_21 (by decide) ?_
  refine v_kP (n := n) 0 [.inr (6, [.null, .null, .ref (n + 2), .ref (n + 3), vi (1), .int 0, .int 0]), .inl (0, 84, .inl (fun _ => 0)), .inl (0, 84, .inl (fun _ => 0))] (pc := 22) hn dX6_init_22 fl_X6_18 rfl (Nat.le_of_ble_eq_true rfl) rfl ?_
  refine v_aload_n (pc := 25) dX6_init_25 rfl ?_
  refine v_iconst (pc := 26) (0) dX6_init_26 (by decide) ?_
  refine v_kP (n := n) 0 [.inr (6, [.null, .null, .ref (n + 2), .ref (n + 3), vi (1), vi (0), .int 0]), .inl (0, 84, .inl (fun _ => 0)), .inl (0, 84, .inl (fun _ => 0))] (pc := 27) hn dX6_init_27 fl_X6_22 rfl (Nat.le_of_ble_eq_true rfl) rfl ?_
  refine v_aload_n (pc := 30) dX6_init_30 rfl ?_
  refine v_iconst (pc := 31) (0) dX6_init_31 (by decide) ?_
  refine v_kP (n := n) 0 [.inr (6, [.null, .null, .ref (n + 2), .ref (n + 3), vi (1), vi (0), vi (0)]), .inl (0, 84, .inl (fun _ => 0)), .inl (0, 84, .inl (fun _ => 0))] (pc := 32) hn dX6_init_32 fl_X6_25 rfl (Nat.le_of_ble_eq_true rfl) rfl ?_
  refine v_aload_n (pc := 35) dX6_init_35 rfl ?_
  refine v_aload_n (pc := 36) dX6_init_36 rfl ?_
  refine v_kF (ty := (.object "StageYard$Rocket")) (n := n) 0 [.inr (6, [.ref q1, .null, .ref (n + 2), .ref (n + 3), vi (1), vi (0), vi (0)]), .inl (0, 84, .inl (fun _ => 0)), .inl (0, 84, .inl (fun _ => 0))] (pc := 37) hn dX6_init_37 fl_X6_28 rfl (fun C T m h => by cases h; rfl) (by decide +kernel) (fun y => ⟨rfl, rfl⟩) rfl (Nat.le_of_ble_eq_true rfl) rfl ?_
  refine v_aload_n (pc := 40) dX6_init_40 rfl ?_
  refine v_aload_n (pc := 41) dX6_init_41 rfl ?_
  refine v_kF (ty := (.object "StageYard$LowSums")) (n := n) 0 [.inr (6, [.ref q1, .ref q2, .ref (n + 2), .ref (n + 3), vi (1), vi (0), vi (0)]), .inl (0, 84, .inl (fun _ => 0)), .inl (0, 84, .inl (fun _ => 0))] (pc := 42) hn dX6_init_42 fl_X6_32 rfl (fun C T m h => by cases h; rfl) (by decide +kernel) (fun y => ⟨rfl, rfl⟩) rfl (Nat.le_of_ble_eq_true rfl) rfl ?_
  refine v_return (pc := 45) dX6_init_45 rfl (by decide) ?_
  exact hQ
set_option maxHeartbeats 4000000 in
set_option maxRecDepth 100000 in
theorem c_X2_init {g : vGl} {d : Nat} {Q : Option Value → List mC → Prop} {W0 : List mC} {n q1 q2 : Nat} (hn : W0.length = n) (hd : 1 ≤ d) (hQ : Q none (W0 ++ [.inr (2, [.ref q1, .ref q2, vi (0), vi (0), vi (0), vi (0), vi (0), vi (0), vi (0), vi (0), vi (0), vi (0), vi (0), vi (-1)])])) : V g mX2_init d (0, 0, 0, 0) Q 0 [(0, .ref (n + 1)), (1, .ref q1), (2, .ref q2)] [] (W0 ++ [.inr (2, [.null, .null, .int 0, .int 0, .int 0, .int 0, .int 0, .int 0, .int 0, .int 0, .int 0, .int 0, .int 0, .int 0])]) := by
  refine v_aload_n (pc := 0) dX2_init_0 rfl ?_
  refine v_objInit (pc := 1) dX2_init_1 ml_X2_3 iw_obj co_obj (Nat.le_of_ble_eq_true rfl) (by omega) ?_
  refine v_aload_n (pc := 4) dX2_init_4 rfl ?_
  refine v_iconst (pc := 5) (0) dX2_init_5 (by decide) ?_
  refine v_kP (n := n) 0 [.inr (2, [.null, .null, vi (0), .int 0, .int 0, .int 0, .int 0, .int 0, .int 0, .int 0, .int 0, .int 0, .int 0, .int 0])] (pc := 6) hn dX2_init_6 fl_X2_9 rfl (Nat.le_of_ble_eq_true rfl) rfl ?_
  refine v_aload_n (pc := 9) dX2_init_9 rfl ?_
  refine v_iconst (pc := 10) (0) dX2_init_10 (by decide) ?_
  refine v_kP (n := n) 0 [.inr (2, [.null, .null, vi (0), vi (0), .int 0, .int 0, .int 0, .int 0, .int 0, .int 0, .int 0, .int 0, .int 0, .int 0])] (pc := 11) hn dX2_init_11 fl_X2_15 rfl (Nat.le_of_ble_eq_true rfl) rfl ?_
  refine v_aload_n (pc := 14) dX2_init_14 rfl ?_
  refine v_iconst (pc := 15) (0) dX2_init_15 (by decide) ?_
  refine v_kP (n := n) 0 [.inr (2, [.null, .null, vi (0), vi (0), vi (0), .int 0, .int 0, .int 0, .int 0, .int 0, .int 0, .int 0, .int 0, .int 0])] (pc := 16) hn dX2_init_16 fl_X2_18 rfl (Nat.le_of_ble_eq_true rfl) rfl ?_
  refine v_aload_n (pc := 19) dX2_init_19 rfl ?_
  refine v_iconst (pc := 20) (0) dX2_init_20 (by decide) ?_
  refine v_kP (n := n) 0 [.inr (2, [.null, .null, vi (0), vi (0), vi (0), vi (0), .int 0, .int 0, .int 0, .int 0, .int 0, .int 0, .int 0, .int 0])] (pc := 21) hn dX2_init_21 fl_X2_21 rfl (Nat.le_of_ble_eq_true rfl) rfl ?_
  refine v_aload_n (pc := 24) dX2_init_24 rfl ?_
  refine v_iconst (pc := 25) (0) dX2_init_25 (by decide) ?_
  refine v_kP (n := n) 0 [.inr (2, [.null, .null, vi (0), vi (0), vi (0), vi (0), vi (0), .int 0, .int 0, .int 0, .int 0, .int 0, .int 0, .int 0])] (pc := 26) hn dX2_init_26 fl_X2_24 rfl (Nat.le_of_ble_eq_true rfl) rfl ?_
  refine v_aload_n (pc := 29) dX2_init_29 rfl ?_
  refine v_iconst (pc := 30) (0) dX2_init_30 (by decide) ?_
  refine v_kP (n := n) 0 [.inr (2, [.null, .null, vi (0), vi (0), vi (0), vi (0), vi (0), vi (0), .int 0, .int 0, .int 0, .int 0, .int 0, .int 0])] (pc := 31) hn dX2_init_31 fl_X2_27 rfl (Nat.le_of_ble_eq_true rfl) rfl ?_
  refine v_aload_n (pc := 34) dX2_init_34 rfl ?_
  refine v_iconst (pc := 35) (0) dX2_init_35 (by decide) ?_
  refine v_kP (n := n) 0 [.inr (2, [.null, .null, vi (0), vi (0), vi (0), vi (0), vi (0), vi (0), vi (0), .int 0, .int 0, .int 0, .int 0, .int 0])] (pc := 36) hn dX2_init_36 fl_X2_30 rfl (Nat.le_of_ble_eq_true rfl) rfl ?_
  refine v_aload_n (pc := 39) dX2_init_39 rfl ?_
  refine v_iconst (pc := 40) (0) dX2_init_40 (by decide) ?_
  refine v_kP (n := n) 0 [.inr (2, [.null, .null, vi (0), vi (0), vi (0), vi (0), vi (0), vi (0), vi (0), vi (0), .int 0, .int 0, .int 0, .int 0])] (pc := 41) hn dX2_init_41 fl_X2_33 rfl (Nat.le_of_ble_eq_true rfl) rfl ?_
  refine v_aload_n (pc := 44) dX2_init_44 rfl ?_
  refine v_iconst (pc := 45) (0) dX2_init_45 (by decide) ?_
  refine v_kP (n := n) 0 [.inr (2, [.null, .null, vi (0), vi (0), vi (0), vi (0), vi (0), vi (0), vi (0), vi (0), vi (0), .int 0, .int 0, .int 0])] (pc := 46) hn dX2_init_46 fl_X2_36 rfl (Nat.le_of_ble_eq_true rfl) rfl ?_
  refine v_aload_n (pc := 49) dX2_init_49 rfl ?_
  refine v_iconst (pc := 50) (0) dX2_init_50 (by decide) ?_
  refine v_kP (n := n) 0 [.inr (2, [.null, .null, vi (0), vi (0), vi (0), vi (0), vi (0), vi (0), vi (0), vi (0), vi (0), vi (0), .int 0, .int 0])] (pc := 51) hn dX2_init_51 fl_X2_39 rfl (Nat.le_of_ble_eq_true rfl) rfl ?_
  refine v_aload_n (pc := 54) dX2_init_54 rfl ?_
  refine v_iconst (pc := 55) (0) dX2_init_55 (by decide) ?_
  refine v_kP (n := n) 0 [.inr (2, [.null, .null, vi (0), vi (0), vi (0), vi (0), vi (0), vi (0), vi (0), vi (0), vi (0), vi (0), vi (0), .int 0])] (pc := 56) hn dX2_init_56 fl_X2_42 rfl (Nat.le_of_ble_eq_true rfl) rfl ?_
  refine v_aload_n (pc := 59) dX2_init_59 rfl ?_
  refine v_iconst (pc := 60) (-1) dX2_init_60 (by decide) ?_
  refine v_kP (n := n) 0 [.inr (2, [.null, .null, vi (0), vi (0), vi (0), vi (0), vi (0), vi (0), vi (0), vi (0), vi (0), vi (0), vi (0), vi (-1)])] (pc := 61) hn dX2_init_61 fl_X2_45 rfl (Nat.le_of_ble_eq_true rfl) rfl ?_
  refine v_aload_n (pc := 64) dX2_init_64 rfl ?_
  refine v_aload_n (pc := 65) dX2_init_65 rfl ?_
  refine v_kF (ty := (.object "StageYard$Rocket")) (n := n) 0 [.inr (2, [.ref q1, .null, vi (0), vi (0), vi (0), vi (0), vi (0), vi (0), vi (0), vi (0), vi (0), vi (0), vi (0), vi (-1)])] (pc := 66) hn dX2_init_66 fl_X2_48 rfl (fun C T m h => by cases h; rfl) (by decide +kernel) (fun y => ⟨rfl, rfl⟩) rfl (Nat.le_of_ble_eq_true rfl) rfl ?_
  refine v_aload_n (pc := 69) dX2_init_69 rfl ?_
  refine v_aload_n (pc := 70) dX2_init_70 rfl ?_
  refine v_kF (ty := (.object "StageYard$Sky")) (n := n) 0 [.inr (2, [.ref q1, .ref q2, vi (0), vi (0), vi (0), vi (0), vi (0), vi (0), vi (0), vi (0), vi (0), vi (0), vi (0), vi (-1)])] (pc := 71) hn dX2_init_71 fl_X2_52 rfl (fun C T m h => by cases h; rfl) (by decide +kernel) (fun y => ⟨rfl, rfl⟩) rfl (Nat.le_of_ble_eq_true rfl) rfl ?_
  refine v_return (pc := 74) dX2_init_74 rfl (by decide) ?_
  exact hQ
set_option maxHeartbeats 4000000 in
set_option maxRecDepth 100000 in
theorem c_X7_init {g : vGl} {d : Nat} {Q : Option Value → List mC → Prop} {W0 : List mC} {n : Nat} (hn : W0.length = n) (hd : 1 ≤ d) (hQ : Q none (W0 ++ [.inr (7, [.ref (n + 2), .ref (n + 3), .ref (n + 4), .ref (n + 5), .ref (n + 6), .ref (n + 7), vi (0), vi (0), vi (0)]), .inl (0, 30, .inl (fun _ => 0)), .inl (0, 10, .inl (fun _ => 0)), .inl (0, 10, .inl (fun _ => 0)), .inl (0, 10, .inl (fun _ => 0)), .inl (0, 36, .inl (fun _ => 0)), .inl (0, 36, .inl (fun _ => 0))])) : V g mX7_init d (6, 132, 0, 0) Q 0 [(0, .ref (n + 1))] [] (W0 ++ [.inr (7, [.null, .null, .null, .null, .null, .null, .int 0, .int 0, .int 0])]) := by
  refine v_aload_n (pc := 0) dX7_init_0 rfl ?_
  refine v_objInit (pc := 1) dX7_init_1 ml_X7_3 iw_obj co_obj (Nat.le_of_ble_eq_true rfl) (by omega) ?_
  refine v_aload_n (pc := 4) dX7_init_4 rfl ?_
  refine v_bipush (pc := 5) (30) dX7_init_5 (by decide) ?_
  refine v_kI (n := n) 1 [.inr (7, [.null, .null, .null, .null, .null, .null, .int 0, .int 0, .int 0]), .inl (0, 30, .inl (fun _ => 0))] (pc := 7) hn  rfl dX7_init_7 ac_int rfl (by decide) (by decide) rfl ?_
  refine v_kF (ty := (.array .int)) (n := n) 0 [.inr (7, [.ref (n + 2), .null, .null, .null, .null, .null, .int 0, .int 0, .int 0]), .inl (0, 30, .inl (fun _ => 0))] (pc := 9) hn dX7_init_9 fl_X7_9 rfl (fun C T m h => by cases h; rfl) (by decide +kernel) (fun y => ⟨rfl, rfl⟩) rfl (Nat.le_of_ble_eq_true rfl) rfl ?_
  refine v_aload_n (pc := 12) dX7_init_12 rfl ?_
  refine v_bipush (pc := 13) (10) dX7_init_13 (by decide) ?_
  refine v_kI (n := n) 2 [.inr (7, [.ref (n + 2), .null, .null, .null, .null, .null, .int 0, .int 0, .int 0]), .inl (0, 30, .inl (fun _ => 0)), .inl (0, 10, .inl (fun _ => 0))] (pc := 15) hn  rfl dX7_init_15 ac_int rfl (by decide) (by decide) rfl ?_
  refine v_kF (ty := (.array .int)) (n := n) 0 [.inr (7, [.ref (n + 2), .ref (n + 3), .null, .null, .null, .null, .int 0, .int 0, .int 0]), .inl (0, 30, .inl (fun _ => 0)), .inl (0, 10, .inl (fun _ => 0))] (pc := 17) hn dX7_init_17 fl_X7_15 rfl (fun C T m h => by cases h; rfl) (by decide +kernel) (fun y => ⟨rfl, rfl⟩) rfl (Nat.le_of_ble_eq_true rfl) rfl ?_
  refine v_aload_n (pc := 20) dX7_init_20 rfl ?_
  refine v_bipush (pc := 21) (10) dX7_init_21 (by decide) ?_
  refine v_kI (n := n) 3 [.inr (7, [.ref (n + 2), .ref (n + 3), .null, .null, .null, .null, .int 0, .int 0, .int 0]), .inl (0, 30, .inl (fun _ => 0)), .inl (0, 10, .inl (fun _ => 0)), .inl (0, 10, .inl (fun _ => 0))] (pc := 23) hn  rfl dX7_init_23 ac_int rfl (by decide) (by decide) rfl ?_
  refine v_kF (ty := (.array .int)) (n := n) 0 [.inr (7, [.ref (n + 2), .ref (n + 3), .ref (n + 4), .null, .null, .null, .int 0, .int 0, .int 0]), .inl (0, 30, .inl (fun _ => 0)), .inl (0, 10, .inl (fun _ => 0)), .inl (0, 10, .inl (fun _ => 0))] (pc := 25) hn dX7_init_25 fl_X7_18 rfl (fun C T m h => by cases h; rfl) (by decide +kernel) (fun y => ⟨rfl, rfl⟩) rfl (Nat.le_of_ble_eq_true rfl) rfl ?_
  refine v_aload_n (pc := 28) dX7_init_28 rfl ?_
  refine v_bipush (pc := 29) (10) dX7_init_29 (by decide) ?_
  refine v_kI (n := n) 4 [.inr (7, [.ref (n + 2), .ref (n + 3), .ref (n + 4), .null, .null, .null, .int 0, .int 0, .int 0]), .inl (0, 30, .inl (fun _ => 0)), .inl (0, 10, .inl (fun _ => 0)), .inl (0, 10, .inl (fun _ => 0)), .inl (0, 10, .inl (fun _ => 0))] (pc := 31) hn  rfl dX7_init_31 ac_int rfl (by decide) (by decide) rfl ?_
  refine v_kF (ty := (.array .int)) (n := n) 0 [.inr (7, [.ref (n + 2), .ref (n + 3), .ref (n + 4), .ref (n + 5), .null, .null, .int 0, .int 0, .int 0]), .inl (0, 30, .inl (fun _ => 0)), .inl (0, 10, .inl (fun _ => 0)), .inl (0, 10, .inl (fun _ => 0)), .inl (0, 10, .inl (fun _ => 0))] (pc := 33) hn dX7_init_33 fl_X7_21 rfl (fun C T m h => by cases h; rfl) (by decide +kernel) (fun y => ⟨rfl, rfl⟩) rfl (Nat.le_of_ble_eq_true rfl) rfl ?_
  refine v_aload_n (pc := 36) dX7_init_36 rfl ?_
  refine v_bipush (pc := 37) (36) dX7_init_37 (by decide) ?_
  refine v_kI (n := n) 5 [.inr (7, [.ref (n + 2), .ref (n + 3), .ref (n + 4), .ref (n + 5), .null, .null, .int 0, .int 0, .int 0]), .inl (0, 30, .inl (fun _ => 0)), .inl (0, 10, .inl (fun _ => 0)), .inl (0, 10, .inl (fun _ => 0)), .inl (0, 10, .inl (fun _ => 0)), .inl (0, 36, .inl (fun _ => 0))] (pc := 39) hn  rfl dX7_init_39 ac_int rfl (by decide) (by decide) rfl ?_
  refine v_kF (ty := (.array .int)) (n := n) 0 [.inr (7, [.ref (n + 2), .ref (n + 3), .ref (n + 4), .ref (n + 5), .ref (n + 6), .null, .int 0, .int 0, .int 0]), .inl (0, 30, .inl (fun _ => 0)), .inl (0, 10, .inl (fun _ => 0)), .inl (0, 10, .inl (fun _ => 0)), .inl (0, 10, .inl (fun _ => 0)), .inl (0, 36, .inl (fun _ => 0))] (pc := 41) hn dX7_init_41 fl_X7_24 rfl (fun C T m h => by cases h; rfl) (by decide +kernel) (fun y => ⟨rfl, rfl⟩) rfl (Nat.le_of_ble_eq_true rfl) rfl ?_
  refine v_aload_n (pc := 44) dX7_init_44 rfl ?_
  refine v_bipush (pc := 45) (36) dX7_init_45 (by decide) ?_
  refine v_kI (n := n) 6 [.inr (7, [.ref (n + 2), .ref (n + 3), .ref (n + 4), .ref (n + 5), .ref (n + 6), .null, .int 0, .int 0, .int 0]), .inl (0, 30, .inl (fun _ => 0)), .inl (0, 10, .inl (fun _ => 0)), .inl (0, 10, .inl (fun _ => 0)), .inl (0, 10, .inl (fun _ => 0)), .inl (0, 36, .inl (fun _ => 0)), .inl (0, 36, .inl (fun _ => 0))] (pc := 47) hn  rfl dX7_init_47 ac_int rfl (by decide) (by decide) rfl ?_
  refine v_kF (ty := (.array .int)) (n := n) 0 [.inr (7, [.ref (n + 2), .ref (n + 3), .ref (n + 4), .ref (n + 5), .ref (n + 6), .ref (n + 7), .int 0, .int 0, .int 0]), .inl (0, 30, .inl (fun _ => 0)), .inl (0, 10, .inl (fun _ => 0)), .inl (0, 10, .inl (fun _ => 0)), .inl (0, 10, .inl (fun _ => 0)), .inl (0, 36, .inl (fun _ => 0)), .inl (0, 36, .inl (fun _ => 0))] (pc := 49) hn dX7_init_49 fl_X7_27 rfl (fun C T m h => by cases h; rfl) (by decide +kernel) (fun y => ⟨rfl, rfl⟩) rfl (Nat.le_of_ble_eq_true rfl) rfl ?_
  refine v_aload_n (pc := 52) dX7_init_52 rfl ?_
  refine v_iconst (pc := 53) (0) dX7_init_53 (by decide) ?_
  refine v_kP (n := n) 0 [.inr (7, [.ref (n + 2), .ref (n + 3), .ref (n + 4), .ref (n + 5), .ref (n + 6), .ref (n + 7), vi (0), .int 0, .int 0]), .inl (0, 30, .inl (fun _ => 0)), .inl (0, 10, .inl (fun _ => 0)), .inl (0, 10, .inl (fun _ => 0)), .inl (0, 10, .inl (fun _ => 0)), .inl (0, 36, .inl (fun _ => 0)), .inl (0, 36, .inl (fun _ => 0))] (pc := 54) hn dX7_init_54 fl_X7_30 rfl (Nat.le_of_ble_eq_true rfl) rfl ?_
  refine v_aload_n (pc := 57) dX7_init_57 rfl ?_
  refine v_iconst (pc := 58) (0) dX7_init_58 (by decide) ?_
  refine v_kP (n := n) 0 [.inr (7, [.ref (n + 2), .ref (n + 3), .ref (n + 4), .ref (n + 5), .ref (n + 6), .ref (n + 7), vi (0), vi (0), .int 0]), .inl (0, 30, .inl (fun _ => 0)), .inl (0, 10, .inl (fun _ => 0)), .inl (0, 10, .inl (fun _ => 0)), .inl (0, 10, .inl (fun _ => 0)), .inl (0, 36, .inl (fun _ => 0)), .inl (0, 36, .inl (fun _ => 0))] (pc := 59) hn dX7_init_59 fl_X7_34 rfl (Nat.le_of_ble_eq_true rfl) rfl ?_
  refine v_aload_n (pc := 62) dX7_init_62 rfl ?_
  refine v_iconst (pc := 63) (0) dX7_init_63 (by decide) ?_
  refine v_kP (n := n) 0 [.inr (7, [.ref (n + 2), .ref (n + 3), .ref (n + 4), .ref (n + 5), .ref (n + 6), .ref (n + 7), vi (0), vi (0), vi (0)]), .inl (0, 30, .inl (fun _ => 0)), .inl (0, 10, .inl (fun _ => 0)), .inl (0, 10, .inl (fun _ => 0)), .inl (0, 10, .inl (fun _ => 0)), .inl (0, 36, .inl (fun _ => 0)), .inl (0, 36, .inl (fun _ => 0))] (pc := 64) hn dX7_init_64 fl_X7_37 rfl (Nat.le_of_ble_eq_true rfl) rfl ?_
  refine v_return (pc := 67) dX7_init_67 rfl (by decide) ?_
  exact hQ
