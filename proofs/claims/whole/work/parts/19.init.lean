def yInit : vSt := fun p => match p with
  | 2 => fun j => if j = 0 then 10 else if j = 1 then 10 else if j = 2 then 90 else 0
  | 17 => fun j => if j = 4 then 1 else 0
  | 20 => fun j => if j = 10 then 1000000 else 0
  | 26 => fun j => if j < 10 then 100 - 10 * (j : Int) else 0
  | 27 => fun j => if j = 0 then 1000000 else 0
  | 28 => fun j => if j = 13 then -1 else 0
  | 29 => fun j => if j = 13 then -1 else 0
  | 30 => fun j => if j = 13 then -1 else 0
  | 38 => fun j => if j = 14 then 10 else if j = 15 then 10 else if j = 16 then 90 else 0
  | 49 => fun j => if j < 10 then 100 - 10 * (j : Int) else 0
  | 50 => fun j => if j = 0 then 1000000 else 0
  | _ => fun _ => 0
theorem row_2 : (upd (upd (upd (fun _ => 0) 0 (Int32.ofInt (10))) 1 (Int32.ofInt (10))) 2 (Int32.ofInt (90)) : Nat → Int32) = fun j => Int32.ofInt (yInit 2 j) := by
  funext j
  by_cases h : j < 3
  · rcases (show j = 0 ∨ j = 1 ∨ j = 2 by omega) with rfl | rfl | rfl <;> decide
  · show _ = Int32.ofInt (yInit 2 j)
    rw [show yInit 2 j = 0 from by
      unfold yInit
      simp only []
      repeat rw [if_neg (by omega)]]
    unfold upd
    repeat rw [if_neg (by omega)]
    show (0 : Int32) = Int32.ofInt 0
    decide
theorem row_26 : (upd (upd (upd (upd (upd (upd (upd (upd (upd (upd (fun _ => 0) 0 (Int32.ofInt ((100) - ((10) * (0))))) 1 (Int32.ofInt ((100) - ((10) * ((0) + 1))))) 2 (Int32.ofInt ((100) - ((10) * (((0) + 1) + 1))))) 3 (Int32.ofInt ((100) - ((10) * ((((0) + 1) + 1) + 1))))) 4 (Int32.ofInt ((100) - ((10) * (((((0) + 1) + 1) + 1) + 1))))) 5 (Int32.ofInt ((100) - ((10) * ((((((0) + 1) + 1) + 1) + 1) + 1))))) 6 (Int32.ofInt ((100) - ((10) * (((((((0) + 1) + 1) + 1) + 1) + 1) + 1))))) 7 (Int32.ofInt ((100) - ((10) * ((((((((0) + 1) + 1) + 1) + 1) + 1) + 1) + 1))))) 8 (Int32.ofInt ((100) - ((10) * (((((((((0) + 1) + 1) + 1) + 1) + 1) + 1) + 1) + 1))))) 9 (Int32.ofInt ((100) - ((10) * ((((((((((0) + 1) + 1) + 1) + 1) + 1) + 1) + 1) + 1) + 1)))) : Nat → Int32) = fun j => Int32.ofInt (yInit 26 j) := by
  funext j
  by_cases h : j < 10
  · rcases (show j = 0 ∨ j = 1 ∨ j = 2 ∨ j = 3 ∨ j = 4 ∨ j = 5 ∨ j = 6 ∨ j = 7 ∨ j = 8 ∨ j = 9 by omega) with rfl | rfl | rfl | rfl | rfl | rfl | rfl | rfl | rfl | rfl <;> decide
  · show _ = Int32.ofInt (yInit 26 j)
    rw [show yInit 26 j = 0 from by
      unfold yInit
      simp only []
      repeat rw [if_neg (by omega)]]
    unfold upd
    repeat rw [if_neg (by omega)]
    show (0 : Int32) = Int32.ofInt 0
    decide
theorem row_27 : (upd (upd (upd (fun _ => 0) 0 (Int32.ofInt (1000000))) 1 (Int32.ofInt (0))) 2 (Int32.ofInt (0)) : Nat → Int32) = fun j => Int32.ofInt (yInit 27 j) := by
  funext j
  by_cases h : j < 3
  · rcases (show j = 0 ∨ j = 1 ∨ j = 2 by omega) with rfl | rfl | rfl <;> decide
  · show _ = Int32.ofInt (yInit 27 j)
    rw [show yInit 27 j = 0 from by
      unfold yInit
      simp only []
      repeat rw [if_neg (by omega)]]
    unfold upd
    repeat rw [if_neg (by omega)]
    show (0 : Int32) = Int32.ofInt 0
    decide
theorem row_49 : (upd (upd (upd (upd (upd (upd (upd (upd (upd (upd (fun _ => 0) 0 (Int32.ofInt ((100) - ((10) * (0))))) 1 (Int32.ofInt ((100) - ((10) * ((0) + 1))))) 2 (Int32.ofInt ((100) - ((10) * (((0) + 1) + 1))))) 3 (Int32.ofInt ((100) - ((10) * ((((0) + 1) + 1) + 1))))) 4 (Int32.ofInt ((100) - ((10) * (((((0) + 1) + 1) + 1) + 1))))) 5 (Int32.ofInt ((100) - ((10) * ((((((0) + 1) + 1) + 1) + 1) + 1))))) 6 (Int32.ofInt ((100) - ((10) * (((((((0) + 1) + 1) + 1) + 1) + 1) + 1))))) 7 (Int32.ofInt ((100) - ((10) * ((((((((0) + 1) + 1) + 1) + 1) + 1) + 1) + 1))))) 8 (Int32.ofInt ((100) - ((10) * (((((((((0) + 1) + 1) + 1) + 1) + 1) + 1) + 1) + 1))))) 9 (Int32.ofInt ((100) - ((10) * ((((((((((0) + 1) + 1) + 1) + 1) + 1) + 1) + 1) + 1) + 1)))) : Nat → Int32) = fun j => Int32.ofInt (yInit 49 j) := by
  funext j
  by_cases h : j < 10
  · rcases (show j = 0 ∨ j = 1 ∨ j = 2 ∨ j = 3 ∨ j = 4 ∨ j = 5 ∨ j = 6 ∨ j = 7 ∨ j = 8 ∨ j = 9 by omega) with rfl | rfl | rfl | rfl | rfl | rfl | rfl | rfl | rfl | rfl <;> decide
  · show _ = Int32.ofInt (yInit 49 j)
    rw [show yInit 49 j = 0 from by
      unfold yInit
      simp only []
      repeat rw [if_neg (by omega)]]
    unfold upd
    repeat rw [if_neg (by omega)]
    show (0 : Int32) = Int32.ofInt 0
    decide
theorem row_50 : (upd (fun _ => 0) 0 (Int32.ofInt (1000000)) : Nat → Int32) = fun j => Int32.ofInt (yInit 50 j) := by
  funext j
  by_cases h : j < 3
  · rcases (show j = 0 ∨ j = 1 ∨ j = 2 by omega) with rfl | rfl | rfl <;> decide
  · show _ = Int32.ofInt (yInit 50 j)
    rw [show yInit 50 j = 0 from by
      unfold yInit
      simp only []
      repeat rw [if_neg (by omega)]]
    unfold upd
    repeat rw [if_neg (by omega)]
    show (0 : Int32) = Int32.ofInt 0
    decide
set_option maxHeartbeats 8000000 in
set_option maxRecDepth 100000 in
theorem init_eq : yCells ++ [.inr (9, [.ref (37 + 2), .ref (37 + 3), .ref (37 + 4), .ref (37 + 5), .ref (37 + 6), .ref (37 + 7), .ref (37 + 8), .ref (37 + 9), .ref (37 + 10), .ref (37 + 11), .ref (37 + 12), .ref (37 + 13), .int 0, .int 0, vi (10), vi (10), vi (90), .ref (37 + 14), .ref (37 + 15), .ref (37 + 16), .int 0, .ref (37 + 17), .ref (37 + 18), .ref (37 + 19), .ref (37 + 20), .ref (37 + 21), .ref (37 + 22), .int 0, .ref (37 + 23), .int 0, .int 0, .int 0, .int 0, .int 0, .int 0, .int 0, .long 0, .long 0, .ref (37 + 24), .int 0, .ref (37 + 25), .ref (37 + 26), .ref (37 + 27), .ref (37 + 28), .ref (37 + 29), .int 0, .int 0]), .inl (0, 6, .inl (fun _ => 0)), .inl (0, 6, .inl (fun _ => 0)), .inl (0, 6, .inl (fun _ => 0)), .inl (0, 6, .inl (fun _ => 0)), .inl (0, 6, .inl (fun _ => 0)), .inl (0, 6, .inl (fun _ => 0)), .inl (0, 4, .inl (fun _ => 0)), .inl (0, 4, .inl (fun _ => 0)), .inl (0, 4, .inl (fun _ => 0)), .inl (0, 4, .inl (fun _ => 0)), .inl (0, 10, .inl (upd (upd (upd (upd (upd (upd (upd (upd (upd (upd (fun _ => 0) 0 (Int32.ofInt ((100) - ((10) * (0))))) 1 (Int32.ofInt ((100) - ((10) * ((0) + 1))))) 2 (Int32.ofInt ((100) - ((10) * (((0) + 1) + 1))))) 3 (Int32.ofInt ((100) - ((10) * ((((0) + 1) + 1) + 1))))) 4 (Int32.ofInt ((100) - ((10) * (((((0) + 1) + 1) + 1) + 1))))) 5 (Int32.ofInt ((100) - ((10) * ((((((0) + 1) + 1) + 1) + 1) + 1))))) 6 (Int32.ofInt ((100) - ((10) * (((((((0) + 1) + 1) + 1) + 1) + 1) + 1))))) 7 (Int32.ofInt ((100) - ((10) * ((((((((0) + 1) + 1) + 1) + 1) + 1) + 1) + 1))))) 8 (Int32.ofInt ((100) - ((10) * (((((((((0) + 1) + 1) + 1) + 1) + 1) + 1) + 1) + 1))))) 9 (Int32.ofInt ((100) - ((10) * ((((((((((0) + 1) + 1) + 1) + 1) + 1) + 1) + 1) + 1) + 1)))))), .inl (0, 3, .inl (upd (fun _ => 0) 0 (Int32.ofInt (1000000)))), .inl (0, 4, .inl (fun _ => 0)), .inl (0, 4, .inl (fun _ => 0)), .inl (0, 4, .inl (fun _ => 0)), .inl (0, 3, .inl (fun _ => 0)), .inl (0, 3, .inl (fun _ => 0)), .inl (1, 4, .inr (.inl (fun _ => 0))), .inl (1, 4, .inr (.inl (fun _ => 0))), .inl (1, 4, .inr (.inl (fun _ => 0))), .inl (2, 4, .inl (fun _ => 0)), .inl (0, 4, .inl (fun _ => 0)), .inl (0, 7, .inl (fun _ => 0)), .inl (0, 6, .inl (fun _ => 0)), .inl (0, 30, .inl (fun _ => 0)), .inl (0, 10, .inl (fun _ => 0)), .inl (0, 10, .inl (fun _ => 0)), .inl (0, 36, .inl (fun _ => 0))] = hp yInit := by
  unfold yCells
  rw [row_2, row_26, row_27, row_50]
  rfl
abbrev mL_law : vMt := (RL, yL_law, cL_law, 4, some .boolean)
abbrev lN0 : Nat × Nat × Nat × Nat := (600000, 7302250, 66, 3583)
set_option maxHeartbeats 8000000 in
set_option maxRecDepth 100000 in
theorem l_start {g : vGl} {Q : Option Value → List mC → Prop} (hK : V g mL_law 40 lN0 Q 18 [(0, .ref 0), (1, .ref 1), (2, .ref 38), (3, vi 0)] [] (hp yInit)) : V g mL_law 40 (600000, 7302250, 0, 0) Q 0 [(0, .ref 0)] [] [] := by
  refine v_kN (W0 := []) (l := []) (n := 0) 0 [.inr (8, [.null, .null, .null, .null, .null, .null, .null, .null, .null, .int 0, .null])] (pc := 0) rfl rfl dL_law_0 rfl cl_L_7 in_X8 it_X8 tyX8 tyX8_ok (fun a j hj => by rcases (show j = 0 ∨ j = 1 ∨ j = 2 ∨ j = 3 ∨ j = 4 ∨ j = 5 ∨ j = 6 ∨ j = 7 ∨ j = 8 ∨ j = 9 ∨ j = 10 by omega) with rfl | rfl | rfl | rfl | rfl | rfl | rfl | rfl | rfl | rfl | rfl <;> rfl) (by decide) rfl ?_
  refine v_dup (pc := 3) dL_law_3 rfl ?_
  refine v_callI (p0 := 0) (As := []) (st := [.ref 1]) (mc := 36) (ms := 3323) (d' := 30) (pc := 4) dL_law_4 kX8_init ml_L_9 rfl rfl iwX8_init (Nat.le_of_ble_eq_true rfl) rfl (Nat.le_of_ble_eq_true rfl) (by decide) (by decide) ?_
  refine c_X8_init (by decide) ?_
  show V g mL_law 40 (600000, 7302250, 37, 3334) Q 7 [(0, .ref 0)] [.ref 1] (yCells ++ [])
  refine v_astore_n (pc := 7) dL_law_7 (by decide) ?_
  refine v_kN (W0 := yCells) (l := []) (n := 37) 0 [.inr (9, [.null, .null, .null, .null, .null, .null, .null, .null, .null, .null, .null, .null, .int 0, .int 0, .int 0, .int 0, .int 0, .null, .null, .null, .int 0, .null, .null, .null, .null, .null, .null, .int 0, .null, .int 0, .int 0, .int 0, .int 0, .int 0, .int 0, .int 0, .long 0, .long 0, .null, .int 0, .null, .null, .null, .null, .null, .int 0, .int 0])] (pc := 8) rfl rfl dL_law_8 rfl cl_L_10 in_X9 it_X9 tyX9 tyX9_ok (fun a j hj => by rcases (show j = 0 ∨ j = 1 ∨ j = 2 ∨ j = 3 ∨ j = 4 ∨ j = 5 ∨ j = 6 ∨ j = 7 ∨ j = 8 ∨ j = 9 ∨ j = 10 ∨ j = 11 ∨ j = 12 ∨ j = 13 ∨ j = 14 ∨ j = 15 ∨ j = 16 ∨ j = 17 ∨ j = 18 ∨ j = 19 ∨ j = 20 ∨ j = 21 ∨ j = 22 ∨ j = 23 ∨ j = 24 ∨ j = 25 ∨ j = 26 ∨ j = 27 ∨ j = 28 ∨ j = 29 ∨ j = 30 ∨ j = 31 ∨ j = 32 ∨ j = 33 ∨ j = 34 ∨ j = 35 ∨ j = 36 ∨ j = 37 ∨ j = 38 ∨ j = 39 ∨ j = 40 ∨ j = 41 ∨ j = 42 ∨ j = 43 ∨ j = 44 ∨ j = 45 ∨ j = 46 by omega) with rfl | rfl | rfl | rfl | rfl | rfl | rfl | rfl | rfl | rfl | rfl | rfl | rfl | rfl | rfl | rfl | rfl | rfl | rfl | rfl | rfl | rfl | rfl | rfl | rfl | rfl | rfl | rfl | rfl | rfl | rfl | rfl | rfl | rfl | rfl | rfl | rfl | rfl | rfl | rfl | rfl | rfl | rfl | rfl | rfl | rfl | rfl <;> rfl) (by decide) rfl ?_
  refine v_dup (pc := 11) dL_law_11 rfl ?_
  refine v_callI (p0 := 37) (As := []) (st := [.ref 38]) (mc := 28) (ms := 202) (d' := 30) (pc := 12) dL_law_12 kX9_init ml_L_12 rfl rfl iwX9_init (Nat.le_of_ble_eq_true rfl) rfl (Nat.le_of_ble_eq_true rfl) (by decide) (by decide) ?_
  refine c_X9_init (W0 := yCells) (n := 37) rfl (by decide) ?_
  rw [init_eq]
  show V g mL_law 40 (600000, 7302250, 66, 3583) Q 15 [(1, .ref 1), (0, .ref 0)] [.ref 38] (hp yInit)
  refine v_astore_n (pc := 15) dL_law_15 (by decide) ?_
  refine v_iconst (pc := 16) (0) dL_law_16 (by decide) ?_
  refine v_istore_n (pc := 17) dL_law_17 (by decide) ?_
  exact v_lv hK ⟨rfl, rfl, rfl, rfl, trivial⟩
