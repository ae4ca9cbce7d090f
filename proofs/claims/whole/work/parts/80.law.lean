theorem v_same {g : vGl} {M : vMt} {d : Nat} {N : Nat × Nat × Nat × Nat} {Q : Option Value → List mC → Prop} {pc : Nat} {lv : List (Nat × Value)} {st : List Value} {w : List mC} {z off : Int} (tgt : Nat) (hd : decode M.2.2.1 pc = .ok (.if_icmp .eq off, 3)) (ht : (pc : Int) + off = (tgt : Int)) (k : V g M d N Q tgt lv st w) : V g M d N Q pc lv (vi z :: vi z :: st) w := by
  intro p e R s m args below meth c a cls D H locs ls QQ hF hG hR hl hr
  exact lv_icmp_eq hF.1 hF.2.1 hd ht (fun _ => k p e R s m args below meth c a cls D H locs ls QQ hF hG hR hl hr) (fun h => absurd rfl h)
theorem vrI (y : Int32) : vr y.toInt := ⟨Int32.le_toInt y, by have := Int32.toInt_lt y; omega⟩
theorem and31 (s : Int) : ∃ q : Int, 0 ≤ q ∧ q < 32 ∧ Int32.ofInt s &&& Int32.ofInt 31 = Int32.ofInt q := by
  have e := pk_and (Int32.ofInt s) (m := Int32.ofInt 31) 5 (by decide)
  refine ⟨(((Int32.ofInt s).toBitVec.toNat % 2 ^ 5 : Nat) : Int), by omega, by omega, ?_⟩
  rw [e, Int32.ofInt_eq_ofNat]
  rfl
/-- class' and reference's method answer alike, and leave the two alike -/
abbrev vPair (Inv : vSt → Prop) (g : vGl) (mX mM : vMt) (As : List Value) : Prop := ∀ (σ : vSt) (Q : Option Value → List mC → Prop), Inv σ → (∀ (r : Int) (τ : vSt), (∀ Q' : Option Value → List mC → Prop, (∀ τ', Inv τ' → Q' (some (vi r)) (hp τ')) → V g mM 39 (0, 0, 0, 0) Q' 0 (vargs 0 (.ref 38 :: As)) [] (hp τ)) → Q (some (vi r)) (hp τ)) → V g mX 39 (0, 0, 0, 0) Q 0 (vargs 0 (.ref 1 :: As)) [] (hp σ)
abbrev vP_engine (Inv : vSt → Prop) (g : vGl) : Prop := ∀ a b c d : Int, vr a → vr b → vr c → vr d → vPair Inv g mX8_engine mX9_engine [vi a, vi b, vi c, vi d]
abbrev vP_store (Inv : vSt → Prop) (g : vGl) : Prop := ∀ a b : Int, vr a → vr b → vPair Inv g mX8_store mX9_store [vi a, vi b]
abbrev vP_stage (Inv : vSt → Prop) (g : vGl) : Prop := ∀ a b c d : Int, vr a → vr b → vr c → vr d → vPair Inv g mX8_stage mX9_stage [vi a, vi b, vi c, vi d]
abbrev vP_undo (Inv : vSt → Prop) (g : vGl) : Prop := vPair Inv g mX8_undo mX9_undo []
abbrev vP_stuff (Inv : vSt → Prop) (g : vGl) : Prop := ∀ a b : Int, vr a → vr b → vPair Inv g mX8_stuff mX9_stuff [vi a, vi b]
abbrev vP_set (Inv : vSt → Prop) (g : vGl) : Prop := ∀ a b : Int, vr a → vr b → vPair Inv g mX8_set mX9_set [vi a, vi b]
abbrev vP_about (Inv : vSt → Prop) (g : vGl) : Prop := ∀ a b : Int, vr a → vr b → vPair Inv g mX8_about mX9_about [vi a, vi b]
abbrev vP_speed (Inv : vSt → Prop) (g : vGl) : Prop := ∀ a : Int, vr a → vPair Inv g mX8_speed mX9_speed [vi a]
abbrev vP_split (Inv : vSt → Prop) (g : vGl) : Prop := ∀ a b : Int, vr a → vr b → vPair Inv g mX8_split mX9_split [vi a, vi b]
abbrev vP_lots (Inv : vSt → Prop) (g : vGl) : Prop := ∀ a : Int, vr a → vPair Inv g mX8_lots mX9_lots [vi a]
abbrev vP_cheapest (Inv : vSt → Prop) (g : vGl) : Prop := ∀ a b : Int, vr a → vr b → vPair Inv g mX8_cheapest mX9_cheapest [vi a, vi b]
abbrev vP_chosen (Inv : vSt → Prop) (g : vGl) : Prop := ∀ a b : Int, vr a → vr b → vPair Inv g mX8_chosen mX9_chosen [vi a, vi b]
abbrev vP_air (Inv : vSt → Prop) (g : vGl) : Prop := ∀ a b : Int, vr a → vr b → vPair Inv g mX8_air mX9_air [vi a, vi b]
abbrev vP_limit (Inv : vSt → Prop) (g : vGl) : Prop := ∀ a b : Int, vr a → vr b → vPair Inv g mX8_limit mX9_limit [vi a, vi b]
abbrev vP_fly (Inv : vSt → Prop) (g : vGl) : Prop := vPair Inv g mX8_fly mX9_fly []
abbrev vP_flown (Inv : vSt → Prop) (g : vGl) : Prop := ∀ a : Int, vr a → vPair Inv g mX8_flown mX9_flown [vi a]
abbrev vP_out (Inv : vSt → Prop) (g : vGl) : Prop := ∀ a : Int, vr a → vPair Inv g mX8_out mX9_out [vi a]
abbrev vP_safe (Inv : vSt → Prop) (g : vGl) : Prop := vPair Inv g mX8_safe mX9_safe []
abbrev vP_cost (Inv : vSt → Prop) (g : vGl) : Prop := ∀ a b : Int, vr a → vr b → vPair Inv g mX8_cost mX9_cost [vi a, vi b]
abbrev vP_price (Inv : vSt → Prop) (g : vGl) : Prop := vPair Inv g mX8_price mX9_price []
abbrev vP_buy (Inv : vSt → Prop) (g : vGl) : Prop := vPair Inv g mX8_buy mX9_buy []
abbrev vP_keeping (Inv : vSt → Prop) (g : vGl) : Prop := ∀ a b : Int, vr a → vr b → vPair Inv g mX8_keeping mX9_keeping [vi a, vi b]
abbrev vP_even (Inv : vSt → Prop) (g : vGl) : Prop := ∀ a b c : Int, vr a → vr b → vr c → vPair Inv g mX8_even mX9_even [vi a, vi b, vi c]
abbrev vP_flight (Inv : vSt → Prop) (g : vGl) : Prop := ∀ a b c d e : Int, vr a → vr b → vr c → vr d → vr e → vPair Inv g mX8_flight mX9_flight [vi a, vi b, vi c, vi d, vi e]
abbrev vP_deliver (Inv : vSt → Prop) (g : vGl) : Prop := ∀ a b c : Int, vr a → vr b → vr c → vPair Inv g mX8_deliver mX9_deliver [vi a, vi b, vi c]
abbrev vP_year (Inv : vSt → Prop) (g : vGl) : Prop := vPair Inv g mX8_year mX9_year []
abbrev vP_flights (Inv : vSt → Prop) (g : vGl) : Prop := vPair Inv g mX8_flights mX9_flights []
abbrev vP_count (Inv : vSt → Prop) (g : vGl) : Prop := ∀ a : Int, vr a → vPair Inv g mX8_count mX9_count [vi a]
def vLaw (Inv : vSt → Prop) (g : vGl) : Prop := vP_engine Inv g ∧ vP_store Inv g ∧ vP_stage Inv g ∧ vP_undo Inv g ∧ vP_stuff Inv g ∧ vP_set Inv g ∧ vP_about Inv g ∧ vP_speed Inv g ∧ vP_split Inv g ∧ vP_lots Inv g ∧ vP_cheapest Inv g ∧ vP_chosen Inv g ∧ vP_air Inv g ∧ vP_limit Inv g ∧ vP_fly Inv g ∧ vP_flown Inv g ∧ vP_out Inv g ∧ vP_safe Inv g ∧ vP_cost Inv g ∧ vP_price Inv g ∧ vP_buy Inv g ∧ vP_keeping Inv g ∧ vP_even Inv g ∧ vP_flight Inv g ∧ vP_deliver Inv g ∧ vP_year Inv g ∧ vP_flights Inv g ∧ vP_count Inv g
set_option maxHeartbeats 16000000 in
set_option maxRecDepth 100000 in
theorem law_loop {Inv : vSt → Prop} {g : vGl} (hL : g.2.1 ≤ 3072) (hP : vLaw Inv g) : ∀ (n : Nat) (x : Int) (σ : vSt), Inv σ → 0 ≤ x ∧ x ≤ 4000 → (g.2.1 : Int) ≤ x + 6 * n → V g mL_law 40 lN0 (fun r _ => r = some (vi 1)) 18 [(0, .ref 0), (1, .ref 1), (2, .ref 38), (3, vi x)] [] (hp σ) := by
  obtain ⟨p0, p1, p2, p3, p4, p5, p6, p7, p8, p9, p10, p11, p12, p13, p14, p15, p16, p17, p18, p19, p20, p21, p22, p23, p24, p25, p26, p27⟩ := hP
  intro n
  induction n with
  | zero =>
    intro x σ hI hx hn
    refine v_iload_n (pc := 18) dL_law_18 rfl ?_
    refine v_aload_n (pc := 19) dL_law_19 rfl ?_
    refine v_slen (pc := 20) dL_law_20 ?_
    refine v_bipush (pc := 21) (6) dL_law_21 (by decide) ?_
    refine v_isub (pc := 23) dL_law_23 ?_
    refine v_icmp_gt (pc := 24) 990 dL_law_24 (by decide) (by omega) (by omega) (fun h24 => ?_) (fun h24 => by exfalso; omega)
    refine v_iconst (pc := 990) (1) dL_law_990 (by decide) ?_
    refine v_ireturn (pc := 991) dL_law_991 rfl (vZ (by omega)) ⟨by decide, by decide⟩ ?_
    rfl
  | succ n ih =>
    intro x σ hI hx hn
    refine v_iload_n (pc := 18) dL_law_18 rfl ?_
    refine v_aload_n (pc := 19) dL_law_19 rfl ?_
    refine v_slen (pc := 20) dL_law_20 ?_
    refine v_bipush (pc := 21) (6) dL_law_21 (by decide) ?_
    refine v_isub (pc := 23) dL_law_23 ?_
    refine v_icmp_gt (pc := 24) 990 dL_law_24 (by decide) (by omega) (by omega) (fun h24 => ?_) (fun h24 => ?_)
    · refine v_iconst (pc := 990) (1) dL_law_990 (by decide) ?_
      refine v_ireturn (pc := 991) dL_law_991 rfl (vZ (by omega)) ⟨by decide, by decide⟩ ?_
      rfl
    · refine v_aload_n (pc := 27) dL_law_27 rfl ?_
      refine v_iload_n (pc := 28) dL_law_28 rfl ?_
      refine v_sld (pc := 29) dL_law_29 (by omega) (by omega) (by omega) ?_
      obtain ⟨q, q0, q1, et⟩ := and31 (g.2.2 x.toNat).toInt
      refine v_bipush (pc := 30) (31) dL_law_30 (by decide) ?_
      refine v_iand (pc := 32) dL_law_32 et ?_
      rcases (show (q < 0 ∨ 27 < q) ∨ q = 0 ∨ q = 1 ∨ q = 2 ∨ q = 3 ∨ q = 4 ∨ q = 5 ∨ q = 6 ∨ q = 7 ∨ q = 8 ∨ q = 9 ∨ q = 10 ∨ q = 11 ∨ q = 12 ∨ q = 13 ∨ q = 14 ∨ q = 15 ∨ q = 16 ∨ q = 17 ∨ q = 18 ∨ q = 19 ∨ q = 20 ∨ q = 21 ∨ q = 22 ∨ q = 23 ∨ q = 24 ∨ q = 25 ∨ q = 26 ∨ q = 27 by omega) with hsw | rfl | rfl | rfl | rfl | rfl | rfl | rfl | rfl | rfl | rfl | rfl | rfl | rfl | rfl | rfl | rfl | rfl | rfl | rfl | rfl | rfl | rfl | rfl | rfl | rfl | rfl | rfl | rfl
      · refine v_tableOut (pc := 33) 984 dL_law_33 (by omega) hsw (by decide) ?_
        refine v_iinc (pc := 984) (6) dL_law_984 rfl (by decide) (by decide) ?_
        refine v_goto (pc := 987) 18 dL_law_987 (by decide) ?_
        first | exact v_lv (ih (x + 6) _ hI' (by omega) (by omega)) ⟨rfl, rfl, rfl, rfl, trivial⟩ | exact v_lv (ih (x + 6) _ hI (by omega) (by omega)) ⟨rfl, rfl, rfl, rfl, trivial⟩
      · refine v_tableIn (pc := 33) 160 dL_law_33 (by decide) (by decide) (by decide) rfl (by decide) ?_
        refine v_aload_n (pc := 160) dL_law_160 rfl ?_
        refine v_aload_n (pc := 161) dL_law_161 rfl ?_
        refine v_iload_n (pc := 162) dL_law_162 rfl ?_
        refine v_iconst (pc := 163) (1) dL_law_163 (by decide) ?_
        refine v_iadd (pc := 164) dL_law_164 ?_
        refine v_sld (pc := 165) dL_law_165 (by omega) (by omega) (by omega) ?_
        refine v_aload_n (pc := 166) dL_law_166 rfl ?_
        refine v_iload_n (pc := 167) dL_law_167 rfl ?_
        refine v_iconst (pc := 168) (2) dL_law_168 (by decide) ?_
        refine v_iadd (pc := 169) dL_law_169 ?_
        refine v_sld (pc := 170) dL_law_170 (by omega) (by omega) (by omega) ?_
        refine v_aload_n (pc := 171) dL_law_171 rfl ?_
        refine v_iload_n (pc := 172) dL_law_172 rfl ?_
        refine v_iconst (pc := 173) (3) dL_law_173 (by decide) ?_
        refine v_iadd (pc := 174) dL_law_174 ?_
        refine v_sld (pc := 175) dL_law_175 (by omega) (by omega) (by omega) ?_
        refine v_aload_n (pc := 176) dL_law_176 rfl ?_
        refine v_iload_n (pc := 177) dL_law_177 rfl ?_
        refine v_iconst (pc := 178) (4) dL_law_178 (by decide) ?_
        refine v_iadd (pc := 179) dL_law_179 ?_
        refine v_sld (pc := 180) dL_law_180 (by omega) (by omega) (by omega) ?_
        refine v_cVi4 (pc := 181) (z := 0) (d' := 39) dL_law_181 kX8_engine ml_L_13 iwX8_engine swX8_engine rfl rfl (Nat.le_of_ble_eq_true rfl) (Nat.le_of_ble_eq_true rfl) (by omega) ⟨by decide, by decide⟩ ?_
        refine p0 _ _ _ _ (vrI _) (vrI _) (vrI _) (vrI _) σ _ hI (fun r τ hM => ?_)
        refine ⟨_, rfl, ?_⟩
        refine v_aload_n (pc := 184) dL_law_184 rfl ?_
        refine v_aload_n (pc := 185) dL_law_185 rfl ?_
        refine v_iload_n (pc := 186) dL_law_186 rfl ?_
        refine v_iconst (pc := 187) (1) dL_law_187 (by decide) ?_
        refine v_iadd (pc := 188) dL_law_188 ?_
        refine v_sld (pc := 189) dL_law_189 (by omega) (by omega) (by omega) ?_
        refine v_aload_n (pc := 190) dL_law_190 rfl ?_
        refine v_iload_n (pc := 191) dL_law_191 rfl ?_
        refine v_iconst (pc := 192) (2) dL_law_192 (by decide) ?_
        refine v_iadd (pc := 193) dL_law_193 ?_
        refine v_sld (pc := 194) dL_law_194 (by omega) (by omega) (by omega) ?_
        refine v_aload_n (pc := 195) dL_law_195 rfl ?_
        refine v_iload_n (pc := 196) dL_law_196 rfl ?_
        refine v_iconst (pc := 197) (3) dL_law_197 (by decide) ?_
        refine v_iadd (pc := 198) dL_law_198 ?_
        refine v_sld (pc := 199) dL_law_199 (by omega) (by omega) (by omega) ?_
        refine v_aload_n (pc := 200) dL_law_200 rfl ?_
        refine v_iload_n (pc := 201) dL_law_201 rfl ?_
        refine v_iconst (pc := 202) (4) dL_law_202 (by decide) ?_
        refine v_iadd (pc := 203) dL_law_203 ?_
        refine v_sld (pc := 204) dL_law_204 (by omega) (by omega) (by omega) ?_
        refine v_cVi4 (pc := 205) (z := 0) (d' := 39) dL_law_205 kX9_engine ml_L_17 iwX9_engine swX9_engine rfl rfl (Nat.le_of_ble_eq_true rfl) (Nat.le_of_ble_eq_true rfl) (by omega) ⟨by decide, by decide⟩ ?_
        refine hM _ (fun τ' hI' => ?_)
        refine ⟨_, rfl, ?_⟩
        refine v_same (pc := 208) 984 dL_law_208 (by decide) ?_
        refine v_iinc (pc := 984) (6) dL_law_984 rfl (by decide) (by decide) ?_
        refine v_goto (pc := 987) 18 dL_law_987 (by decide) ?_
        first | exact v_lv (ih (x + 6) _ hI' (by omega) (by omega)) ⟨rfl, rfl, rfl, rfl, trivial⟩ | exact v_lv (ih (x + 6) _ hI (by omega) (by omega)) ⟨rfl, rfl, rfl, rfl, trivial⟩
      · refine v_tableIn (pc := 33) 213 dL_law_33 (by decide) (by decide) (by decide) rfl (by decide) ?_
        refine v_aload_n (pc := 213) dL_law_213 rfl ?_
        refine v_aload_n (pc := 214) dL_law_214 rfl ?_
        refine v_iload_n (pc := 215) dL_law_215 rfl ?_
        refine v_iconst (pc := 216) (1) dL_law_216 (by decide) ?_
        refine v_iadd (pc := 217) dL_law_217 ?_
        refine v_sld (pc := 218) dL_law_218 (by omega) (by omega) (by omega) ?_
        refine v_aload_n (pc := 219) dL_law_219 rfl ?_
        refine v_iload_n (pc := 220) dL_law_220 rfl ?_
        refine v_iconst (pc := 221) (2) dL_law_221 (by decide) ?_
        refine v_iadd (pc := 222) dL_law_222 ?_
        refine v_sld (pc := 223) dL_law_223 (by omega) (by omega) (by omega) ?_
        refine v_cVi2 (pc := 224) (z := 0) (d' := 39) dL_law_224 kX8_store ml_L_18 iwX8_store swX8_store rfl rfl (Nat.le_of_ble_eq_true rfl) (Nat.le_of_ble_eq_true rfl) (by omega) ⟨by decide, by decide⟩ ?_
        refine p1 _ _ (vrI _) (vrI _) σ _ hI (fun r τ hM => ?_)
        refine ⟨_, rfl, ?_⟩
        refine v_aload_n (pc := 227) dL_law_227 rfl ?_
        refine v_aload_n (pc := 228) dL_law_228 rfl ?_
        refine v_iload_n (pc := 229) dL_law_229 rfl ?_
        refine v_iconst (pc := 230) (1) dL_law_230 (by decide) ?_
        refine v_iadd (pc := 231) dL_law_231 ?_
        refine v_sld (pc := 232) dL_law_232 (by omega) (by omega) (by omega) ?_
        refine v_aload_n (pc := 233) dL_law_233 rfl ?_
        refine v_iload_n (pc := 234) dL_law_234 rfl ?_
        refine v_iconst (pc := 235) (2) dL_law_235 (by decide) ?_
        refine v_iadd (pc := 236) dL_law_236 ?_
        refine v_sld (pc := 237) dL_law_237 (by omega) (by omega) (by omega) ?_
        refine v_cVi2 (pc := 238) (z := 0) (d' := 39) dL_law_238 kX9_store ml_L_22 iwX9_store swX9_store rfl rfl (Nat.le_of_ble_eq_true rfl) (Nat.le_of_ble_eq_true rfl) (by omega) ⟨by decide, by decide⟩ ?_
        refine hM _ (fun τ' hI' => ?_)
        refine ⟨_, rfl, ?_⟩
        refine v_same (pc := 241) 984 dL_law_241 (by decide) ?_
        refine v_iinc (pc := 984) (6) dL_law_984 rfl (by decide) (by decide) ?_
        refine v_goto (pc := 987) 18 dL_law_987 (by decide) ?_
        first | exact v_lv (ih (x + 6) _ hI' (by omega) (by omega)) ⟨rfl, rfl, rfl, rfl, trivial⟩ | exact v_lv (ih (x + 6) _ hI (by omega) (by omega)) ⟨rfl, rfl, rfl, rfl, trivial⟩
      · refine v_tableIn (pc := 33) 246 dL_law_33 (by decide) (by decide) (by decide) rfl (by decide) ?_
        refine v_aload_n (pc := 246) dL_law_246 rfl ?_
        refine v_aload_n (pc := 247) dL_law_247 rfl ?_
        refine v_iload_n (pc := 248) dL_law_248 rfl ?_
        refine v_iconst (pc := 249) (1) dL_law_249 (by decide) ?_
        refine v_iadd (pc := 250) dL_law_250 ?_
        refine v_sld (pc := 251) dL_law_251 (by omega) (by omega) (by omega) ?_
        refine v_aload_n (pc := 252) dL_law_252 rfl ?_
        refine v_iload_n (pc := 253) dL_law_253 rfl ?_
        refine v_iconst (pc := 254) (2) dL_law_254 (by decide) ?_
        refine v_iadd (pc := 255) dL_law_255 ?_
        refine v_sld (pc := 256) dL_law_256 (by omega) (by omega) (by omega) ?_
        refine v_aload_n (pc := 257) dL_law_257 rfl ?_
        refine v_iload_n (pc := 258) dL_law_258 rfl ?_
        refine v_iconst (pc := 259) (3) dL_law_259 (by decide) ?_
        refine v_iadd (pc := 260) dL_law_260 ?_
        refine v_sld (pc := 261) dL_law_261 (by omega) (by omega) (by omega) ?_
        refine v_aload_n (pc := 262) dL_law_262 rfl ?_
        refine v_iload_n (pc := 263) dL_law_263 rfl ?_
        refine v_iconst (pc := 264) (4) dL_law_264 (by decide) ?_
        refine v_iadd (pc := 265) dL_law_265 ?_
        refine v_sld (pc := 266) dL_law_266 (by omega) (by omega) (by omega) ?_
        refine v_cVi4 (pc := 267) (z := 0) (d' := 39) dL_law_267 kX8_stage ml_L_23 iwX8_stage swX8_stage rfl rfl (Nat.le_of_ble_eq_true rfl) (Nat.le_of_ble_eq_true rfl) (by omega) ⟨by decide, by decide⟩ ?_
        refine p2 _ _ _ _ (vrI _) (vrI _) (vrI _) (vrI _) σ _ hI (fun r τ hM => ?_)
        refine ⟨_, rfl, ?_⟩
        refine v_aload_n (pc := 270) dL_law_270 rfl ?_
        refine v_aload_n (pc := 271) dL_law_271 rfl ?_
        refine v_iload_n (pc := 272) dL_law_272 rfl ?_
        refine v_iconst (pc := 273) (1) dL_law_273 (by decide) ?_
        refine v_iadd (pc := 274) dL_law_274 ?_
        refine v_sld (pc := 275) dL_law_275 (by omega) (by omega) (by omega) ?_
        refine v_aload_n (pc := 276) dL_law_276 rfl ?_
        refine v_iload_n (pc := 277) dL_law_277 rfl ?_
        refine v_iconst (pc := 278) (2) dL_law_278 (by decide) ?_
        refine v_iadd (pc := 279) dL_law_279 ?_
        refine v_sld (pc := 280) dL_law_280 (by omega) (by omega) (by omega) ?_
        refine v_aload_n (pc := 281) dL_law_281 rfl ?_
        refine v_iload_n (pc := 282) dL_law_282 rfl ?_
        refine v_iconst (pc := 283) (3) dL_law_283 (by decide) ?_
        refine v_iadd (pc := 284) dL_law_284 ?_
        refine v_sld (pc := 285) dL_law_285 (by omega) (by omega) (by omega) ?_
        refine v_aload_n (pc := 286) dL_law_286 rfl ?_
        refine v_iload_n (pc := 287) dL_law_287 rfl ?_
        refine v_iconst (pc := 288) (4) dL_law_288 (by decide) ?_
        refine v_iadd (pc := 289) dL_law_289 ?_
        refine v_sld (pc := 290) dL_law_290 (by omega) (by omega) (by omega) ?_
        refine v_cVi4 (pc := 291) (z := 0) (d' := 39) dL_law_291 kX9_stage ml_L_26 iwX9_stage swX9_stage rfl rfl (Nat.le_of_ble_eq_true rfl) (Nat.le_of_ble_eq_true rfl) (by omega) ⟨by decide, by decide⟩ ?_
        refine hM _ (fun τ' hI' => ?_)
        refine ⟨_, rfl, ?_⟩
        refine v_same (pc := 294) 984 dL_law_294 (by decide) ?_
        refine v_iinc (pc := 984) (6) dL_law_984 rfl (by decide) (by decide) ?_
        refine v_goto (pc := 987) 18 dL_law_987 (by decide) ?_
        first | exact v_lv (ih (x + 6) _ hI' (by omega) (by omega)) ⟨rfl, rfl, rfl, rfl, trivial⟩ | exact v_lv (ih (x + 6) _ hI (by omega) (by omega)) ⟨rfl, rfl, rfl, rfl, trivial⟩
      · refine v_tableIn (pc := 33) 299 dL_law_33 (by decide) (by decide) (by decide) rfl (by decide) ?_
        refine v_aload_n (pc := 299) dL_law_299 rfl ?_
        refine v_cVi0 (pc := 300) (z := 0) (d' := 39) dL_law_300 kX8_undo ml_L_27 iwX8_undo swX8_undo rfl rfl (Nat.le_of_ble_eq_true rfl) (Nat.le_of_ble_eq_true rfl) (by omega) ⟨by decide, by decide⟩ ?_
        refine p3 σ _ hI (fun r τ hM => ?_)
        refine ⟨_, rfl, ?_⟩
        refine v_aload_n (pc := 303) dL_law_303 rfl ?_
        refine v_cVi0 (pc := 304) (z := 0) (d' := 39) dL_law_304 kX9_undo ml_L_31 iwX9_undo swX9_undo rfl rfl (Nat.le_of_ble_eq_true rfl) (Nat.le_of_ble_eq_true rfl) (by omega) ⟨by decide, by decide⟩ ?_
        refine hM _ (fun τ' hI' => ?_)
        refine ⟨_, rfl, ?_⟩
        refine v_same (pc := 307) 984 dL_law_307 (by decide) ?_
        refine v_iinc (pc := 984) (6) dL_law_984 rfl (by decide) (by decide) ?_
        refine v_goto (pc := 987) 18 dL_law_987 (by decide) ?_
        first | exact v_lv (ih (x + 6) _ hI' (by omega) (by omega)) ⟨rfl, rfl, rfl, rfl, trivial⟩ | exact v_lv (ih (x + 6) _ hI (by omega) (by omega)) ⟨rfl, rfl, rfl, rfl, trivial⟩
      · refine v_tableIn (pc := 33) 312 dL_law_33 (by decide) (by decide) (by decide) rfl (by decide) ?_
        refine v_aload_n (pc := 312) dL_law_312 rfl ?_
        refine v_aload_n (pc := 313) dL_law_313 rfl ?_
        refine v_iload_n (pc := 314) dL_law_314 rfl ?_
        refine v_iconst (pc := 315) (1) dL_law_315 (by decide) ?_
        refine v_iadd (pc := 316) dL_law_316 ?_
        refine v_sld (pc := 317) dL_law_317 (by omega) (by omega) (by omega) ?_
        refine v_aload_n (pc := 318) dL_law_318 rfl ?_
        refine v_iload_n (pc := 319) dL_law_319 rfl ?_
        refine v_iconst (pc := 320) (2) dL_law_320 (by decide) ?_
        refine v_iadd (pc := 321) dL_law_321 ?_
        refine v_sld (pc := 322) dL_law_322 (by omega) (by omega) (by omega) ?_
        refine v_cVi2 (pc := 323) (z := 0) (d' := 39) dL_law_323 kX8_stuff ml_L_32 iwX8_stuff swX8_stuff rfl rfl (Nat.le_of_ble_eq_true rfl) (Nat.le_of_ble_eq_true rfl) (by omega) ⟨by decide, by decide⟩ ?_
        refine p4 _ _ (vrI _) (vrI _) σ _ hI (fun r τ hM => ?_)
        refine ⟨_, rfl, ?_⟩
        refine v_aload_n (pc := 326) dL_law_326 rfl ?_
        refine v_aload_n (pc := 327) dL_law_327 rfl ?_
        refine v_iload_n (pc := 328) dL_law_328 rfl ?_
        refine v_iconst (pc := 329) (1) dL_law_329 (by decide) ?_
        refine v_iadd (pc := 330) dL_law_330 ?_
        refine v_sld (pc := 331) dL_law_331 (by omega) (by omega) (by omega) ?_
        refine v_aload_n (pc := 332) dL_law_332 rfl ?_
        refine v_iload_n (pc := 333) dL_law_333 rfl ?_
        refine v_iconst (pc := 334) (2) dL_law_334 (by decide) ?_
        refine v_iadd (pc := 335) dL_law_335 ?_
        refine v_sld (pc := 336) dL_law_336 (by omega) (by omega) (by omega) ?_
        refine v_cVi2 (pc := 337) (z := 0) (d' := 39) dL_law_337 kX9_stuff ml_L_35 iwX9_stuff swX9_stuff rfl rfl (Nat.le_of_ble_eq_true rfl) (Nat.le_of_ble_eq_true rfl) (by omega) ⟨by decide, by decide⟩ ?_
        refine hM _ (fun τ' hI' => ?_)
        refine ⟨_, rfl, ?_⟩
        refine v_same (pc := 340) 984 dL_law_340 (by decide) ?_
        refine v_iinc (pc := 984) (6) dL_law_984 rfl (by decide) (by decide) ?_
        refine v_goto (pc := 987) 18 dL_law_987 (by decide) ?_
        first | exact v_lv (ih (x + 6) _ hI' (by omega) (by omega)) ⟨rfl, rfl, rfl, rfl, trivial⟩ | exact v_lv (ih (x + 6) _ hI (by omega) (by omega)) ⟨rfl, rfl, rfl, rfl, trivial⟩
      · refine v_tableIn (pc := 33) 345 dL_law_33 (by decide) (by decide) (by decide) rfl (by decide) ?_
        refine v_aload_n (pc := 345) dL_law_345 rfl ?_
        refine v_aload_n (pc := 346) dL_law_346 rfl ?_
        refine v_iload_n (pc := 347) dL_law_347 rfl ?_
        refine v_iconst (pc := 348) (1) dL_law_348 (by decide) ?_
        refine v_iadd (pc := 349) dL_law_349 ?_
        refine v_sld (pc := 350) dL_law_350 (by omega) (by omega) (by omega) ?_
        refine v_aload_n (pc := 351) dL_law_351 rfl ?_
        refine v_iload_n (pc := 352) dL_law_352 rfl ?_
        refine v_iconst (pc := 353) (2) dL_law_353 (by decide) ?_
        refine v_iadd (pc := 354) dL_law_354 ?_
        refine v_sld (pc := 355) dL_law_355 (by omega) (by omega) (by omega) ?_
        refine v_cVi2 (pc := 356) (z := 0) (d' := 39) dL_law_356 kX8_set ml_L_36 iwX8_set swX8_set rfl rfl (Nat.le_of_ble_eq_true rfl) (Nat.le_of_ble_eq_true rfl) (by omega) ⟨by decide, by decide⟩ ?_
        refine p5 _ _ (vrI _) (vrI _) σ _ hI (fun r τ hM => ?_)
        refine ⟨_, rfl, ?_⟩
        refine v_aload_n (pc := 359) dL_law_359 rfl ?_
        refine v_aload_n (pc := 360) dL_law_360 rfl ?_
        refine v_iload_n (pc := 361) dL_law_361 rfl ?_
        refine v_iconst (pc := 362) (1) dL_law_362 (by decide) ?_
        refine v_iadd (pc := 363) dL_law_363 ?_
        refine v_sld (pc := 364) dL_law_364 (by omega) (by omega) (by omega) ?_
        refine v_aload_n (pc := 365) dL_law_365 rfl ?_
        refine v_iload_n (pc := 366) dL_law_366 rfl ?_
        refine v_iconst (pc := 367) (2) dL_law_367 (by decide) ?_
        refine v_iadd (pc := 368) dL_law_368 ?_
        refine v_sld (pc := 369) dL_law_369 (by omega) (by omega) (by omega) ?_
        refine v_cVi2 (pc := 370) (z := 0) (d' := 39) dL_law_370 kX9_set ml_L_39 iwX9_set swX9_set rfl rfl (Nat.le_of_ble_eq_true rfl) (Nat.le_of_ble_eq_true rfl) (by omega) ⟨by decide, by decide⟩ ?_
        refine hM _ (fun τ' hI' => ?_)
        refine ⟨_, rfl, ?_⟩
        refine v_same (pc := 373) 984 dL_law_373 (by decide) ?_
        refine v_iinc (pc := 984) (6) dL_law_984 rfl (by decide) (by decide) ?_
        refine v_goto (pc := 987) 18 dL_law_987 (by decide) ?_
        first | exact v_lv (ih (x + 6) _ hI' (by omega) (by omega)) ⟨rfl, rfl, rfl, rfl, trivial⟩ | exact v_lv (ih (x + 6) _ hI (by omega) (by omega)) ⟨rfl, rfl, rfl, rfl, trivial⟩
      · refine v_tableIn (pc := 33) 378 dL_law_33 (by decide) (by decide) (by decide) rfl (by decide) ?_
        refine v_aload_n (pc := 378) dL_law_378 rfl ?_
        refine v_aload_n (pc := 379) dL_law_379 rfl ?_
        refine v_iload_n (pc := 380) dL_law_380 rfl ?_
        refine v_iconst (pc := 381) (1) dL_law_381 (by decide) ?_
        refine v_iadd (pc := 382) dL_law_382 ?_
        refine v_sld (pc := 383) dL_law_383 (by omega) (by omega) (by omega) ?_
        refine v_aload_n (pc := 384) dL_law_384 rfl ?_
        refine v_iload_n (pc := 385) dL_law_385 rfl ?_
        refine v_iconst (pc := 386) (2) dL_law_386 (by decide) ?_
        refine v_iadd (pc := 387) dL_law_387 ?_
        refine v_sld (pc := 388) dL_law_388 (by omega) (by omega) (by omega) ?_
        refine v_cVi2 (pc := 389) (z := 0) (d' := 39) dL_law_389 kX8_about ml_L_40 iwX8_about swX8_about rfl rfl (Nat.le_of_ble_eq_true rfl) (Nat.le_of_ble_eq_true rfl) (by omega) ⟨by decide, by decide⟩ ?_
        refine p6 _ _ (vrI _) (vrI _) σ _ hI (fun r τ hM => ?_)
        refine ⟨_, rfl, ?_⟩
        refine v_aload_n (pc := 392) dL_law_392 rfl ?_
        refine v_aload_n (pc := 393) dL_law_393 rfl ?_
        refine v_iload_n (pc := 394) dL_law_394 rfl ?_
        refine v_iconst (pc := 395) (1) dL_law_395 (by decide) ?_
        refine v_iadd (pc := 396) dL_law_396 ?_
        refine v_sld (pc := 397) dL_law_397 (by omega) (by omega) (by omega) ?_
        refine v_aload_n (pc := 398) dL_law_398 rfl ?_
        refine v_iload_n (pc := 399) dL_law_399 rfl ?_
        refine v_iconst (pc := 400) (2) dL_law_400 (by decide) ?_
        refine v_iadd (pc := 401) dL_law_401 ?_
        refine v_sld (pc := 402) dL_law_402 (by omega) (by omega) (by omega) ?_
        refine v_cVi2 (pc := 403) (z := 0) (d' := 39) dL_law_403 kX9_about ml_L_43 iwX9_about swX9_about rfl rfl (Nat.le_of_ble_eq_true rfl) (Nat.le_of_ble_eq_true rfl) (by omega) ⟨by decide, by decide⟩ ?_
        refine hM _ (fun τ' hI' => ?_)
        refine ⟨_, rfl, ?_⟩
        refine v_same (pc := 406) 984 dL_law_406 (by decide) ?_
        refine v_iinc (pc := 984) (6) dL_law_984 rfl (by decide) (by decide) ?_
        refine v_goto (pc := 987) 18 dL_law_987 (by decide) ?_
        first | exact v_lv (ih (x + 6) _ hI' (by omega) (by omega)) ⟨rfl, rfl, rfl, rfl, trivial⟩ | exact v_lv (ih (x + 6) _ hI (by omega) (by omega)) ⟨rfl, rfl, rfl, rfl, trivial⟩
      · refine v_tableIn (pc := 33) 411 dL_law_33 (by decide) (by decide) (by decide) rfl (by decide) ?_
        refine v_aload_n (pc := 411) dL_law_411 rfl ?_
        refine v_aload_n (pc := 412) dL_law_412 rfl ?_
        refine v_iload_n (pc := 413) dL_law_413 rfl ?_
        refine v_iconst (pc := 414) (1) dL_law_414 (by decide) ?_
        refine v_iadd (pc := 415) dL_law_415 ?_
        refine v_sld (pc := 416) dL_law_416 (by omega) (by omega) (by omega) ?_
        refine v_cVi1 (pc := 417) (z := 0) (d' := 39) dL_law_417 kX8_speed ml_L_44 iwX8_speed swX8_speed rfl rfl (Nat.le_of_ble_eq_true rfl) (Nat.le_of_ble_eq_true rfl) (by omega) ⟨by decide, by decide⟩ ?_
        refine p7 _ (vrI _) σ _ hI (fun r τ hM => ?_)
        refine ⟨_, rfl, ?_⟩
        refine v_aload_n (pc := 420) dL_law_420 rfl ?_
        refine v_aload_n (pc := 421) dL_law_421 rfl ?_
        refine v_iload_n (pc := 422) dL_law_422 rfl ?_
        refine v_iconst (pc := 423) (1) dL_law_423 (by decide) ?_
        refine v_iadd (pc := 424) dL_law_424 ?_
        refine v_sld (pc := 425) dL_law_425 (by omega) (by omega) (by omega) ?_
        refine v_cVi1 (pc := 426) (z := 0) (d' := 39) dL_law_426 kX9_speed ml_L_48 iwX9_speed swX9_speed rfl rfl (Nat.le_of_ble_eq_true rfl) (Nat.le_of_ble_eq_true rfl) (by omega) ⟨by decide, by decide⟩ ?_
        refine hM _ (fun τ' hI' => ?_)
        refine ⟨_, rfl, ?_⟩
        refine v_same (pc := 429) 984 dL_law_429 (by decide) ?_
        refine v_iinc (pc := 984) (6) dL_law_984 rfl (by decide) (by decide) ?_
        refine v_goto (pc := 987) 18 dL_law_987 (by decide) ?_
        first | exact v_lv (ih (x + 6) _ hI' (by omega) (by omega)) ⟨rfl, rfl, rfl, rfl, trivial⟩ | exact v_lv (ih (x + 6) _ hI (by omega) (by omega)) ⟨rfl, rfl, rfl, rfl, trivial⟩
      · refine v_tableIn (pc := 33) 434 dL_law_33 (by decide) (by decide) (by decide) rfl (by decide) ?_
        refine v_aload_n (pc := 434) dL_law_434 rfl ?_
        refine v_aload_n (pc := 435) dL_law_435 rfl ?_
        refine v_iload_n (pc := 436) dL_law_436 rfl ?_
        refine v_iconst (pc := 437) (1) dL_law_437 (by decide) ?_
        refine v_iadd (pc := 438) dL_law_438 ?_
        refine v_sld (pc := 439) dL_law_439 (by omega) (by omega) (by omega) ?_
        refine v_aload_n (pc := 440) dL_law_440 rfl ?_
        refine v_iload_n (pc := 441) dL_law_441 rfl ?_
        refine v_iconst (pc := 442) (2) dL_law_442 (by decide) ?_
        refine v_iadd (pc := 443) dL_law_443 ?_
        refine v_sld (pc := 444) dL_law_444 (by omega) (by omega) (by omega) ?_
        refine v_cVi2 (pc := 445) (z := 0) (d' := 39) dL_law_445 kX8_split ml_L_49 iwX8_split swX8_split rfl rfl (Nat.le_of_ble_eq_true rfl) (Nat.le_of_ble_eq_true rfl) (by omega) ⟨by decide, by decide⟩ ?_
        refine p8 _ _ (vrI _) (vrI _) σ _ hI (fun r τ hM => ?_)
        refine ⟨_, rfl, ?_⟩
        refine v_aload_n (pc := 448) dL_law_448 rfl ?_
        refine v_aload_n (pc := 449) dL_law_449 rfl ?_
        refine v_iload_n (pc := 450) dL_law_450 rfl ?_
        refine v_iconst (pc := 451) (1) dL_law_451 (by decide) ?_
        refine v_iadd (pc := 452) dL_law_452 ?_
        refine v_sld (pc := 453) dL_law_453 (by omega) (by omega) (by omega) ?_
        refine v_aload_n (pc := 454) dL_law_454 rfl ?_
        refine v_iload_n (pc := 455) dL_law_455 rfl ?_
        refine v_iconst (pc := 456) (2) dL_law_456 (by decide) ?_
        refine v_iadd (pc := 457) dL_law_457 ?_
        refine v_sld (pc := 458) dL_law_458 (by omega) (by omega) (by omega) ?_
        refine v_cVi2 (pc := 459) (z := 0) (d' := 39) dL_law_459 kX9_split ml_L_52 iwX9_split swX9_split rfl rfl (Nat.le_of_ble_eq_true rfl) (Nat.le_of_ble_eq_true rfl) (by omega) ⟨by decide, by decide⟩ ?_
        refine hM _ (fun τ' hI' => ?_)
        refine ⟨_, rfl, ?_⟩
        refine v_same (pc := 462) 984 dL_law_462 (by decide) ?_
        refine v_iinc (pc := 984) (6) dL_law_984 rfl (by decide) (by decide) ?_
        refine v_goto (pc := 987) 18 dL_law_987 (by decide) ?_
        first | exact v_lv (ih (x + 6) _ hI' (by omega) (by omega)) ⟨rfl, rfl, rfl, rfl, trivial⟩ | exact v_lv (ih (x + 6) _ hI (by omega) (by omega)) ⟨rfl, rfl, rfl, rfl, trivial⟩
      · refine v_tableIn (pc := 33) 467 dL_law_33 (by decide) (by decide) (by decide) rfl (by decide) ?_
        refine v_aload_n (pc := 467) dL_law_467 rfl ?_
        refine v_aload_n (pc := 468) dL_law_468 rfl ?_
        refine v_iload_n (pc := 469) dL_law_469 rfl ?_
        refine v_iconst (pc := 470) (1) dL_law_470 (by decide) ?_
        refine v_iadd (pc := 471) dL_law_471 ?_
        refine v_sld (pc := 472) dL_law_472 (by omega) (by omega) (by omega) ?_
        refine v_cVi1 (pc := 473) (z := 0) (d' := 39) dL_law_473 kX8_lots ml_L_53 iwX8_lots swX8_lots rfl rfl (Nat.le_of_ble_eq_true rfl) (Nat.le_of_ble_eq_true rfl) (by omega) ⟨by decide, by decide⟩ ?_
        refine p9 _ (vrI _) σ _ hI (fun r τ hM => ?_)
        refine ⟨_, rfl, ?_⟩
        refine v_aload_n (pc := 476) dL_law_476 rfl ?_
        refine v_aload_n (pc := 477) dL_law_477 rfl ?_
        refine v_iload_n (pc := 478) dL_law_478 rfl ?_
        refine v_iconst (pc := 479) (1) dL_law_479 (by decide) ?_
        refine v_iadd (pc := 480) dL_law_480 ?_
        refine v_sld (pc := 481) dL_law_481 (by omega) (by omega) (by omega) ?_
        refine v_cVi1 (pc := 482) (z := 0) (d' := 39) dL_law_482 kX9_lots ml_L_56 iwX9_lots swX9_lots rfl rfl (Nat.le_of_ble_eq_true rfl) (Nat.le_of_ble_eq_true rfl) (by omega) ⟨by decide, by decide⟩ ?_
        refine hM _ (fun τ' hI' => ?_)
        refine ⟨_, rfl, ?_⟩
        refine v_same (pc := 485) 984 dL_law_485 (by decide) ?_
        refine v_iinc (pc := 984) (6) dL_law_984 rfl (by decide) (by decide) ?_
        refine v_goto (pc := 987) 18 dL_law_987 (by decide) ?_
        first | exact v_lv (ih (x + 6) _ hI' (by omega) (by omega)) ⟨rfl, rfl, rfl, rfl, trivial⟩ | exact v_lv (ih (x + 6) _ hI (by omega) (by omega)) ⟨rfl, rfl, rfl, rfl, trivial⟩
      · refine v_tableIn (pc := 33) 490 dL_law_33 (by decide) (by decide) (by decide) rfl (by decide) ?_
        refine v_aload_n (pc := 490) dL_law_490 rfl ?_
        refine v_aload_n (pc := 491) dL_law_491 rfl ?_
        refine v_iload_n (pc := 492) dL_law_492 rfl ?_
        refine v_iconst (pc := 493) (1) dL_law_493 (by decide) ?_
        refine v_iadd (pc := 494) dL_law_494 ?_
        refine v_sld (pc := 495) dL_law_495 (by omega) (by omega) (by omega) ?_
        refine v_aload_n (pc := 496) dL_law_496 rfl ?_
        refine v_iload_n (pc := 497) dL_law_497 rfl ?_
        refine v_iconst (pc := 498) (2) dL_law_498 (by decide) ?_
        refine v_iadd (pc := 499) dL_law_499 ?_
        refine v_sld (pc := 500) dL_law_500 (by omega) (by omega) (by omega) ?_
        refine v_cVi2 (pc := 501) (z := 0) (d' := 39) dL_law_501 kX8_cheapest ml_L_57 iwX8_cheapest swX8_cheapest rfl rfl (Nat.le_of_ble_eq_true rfl) (Nat.le_of_ble_eq_true rfl) (by omega) ⟨by decide, by decide⟩ ?_
        refine p10 _ _ (vrI _) (vrI _) σ _ hI (fun r τ hM => ?_)
        refine ⟨_, rfl, ?_⟩
        refine v_aload_n (pc := 504) dL_law_504 rfl ?_
        refine v_aload_n (pc := 505) dL_law_505 rfl ?_
        refine v_iload_n (pc := 506) dL_law_506 rfl ?_
        refine v_iconst (pc := 507) (1) dL_law_507 (by decide) ?_
        refine v_iadd (pc := 508) dL_law_508 ?_
        refine v_sld (pc := 509) dL_law_509 (by omega) (by omega) (by omega) ?_
        refine v_aload_n (pc := 510) dL_law_510 rfl ?_
        refine v_iload_n (pc := 511) dL_law_511 rfl ?_
        refine v_iconst (pc := 512) (2) dL_law_512 (by decide) ?_
        refine v_iadd (pc := 513) dL_law_513 ?_
        refine v_sld (pc := 514) dL_law_514 (by omega) (by omega) (by omega) ?_
        refine v_cVi2 (pc := 515) (z := 0) (d' := 39) dL_law_515 kX9_cheapest ml_L_60 iwX9_cheapest swX9_cheapest rfl rfl (Nat.le_of_ble_eq_true rfl) (Nat.le_of_ble_eq_true rfl) (by omega) ⟨by decide, by decide⟩ ?_
        refine hM _ (fun τ' hI' => ?_)
        refine ⟨_, rfl, ?_⟩
        refine v_same (pc := 518) 984 dL_law_518 (by decide) ?_
        refine v_iinc (pc := 984) (6) dL_law_984 rfl (by decide) (by decide) ?_
        refine v_goto (pc := 987) 18 dL_law_987 (by decide) ?_
        first | exact v_lv (ih (x + 6) _ hI' (by omega) (by omega)) ⟨rfl, rfl, rfl, rfl, trivial⟩ | exact v_lv (ih (x + 6) _ hI (by omega) (by omega)) ⟨rfl, rfl, rfl, rfl, trivial⟩
      · refine v_tableIn (pc := 33) 523 dL_law_33 (by decide) (by decide) (by decide) rfl (by decide) ?_
        refine v_aload_n (pc := 523) dL_law_523 rfl ?_
        refine v_aload_n (pc := 524) dL_law_524 rfl ?_
        refine v_iload_n (pc := 525) dL_law_525 rfl ?_
        refine v_iconst (pc := 526) (1) dL_law_526 (by decide) ?_
        refine v_iadd (pc := 527) dL_law_527 ?_
        refine v_sld (pc := 528) dL_law_528 (by omega) (by omega) (by omega) ?_
        refine v_aload_n (pc := 529) dL_law_529 rfl ?_
        refine v_iload_n (pc := 530) dL_law_530 rfl ?_
        refine v_iconst (pc := 531) (2) dL_law_531 (by decide) ?_
        refine v_iadd (pc := 532) dL_law_532 ?_
        refine v_sld (pc := 533) dL_law_533 (by omega) (by omega) (by omega) ?_
        refine v_cVi2 (pc := 534) (z := 0) (d' := 39) dL_law_534 kX8_chosen ml_L_61 iwX8_chosen swX8_chosen rfl rfl (Nat.le_of_ble_eq_true rfl) (Nat.le_of_ble_eq_true rfl) (by omega) ⟨by decide, by decide⟩ ?_
        refine p11 _ _ (vrI _) (vrI _) σ _ hI (fun r τ hM => ?_)
        refine ⟨_, rfl, ?_⟩
        refine v_aload_n (pc := 537) dL_law_537 rfl ?_
        refine v_aload_n (pc := 538) dL_law_538 rfl ?_
        refine v_iload_n (pc := 539) dL_law_539 rfl ?_
        refine v_iconst (pc := 540) (1) dL_law_540 (by decide) ?_
        refine v_iadd (pc := 541) dL_law_541 ?_
        refine v_sld (pc := 542) dL_law_542 (by omega) (by omega) (by omega) ?_
        refine v_aload_n (pc := 543) dL_law_543 rfl ?_
        refine v_iload_n (pc := 544) dL_law_544 rfl ?_
        refine v_iconst (pc := 545) (2) dL_law_545 (by decide) ?_
        refine v_iadd (pc := 546) dL_law_546 ?_
        refine v_sld (pc := 547) dL_law_547 (by omega) (by omega) (by omega) ?_
        refine v_cVi2 (pc := 548) (z := 0) (d' := 39) dL_law_548 kX9_chosen ml_L_64 iwX9_chosen swX9_chosen rfl rfl (Nat.le_of_ble_eq_true rfl) (Nat.le_of_ble_eq_true rfl) (by omega) ⟨by decide, by decide⟩ ?_
        refine hM _ (fun τ' hI' => ?_)
        refine ⟨_, rfl, ?_⟩
        refine v_same (pc := 551) 984 dL_law_551 (by decide) ?_
        refine v_iinc (pc := 984) (6) dL_law_984 rfl (by decide) (by decide) ?_
        refine v_goto (pc := 987) 18 dL_law_987 (by decide) ?_
        first | exact v_lv (ih (x + 6) _ hI' (by omega) (by omega)) ⟨rfl, rfl, rfl, rfl, trivial⟩ | exact v_lv (ih (x + 6) _ hI (by omega) (by omega)) ⟨rfl, rfl, rfl, rfl, trivial⟩
      · refine v_tableIn (pc := 33) 556 dL_law_33 (by decide) (by decide) (by decide) rfl (by decide) ?_
        refine v_aload_n (pc := 556) dL_law_556 rfl ?_
        refine v_aload_n (pc := 557) dL_law_557 rfl ?_
        refine v_iload_n (pc := 558) dL_law_558 rfl ?_
        refine v_iconst (pc := 559) (1) dL_law_559 (by decide) ?_
        refine v_iadd (pc := 560) dL_law_560 ?_
        refine v_sld (pc := 561) dL_law_561 (by omega) (by omega) (by omega) ?_
        refine v_aload_n (pc := 562) dL_law_562 rfl ?_
        refine v_iload_n (pc := 563) dL_law_563 rfl ?_
        refine v_iconst (pc := 564) (2) dL_law_564 (by decide) ?_
        refine v_iadd (pc := 565) dL_law_565 ?_
        refine v_sld (pc := 566) dL_law_566 (by omega) (by omega) (by omega) ?_
        refine v_cVi2 (pc := 567) (z := 0) (d' := 39) dL_law_567 kX8_air ml_L_65 iwX8_air swX8_air rfl rfl (Nat.le_of_ble_eq_true rfl) (Nat.le_of_ble_eq_true rfl) (by omega) ⟨by decide, by decide⟩ ?_
        refine p12 _ _ (vrI _) (vrI _) σ _ hI (fun r τ hM => ?_)
        refine ⟨_, rfl, ?_⟩
        refine v_aload_n (pc := 570) dL_law_570 rfl ?_
        refine v_aload_n (pc := 571) dL_law_571 rfl ?_
        refine v_iload_n (pc := 572) dL_law_572 rfl ?_
        refine v_iconst (pc := 573) (1) dL_law_573 (by decide) ?_
        refine v_iadd (pc := 574) dL_law_574 ?_
        refine v_sld (pc := 575) dL_law_575 (by omega) (by omega) (by omega) ?_
        refine v_aload_n (pc := 576) dL_law_576 rfl ?_
        refine v_iload_n (pc := 577) dL_law_577 rfl ?_
        refine v_iconst (pc := 578) (2) dL_law_578 (by decide) ?_
        refine v_iadd (pc := 579) dL_law_579 ?_
        refine v_sld (pc := 580) dL_law_580 (by omega) (by omega) (by omega) ?_
        refine v_cVi2 (pc := 581) (z := 0) (d' := 39) dL_law_581 kX9_air ml_L_68 iwX9_air swX9_air rfl rfl (Nat.le_of_ble_eq_true rfl) (Nat.le_of_ble_eq_true rfl) (by omega) ⟨by decide, by decide⟩ ?_
        refine hM _ (fun τ' hI' => ?_)
        refine ⟨_, rfl, ?_⟩
        refine v_same (pc := 584) 984 dL_law_584 (by decide) ?_
        refine v_iinc (pc := 984) (6) dL_law_984 rfl (by decide) (by decide) ?_
        refine v_goto (pc := 987) 18 dL_law_987 (by decide) ?_
        first | exact v_lv (ih (x + 6) _ hI' (by omega) (by omega)) ⟨rfl, rfl, rfl, rfl, trivial⟩ | exact v_lv (ih (x + 6) _ hI (by omega) (by omega)) ⟨rfl, rfl, rfl, rfl, trivial⟩
      · refine v_tableIn (pc := 33) 589 dL_law_33 (by decide) (by decide) (by decide) rfl (by decide) ?_
        refine v_aload_n (pc := 589) dL_law_589 rfl ?_
        refine v_aload_n (pc := 590) dL_law_590 rfl ?_
        refine v_iload_n (pc := 591) dL_law_591 rfl ?_
        refine v_iconst (pc := 592) (1) dL_law_592 (by decide) ?_
        refine v_iadd (pc := 593) dL_law_593 ?_
        refine v_sld (pc := 594) dL_law_594 (by omega) (by omega) (by omega) ?_
        refine v_aload_n (pc := 595) dL_law_595 rfl ?_
        refine v_iload_n (pc := 596) dL_law_596 rfl ?_
        refine v_iconst (pc := 597) (2) dL_law_597 (by decide) ?_
        refine v_iadd (pc := 598) dL_law_598 ?_
        refine v_sld (pc := 599) dL_law_599 (by omega) (by omega) (by omega) ?_
        refine v_cVi2 (pc := 600) (z := 0) (d' := 39) dL_law_600 kX8_limit ml_L_69 iwX8_limit swX8_limit rfl rfl (Nat.le_of_ble_eq_true rfl) (Nat.le_of_ble_eq_true rfl) (by omega) ⟨by decide, by decide⟩ ?_
        refine p13 _ _ (vrI _) (vrI _) σ _ hI (fun r τ hM => ?_)
        refine ⟨_, rfl, ?_⟩
        refine v_aload_n (pc := 603) dL_law_603 rfl ?_
        refine v_aload_n (pc := 604) dL_law_604 rfl ?_
        refine v_iload_n (pc := 605) dL_law_605 rfl ?_
        refine v_iconst (pc := 606) (1) dL_law_606 (by decide) ?_
        refine v_iadd (pc := 607) dL_law_607 ?_
        refine v_sld (pc := 608) dL_law_608 (by omega) (by omega) (by omega) ?_
        refine v_aload_n (pc := 609) dL_law_609 rfl ?_
        refine v_iload_n (pc := 610) dL_law_610 rfl ?_
        refine v_iconst (pc := 611) (2) dL_law_611 (by decide) ?_
        refine v_iadd (pc := 612) dL_law_612 ?_
        refine v_sld (pc := 613) dL_law_613 (by omega) (by omega) (by omega) ?_
        refine v_cVi2 (pc := 614) (z := 0) (d' := 39) dL_law_614 kX9_limit ml_L_72 iwX9_limit swX9_limit rfl rfl (Nat.le_of_ble_eq_true rfl) (Nat.le_of_ble_eq_true rfl) (by omega) ⟨by decide, by decide⟩ ?_
        refine hM _ (fun τ' hI' => ?_)
        refine ⟨_, rfl, ?_⟩
        refine v_same (pc := 617) 984 dL_law_617 (by decide) ?_
        refine v_iinc (pc := 984) (6) dL_law_984 rfl (by decide) (by decide) ?_
        refine v_goto (pc := 987) 18 dL_law_987 (by decide) ?_
        first | exact v_lv (ih (x + 6) _ hI' (by omega) (by omega)) ⟨rfl, rfl, rfl, rfl, trivial⟩ | exact v_lv (ih (x + 6) _ hI (by omega) (by omega)) ⟨rfl, rfl, rfl, rfl, trivial⟩
      · refine v_tableIn (pc := 33) 622 dL_law_33 (by decide) (by decide) (by decide) rfl (by decide) ?_
        refine v_aload_n (pc := 622) dL_law_622 rfl ?_
        refine v_cVi0 (pc := 623) (z := 0) (d' := 39) dL_law_623 kX8_fly ml_L_73 iwX8_fly swX8_fly rfl rfl (Nat.le_of_ble_eq_true rfl) (Nat.le_of_ble_eq_true rfl) (by omega) ⟨by decide, by decide⟩ ?_
        refine p14 σ _ hI (fun r τ hM => ?_)
        refine ⟨_, rfl, ?_⟩
        refine v_aload_n (pc := 626) dL_law_626 rfl ?_
        refine v_cVi0 (pc := 627) (z := 0) (d' := 39) dL_law_627 kX9_fly ml_L_76 iwX9_fly swX9_fly rfl rfl (Nat.le_of_ble_eq_true rfl) (Nat.le_of_ble_eq_true rfl) (by omega) ⟨by decide, by decide⟩ ?_
        refine hM _ (fun τ' hI' => ?_)
        refine ⟨_, rfl, ?_⟩
        refine v_same (pc := 630) 984 dL_law_630 (by decide) ?_
        refine v_iinc (pc := 984) (6) dL_law_984 rfl (by decide) (by decide) ?_
        refine v_goto (pc := 987) 18 dL_law_987 (by decide) ?_
        first | exact v_lv (ih (x + 6) _ hI' (by omega) (by omega)) ⟨rfl, rfl, rfl, rfl, trivial⟩ | exact v_lv (ih (x + 6) _ hI (by omega) (by omega)) ⟨rfl, rfl, rfl, rfl, trivial⟩
      · refine v_tableIn (pc := 33) 635 dL_law_33 (by decide) (by decide) (by decide) rfl (by decide) ?_
        refine v_aload_n (pc := 635) dL_law_635 rfl ?_
        refine v_aload_n (pc := 636) dL_law_636 rfl ?_
        refine v_iload_n (pc := 637) dL_law_637 rfl ?_
        refine v_iconst (pc := 638) (1) dL_law_638 (by decide) ?_
        refine v_iadd (pc := 639) dL_law_639 ?_
        refine v_sld (pc := 640) dL_law_640 (by omega) (by omega) (by omega) ?_
        refine v_cVi1 (pc := 641) (z := 0) (d' := 39) dL_law_641 kX8_flown ml_L_77 iwX8_flown swX8_flown rfl rfl (Nat.le_of_ble_eq_true rfl) (Nat.le_of_ble_eq_true rfl) (by omega) ⟨by decide, by decide⟩ ?_
        refine p15 _ (vrI _) σ _ hI (fun r τ hM => ?_)
        refine ⟨_, rfl, ?_⟩
        refine v_aload_n (pc := 644) dL_law_644 rfl ?_
        refine v_aload_n (pc := 645) dL_law_645 rfl ?_
        refine v_iload_n (pc := 646) dL_law_646 rfl ?_
        refine v_iconst (pc := 647) (1) dL_law_647 (by decide) ?_
        refine v_iadd (pc := 648) dL_law_648 ?_
        refine v_sld (pc := 649) dL_law_649 (by omega) (by omega) (by omega) ?_
        refine v_cVi1 (pc := 650) (z := 0) (d' := 39) dL_law_650 kX9_flown ml_L_80 iwX9_flown swX9_flown rfl rfl (Nat.le_of_ble_eq_true rfl) (Nat.le_of_ble_eq_true rfl) (by omega) ⟨by decide, by decide⟩ ?_
        refine hM _ (fun τ' hI' => ?_)
        refine ⟨_, rfl, ?_⟩
        refine v_same (pc := 653) 984 dL_law_653 (by decide) ?_
        refine v_iinc (pc := 984) (6) dL_law_984 rfl (by decide) (by decide) ?_
        refine v_goto (pc := 987) 18 dL_law_987 (by decide) ?_
        first | exact v_lv (ih (x + 6) _ hI' (by omega) (by omega)) ⟨rfl, rfl, rfl, rfl, trivial⟩ | exact v_lv (ih (x + 6) _ hI (by omega) (by omega)) ⟨rfl, rfl, rfl, rfl, trivial⟩
      · refine v_tableIn (pc := 33) 658 dL_law_33 (by decide) (by decide) (by decide) rfl (by decide) ?_
        refine v_aload_n (pc := 658) dL_law_658 rfl ?_
        refine v_aload_n (pc := 659) dL_law_659 rfl ?_
        refine v_iload_n (pc := 660) dL_law_660 rfl ?_
        refine v_iconst (pc := 661) (1) dL_law_661 (by decide) ?_
        refine v_iadd (pc := 662) dL_law_662 ?_
        refine v_sld (pc := 663) dL_law_663 (by omega) (by omega) (by omega) ?_
        refine v_cVi1 (pc := 664) (z := 0) (d' := 39) dL_law_664 kX8_out ml_L_81 iwX8_out swX8_out rfl rfl (Nat.le_of_ble_eq_true rfl) (Nat.le_of_ble_eq_true rfl) (by omega) ⟨by decide, by decide⟩ ?_
        refine p16 _ (vrI _) σ _ hI (fun r τ hM => ?_)
        refine ⟨_, rfl, ?_⟩
        refine v_aload_n (pc := 667) dL_law_667 rfl ?_
        refine v_aload_n (pc := 668) dL_law_668 rfl ?_
        refine v_iload_n (pc := 669) dL_law_669 rfl ?_
        refine v_iconst (pc := 670) (1) dL_law_670 (by decide) ?_
        refine v_iadd (pc := 671) dL_law_671 ?_
        refine v_sld (pc := 672) dL_law_672 (by omega) (by omega) (by omega) ?_
        refine v_cVi1 (pc := 673) (z := 0) (d' := 39) dL_law_673 kX9_out ml_L_84 iwX9_out swX9_out rfl rfl (Nat.le_of_ble_eq_true rfl) (Nat.le_of_ble_eq_true rfl) (by omega) ⟨by decide, by decide⟩ ?_
        refine hM _ (fun τ' hI' => ?_)
        refine ⟨_, rfl, ?_⟩
        refine v_same (pc := 676) 984 dL_law_676 (by decide) ?_
        refine v_iinc (pc := 984) (6) dL_law_984 rfl (by decide) (by decide) ?_
        refine v_goto (pc := 987) 18 dL_law_987 (by decide) ?_
        first | exact v_lv (ih (x + 6) _ hI' (by omega) (by omega)) ⟨rfl, rfl, rfl, rfl, trivial⟩ | exact v_lv (ih (x + 6) _ hI (by omega) (by omega)) ⟨rfl, rfl, rfl, rfl, trivial⟩
      · refine v_tableIn (pc := 33) 681 dL_law_33 (by decide) (by decide) (by decide) rfl (by decide) ?_
        refine v_aload_n (pc := 681) dL_law_681 rfl ?_
        refine v_cVi0 (pc := 682) (z := 0) (d' := 39) dL_law_682 kX8_safe ml_L_85 iwX8_safe swX8_safe rfl rfl (Nat.le_of_ble_eq_true rfl) (Nat.le_of_ble_eq_true rfl) (by omega) ⟨by decide, by decide⟩ ?_
        refine p17 σ _ hI (fun r τ hM => ?_)
        refine ⟨_, rfl, ?_⟩
        refine v_aload_n (pc := 685) dL_law_685 rfl ?_
        refine v_cVi0 (pc := 686) (z := 0) (d' := 39) dL_law_686 kX9_safe ml_L_88 iwX9_safe swX9_safe rfl rfl (Nat.le_of_ble_eq_true rfl) (Nat.le_of_ble_eq_true rfl) (by omega) ⟨by decide, by decide⟩ ?_
        refine hM _ (fun τ' hI' => ?_)
        refine ⟨_, rfl, ?_⟩
        refine v_same (pc := 689) 984 dL_law_689 (by decide) ?_
        refine v_iinc (pc := 984) (6) dL_law_984 rfl (by decide) (by decide) ?_
        refine v_goto (pc := 987) 18 dL_law_987 (by decide) ?_
        first | exact v_lv (ih (x + 6) _ hI' (by omega) (by omega)) ⟨rfl, rfl, rfl, rfl, trivial⟩ | exact v_lv (ih (x + 6) _ hI (by omega) (by omega)) ⟨rfl, rfl, rfl, rfl, trivial⟩
      · refine v_tableIn (pc := 33) 694 dL_law_33 (by decide) (by decide) (by decide) rfl (by decide) ?_
        refine v_aload_n (pc := 694) dL_law_694 rfl ?_
        refine v_aload_n (pc := 695) dL_law_695 rfl ?_
        refine v_iload_n (pc := 696) dL_law_696 rfl ?_
        refine v_iconst (pc := 697) (1) dL_law_697 (by decide) ?_
        refine v_iadd (pc := 698) dL_law_698 ?_
        refine v_sld (pc := 699) dL_law_699 (by omega) (by omega) (by omega) ?_
        refine v_aload_n (pc := 700) dL_law_700 rfl ?_
        refine v_iload_n (pc := 701) dL_law_701 rfl ?_
        refine v_iconst (pc := 702) (2) dL_law_702 (by decide) ?_
        refine v_iadd (pc := 703) dL_law_703 ?_
        refine v_sld (pc := 704) dL_law_704 (by omega) (by omega) (by omega) ?_
        refine v_cVi2 (pc := 705) (z := 0) (d' := 39) dL_law_705 kX8_cost ml_L_89 iwX8_cost swX8_cost rfl rfl (Nat.le_of_ble_eq_true rfl) (Nat.le_of_ble_eq_true rfl) (by omega) ⟨by decide, by decide⟩ ?_
        refine p18 _ _ (vrI _) (vrI _) σ _ hI (fun r τ hM => ?_)
        refine ⟨_, rfl, ?_⟩
        refine v_aload_n (pc := 708) dL_law_708 rfl ?_
        refine v_aload_n (pc := 709) dL_law_709 rfl ?_
        refine v_iload_n (pc := 710) dL_law_710 rfl ?_
        refine v_iconst (pc := 711) (1) dL_law_711 (by decide) ?_
        refine v_iadd (pc := 712) dL_law_712 ?_
        refine v_sld (pc := 713) dL_law_713 (by omega) (by omega) (by omega) ?_
        refine v_aload_n (pc := 714) dL_law_714 rfl ?_
        refine v_iload_n (pc := 715) dL_law_715 rfl ?_
        refine v_iconst (pc := 716) (2) dL_law_716 (by decide) ?_
        refine v_iadd (pc := 717) dL_law_717 ?_
        refine v_sld (pc := 718) dL_law_718 (by omega) (by omega) (by omega) ?_
        refine v_cVi2 (pc := 719) (z := 0) (d' := 39) dL_law_719 kX9_cost ml_L_92 iwX9_cost swX9_cost rfl rfl (Nat.le_of_ble_eq_true rfl) (Nat.le_of_ble_eq_true rfl) (by omega) ⟨by decide, by decide⟩ ?_
        refine hM _ (fun τ' hI' => ?_)
        refine ⟨_, rfl, ?_⟩
        refine v_same (pc := 722) 984 dL_law_722 (by decide) ?_
        refine v_iinc (pc := 984) (6) dL_law_984 rfl (by decide) (by decide) ?_
        refine v_goto (pc := 987) 18 dL_law_987 (by decide) ?_
        first | exact v_lv (ih (x + 6) _ hI' (by omega) (by omega)) ⟨rfl, rfl, rfl, rfl, trivial⟩ | exact v_lv (ih (x + 6) _ hI (by omega) (by omega)) ⟨rfl, rfl, rfl, rfl, trivial⟩
      · refine v_tableIn (pc := 33) 727 dL_law_33 (by decide) (by decide) (by decide) rfl (by decide) ?_
        refine v_aload_n (pc := 727) dL_law_727 rfl ?_
        refine v_cVi0 (pc := 728) (z := 0) (d' := 39) dL_law_728 kX8_price ml_L_93 iwX8_price swX8_price rfl rfl (Nat.le_of_ble_eq_true rfl) (Nat.le_of_ble_eq_true rfl) (by omega) ⟨by decide, by decide⟩ ?_
        refine p19 σ _ hI (fun r τ hM => ?_)
        refine ⟨_, rfl, ?_⟩
        refine v_aload_n (pc := 731) dL_law_731 rfl ?_
        refine v_cVi0 (pc := 732) (z := 0) (d' := 39) dL_law_732 kX9_price ml_L_96 iwX9_price swX9_price rfl rfl (Nat.le_of_ble_eq_true rfl) (Nat.le_of_ble_eq_true rfl) (by omega) ⟨by decide, by decide⟩ ?_
        refine hM _ (fun τ' hI' => ?_)
        refine ⟨_, rfl, ?_⟩
        refine v_same (pc := 735) 984 dL_law_735 (by decide) ?_
        refine v_iinc (pc := 984) (6) dL_law_984 rfl (by decide) (by decide) ?_
        refine v_goto (pc := 987) 18 dL_law_987 (by decide) ?_
        first | exact v_lv (ih (x + 6) _ hI' (by omega) (by omega)) ⟨rfl, rfl, rfl, rfl, trivial⟩ | exact v_lv (ih (x + 6) _ hI (by omega) (by omega)) ⟨rfl, rfl, rfl, rfl, trivial⟩
      · refine v_tableIn (pc := 33) 740 dL_law_33 (by decide) (by decide) (by decide) rfl (by decide) ?_
        refine v_aload_n (pc := 740) dL_law_740 rfl ?_
        refine v_cVi0 (pc := 741) (z := 0) (d' := 39) dL_law_741 kX8_buy ml_L_97 iwX8_buy swX8_buy rfl rfl (Nat.le_of_ble_eq_true rfl) (Nat.le_of_ble_eq_true rfl) (by omega) ⟨by decide, by decide⟩ ?_
        refine p20 σ _ hI (fun r τ hM => ?_)
        refine ⟨_, rfl, ?_⟩
        refine v_aload_n (pc := 744) dL_law_744 rfl ?_
        refine v_cVi0 (pc := 745) (z := 0) (d' := 39) dL_law_745 kX9_buy ml_L_100 iwX9_buy swX9_buy rfl rfl (Nat.le_of_ble_eq_true rfl) (Nat.le_of_ble_eq_true rfl) (by omega) ⟨by decide, by decide⟩ ?_
        refine hM _ (fun τ' hI' => ?_)
        refine ⟨_, rfl, ?_⟩
        refine v_same (pc := 748) 984 dL_law_748 (by decide) ?_
        refine v_iinc (pc := 984) (6) dL_law_984 rfl (by decide) (by decide) ?_
        refine v_goto (pc := 987) 18 dL_law_987 (by decide) ?_
        first | exact v_lv (ih (x + 6) _ hI' (by omega) (by omega)) ⟨rfl, rfl, rfl, rfl, trivial⟩ | exact v_lv (ih (x + 6) _ hI (by omega) (by omega)) ⟨rfl, rfl, rfl, rfl, trivial⟩
      · refine v_tableIn (pc := 33) 753 dL_law_33 (by decide) (by decide) (by decide) rfl (by decide) ?_
        refine v_aload_n (pc := 753) dL_law_753 rfl ?_
        refine v_aload_n (pc := 754) dL_law_754 rfl ?_
        refine v_iload_n (pc := 755) dL_law_755 rfl ?_
        refine v_iconst (pc := 756) (1) dL_law_756 (by decide) ?_
        refine v_iadd (pc := 757) dL_law_757 ?_
        refine v_sld (pc := 758) dL_law_758 (by omega) (by omega) (by omega) ?_
        refine v_aload_n (pc := 759) dL_law_759 rfl ?_
        refine v_iload_n (pc := 760) dL_law_760 rfl ?_
        refine v_iconst (pc := 761) (2) dL_law_761 (by decide) ?_
        refine v_iadd (pc := 762) dL_law_762 ?_
        refine v_sld (pc := 763) dL_law_763 (by omega) (by omega) (by omega) ?_
        refine v_cVi2 (pc := 764) (z := 0) (d' := 39) dL_law_764 kX8_keeping ml_L_101 iwX8_keeping swX8_keeping rfl rfl (Nat.le_of_ble_eq_true rfl) (Nat.le_of_ble_eq_true rfl) (by omega) ⟨by decide, by decide⟩ ?_
        refine p21 _ _ (vrI _) (vrI _) σ _ hI (fun r τ hM => ?_)
        refine ⟨_, rfl, ?_⟩
        refine v_aload_n (pc := 767) dL_law_767 rfl ?_
        refine v_aload_n (pc := 768) dL_law_768 rfl ?_
        refine v_iload_n (pc := 769) dL_law_769 rfl ?_
        refine v_iconst (pc := 770) (1) dL_law_770 (by decide) ?_
        refine v_iadd (pc := 771) dL_law_771 ?_
        refine v_sld (pc := 772) dL_law_772 (by omega) (by omega) (by omega) ?_
        refine v_aload_n (pc := 773) dL_law_773 rfl ?_
        refine v_iload_n (pc := 774) dL_law_774 rfl ?_
        refine v_iconst (pc := 775) (2) dL_law_775 (by decide) ?_
        refine v_iadd (pc := 776) dL_law_776 ?_
        refine v_sld (pc := 777) dL_law_777 (by omega) (by omega) (by omega) ?_
        refine v_cVi2 (pc := 778) (z := 0) (d' := 39) dL_law_778 kX9_keeping ml_L_104 iwX9_keeping swX9_keeping rfl rfl (Nat.le_of_ble_eq_true rfl) (Nat.le_of_ble_eq_true rfl) (by omega) ⟨by decide, by decide⟩ ?_
        refine hM _ (fun τ' hI' => ?_)
        refine ⟨_, rfl, ?_⟩
        refine v_same (pc := 781) 984 dL_law_781 (by decide) ?_
        refine v_iinc (pc := 984) (6) dL_law_984 rfl (by decide) (by decide) ?_
        refine v_goto (pc := 987) 18 dL_law_987 (by decide) ?_
        first | exact v_lv (ih (x + 6) _ hI' (by omega) (by omega)) ⟨rfl, rfl, rfl, rfl, trivial⟩ | exact v_lv (ih (x + 6) _ hI (by omega) (by omega)) ⟨rfl, rfl, rfl, rfl, trivial⟩
      · refine v_tableIn (pc := 33) 786 dL_law_33 (by decide) (by decide) (by decide) rfl (by decide) ?_
        refine v_aload_n (pc := 786) dL_law_786 rfl ?_
        refine v_aload_n (pc := 787) dL_law_787 rfl ?_
        refine v_iload_n (pc := 788) dL_law_788 rfl ?_
        refine v_iconst (pc := 789) (1) dL_law_789 (by decide) ?_
        refine v_iadd (pc := 790) dL_law_790 ?_
        refine v_sld (pc := 791) dL_law_791 (by omega) (by omega) (by omega) ?_
        refine v_aload_n (pc := 792) dL_law_792 rfl ?_
        refine v_iload_n (pc := 793) dL_law_793 rfl ?_
        refine v_iconst (pc := 794) (2) dL_law_794 (by decide) ?_
        refine v_iadd (pc := 795) dL_law_795 ?_
        refine v_sld (pc := 796) dL_law_796 (by omega) (by omega) (by omega) ?_
        refine v_aload_n (pc := 797) dL_law_797 rfl ?_
        refine v_iload_n (pc := 798) dL_law_798 rfl ?_
        refine v_iconst (pc := 799) (3) dL_law_799 (by decide) ?_
        refine v_iadd (pc := 800) dL_law_800 ?_
        refine v_sld (pc := 801) dL_law_801 (by omega) (by omega) (by omega) ?_
        refine v_cVi3 (pc := 802) (z := 0) (d' := 39) dL_law_802 kX8_even ml_L_105 iwX8_even swX8_even rfl rfl (Nat.le_of_ble_eq_true rfl) (Nat.le_of_ble_eq_true rfl) (by omega) ⟨by decide, by decide⟩ ?_
        refine p22 _ _ _ (vrI _) (vrI _) (vrI _) σ _ hI (fun r τ hM => ?_)
        refine ⟨_, rfl, ?_⟩
        refine v_aload_n (pc := 805) dL_law_805 rfl ?_
        refine v_aload_n (pc := 806) dL_law_806 rfl ?_
        refine v_iload_n (pc := 807) dL_law_807 rfl ?_
        refine v_iconst (pc := 808) (1) dL_law_808 (by decide) ?_
        refine v_iadd (pc := 809) dL_law_809 ?_
        refine v_sld (pc := 810) dL_law_810 (by omega) (by omega) (by omega) ?_
        refine v_aload_n (pc := 811) dL_law_811 rfl ?_
        refine v_iload_n (pc := 812) dL_law_812 rfl ?_
        refine v_iconst (pc := 813) (2) dL_law_813 (by decide) ?_
        refine v_iadd (pc := 814) dL_law_814 ?_
        refine v_sld (pc := 815) dL_law_815 (by omega) (by omega) (by omega) ?_
        refine v_aload_n (pc := 816) dL_law_816 rfl ?_
        refine v_iload_n (pc := 817) dL_law_817 rfl ?_
        refine v_iconst (pc := 818) (3) dL_law_818 (by decide) ?_
        refine v_iadd (pc := 819) dL_law_819 ?_
        refine v_sld (pc := 820) dL_law_820 (by omega) (by omega) (by omega) ?_
        refine v_cVi3 (pc := 821) (z := 0) (d' := 39) dL_law_821 kX9_even ml_L_109 iwX9_even swX9_even rfl rfl (Nat.le_of_ble_eq_true rfl) (Nat.le_of_ble_eq_true rfl) (by omega) ⟨by decide, by decide⟩ ?_
        refine hM _ (fun τ' hI' => ?_)
        refine ⟨_, rfl, ?_⟩
        refine v_same (pc := 824) 984 dL_law_824 (by decide) ?_
        refine v_iinc (pc := 984) (6) dL_law_984 rfl (by decide) (by decide) ?_
        refine v_goto (pc := 987) 18 dL_law_987 (by decide) ?_
        first | exact v_lv (ih (x + 6) _ hI' (by omega) (by omega)) ⟨rfl, rfl, rfl, rfl, trivial⟩ | exact v_lv (ih (x + 6) _ hI (by omega) (by omega)) ⟨rfl, rfl, rfl, rfl, trivial⟩
      · refine v_tableIn (pc := 33) 829 dL_law_33 (by decide) (by decide) (by decide) rfl (by decide) ?_
        refine v_aload_n (pc := 829) dL_law_829 rfl ?_
        refine v_aload_n (pc := 830) dL_law_830 rfl ?_
        refine v_iload_n (pc := 831) dL_law_831 rfl ?_
        refine v_iconst (pc := 832) (1) dL_law_832 (by decide) ?_
        refine v_iadd (pc := 833) dL_law_833 ?_
        refine v_sld (pc := 834) dL_law_834 (by omega) (by omega) (by omega) ?_
        refine v_aload_n (pc := 835) dL_law_835 rfl ?_
        refine v_iload_n (pc := 836) dL_law_836 rfl ?_
        refine v_iconst (pc := 837) (2) dL_law_837 (by decide) ?_
        refine v_iadd (pc := 838) dL_law_838 ?_
        refine v_sld (pc := 839) dL_law_839 (by omega) (by omega) (by omega) ?_
        refine v_aload_n (pc := 840) dL_law_840 rfl ?_
        refine v_iload_n (pc := 841) dL_law_841 rfl ?_
        refine v_iconst (pc := 842) (3) dL_law_842 (by decide) ?_
        refine v_iadd (pc := 843) dL_law_843 ?_
        refine v_sld (pc := 844) dL_law_844 (by omega) (by omega) (by omega) ?_
        refine v_aload_n (pc := 845) dL_law_845 rfl ?_
        refine v_iload_n (pc := 846) dL_law_846 rfl ?_
        refine v_iconst (pc := 847) (4) dL_law_847 (by decide) ?_
        refine v_iadd (pc := 848) dL_law_848 ?_
        refine v_sld (pc := 849) dL_law_849 (by omega) (by omega) (by omega) ?_
        refine v_aload_n (pc := 850) dL_law_850 rfl ?_
        refine v_iload_n (pc := 851) dL_law_851 rfl ?_
        refine v_iconst (pc := 852) (5) dL_law_852 (by decide) ?_
        refine v_iadd (pc := 853) dL_law_853 ?_
        refine v_sld (pc := 854) dL_law_854 (by omega) (by omega) (by omega) ?_
        refine v_cVi5 (pc := 855) (z := 0) (d' := 39) dL_law_855 kX8_flight ml_L_110 iwX8_flight swX8_flight rfl rfl (Nat.le_of_ble_eq_true rfl) (Nat.le_of_ble_eq_true rfl) (by omega) ⟨by decide, by decide⟩ ?_
        refine p23 _ _ _ _ _ (vrI _) (vrI _) (vrI _) (vrI _) (vrI _) σ _ hI (fun r τ hM => ?_)
        refine ⟨_, rfl, ?_⟩
        refine v_aload_n (pc := 858) dL_law_858 rfl ?_
        refine v_aload_n (pc := 859) dL_law_859 rfl ?_
        refine v_iload_n (pc := 860) dL_law_860 rfl ?_
        refine v_iconst (pc := 861) (1) dL_law_861 (by decide) ?_
        refine v_iadd (pc := 862) dL_law_862 ?_
        refine v_sld (pc := 863) dL_law_863 (by omega) (by omega) (by omega) ?_
        refine v_aload_n (pc := 864) dL_law_864 rfl ?_
        refine v_iload_n (pc := 865) dL_law_865 rfl ?_
        refine v_iconst (pc := 866) (2) dL_law_866 (by decide) ?_
        refine v_iadd (pc := 867) dL_law_867 ?_
        refine v_sld (pc := 868) dL_law_868 (by omega) (by omega) (by omega) ?_
        refine v_aload_n (pc := 869) dL_law_869 rfl ?_
        refine v_iload_n (pc := 870) dL_law_870 rfl ?_
        refine v_iconst (pc := 871) (3) dL_law_871 (by decide) ?_
        refine v_iadd (pc := 872) dL_law_872 ?_
        refine v_sld (pc := 873) dL_law_873 (by omega) (by omega) (by omega) ?_
        refine v_aload_n (pc := 874) dL_law_874 rfl ?_
        refine v_iload_n (pc := 875) dL_law_875 rfl ?_
        refine v_iconst (pc := 876) (4) dL_law_876 (by decide) ?_
        refine v_iadd (pc := 877) dL_law_877 ?_
        refine v_sld (pc := 878) dL_law_878 (by omega) (by omega) (by omega) ?_
        refine v_aload_n (pc := 879) dL_law_879 rfl ?_
        refine v_iload_n (pc := 880) dL_law_880 rfl ?_
        refine v_iconst (pc := 881) (5) dL_law_881 (by decide) ?_
        refine v_iadd (pc := 882) dL_law_882 ?_
        refine v_sld (pc := 883) dL_law_883 (by omega) (by omega) (by omega) ?_
        refine v_cVi5 (pc := 884) (z := 0) (d' := 39) dL_law_884 kX9_flight ml_L_114 iwX9_flight swX9_flight rfl rfl (Nat.le_of_ble_eq_true rfl) (Nat.le_of_ble_eq_true rfl) (by omega) ⟨by decide, by decide⟩ ?_
        refine hM _ (fun τ' hI' => ?_)
        refine ⟨_, rfl, ?_⟩
        refine v_same (pc := 887) 984 dL_law_887 (by decide) ?_
        refine v_iinc (pc := 984) (6) dL_law_984 rfl (by decide) (by decide) ?_
        refine v_goto (pc := 987) 18 dL_law_987 (by decide) ?_
        first | exact v_lv (ih (x + 6) _ hI' (by omega) (by omega)) ⟨rfl, rfl, rfl, rfl, trivial⟩ | exact v_lv (ih (x + 6) _ hI (by omega) (by omega)) ⟨rfl, rfl, rfl, rfl, trivial⟩
      · refine v_tableIn (pc := 33) 892 dL_law_33 (by decide) (by decide) (by decide) rfl (by decide) ?_
        refine v_aload_n (pc := 892) dL_law_892 rfl ?_
        refine v_aload_n (pc := 893) dL_law_893 rfl ?_
        refine v_iload_n (pc := 894) dL_law_894 rfl ?_
        refine v_iconst (pc := 895) (1) dL_law_895 (by decide) ?_
        refine v_iadd (pc := 896) dL_law_896 ?_
        refine v_sld (pc := 897) dL_law_897 (by omega) (by omega) (by omega) ?_
        refine v_aload_n (pc := 898) dL_law_898 rfl ?_
        refine v_iload_n (pc := 899) dL_law_899 rfl ?_
        refine v_iconst (pc := 900) (2) dL_law_900 (by decide) ?_
        refine v_iadd (pc := 901) dL_law_901 ?_
        refine v_sld (pc := 902) dL_law_902 (by omega) (by omega) (by omega) ?_
        refine v_aload_n (pc := 903) dL_law_903 rfl ?_
        refine v_iload_n (pc := 904) dL_law_904 rfl ?_
        refine v_iconst (pc := 905) (3) dL_law_905 (by decide) ?_
        refine v_iadd (pc := 906) dL_law_906 ?_
        refine v_sld (pc := 907) dL_law_907 (by omega) (by omega) (by omega) ?_
        refine v_cVi3 (pc := 908) (z := 0) (d' := 39) dL_law_908 kX8_deliver ml_L_115 iwX8_deliver swX8_deliver rfl rfl (Nat.le_of_ble_eq_true rfl) (Nat.le_of_ble_eq_true rfl) (by omega) ⟨by decide, by decide⟩ ?_
        refine p24 _ _ _ (vrI _) (vrI _) (vrI _) σ _ hI (fun r τ hM => ?_)
        refine ⟨_, rfl, ?_⟩
        refine v_aload_n (pc := 911) dL_law_911 rfl ?_
        refine v_aload_n (pc := 912) dL_law_912 rfl ?_
        refine v_iload_n (pc := 913) dL_law_913 rfl ?_
        refine v_iconst (pc := 914) (1) dL_law_914 (by decide) ?_
        refine v_iadd (pc := 915) dL_law_915 ?_
        refine v_sld (pc := 916) dL_law_916 (by omega) (by omega) (by omega) ?_
        refine v_aload_n (pc := 917) dL_law_917 rfl ?_
        refine v_iload_n (pc := 918) dL_law_918 rfl ?_
        refine v_iconst (pc := 919) (2) dL_law_919 (by decide) ?_
        refine v_iadd (pc := 920) dL_law_920 ?_
        refine v_sld (pc := 921) dL_law_921 (by omega) (by omega) (by omega) ?_
        refine v_aload_n (pc := 922) dL_law_922 rfl ?_
        refine v_iload_n (pc := 923) dL_law_923 rfl ?_
        refine v_iconst (pc := 924) (3) dL_law_924 (by decide) ?_
        refine v_iadd (pc := 925) dL_law_925 ?_
        refine v_sld (pc := 926) dL_law_926 (by omega) (by omega) (by omega) ?_
        refine v_cVi3 (pc := 927) (z := 0) (d' := 39) dL_law_927 kX9_deliver ml_L_118 iwX9_deliver swX9_deliver rfl rfl (Nat.le_of_ble_eq_true rfl) (Nat.le_of_ble_eq_true rfl) (by omega) ⟨by decide, by decide⟩ ?_
        refine hM _ (fun τ' hI' => ?_)
        refine ⟨_, rfl, ?_⟩
        refine v_same (pc := 930) 984 dL_law_930 (by decide) ?_
        refine v_iinc (pc := 984) (6) dL_law_984 rfl (by decide) (by decide) ?_
        refine v_goto (pc := 987) 18 dL_law_987 (by decide) ?_
        first | exact v_lv (ih (x + 6) _ hI' (by omega) (by omega)) ⟨rfl, rfl, rfl, rfl, trivial⟩ | exact v_lv (ih (x + 6) _ hI (by omega) (by omega)) ⟨rfl, rfl, rfl, rfl, trivial⟩
      · refine v_tableIn (pc := 33) 935 dL_law_33 (by decide) (by decide) (by decide) rfl (by decide) ?_
        refine v_aload_n (pc := 935) dL_law_935 rfl ?_
        refine v_cVi0 (pc := 936) (z := 0) (d' := 39) dL_law_936 kX8_year ml_L_119 iwX8_year swX8_year rfl rfl (Nat.le_of_ble_eq_true rfl) (Nat.le_of_ble_eq_true rfl) (by omega) ⟨by decide, by decide⟩ ?_
        refine p25 σ _ hI (fun r τ hM => ?_)
        refine ⟨_, rfl, ?_⟩
        refine v_aload_n (pc := 939) dL_law_939 rfl ?_
        refine v_cVi0 (pc := 940) (z := 0) (d' := 39) dL_law_940 kX9_year ml_L_122 iwX9_year swX9_year rfl rfl (Nat.le_of_ble_eq_true rfl) (Nat.le_of_ble_eq_true rfl) (by omega) ⟨by decide, by decide⟩ ?_
        refine hM _ (fun τ' hI' => ?_)
        refine ⟨_, rfl, ?_⟩
        refine v_same (pc := 943) 984 dL_law_943 (by decide) ?_
        refine v_iinc (pc := 984) (6) dL_law_984 rfl (by decide) (by decide) ?_
        refine v_goto (pc := 987) 18 dL_law_987 (by decide) ?_
        first | exact v_lv (ih (x + 6) _ hI' (by omega) (by omega)) ⟨rfl, rfl, rfl, rfl, trivial⟩ | exact v_lv (ih (x + 6) _ hI (by omega) (by omega)) ⟨rfl, rfl, rfl, rfl, trivial⟩
      · refine v_tableIn (pc := 33) 948 dL_law_33 (by decide) (by decide) (by decide) rfl (by decide) ?_
        refine v_aload_n (pc := 948) dL_law_948 rfl ?_
        refine v_cVi0 (pc := 949) (z := 0) (d' := 39) dL_law_949 kX8_flights ml_L_123 iwX8_flights swX8_flights rfl rfl (Nat.le_of_ble_eq_true rfl) (Nat.le_of_ble_eq_true rfl) (by omega) ⟨by decide, by decide⟩ ?_
        refine p26 σ _ hI (fun r τ hM => ?_)
        refine ⟨_, rfl, ?_⟩
        refine v_aload_n (pc := 952) dL_law_952 rfl ?_
        refine v_cVi0 (pc := 953) (z := 0) (d' := 39) dL_law_953 kX9_flights ml_L_126 iwX9_flights swX9_flights rfl rfl (Nat.le_of_ble_eq_true rfl) (Nat.le_of_ble_eq_true rfl) (by omega) ⟨by decide, by decide⟩ ?_
        refine hM _ (fun τ' hI' => ?_)
        refine ⟨_, rfl, ?_⟩
        refine v_same (pc := 956) 984 dL_law_956 (by decide) ?_
        refine v_iinc (pc := 984) (6) dL_law_984 rfl (by decide) (by decide) ?_
        refine v_goto (pc := 987) 18 dL_law_987 (by decide) ?_
        first | exact v_lv (ih (x + 6) _ hI' (by omega) (by omega)) ⟨rfl, rfl, rfl, rfl, trivial⟩ | exact v_lv (ih (x + 6) _ hI (by omega) (by omega)) ⟨rfl, rfl, rfl, rfl, trivial⟩
      · refine v_tableIn (pc := 33) 961 dL_law_33 (by decide) (by decide) (by decide) rfl (by decide) ?_
        refine v_aload_n (pc := 961) dL_law_961 rfl ?_
        refine v_aload_n (pc := 962) dL_law_962 rfl ?_
        refine v_iload_n (pc := 963) dL_law_963 rfl ?_
        refine v_iconst (pc := 964) (1) dL_law_964 (by decide) ?_
        refine v_iadd (pc := 965) dL_law_965 ?_
        refine v_sld (pc := 966) dL_law_966 (by omega) (by omega) (by omega) ?_
        refine v_cVi1 (pc := 967) (z := 0) (d' := 39) dL_law_967 kX8_count ml_L_127 iwX8_count swX8_count rfl rfl (Nat.le_of_ble_eq_true rfl) (Nat.le_of_ble_eq_true rfl) (by omega) ⟨by decide, by decide⟩ ?_
        refine p27 _ (vrI _) σ _ hI (fun r τ hM => ?_)
        refine ⟨_, rfl, ?_⟩
        refine v_aload_n (pc := 970) dL_law_970 rfl ?_
        refine v_aload_n (pc := 971) dL_law_971 rfl ?_
        refine v_iload_n (pc := 972) dL_law_972 rfl ?_
        refine v_iconst (pc := 973) (1) dL_law_973 (by decide) ?_
        refine v_iadd (pc := 974) dL_law_974 ?_
        refine v_sld (pc := 975) dL_law_975 (by omega) (by omega) (by omega) ?_
        refine v_cVi1 (pc := 976) (z := 0) (d' := 39) dL_law_976 kX9_count ml_L_130 iwX9_count swX9_count rfl rfl (Nat.le_of_ble_eq_true rfl) (Nat.le_of_ble_eq_true rfl) (by omega) ⟨by decide, by decide⟩ ?_
        refine hM _ (fun τ' hI' => ?_)
        refine ⟨_, rfl, ?_⟩
        refine v_same (pc := 979) 984 dL_law_979 (by decide) ?_
        refine v_iinc (pc := 984) (6) dL_law_984 rfl (by decide) (by decide) ?_
        refine v_goto (pc := 987) 18 dL_law_987 (by decide) ?_
        first | exact v_lv (ih (x + 6) _ hI' (by omega) (by omega)) ⟨rfl, rfl, rfl, rfl, trivial⟩ | exact v_lv (ih (x + 6) _ hI (by omega) (by omega)) ⟨rfl, rfl, rfl, rfl, trivial⟩
theorem law_all {Inv : vSt → Prop} {g : vGl} (hL : g.2.1 ≤ 3072) (h0 : Inv yInit) (hP : vLaw Inv g) : V g mL_law 40 (600000, 7302250, 0, 0) (fun r _ => r = some (vi 1)) 0 [(0, .ref 0)] [] [] :=
  l_start (law_loop hL hP 600 0 yInit h0 (by omega) (by omega))
