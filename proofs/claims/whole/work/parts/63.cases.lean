/-! THE LAW'S LOOP: rows for its script, and each of its thirty calls -/
section LROWS
variable {p : Program} {l : Launch} {e : Env} {R : Room} {s : State} {m : MethodId} {args : Array Value} {below : List Frame} {meth : Method} {cd : Code} {D : va_G} {ad : Nat → Nat} {kI kS kL : ClassId} {A : Nat → Prop} {nL cells slots : Nat} {Q : State → Prop} {cc : ByteArray} {ret0 : Option FieldType} {own : String} {pc : Nat} {lv : List (Nat × Value)} {st : List Value} {μ : Mem} {b L : Nat} {xs : Nat → Int32}
theorem y_sld (C : Cx p s m args meth cd cc nL ret0 own D ad kI kS kL A) (hX : va_X b L xs s s.heap) (hbl : b < s.heap.size) (hbA : ¬ A b) {j : Nat} (hj : j < L) (hL : L ≤ 448) (hdg : decode cc pc = .ok (.iaload, 1)) (kk : Y p l e R s m args below meth cd D ad kI kS kL A nL cells slots Q (pc + 1) lv (.int (xs j) :: st) μ) : Y p l e R s m args below meth cd D ad kI kS kL A nL cells slots Q pc lv (.int (nI j) :: .ref b :: st) μ := by
  intro H locs ls hP hS hl
  refine va_sld C.1.1 C.1.2.1 hX hbl hbA hS (vp_in_nI hj (by omega)) hdg ?_
  rw [nI_clamp (by omega)]
  exact kk H locs ls hP hS hl
theorem y_slen (C : Cx p s m args meth cd cc nL ret0 own D ad kI kS kL A) (hX : va_X b L xs s s.heap) (hbl : b < s.heap.size) (hbA : ¬ A b) (hdg : decode cc pc = .ok (.arraylength, 1)) (kk : Y p l e R s m args below meth cd D ad kI kS kL A nL cells slots Q (pc + 1) lv (.int (nI L) :: st) μ) : Y p l e R s m args below meth cd D ad kI kS kL A nL cells slots Q pc lv (.ref b :: st) μ :=
  fun H locs ls hP hS hl => va_slen C.1.1 C.1.2.1 hX hbl hbA hS hdg (kk H locs ls hP hS hl)
end LROWS
section LCASES
variable {p : Program} {l : Launch} {e : Env} {s : State} {m : MethodId} {below : List Frame} {meth : Method} {c : Code} {D : va_G} {ad : Nat → Nat} {kI kS kL : ClassId} {A : Nat → Prop} {Q : State → Prop} {μ : Mem} {b L i : Nat} {xs : Nat → Int32}
/-- at the law's place pc, with i ints read -/
def LY (p : Program) (l : Launch) (e : Env) (s : State) (m : MethodId) (below : List Frame) (meth : Method) (c : Code) (D : va_G) (ad : Nat → Nat) (kI kS kL : ClassId) (A : Nat → Prop) (Q : State → Prop) (b : Nat) (pc i : Nat) (μ : Mem) : Prop :=
  Y p l e room_1 s m #[Value.ref b] below meth c D ad kI kS kL A 4 48 950 Q pc [(3, .int (nI i)), (2, .ref (ad 30)), (1, .ref (ad 0)), (0, .ref b)] [] μ
def LX (s : State) (A : Nat → Prop) (b L : Nat) (xs : Nat → Int32) : Prop := va_X b L xs s s.heap ∧ b < s.heap.size ∧ ¬ A b ∧ L ≤ 448
theorem lg_same (x : Int64) : (lg_cmp x x).toInt = 0 := by
  rw [l_cmp rfl rfl, if_neg (by omega), if_pos rfl]
set_option maxRecDepth 100000 in
set_option maxHeartbeats 4000000 in
theorem lc_0 (C : Cx p s m #[Value.ref b] meth c code 4 ret RL D ad kI kS kL A) (X : LX s A b L xs) (hi : i + 7 ≤ L) (hI : INV μ) (K : ∀ μ2, INV μ2 → LY p l e s m below meth c D ad kI kS kL A Q b 1172 i μ2) : LY p l e s m below meth c D ad kI kS kL A Q b 168 i μ := by
  obtain ⟨τ, ρ, θ, ζ, hX, hM, hB, hE⟩ := id hI
  have hi7 := X.2.2.2
  unfold LY
  refine y_aload_n C 2 dL_law_168 rfl rfl ?_
  refine y_aload_n C 3 dL_law_169 rfl rfl ?_
  refine y_iload_n C 0 dL_law_170 rfl rfl ?_
  refine y_iconst C (nI 1) dL_law_171 (by decide) ?_
  refine y_iadd C dL_law_172 (v := nI (i + 1)) (nI_add _ _) ?_
  refine y_sld C X.1 X.2.1 X.2.2.1 (j := i + 1) (by omega) X.2.2.2 dL_law_173 ?_
  refine y_aload_n C 3 dL_law_174 rfl rfl ?_
  refine y_iload_n C 0 dL_law_175 rfl rfl ?_
  refine y_iconst C (nI 2) dL_law_176 (by decide) ?_
  refine y_iadd C dL_law_177 (v := nI (i + 2)) (nI_add _ _) ?_
  refine y_sld C X.1 X.2.1 X.2.2.1 (j := i + 2) (by omega) X.2.2.2 dL_law_178 ?_
  refine y_aload_n C 3 dL_law_179 rfl rfl ?_
  refine y_iload_n C 0 dL_law_180 rfl rfl ?_
  refine y_iconst C (nI 3) dL_law_181 (by decide) ?_
  refine y_iadd C dL_law_182 (v := nI (i + 3)) (nI_add _ _) ?_
  refine y_sld C X.1 X.2.1 X.2.2.1 (j := i + 3) (by omega) X.2.2.2 dL_law_183 ?_
  refine y_aload_n C 3 dL_law_184 rfl rfl ?_
  refine y_iload_n C 0 dL_law_185 rfl rfl ?_
  refine y_iconst C (nI 4) dL_law_186 (by decide) ?_
  refine y_iadd C dL_law_187 (v := nI (i + 4)) (nI_add _ _) ?_
  refine y_sld C X.1 X.2.1 X.2.2.1 (j := i + 4) (by omega) X.2.2.2 dL_law_188 ?_
  obtain ⟨τ2, h2T, hB2⟩ := hX.2.1
  refine y_callVI (ci := 4) (st := []) C cl_L_13 (x_town l D ad kI kS kL μ τ hX.1 hB.1 τ2 h2T hB2 ρ hX.2.2.1 hB.2.1 θ ζ hX.2.2.2 (xs (i + 1)) (xs (i + 2)) (xs (i + 3)) (xs (i + 4))) (by omega) rfl rfl rfl (Nat.le_of_ble_eq_true rfl) ⟨(Nat.le_of_ble_eq_true rfl), (Nat.le_of_ble_eq_true rfl)⟩ ⟨(Nat.le_of_ble_eq_true rfl), (Nat.le_of_ble_eq_true rfl)⟩ dL_law_189 (fun r_ μ1 w_ => ?_)
  obtain ⟨e1_, rfl⟩ := w_
  have hM1 : JM μ1 τ ρ θ ζ := hM.lo (j_town e1_)
  refine y_aload_n C 1 dL_law_192 rfl rfl ?_
  refine y_aload_n C 3 dL_law_193 rfl rfl ?_
  refine y_iload_n C 0 dL_law_194 rfl rfl ?_
  refine y_iconst C (nI 1) dL_law_195 (by decide) ?_
  refine y_iadd C dL_law_196 (v := nI (i + 1)) (nI_add _ _) ?_
  refine y_sld C X.1 X.2.1 X.2.2.1 (j := i + 1) (by omega) X.2.2.2 dL_law_197 ?_
  refine y_aload_n C 3 dL_law_198 rfl rfl ?_
  refine y_iload_n C 0 dL_law_199 rfl rfl ?_
  refine y_iconst C (nI 2) dL_law_200 (by decide) ?_
  refine y_iadd C dL_law_201 (v := nI (i + 2)) (nI_add _ _) ?_
  refine y_sld C X.1 X.2.1 X.2.2.1 (j := i + 2) (by omega) X.2.2.2 dL_law_202 ?_
  refine y_aload_n C 3 dL_law_203 rfl rfl ?_
  refine y_iload_n C 0 dL_law_204 rfl rfl ?_
  refine y_iconst C (nI 3) dL_law_205 (by decide) ?_
  refine y_iadd C dL_law_206 (v := nI (i + 3)) (nI_add _ _) ?_
  refine y_sld C X.1 X.2.1 X.2.2.1 (j := i + 3) (by omega) X.2.2.2 dL_law_207 ?_
  refine y_aload_n C 3 dL_law_208 rfl rfl ?_
  refine y_iload_n C 0 dL_law_209 rfl rfl ?_
  refine y_iconst C (nI 4) dL_law_210 (by decide) ?_
  refine y_iadd C dL_law_211 (v := nI (i + 4)) (nI_add _ _) ?_
  refine y_sld C X.1 X.2.1 X.2.2.1 (j := i + 4) (by omega) X.2.2.2 dL_law_212 ?_
  refine y_callVI (ci := 5) (st := [.int (_)]) C cl_L_17 (m_town l D ad kI kS kL μ1 θ ζ hM1.2.2.1 hB.2.2 τ hB.1.1 (xs (i + 1)) (xs (i + 2)) (xs (i + 3)) (xs (i + 4))) (by omega) rfl rfl rfl (Nat.le_of_ble_eq_true rfl) ⟨(Nat.le_of_ble_eq_true rfl), (Nat.le_of_ble_eq_true rfl)⟩ ⟨(Nat.le_of_ble_eq_true rfl), (Nat.le_of_ble_eq_true rfl)⟩ dL_law_213 (fun r_ μ2 w_ => ?_)
  obtain ⟨e2_, rfl⟩ := w_
  refine z_icmp_eqT C 1172 dL_law_216 (by decide) rfl rfl (rfl) ?_
  exact K μ2 (s_town hX hM hB hE e1_ e2_)
set_option maxRecDepth 100000 in
set_option maxHeartbeats 4000000 in
theorem lc_1 (C : Cx p s m #[Value.ref b] meth c code 4 ret RL D ad kI kS kL A) (X : LX s A b L xs) (hi : i + 7 ≤ L) (hI : INV μ) (K : ∀ μ2, INV μ2 → LY p l e s m below meth c D ad kI kS kL A Q b 1172 i μ2) : LY p l e s m below meth c D ad kI kS kL A Q b 221 i μ := by
  obtain ⟨τ, ρ, θ, ζ, hX, hM, hB, hE⟩ := id hI
  have hi7 := X.2.2.2
  unfold LY
  refine y_aload_n C 2 dL_law_221 rfl rfl ?_
  refine y_aload_n C 3 dL_law_222 rfl rfl ?_
  refine y_iload_n C 0 dL_law_223 rfl rfl ?_
  refine y_iconst C (nI 1) dL_law_224 (by decide) ?_
  refine y_iadd C dL_law_225 (v := nI (i + 1)) (nI_add _ _) ?_
  refine y_sld C X.1 X.2.1 X.2.2.1 (j := i + 1) (by omega) X.2.2.2 dL_law_226 ?_
  refine y_aload_n C 3 dL_law_227 rfl rfl ?_
  refine y_iload_n C 0 dL_law_228 rfl rfl ?_
  refine y_iconst C (nI 2) dL_law_229 (by decide) ?_
  refine y_iadd C dL_law_230 (v := nI (i + 2)) (nI_add _ _) ?_
  refine y_sld C X.1 X.2.1 X.2.2.1 (j := i + 2) (by omega) X.2.2.2 dL_law_231 ?_
  refine y_callVI (ci := 4) (st := []) C cl_L_18 (x_ofSleeper l D ad kI kS kL μ τ hX.1 hB.1 (xs (i + 1)) (xs (i + 2))) (by omega) rfl rfl rfl (Nat.le_of_ble_eq_true rfl) ⟨(Nat.le_of_ble_eq_true rfl), (Nat.le_of_ble_eq_true rfl)⟩ ⟨(Nat.le_of_ble_eq_true rfl), (Nat.le_of_ble_eq_true rfl)⟩ dL_law_232 (fun r_ μ1 w_ => ?_)
  obtain ⟨rfl, rfl⟩ := w_
  have hM1 : JM μ τ ρ θ ζ := hM
  refine y_aload_n C 1 dL_law_235 rfl rfl ?_
  refine y_aload_n C 3 dL_law_236 rfl rfl ?_
  refine y_iload_n C 0 dL_law_237 rfl rfl ?_
  refine y_iconst C (nI 1) dL_law_238 (by decide) ?_
  refine y_iadd C dL_law_239 (v := nI (i + 1)) (nI_add _ _) ?_
  refine y_sld C X.1 X.2.1 X.2.2.1 (j := i + 1) (by omega) X.2.2.2 dL_law_240 ?_
  refine y_aload_n C 3 dL_law_241 rfl rfl ?_
  refine y_iload_n C 0 dL_law_242 rfl rfl ?_
  refine y_iconst C (nI 2) dL_law_243 (by decide) ?_
  refine y_iadd C dL_law_244 (v := nI (i + 2)) (nI_add _ _) ?_
  refine y_sld C X.1 X.2.1 X.2.2.1 (j := i + 2) (by omega) X.2.2.2 dL_law_245 ?_
  refine y_callVI (ci := 5) (st := [.int (_)]) C cl_L_22 (m_ofSleeper l D ad kI kS kL μ τ hM1.1 hB.1 (xs (i + 1)) (xs (i + 2))) (by omega) rfl rfl rfl (Nat.le_of_ble_eq_true rfl) ⟨(Nat.le_of_ble_eq_true rfl), (Nat.le_of_ble_eq_true rfl)⟩ ⟨(Nat.le_of_ble_eq_true rfl), (Nat.le_of_ble_eq_true rfl)⟩ dL_law_246 (fun r_ μ2 w_ => ?_)
  obtain ⟨rfl, rfl⟩ := w_
  refine z_icmp_eqT C 1172 dL_law_249 (by decide) rfl rfl (rfl) ?_
  exact K μ (hI)
set_option maxRecDepth 100000 in
set_option maxHeartbeats 4000000 in
theorem lc_2 (C : Cx p s m #[Value.ref b] meth c code 4 ret RL D ad kI kS kL A) (X : LX s A b L xs) (hi : i + 7 ≤ L) (hI : INV μ) (K : ∀ μ2, INV μ2 → LY p l e s m below meth c D ad kI kS kL A Q b 1172 i μ2) : LY p l e s m below meth c D ad kI kS kL A Q b 254 i μ := by
  obtain ⟨τ, ρ, θ, ζ, hX, hM, hB, hE⟩ := id hI
  have hi7 := X.2.2.2
  unfold LY
  refine y_aload_n C 2 dL_law_254 rfl rfl ?_
  refine y_aload_n C 3 dL_law_255 rfl rfl ?_
  refine y_iload_n C 0 dL_law_256 rfl rfl ?_
  refine y_iconst C (nI 1) dL_law_257 (by decide) ?_
  refine y_iadd C dL_law_258 (v := nI (i + 1)) (nI_add _ _) ?_
  refine y_sld C X.1 X.2.1 X.2.2.1 (j := i + 1) (by omega) X.2.2.2 dL_law_259 ?_
  refine y_callVI (ci := 4) (st := []) C cl_L_23 (x_goods l D ad kI kS kL μ τ hX.1 hB.1 (xs (i + 1))) (by omega) rfl rfl rfl (Nat.le_of_ble_eq_true rfl) ⟨(Nat.le_of_ble_eq_true rfl), (Nat.le_of_ble_eq_true rfl)⟩ ⟨(Nat.le_of_ble_eq_true rfl), (Nat.le_of_ble_eq_true rfl)⟩ dL_law_260 (fun r_ μ1 w_ => ?_)
  obtain ⟨rfl, rfl⟩ := w_
  have hM1 : JM μ τ ρ θ ζ := hM
  refine y_aload_n C 1 dL_law_263 rfl rfl ?_
  refine y_aload_n C 3 dL_law_264 rfl rfl ?_
  refine y_iload_n C 0 dL_law_265 rfl rfl ?_
  refine y_iconst C (nI 1) dL_law_266 (by decide) ?_
  refine y_iadd C dL_law_267 (v := nI (i + 1)) (nI_add _ _) ?_
  refine y_sld C X.1 X.2.1 X.2.2.1 (j := i + 1) (by omega) X.2.2.2 dL_law_268 ?_
  refine y_callVI (ci := 5) (st := [.int (_)]) C cl_L_27 (m_goods l D ad kI kS kL μ τ hM1.1 hB.1 (xs (i + 1))) (by omega) rfl rfl rfl (Nat.le_of_ble_eq_true rfl) ⟨(Nat.le_of_ble_eq_true rfl), (Nat.le_of_ble_eq_true rfl)⟩ ⟨(Nat.le_of_ble_eq_true rfl), (Nat.le_of_ble_eq_true rfl)⟩ dL_law_269 (fun r_ μ2 w_ => ?_)
  obtain ⟨rfl, rfl⟩ := w_
  refine z_icmp_eqT C 1172 dL_law_272 (by decide) rfl rfl (rfl) ?_
  exact K μ (hI)
set_option maxRecDepth 100000 in
set_option maxHeartbeats 4000000 in
theorem lc_3 (C : Cx p s m #[Value.ref b] meth c code 4 ret RL D ad kI kS kL A) (X : LX s A b L xs) (hi : i + 7 ≤ L) (hI : INV μ) (K : ∀ μ2, INV μ2 → LY p l e s m below meth c D ad kI kS kL A Q b 1172 i μ2) : LY p l e s m below meth c D ad kI kS kL A Q b 277 i μ := by
  obtain ⟨τ, ρ, θ, ζ, hX, hM, hB, hE⟩ := id hI
  have hi7 := X.2.2.2
  unfold LY
  refine y_aload_n C 2 dL_law_277 rfl rfl ?_
  refine y_aload_n C 3 dL_law_278 rfl rfl ?_
  refine y_iload_n C 0 dL_law_279 rfl rfl ?_
  refine y_iconst C (nI 1) dL_law_280 (by decide) ?_
  refine y_iadd C dL_law_281 (v := nI (i + 1)) (nI_add _ _) ?_
  refine y_sld C X.1 X.2.1 X.2.2.1 (j := i + 1) (by omega) X.2.2.2 dL_law_282 ?_
  refine y_aload_n C 3 dL_law_283 rfl rfl ?_
  refine y_iload_n C 0 dL_law_284 rfl rfl ?_
  refine y_iconst C (nI 2) dL_law_285 (by decide) ?_
  refine y_iadd C dL_law_286 (v := nI (i + 2)) (nI_add _ _) ?_
  refine y_sld C X.1 X.2.1 X.2.2.1 (j := i + 2) (by omega) X.2.2.2 dL_law_287 ?_
  refine y_callVI (ci := 4) (st := []) C cl_L_28 (x_lay l D ad kI kS kL μ τ hX.1 hB.1 (xs (i + 1)) (xs (i + 2))) (by omega) rfl rfl rfl (Nat.le_of_ble_eq_true rfl) ⟨(Nat.le_of_ble_eq_true rfl), (Nat.le_of_ble_eq_true rfl)⟩ ⟨(Nat.le_of_ble_eq_true rfl), (Nat.le_of_ble_eq_true rfl)⟩ dL_law_288 (fun r_ μ1 w_ => ?_)
  obtain ⟨e1_, rfl⟩ := w_
  have hM1 : JM μ1 τ ρ θ ζ := hM.lo (j_lay e1_)
  refine y_aload_n C 1 dL_law_291 rfl rfl ?_
  refine y_aload_n C 3 dL_law_292 rfl rfl ?_
  refine y_iload_n C 0 dL_law_293 rfl rfl ?_
  refine y_iconst C (nI 1) dL_law_294 (by decide) ?_
  refine y_iadd C dL_law_295 (v := nI (i + 1)) (nI_add _ _) ?_
  refine y_sld C X.1 X.2.1 X.2.2.1 (j := i + 1) (by omega) X.2.2.2 dL_law_296 ?_
  refine y_aload_n C 3 dL_law_297 rfl rfl ?_
  refine y_iload_n C 0 dL_law_298 rfl rfl ?_
  refine y_iconst C (nI 2) dL_law_299 (by decide) ?_
  refine y_iadd C dL_law_300 (v := nI (i + 2)) (nI_add _ _) ?_
  refine y_sld C X.1 X.2.1 X.2.2.1 (j := i + 2) (by omega) X.2.2.2 dL_law_301 ?_
  refine y_callVI (ci := 5) (st := [.int (_)]) C cl_L_31 (m_lay l D ad kI kS kL μ1 τ hM1.1 hB.1 (xs (i + 1)) (xs (i + 2))) (by omega) rfl rfl rfl (Nat.le_of_ble_eq_true rfl) ⟨(Nat.le_of_ble_eq_true rfl), (Nat.le_of_ble_eq_true rfl)⟩ ⟨(Nat.le_of_ble_eq_true rfl), (Nat.le_of_ble_eq_true rfl)⟩ dL_law_302 (fun r_ μ2 w_ => ?_)
  obtain ⟨e2_, rfl⟩ := w_
  refine z_icmp_eqT C 1172 dL_law_305 (by decide) rfl rfl (rfl) ?_
  exact K μ2 (s_lay hX hM hB hE e1_ e2_)
set_option maxRecDepth 100000 in
set_option maxHeartbeats 4000000 in
theorem lc_4 (C : Cx p s m #[Value.ref b] meth c code 4 ret RL D ad kI kS kL A) (X : LX s A b L xs) (hi : i + 7 ≤ L) (hI : INV μ) (K : ∀ μ2, INV μ2 → LY p l e s m below meth c D ad kI kS kL A Q b 1172 i μ2) : LY p l e s m below meth c D ad kI kS kL A Q b 310 i μ := by
  obtain ⟨τ, ρ, θ, ζ, hX, hM, hB, hE⟩ := id hI
  have hi7 := X.2.2.2
  unfold LY
  refine y_aload_n C 2 dL_law_310 rfl rfl ?_
  refine y_aload_n C 3 dL_law_311 rfl rfl ?_
  refine y_iload_n C 0 dL_law_312 rfl rfl ?_
  refine y_iconst C (nI 1) dL_law_313 (by decide) ?_
  refine y_iadd C dL_law_314 (v := nI (i + 1)) (nI_add _ _) ?_
  refine y_sld C X.1 X.2.1 X.2.2.1 (j := i + 1) (by omega) X.2.2.2 dL_law_315 ?_
  refine y_aload_n C 3 dL_law_316 rfl rfl ?_
  refine y_iload_n C 0 dL_law_317 rfl rfl ?_
  refine y_iconst C (nI 2) dL_law_318 (by decide) ?_
  refine y_iadd C dL_law_319 (v := nI (i + 2)) (nI_add _ _) ?_
  refine y_sld C X.1 X.2.1 X.2.2.1 (j := i + 2) (by omega) X.2.2.2 dL_law_320 ?_
  refine y_callVI (ci := 4) (st := []) C cl_L_32 (x_stride l D ad kI kS kL μ τ hX.1 hB.1 (xs (i + 1)) (xs (i + 2))) (by omega) rfl rfl rfl (Nat.le_of_ble_eq_true rfl) ⟨(Nat.le_of_ble_eq_true rfl), (Nat.le_of_ble_eq_true rfl)⟩ ⟨(Nat.le_of_ble_eq_true rfl), (Nat.le_of_ble_eq_true rfl)⟩ dL_law_321 (fun r_ μ1 w_ => ?_)
  obtain ⟨e1_, rfl⟩ := w_
  have hM1 : JM μ1 τ ρ θ ζ := hM.lo (j_stride hB e1_)
  refine y_aload_n C 1 dL_law_324 rfl rfl ?_
  refine y_aload_n C 3 dL_law_325 rfl rfl ?_
  refine y_iload_n C 0 dL_law_326 rfl rfl ?_
  refine y_iconst C (nI 1) dL_law_327 (by decide) ?_
  refine y_iadd C dL_law_328 (v := nI (i + 1)) (nI_add _ _) ?_
  refine y_sld C X.1 X.2.1 X.2.2.1 (j := i + 1) (by omega) X.2.2.2 dL_law_329 ?_
  refine y_aload_n C 3 dL_law_330 rfl rfl ?_
  refine y_iload_n C 0 dL_law_331 rfl rfl ?_
  refine y_iconst C (nI 2) dL_law_332 (by decide) ?_
  refine y_iadd C dL_law_333 (v := nI (i + 2)) (nI_add _ _) ?_
  refine y_sld C X.1 X.2.1 X.2.2.1 (j := i + 2) (by omega) X.2.2.2 dL_law_334 ?_
  refine y_callVI (ci := 5) (st := [.int (_)]) C cl_L_35 (m_stride l D ad kI kS kL μ1 τ hM1.1 hB.1 (xs (i + 1)) (xs (i + 2))) (by omega) rfl rfl rfl (Nat.le_of_ble_eq_true rfl) ⟨(Nat.le_of_ble_eq_true rfl), (Nat.le_of_ble_eq_true rfl)⟩ ⟨(Nat.le_of_ble_eq_true rfl), (Nat.le_of_ble_eq_true rfl)⟩ dL_law_335 (fun r_ μ2 w_ => ?_)
  obtain ⟨e2_, rfl⟩ := w_
  refine z_icmp_eqT C 1172 dL_law_338 (by decide) rfl rfl (rfl) ?_
  exact K μ2 (s_stride hX hM hB hE e1_ e2_)
set_option maxRecDepth 100000 in
set_option maxHeartbeats 4000000 in
theorem lc_5 (C : Cx p s m #[Value.ref b] meth c code 4 ret RL D ad kI kS kL A) (X : LX s A b L xs) (hi : i + 7 ≤ L) (hI : INV μ) (K : ∀ μ2, INV μ2 → LY p l e s m below meth c D ad kI kS kL A Q b 1172 i μ2) : LY p l e s m below meth c D ad kI kS kL A Q b 343 i μ := by
  obtain ⟨τ, ρ, θ, ζ, hX, hM, hB, hE⟩ := id hI
  have hi7 := X.2.2.2
  unfold LY
  refine y_aload_n C 2 dL_law_343 rfl rfl ?_
  refine y_aload_n C 3 dL_law_344 rfl rfl ?_
  refine y_iload_n C 0 dL_law_345 rfl rfl ?_
  refine y_iconst C (nI 1) dL_law_346 (by decide) ?_
  refine y_iadd C dL_law_347 (v := nI (i + 1)) (nI_add _ _) ?_
  refine y_sld C X.1 X.2.1 X.2.2.1 (j := i + 1) (by omega) X.2.2.2 dL_law_348 ?_
  refine y_aload_n C 3 dL_law_349 rfl rfl ?_
  refine y_iload_n C 0 dL_law_350 rfl rfl ?_
  refine y_iconst C (nI 2) dL_law_351 (by decide) ?_
  refine y_iadd C dL_law_352 (v := nI (i + 2)) (nI_add _ _) ?_
  refine y_sld C X.1 X.2.1 X.2.2.1 (j := i + 2) (by omega) X.2.2.2 dL_law_353 ?_
  refine y_callVI (ci := 4) (st := []) C cl_L_36 (x_where l D ad kI kS kL μ τ hX.1 hB.1 (xs (i + 1)) (xs (i + 2))) (by omega) rfl rfl rfl (Nat.le_of_ble_eq_true rfl) ⟨(Nat.le_of_ble_eq_true rfl), (Nat.le_of_ble_eq_true rfl)⟩ ⟨(Nat.le_of_ble_eq_true rfl), (Nat.le_of_ble_eq_true rfl)⟩ dL_law_354 (fun r_ μ1 w_ => ?_)
  obtain ⟨rfl, rfl⟩ := w_
  have hM1 : JM μ τ ρ θ ζ := hM
  refine y_aload_n C 1 dL_law_357 rfl rfl ?_
  refine y_aload_n C 3 dL_law_358 rfl rfl ?_
  refine y_iload_n C 0 dL_law_359 rfl rfl ?_
  refine y_iconst C (nI 1) dL_law_360 (by decide) ?_
  refine y_iadd C dL_law_361 (v := nI (i + 1)) (nI_add _ _) ?_
  refine y_sld C X.1 X.2.1 X.2.2.1 (j := i + 1) (by omega) X.2.2.2 dL_law_362 ?_
  refine y_aload_n C 3 dL_law_363 rfl rfl ?_
  refine y_iload_n C 0 dL_law_364 rfl rfl ?_
  refine y_iconst C (nI 2) dL_law_365 (by decide) ?_
  refine y_iadd C dL_law_366 (v := nI (i + 2)) (nI_add _ _) ?_
  refine y_sld C X.1 X.2.1 X.2.2.1 (j := i + 2) (by omega) X.2.2.2 dL_law_367 ?_
  refine y_callVI (ci := 5) (st := [.int (_)]) C cl_L_39 (m_where l D ad kI kS kL μ τ hM1.1 hB.1 (xs (i + 1)) (xs (i + 2))) (by omega) rfl rfl rfl (Nat.le_of_ble_eq_true rfl) ⟨(Nat.le_of_ble_eq_true rfl), (Nat.le_of_ble_eq_true rfl)⟩ ⟨(Nat.le_of_ble_eq_true rfl), (Nat.le_of_ble_eq_true rfl)⟩ dL_law_368 (fun r_ μ2 w_ => ?_)
  obtain ⟨rfl, rfl⟩ := w_
  refine z_icmp_eqT C 1172 dL_law_371 (by decide) rfl rfl (rfl) ?_
  exact K μ (hI)
set_option maxRecDepth 100000 in
set_option maxHeartbeats 4000000 in
theorem lc_6 (C : Cx p s m #[Value.ref b] meth c code 4 ret RL D ad kI kS kL A) (X : LX s A b L xs) (hi : i + 7 ≤ L) (hI : INV μ) (K : ∀ μ2, INV μ2 → LY p l e s m below meth c D ad kI kS kL A Q b 1172 i μ2) : LY p l e s m below meth c D ad kI kS kL A Q b 376 i μ := by
  obtain ⟨τ, ρ, θ, ζ, hX, hM, hB, hE⟩ := id hI
  have hi7 := X.2.2.2
  unfold LY
  refine y_aload_n C 2 dL_law_376 rfl rfl ?_
  refine y_aload_n C 3 dL_law_377 rfl rfl ?_
  refine y_iload_n C 0 dL_law_378 rfl rfl ?_
  refine y_iconst C (nI 1) dL_law_379 (by decide) ?_
  refine y_iadd C dL_law_380 (v := nI (i + 1)) (nI_add _ _) ?_
  refine y_sld C X.1 X.2.1 X.2.2.1 (j := i + 1) (by omega) X.2.2.2 dL_law_381 ?_
  refine y_aload_n C 3 dL_law_382 rfl rfl ?_
  refine y_iload_n C 0 dL_law_383 rfl rfl ?_
  refine y_iconst C (nI 2) dL_law_384 (by decide) ?_
  refine y_iadd C dL_law_385 (v := nI (i + 2)) (nI_add _ _) ?_
  refine y_sld C X.1 X.2.1 X.2.2.1 (j := i + 2) (by omega) X.2.2.2 dL_law_386 ?_
  refine y_callVI (ci := 4) (st := []) C cl_L_40 (x_taken l D ad kI kS kL μ τ hX.1 hB.1 (xs (i + 1)) (xs (i + 2))) (by omega) rfl rfl rfl (Nat.le_of_ble_eq_true rfl) ⟨(Nat.le_of_ble_eq_true rfl), (Nat.le_of_ble_eq_true rfl)⟩ ⟨(Nat.le_of_ble_eq_true rfl), (Nat.le_of_ble_eq_true rfl)⟩ dL_law_387 (fun r_ μ1 w_ => ?_)
  obtain ⟨rfl, rfl⟩ := w_
  have hM1 : JM μ τ ρ θ ζ := hM
  refine y_aload_n C 1 dL_law_390 rfl rfl ?_
  refine y_aload_n C 3 dL_law_391 rfl rfl ?_
  refine y_iload_n C 0 dL_law_392 rfl rfl ?_
  refine y_iconst C (nI 1) dL_law_393 (by decide) ?_
  refine y_iadd C dL_law_394 (v := nI (i + 1)) (nI_add _ _) ?_
  refine y_sld C X.1 X.2.1 X.2.2.1 (j := i + 1) (by omega) X.2.2.2 dL_law_395 ?_
  refine y_aload_n C 3 dL_law_396 rfl rfl ?_
  refine y_iload_n C 0 dL_law_397 rfl rfl ?_
  refine y_iconst C (nI 2) dL_law_398 (by decide) ?_
  refine y_iadd C dL_law_399 (v := nI (i + 2)) (nI_add _ _) ?_
  refine y_sld C X.1 X.2.1 X.2.2.1 (j := i + 2) (by omega) X.2.2.2 dL_law_400 ?_
  refine y_callVI (ci := 5) (st := [.int (_)]) C cl_L_43 (m_taken l D ad kI kS kL μ τ hM1.1 hB.1 (xs (i + 1)) (xs (i + 2))) (by omega) rfl rfl rfl (Nat.le_of_ble_eq_true rfl) ⟨(Nat.le_of_ble_eq_true rfl), (Nat.le_of_ble_eq_true rfl)⟩ ⟨(Nat.le_of_ble_eq_true rfl), (Nat.le_of_ble_eq_true rfl)⟩ dL_law_401 (fun r_ μ2 w_ => ?_)
  obtain ⟨e2_, rfl⟩ := w_
  refine z_icmp_eqT C 1172 dL_law_404 (by decide) rfl rfl (rfl) ?_
  exact K μ2 (inv_fr hI (fun c_ k_ _ _ h_ _ => e2_ c_ k_ h_))
set_option maxRecDepth 100000 in
set_option maxHeartbeats 4000000 in
theorem lc_7 (C : Cx p s m #[Value.ref b] meth c code 4 ret RL D ad kI kS kL A) (X : LX s A b L xs) (hi : i + 7 ≤ L) (hI : INV μ) (K : ∀ μ2, INV μ2 → LY p l e s m below meth c D ad kI kS kL A Q b 1172 i μ2) : LY p l e s m below meth c D ad kI kS kL A Q b 409 i μ := by
  obtain ⟨τ, ρ, θ, ζ, hX, hM, hB, hE⟩ := id hI
  have hi7 := X.2.2.2
  unfold LY
  refine y_aload_n C 2 dL_law_409 rfl rfl ?_
  refine y_aload_n C 3 dL_law_410 rfl rfl ?_
  refine y_iload_n C 0 dL_law_411 rfl rfl ?_
  refine y_iconst C (nI 1) dL_law_412 (by decide) ?_
  refine y_iadd C dL_law_413 (v := nI (i + 1)) (nI_add _ _) ?_
  refine y_sld C X.1 X.2.1 X.2.2.1 (j := i + 1) (by omega) X.2.2.2 dL_law_414 ?_
  refine y_callVI (ci := 4) (st := []) C cl_L_44 (x_free l D ad kI kS kL μ τ hX.1 hB.1 (xs (i + 1))) (by omega) rfl rfl rfl (Nat.le_of_ble_eq_true rfl) ⟨(Nat.le_of_ble_eq_true rfl), (Nat.le_of_ble_eq_true rfl)⟩ ⟨(Nat.le_of_ble_eq_true rfl), (Nat.le_of_ble_eq_true rfl)⟩ dL_law_415 (fun r_ μ1 w_ => ?_)
  obtain ⟨rfl, rfl⟩ := w_
  have hM1 : JM μ τ ρ θ ζ := hM
  refine y_aload_n C 1 dL_law_418 rfl rfl ?_
  refine y_aload_n C 3 dL_law_419 rfl rfl ?_
  refine y_iload_n C 0 dL_law_420 rfl rfl ?_
  refine y_iconst C (nI 1) dL_law_421 (by decide) ?_
  refine y_iadd C dL_law_422 (v := nI (i + 1)) (nI_add _ _) ?_
  refine y_sld C X.1 X.2.1 X.2.2.1 (j := i + 1) (by omega) X.2.2.2 dL_law_423 ?_
  refine y_callVI (ci := 5) (st := [.int (_)]) C cl_L_47 (m_free l D ad kI kS kL μ τ hM1.1 hB.1 hM1.2.2.2 (xs (i + 1))) (by omega) rfl rfl rfl (Nat.le_of_ble_eq_true rfl) ⟨(Nat.le_of_ble_eq_true rfl), (Nat.le_of_ble_eq_true rfl)⟩ ⟨(Nat.le_of_ble_eq_true rfl), (Nat.le_of_ble_eq_true rfl)⟩ dL_law_424 (fun r_ μ2 w_ => ?_)
  obtain ⟨rfl, rfl⟩ := w_
  refine z_icmp_eqT C 1172 dL_law_427 (by decide) rfl rfl (rfl) ?_
  exact K μ (hI)
set_option maxRecDepth 100000 in
set_option maxHeartbeats 4000000 in
theorem lc_8 (C : Cx p s m #[Value.ref b] meth c code 4 ret RL D ad kI kS kL A) (X : LX s A b L xs) (hi : i + 7 ≤ L) (hI : INV μ) (K : ∀ μ2, INV μ2 → LY p l e s m below meth c D ad kI kS kL A Q b 1172 i μ2) : LY p l e s m below meth c D ad kI kS kL A Q b 432 i μ := by
  obtain ⟨τ, ρ, θ, ζ, hX, hM, hB, hE⟩ := id hI
  have hi7 := X.2.2.2
  unfold LY
  refine y_aload_n C 2 dL_law_432 rfl rfl ?_
  refine y_aload_n C 3 dL_law_433 rfl rfl ?_
  refine y_iload_n C 0 dL_law_434 rfl rfl ?_
  refine y_iconst C (nI 1) dL_law_435 (by decide) ?_
  refine y_iadd C dL_law_436 (v := nI (i + 1)) (nI_add _ _) ?_
  refine y_sld C X.1 X.2.1 X.2.2.1 (j := i + 1) (by omega) X.2.2.2 dL_law_437 ?_
  refine y_aload_n C 3 dL_law_438 rfl rfl ?_
  refine y_iload_n C 0 dL_law_439 rfl rfl ?_
  refine y_iconst C (nI 2) dL_law_440 (by decide) ?_
  refine y_iadd C dL_law_441 (v := nI (i + 2)) (nI_add _ _) ?_
  refine y_sld C X.1 X.2.1 X.2.2.1 (j := i + 2) (by omega) X.2.2.2 dL_law_442 ?_
  refine y_callVI (ci := 4) (st := []) C cl_L_48 (x_meet l D ad kI kS kL μ τ hX.1 hB.1 (xs (i + 1)) (xs (i + 2))) (by omega) rfl rfl rfl (Nat.le_of_ble_eq_true rfl) ⟨(Nat.le_of_ble_eq_true rfl), (Nat.le_of_ble_eq_true rfl)⟩ ⟨(Nat.le_of_ble_eq_true rfl), (Nat.le_of_ble_eq_true rfl)⟩ dL_law_443 (fun r_ μ1 w_ => ?_)
  obtain ⟨rfl, rfl⟩ := w_
  have hM1 : JM μ τ ρ θ ζ := hM
  refine y_aload_n C 1 dL_law_446 rfl rfl ?_
  refine y_aload_n C 3 dL_law_447 rfl rfl ?_
  refine y_iload_n C 0 dL_law_448 rfl rfl ?_
  refine y_iconst C (nI 1) dL_law_449 (by decide) ?_
  refine y_iadd C dL_law_450 (v := nI (i + 1)) (nI_add _ _) ?_
  refine y_sld C X.1 X.2.1 X.2.2.1 (j := i + 1) (by omega) X.2.2.2 dL_law_451 ?_
  refine y_aload_n C 3 dL_law_452 rfl rfl ?_
  refine y_iload_n C 0 dL_law_453 rfl rfl ?_
  refine y_iconst C (nI 2) dL_law_454 (by decide) ?_
  refine y_iadd C dL_law_455 (v := nI (i + 2)) (nI_add _ _) ?_
  refine y_sld C X.1 X.2.1 X.2.2.1 (j := i + 2) (by omega) X.2.2.2 dL_law_456 ?_
  refine y_callVI (ci := 5) (st := [.int (_)]) C cl_L_51 (m_meet l D ad kI kS kL μ τ hM1.1 hB.1 (xs (i + 1)) (xs (i + 2))) (by omega) rfl rfl rfl (Nat.le_of_ble_eq_true rfl) ⟨(Nat.le_of_ble_eq_true rfl), (Nat.le_of_ble_eq_true rfl)⟩ ⟨(Nat.le_of_ble_eq_true rfl), (Nat.le_of_ble_eq_true rfl)⟩ dL_law_457 (fun r_ μ2 w_ => ?_)
  obtain ⟨rfl, rfl⟩ := w_
  refine z_icmp_eqT C 1172 dL_law_460 (by decide) rfl rfl (rfl) ?_
  exact K μ (hI)
set_option maxRecDepth 100000 in
set_option maxHeartbeats 4000000 in
theorem lc_9 (C : Cx p s m #[Value.ref b] meth c code 4 ret RL D ad kI kS kL A) (X : LX s A b L xs) (hi : i + 7 ≤ L) (hI : INV μ) (K : ∀ μ2, INV μ2 → LY p l e s m below meth c D ad kI kS kL A Q b 1172 i μ2) : LY p l e s m below meth c D ad kI kS kL A Q b 465 i μ := by
  obtain ⟨τ, ρ, θ, ζ, hX, hM, hB, hE⟩ := id hI
  have hi7 := X.2.2.2
  unfold LY
  refine y_aload_n C 2 dL_law_465 rfl rfl ?_
  refine y_aload_n C 3 dL_law_466 rfl rfl ?_
  refine y_iload_n C 0 dL_law_467 rfl rfl ?_
  refine y_iconst C (nI 1) dL_law_468 (by decide) ?_
  refine y_iadd C dL_law_469 (v := nI (i + 1)) (nI_add _ _) ?_
  refine y_sld C X.1 X.2.1 X.2.2.1 (j := i + 1) (by omega) X.2.2.2 dL_law_470 ?_
  refine y_aload_n C 3 dL_law_471 rfl rfl ?_
  refine y_iload_n C 0 dL_law_472 rfl rfl ?_
  refine y_iconst C (nI 2) dL_law_473 (by decide) ?_
  refine y_iadd C dL_law_474 (v := nI (i + 2)) (nI_add _ _) ?_
  refine y_sld C X.1 X.2.1 X.2.2.1 (j := i + 2) (by omega) X.2.2.2 dL_law_475 ?_
  refine y_aload_n C 3 dL_law_476 rfl rfl ?_
  refine y_iload_n C 0 dL_law_477 rfl rfl ?_
  refine y_iconst C (nI 3) dL_law_478 (by decide) ?_
  refine y_iadd C dL_law_479 (v := nI (i + 3)) (nI_add _ _) ?_
  refine y_sld C X.1 X.2.1 X.2.2.1 (j := i + 3) (by omega) X.2.2.2 dL_law_480 ?_
  refine y_aload_n C 3 dL_law_481 rfl rfl ?_
  refine y_iload_n C 0 dL_law_482 rfl rfl ?_
  refine y_iconst C (nI 4) dL_law_483 (by decide) ?_
  refine y_iadd C dL_law_484 (v := nI (i + 4)) (nI_add _ _) ?_
  refine y_sld C X.1 X.2.1 X.2.2.1 (j := i + 4) (by omega) X.2.2.2 dL_law_485 ?_
  refine y_aload_n C 3 dL_law_486 rfl rfl ?_
  refine y_iload_n C 0 dL_law_487 rfl rfl ?_
  refine y_iconst C (nI 5) dL_law_488 (by decide) ?_
  refine y_iadd C dL_law_489 (v := nI (i + 5)) (nI_add _ _) ?_
  refine y_sld C X.1 X.2.1 X.2.2.1 (j := i + 5) (by omega) X.2.2.2 dL_law_490 ?_
  refine y_aload_n C 3 dL_law_491 rfl rfl ?_
  refine y_iload_n C 0 dL_law_492 rfl rfl ?_
  refine y_bipush C (nI 6) dL_law_493 (by decide) ?_
  refine y_iadd C dL_law_495 (v := nI (i + 6)) (nI_add _ _) ?_
  refine y_sld C X.1 X.2.1 X.2.2.1 (j := i + 6) (by omega) X.2.2.2 dL_law_496 ?_
  refine y_callVI (ci := 4) (st := []) C cl_L_52 (x_walk l D ad kI kS kL μ τ hX.1 hB.1 θ ζ hX.2.2.2 (xs (i + 1)) (xs (i + 2)) (xs (i + 3)) (xs (i + 4)) (xs (i + 5)) (xs (i + 6))) (by omega) rfl rfl rfl (Nat.le_of_ble_eq_true rfl) ⟨(Nat.le_of_ble_eq_true rfl), (Nat.le_of_ble_eq_true rfl)⟩ ⟨(Nat.le_of_ble_eq_true rfl), (Nat.le_of_ble_eq_true rfl)⟩ dL_law_497 (fun r_ μ1 w_ => ?_)
  obtain ⟨e1_, rfl⟩ := w_
  have hM1 : JM μ1 τ ρ θ ζ := hM.lo (j_flt e1_)
  refine y_aload_n C 1 dL_law_500 rfl rfl ?_
  refine y_aload_n C 3 dL_law_501 rfl rfl ?_
  refine y_iload_n C 0 dL_law_502 rfl rfl ?_
  refine y_iconst C (nI 1) dL_law_503 (by decide) ?_
  refine y_iadd C dL_law_504 (v := nI (i + 1)) (nI_add _ _) ?_
  refine y_sld C X.1 X.2.1 X.2.2.1 (j := i + 1) (by omega) X.2.2.2 dL_law_505 ?_
  refine y_aload_n C 3 dL_law_506 rfl rfl ?_
  refine y_iload_n C 0 dL_law_507 rfl rfl ?_
  refine y_iconst C (nI 2) dL_law_508 (by decide) ?_
  refine y_iadd C dL_law_509 (v := nI (i + 2)) (nI_add _ _) ?_
  refine y_sld C X.1 X.2.1 X.2.2.1 (j := i + 2) (by omega) X.2.2.2 dL_law_510 ?_
  refine y_aload_n C 3 dL_law_511 rfl rfl ?_
  refine y_iload_n C 0 dL_law_512 rfl rfl ?_
  refine y_iconst C (nI 3) dL_law_513 (by decide) ?_
  refine y_iadd C dL_law_514 (v := nI (i + 3)) (nI_add _ _) ?_
  refine y_sld C X.1 X.2.1 X.2.2.1 (j := i + 3) (by omega) X.2.2.2 dL_law_515 ?_
  refine y_aload_n C 3 dL_law_516 rfl rfl ?_
  refine y_iload_n C 0 dL_law_517 rfl rfl ?_
  refine y_iconst C (nI 4) dL_law_518 (by decide) ?_
  refine y_iadd C dL_law_519 (v := nI (i + 4)) (nI_add _ _) ?_
  refine y_sld C X.1 X.2.1 X.2.2.1 (j := i + 4) (by omega) X.2.2.2 dL_law_520 ?_
  refine y_aload_n C 3 dL_law_521 rfl rfl ?_
  refine y_iload_n C 0 dL_law_522 rfl rfl ?_
  refine y_iconst C (nI 5) dL_law_523 (by decide) ?_
  refine y_iadd C dL_law_524 (v := nI (i + 5)) (nI_add _ _) ?_
  refine y_sld C X.1 X.2.1 X.2.2.1 (j := i + 5) (by omega) X.2.2.2 dL_law_525 ?_
  refine y_aload_n C 3 dL_law_526 rfl rfl ?_
  refine y_iload_n C 0 dL_law_527 rfl rfl ?_
  refine y_bipush C (nI 6) dL_law_528 (by decide) ?_
  refine y_iadd C dL_law_530 (v := nI (i + 6)) (nI_add _ _) ?_
  refine y_sld C X.1 X.2.1 X.2.2.1 (j := i + 6) (by omega) X.2.2.2 dL_law_531 ?_
  refine y_callVI (ci := 5) (st := [.int (_)]) C cl_L_56 (m_walk l D ad kI kS kL μ1 τ hM1.1 hB.1.1 θ ζ hM1.2.2.1 hB.2.2 hB.1 hM1.2.2.2 (xs (i + 1)) (xs (i + 2)) (xs (i + 3)) (xs (i + 4)) (xs (i + 5)) (xs (i + 6))) (by omega) rfl rfl rfl (Nat.le_of_ble_eq_true rfl) ⟨(Nat.le_of_ble_eq_true rfl), (Nat.le_of_ble_eq_true rfl)⟩ ⟨(Nat.le_of_ble_eq_true rfl), (Nat.le_of_ble_eq_true rfl)⟩ dL_law_532 (fun r_ μ2 w_ => ?_)
  obtain ⟨e2_, rfl⟩ := w_
  refine z_icmp_eqT C 1172 dL_law_535 (by decide) rfl rfl (rfl) ?_
  exact K μ2 (s_walk hI e1_ e2_)
set_option maxRecDepth 100000 in
set_option maxHeartbeats 4000000 in
theorem lc_10 (C : Cx p s m #[Value.ref b] meth c code 4 ret RL D ad kI kS kL A) (X : LX s A b L xs) (hi : i + 7 ≤ L) (hI : INV μ) (K : ∀ μ2, INV μ2 → LY p l e s m below meth c D ad kI kS kL A Q b 1172 i μ2) : LY p l e s m below meth c D ad kI kS kL A Q b 540 i μ := by
  obtain ⟨τ, ρ, θ, ζ, hX, hM, hB, hE⟩ := id hI
  have hi7 := X.2.2.2
  unfold LY
  refine y_aload_n C 2 dL_law_540 rfl rfl ?_
  refine y_aload_n C 3 dL_law_541 rfl rfl ?_
  refine y_iload_n C 0 dL_law_542 rfl rfl ?_
  refine y_iconst C (nI 1) dL_law_543 (by decide) ?_
  refine y_iadd C dL_law_544 (v := nI (i + 1)) (nI_add _ _) ?_
  refine y_sld C X.1 X.2.1 X.2.2.1 (j := i + 1) (by omega) X.2.2.2 dL_law_545 ?_
  refine y_aload_n C 3 dL_law_546 rfl rfl ?_
  refine y_iload_n C 0 dL_law_547 rfl rfl ?_
  refine y_iconst C (nI 2) dL_law_548 (by decide) ?_
  refine y_iadd C dL_law_549 (v := nI (i + 2)) (nI_add _ _) ?_
  refine y_sld C X.1 X.2.1 X.2.2.1 (j := i + 2) (by omega) X.2.2.2 dL_law_550 ?_
  refine y_aload_n C 3 dL_law_551 rfl rfl ?_
  refine y_iload_n C 0 dL_law_552 rfl rfl ?_
  refine y_iconst C (nI 3) dL_law_553 (by decide) ?_
  refine y_iadd C dL_law_554 (v := nI (i + 3)) (nI_add _ _) ?_
  refine y_sld C X.1 X.2.1 X.2.2.1 (j := i + 3) (by omega) X.2.2.2 dL_law_555 ?_
  refine y_callVI (ci := 4) (st := []) C cl_L_57 (x_soonest l D ad kI kS kL μ τ hX.1 hB.1 (xs (i + 1)) (xs (i + 2)) (xs (i + 3))) (by omega) rfl rfl rfl (Nat.le_of_ble_eq_true rfl) ⟨(Nat.le_of_ble_eq_true rfl), (Nat.le_of_ble_eq_true rfl)⟩ ⟨(Nat.le_of_ble_eq_true rfl), (Nat.le_of_ble_eq_true rfl)⟩ dL_law_556 (fun r_ μ1 w_ => ?_)
  obtain ⟨e1_, rfl⟩ := w_
  have hM1 : JM μ1 τ ρ θ ζ := hM.lo (fun c_ k_ h_ => e1_ c_ k_ (by omega))
  refine y_aload_n C 1 dL_law_559 rfl rfl ?_
  refine y_aload_n C 3 dL_law_560 rfl rfl ?_
  refine y_iload_n C 0 dL_law_561 rfl rfl ?_
  refine y_iconst C (nI 1) dL_law_562 (by decide) ?_
  refine y_iadd C dL_law_563 (v := nI (i + 1)) (nI_add _ _) ?_
  refine y_sld C X.1 X.2.1 X.2.2.1 (j := i + 1) (by omega) X.2.2.2 dL_law_564 ?_
  refine y_aload_n C 3 dL_law_565 rfl rfl ?_
  refine y_iload_n C 0 dL_law_566 rfl rfl ?_
  refine y_iconst C (nI 2) dL_law_567 (by decide) ?_
  refine y_iadd C dL_law_568 (v := nI (i + 2)) (nI_add _ _) ?_
  refine y_sld C X.1 X.2.1 X.2.2.1 (j := i + 2) (by omega) X.2.2.2 dL_law_569 ?_
  refine y_aload_n C 3 dL_law_570 rfl rfl ?_
  refine y_iload_n C 0 dL_law_571 rfl rfl ?_
  refine y_iconst C (nI 3) dL_law_572 (by decide) ?_
  refine y_iadd C dL_law_573 (v := nI (i + 3)) (nI_add _ _) ?_
  refine y_sld C X.1 X.2.1 X.2.2.1 (j := i + 3) (by omega) X.2.2.2 dL_law_574 ?_
  refine y_callVI (ci := 5) (st := [.int (_)]) C cl_L_61 (m_soonest l D ad kI kS kL μ1 τ hM1.1 hB.1 hM1.2.2.2 (xs (i + 1)) (xs (i + 2)) (xs (i + 3))) (by omega) rfl rfl rfl (Nat.le_of_ble_eq_true rfl) ⟨(Nat.le_of_ble_eq_true rfl), (Nat.le_of_ble_eq_true rfl)⟩ ⟨(Nat.le_of_ble_eq_true rfl), (Nat.le_of_ble_eq_true rfl)⟩ dL_law_575 (fun r_ μ2 w_ => ?_)
  obtain ⟨e2_, rfl⟩ := w_
  refine z_icmp_eqT C 1172 dL_law_578 (by decide) rfl rfl (rfl) ?_
  exact K μ2 (inv_fr hI (fun c_ k_ h9_ _ _ h40_ => (e2_ c_ k_ h40_).trans (e1_ c_ k_ h9_)))
set_option maxRecDepth 100000 in
set_option maxHeartbeats 4000000 in
theorem lc_11 (C : Cx p s m #[Value.ref b] meth c code 4 ret RL D ad kI kS kL A) (X : LX s A b L xs) (hi : i + 7 ≤ L) (hI : INV μ) (K : ∀ μ2, INV μ2 → LY p l e s m below meth c D ad kI kS kL A Q b 1172 i μ2) : LY p l e s m below meth c D ad kI kS kL A Q b 583 i μ := by
  obtain ⟨τ, ρ, θ, ζ, hX, hM, hB, hE⟩ := id hI
  have hi7 := X.2.2.2
  unfold LY
  refine y_aload_n C 2 dL_law_583 rfl rfl ?_
  refine y_aload_n C 3 dL_law_584 rfl rfl ?_
  refine y_iload_n C 0 dL_law_585 rfl rfl ?_
  refine y_iconst C (nI 1) dL_law_586 (by decide) ?_
  refine y_iadd C dL_law_587 (v := nI (i + 1)) (nI_add _ _) ?_
  refine y_sld C X.1 X.2.1 X.2.2.1 (j := i + 1) (by omega) X.2.2.2 dL_law_588 ?_
  refine y_aload_n C 3 dL_law_589 rfl rfl ?_
  refine y_iload_n C 0 dL_law_590 rfl rfl ?_
  refine y_iconst C (nI 2) dL_law_591 (by decide) ?_
  refine y_iadd C dL_law_592 (v := nI (i + 2)) (nI_add _ _) ?_
  refine y_sld C X.1 X.2.1 X.2.2.1 (j := i + 2) (by omega) X.2.2.2 dL_law_593 ?_
  refine y_aload_n C 3 dL_law_594 rfl rfl ?_
  refine y_iload_n C 0 dL_law_595 rfl rfl ?_
  refine y_iconst C (nI 3) dL_law_596 (by decide) ?_
  refine y_iadd C dL_law_597 (v := nI (i + 3)) (nI_add _ _) ?_
  refine y_sld C X.1 X.2.1 X.2.2.1 (j := i + 3) (by omega) X.2.2.2 dL_law_598 ?_
  refine y_callVI (ci := 4) (st := []) C cl_L_62 (x_steer l D ad kI kS kL μ τ hX.1 hB.1 (xs (i + 1)) (xs (i + 2)) (xs (i + 3))) (by omega) rfl rfl rfl (Nat.le_of_ble_eq_true rfl) ⟨(Nat.le_of_ble_eq_true rfl), (Nat.le_of_ble_eq_true rfl)⟩ ⟨(Nat.le_of_ble_eq_true rfl), (Nat.le_of_ble_eq_true rfl)⟩ dL_law_599 (fun r_ μ1 w_ => ?_)
  obtain ⟨rfl, rfl⟩ := w_
  have hM1 : JM μ τ ρ θ ζ := hM
  refine y_aload_n C 1 dL_law_602 rfl rfl ?_
  refine y_aload_n C 3 dL_law_603 rfl rfl ?_
  refine y_iload_n C 0 dL_law_604 rfl rfl ?_
  refine y_iconst C (nI 1) dL_law_605 (by decide) ?_
  refine y_iadd C dL_law_606 (v := nI (i + 1)) (nI_add _ _) ?_
  refine y_sld C X.1 X.2.1 X.2.2.1 (j := i + 1) (by omega) X.2.2.2 dL_law_607 ?_
  refine y_aload_n C 3 dL_law_608 rfl rfl ?_
  refine y_iload_n C 0 dL_law_609 rfl rfl ?_
  refine y_iconst C (nI 2) dL_law_610 (by decide) ?_
  refine y_iadd C dL_law_611 (v := nI (i + 2)) (nI_add _ _) ?_
  refine y_sld C X.1 X.2.1 X.2.2.1 (j := i + 2) (by omega) X.2.2.2 dL_law_612 ?_
  refine y_aload_n C 3 dL_law_613 rfl rfl ?_
  refine y_iload_n C 0 dL_law_614 rfl rfl ?_
  refine y_iconst C (nI 3) dL_law_615 (by decide) ?_
  refine y_iadd C dL_law_616 (v := nI (i + 3)) (nI_add _ _) ?_
  refine y_sld C X.1 X.2.1 X.2.2.1 (j := i + 3) (by omega) X.2.2.2 dL_law_617 ?_
  refine y_callVI (ci := 5) (st := [.int (_)]) C cl_L_65 (m_steer l D ad kI kS kL μ τ hM1.1 hB.1 (xs (i + 1)) (xs (i + 2)) (xs (i + 3))) (by omega) rfl rfl rfl (Nat.le_of_ble_eq_true rfl) ⟨(Nat.le_of_ble_eq_true rfl), (Nat.le_of_ble_eq_true rfl)⟩ ⟨(Nat.le_of_ble_eq_true rfl), (Nat.le_of_ble_eq_true rfl)⟩ dL_law_618 (fun r_ μ2 w_ => ?_)
  obtain ⟨rfl, rfl⟩ := w_
  refine z_icmp_eqT C 1172 dL_law_621 (by decide) rfl rfl (rfl) ?_
  exact K μ (hI)
set_option maxRecDepth 100000 in
set_option maxHeartbeats 4000000 in
theorem lc_12 (C : Cx p s m #[Value.ref b] meth c code 4 ret RL D ad kI kS kL A) (X : LX s A b L xs) (hi : i + 7 ≤ L) (hI : INV μ) (K : ∀ μ2, INV μ2 → LY p l e s m below meth c D ad kI kS kL A Q b 1172 i μ2) : LY p l e s m below meth c D ad kI kS kL A Q b 626 i μ := by
  obtain ⟨τ, ρ, θ, ζ, hX, hM, hB, hE⟩ := id hI
  have hi7 := X.2.2.2
  unfold LY
  refine y_aload_n C 2 dL_law_626 rfl rfl ?_
  refine y_callVI (ci := 4) (st := []) C cl_L_66 (x_guard l D ad kI kS kL μ τ hX.1 hB.1 ) (by omega) rfl rfl rfl (Nat.le_of_ble_eq_true rfl) ⟨(Nat.le_of_ble_eq_true rfl), (Nat.le_of_ble_eq_true rfl)⟩ ⟨(Nat.le_of_ble_eq_true rfl), (Nat.le_of_ble_eq_true rfl)⟩ dL_law_627 (fun r_ μ1 w_ => ?_)
  obtain ⟨rfl, rfl⟩ := w_
  have hM1 : JM μ τ ρ θ ζ := hM
  refine y_aload_n C 1 dL_law_630 rfl rfl ?_
  refine y_callVI (ci := 5) (st := [.int (_)]) C cl_L_70 (m_guard l D ad kI kS kL μ τ hM1.1 hB.1 ) (by omega) rfl rfl rfl (Nat.le_of_ble_eq_true rfl) ⟨(Nat.le_of_ble_eq_true rfl), (Nat.le_of_ble_eq_true rfl)⟩ ⟨(Nat.le_of_ble_eq_true rfl), (Nat.le_of_ble_eq_true rfl)⟩ dL_law_631 (fun r_ μ2 w_ => ?_)
  obtain ⟨rfl, rfl⟩ := w_
  refine z_icmp_eqT C 1172 dL_law_634 (by decide) rfl rfl (rfl) ?_
  exact K μ (hI)
set_option maxRecDepth 100000 in
set_option maxHeartbeats 4000000 in
theorem lc_13 (C : Cx p s m #[Value.ref b] meth c code 4 ret RL D ad kI kS kL A) (X : LX s A b L xs) (hi : i + 7 ≤ L) (hI : INV μ) (K : ∀ μ2, INV μ2 → LY p l e s m below meth c D ad kI kS kL A Q b 1172 i μ2) : LY p l e s m below meth c D ad kI kS kL A Q b 639 i μ := by
  obtain ⟨τ, ρ, θ, ζ, hX, hM, hB, hE⟩ := id hI
  have hi7 := X.2.2.2
  unfold LY
  refine y_aload_n C 2 dL_law_639 rfl rfl ?_
  refine y_aload_n C 3 dL_law_640 rfl rfl ?_
  refine y_iload_n C 0 dL_law_641 rfl rfl ?_
  refine y_iconst C (nI 1) dL_law_642 (by decide) ?_
  refine y_iadd C dL_law_643 (v := nI (i + 1)) (nI_add _ _) ?_
  refine y_sld C X.1 X.2.1 X.2.2.1 (j := i + 1) (by omega) X.2.2.2 dL_law_644 ?_
  refine y_aload_n C 3 dL_law_645 rfl rfl ?_
  refine y_iload_n C 0 dL_law_646 rfl rfl ?_
  refine y_iconst C (nI 2) dL_law_647 (by decide) ?_
  refine y_iadd C dL_law_648 (v := nI (i + 2)) (nI_add _ _) ?_
  refine y_sld C X.1 X.2.1 X.2.2.1 (j := i + 2) (by omega) X.2.2.2 dL_law_649 ?_
  refine y_aload_n C 3 dL_law_650 rfl rfl ?_
  refine y_iload_n C 0 dL_law_651 rfl rfl ?_
  refine y_iconst C (nI 3) dL_law_652 (by decide) ?_
  refine y_iadd C dL_law_653 (v := nI (i + 3)) (nI_add _ _) ?_
  refine y_sld C X.1 X.2.1 X.2.2.1 (j := i + 3) (by omega) X.2.2.2 dL_law_654 ?_
  refine y_callVI (ci := 4) (st := []) C cl_L_71 (x_reading l D ad kI kS kL μ τ hX.1 hB.1 ρ hX.2.2.1 hB.2.1 (xs (i + 1)) (xs (i + 2)) (xs (i + 3))) (by omega) rfl rfl rfl (Nat.le_of_ble_eq_true rfl) ⟨(Nat.le_of_ble_eq_true rfl), (Nat.le_of_ble_eq_true rfl)⟩ ⟨(Nat.le_of_ble_eq_true rfl), (Nat.le_of_ble_eq_true rfl)⟩ dL_law_655 (fun r_ μ1 w_ => ?_)
  obtain ⟨e1_, rfl⟩ := w_
  have hM1 : JM μ1 τ ρ θ ζ := hM.lo (j_reading e1_)
  refine y_aload_n C 1 dL_law_658 rfl rfl ?_
  refine y_aload_n C 3 dL_law_659 rfl rfl ?_
  refine y_iload_n C 0 dL_law_660 rfl rfl ?_
  refine y_iconst C (nI 1) dL_law_661 (by decide) ?_
  refine y_iadd C dL_law_662 (v := nI (i + 1)) (nI_add _ _) ?_
  refine y_sld C X.1 X.2.1 X.2.2.1 (j := i + 1) (by omega) X.2.2.2 dL_law_663 ?_
  refine y_aload_n C 3 dL_law_664 rfl rfl ?_
  refine y_iload_n C 0 dL_law_665 rfl rfl ?_
  refine y_iconst C (nI 2) dL_law_666 (by decide) ?_
  refine y_iadd C dL_law_667 (v := nI (i + 2)) (nI_add _ _) ?_
  refine y_sld C X.1 X.2.1 X.2.2.1 (j := i + 2) (by omega) X.2.2.2 dL_law_668 ?_
  refine y_aload_n C 3 dL_law_669 rfl rfl ?_
  refine y_iload_n C 0 dL_law_670 rfl rfl ?_
  refine y_iconst C (nI 3) dL_law_671 (by decide) ?_
  refine y_iadd C dL_law_672 (v := nI (i + 3)) (nI_add _ _) ?_
  refine y_sld C X.1 X.2.1 X.2.2.1 (j := i + 3) (by omega) X.2.2.2 dL_law_673 ?_
  refine y_callVI (ci := 5) (st := [.int (_)]) C cl_L_74 (m_reading l D ad kI kS kL μ1 τ hM1.1 hB.1 ρ hM1.2.1 hB.2.1 (xs (i + 1)) (xs (i + 2)) (xs (i + 3))) (by omega) rfl rfl rfl (Nat.le_of_ble_eq_true rfl) ⟨(Nat.le_of_ble_eq_true rfl), (Nat.le_of_ble_eq_true rfl)⟩ ⟨(Nat.le_of_ble_eq_true rfl), (Nat.le_of_ble_eq_true rfl)⟩ dL_law_674 (fun r_ μ2 w_ => ?_)
  obtain ⟨e2_, rfl⟩ := w_
  refine z_icmp_eqT C 1172 dL_law_677 (by decide) rfl rfl (rfl) ?_
  exact K μ2 (s_reading hX hM hB hE e1_ e2_)
set_option maxRecDepth 100000 in
set_option maxHeartbeats 4000000 in
theorem lc_14 (C : Cx p s m #[Value.ref b] meth c code 4 ret RL D ad kI kS kL A) (X : LX s A b L xs) (hi : i + 7 ≤ L) (hI : INV μ) (K : ∀ μ2, INV μ2 → LY p l e s m below meth c D ad kI kS kL A Q b 1172 i μ2) : LY p l e s m below meth c D ad kI kS kL A Q b 682 i μ := by
  obtain ⟨τ, ρ, θ, ζ, hX, hM, hB, hE⟩ := id hI
  have hi7 := X.2.2.2
  unfold LY
  refine y_aload_n C 2 dL_law_682 rfl rfl ?_
  refine y_aload_n C 3 dL_law_683 rfl rfl ?_
  refine y_iload_n C 0 dL_law_684 rfl rfl ?_
  refine y_iconst C (nI 1) dL_law_685 (by decide) ?_
  refine y_iadd C dL_law_686 (v := nI (i + 1)) (nI_add _ _) ?_
  refine y_sld C X.1 X.2.1 X.2.2.1 (j := i + 1) (by omega) X.2.2.2 dL_law_687 ?_
  refine y_callVI (ci := 4) (st := []) C cl_L_75 (x_back l D ad kI kS kL μ τ hX.1 hB.1 ρ hX.2.2.1 hB.2.1 (xs (i + 1))) (by omega) rfl rfl rfl (Nat.le_of_ble_eq_true rfl) ⟨(Nat.le_of_ble_eq_true rfl), (Nat.le_of_ble_eq_true rfl)⟩ ⟨(Nat.le_of_ble_eq_true rfl), (Nat.le_of_ble_eq_true rfl)⟩ dL_law_688 (fun r_ μ1 w_ => ?_)
  obtain ⟨e1_, rfl⟩ := w_
  have hM1 : JM μ1 τ ρ θ ζ := hM.lo (j_back (k := 0) e1_)
  refine y_aload_n C 1 dL_law_691 rfl rfl ?_
  refine y_aload_n C 3 dL_law_692 rfl rfl ?_
  refine y_iload_n C 0 dL_law_693 rfl rfl ?_
  refine y_iconst C (nI 1) dL_law_694 (by decide) ?_
  refine y_iadd C dL_law_695 (v := nI (i + 1)) (nI_add _ _) ?_
  refine y_sld C X.1 X.2.1 X.2.2.1 (j := i + 1) (by omega) X.2.2.2 dL_law_696 ?_
  refine y_callVI (ci := 5) (st := [.int (_)]) C cl_L_78 (m_back l D ad kI kS kL μ1 τ hM1.1 hB.1 ρ hM1.2.1 hB.2.1 (xs (i + 1))) (by omega) rfl rfl rfl (Nat.le_of_ble_eq_true rfl) ⟨(Nat.le_of_ble_eq_true rfl), (Nat.le_of_ble_eq_true rfl)⟩ ⟨(Nat.le_of_ble_eq_true rfl), (Nat.le_of_ble_eq_true rfl)⟩ dL_law_697 (fun r_ μ2 w_ => ?_)
  obtain ⟨e2_, rfl⟩ := w_
  refine z_icmp_eqT C 1172 dL_law_700 (by decide) rfl rfl (rfl) ?_
  exact K μ2 (s_back hX hM hB hE e1_ e2_)
set_option maxRecDepth 100000 in
set_option maxHeartbeats 4000000 in
theorem lc_15 (C : Cx p s m #[Value.ref b] meth c code 4 ret RL D ad kI kS kL A) (X : LX s A b L xs) (hi : i + 7 ≤ L) (hI : INV μ) (K : ∀ μ2, INV μ2 → LY p l e s m below meth c D ad kI kS kL A Q b 1172 i μ2) : LY p l e s m below meth c D ad kI kS kL A Q b 705 i μ := by
  obtain ⟨τ, ρ, θ, ζ, hX, hM, hB, hE⟩ := id hI
  have hi7 := X.2.2.2
  unfold LY
  refine y_aload_n C 2 dL_law_705 rfl rfl ?_
  refine y_aload_n C 3 dL_law_706 rfl rfl ?_
  refine y_iload_n C 0 dL_law_707 rfl rfl ?_
  refine y_iconst C (nI 1) dL_law_708 (by decide) ?_
  refine y_iadd C dL_law_709 (v := nI (i + 1)) (nI_add _ _) ?_
  refine y_sld C X.1 X.2.1 X.2.2.1 (j := i + 1) (by omega) X.2.2.2 dL_law_710 ?_
  refine y_callVI (ci := 4) (st := []) C cl_L_79 (x_strides l D ad kI kS kL μ τ hX.1 hB.1 ρ hX.2.2.1 hB.2.1 (xs (i + 1))) (by omega) rfl rfl rfl (Nat.le_of_ble_eq_true rfl) ⟨(Nat.le_of_ble_eq_true rfl), (Nat.le_of_ble_eq_true rfl)⟩ ⟨(Nat.le_of_ble_eq_true rfl), (Nat.le_of_ble_eq_true rfl)⟩ dL_law_711 (fun r_ μ1 w_ => ?_)
  obtain ⟨rfl, rfl⟩ := w_
  have hM1 : JM μ τ ρ θ ζ := hM
  refine y_aload_n C 1 dL_law_714 rfl rfl ?_
  refine y_aload_n C 3 dL_law_715 rfl rfl ?_
  refine y_iload_n C 0 dL_law_716 rfl rfl ?_
  refine y_iconst C (nI 1) dL_law_717 (by decide) ?_
  refine y_iadd C dL_law_718 (v := nI (i + 1)) (nI_add _ _) ?_
  refine y_sld C X.1 X.2.1 X.2.2.1 (j := i + 1) (by omega) X.2.2.2 dL_law_719 ?_
  refine y_callVI (ci := 5) (st := [.int (_)]) C cl_L_82 (m_strides l D ad kI kS kL μ τ hM1.1 hB.1 ρ hM1.2.1 hB.2.1 (xs (i + 1))) (by omega) rfl rfl rfl (Nat.le_of_ble_eq_true rfl) ⟨(Nat.le_of_ble_eq_true rfl), (Nat.le_of_ble_eq_true rfl)⟩ ⟨(Nat.le_of_ble_eq_true rfl), (Nat.le_of_ble_eq_true rfl)⟩ dL_law_720 (fun r_ μ2 w_ => ?_)
  obtain ⟨rfl, rfl⟩ := w_
  refine z_icmp_eqT C 1172 dL_law_723 (by decide) rfl rfl (rfl) ?_
  exact K μ (hI)
set_option maxRecDepth 100000 in
set_option maxHeartbeats 4000000 in
theorem lc_16 (C : Cx p s m #[Value.ref b] meth c code 4 ret RL D ad kI kS kL A) (X : LX s A b L xs) (hi : i + 7 ≤ L) (hI : INV μ) (K : ∀ μ2, INV μ2 → LY p l e s m below meth c D ad kI kS kL A Q b 1172 i μ2) : LY p l e s m below meth c D ad kI kS kL A Q b 728 i μ := by
  obtain ⟨τ, ρ, θ, ζ, hX, hM, hB, hE⟩ := id hI
  have hi7 := X.2.2.2
  unfold LY
  refine y_aload_n C 2 dL_law_728 rfl rfl ?_
  refine y_aload_n C 3 dL_law_729 rfl rfl ?_
  refine y_iload_n C 0 dL_law_730 rfl rfl ?_
  refine y_iconst C (nI 1) dL_law_731 (by decide) ?_
  refine y_iadd C dL_law_732 (v := nI (i + 1)) (nI_add _ _) ?_
  refine y_sld C X.1 X.2.1 X.2.2.1 (j := i + 1) (by omega) X.2.2.2 dL_law_733 ?_
  refine y_callVI (ci := 4) (st := []) C cl_L_83 (x_kinds l D ad kI kS kL μ τ hX.1 hB.1 ρ hX.2.2.1 hB.2.1 (xs (i + 1))) (by omega) rfl rfl rfl (Nat.le_of_ble_eq_true rfl) ⟨(Nat.le_of_ble_eq_true rfl), (Nat.le_of_ble_eq_true rfl)⟩ ⟨(Nat.le_of_ble_eq_true rfl), (Nat.le_of_ble_eq_true rfl)⟩ dL_law_734 (fun r_ μ1 w_ => ?_)
  obtain ⟨rfl, rfl⟩ := w_
  have hM1 : JM μ τ ρ θ ζ := hM
  refine y_aload_n C 1 dL_law_737 rfl rfl ?_
  refine y_aload_n C 3 dL_law_738 rfl rfl ?_
  refine y_iload_n C 0 dL_law_739 rfl rfl ?_
  refine y_iconst C (nI 1) dL_law_740 (by decide) ?_
  refine y_iadd C dL_law_741 (v := nI (i + 1)) (nI_add _ _) ?_
  refine y_sld C X.1 X.2.1 X.2.2.1 (j := i + 1) (by omega) X.2.2.2 dL_law_742 ?_
  refine y_callVI (ci := 5) (st := [.int (_)]) C cl_L_86 (m_kinds l D ad kI kS kL μ τ hM1.1 hB.1 ρ hM1.2.1 hB.2.1 (xs (i + 1))) (by omega) rfl rfl rfl (Nat.le_of_ble_eq_true rfl) ⟨(Nat.le_of_ble_eq_true rfl), (Nat.le_of_ble_eq_true rfl)⟩ ⟨(Nat.le_of_ble_eq_true rfl), (Nat.le_of_ble_eq_true rfl)⟩ dL_law_743 (fun r_ μ2 w_ => ?_)
  obtain ⟨rfl, rfl⟩ := w_
  refine z_icmp_eqT C 1172 dL_law_746 (by decide) rfl rfl (rfl) ?_
  exact K μ (hI)
set_option maxRecDepth 100000 in
set_option maxHeartbeats 4000000 in
theorem lc_17 (C : Cx p s m #[Value.ref b] meth c code 4 ret RL D ad kI kS kL A) (X : LX s A b L xs) (hi : i + 7 ≤ L) (hI : INV μ) (K : ∀ μ2, INV μ2 → LY p l e s m below meth c D ad kI kS kL A Q b 1172 i μ2) : LY p l e s m below meth c D ad kI kS kL A Q b 751 i μ := by
  obtain ⟨τ, ρ, θ, ζ, hX, hM, hB, hE⟩ := id hI
  have hi7 := X.2.2.2
  unfold LY
  refine y_aload_n C 2 dL_law_751 rfl rfl ?_
  refine y_aload_n C 3 dL_law_752 rfl rfl ?_
  refine y_iload_n C 0 dL_law_753 rfl rfl ?_
  refine y_iconst C (nI 1) dL_law_754 (by decide) ?_
  refine y_iadd C dL_law_755 (v := nI (i + 1)) (nI_add _ _) ?_
  refine y_sld C X.1 X.2.1 X.2.2.1 (j := i + 1) (by omega) X.2.2.2 dL_law_756 ?_
  refine y_callVI (ci := 4) (st := []) C cl_L_87 (x_starts l D ad kI kS kL μ τ hX.1 hB.1 ρ hX.2.2.1 hB.2.1 (xs (i + 1))) (by omega) rfl rfl rfl (Nat.le_of_ble_eq_true rfl) ⟨(Nat.le_of_ble_eq_true rfl), (Nat.le_of_ble_eq_true rfl)⟩ ⟨(Nat.le_of_ble_eq_true rfl), (Nat.le_of_ble_eq_true rfl)⟩ dL_law_757 (fun r_ μ1 w_ => ?_)
  obtain ⟨rfl, rfl⟩ := w_
  have hM1 : JM μ τ ρ θ ζ := hM
  refine y_aload_n C 1 dL_law_760 rfl rfl ?_
  refine y_aload_n C 3 dL_law_761 rfl rfl ?_
  refine y_iload_n C 0 dL_law_762 rfl rfl ?_
  refine y_iconst C (nI 1) dL_law_763 (by decide) ?_
  refine y_iadd C dL_law_764 (v := nI (i + 1)) (nI_add _ _) ?_
  refine y_sld C X.1 X.2.1 X.2.2.1 (j := i + 1) (by omega) X.2.2.2 dL_law_765 ?_
  refine y_callVI (ci := 5) (st := [.int (_)]) C cl_L_90 (m_starts l D ad kI kS kL μ τ hM1.1 hB.1 ρ hM1.2.1 hB.2.1 (xs (i + 1))) (by omega) rfl rfl rfl (Nat.le_of_ble_eq_true rfl) ⟨(Nat.le_of_ble_eq_true rfl), (Nat.le_of_ble_eq_true rfl)⟩ ⟨(Nat.le_of_ble_eq_true rfl), (Nat.le_of_ble_eq_true rfl)⟩ dL_law_766 (fun r_ μ2 w_ => ?_)
  obtain ⟨rfl, rfl⟩ := w_
  refine z_icmp_eqT C 1172 dL_law_769 (by decide) rfl rfl (rfl) ?_
  exact K μ (hI)
set_option maxRecDepth 100000 in
set_option maxHeartbeats 4000000 in
theorem lc_18 (C : Cx p s m #[Value.ref b] meth c code 4 ret RL D ad kI kS kL A) (X : LX s A b L xs) (hi : i + 7 ≤ L) (hI : INV μ) (K : ∀ μ2, INV μ2 → LY p l e s m below meth c D ad kI kS kL A Q b 1172 i μ2) : LY p l e s m below meth c D ad kI kS kL A Q b 774 i μ := by
  obtain ⟨τ, ρ, θ, ζ, hX, hM, hB, hE⟩ := id hI
  have hi7 := X.2.2.2
  unfold LY
  refine y_aload_n C 2 dL_law_774 rfl rfl ?_
  refine y_aload_n C 3 dL_law_775 rfl rfl ?_
  refine y_iload_n C 0 dL_law_776 rfl rfl ?_
  refine y_iconst C (nI 1) dL_law_777 (by decide) ?_
  refine y_iadd C dL_law_778 (v := nI (i + 1)) (nI_add _ _) ?_
  refine y_sld C X.1 X.2.1 X.2.2.1 (j := i + 1) (by omega) X.2.2.2 dL_law_779 ?_
  refine y_aload_n C 3 dL_law_780 rfl rfl ?_
  refine y_iload_n C 0 dL_law_781 rfl rfl ?_
  refine y_iconst C (nI 2) dL_law_782 (by decide) ?_
  refine y_iadd C dL_law_783 (v := nI (i + 2)) (nI_add _ _) ?_
  refine y_sld C X.1 X.2.1 X.2.2.1 (j := i + 2) (by omega) X.2.2.2 dL_law_784 ?_
  refine y_aload_n C 3 dL_law_785 rfl rfl ?_
  refine y_iload_n C 0 dL_law_786 rfl rfl ?_
  refine y_iconst C (nI 3) dL_law_787 (by decide) ?_
  refine y_iadd C dL_law_788 (v := nI (i + 3)) (nI_add _ _) ?_
  refine y_sld C X.1 X.2.1 X.2.2.1 (j := i + 3) (by omega) X.2.2.2 dL_law_789 ?_
  refine y_aload_n C 3 dL_law_790 rfl rfl ?_
  refine y_iload_n C 0 dL_law_791 rfl rfl ?_
  refine y_iconst C (nI 4) dL_law_792 (by decide) ?_
  refine y_iadd C dL_law_793 (v := nI (i + 4)) (nI_add _ _) ?_
  refine y_sld C X.1 X.2.1 X.2.2.1 (j := i + 4) (by omega) X.2.2.2 dL_law_794 ?_
  refine y_callVL (ci := 4) (st := []) C cl_L_91 (x_odds l D ad kI kS kL μ τ hX.1 hB.1 (xs (i + 1)) (xs (i + 2)) (xs (i + 3)) (xs (i + 4))) (by omega) rfl rfl rfl (Nat.le_of_ble_eq_true rfl) ⟨(Nat.le_of_ble_eq_true rfl), (Nat.le_of_ble_eq_true rfl)⟩ ⟨(Nat.le_of_ble_eq_true rfl), (Nat.le_of_ble_eq_true rfl)⟩ dL_law_795 (fun r_ μ1 w_ => ?_)
  obtain ⟨rfl, rfl⟩ := w_
  have hM1 : JM μ τ ρ θ ζ := hM
  refine y_aload_n C 1 dL_law_798 rfl rfl ?_
  refine y_aload_n C 3 dL_law_799 rfl rfl ?_
  refine y_iload_n C 0 dL_law_800 rfl rfl ?_
  refine y_iconst C (nI 1) dL_law_801 (by decide) ?_
  refine y_iadd C dL_law_802 (v := nI (i + 1)) (nI_add _ _) ?_
  refine y_sld C X.1 X.2.1 X.2.2.1 (j := i + 1) (by omega) X.2.2.2 dL_law_803 ?_
  refine y_aload_n C 3 dL_law_804 rfl rfl ?_
  refine y_iload_n C 0 dL_law_805 rfl rfl ?_
  refine y_iconst C (nI 2) dL_law_806 (by decide) ?_
  refine y_iadd C dL_law_807 (v := nI (i + 2)) (nI_add _ _) ?_
  refine y_sld C X.1 X.2.1 X.2.2.1 (j := i + 2) (by omega) X.2.2.2 dL_law_808 ?_
  refine y_aload_n C 3 dL_law_809 rfl rfl ?_
  refine y_iload_n C 0 dL_law_810 rfl rfl ?_
  refine y_iconst C (nI 3) dL_law_811 (by decide) ?_
  refine y_iadd C dL_law_812 (v := nI (i + 3)) (nI_add _ _) ?_
  refine y_sld C X.1 X.2.1 X.2.2.1 (j := i + 3) (by omega) X.2.2.2 dL_law_813 ?_
  refine y_aload_n C 3 dL_law_814 rfl rfl ?_
  refine y_iload_n C 0 dL_law_815 rfl rfl ?_
  refine y_iconst C (nI 4) dL_law_816 (by decide) ?_
  refine y_iadd C dL_law_817 (v := nI (i + 4)) (nI_add _ _) ?_
  refine y_sld C X.1 X.2.1 X.2.2.1 (j := i + 4) (by omega) X.2.2.2 dL_law_818 ?_
  refine y_callVL (ci := 5) (st := [.long (_)]) C cl_L_95 (m_odds l D ad kI kS kL μ τ hM1.1 hB.1 hM1.2.2.2 (xs (i + 1)) (xs (i + 2)) (xs (i + 3)) (xs (i + 4))) (by omega) rfl rfl rfl (Nat.le_of_ble_eq_true rfl) ⟨(Nat.le_of_ble_eq_true rfl), (Nat.le_of_ble_eq_true rfl)⟩ ⟨(Nat.le_of_ble_eq_true rfl), (Nat.le_of_ble_eq_true rfl)⟩ dL_law_819 (fun r_ μ2 w_ => ?_)
  obtain ⟨rfl, rfl⟩ := w_
  refine y_lcmp C dL_law_822 (v := lg_cmp _ _) rfl ?_
  refine z_if_eqT C 1172 dL_law_823 (by decide) rfl (lg_same _) ?_
  exact K μ (hI)
set_option maxRecDepth 100000 in
set_option maxHeartbeats 4000000 in
theorem lc_19 (C : Cx p s m #[Value.ref b] meth c code 4 ret RL D ad kI kS kL A) (X : LX s A b L xs) (hi : i + 7 ≤ L) (hI : INV μ) (K : ∀ μ2, INV μ2 → LY p l e s m below meth c D ad kI kS kL A Q b 1172 i μ2) : LY p l e s m below meth c D ad kI kS kL A Q b 828 i μ := by
  obtain ⟨τ, ρ, θ, ζ, hX, hM, hB, hE⟩ := id hI
  have hi7 := X.2.2.2
  unfold LY
  refine y_aload_n C 2 dL_law_828 rfl rfl ?_
  refine y_aload_n C 3 dL_law_829 rfl rfl ?_
  refine y_iload_n C 0 dL_law_830 rfl rfl ?_
  refine y_iconst C (nI 1) dL_law_831 (by decide) ?_
  refine y_iadd C dL_law_832 (v := nI (i + 1)) (nI_add _ _) ?_
  refine y_sld C X.1 X.2.1 X.2.2.1 (j := i + 1) (by omega) X.2.2.2 dL_law_833 ?_
  refine y_aload_n C 3 dL_law_834 rfl rfl ?_
  refine y_iload_n C 0 dL_law_835 rfl rfl ?_
  refine y_iconst C (nI 2) dL_law_836 (by decide) ?_
  refine y_iadd C dL_law_837 (v := nI (i + 2)) (nI_add _ _) ?_
  refine y_sld C X.1 X.2.1 X.2.2.1 (j := i + 2) (by omega) X.2.2.2 dL_law_838 ?_
  refine y_aload_n C 3 dL_law_839 rfl rfl ?_
  refine y_iload_n C 0 dL_law_840 rfl rfl ?_
  refine y_iconst C (nI 3) dL_law_841 (by decide) ?_
  refine y_iadd C dL_law_842 (v := nI (i + 3)) (nI_add _ _) ?_
  refine y_sld C X.1 X.2.1 X.2.2.1 (j := i + 3) (by omega) X.2.2.2 dL_law_843 ?_
  refine y_callVI (ci := 4) (st := []) C cl_L_96 (x_sheet l D ad kI kS kL μ θ ζ hX.2.2.2 (xs (i + 1)) (xs (i + 2)) (xs (i + 3))) (by omega) rfl rfl rfl (Nat.le_of_ble_eq_true rfl) ⟨(Nat.le_of_ble_eq_true rfl), (Nat.le_of_ble_eq_true rfl)⟩ ⟨(Nat.le_of_ble_eq_true rfl), (Nat.le_of_ble_eq_true rfl)⟩ dL_law_844 (fun r_ μ1 w_ => ?_)
  obtain ⟨e1_, rfl⟩ := w_
  have hM1 : JM μ1 τ ρ θ ζ := hM.lo (j_sheet e1_)
  refine y_aload_n C 1 dL_law_847 rfl rfl ?_
  refine y_aload_n C 3 dL_law_848 rfl rfl ?_
  refine y_iload_n C 0 dL_law_849 rfl rfl ?_
  refine y_iconst C (nI 1) dL_law_850 (by decide) ?_
  refine y_iadd C dL_law_851 (v := nI (i + 1)) (nI_add _ _) ?_
  refine y_sld C X.1 X.2.1 X.2.2.1 (j := i + 1) (by omega) X.2.2.2 dL_law_852 ?_
  refine y_aload_n C 3 dL_law_853 rfl rfl ?_
  refine y_iload_n C 0 dL_law_854 rfl rfl ?_
  refine y_iconst C (nI 2) dL_law_855 (by decide) ?_
  refine y_iadd C dL_law_856 (v := nI (i + 2)) (nI_add _ _) ?_
  refine y_sld C X.1 X.2.1 X.2.2.1 (j := i + 2) (by omega) X.2.2.2 dL_law_857 ?_
  refine y_aload_n C 3 dL_law_858 rfl rfl ?_
  refine y_iload_n C 0 dL_law_859 rfl rfl ?_
  refine y_iconst C (nI 3) dL_law_860 (by decide) ?_
  refine y_iadd C dL_law_861 (v := nI (i + 3)) (nI_add _ _) ?_
  refine y_sld C X.1 X.2.1 X.2.2.1 (j := i + 3) (by omega) X.2.2.2 dL_law_862 ?_
  refine y_callVI (ci := 5) (st := [.int (_)]) C cl_L_99 (m_sheet l D ad kI kS kL μ1 θ ζ hM1.2.2.1 hB.2.2 (xs (i + 1)) (xs (i + 2)) (xs (i + 3))) (by omega) rfl rfl rfl (Nat.le_of_ble_eq_true rfl) ⟨(Nat.le_of_ble_eq_true rfl), (Nat.le_of_ble_eq_true rfl)⟩ ⟨(Nat.le_of_ble_eq_true rfl), (Nat.le_of_ble_eq_true rfl)⟩ dL_law_863 (fun r_ μ2 w_ => ?_)
  obtain ⟨e2_, rfl⟩ := w_
  refine z_icmp_eqT C 1172 dL_law_866 (by decide) rfl rfl (rfl) ?_
  exact K μ2 (s_sheet hX hM hB hE e1_ e2_)
set_option maxRecDepth 100000 in
set_option maxHeartbeats 4000000 in
theorem lc_20 (C : Cx p s m #[Value.ref b] meth c code 4 ret RL D ad kI kS kL A) (X : LX s A b L xs) (hi : i + 7 ≤ L) (hI : INV μ) (K : ∀ μ2, INV μ2 → LY p l e s m below meth c D ad kI kS kL A Q b 1172 i μ2) : LY p l e s m below meth c D ad kI kS kL A Q b 871 i μ := by
  obtain ⟨τ, ρ, θ, ζ, hX, hM, hB, hE⟩ := id hI
  have hi7 := X.2.2.2
  unfold LY
  refine y_aload_n C 2 dL_law_871 rfl rfl ?_
  refine y_aload_n C 3 dL_law_872 rfl rfl ?_
  refine y_iload_n C 0 dL_law_873 rfl rfl ?_
  refine y_iconst C (nI 1) dL_law_874 (by decide) ?_
  refine y_iadd C dL_law_875 (v := nI (i + 1)) (nI_add _ _) ?_
  refine y_sld C X.1 X.2.1 X.2.2.1 (j := i + 1) (by omega) X.2.2.2 dL_law_876 ?_
  refine y_callVI (ci := 4) (st := []) C cl_L_100 (x_lose l D ad kI kS kL μ θ ζ hX.2.2.2 (xs (i + 1))) (by omega) rfl rfl rfl (Nat.le_of_ble_eq_true rfl) ⟨(Nat.le_of_ble_eq_true rfl), (Nat.le_of_ble_eq_true rfl)⟩ ⟨(Nat.le_of_ble_eq_true rfl), (Nat.le_of_ble_eq_true rfl)⟩ dL_law_877 (fun r_ μ1 w_ => ?_)
  obtain ⟨e1_, rfl⟩ := w_
  have hM1 : JM μ1 τ ρ θ ζ := hM.lo (j_lose e1_)
  refine y_aload_n C 1 dL_law_880 rfl rfl ?_
  refine y_aload_n C 3 dL_law_881 rfl rfl ?_
  refine y_iload_n C 0 dL_law_882 rfl rfl ?_
  refine y_iconst C (nI 1) dL_law_883 (by decide) ?_
  refine y_iadd C dL_law_884 (v := nI (i + 1)) (nI_add _ _) ?_
  refine y_sld C X.1 X.2.1 X.2.2.1 (j := i + 1) (by omega) X.2.2.2 dL_law_885 ?_
  refine y_callVI (ci := 5) (st := [.int (_)]) C cl_L_103 (m_lose l D ad kI kS kL μ1 θ ζ hM1.2.2.1 hB.2.2 (xs (i + 1))) (by omega) rfl rfl rfl (Nat.le_of_ble_eq_true rfl) ⟨(Nat.le_of_ble_eq_true rfl), (Nat.le_of_ble_eq_true rfl)⟩ ⟨(Nat.le_of_ble_eq_true rfl), (Nat.le_of_ble_eq_true rfl)⟩ dL_law_886 (fun r_ μ2 w_ => ?_)
  obtain ⟨e2_, rfl⟩ := w_
  refine z_icmp_eqT C 1172 dL_law_889 (by decide) rfl rfl (rfl) ?_
  exact K μ2 (s_lose hX hM hB hE e1_ e2_)
set_option maxRecDepth 100000 in
set_option maxHeartbeats 4000000 in
theorem lc_21 (C : Cx p s m #[Value.ref b] meth c code 4 ret RL D ad kI kS kL A) (X : LX s A b L xs) (hi : i + 7 ≤ L) (hI : INV μ) (K : ∀ μ2, INV μ2 → LY p l e s m below meth c D ad kI kS kL A Q b 1172 i μ2) : LY p l e s m below meth c D ad kI kS kL A Q b 894 i μ := by
  obtain ⟨τ, ρ, θ, ζ, hX, hM, hB, hE⟩ := id hI
  have hi7 := X.2.2.2
  unfold LY
  refine y_aload_n C 2 dL_law_894 rfl rfl ?_
  refine y_aload_n C 3 dL_law_895 rfl rfl ?_
  refine y_iload_n C 0 dL_law_896 rfl rfl ?_
  refine y_iconst C (nI 1) dL_law_897 (by decide) ?_
  refine y_iadd C dL_law_898 (v := nI (i + 1)) (nI_add _ _) ?_
  refine y_sld C X.1 X.2.1 X.2.2.1 (j := i + 1) (by omega) X.2.2.2 dL_law_899 ?_
  refine y_aload_n C 3 dL_law_900 rfl rfl ?_
  refine y_iload_n C 0 dL_law_901 rfl rfl ?_
  refine y_iconst C (nI 2) dL_law_902 (by decide) ?_
  refine y_iadd C dL_law_903 (v := nI (i + 2)) (nI_add _ _) ?_
  refine y_sld C X.1 X.2.1 X.2.2.1 (j := i + 2) (by omega) X.2.2.2 dL_law_904 ?_
  refine y_aload_n C 3 dL_law_905 rfl rfl ?_
  refine y_iload_n C 0 dL_law_906 rfl rfl ?_
  refine y_iconst C (nI 3) dL_law_907 (by decide) ?_
  refine y_iadd C dL_law_908 (v := nI (i + 3)) (nI_add _ _) ?_
  refine y_sld C X.1 X.2.1 X.2.2.1 (j := i + 3) (by omega) X.2.2.2 dL_law_909 ?_
  refine y_callVI (ci := 4) (st := []) C cl_L_104 (x_put l D ad kI kS kL μ θ ζ hX.2.2.2 (xs (i + 1)) (xs (i + 2)) (xs (i + 3))) (by omega) rfl rfl rfl (Nat.le_of_ble_eq_true rfl) ⟨(Nat.le_of_ble_eq_true rfl), (Nat.le_of_ble_eq_true rfl)⟩ ⟨(Nat.le_of_ble_eq_true rfl), (Nat.le_of_ble_eq_true rfl)⟩ dL_law_910 (fun r_ μ1 w_ => ?_)
  obtain ⟨e1_, rfl⟩ := w_
  have hM1 : JM μ1 τ ρ θ ζ := hM.lo (j_put e1_)
  refine y_aload_n C 1 dL_law_913 rfl rfl ?_
  refine y_aload_n C 3 dL_law_914 rfl rfl ?_
  refine y_iload_n C 0 dL_law_915 rfl rfl ?_
  refine y_iconst C (nI 1) dL_law_916 (by decide) ?_
  refine y_iadd C dL_law_917 (v := nI (i + 1)) (nI_add _ _) ?_
  refine y_sld C X.1 X.2.1 X.2.2.1 (j := i + 1) (by omega) X.2.2.2 dL_law_918 ?_
  refine y_aload_n C 3 dL_law_919 rfl rfl ?_
  refine y_iload_n C 0 dL_law_920 rfl rfl ?_
  refine y_iconst C (nI 2) dL_law_921 (by decide) ?_
  refine y_iadd C dL_law_922 (v := nI (i + 2)) (nI_add _ _) ?_
  refine y_sld C X.1 X.2.1 X.2.2.1 (j := i + 2) (by omega) X.2.2.2 dL_law_923 ?_
  refine y_aload_n C 3 dL_law_924 rfl rfl ?_
  refine y_iload_n C 0 dL_law_925 rfl rfl ?_
  refine y_iconst C (nI 3) dL_law_926 (by decide) ?_
  refine y_iadd C dL_law_927 (v := nI (i + 3)) (nI_add _ _) ?_
  refine y_sld C X.1 X.2.1 X.2.2.1 (j := i + 3) (by omega) X.2.2.2 dL_law_928 ?_
  refine y_callVI (ci := 5) (st := [.int (_)]) C cl_L_107 (m_put l D ad kI kS kL μ1 θ ζ hM1.2.2.1 hB.2.2 (xs (i + 1)) (xs (i + 2)) (xs (i + 3))) (by omega) rfl rfl rfl (Nat.le_of_ble_eq_true rfl) ⟨(Nat.le_of_ble_eq_true rfl), (Nat.le_of_ble_eq_true rfl)⟩ ⟨(Nat.le_of_ble_eq_true rfl), (Nat.le_of_ble_eq_true rfl)⟩ dL_law_929 (fun r_ μ2 w_ => ?_)
  obtain ⟨e2_, rfl⟩ := w_
  refine z_icmp_eqT C 1172 dL_law_932 (by decide) rfl rfl (rfl) ?_
  exact K μ2 (s_put hX hM hB hE e1_ e2_)
set_option maxRecDepth 100000 in
set_option maxHeartbeats 4000000 in
theorem lc_22 (C : Cx p s m #[Value.ref b] meth c code 4 ret RL D ad kI kS kL A) (X : LX s A b L xs) (hi : i + 7 ≤ L) (hI : INV μ) (K : ∀ μ2, INV μ2 → LY p l e s m below meth c D ad kI kS kL A Q b 1172 i μ2) : LY p l e s m below meth c D ad kI kS kL A Q b 937 i μ := by
  obtain ⟨τ, ρ, θ, ζ, hX, hM, hB, hE⟩ := id hI
  have hi7 := X.2.2.2
  unfold LY
  refine y_aload_n C 2 dL_law_937 rfl rfl ?_
  refine y_aload_n C 3 dL_law_938 rfl rfl ?_
  refine y_iload_n C 0 dL_law_939 rfl rfl ?_
  refine y_iconst C (nI 1) dL_law_940 (by decide) ?_
  refine y_iadd C dL_law_941 (v := nI (i + 1)) (nI_add _ _) ?_
  refine y_sld C X.1 X.2.1 X.2.2.1 (j := i + 1) (by omega) X.2.2.2 dL_law_942 ?_
  refine y_aload_n C 3 dL_law_943 rfl rfl ?_
  refine y_iload_n C 0 dL_law_944 rfl rfl ?_
  refine y_iconst C (nI 2) dL_law_945 (by decide) ?_
  refine y_iadd C dL_law_946 (v := nI (i + 2)) (nI_add _ _) ?_
  refine y_sld C X.1 X.2.1 X.2.2.1 (j := i + 2) (by omega) X.2.2.2 dL_law_947 ?_
  refine y_aload_n C 3 dL_law_948 rfl rfl ?_
  refine y_iload_n C 0 dL_law_949 rfl rfl ?_
  refine y_iconst C (nI 3) dL_law_950 (by decide) ?_
  refine y_iadd C dL_law_951 (v := nI (i + 3)) (nI_add _ _) ?_
  refine y_sld C X.1 X.2.1 X.2.2.1 (j := i + 3) (by omega) X.2.2.2 dL_law_952 ?_
  refine y_callVL (ci := 4) (st := []) C cl_L_108 (x_cell l D ad kI kS kL μ θ ζ hX.2.2.2 (xs (i + 1)) (xs (i + 2)) (xs (i + 3))) (by omega) rfl rfl rfl (Nat.le_of_ble_eq_true rfl) ⟨(Nat.le_of_ble_eq_true rfl), (Nat.le_of_ble_eq_true rfl)⟩ ⟨(Nat.le_of_ble_eq_true rfl), (Nat.le_of_ble_eq_true rfl)⟩ dL_law_953 (fun r_ μ1 w_ => ?_)
  obtain ⟨e1_, rfl⟩ := w_
  have hM1 : JM μ1 τ ρ θ ζ := hM.lo (j_flt e1_)
  refine y_aload_n C 1 dL_law_956 rfl rfl ?_
  refine y_aload_n C 3 dL_law_957 rfl rfl ?_
  refine y_iload_n C 0 dL_law_958 rfl rfl ?_
  refine y_iconst C (nI 1) dL_law_959 (by decide) ?_
  refine y_iadd C dL_law_960 (v := nI (i + 1)) (nI_add _ _) ?_
  refine y_sld C X.1 X.2.1 X.2.2.1 (j := i + 1) (by omega) X.2.2.2 dL_law_961 ?_
  refine y_aload_n C 3 dL_law_962 rfl rfl ?_
  refine y_iload_n C 0 dL_law_963 rfl rfl ?_
  refine y_iconst C (nI 2) dL_law_964 (by decide) ?_
  refine y_iadd C dL_law_965 (v := nI (i + 2)) (nI_add _ _) ?_
  refine y_sld C X.1 X.2.1 X.2.2.1 (j := i + 2) (by omega) X.2.2.2 dL_law_966 ?_
  refine y_aload_n C 3 dL_law_967 rfl rfl ?_
  refine y_iload_n C 0 dL_law_968 rfl rfl ?_
  refine y_iconst C (nI 3) dL_law_969 (by decide) ?_
  refine y_iadd C dL_law_970 (v := nI (i + 3)) (nI_add _ _) ?_
  refine y_sld C X.1 X.2.1 X.2.2.1 (j := i + 3) (by omega) X.2.2.2 dL_law_971 ?_
  refine y_callVL (ci := 5) (st := [.long (_)]) C cl_L_112 (m_cell l D ad kI kS kL μ1 θ ζ hM1.2.2.1 hB.2.2 (xs (i + 1)) (xs (i + 2)) (xs (i + 3))) (by omega) rfl rfl rfl (Nat.le_of_ble_eq_true rfl) ⟨(Nat.le_of_ble_eq_true rfl), (Nat.le_of_ble_eq_true rfl)⟩ ⟨(Nat.le_of_ble_eq_true rfl), (Nat.le_of_ble_eq_true rfl)⟩ dL_law_972 (fun r_ μ2 w_ => ?_)
  obtain ⟨e2_, rfl⟩ := w_
  refine y_lcmp C dL_law_975 (v := lg_cmp _ _) rfl ?_
  refine z_if_eqT C 1172 dL_law_976 (by decide) rfl (lg_same _) ?_
  exact K μ2 (s_flt hI e1_ e2_)
set_option maxRecDepth 100000 in
set_option maxHeartbeats 4000000 in
theorem lc_23 (C : Cx p s m #[Value.ref b] meth c code 4 ret RL D ad kI kS kL A) (X : LX s A b L xs) (hi : i + 7 ≤ L) (hI : INV μ) (K : ∀ μ2, INV μ2 → LY p l e s m below meth c D ad kI kS kL A Q b 1172 i μ2) : LY p l e s m below meth c D ad kI kS kL A Q b 981 i μ := by
  obtain ⟨τ, ρ, θ, ζ, hX, hM, hB, hE⟩ := id hI
  have hi7 := X.2.2.2
  unfold LY
  refine y_aload_n C 2 dL_law_981 rfl rfl ?_
  refine y_aload_n C 3 dL_law_982 rfl rfl ?_
  refine y_iload_n C 0 dL_law_983 rfl rfl ?_
  refine y_iconst C (nI 1) dL_law_984 (by decide) ?_
  refine y_iadd C dL_law_985 (v := nI (i + 1)) (nI_add _ _) ?_
  refine y_sld C X.1 X.2.1 X.2.2.1 (j := i + 1) (by omega) X.2.2.2 dL_law_986 ?_
  refine y_aload_n C 3 dL_law_987 rfl rfl ?_
  refine y_iload_n C 0 dL_law_988 rfl rfl ?_
  refine y_iconst C (nI 2) dL_law_989 (by decide) ?_
  refine y_iadd C dL_law_990 (v := nI (i + 2)) (nI_add _ _) ?_
  refine y_sld C X.1 X.2.1 X.2.2.1 (j := i + 2) (by omega) X.2.2.2 dL_law_991 ?_
  refine y_aload_n C 3 dL_law_992 rfl rfl ?_
  refine y_iload_n C 0 dL_law_993 rfl rfl ?_
  refine y_iconst C (nI 3) dL_law_994 (by decide) ?_
  refine y_iadd C dL_law_995 (v := nI (i + 3)) (nI_add _ _) ?_
  refine y_sld C X.1 X.2.1 X.2.2.1 (j := i + 3) (by omega) X.2.2.2 dL_law_996 ?_
  refine y_aload_n C 3 dL_law_997 rfl rfl ?_
  refine y_iload_n C 0 dL_law_998 rfl rfl ?_
  refine y_iconst C (nI 4) dL_law_999 (by decide) ?_
  refine y_iadd C dL_law_1000 (v := nI (i + 4)) (nI_add _ _) ?_
  refine y_sld C X.1 X.2.1 X.2.2.1 (j := i + 4) (by omega) X.2.2.2 dL_law_1001 ?_
  refine y_aload_n C 3 dL_law_1002 rfl rfl ?_
  refine y_iload_n C 0 dL_law_1003 rfl rfl ?_
  refine y_iconst C (nI 5) dL_law_1004 (by decide) ?_
  refine y_iadd C dL_law_1005 (v := nI (i + 5)) (nI_add _ _) ?_
  refine y_sld C X.1 X.2.1 X.2.2.1 (j := i + 5) (by omega) X.2.2.2 dL_law_1006 ?_
  refine y_callVI (ci := 4) (st := []) C cl_L_113 (x_copy l D ad kI kS kL μ θ ζ hX.2.2.2 (xs (i + 1)) (xs (i + 2)) (xs (i + 3)) (xs (i + 4)) (xs (i + 5))) (by omega) rfl rfl rfl (Nat.le_of_ble_eq_true rfl) ⟨(Nat.le_of_ble_eq_true rfl), (Nat.le_of_ble_eq_true rfl)⟩ ⟨(Nat.le_of_ble_eq_true rfl), (Nat.le_of_ble_eq_true rfl)⟩ dL_law_1007 (fun r_ μ1 w_ => ?_)
  obtain ⟨e1_, rfl⟩ := w_
  have hM1 : JM μ1 τ ρ θ ζ := hM.lo (j_copy e1_)
  refine y_aload_n C 1 dL_law_1010 rfl rfl ?_
  refine y_aload_n C 3 dL_law_1011 rfl rfl ?_
  refine y_iload_n C 0 dL_law_1012 rfl rfl ?_
  refine y_iconst C (nI 1) dL_law_1013 (by decide) ?_
  refine y_iadd C dL_law_1014 (v := nI (i + 1)) (nI_add _ _) ?_
  refine y_sld C X.1 X.2.1 X.2.2.1 (j := i + 1) (by omega) X.2.2.2 dL_law_1015 ?_
  refine y_aload_n C 3 dL_law_1016 rfl rfl ?_
  refine y_iload_n C 0 dL_law_1017 rfl rfl ?_
  refine y_iconst C (nI 2) dL_law_1018 (by decide) ?_
  refine y_iadd C dL_law_1019 (v := nI (i + 2)) (nI_add _ _) ?_
  refine y_sld C X.1 X.2.1 X.2.2.1 (j := i + 2) (by omega) X.2.2.2 dL_law_1020 ?_
  refine y_aload_n C 3 dL_law_1021 rfl rfl ?_
  refine y_iload_n C 0 dL_law_1022 rfl rfl ?_
  refine y_iconst C (nI 3) dL_law_1023 (by decide) ?_
  refine y_iadd C dL_law_1024 (v := nI (i + 3)) (nI_add _ _) ?_
  refine y_sld C X.1 X.2.1 X.2.2.1 (j := i + 3) (by omega) X.2.2.2 dL_law_1025 ?_
  refine y_aload_n C 3 dL_law_1026 rfl rfl ?_
  refine y_iload_n C 0 dL_law_1027 rfl rfl ?_
  refine y_iconst C (nI 4) dL_law_1028 (by decide) ?_
  refine y_iadd C dL_law_1029 (v := nI (i + 4)) (nI_add _ _) ?_
  refine y_sld C X.1 X.2.1 X.2.2.1 (j := i + 4) (by omega) X.2.2.2 dL_law_1030 ?_
  refine y_aload_n C 3 dL_law_1031 rfl rfl ?_
  refine y_iload_n C 0 dL_law_1032 rfl rfl ?_
  refine y_iconst C (nI 5) dL_law_1033 (by decide) ?_
  refine y_iadd C dL_law_1034 (v := nI (i + 5)) (nI_add _ _) ?_
  refine y_sld C X.1 X.2.1 X.2.2.1 (j := i + 5) (by omega) X.2.2.2 dL_law_1035 ?_
  refine y_callVI (ci := 5) (st := [.int (_)]) C cl_L_117 (m_copy l D ad kI kS kL μ1 θ ζ hM1.2.2.1 hB.2.2 (xs (i + 1)) (xs (i + 2)) (xs (i + 3)) (xs (i + 4)) (xs (i + 5))) (by omega) rfl rfl rfl (Nat.le_of_ble_eq_true rfl) ⟨(Nat.le_of_ble_eq_true rfl), (Nat.le_of_ble_eq_true rfl)⟩ ⟨(Nat.le_of_ble_eq_true rfl), (Nat.le_of_ble_eq_true rfl)⟩ dL_law_1036 (fun r_ μ2 w_ => ?_)
  obtain ⟨e2_, rfl⟩ := w_
  refine z_icmp_eqT C 1172 dL_law_1039 (by decide) rfl rfl (rfl) ?_
  exact K μ2 (s_copy hX hM hB hE e1_ e2_)
set_option maxRecDepth 100000 in
set_option maxHeartbeats 4000000 in
theorem lc_24 (C : Cx p s m #[Value.ref b] meth c code 4 ret RL D ad kI kS kL A) (X : LX s A b L xs) (hi : i + 7 ≤ L) (hI : INV μ) (K : ∀ μ2, INV μ2 → LY p l e s m below meth c D ad kI kS kL A Q b 1172 i μ2) : LY p l e s m below meth c D ad kI kS kL A Q b 1044 i μ := by
  obtain ⟨τ, ρ, θ, ζ, hX, hM, hB, hE⟩ := id hI
  have hi7 := X.2.2.2
  unfold LY
  refine y_aload_n C 2 dL_law_1044 rfl rfl ?_
  refine y_aload_n C 3 dL_law_1045 rfl rfl ?_
  refine y_iload_n C 0 dL_law_1046 rfl rfl ?_
  refine y_iconst C (nI 1) dL_law_1047 (by decide) ?_
  refine y_iadd C dL_law_1048 (v := nI (i + 1)) (nI_add _ _) ?_
  refine y_sld C X.1 X.2.1 X.2.2.1 (j := i + 1) (by omega) X.2.2.2 dL_law_1049 ?_
  refine y_callVI (ci := 4) (st := []) C cl_L_118 (x_tell l D ad kI kS kL μ τ hX.1 hB.1 (xs (i + 1))) (by omega) rfl rfl rfl (Nat.le_of_ble_eq_true rfl) ⟨(Nat.le_of_ble_eq_true rfl), (Nat.le_of_ble_eq_true rfl)⟩ ⟨(Nat.le_of_ble_eq_true rfl), (Nat.le_of_ble_eq_true rfl)⟩ dL_law_1050 (fun r_ μ1 w_ => ?_)
  obtain ⟨e1_, rfl⟩ := w_
  have hM1 : JM μ1 τ ρ θ ζ := hM.lo (j_tell e1_)
  refine y_aload_n C 1 dL_law_1053 rfl rfl ?_
  refine y_aload_n C 3 dL_law_1054 rfl rfl ?_
  refine y_iload_n C 0 dL_law_1055 rfl rfl ?_
  refine y_iconst C (nI 1) dL_law_1056 (by decide) ?_
  refine y_iadd C dL_law_1057 (v := nI (i + 1)) (nI_add _ _) ?_
  refine y_sld C X.1 X.2.1 X.2.2.1 (j := i + 1) (by omega) X.2.2.2 dL_law_1058 ?_
  refine y_callVI (ci := 5) (st := [.int (_)]) C cl_L_121 (m_tell l D ad kI kS kL μ1 τ hM1.1 hB.1 (xs (i + 1))) (by omega) rfl rfl rfl (Nat.le_of_ble_eq_true rfl) ⟨(Nat.le_of_ble_eq_true rfl), (Nat.le_of_ble_eq_true rfl)⟩ ⟨(Nat.le_of_ble_eq_true rfl), (Nat.le_of_ble_eq_true rfl)⟩ dL_law_1059 (fun r_ μ2 w_ => ?_)
  obtain ⟨e2_, rfl⟩ := w_
  refine z_icmp_eqT C 1172 dL_law_1062 (by decide) rfl rfl (rfl) ?_
  exact K μ2 (s_tell (F := fun t_ => tr_tell τ ((xs (i + 1))) t_) hI hE e1_ e2_)
set_option maxRecDepth 100000 in
set_option maxHeartbeats 4000000 in
theorem lc_25 (C : Cx p s m #[Value.ref b] meth c code 4 ret RL D ad kI kS kL A) (X : LX s A b L xs) (hi : i + 7 ≤ L) (hI : INV μ) (K : ∀ μ2, INV μ2 → LY p l e s m below meth c D ad kI kS kL A Q b 1172 i μ2) : LY p l e s m below meth c D ad kI kS kL A Q b 1067 i μ := by
  obtain ⟨τ, ρ, θ, ζ, hX, hM, hB, hE⟩ := id hI
  have hi7 := X.2.2.2
  unfold LY
  refine y_aload_n C 2 dL_law_1067 rfl rfl ?_
  refine y_aload_n C 3 dL_law_1068 rfl rfl ?_
  refine y_iload_n C 0 dL_law_1069 rfl rfl ?_
  refine y_iconst C (nI 1) dL_law_1070 (by decide) ?_
  refine y_iadd C dL_law_1071 (v := nI (i + 1)) (nI_add _ _) ?_
  refine y_sld C X.1 X.2.1 X.2.2.1 (j := i + 1) (by omega) X.2.2.2 dL_law_1072 ?_
  refine y_callVI (ci := 4) (st := []) C cl_L_122 (x_waken l D ad kI kS kL μ τ hX.1 hB.1 (xs (i + 1))) (by omega) rfl rfl rfl (Nat.le_of_ble_eq_true rfl) ⟨(Nat.le_of_ble_eq_true rfl), (Nat.le_of_ble_eq_true rfl)⟩ ⟨(Nat.le_of_ble_eq_true rfl), (Nat.le_of_ble_eq_true rfl)⟩ dL_law_1073 (fun r_ μ1 w_ => ?_)
  obtain ⟨e1_, rfl⟩ := w_
  have hM1 : JM μ1 τ ρ θ ζ := hM.lo (j_tell e1_)
  refine y_aload_n C 1 dL_law_1076 rfl rfl ?_
  refine y_aload_n C 3 dL_law_1077 rfl rfl ?_
  refine y_iload_n C 0 dL_law_1078 rfl rfl ?_
  refine y_iconst C (nI 1) dL_law_1079 (by decide) ?_
  refine y_iadd C dL_law_1080 (v := nI (i + 1)) (nI_add _ _) ?_
  refine y_sld C X.1 X.2.1 X.2.2.1 (j := i + 1) (by omega) X.2.2.2 dL_law_1081 ?_
  refine y_callVI (ci := 5) (st := [.int (_)]) C cl_L_125 (m_waken l D ad kI kS kL μ1 τ hM1.1 hB.1 (xs (i + 1))) (by omega) rfl rfl rfl (Nat.le_of_ble_eq_true rfl) ⟨(Nat.le_of_ble_eq_true rfl), (Nat.le_of_ble_eq_true rfl)⟩ ⟨(Nat.le_of_ble_eq_true rfl), (Nat.le_of_ble_eq_true rfl)⟩ dL_law_1082 (fun r_ μ2 w_ => ?_)
  obtain ⟨e2_, rfl⟩ := w_
  refine z_icmp_eqT C 1172 dL_law_1085 (by decide) rfl rfl (rfl) ?_
  exact K μ2 (s_tell (F := fun t_ => tr_waken τ ((xs (i + 1))) t_) hI hE e1_ e2_)
set_option maxRecDepth 100000 in
set_option maxHeartbeats 4000000 in
theorem lc_26 (C : Cx p s m #[Value.ref b] meth c code 4 ret RL D ad kI kS kL A) (X : LX s A b L xs) (hi : i + 7 ≤ L) (hI : INV μ) (K : ∀ μ2, INV μ2 → LY p l e s m below meth c D ad kI kS kL A Q b 1172 i μ2) : LY p l e s m below meth c D ad kI kS kL A Q b 1090 i μ := by
  obtain ⟨τ, ρ, θ, ζ, hX, hM, hB, hE⟩ := id hI
  have hi7 := X.2.2.2
  unfold LY
  refine y_aload_n C 2 dL_law_1090 rfl rfl ?_
  refine y_aload_n C 3 dL_law_1091 rfl rfl ?_
  refine y_iload_n C 0 dL_law_1092 rfl rfl ?_
  refine y_iconst C (nI 1) dL_law_1093 (by decide) ?_
  refine y_iadd C dL_law_1094 (v := nI (i + 1)) (nI_add _ _) ?_
  refine y_sld C X.1 X.2.1 X.2.2.1 (j := i + 1) (by omega) X.2.2.2 dL_law_1095 ?_
  refine y_aload_n C 3 dL_law_1096 rfl rfl ?_
  refine y_iload_n C 0 dL_law_1097 rfl rfl ?_
  refine y_iconst C (nI 2) dL_law_1098 (by decide) ?_
  refine y_iadd C dL_law_1099 (v := nI (i + 2)) (nI_add _ _) ?_
  refine y_sld C X.1 X.2.1 X.2.2.1 (j := i + 2) (by omega) X.2.2.2 dL_law_1100 ?_
  refine y_callVI (ci := 4) (st := []) C cl_L_126 (x_as l D ad kI kS kL μ τ hX.1 hB.1 (xs (i + 1)) (xs (i + 2))) (by omega) rfl rfl rfl (Nat.le_of_ble_eq_true rfl) ⟨(Nat.le_of_ble_eq_true rfl), (Nat.le_of_ble_eq_true rfl)⟩ ⟨(Nat.le_of_ble_eq_true rfl), (Nat.le_of_ble_eq_true rfl)⟩ dL_law_1101 (fun r_ μ1 w_ => ?_)
  obtain ⟨e1_, rfl⟩ := w_
  have hM1 : JM μ1 τ ρ θ ζ := hM.lo (j_flt e1_)
  refine y_aload_n C 1 dL_law_1104 rfl rfl ?_
  refine y_aload_n C 3 dL_law_1105 rfl rfl ?_
  refine y_iload_n C 0 dL_law_1106 rfl rfl ?_
  refine y_iconst C (nI 1) dL_law_1107 (by decide) ?_
  refine y_iadd C dL_law_1108 (v := nI (i + 1)) (nI_add _ _) ?_
  refine y_sld C X.1 X.2.1 X.2.2.1 (j := i + 1) (by omega) X.2.2.2 dL_law_1109 ?_
  refine y_aload_n C 3 dL_law_1110 rfl rfl ?_
  refine y_iload_n C 0 dL_law_1111 rfl rfl ?_
  refine y_iconst C (nI 2) dL_law_1112 (by decide) ?_
  refine y_iadd C dL_law_1113 (v := nI (i + 2)) (nI_add _ _) ?_
  refine y_sld C X.1 X.2.1 X.2.2.1 (j := i + 2) (by omega) X.2.2.2 dL_law_1114 ?_
  refine y_callVI (ci := 5) (st := [.int (_)]) C cl_L_129 (m_as l D ad kI kS kL μ1 τ hM1.1 hB.1 (xs (i + 1)) (xs (i + 2))) (by omega) rfl rfl rfl (Nat.le_of_ble_eq_true rfl) ⟨(Nat.le_of_ble_eq_true rfl), (Nat.le_of_ble_eq_true rfl)⟩ ⟨(Nat.le_of_ble_eq_true rfl), (Nat.le_of_ble_eq_true rfl)⟩ dL_law_1115 (fun r_ μ2 w_ => ?_)
  obtain ⟨e2_, rfl⟩ := w_
  refine z_icmp_eqT C 1172 dL_law_1118 (by decide) rfl rfl (rfl) ?_
  exact K μ2 (s_flt hI e1_ e2_)
set_option maxRecDepth 100000 in
set_option maxHeartbeats 4000000 in
theorem lc_27 (C : Cx p s m #[Value.ref b] meth c code 4 ret RL D ad kI kS kL A) (X : LX s A b L xs) (hi : i + 7 ≤ L) (hI : INV μ) (K : ∀ μ2, INV μ2 → LY p l e s m below meth c D ad kI kS kL A Q b 1172 i μ2) : LY p l e s m below meth c D ad kI kS kL A Q b 1123 i μ := by
  obtain ⟨τ, ρ, θ, ζ, hX, hM, hB, hE⟩ := id hI
  have hi7 := X.2.2.2
  unfold LY
  refine y_aload_n C 2 dL_law_1123 rfl rfl ?_
  refine y_callVI (ci := 4) (st := []) C cl_L_130 (x_trace l D ad kI kS kL μ  ) (by omega) rfl rfl rfl (Nat.le_of_ble_eq_true rfl) ⟨(Nat.le_of_ble_eq_true rfl), (Nat.le_of_ble_eq_true rfl)⟩ ⟨(Nat.le_of_ble_eq_true rfl), (Nat.le_of_ble_eq_true rfl)⟩ dL_law_1124 (fun r_ μ1 w_ => ?_)
  obtain ⟨rfl, rfl⟩ := w_
  have hM1 : JM μ τ ρ θ ζ := hM
  refine y_aload_n C 1 dL_law_1127 rfl rfl ?_
  refine y_callVI (ci := 5) (st := [.int (μ 0 4)]) C cl_L_133 (m_trace l D ad kI kS kL μ  ) (by omega) rfl rfl rfl (Nat.le_of_ble_eq_true rfl) ⟨(Nat.le_of_ble_eq_true rfl), (Nat.le_of_ble_eq_true rfl)⟩ ⟨(Nat.le_of_ble_eq_true rfl), (Nat.le_of_ble_eq_true rfl)⟩ dL_law_1128 (fun r_ μ2 w_ => ?_)
  obtain ⟨rfl, rfl⟩ := w_
  refine z_icmp_eqT C 1172 dL_law_1131 (by decide) rfl rfl (congrArg Int32.toInt hE.1) ?_
  exact K μ (hI)
set_option maxRecDepth 100000 in
set_option maxHeartbeats 4000000 in
theorem lc_28 (C : Cx p s m #[Value.ref b] meth c code 4 ret RL D ad kI kS kL A) (X : LX s A b L xs) (hi : i + 7 ≤ L) (hI : INV μ) (K : ∀ μ2, INV μ2 → LY p l e s m below meth c D ad kI kS kL A Q b 1172 i μ2) : LY p l e s m below meth c D ad kI kS kL A Q b 1136 i μ := by
  obtain ⟨τ, ρ, θ, ζ, hX, hM, hB, hE⟩ := id hI
  have hi7 := X.2.2.2
  unfold LY
  refine y_aload_n C 2 dL_law_1136 rfl rfl ?_
  refine y_callVI (ci := 4) (st := []) C cl_L_134 (x_fault l D ad kI kS kL μ  ) (by omega) rfl rfl rfl (Nat.le_of_ble_eq_true rfl) ⟨(Nat.le_of_ble_eq_true rfl), (Nat.le_of_ble_eq_true rfl)⟩ ⟨(Nat.le_of_ble_eq_true rfl), (Nat.le_of_ble_eq_true rfl)⟩ dL_law_1137 (fun r_ μ1 w_ => ?_)
  obtain ⟨rfl, rfl⟩ := w_
  have hM1 : JM μ τ ρ θ ζ := hM
  refine y_aload_n C 1 dL_law_1140 rfl rfl ?_
  refine y_callVI (ci := 5) (st := [.int (μ 0 5)]) C cl_L_137 (m_fault l D ad kI kS kL μ  ) (by omega) rfl rfl rfl (Nat.le_of_ble_eq_true rfl) ⟨(Nat.le_of_ble_eq_true rfl), (Nat.le_of_ble_eq_true rfl)⟩ ⟨(Nat.le_of_ble_eq_true rfl), (Nat.le_of_ble_eq_true rfl)⟩ dL_law_1141 (fun r_ μ2 w_ => ?_)
  obtain ⟨rfl, rfl⟩ := w_
  refine z_icmp_eqT C 1172 dL_law_1144 (by decide) rfl rfl (congrArg Int32.toInt hE.2) ?_
  exact K μ (hI)
set_option maxRecDepth 100000 in
set_option maxHeartbeats 4000000 in
theorem lc_29 (C : Cx p s m #[Value.ref b] meth c code 4 ret RL D ad kI kS kL A) (X : LX s A b L xs) (hi : i + 7 ≤ L) (hI : INV μ) (K : ∀ μ2, INV μ2 → LY p l e s m below meth c D ad kI kS kL A Q b 1172 i μ2) : LY p l e s m below meth c D ad kI kS kL A Q b 1149 i μ := by
  obtain ⟨τ, ρ, θ, ζ, hX, hM, hB, hE⟩ := id hI
  have hi7 := X.2.2.2
  unfold LY
  refine y_aload_n C 2 dL_law_1149 rfl rfl ?_
  refine y_aload_n C 3 dL_law_1150 rfl rfl ?_
  refine y_iload_n C 0 dL_law_1151 rfl rfl ?_
  refine y_iconst C (nI 1) dL_law_1152 (by decide) ?_
  refine y_iadd C dL_law_1153 (v := nI (i + 1)) (nI_add _ _) ?_
  refine y_sld C X.1 X.2.1 X.2.2.1 (j := i + 1) (by omega) X.2.2.2 dL_law_1154 ?_
  refine y_callVI (ci := 4) (st := []) C cl_L_138 (x_many l D ad kI kS kL μ τ hX.1 hB.1 ρ hX.2.2.1 hB.2.1 (xs (i + 1))) (by omega) rfl rfl rfl (Nat.le_of_ble_eq_true rfl) ⟨(Nat.le_of_ble_eq_true rfl), (Nat.le_of_ble_eq_true rfl)⟩ ⟨(Nat.le_of_ble_eq_true rfl), (Nat.le_of_ble_eq_true rfl)⟩ dL_law_1155 (fun r_ μ1 w_ => ?_)
  obtain ⟨rfl, rfl⟩ := w_
  have hM1 : JM μ τ ρ θ ζ := hM
  refine y_aload_n C 1 dL_law_1158 rfl rfl ?_
  refine y_aload_n C 3 dL_law_1159 rfl rfl ?_
  refine y_iload_n C 0 dL_law_1160 rfl rfl ?_
  refine y_iconst C (nI 1) dL_law_1161 (by decide) ?_
  refine y_iadd C dL_law_1162 (v := nI (i + 1)) (nI_add _ _) ?_
  refine y_sld C X.1 X.2.1 X.2.2.1 (j := i + 1) (by omega) X.2.2.2 dL_law_1163 ?_
  refine y_callVI (ci := 5) (st := [.int (_)]) C cl_L_141 (m_many l D ad kI kS kL μ τ hM1.1 hB.1 ρ hM1.2.1 hB.2.1 (xs (i + 1))) (by omega) rfl rfl rfl (Nat.le_of_ble_eq_true rfl) ⟨(Nat.le_of_ble_eq_true rfl), (Nat.le_of_ble_eq_true rfl)⟩ ⟨(Nat.le_of_ble_eq_true rfl), (Nat.le_of_ble_eq_true rfl)⟩ dL_law_1164 (fun r_ μ2 w_ => ?_)
  obtain ⟨rfl, rfl⟩ := w_
  refine z_icmp_eqT C 1172 dL_law_1167 (by decide) rfl rfl (rfl) ?_
  exact K μ (hI)
end LCASES
