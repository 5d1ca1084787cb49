/-! ROWS over the region: one an instruction -/
section ROWS
variable {p : Program} {l : Launch} {e : Env} {R : Room} {s : State} {m : MethodId} {args : Array Value} {below : List Frame} {meth : Method} {cd : Code} {D : va_G} {ad : Nat → Nat} {kI kS kL : ClassId} {A : Nat → Prop} {nL cells slots : Nat} {Q : State → Prop} {cc : ByteArray} {ret : Option FieldType} {own : String} {pc : Nat} {lv : List (Nat × Value)} {st : List Value} {μ : Mem}
theorem y_eq {st2 : List Value} (h : st = st2) (k : Y p l e R s m args below meth cd D ad kI kS kL A nL cells slots Q pc lv st2 μ) : Y p l e R s m args below meth cd D ad kI kS kL A nL cells slots Q pc lv st μ := h ▸ k
theorem y_mem {μ2 : Mem} (h : μ = μ2) (k : Y p l e R s m args below meth cd D ad kI kS kL A nL cells slots Q pc lv st μ2) : Y p l e R s m args below meth cd D ad kI kS kL A nL cells slots Q pc lv st μ := h ▸ k
theorem y_lv {lv2 : List (Nat × Value)} (ks : List Nat) (h : lv_pick lv ks = lv2) (k : Y p l e R s m args below meth cd D ad kI kS kL A nL cells slots Q pc lv2 st μ) : Y p l e R s m args below meth cd D ad kI kS kL A nL cells slots Q pc lv st μ := fun H locs ls hP hS hl => k H locs ls hP hS (lv_sub hl ks h)
/-- a value at the top, under another name -/
theorem y_top {x y : Int32} (h : x = y) (k : Y p l e R s m args below meth cd D ad kI kS kL A nL cells slots Q pc lv (.int y :: st) μ) : Y p l e R s m args below meth cd D ad kI kS kL A nL cells slots Q pc lv (.int x :: st) μ := h ▸ k
theorem y_topl {x y : Int64} (h : x = y) (k : Y p l e R s m args below meth cd D ad kI kS kL A nL cells slots Q pc lv (.long y :: st) μ) : Y p l e R s m args below meth cd D ad kI kS kL A nL cells slots Q pc lv (.long x :: st) μ := h ▸ k
theorem y_nm {x : Int32} (k : ∀ z : Int32, z = x → Y p l e R s m args below meth cd D ad kI kS kL A nL cells slots Q pc lv (.int z :: st) μ) : Y p l e R s m args below meth cd D ad kI kS kL A nL cells slots Q pc lv (.int x :: st) μ := k x rfl
theorem y_iconst (C : Cx p s m args meth cd cc nL ret own D ad kI kS kL A) {n : Int} (v : Int32) (hdg : decode cc pc = .ok (.iconst n, 1)) (hv : Int32.ofInt n = v) (k : Y p l e R s m args below meth cd D ad kI kS kL A nL cells slots Q (pc + 1) lv (.int v :: st) μ) : Y p l e R s m args below meth cd D ad kI kS kL A nL cells slots Q pc lv st μ :=
  fun H locs ls hP hS hl => lv_iconst C.1.1 C.1.2.1 hdg hv (k H locs ls hP hS hl)
theorem y_bipush (C : Cx p s m args meth cd cc nL ret own D ad kI kS kL A) {n : Int} (v : Int32) (hdg : decode cc pc = .ok (.bipush n, 2)) (hv : (Int8.ofInt n).toInt32 = v) (k : Y p l e R s m args below meth cd D ad kI kS kL A nL cells slots Q (pc + 2) lv (.int v :: st) μ) : Y p l e R s m args below meth cd D ad kI kS kL A nL cells slots Q pc lv st μ :=
  fun H locs ls hP hS hl => lv_bipush C.1.1 C.1.2.1 hdg hv (k H locs ls hP hS hl)
theorem y_sipush (C : Cx p s m args meth cd cc nL ret own D ad kI kS kL A) {n : Int} (v : Int32) (hdg : decode cc pc = .ok (.sipush n, 3)) (hv : (Int16.ofInt n).toInt32 = v) (k : Y p l e R s m args below meth cd D ad kI kS kL A nL cells slots Q (pc + 3) lv (.int v :: st) μ) : Y p l e R s m args below meth cd D ad kI kS kL A nL cells slots Q pc lv st μ :=
  fun H locs ls hP hS hl => lv_sipush C.1.1 C.1.2.1 hdg hv (k H locs ls hP hS hl)
theorem y_lconst (C : Cx p s m args meth cd cc nL ret own D ad kI kS kL A) {n : Fin 2} (v : Int64) (hdg : decode cc pc = .ok (.lconst n, 1)) (hv : Int64.ofNat (n : Nat) = v) (k : Y p l e R s m args below meth cd D ad kI kS kL A nL cells slots Q (pc + 1) lv (.long v :: st) μ) : Y p l e R s m args below meth cd D ad kI kS kL A nL cells slots Q pc lv st μ :=
  fun H locs ls hP hS hl => lv_lconst C.1.1 C.1.2.1 hdg hv (k H locs ls hP hS hl)
theorem y_ldc2 (C : Cx p s m args meth cd cc nL ret own D ad kI kS kL A) {idx : Nat} {v : Int64} (g : Cond.constantLong own idx v ∈ TB) (hdg : decode cc pc = .ok (.ldc2_w idx, 3)) (k : Y p l e R s m args below meth cd D ad kI kS kL A nL cells slots Q (pc + 3) lv (.long v :: st) μ) : Y p l e R s m args below meth cd D ad kI kS kL A nL cells slots Q pc lv st μ :=
  fun H locs ls hP hS hl => lv_ldc2 C.1.1 C.1.2.1 C.1.2.2.2.1 (C.1.2.2.2.2 _ g) hdg (k H locs ls hP hS hl)
theorem y_null (C : Cx p s m args meth cd cc nL ret own D ad kI kS kL A) (hdg : decode cc pc = .ok (.aconst_null, 1)) (k : Y p l e R s m args below meth cd D ad kI kS kL A nL cells slots Q (pc + 1) lv (.null :: st) μ) : Y p l e R s m args below meth cd D ad kI kS kL A nL cells slots Q pc lv st μ :=
  fun H locs ls hP hS hl => lv_null C.1.1 C.1.2.1 hdg (k H locs ls hP hS hl)
theorem y_iload_n (C : Cx p s m args meth cd cc nL ret own D ad kI kS kL A) (j : Nat) {k : Fin 4} {i : Nat} {x : Int32} (hdg : decode cc pc = .ok (.iload_n k, 1)) (hi : (k : Nat) = i) (hl0 : lv[j]? = some (i, .int x)) (kk : Y p l e R s m args below meth cd D ad kI kS kL A nL cells slots Q (pc + 1) lv (.int x :: st) μ) : Y p l e R s m args below meth cd D ad kI kS kL A nL cells slots Q pc lv st μ :=
  fun H locs ls hP hS hl => lv_iload_n C.1.1 C.1.2.1 hdg hi (lv_at hl j hl0) (kk H locs ls hP hS hl)
theorem y_iload (C : Cx p s m args meth cd cc nL ret own D ad kI kS kL A) (j : Nat) {i : Nat} {x : Int32} (hdg : decode cc pc = .ok (.iload i, 2)) (hl0 : lv[j]? = some (i, .int x)) (kk : Y p l e R s m args below meth cd D ad kI kS kL A nL cells slots Q (pc + 2) lv (.int x :: st) μ) : Y p l e R s m args below meth cd D ad kI kS kL A nL cells slots Q pc lv st μ :=
  fun H locs ls hP hS hl => lv_iload C.1.1 C.1.2.1 hdg (lv_at hl j hl0) (kk H locs ls hP hS hl)
theorem y_lload_n (C : Cx p s m args meth cd cc nL ret own D ad kI kS kL A) (j : Nat) {k : Fin 4} {i : Nat} {x : Int64} (hdg : decode cc pc = .ok (.lload_n k, 1)) (hi : (k : Nat) = i) (hl0 : lv[j]? = some (i, .long x)) (kk : Y p l e R s m args below meth cd D ad kI kS kL A nL cells slots Q (pc + 1) lv (.long x :: st) μ) : Y p l e R s m args below meth cd D ad kI kS kL A nL cells slots Q pc lv st μ :=
  fun H locs ls hP hS hl => lv_lload_n C.1.1 C.1.2.1 hdg hi (lv_at hl j hl0) (kk H locs ls hP hS hl)
theorem y_lload (C : Cx p s m args meth cd cc nL ret own D ad kI kS kL A) (j : Nat) {i : Nat} {x : Int64} (hdg : decode cc pc = .ok (.lload i, 2)) (hl0 : lv[j]? = some (i, .long x)) (kk : Y p l e R s m args below meth cd D ad kI kS kL A nL cells slots Q (pc + 2) lv (.long x :: st) μ) : Y p l e R s m args below meth cd D ad kI kS kL A nL cells slots Q pc lv st μ :=
  fun H locs ls hP hS hl => lv_lload C.1.1 C.1.2.1 hdg (lv_at hl j hl0) (kk H locs ls hP hS hl)
theorem y_aload_n (C : Cx p s m args meth cd cc nL ret own D ad kI kS kL A) (j : Nat) {k : Fin 4} {i : Nat} {x : Nat} (hdg : decode cc pc = .ok (.aload_n k, 1)) (hi : (k : Nat) = i) (hl0 : lv[j]? = some (i, .ref x)) (kk : Y p l e R s m args below meth cd D ad kI kS kL A nL cells slots Q (pc + 1) lv (.ref x :: st) μ) : Y p l e R s m args below meth cd D ad kI kS kL A nL cells slots Q pc lv st μ :=
  fun H locs ls hP hS hl => lv_aload_n C.1.1 C.1.2.1 hdg hi (lv_at hl j hl0) (kk H locs ls hP hS hl)
theorem y_aload (C : Cx p s m args meth cd cc nL ret own D ad kI kS kL A) (j : Nat) {i : Nat} {x : Nat} (hdg : decode cc pc = .ok (.aload i, 2)) (hl0 : lv[j]? = some (i, .ref x)) (kk : Y p l e R s m args below meth cd D ad kI kS kL A nL cells slots Q (pc + 2) lv (.ref x :: st) μ) : Y p l e R s m args below meth cd D ad kI kS kL A nL cells slots Q pc lv st μ :=
  fun H locs ls hP hS hl => lv_aload C.1.1 C.1.2.1 hdg (lv_at hl j hl0) (kk H locs ls hP hS hl)
theorem y_aload_nN (C : Cx p s m args meth cd cc nL ret own D ad kI kS kL A) (j : Nat) {k : Fin 4} {i : Nat} (hdg : decode cc pc = .ok (.aload_n k, 1)) (hi : (k : Nat) = i) (hl0 : lv[j]? = some (i, .null)) (kk : Y p l e R s m args below meth cd D ad kI kS kL A nL cells slots Q (pc + 1) lv (.null :: st) μ) : Y p l e R s m args below meth cd D ad kI kS kL A nL cells slots Q pc lv st μ :=
  fun H locs ls hP hS hl => lv_aload_nN C.1.1 C.1.2.1 hdg hi (lv_at hl j hl0) (kk H locs ls hP hS hl)
theorem y_aloadN (C : Cx p s m args meth cd cc nL ret own D ad kI kS kL A) (j : Nat) {i : Nat} (hdg : decode cc pc = .ok (.aload i, 2)) (hl0 : lv[j]? = some (i, .null)) (kk : Y p l e R s m args below meth cd D ad kI kS kL A nL cells slots Q (pc + 2) lv (.null :: st) μ) : Y p l e R s m args below meth cd D ad kI kS kL A nL cells slots Q pc lv st μ :=
  fun H locs ls hP hS hl => lv_aloadN C.1.1 C.1.2.1 hdg (lv_at hl j hl0) (kk H locs ls hP hS hl)
theorem y_istore_n (C : Cx p s m args meth cd cc nL ret own D ad kI kS kL A) (lv' : List (Nat × Value)) {k : Fin 4} {i : Nat} {x : Int32} (hdg : decode cc pc = .ok (.istore_n k, 1)) (hi : (k : Nat) = i) (hn : i < nL) (hl0 : (i, Value.int x) :: lv.filter (fun q => !(q.1 == i) && !(q.1 + 1 == i && q.2.category == 2)) = lv') (kk : Y p l e R s m args below meth cd D ad kI kS kL A nL cells slots Q (pc + 1) lv' st μ) : Y p l e R s m args below meth cd D ad kI kS kL A nL cells slots Q pc lv (.int x :: st) μ :=
  fun H locs ls hP hS hl => lv_istore_n C.1.1 C.1.2.1 hdg hi hl hn hl0 (fun ls' h => kk H locs ls' hP hS h)
theorem y_istore (C : Cx p s m args meth cd cc nL ret own D ad kI kS kL A) (lv' : List (Nat × Value)) {i : Nat} {x : Int32} (hdg : decode cc pc = .ok (.istore i, 2)) (hn : i < nL) (hl0 : (i, Value.int x) :: lv.filter (fun q => !(q.1 == i) && !(q.1 + 1 == i && q.2.category == 2)) = lv') (kk : Y p l e R s m args below meth cd D ad kI kS kL A nL cells slots Q (pc + 2) lv' st μ) : Y p l e R s m args below meth cd D ad kI kS kL A nL cells slots Q pc lv (.int x :: st) μ :=
  fun H locs ls hP hS hl => lv_istore C.1.1 C.1.2.1 hdg hl hn hl0 (fun ls' h => kk H locs ls' hP hS h)
theorem y_lstore_n (C : Cx p s m args meth cd cc nL ret own D ad kI kS kL A) (lv' : List (Nat × Value)) {k : Fin 4} {i : Nat} {x : Int64} (hdg : decode cc pc = .ok (.lstore_n k, 1)) (hi : (k : Nat) = i) (hn : i + 1 < nL) (hl0 : (i, Value.long x) :: lv.filter (fun q => !(q.1 == i) && (!(q.1 == i + 1) && !(q.1 + 1 == i && q.2.category == 2))) = lv') (kk : Y p l e R s m args below meth cd D ad kI kS kL A nL cells slots Q (pc + 1) lv' st μ) : Y p l e R s m args below meth cd D ad kI kS kL A nL cells slots Q pc lv (.long x :: st) μ :=
  fun H locs ls hP hS hl => lv_lstore_n C.1.1 C.1.2.1 hdg hi hl hn hl0 (fun ls' h => kk H locs ls' hP hS h)
theorem y_lstore (C : Cx p s m args meth cd cc nL ret own D ad kI kS kL A) (lv' : List (Nat × Value)) {i : Nat} {x : Int64} (hdg : decode cc pc = .ok (.lstore i, 2)) (hn : i + 1 < nL) (hl0 : (i, Value.long x) :: lv.filter (fun q => !(q.1 == i) && (!(q.1 == i + 1) && !(q.1 + 1 == i && q.2.category == 2))) = lv') (kk : Y p l e R s m args below meth cd D ad kI kS kL A nL cells slots Q (pc + 2) lv' st μ) : Y p l e R s m args below meth cd D ad kI kS kL A nL cells slots Q pc lv (.long x :: st) μ :=
  fun H locs ls hP hS hl => lv_lstore C.1.1 C.1.2.1 hdg hl hn hl0 (fun ls' h => kk H locs ls' hP hS h)
theorem y_astore_n (C : Cx p s m args meth cd cc nL ret own D ad kI kS kL A) (lv' : List (Nat × Value)) {k : Fin 4} {i : Nat} {x : Nat} (hdg : decode cc pc = .ok (.astore_n k, 1)) (hi : (k : Nat) = i) (hn : i < nL) (hl0 : (i, Value.ref x) :: lv.filter (fun q => !(q.1 == i) && !(q.1 + 1 == i && q.2.category == 2)) = lv') (kk : Y p l e R s m args below meth cd D ad kI kS kL A nL cells slots Q (pc + 1) lv' st μ) : Y p l e R s m args below meth cd D ad kI kS kL A nL cells slots Q pc lv (.ref x :: st) μ :=
  fun H locs ls hP hS hl => lv_astore_n C.1.1 C.1.2.1 hdg hi hl hn hl0 (fun ls' h => kk H locs ls' hP hS h)
theorem y_astore (C : Cx p s m args meth cd cc nL ret own D ad kI kS kL A) (lv' : List (Nat × Value)) {i : Nat} {x : Nat} (hdg : decode cc pc = .ok (.astore i, 2)) (hn : i < nL) (hl0 : (i, Value.ref x) :: lv.filter (fun q => !(q.1 == i) && !(q.1 + 1 == i && q.2.category == 2)) = lv') (kk : Y p l e R s m args below meth cd D ad kI kS kL A nL cells slots Q (pc + 2) lv' st μ) : Y p l e R s m args below meth cd D ad kI kS kL A nL cells slots Q pc lv (.ref x :: st) μ :=
  fun H locs ls hP hS hl => lv_astore C.1.1 C.1.2.1 hdg hl hn hl0 (fun ls' h => kk H locs ls' hP hS h)
theorem y_astore_nN (C : Cx p s m args meth cd cc nL ret own D ad kI kS kL A) (lv' : List (Nat × Value)) {k : Fin 4} {i : Nat} (hdg : decode cc pc = .ok (.astore_n k, 1)) (hi : (k : Nat) = i) (hn : i < nL) (hl0 : (i, Value.null) :: lv.filter (fun q => !(q.1 == i) && !(q.1 + 1 == i && q.2.category == 2)) = lv') (kk : Y p l e R s m args below meth cd D ad kI kS kL A nL cells slots Q (pc + 1) lv' st μ) : Y p l e R s m args below meth cd D ad kI kS kL A nL cells slots Q pc lv (.null :: st) μ :=
  fun H locs ls hP hS hl => lv_astore_nN C.1.1 C.1.2.1 hdg hi hl hn hl0 (fun ls' h => kk H locs ls' hP hS h)
theorem y_astoreN (C : Cx p s m args meth cd cc nL ret own D ad kI kS kL A) (lv' : List (Nat × Value)) {i : Nat} (hdg : decode cc pc = .ok (.astore i, 2)) (hn : i < nL) (hl0 : (i, Value.null) :: lv.filter (fun q => !(q.1 == i) && !(q.1 + 1 == i && q.2.category == 2)) = lv') (kk : Y p l e R s m args below meth cd D ad kI kS kL A nL cells slots Q (pc + 2) lv' st μ) : Y p l e R s m args below meth cd D ad kI kS kL A nL cells slots Q pc lv (.null :: st) μ :=
  fun H locs ls hP hS hl => lv_astoreN C.1.1 C.1.2.1 hdg hl hn hl0 (fun ls' h => kk H locs ls' hP hS h)
theorem y_iinc (C : Cx p s m args meth cd cc nL ret own D ad kI kS kL A) (k : Nat) (v : Int32) (lv' : List (Nat × Value)) {i : Nat} {n : Int} {x : Int32} (hdg : decode cc pc = .ok (.iinc i n, 3)) (hk : lv[k]? = some (i, .int x)) (hv : x + Int32.ofInt n = v) (hn : i < nL) (hl0 : (i, Value.int v) :: lv.filter (fun q => !(q.1 == i) && !(q.1 + 1 == i && q.2.category == 2)) = lv') (kk : Y p l e R s m args below meth cd D ad kI kS kL A nL cells slots Q (pc + 3) lv' st μ) : Y p l e R s m args below meth cd D ad kI kS kL A nL cells slots Q pc lv st μ :=
  fun H locs ls hP hS hl => lv_iinc C.1.1 C.1.2.1 hdg hl hk hv hn hl0 (fun ls' h => kk H locs ls' hP hS h)
theorem y_dup (C : Cx p s m args meth cd cc nL ret own D ad kI kS kL A) {va : Value} (hdg : decode cc pc = .ok (.dup, 1)) (hva : va.category = 1) (k : Y p l e R s m args below meth cd D ad kI kS kL A nL cells slots Q (pc + 1) lv (va :: va :: st) μ) : Y p l e R s m args below meth cd D ad kI kS kL A nL cells slots Q pc lv (va :: st) μ :=
  fun H locs ls hP hS hl => lv_dup C.1.1 C.1.2.1 hdg hva (k H locs ls hP hS hl)
theorem y_pop (C : Cx p s m args meth cd cc nL ret own D ad kI kS kL A) {va : Value} (hdg : decode cc pc = .ok (.pop, 1)) (hva : va.category = 1) (k : Y p l e R s m args below meth cd D ad kI kS kL A nL cells slots Q (pc + 1) lv st μ) : Y p l e R s m args below meth cd D ad kI kS kL A nL cells slots Q pc lv (va :: st) μ :=
  fun H locs ls hP hS hl => lv_pop C.1.1 C.1.2.1 hdg hva (k H locs ls hP hS hl)
theorem y_goto (C : Cx p s m args meth cd cc nL ret own D ad kI kS kL A) {off : Int} (tgt : Nat) (hdg : decode cc pc = .ok (.goto off, 3)) (ht : (pc : Int) + off = (tgt : Int)) (k : Y p l e R s m args below meth cd D ad kI kS kL A nL cells slots Q tgt lv st μ) : Y p l e R s m args below meth cd D ad kI kS kL A nL cells slots Q pc lv st μ :=
  fun H locs ls hP hS hl => lv_goto C.1.1 C.1.2.1 hdg ht (k H locs ls hP hS hl)
-- GENERATED by wip/tools/gen_rows.py
theorem y_iadd (C : Cx p s m args meth cd cc nL ret own D ad kI kS kL A) {x y v : Int32} (hdg : decode cc pc = .ok (.iadd, 1)) (hv : x + y = v) (k : Y p l e R s m args below meth cd D ad kI kS kL A nL cells slots Q (pc + 1) lv (.int v :: st) μ) : Y p l e R s m args below meth cd D ad kI kS kL A nL cells slots Q pc lv (.int y :: .int x :: st) μ := by
  subst hv
  exact fun H locs ls hP hS hl => lv_iadd C.1.1 C.1.2.1 hdg (k H locs ls hP hS hl)
theorem y_isub (C : Cx p s m args meth cd cc nL ret own D ad kI kS kL A) {x y v : Int32} (hdg : decode cc pc = .ok (.isub, 1)) (hv : x - y = v) (k : Y p l e R s m args below meth cd D ad kI kS kL A nL cells slots Q (pc + 1) lv (.int v :: st) μ) : Y p l e R s m args below meth cd D ad kI kS kL A nL cells slots Q pc lv (.int y :: .int x :: st) μ := by
  subst hv
  exact fun H locs ls hP hS hl => lv_isub C.1.1 C.1.2.1 hdg (k H locs ls hP hS hl)
theorem y_imul (C : Cx p s m args meth cd cc nL ret own D ad kI kS kL A) {x y v : Int32} (hdg : decode cc pc = .ok (.imul, 1)) (hv : x * y = v) (k : Y p l e R s m args below meth cd D ad kI kS kL A nL cells slots Q (pc + 1) lv (.int v :: st) μ) : Y p l e R s m args below meth cd D ad kI kS kL A nL cells slots Q pc lv (.int y :: .int x :: st) μ := by
  subst hv
  exact fun H locs ls hP hS hl => lv_imul C.1.1 C.1.2.1 hdg (k H locs ls hP hS hl)
theorem y_iand (C : Cx p s m args meth cd cc nL ret own D ad kI kS kL A) {x y v : Int32} (hdg : decode cc pc = .ok (.iand, 1)) (hv : x &&& y = v) (k : Y p l e R s m args below meth cd D ad kI kS kL A nL cells slots Q (pc + 1) lv (.int v :: st) μ) : Y p l e R s m args below meth cd D ad kI kS kL A nL cells slots Q pc lv (.int y :: .int x :: st) μ := by
  subst hv
  exact fun H locs ls hP hS hl => lv_iand C.1.1 C.1.2.1 hdg (k H locs ls hP hS hl)
theorem y_ior (C : Cx p s m args meth cd cc nL ret own D ad kI kS kL A) {x y v : Int32} (hdg : decode cc pc = .ok (.ior, 1)) (hv : x ||| y = v) (k : Y p l e R s m args below meth cd D ad kI kS kL A nL cells slots Q (pc + 1) lv (.int v :: st) μ) : Y p l e R s m args below meth cd D ad kI kS kL A nL cells slots Q pc lv (.int y :: .int x :: st) μ := by
  subst hv
  exact fun H locs ls hP hS hl => lv_ior C.1.1 C.1.2.1 hdg (k H locs ls hP hS hl)
theorem y_ixor (C : Cx p s m args meth cd cc nL ret own D ad kI kS kL A) {x y v : Int32} (hdg : decode cc pc = .ok (.ixor, 1)) (hv : x ^^^ y = v) (k : Y p l e R s m args below meth cd D ad kI kS kL A nL cells slots Q (pc + 1) lv (.int v :: st) μ) : Y p l e R s m args below meth cd D ad kI kS kL A nL cells slots Q pc lv (.int y :: .int x :: st) μ := by
  subst hv
  exact fun H locs ls hP hS hl => lv_ixor C.1.1 C.1.2.1 hdg (k H locs ls hP hS hl)
theorem y_idiv (C : Cx p s m args meth cd cc nL ret own D ad kI kS kL A) {x y v : Int32} (hdg : decode cc pc = .ok (.idiv, 1)) (hne : ¬ y = 0) (hv : x / y = v) (k : Y p l e R s m args below meth cd D ad kI kS kL A nL cells slots Q (pc + 1) lv (.int v :: st) μ) : Y p l e R s m args below meth cd D ad kI kS kL A nL cells slots Q pc lv (.int y :: .int x :: st) μ := by
  subst hv
  exact fun H locs ls hP hS hl => lv_idiv C.1.1 C.1.2.1 hdg hne (k H locs ls hP hS hl)
theorem y_irem (C : Cx p s m args meth cd cc nL ret own D ad kI kS kL A) {x y v : Int32} (hdg : decode cc pc = .ok (.irem, 1)) (hne : ¬ y = 0) (hv : x - x / y * y = v) (k : Y p l e R s m args below meth cd D ad kI kS kL A nL cells slots Q (pc + 1) lv (.int v :: st) μ) : Y p l e R s m args below meth cd D ad kI kS kL A nL cells slots Q pc lv (.int y :: .int x :: st) μ := by
  subst hv
  exact fun H locs ls hP hS hl => lv_irem C.1.1 C.1.2.1 hdg hne (k H locs ls hP hS hl)
theorem y_ishl (C : Cx p s m args meth cd cc nL ret own D ad kI kS kL A) {x y v : Int32} (hdg : decode cc pc = .ok (.ishl, 1)) (hv : x <<< (y &&& 31) = v) (k : Y p l e R s m args below meth cd D ad kI kS kL A nL cells slots Q (pc + 1) lv (.int v :: st) μ) : Y p l e R s m args below meth cd D ad kI kS kL A nL cells slots Q pc lv (.int y :: .int x :: st) μ := by
  subst hv
  exact fun H locs ls hP hS hl => lv_ishl C.1.1 C.1.2.1 hdg (k H locs ls hP hS hl)
theorem y_ishr (C : Cx p s m args meth cd cc nL ret own D ad kI kS kL A) {x y v : Int32} (hdg : decode cc pc = .ok (.ishr, 1)) (hv : x >>> (y &&& 31) = v) (k : Y p l e R s m args below meth cd D ad kI kS kL A nL cells slots Q (pc + 1) lv (.int v :: st) μ) : Y p l e R s m args below meth cd D ad kI kS kL A nL cells slots Q pc lv (.int y :: .int x :: st) μ := by
  subst hv
  exact fun H locs ls hP hS hl => lv_ishr C.1.1 C.1.2.1 hdg (k H locs ls hP hS hl)
theorem y_ladd (C : Cx p s m args meth cd cc nL ret own D ad kI kS kL A) {x y v : Int64} (hdg : decode cc pc = .ok (.ladd, 1)) (hv : x + y = v) (k : Y p l e R s m args below meth cd D ad kI kS kL A nL cells slots Q (pc + 1) lv (.long v :: st) μ) : Y p l e R s m args below meth cd D ad kI kS kL A nL cells slots Q pc lv (.long y :: .long x :: st) μ := by
  subst hv
  exact fun H locs ls hP hS hl => lv_ladd C.1.1 C.1.2.1 hdg (k H locs ls hP hS hl)
theorem y_lsub (C : Cx p s m args meth cd cc nL ret own D ad kI kS kL A) {x y v : Int64} (hdg : decode cc pc = .ok (.lsub, 1)) (hv : x - y = v) (k : Y p l e R s m args below meth cd D ad kI kS kL A nL cells slots Q (pc + 1) lv (.long v :: st) μ) : Y p l e R s m args below meth cd D ad kI kS kL A nL cells slots Q pc lv (.long y :: .long x :: st) μ := by
  subst hv
  exact fun H locs ls hP hS hl => lv_lsub C.1.1 C.1.2.1 hdg (k H locs ls hP hS hl)
theorem y_ldiv (C : Cx p s m args meth cd cc nL ret own D ad kI kS kL A) {x y v : Int64} (hdg : decode cc pc = .ok (.ldiv, 1)) (hne : ¬ y = 0) (hv : x / y = v) (k : Y p l e R s m args below meth cd D ad kI kS kL A nL cells slots Q (pc + 1) lv (.long v :: st) μ) : Y p l e R s m args below meth cd D ad kI kS kL A nL cells slots Q pc lv (.long y :: .long x :: st) μ := by
  subst hv
  exact fun H locs ls hP hS hl => lv_ldiv C.1.1 C.1.2.1 hdg hne (k H locs ls hP hS hl)
theorem y_lrem (C : Cx p s m args meth cd cc nL ret own D ad kI kS kL A) {x y v : Int64} (hdg : decode cc pc = .ok (.lrem, 1)) (hne : ¬ y = 0) (hv : x - x / y * y = v) (k : Y p l e R s m args below meth cd D ad kI kS kL A nL cells slots Q (pc + 1) lv (.long v :: st) μ) : Y p l e R s m args below meth cd D ad kI kS kL A nL cells slots Q pc lv (.long y :: .long x :: st) μ := by
  subst hv
  exact fun H locs ls hP hS hl => lv_lrem C.1.1 C.1.2.1 hdg hne (k H locs ls hP hS hl)
theorem y_lshl (C : Cx p s m args meth cd cc nL ret own D ad kI kS kL A) {x v : Int64} {y : Int32} (hdg : decode cc pc = .ok (.lshl, 1)) (hv : x <<< (y.toInt64 &&& 63) = v) (k : Y p l e R s m args below meth cd D ad kI kS kL A nL cells slots Q (pc + 1) lv (.long v :: st) μ) : Y p l e R s m args below meth cd D ad kI kS kL A nL cells slots Q pc lv (.int y :: .long x :: st) μ :=
  fun H locs ls hP hS hl => lv_lshl C.1.1 C.1.2.1 hdg hv (k H locs ls hP hS hl)
theorem y_lcmp (C : Cx p s m args meth cd cc nL ret own D ad kI kS kL A) {x y : Int64} {v : Int32} (hdg : decode cc pc = .ok (.lcmp, 1)) (hv : lg_cmp x y = v) (k : Y p l e R s m args below meth cd D ad kI kS kL A nL cells slots Q (pc + 1) lv (.int v :: st) μ) : Y p l e R s m args below meth cd D ad kI kS kL A nL cells slots Q pc lv (.long y :: .long x :: st) μ := by
  subst hv
  exact fun H locs ls hP hS hl => W.lcmp C.1.1 C.1.2.1 hdg (k H locs ls hP hS hl)
theorem y_ineg (C : Cx p s m args meth cd cc nL ret own D ad kI kS kL A) {x v : Int32} (hdg : decode cc pc = .ok (.ineg, 1)) (hv : -x = v) (k : Y p l e R s m args below meth cd D ad kI kS kL A nL cells slots Q (pc + 1) lv (.int v :: st) μ) : Y p l e R s m args below meth cd D ad kI kS kL A nL cells slots Q pc lv (.int x :: st) μ := by
  subst hv
  exact fun H locs ls hP hS hl => lv_ineg C.1.1 C.1.2.1 hdg (k H locs ls hP hS hl)
theorem y_i2l (C : Cx p s m args meth cd cc nL ret own D ad kI kS kL A) {x : Int32} {v : Int64} (hdg : decode cc pc = .ok (.i2l, 1)) (hv : x.toInt64 = v) (k : Y p l e R s m args below meth cd D ad kI kS kL A nL cells slots Q (pc + 1) lv (.long v :: st) μ) : Y p l e R s m args below meth cd D ad kI kS kL A nL cells slots Q pc lv (.int x :: st) μ :=
  fun H locs ls hP hS hl => lv_i2l C.1.1 C.1.2.1 hdg hv (k H locs ls hP hS hl)
theorem y_i2b (C : Cx p s m args meth cd cc nL ret own D ad kI kS kL A) {x : Int32} {v : Int32} (hdg : decode cc pc = .ok (.i2b, 1)) (hv : x.toInt8.toInt32 = v) (k : Y p l e R s m args below meth cd D ad kI kS kL A nL cells slots Q (pc + 1) lv (.int v :: st) μ) : Y p l e R s m args below meth cd D ad kI kS kL A nL cells slots Q pc lv (.int x :: st) μ :=
  fun H locs ls hP hS hl => lv_i2b C.1.1 C.1.2.1 hdg hv (k H locs ls hP hS hl)
theorem y_i2s (C : Cx p s m args meth cd cc nL ret own D ad kI kS kL A) {x : Int32} {v : Int32} (hdg : decode cc pc = .ok (.i2s, 1)) (hv : x.toInt16.toInt32 = v) (k : Y p l e R s m args below meth cd D ad kI kS kL A nL cells slots Q (pc + 1) lv (.int v :: st) μ) : Y p l e R s m args below meth cd D ad kI kS kL A nL cells slots Q pc lv (.int x :: st) μ :=
  fun H locs ls hP hS hl => lv_i2s C.1.1 C.1.2.1 hdg hv (k H locs ls hP hS hl)
theorem y_if_eq (C : Cx p s m args meth cd cc nL ret own D ad kI kS kL A) {x : Int32} {off : Int} (tgt : Nat) (hdg : decode cc pc = .ok (.ifCond .eq off, 3)) (ht : (pc : Int) + off = (tgt : Int)) (kt : x = 0 → Y p l e R s m args below meth cd D ad kI kS kL A nL cells slots Q tgt lv (st) μ) (kf : ¬ x = 0 → Y p l e R s m args below meth cd D ad kI kS kL A nL cells slots Q (pc + 3) lv (st) μ) : Y p l e R s m args below meth cd D ad kI kS kL A nL cells slots Q pc lv (.int x :: st) μ :=
  fun H locs ls hP hS hl => lv_if_eq C.1.1 C.1.2.1 hdg ht (fun h => kt h H locs ls hP hS hl) (fun h => kf h H locs ls hP hS hl)
theorem y_if_eqT (C : Cx p s m args meth cd cc nL ret own D ad kI kS kL A) {x : Int32} {off : Int} (tgt : Nat) (hdg : decode cc pc = .ok (.ifCond .eq off, 3)) (ht : (pc : Int) + off = (tgt : Int)) (h : x = 0) (kt : Y p l e R s m args below meth cd D ad kI kS kL A nL cells slots Q tgt lv (st) μ) : Y p l e R s m args below meth cd D ad kI kS kL A nL cells slots Q pc lv (.int x :: st) μ :=
  y_if_eq C tgt hdg ht (fun _ => kt) (fun q => absurd h q)
theorem y_if_eqF (C : Cx p s m args meth cd cc nL ret own D ad kI kS kL A) {x : Int32} {off : Int} (tgt : Nat) (hdg : decode cc pc = .ok (.ifCond .eq off, 3)) (ht : (pc : Int) + off = (tgt : Int)) (h : ¬ x = 0) (kf : Y p l e R s m args below meth cd D ad kI kS kL A nL cells slots Q (pc + 3) lv (st) μ) : Y p l e R s m args below meth cd D ad kI kS kL A nL cells slots Q pc lv (.int x :: st) μ :=
  y_if_eq C tgt hdg ht (fun q => absurd q h) (fun _ => kf)
theorem y_icmp_eq (C : Cx p s m args meth cd cc nL ret own D ad kI kS kL A) {x y : Int32} {off : Int} (tgt : Nat) (hdg : decode cc pc = .ok (.if_icmp .eq off, 3)) (ht : (pc : Int) + off = (tgt : Int)) (kt : x = y → Y p l e R s m args below meth cd D ad kI kS kL A nL cells slots Q tgt lv (st) μ) (kf : ¬ x = y → Y p l e R s m args below meth cd D ad kI kS kL A nL cells slots Q (pc + 3) lv (st) μ) : Y p l e R s m args below meth cd D ad kI kS kL A nL cells slots Q pc lv (.int y :: .int x :: st) μ :=
  fun H locs ls hP hS hl => lv_icmp_eq C.1.1 C.1.2.1 hdg ht (fun h => kt h H locs ls hP hS hl) (fun h => kf h H locs ls hP hS hl)
theorem y_icmp_eqT (C : Cx p s m args meth cd cc nL ret own D ad kI kS kL A) {x y : Int32} {off : Int} (tgt : Nat) (hdg : decode cc pc = .ok (.if_icmp .eq off, 3)) (ht : (pc : Int) + off = (tgt : Int)) (h : x = y) (kt : Y p l e R s m args below meth cd D ad kI kS kL A nL cells slots Q tgt lv (st) μ) : Y p l e R s m args below meth cd D ad kI kS kL A nL cells slots Q pc lv (.int y :: .int x :: st) μ :=
  y_icmp_eq C tgt hdg ht (fun _ => kt) (fun q => absurd h q)
theorem y_icmp_eqF (C : Cx p s m args meth cd cc nL ret own D ad kI kS kL A) {x y : Int32} {off : Int} (tgt : Nat) (hdg : decode cc pc = .ok (.if_icmp .eq off, 3)) (ht : (pc : Int) + off = (tgt : Int)) (h : ¬ x = y) (kf : Y p l e R s m args below meth cd D ad kI kS kL A nL cells slots Q (pc + 3) lv (st) μ) : Y p l e R s m args below meth cd D ad kI kS kL A nL cells slots Q pc lv (.int y :: .int x :: st) μ :=
  y_icmp_eq C tgt hdg ht (fun q => absurd q h) (fun _ => kf)
theorem y_if_ne (C : Cx p s m args meth cd cc nL ret own D ad kI kS kL A) {x : Int32} {off : Int} (tgt : Nat) (hdg : decode cc pc = .ok (.ifCond .ne off, 3)) (ht : (pc : Int) + off = (tgt : Int)) (kt : ¬ x = 0 → Y p l e R s m args below meth cd D ad kI kS kL A nL cells slots Q tgt lv (st) μ) (kf : x = 0 → Y p l e R s m args below meth cd D ad kI kS kL A nL cells slots Q (pc + 3) lv (st) μ) : Y p l e R s m args below meth cd D ad kI kS kL A nL cells slots Q pc lv (.int x :: st) μ :=
  fun H locs ls hP hS hl => lv_if_ne C.1.1 C.1.2.1 hdg ht (fun h => kt h H locs ls hP hS hl) (fun h => kf h H locs ls hP hS hl)
theorem y_if_neT (C : Cx p s m args meth cd cc nL ret own D ad kI kS kL A) {x : Int32} {off : Int} (tgt : Nat) (hdg : decode cc pc = .ok (.ifCond .ne off, 3)) (ht : (pc : Int) + off = (tgt : Int)) (h : ¬ x = 0) (kt : Y p l e R s m args below meth cd D ad kI kS kL A nL cells slots Q tgt lv (st) μ) : Y p l e R s m args below meth cd D ad kI kS kL A nL cells slots Q pc lv (.int x :: st) μ :=
  y_if_ne C tgt hdg ht (fun _ => kt) (fun q => absurd q h)
theorem y_if_neF (C : Cx p s m args meth cd cc nL ret own D ad kI kS kL A) {x : Int32} {off : Int} (tgt : Nat) (hdg : decode cc pc = .ok (.ifCond .ne off, 3)) (ht : (pc : Int) + off = (tgt : Int)) (h : x = 0) (kf : Y p l e R s m args below meth cd D ad kI kS kL A nL cells slots Q (pc + 3) lv (st) μ) : Y p l e R s m args below meth cd D ad kI kS kL A nL cells slots Q pc lv (.int x :: st) μ :=
  y_if_ne C tgt hdg ht (fun q => absurd h q) (fun _ => kf)
theorem y_icmp_ne (C : Cx p s m args meth cd cc nL ret own D ad kI kS kL A) {x y : Int32} {off : Int} (tgt : Nat) (hdg : decode cc pc = .ok (.if_icmp .ne off, 3)) (ht : (pc : Int) + off = (tgt : Int)) (kt : ¬ x = y → Y p l e R s m args below meth cd D ad kI kS kL A nL cells slots Q tgt lv (st) μ) (kf : x = y → Y p l e R s m args below meth cd D ad kI kS kL A nL cells slots Q (pc + 3) lv (st) μ) : Y p l e R s m args below meth cd D ad kI kS kL A nL cells slots Q pc lv (.int y :: .int x :: st) μ :=
  fun H locs ls hP hS hl => lv_icmp_ne C.1.1 C.1.2.1 hdg ht (fun h => kt h H locs ls hP hS hl) (fun h => kf h H locs ls hP hS hl)
theorem y_icmp_neT (C : Cx p s m args meth cd cc nL ret own D ad kI kS kL A) {x y : Int32} {off : Int} (tgt : Nat) (hdg : decode cc pc = .ok (.if_icmp .ne off, 3)) (ht : (pc : Int) + off = (tgt : Int)) (h : ¬ x = y) (kt : Y p l e R s m args below meth cd D ad kI kS kL A nL cells slots Q tgt lv (st) μ) : Y p l e R s m args below meth cd D ad kI kS kL A nL cells slots Q pc lv (.int y :: .int x :: st) μ :=
  y_icmp_ne C tgt hdg ht (fun _ => kt) (fun q => absurd q h)
theorem y_icmp_neF (C : Cx p s m args meth cd cc nL ret own D ad kI kS kL A) {x y : Int32} {off : Int} (tgt : Nat) (hdg : decode cc pc = .ok (.if_icmp .ne off, 3)) (ht : (pc : Int) + off = (tgt : Int)) (h : x = y) (kf : Y p l e R s m args below meth cd D ad kI kS kL A nL cells slots Q (pc + 3) lv (st) μ) : Y p l e R s m args below meth cd D ad kI kS kL A nL cells slots Q pc lv (.int y :: .int x :: st) μ :=
  y_icmp_ne C tgt hdg ht (fun q => absurd h q) (fun _ => kf)
theorem y_if_lt (C : Cx p s m args meth cd cc nL ret own D ad kI kS kL A) {x : Int32} {off : Int} (tgt : Nat) (hdg : decode cc pc = .ok (.ifCond .lt off, 3)) (ht : (pc : Int) + off = (tgt : Int)) (kt : x < 0 → Y p l e R s m args below meth cd D ad kI kS kL A nL cells slots Q tgt lv (st) μ) (kf : ¬ x < 0 → Y p l e R s m args below meth cd D ad kI kS kL A nL cells slots Q (pc + 3) lv (st) μ) : Y p l e R s m args below meth cd D ad kI kS kL A nL cells slots Q pc lv (.int x :: st) μ :=
  fun H locs ls hP hS hl => lv_if_lt C.1.1 C.1.2.1 hdg ht (fun h => kt h H locs ls hP hS hl) (fun h => kf h H locs ls hP hS hl)
theorem y_if_ltT (C : Cx p s m args meth cd cc nL ret own D ad kI kS kL A) {x : Int32} {off : Int} (tgt : Nat) (hdg : decode cc pc = .ok (.ifCond .lt off, 3)) (ht : (pc : Int) + off = (tgt : Int)) (h : x < 0) (kt : Y p l e R s m args below meth cd D ad kI kS kL A nL cells slots Q tgt lv (st) μ) : Y p l e R s m args below meth cd D ad kI kS kL A nL cells slots Q pc lv (.int x :: st) μ :=
  y_if_lt C tgt hdg ht (fun _ => kt) (fun q => absurd h q)
theorem y_if_ltF (C : Cx p s m args meth cd cc nL ret own D ad kI kS kL A) {x : Int32} {off : Int} (tgt : Nat) (hdg : decode cc pc = .ok (.ifCond .lt off, 3)) (ht : (pc : Int) + off = (tgt : Int)) (h : ¬ x < 0) (kf : Y p l e R s m args below meth cd D ad kI kS kL A nL cells slots Q (pc + 3) lv (st) μ) : Y p l e R s m args below meth cd D ad kI kS kL A nL cells slots Q pc lv (.int x :: st) μ :=
  y_if_lt C tgt hdg ht (fun q => absurd q h) (fun _ => kf)
theorem y_icmp_lt (C : Cx p s m args meth cd cc nL ret own D ad kI kS kL A) {x y : Int32} {off : Int} (tgt : Nat) (hdg : decode cc pc = .ok (.if_icmp .lt off, 3)) (ht : (pc : Int) + off = (tgt : Int)) (kt : x < y → Y p l e R s m args below meth cd D ad kI kS kL A nL cells slots Q tgt lv (st) μ) (kf : ¬ x < y → Y p l e R s m args below meth cd D ad kI kS kL A nL cells slots Q (pc + 3) lv (st) μ) : Y p l e R s m args below meth cd D ad kI kS kL A nL cells slots Q pc lv (.int y :: .int x :: st) μ :=
  fun H locs ls hP hS hl => lv_icmp_lt C.1.1 C.1.2.1 hdg ht (fun h => kt h H locs ls hP hS hl) (fun h => kf h H locs ls hP hS hl)
theorem y_icmp_ltT (C : Cx p s m args meth cd cc nL ret own D ad kI kS kL A) {x y : Int32} {off : Int} (tgt : Nat) (hdg : decode cc pc = .ok (.if_icmp .lt off, 3)) (ht : (pc : Int) + off = (tgt : Int)) (h : x < y) (kt : Y p l e R s m args below meth cd D ad kI kS kL A nL cells slots Q tgt lv (st) μ) : Y p l e R s m args below meth cd D ad kI kS kL A nL cells slots Q pc lv (.int y :: .int x :: st) μ :=
  y_icmp_lt C tgt hdg ht (fun _ => kt) (fun q => absurd h q)
theorem y_icmp_ltF (C : Cx p s m args meth cd cc nL ret own D ad kI kS kL A) {x y : Int32} {off : Int} (tgt : Nat) (hdg : decode cc pc = .ok (.if_icmp .lt off, 3)) (ht : (pc : Int) + off = (tgt : Int)) (h : ¬ x < y) (kf : Y p l e R s m args below meth cd D ad kI kS kL A nL cells slots Q (pc + 3) lv (st) μ) : Y p l e R s m args below meth cd D ad kI kS kL A nL cells slots Q pc lv (.int y :: .int x :: st) μ :=
  y_icmp_lt C tgt hdg ht (fun q => absurd q h) (fun _ => kf)
theorem y_if_ge (C : Cx p s m args meth cd cc nL ret own D ad kI kS kL A) {x : Int32} {off : Int} (tgt : Nat) (hdg : decode cc pc = .ok (.ifCond .ge off, 3)) (ht : (pc : Int) + off = (tgt : Int)) (kt : 0 ≤ x → Y p l e R s m args below meth cd D ad kI kS kL A nL cells slots Q tgt lv (st) μ) (kf : ¬ 0 ≤ x → Y p l e R s m args below meth cd D ad kI kS kL A nL cells slots Q (pc + 3) lv (st) μ) : Y p l e R s m args below meth cd D ad kI kS kL A nL cells slots Q pc lv (.int x :: st) μ :=
  fun H locs ls hP hS hl => lv_if_ge C.1.1 C.1.2.1 hdg ht (fun h => kt h H locs ls hP hS hl) (fun h => kf h H locs ls hP hS hl)
theorem y_if_geT (C : Cx p s m args meth cd cc nL ret own D ad kI kS kL A) {x : Int32} {off : Int} (tgt : Nat) (hdg : decode cc pc = .ok (.ifCond .ge off, 3)) (ht : (pc : Int) + off = (tgt : Int)) (h : 0 ≤ x) (kt : Y p l e R s m args below meth cd D ad kI kS kL A nL cells slots Q tgt lv (st) μ) : Y p l e R s m args below meth cd D ad kI kS kL A nL cells slots Q pc lv (.int x :: st) μ :=
  y_if_ge C tgt hdg ht (fun _ => kt) (fun q => absurd h q)
theorem y_if_geF (C : Cx p s m args meth cd cc nL ret own D ad kI kS kL A) {x : Int32} {off : Int} (tgt : Nat) (hdg : decode cc pc = .ok (.ifCond .ge off, 3)) (ht : (pc : Int) + off = (tgt : Int)) (h : ¬ 0 ≤ x) (kf : Y p l e R s m args below meth cd D ad kI kS kL A nL cells slots Q (pc + 3) lv (st) μ) : Y p l e R s m args below meth cd D ad kI kS kL A nL cells slots Q pc lv (.int x :: st) μ :=
  y_if_ge C tgt hdg ht (fun q => absurd q h) (fun _ => kf)
theorem y_icmp_ge (C : Cx p s m args meth cd cc nL ret own D ad kI kS kL A) {x y : Int32} {off : Int} (tgt : Nat) (hdg : decode cc pc = .ok (.if_icmp .ge off, 3)) (ht : (pc : Int) + off = (tgt : Int)) (kt : y ≤ x → Y p l e R s m args below meth cd D ad kI kS kL A nL cells slots Q tgt lv (st) μ) (kf : ¬ y ≤ x → Y p l e R s m args below meth cd D ad kI kS kL A nL cells slots Q (pc + 3) lv (st) μ) : Y p l e R s m args below meth cd D ad kI kS kL A nL cells slots Q pc lv (.int y :: .int x :: st) μ :=
  fun H locs ls hP hS hl => lv_icmp_ge C.1.1 C.1.2.1 hdg ht (fun h => kt h H locs ls hP hS hl) (fun h => kf h H locs ls hP hS hl)
theorem y_icmp_geT (C : Cx p s m args meth cd cc nL ret own D ad kI kS kL A) {x y : Int32} {off : Int} (tgt : Nat) (hdg : decode cc pc = .ok (.if_icmp .ge off, 3)) (ht : (pc : Int) + off = (tgt : Int)) (h : y ≤ x) (kt : Y p l e R s m args below meth cd D ad kI kS kL A nL cells slots Q tgt lv (st) μ) : Y p l e R s m args below meth cd D ad kI kS kL A nL cells slots Q pc lv (.int y :: .int x :: st) μ :=
  y_icmp_ge C tgt hdg ht (fun _ => kt) (fun q => absurd h q)
theorem y_icmp_geF (C : Cx p s m args meth cd cc nL ret own D ad kI kS kL A) {x y : Int32} {off : Int} (tgt : Nat) (hdg : decode cc pc = .ok (.if_icmp .ge off, 3)) (ht : (pc : Int) + off = (tgt : Int)) (h : ¬ y ≤ x) (kf : Y p l e R s m args below meth cd D ad kI kS kL A nL cells slots Q (pc + 3) lv (st) μ) : Y p l e R s m args below meth cd D ad kI kS kL A nL cells slots Q pc lv (.int y :: .int x :: st) μ :=
  y_icmp_ge C tgt hdg ht (fun q => absurd q h) (fun _ => kf)
theorem y_if_gt (C : Cx p s m args meth cd cc nL ret own D ad kI kS kL A) {x : Int32} {off : Int} (tgt : Nat) (hdg : decode cc pc = .ok (.ifCond .gt off, 3)) (ht : (pc : Int) + off = (tgt : Int)) (kt : 0 < x → Y p l e R s m args below meth cd D ad kI kS kL A nL cells slots Q tgt lv (st) μ) (kf : ¬ 0 < x → Y p l e R s m args below meth cd D ad kI kS kL A nL cells slots Q (pc + 3) lv (st) μ) : Y p l e R s m args below meth cd D ad kI kS kL A nL cells slots Q pc lv (.int x :: st) μ :=
  fun H locs ls hP hS hl => lv_if_gt C.1.1 C.1.2.1 hdg ht (fun h => kt h H locs ls hP hS hl) (fun h => kf h H locs ls hP hS hl)
theorem y_if_gtT (C : Cx p s m args meth cd cc nL ret own D ad kI kS kL A) {x : Int32} {off : Int} (tgt : Nat) (hdg : decode cc pc = .ok (.ifCond .gt off, 3)) (ht : (pc : Int) + off = (tgt : Int)) (h : 0 < x) (kt : Y p l e R s m args below meth cd D ad kI kS kL A nL cells slots Q tgt lv (st) μ) : Y p l e R s m args below meth cd D ad kI kS kL A nL cells slots Q pc lv (.int x :: st) μ :=
  y_if_gt C tgt hdg ht (fun _ => kt) (fun q => absurd h q)
theorem y_if_gtF (C : Cx p s m args meth cd cc nL ret own D ad kI kS kL A) {x : Int32} {off : Int} (tgt : Nat) (hdg : decode cc pc = .ok (.ifCond .gt off, 3)) (ht : (pc : Int) + off = (tgt : Int)) (h : ¬ 0 < x) (kf : Y p l e R s m args below meth cd D ad kI kS kL A nL cells slots Q (pc + 3) lv (st) μ) : Y p l e R s m args below meth cd D ad kI kS kL A nL cells slots Q pc lv (.int x :: st) μ :=
  y_if_gt C tgt hdg ht (fun q => absurd q h) (fun _ => kf)
theorem y_icmp_gt (C : Cx p s m args meth cd cc nL ret own D ad kI kS kL A) {x y : Int32} {off : Int} (tgt : Nat) (hdg : decode cc pc = .ok (.if_icmp .gt off, 3)) (ht : (pc : Int) + off = (tgt : Int)) (kt : y < x → Y p l e R s m args below meth cd D ad kI kS kL A nL cells slots Q tgt lv (st) μ) (kf : ¬ y < x → Y p l e R s m args below meth cd D ad kI kS kL A nL cells slots Q (pc + 3) lv (st) μ) : Y p l e R s m args below meth cd D ad kI kS kL A nL cells slots Q pc lv (.int y :: .int x :: st) μ :=
  fun H locs ls hP hS hl => lv_icmp_gt C.1.1 C.1.2.1 hdg ht (fun h => kt h H locs ls hP hS hl) (fun h => kf h H locs ls hP hS hl)
theorem y_icmp_gtT (C : Cx p s m args meth cd cc nL ret own D ad kI kS kL A) {x y : Int32} {off : Int} (tgt : Nat) (hdg : decode cc pc = .ok (.if_icmp .gt off, 3)) (ht : (pc : Int) + off = (tgt : Int)) (h : y < x) (kt : Y p l e R s m args below meth cd D ad kI kS kL A nL cells slots Q tgt lv (st) μ) : Y p l e R s m args below meth cd D ad kI kS kL A nL cells slots Q pc lv (.int y :: .int x :: st) μ :=
  y_icmp_gt C tgt hdg ht (fun _ => kt) (fun q => absurd h q)
theorem y_icmp_gtF (C : Cx p s m args meth cd cc nL ret own D ad kI kS kL A) {x y : Int32} {off : Int} (tgt : Nat) (hdg : decode cc pc = .ok (.if_icmp .gt off, 3)) (ht : (pc : Int) + off = (tgt : Int)) (h : ¬ y < x) (kf : Y p l e R s m args below meth cd D ad kI kS kL A nL cells slots Q (pc + 3) lv (st) μ) : Y p l e R s m args below meth cd D ad kI kS kL A nL cells slots Q pc lv (.int y :: .int x :: st) μ :=
  y_icmp_gt C tgt hdg ht (fun q => absurd q h) (fun _ => kf)
theorem y_if_le (C : Cx p s m args meth cd cc nL ret own D ad kI kS kL A) {x : Int32} {off : Int} (tgt : Nat) (hdg : decode cc pc = .ok (.ifCond .le off, 3)) (ht : (pc : Int) + off = (tgt : Int)) (kt : x ≤ 0 → Y p l e R s m args below meth cd D ad kI kS kL A nL cells slots Q tgt lv (st) μ) (kf : ¬ x ≤ 0 → Y p l e R s m args below meth cd D ad kI kS kL A nL cells slots Q (pc + 3) lv (st) μ) : Y p l e R s m args below meth cd D ad kI kS kL A nL cells slots Q pc lv (.int x :: st) μ :=
  fun H locs ls hP hS hl => lv_if_le C.1.1 C.1.2.1 hdg ht (fun h => kt h H locs ls hP hS hl) (fun h => kf h H locs ls hP hS hl)
theorem y_if_leT (C : Cx p s m args meth cd cc nL ret own D ad kI kS kL A) {x : Int32} {off : Int} (tgt : Nat) (hdg : decode cc pc = .ok (.ifCond .le off, 3)) (ht : (pc : Int) + off = (tgt : Int)) (h : x ≤ 0) (kt : Y p l e R s m args below meth cd D ad kI kS kL A nL cells slots Q tgt lv (st) μ) : Y p l e R s m args below meth cd D ad kI kS kL A nL cells slots Q pc lv (.int x :: st) μ :=
  y_if_le C tgt hdg ht (fun _ => kt) (fun q => absurd h q)
theorem y_if_leF (C : Cx p s m args meth cd cc nL ret own D ad kI kS kL A) {x : Int32} {off : Int} (tgt : Nat) (hdg : decode cc pc = .ok (.ifCond .le off, 3)) (ht : (pc : Int) + off = (tgt : Int)) (h : ¬ x ≤ 0) (kf : Y p l e R s m args below meth cd D ad kI kS kL A nL cells slots Q (pc + 3) lv (st) μ) : Y p l e R s m args below meth cd D ad kI kS kL A nL cells slots Q pc lv (.int x :: st) μ :=
  y_if_le C tgt hdg ht (fun q => absurd q h) (fun _ => kf)
theorem y_icmp_le (C : Cx p s m args meth cd cc nL ret own D ad kI kS kL A) {x y : Int32} {off : Int} (tgt : Nat) (hdg : decode cc pc = .ok (.if_icmp .le off, 3)) (ht : (pc : Int) + off = (tgt : Int)) (kt : x ≤ y → Y p l e R s m args below meth cd D ad kI kS kL A nL cells slots Q tgt lv (st) μ) (kf : ¬ x ≤ y → Y p l e R s m args below meth cd D ad kI kS kL A nL cells slots Q (pc + 3) lv (st) μ) : Y p l e R s m args below meth cd D ad kI kS kL A nL cells slots Q pc lv (.int y :: .int x :: st) μ :=
  fun H locs ls hP hS hl => lv_icmp_le C.1.1 C.1.2.1 hdg ht (fun h => kt h H locs ls hP hS hl) (fun h => kf h H locs ls hP hS hl)
theorem y_icmp_leT (C : Cx p s m args meth cd cc nL ret own D ad kI kS kL A) {x y : Int32} {off : Int} (tgt : Nat) (hdg : decode cc pc = .ok (.if_icmp .le off, 3)) (ht : (pc : Int) + off = (tgt : Int)) (h : x ≤ y) (kt : Y p l e R s m args below meth cd D ad kI kS kL A nL cells slots Q tgt lv (st) μ) : Y p l e R s m args below meth cd D ad kI kS kL A nL cells slots Q pc lv (.int y :: .int x :: st) μ :=
  y_icmp_le C tgt hdg ht (fun _ => kt) (fun q => absurd h q)
theorem y_icmp_leF (C : Cx p s m args meth cd cc nL ret own D ad kI kS kL A) {x y : Int32} {off : Int} (tgt : Nat) (hdg : decode cc pc = .ok (.if_icmp .le off, 3)) (ht : (pc : Int) + off = (tgt : Int)) (h : ¬ x ≤ y) (kf : Y p l e R s m args below meth cd D ad kI kS kL A nL cells slots Q (pc + 3) lv (st) μ) : Y p l e R s m args below meth cd D ad kI kS kL A nL cells slots Q pc lv (.int y :: .int x :: st) μ :=
  y_icmp_le C tgt hdg ht (fun q => absurd q h) (fun _ => kf)
theorem y_ifnonnull (C : Cx p s m args meth cd cc nL ret own D ad kI kS kL A) {x : Nat} {off : Int} (tgt : Nat) (hdg : decode cc pc = .ok (.ifnonnull off, 3)) (ht : (pc : Int) + off = (tgt : Int)) (k : Y p l e R s m args below meth cd D ad kI kS kL A nL cells slots Q tgt lv (st) μ) : Y p l e R s m args below meth cd D ad kI kS kL A nL cells slots Q pc lv (.ref x :: st) μ :=
  fun H locs ls hP hS hl => lv_ifnonnull C.1.1 C.1.2.1 hdg ht (k H locs ls hP hS hl)
theorem y_ifnull (C : Cx p s m args meth cd cc nL ret own D ad kI kS kL A) {x : Nat} {off : Int} (tgt : Nat) (hdg : decode cc pc = .ok (.ifnull off, 3)) (ht : (pc : Int) + off = (tgt : Int)) (k : Y p l e R s m args below meth cd D ad kI kS kL A nL cells slots Q (pc + 3) lv (st) μ) : Y p l e R s m args below meth cd D ad kI kS kL A nL cells slots Q pc lv (.ref x :: st) μ :=
  fun H locs ls hP hS hl => lv_ifnull C.1.1 C.1.2.1 hdg  (k H locs ls hP hS hl)
theorem y_ifnullN (C : Cx p s m args meth cd cc nL ret own D ad kI kS kL A)  {off : Int} (tgt : Nat) (hdg : decode cc pc = .ok (.ifnull off, 3)) (ht : (pc : Int) + off = (tgt : Int)) (k : Y p l e R s m args below meth cd D ad kI kS kL A nL cells slots Q tgt lv (st) μ) : Y p l e R s m args below meth cd D ad kI kS kL A nL cells slots Q pc lv (.null :: st) μ :=
  fun H locs ls hP hS hl => lv_ifnullN C.1.1 C.1.2.1 hdg ht (k H locs ls hP hS hl)
theorem y_ifnonnullN (C : Cx p s m args meth cd cc nL ret own D ad kI kS kL A)  {off : Int} (tgt : Nat) (hdg : decode cc pc = .ok (.ifnonnull off, 3)) (ht : (pc : Int) + off = (tgt : Int)) (k : Y p l e R s m args below meth cd D ad kI kS kL A nL cells slots Q (pc + 3) lv (st) μ) : Y p l e R s m args below meth cd D ad kI kS kL A nL cells slots Q pc lv (.null :: st) μ :=
  fun H locs ls hP hS hl => lv_ifnonnullN C.1.1 C.1.2.1 hdg  (k H locs ls hP hS hl)
theorem y_lookup (C : Cx p s m args meth cd cc nL ret own D ad kI kS kL A) {dflt : Int} {ps : Array (Int × Int)} {len : Nat} {x : Int32} {off : Int} (tgt : Nat) (hdg : decode cc pc = .ok (.lookupswitch dflt ps, len)) (hp : (ps.toList.zip (ps.toList.drop 1)).all (fun (a, next) => a.1 < next.1) = true) (ho : Op.lookupswitch.offset ps.toList dflt x.toInt = off) (ht : (pc : Int) + off = (tgt : Int)) (k : Y p l e R s m args below meth cd D ad kI kS kL A nL cells slots Q tgt lv (st) μ) : Y p l e R s m args below meth cd D ad kI kS kL A nL cells slots Q pc lv (.int x :: st) μ :=
  fun H locs ls hP hS hl => lv_lookup C.1.1 C.1.2.1 hdg hp ho ht (k H locs ls hP hS hl)
theorem y_tableOut (C : Cx p s m args meth cd cc nL ret own D ad kI kS kL A) {dflt lo hi : Int} {offs : Array Int} {len : Nat} {x : Int32} (tgt : Nat) (hdg : decode cc pc = .ok (.tableswitch dflt lo hi offs, len)) (h : x.toInt < lo ∨ hi < x.toInt) (ht : (pc : Int) + dflt = (tgt : Int)) (k : Y p l e R s m args below meth cd D ad kI kS kL A nL cells slots Q tgt lv (st) μ) : Y p l e R s m args below meth cd D ad kI kS kL A nL cells slots Q pc lv (.int x :: st) μ :=
  fun H locs ls hP hS hl => lv_tableOut C.1.1 C.1.2.1 hdg h ht (k H locs ls hP hS hl)
theorem y_tableIn (C : Cx p s m args meth cd cc nL ret own D ad kI kS kL A) {dflt lo hi : Int} {offs : Array Int} {len : Nat} {x : Int32} {off : Int} (tgt : Nat) (hdg : decode cc pc = .ok (.tableswitch dflt lo hi offs, len)) (h1 : ¬ x.toInt < lo) (h2 : ¬ hi < x.toInt) (ho : offs[(x.toInt - lo).toNat]? = some off) (ht : (pc : Int) + off = (tgt : Int)) (k : Y p l e R s m args below meth cd D ad kI kS kL A nL cells slots Q tgt lv (st) μ) : Y p l e R s m args below meth cd D ad kI kS kL A nL cells slots Q pc lv (.int x :: st) μ :=
  fun H locs ls hP hS hl => lv_tableIn C.1.1 C.1.2.1 hdg h1 h2 ho ht (k H locs ls hP hS hl)
theorem y_geti (C : Cx p s m args meth cd cc nL ret own D ad kI kS kL A) {idx ci k c : Nat} {v : Int32} (g : GL own idx ci k) (ho : isO ci c) (hf : (fl ad ci c (μ c))[k]? = some (.int (μ c k))) (hv : μ c k = v) (hdg : decode cc pc = .ok (.getfield idx, 3)) (kk : Y p l e R s m args below meth cd D ad kI kS kL A nL cells slots Q (pc + 3) lv (.int v :: st) μ) : Y p l e R s m args below meth cd D ad kI kS kL A nL cells slots Q pc lv (.ref (ad c) :: st) μ := by
  subst hv
  obtain ⟨Cn, T, N, h1, h2, h3, h4, h5⟩ := g
  exact fun H locs ls hP hS hl => va_get C.1.1 C.1.2.1 C.1.2.2.2.2 h2 C.1.2.2.2.1 C.2.1 hP c (by rw [xW_get (by omega), xe_O ho]) h3 k h4 (C.1.2.2.2.2 _ h1) (fun x => h5 (s := s) x) hf hdg (kk H locs ls hP hS hl)
theorem y_getr (C : Cx p s m args meth cd cc nL ret own D ad kI kS kL A) {idx ci k c d : Nat} (g : GL own idx ci k) (ho : isO ci c) (hf : (fl ad ci c (μ c))[k]? = some (.ref (ad d))) (hdg : decode cc pc = .ok (.getfield idx, 3)) (kk : Y p l e R s m args below meth cd D ad kI kS kL A nL cells slots Q (pc + 3) lv (.ref (ad d) :: st) μ) : Y p l e R s m args below meth cd D ad kI kS kL A nL cells slots Q pc lv (.ref (ad c) :: st) μ := by
  obtain ⟨Cn, T, N, h1, h2, h3, h4, h5⟩ := g
  exact fun H locs ls hP hS hl => va_get C.1.1 C.1.2.1 C.1.2.2.2.2 h2 C.1.2.2.2.1 C.2.1 hP c (by rw [xW_get (by omega), xe_O ho]) h3 k h4 (C.1.2.2.2.2 _ h1) (fun x => h5 (s := s) x) hf hdg (kk H locs ls hP hS hl)
theorem y_puti (C : Cx p s m args meth cd cc nL ret own D ad kI kS kL A) {idx ci k c : Nat} {v : Int32} (g : PL own idx ci k) (ho : isO ci c) (hf : (fl ad ci c (μ c)).set k (.int v) = fl ad ci c (upd (μ c) k v)) (hk : k < (fl ad ci c (μ c)).length) (hdg : decode cc pc = .ok (.putfield idx, 3)) (kk : Y p l e R s m args below meth cd D ad kI kS kL A nL cells slots Q (pc + 3) lv (st) (mu μ c k v)) : Y p l e R s m args below meth cd D ad kI kS kL A nL cells slots Q pc lv (.int v :: .ref (ad c) :: st) μ := by
  obtain ⟨Cn, T, N, t0, h1, h2, h3, h4, h5, h6, h7, h8, h9⟩ := g
  intro H locs ls hP hS hl
  have hD : va_D A (xW ad kI kS kL μ) := xW_D C.2.2.1 C.2.2.2.1
  refine va_put C.1.1 C.1.2.1 C.1.2.2.2.2 h2 t0 h6 h7 C.1.2.2.2.1 C.2.1 hP hD hS c (by rw [xW_get (by omega), xe_O ho]) h3 k h4 (C.1.2.2.2.2 _ h1) (fun x => h5 (s := s) x) h8 h9 rfl rfl hk hdg (fun H1 locs1 hP1 _ hS1 => kk H1 locs1 ls ?_ hS1 hl)
  rw [hf, ← xe_O (kI := kI) (kS := kS) (kL := kL) ho, xW_set (by omega)] at hP1
  exact hP1
theorem y_iald (C : Cx p s m args meth cd cc nL ret own D ad kI kS kL A) {c n : Nat} {i v : Int32} (ha : isA c) (hn : alen c = n) (hi : vp_in i n) (hv : μ c i.toNatClampNeg = v) (hdg : decode cc pc = .ok (.iaload, 1)) (kk : Y p l e R s m args below meth cd D ad kI kS kL A nL cells slots Q (pc + 1) lv (.int v :: st) μ) : Y p l e R s m args below meth cd D ad kI kS kL A nL cells slots Q pc lv (.int i :: .ref (ad c) :: st) μ := by
  subst hv; subst hn
  exact fun H locs ls hP hS hl => va_iald C.1.1 C.1.2.1 C.2.1 hP c 0 (by rw [xW_get (by omega), xe_A ha]) rfl hi hdg (kk H locs ls hP hS hl)
theorem y_ialdN (C : Cx p s m args meth cd cc nL ret own D ad kI kS kL A) {c n j : Nat} {v : Int32} (ha : isA c) (hn : alen c = n) (hj : j < n) (hs : n < 1000) (hv : μ c j = v) (hdg : decode cc pc = .ok (.iaload, 1)) (kk : Y p l e R s m args below meth cd D ad kI kS kL A nL cells slots Q (pc + 1) lv (.int v :: st) μ) : Y p l e R s m args below meth cd D ad kI kS kL A nL cells slots Q pc lv (.int (nI j) :: .ref (ad c) :: st) μ :=
  y_iald C ha hn (vp_in_nI hj (by omega)) (by rw [nI_clamp (by omega)]; exact hv) hdg kk
theorem y_iast (C : Cx p s m args meth cd cc nL ret own D ad kI kS kL A) {c n : Nat} {i v : Int32} (ha : isA c) (hn : alen c = n) (hi : vp_in i n) (hdg : decode cc pc = .ok (.iastore, 1)) (kk : Y p l e R s m args below meth cd D ad kI kS kL A nL cells slots Q (pc + 1) lv (st) (mu μ c i.toNatClampNeg v)) : Y p l e R s m args below meth cd D ad kI kS kL A nL cells slots Q pc lv (.int v :: .int i :: .ref (ad c) :: st) μ := by
  subst hn
  intro H locs ls hP hS hl
  have hD : va_D A (xW ad kI kS kL μ) := xW_D C.2.2.1 C.2.2.2.1
  refine va_iast C.1.1 C.1.2.1 C.2.1 hP hD hS c 0 (by rw [xW_get (by omega), xe_A ha]) rfl hi hdg (fun H1 locs1 hP1 _ hS1 => kk H1 locs1 ls ?_ hS1 hl)
  rw [← xe_A (kI := kI) (kS := kS) (kL := kL) ha, xW_set (by omega)] at hP1
  exact hP1
theorem y_iastN (C : Cx p s m args meth cd cc nL ret own D ad kI kS kL A) {c n j : Nat} {v : Int32} (ha : isA c) (hn : alen c = n) (hj : j < n) (hs : n < 1000) (hdg : decode cc pc = .ok (.iastore, 1)) (kk : Y p l e R s m args below meth cd D ad kI kS kL A nL cells slots Q (pc + 1) lv (st) (mu μ c j v)) : Y p l e R s m args below meth cd D ad kI kS kL A nL cells slots Q pc lv (.int v :: .int (nI j) :: .ref (ad c) :: st) μ :=
  y_iast C ha hn (vp_in_nI hj (by omega)) hdg (by rw [nI_clamp (by omega)]; exact kk)
theorem y_alen (C : Cx p s m args meth cd cc nL ret own D ad kI kS kL A) {c n : Nat} (ha : isA c) (hn : alen c = n) (hdg : decode cc pc = .ok (.arraylength, 1)) (kk : Y p l e R s m args below meth cd D ad kI kS kL A nL cells slots Q (pc + 1) lv (.int (nI n) :: st) μ) : Y p l e R s m args below meth cd D ad kI kS kL A nL cells slots Q pc lv (.ref (ad c) :: st) μ := by
  subst hn
  exact fun H locs ls hP hS hl => va_alen (x := (alen c, .inl (μ c))) C.1.1 C.1.2.1 C.2.1 hP c 0 (by rw [xW_get (by omega), xe_A ha]) rfl rfl hdg (kk H locs ls hP hS hl)
theorem y_alenS (C : Cx p s m args meth cd cc nL ret own D ad kI kS kL A) (hdg : decode cc pc = .ok (.arraylength, 1)) (kk : Y p l e R s m args below meth cd D ad kI kS kL A nL cells slots Q (pc + 1) lv (.int (nI 4) :: st) μ) : Y p l e R s m args below meth cd D ad kI kS kL A nL cells slots Q pc lv (.ref (ad 4) :: st) μ :=
  fun H locs ls hP hS hl => va_alen (x := (4, .inr (.inr (.inr (.inr (fun j => some (ad (14 + j)))))))) C.1.1 C.1.2.1 C.2.1 hP 4 1 (by rw [xW_get (by omega), xe_S]) rfl rfl hdg (kk H locs ls hP hS hl)
theorem y_alenL (C : Cx p s m args meth cd cc nL ret own D ad kI kS kL A) {c : Nat} (h : c = 5 ∨ c = 6) (hdg : decode cc pc = .ok (.arraylength, 1)) (kk : Y p l e R s m args below meth cd D ad kI kS kL A nL cells slots Q (pc + 1) lv (.int (nI 4) :: st) μ) : Y p l e R s m args below meth cd D ad kI kS kL A nL cells slots Q pc lv (.ref (ad c) :: st) μ :=
  fun H locs ls hP hS hl => va_alen (x := (4, .inr (.inr (.inr (.inr (fun j => some (ad (4 * (c - 4) + 18 + j)))))))) C.1.1 C.1.2.1 C.2.1 hP c 2 (by rw [xW_get (by omega), xe_L h]) rfl rfl hdg (kk H locs ls hP hS hl)
theorem y_aaldS (C : Cx p s m args meth cd cc nL ret own D ad kI kS kL A) {j : Nat} (hj : j < 4) (hdg : decode cc pc = .ok (.aaload, 1)) (kk : Y p l e R s m args below meth cd D ad kI kS kL A nL cells slots Q (pc + 1) lv (.ref (ad (14 + j)) :: st) μ) : Y p l e R s m args below meth cd D ad kI kS kL A nL cells slots Q pc lv (.int (nI j) :: .ref (ad 4) :: st) μ :=
  fun H locs ls hP hS hl => va_aldq C.1.1 C.1.2.1 C.2.1 hP 4 1 (by rw [xW_get (by omega), xe_S]) rfl (vp_in_nI hj (by omega)) hdg (by rw [nI_clamp (by omega)]; exact kk H locs ls hP hS hl)
theorem y_aaldL (C : Cx p s m args meth cd cc nL ret own D ad kI kS kL A) {c j : Nat} (h : c = 5 ∨ c = 6) (hj : j < 4) (hdg : decode cc pc = .ok (.aaload, 1)) (kk : Y p l e R s m args below meth cd D ad kI kS kL A nL cells slots Q (pc + 1) lv (.ref (ad (4 * (c - 4) + 18 + j)) :: st) μ) : Y p l e R s m args below meth cd D ad kI kS kL A nL cells slots Q pc lv (.int (nI j) :: .ref (ad c) :: st) μ :=
  fun H locs ls hP hS hl => va_aldq C.1.1 C.1.2.1 C.2.1 hP c 2 (by rw [xW_get (by omega), xe_L h]) rfl (vp_in_nI hj (by omega)) hdg (by rw [nI_clamp (by omega)]; exact kk H locs ls hP hS hl)
theorem y_iret (C : Cx p s m args meth cd cc nL (some .int) own D ad kI kS kL A) {post : Int32 → Mem → Prop} {v : Int32} (hdg : decode cc pc = .ok (.ireturn, 1)) (h : post v μ) : Y p l e R s m args below meth cd D ad kI kS kL A nL cells slots (MQ below (va_Qi post (mB D ad kI kS kL) A) args s cells slots A) pc lv ([.int v]) μ :=
  fun H locs ls hP hS hl => W.iret (v := v) C.1.1 C.1.2.1 C.2.2.2.2.2.2.1 (fun t ht hW => ⟨⟨v, μ, rfl, h, by unfold mB; rw [ht]; exact hP⟩, hS.F ht⟩) hS.2.2 hdg C.2.2.2.2.2.2.2
theorem y_zret (C : Cx p s m args meth cd cc nL (some .boolean) own D ad kI kS kL A) {post : Int32 → Mem → Prop} {v : Int32} (hdg : decode cc pc = .ok (.ireturn, 1)) (hn : narrow .boolean (.int v) = .int v) (h : post v μ) : Y p l e R s m args below meth cd D ad kI kS kL A nL cells slots (MQ below (va_Qi post (mB D ad kI kS kL) A) args s cells slots A) pc lv ([.int v]) μ :=
  fun H locs ls hP hS hl => W.zret (v := v) C.1.1 C.1.2.1 C.2.2.2.2.2.2.1 hn (fun t ht hW => ⟨⟨v, μ, rfl, h, by unfold mB; rw [ht]; exact hP⟩, hS.F ht⟩) hS.2.2 hdg C.2.2.2.2.2.2.2
theorem y_lret (C : Cx p s m args meth cd cc nL (some .long) own D ad kI kS kL A) {post : Int64 → Mem → Prop} {v : Int64} (hdg : decode cc pc = .ok (.lreturn, 1)) (h : post v μ) : Y p l e R s m args below meth cd D ad kI kS kL A nL cells slots (MQ below (va_Ql post (mB D ad kI kS kL) A) args s cells slots A) pc lv ([.long v]) μ :=
  fun H locs ls hP hS hl => W.lret (v := v) C.1.1 C.1.2.1 C.2.2.2.2.2.2.1 (fun t ht hW => ⟨⟨v, μ, rfl, h, by unfold mB; rw [ht]; exact hP⟩, hS.F ht⟩) hS.2.2 hdg C.2.2.2.2.2.2.2
theorem y_vret (C : Cx p s m args meth cd cc nL none own D ad kI kS kL A) {post : Mem → Prop} (hdg : decode cc pc = .ok (.return_, 1)) (h : post μ) : Y p l e R s m args below meth cd D ad kI kS kL A nL cells slots (MQ below (va_Qv post (mB D ad kI kS kL) A) args s cells slots A) pc lv ([]) μ :=
  fun H locs ls hP hS hl => W.vret C.1.1 C.1.2.1 C.2.2.2.2.2.2.1 (fun t ht hW => ⟨⟨μ, rfl, h, by unfold mB; rw [ht]; exact hP⟩, hS.F ht⟩) hS.2.2 hdg C.2.2.2.2.2.2.2
theorem y_aret {Cn : String} (C : Cx p s m args meth cd cc nL (some (.object Cn)) own D ad kI kS kL A) {post : Option Nat → Mem → Prop} {a : Nat} (hdg : decode cc pc = .ok (.areturn, 1)) (h : post (some a) μ) : Y p l e R s m args below meth cd D ad kI kS kL A nL cells slots (MQ below (va_Qq post (mB D ad kI kS kL) A) args s cells slots A) pc lv ([.ref a]) μ :=
  fun H locs ls hP hS hl => W.aret (v := .ref a) C.1.1 C.1.2.1 C.2.2.2.2.2.2.1 (Or.inl ⟨_, rfl⟩) (Or.inr ⟨_, rfl⟩) (fun t ht hW => ⟨⟨some a, μ, rfl, h, by unfold mB; rw [ht]; exact hP⟩, hS.F ht⟩) hS.2.2 hdg C.2.2.2.2.2.2.2
theorem y_aretN {Cn : String} (C : Cx p s m args meth cd cc nL (some (.object Cn)) own D ad kI kS kL A) {post : Option Nat → Mem → Prop} (hdg : decode cc pc = .ok (.areturn, 1)) (h : post none μ) : Y p l e R s m args below meth cd D ad kI kS kL A nL cells slots (MQ below (va_Qq post (mB D ad kI kS kL) A) args s cells slots A) pc lv ([.null]) μ :=
  fun H locs ls hP hS hl => W.aret (v := .null) C.1.1 C.1.2.1 C.2.2.2.2.2.2.1 (Or.inl ⟨_, rfl⟩) (Or.inl rfl) (fun t ht hW => ⟨⟨none, μ, rfl, h, by unfold mB; rw [ht]; exact hP⟩, hS.F ht⟩) hS.2.2 hdg C.2.2.2.2.2.2.2
theorem y_callVI (C : Cx p s m args meth cd cc nL ret own D ad kI kS kL A) {y : MethodName} {bytes : ByteArray} {maxL n fr lo : Nat} {rt : Option FieldType} {As : List Value} {post : Int32 → Mem → Prop} {idx ci c : Nat} {Cn : String} {T : u_T} {N : Nat} (g : CLV own idx y bytes maxL rt n) (hM : MI l D ad kI kS kL y bytes maxL rt fr lo (.ref (ad c) :: As) μ post) (ho : isO ci c) (hcl : vwCl[ci]? = some (y.cls, T, N)) (hn : As.length = n) {st0 : List Value} (hst : st0 = As.reverse ++ .ref (ad c) :: st) (hcat : (st.map fun v => v.category).sum ≤ 8) (hR : fr + 1 ≤ R.frames ∧ 8 + (maxL + 11) + lo ≤ R.locals) (hr0 : cells + 0 ≤ R.cells ∧ slots + 0 ≤ R.slots) (hdg : decode cc pc = .ok (.invokevirtual idx, 3)) (k : ∀ (r : Int32) (μ2 : Mem), post r μ2 → Y p l e R s m args below meth cd D ad kI kS kL A nL cells slots Q (pc + 3) lv (.int r :: st) μ2) : Y p l e R s m args below meth cd D ad kI kS kL A nL cells slots Q pc lv (st0) μ := by
  obtain ⟨g1, g2, g3, g4, g5, g6, g7, g8⟩ := g
  intro H locs ls hP hS hl
  have hA : ∀ q, Aad ad H.size q → A q := fun q h => by
    rcases h with ⟨c, h1, rfl⟩ | h
    · exact C.2.2.2.1 c h1
    · exact C.2.2.2.2.1 q (Nat.le_trans hS.1 h)
  have hpre : ∀ U : State, U.heap = H → s.WarmedH U.vm → va_Pc (.ref (ad c) :: As) (mS D ad kI kS kL μ H.size) (.ref (ad c) :: As).toArray U := fun U hU hW => ⟨rfl, by rw [hU], by rw [hU]; exact hP, va_K.moved hW.alike C.2.1, C.2.2.1, C.2.2.2.2.2.1.warm hW⟩
  refine va_calli (va_runV (As := As) (rest := st) C.1 (hM H.size) (⟨callB_of n C.1.2.2.2.2 (fun w hw => by
    rcases List.mem_cons.mp hw with rfl | hw
    · exact tb_good _ g5
    · exact tb_good w hw) rfl rfl rfl (C.1.2.2.2.2 _ g4) (C.1.2.2.2.2 _ g1) ⟨g6, g7, g8⟩ hR, C.1.2.2.2.2 _ g2, C.1.2.2.2.2 _ g3⟩ : CallW R s args own y.cls idx y bytes maxL rt (W0 y bytes maxL rt) (rmY fr lo) 0 0 n) ⟨mS_blind, va_recv (q0 := c) C.2.1 hP hcl (by rw [xW_get (c := c) (by omega), xe_O ho]), hpre⟩ rfl hn hl.1 hst (lv_room hcat) hdg hr0) hS (fun q _ h => hA q h) hA (fun r u t H1 locs1 ht hvm hw hB hz hk hS1 => k r u hw H1 locs1 ls ?_ hS1 hl)
  unfold mB at hB
  rw [ht] at hB
  exact hB
theorem y_callSI (C : Cx p s m args meth cd cc nL ret own D ad kI kS kL A) {y : MethodName} {bytes : ByteArray} {maxL n fr lo : Nat} {rt : Option FieldType} {As : List Value} {post : Int32 → Mem → Prop} {idx : Nat} (g : CLS own idx y bytes maxL rt n) (hM : MI l D ad kI kS kL y bytes maxL rt fr lo As μ post) (hn : As.length = n) {st0 : List Value} (hst : st0 = As.reverse ++ st) (hcat : (st.map fun v => v.category).sum ≤ 8) (hR : fr + 1 ≤ R.frames ∧ 8 + (maxL + 11) + lo ≤ R.locals) (hr0 : cells + 0 ≤ R.cells ∧ slots + 0 ≤ R.slots) (hdg : decode cc pc = .ok (.invokestatic idx, 3)) (k : ∀ (r : Int32) (μ2 : Mem), post r μ2 → Y p l e R s m args below meth cd D ad kI kS kL A nL cells slots Q (pc + 3) lv (.int r :: st) μ2) : Y p l e R s m args below meth cd D ad kI kS kL A nL cells slots Q pc lv (st0) μ := by
  obtain ⟨g1, g2, g4, g5, g6, g7, g8⟩ := g
  intro H locs ls hP hS hl
  have hA : ∀ q, Aad ad H.size q → A q := fun q h => by
    rcases h with ⟨c, h1, rfl⟩ | h
    · exact C.2.2.2.1 c h1
    · exact C.2.2.2.2.1 q (Nat.le_trans hS.1 h)
  have hpre : ∀ U : State, U.heap = H → s.WarmedH U.vm → va_Pc As (mS D ad kI kS kL μ H.size) (As).toArray U := fun U hU hW => ⟨rfl, by rw [hU], by rw [hU]; exact hP, va_K.moved hW.alike C.2.1, C.2.2.1, C.2.2.2.2.2.1.warm hW⟩
  refine va_calli (va_runS (As := As) (rest := st) C.1 (hM H.size) (⟨callB_of n C.1.2.2.2.2 (fun w hw => by
    rcases List.mem_cons.mp hw with rfl | hw
    · exact tb_good _ g5
    · exact tb_good w hw) rfl rfl rfl (C.1.2.2.2.2 _ g4) (C.1.2.2.2.2 _ g1) ⟨g6, g7, g8⟩ hR, C.1.2.2.2.2 _ g2⟩ : CallB R s args own idx y bytes maxL rt (W0 y bytes maxL rt) (rmY fr lo) 0 0 n ∧ (Cond.static y).before args s = true) ⟨mS_blind, hpre⟩ rfl hn hl.1 hst (lv_room hcat) hdg hr0) hS (fun q _ h => hA q h) hA (fun r u t H1 locs1 ht hvm hw hB hz hk hS1 => k r u hw H1 locs1 ls ?_ hS1 hl)
  unfold mB at hB
  rw [ht] at hB
  exact hB
theorem y_callTI (C : Cx p s m args meth cd cc nL ret own D ad kI kS kL A) {y : MethodName} {bytes : ByteArray} {maxL n fr lo : Nat} {rt : Option FieldType} {As : List Value} {post : Int32 → Mem → Prop} {idx : Nat} {host : String} (hNl : va_Nw (.methodLinkNest own idx y host) s) (g : CLT y bytes maxL rt n) (hM : MI l D ad kI kS kL y bytes maxL rt fr lo As μ post) (hn : As.length = n) {st0 : List Value} (hst : st0 = As.reverse ++ st) (hcat : (st.map fun v => v.category).sum ≤ 8) (hR : fr + 1 ≤ R.frames ∧ 8 + (maxL + 11) + lo ≤ R.locals) (hr0 : cells + 0 ≤ R.cells ∧ slots + 0 ≤ R.slots) (hdg : decode cc pc = .ok (.invokestatic idx, 3)) (k : ∀ (r : Int32) (μ2 : Mem), post r μ2 → Y p l e R s m args below meth cd D ad kI kS kL A nL cells slots Q (pc + 3) lv (.int r :: st) μ2) : Y p l e R s m args below meth cd D ad kI kS kL A nL cells slots Q pc lv (st0) μ := by
  obtain ⟨g2, g4, g5, g6, g7, g8⟩ := g
  intro H locs ls hP hS hl
  have hA : ∀ q, Aad ad H.size q → A q := fun q h => by
    rcases h with ⟨c, h1, rfl⟩ | h
    · exact C.2.2.2.1 c h1
    · exact C.2.2.2.2.1 q (Nat.le_trans hS.1 h)
  have hpre : ∀ U : State, U.heap = H → s.WarmedH U.vm → va_Pc As (mS D ad kI kS kL μ H.size) (As).toArray U := fun U hU hW => ⟨rfl, by rw [hU], by rw [hU]; exact hP, va_K.moved hW.alike C.2.1, C.2.2.1, C.2.2.2.2.2.1.warm hW⟩
  refine va_calli (va_runSN (As := As) (rest := st) C.1 (hM H.size) (⟨va_cnB n C.1.2.2.2.2 (fun w hw => by
    rcases List.mem_cons.mp hw with rfl | hw
    · exact tb_good _ g5
    · exact tb_good w hw) rfl rfl rfl hNl (C.1.2.2.2.2 _ g4) ⟨g6, g7, g8⟩ hR, C.1.2.2.2.2 _ g2, trivial⟩ : va_CN R s args own idx y host bytes maxL rt (W0 y bytes maxL rt) (rmY fr lo) 0 0 n ∧ (Cond.static y).before args s = true ∧ True) ⟨mS_blind, hpre⟩ rfl hn hl.1 hst (lv_room hcat) hdg hr0) hS (fun q _ h => hA q h) hA (fun r u t H1 locs1 ht hvm hw hB hz hk hS1 => k r u hw H1 locs1 ls ?_ hS1 hl)
  unfold mB at hB
  rw [ht] at hB
  exact hB
theorem y_callVL (C : Cx p s m args meth cd cc nL ret own D ad kI kS kL A) {y : MethodName} {bytes : ByteArray} {maxL n fr lo : Nat} {rt : Option FieldType} {As : List Value} {post : Int64 → Mem → Prop} {idx ci c : Nat} {Cn : String} {T : u_T} {N : Nat} (g : CLV own idx y bytes maxL rt n) (hM : ML l D ad kI kS kL y bytes maxL rt fr lo (.ref (ad c) :: As) μ post) (ho : isO ci c) (hcl : vwCl[ci]? = some (y.cls, T, N)) (hn : As.length = n) {st0 : List Value} (hst : st0 = As.reverse ++ .ref (ad c) :: st) (hcat : (st.map fun v => v.category).sum ≤ 8) (hR : fr + 1 ≤ R.frames ∧ 8 + (maxL + 11) + lo ≤ R.locals) (hr0 : cells + 0 ≤ R.cells ∧ slots + 0 ≤ R.slots) (hdg : decode cc pc = .ok (.invokevirtual idx, 3)) (k : ∀ (r : Int64) (μ2 : Mem), post r μ2 → Y p l e R s m args below meth cd D ad kI kS kL A nL cells slots Q (pc + 3) lv (.long r :: st) μ2) : Y p l e R s m args below meth cd D ad kI kS kL A nL cells slots Q pc lv (st0) μ := by
  obtain ⟨g1, g2, g3, g4, g5, g6, g7, g8⟩ := g
  intro H locs ls hP hS hl
  have hA : ∀ q, Aad ad H.size q → A q := fun q h => by
    rcases h with ⟨c, h1, rfl⟩ | h
    · exact C.2.2.2.1 c h1
    · exact C.2.2.2.2.1 q (Nat.le_trans hS.1 h)
  have hpre : ∀ U : State, U.heap = H → s.WarmedH U.vm → va_Pc (.ref (ad c) :: As) (mS D ad kI kS kL μ H.size) (.ref (ad c) :: As).toArray U := fun U hU hW => ⟨rfl, by rw [hU], by rw [hU]; exact hP, va_K.moved hW.alike C.2.1, C.2.2.1, C.2.2.2.2.2.1.warm hW⟩
  refine va_calll (va_runV (As := As) (rest := st) C.1 (hM H.size) (⟨callB_of n C.1.2.2.2.2 (fun w hw => by
    rcases List.mem_cons.mp hw with rfl | hw
    · exact tb_good _ g5
    · exact tb_good w hw) rfl rfl rfl (C.1.2.2.2.2 _ g4) (C.1.2.2.2.2 _ g1) ⟨g6, g7, g8⟩ hR, C.1.2.2.2.2 _ g2, C.1.2.2.2.2 _ g3⟩ : CallW R s args own y.cls idx y bytes maxL rt (W0 y bytes maxL rt) (rmY fr lo) 0 0 n) ⟨mS_blind, va_recv (q0 := c) C.2.1 hP hcl (by rw [xW_get (c := c) (by omega), xe_O ho]), hpre⟩ rfl hn hl.1 hst (lv_room hcat) hdg hr0) hS (fun q _ h => hA q h) hA (fun r u t H1 locs1 ht hvm hw hB hz hk hS1 => k r u hw H1 locs1 ls ?_ hS1 hl)
  unfold mB at hB
  rw [ht] at hB
  exact hB
theorem y_callSL (C : Cx p s m args meth cd cc nL ret own D ad kI kS kL A) {y : MethodName} {bytes : ByteArray} {maxL n fr lo : Nat} {rt : Option FieldType} {As : List Value} {post : Int64 → Mem → Prop} {idx : Nat} (g : CLS own idx y bytes maxL rt n) (hM : ML l D ad kI kS kL y bytes maxL rt fr lo As μ post) (hn : As.length = n) {st0 : List Value} (hst : st0 = As.reverse ++ st) (hcat : (st.map fun v => v.category).sum ≤ 8) (hR : fr + 1 ≤ R.frames ∧ 8 + (maxL + 11) + lo ≤ R.locals) (hr0 : cells + 0 ≤ R.cells ∧ slots + 0 ≤ R.slots) (hdg : decode cc pc = .ok (.invokestatic idx, 3)) (k : ∀ (r : Int64) (μ2 : Mem), post r μ2 → Y p l e R s m args below meth cd D ad kI kS kL A nL cells slots Q (pc + 3) lv (.long r :: st) μ2) : Y p l e R s m args below meth cd D ad kI kS kL A nL cells slots Q pc lv (st0) μ := by
  obtain ⟨g1, g2, g4, g5, g6, g7, g8⟩ := g
  intro H locs ls hP hS hl
  have hA : ∀ q, Aad ad H.size q → A q := fun q h => by
    rcases h with ⟨c, h1, rfl⟩ | h
    · exact C.2.2.2.1 c h1
    · exact C.2.2.2.2.1 q (Nat.le_trans hS.1 h)
  have hpre : ∀ U : State, U.heap = H → s.WarmedH U.vm → va_Pc As (mS D ad kI kS kL μ H.size) (As).toArray U := fun U hU hW => ⟨rfl, by rw [hU], by rw [hU]; exact hP, va_K.moved hW.alike C.2.1, C.2.2.1, C.2.2.2.2.2.1.warm hW⟩
  refine va_calll (va_runS (As := As) (rest := st) C.1 (hM H.size) (⟨callB_of n C.1.2.2.2.2 (fun w hw => by
    rcases List.mem_cons.mp hw with rfl | hw
    · exact tb_good _ g5
    · exact tb_good w hw) rfl rfl rfl (C.1.2.2.2.2 _ g4) (C.1.2.2.2.2 _ g1) ⟨g6, g7, g8⟩ hR, C.1.2.2.2.2 _ g2⟩ : CallB R s args own idx y bytes maxL rt (W0 y bytes maxL rt) (rmY fr lo) 0 0 n ∧ (Cond.static y).before args s = true) ⟨mS_blind, hpre⟩ rfl hn hl.1 hst (lv_room hcat) hdg hr0) hS (fun q _ h => hA q h) hA (fun r u t H1 locs1 ht hvm hw hB hz hk hS1 => k r u hw H1 locs1 ls ?_ hS1 hl)
  unfold mB at hB
  rw [ht] at hB
  exact hB
theorem y_callVV (C : Cx p s m args meth cd cc nL ret own D ad kI kS kL A) {y : MethodName} {bytes : ByteArray} {maxL n fr lo : Nat} {rt : Option FieldType} {As : List Value} {post : Mem → Prop} {idx ci c : Nat} {Cn : String} {T : u_T} {N : Nat} (g : CLV own idx y bytes maxL rt n) (hM : MV l D ad kI kS kL y bytes maxL rt fr lo (.ref (ad c) :: As) μ post) (ho : isO ci c) (hcl : vwCl[ci]? = some (y.cls, T, N)) (hn : As.length = n) {st0 : List Value} (hst : st0 = As.reverse ++ .ref (ad c) :: st) (hcat : (st.map fun v => v.category).sum ≤ 8) (hR : fr + 1 ≤ R.frames ∧ 8 + (maxL + 11) + lo ≤ R.locals) (hr0 : cells + 0 ≤ R.cells ∧ slots + 0 ≤ R.slots) (hdg : decode cc pc = .ok (.invokevirtual idx, 3)) (k : ∀ (μ2 : Mem), post μ2 → Y p l e R s m args below meth cd D ad kI kS kL A nL cells slots Q (pc + 3) lv (st) μ2) : Y p l e R s m args below meth cd D ad kI kS kL A nL cells slots Q pc lv (st0) μ := by
  obtain ⟨g1, g2, g3, g4, g5, g6, g7, g8⟩ := g
  intro H locs ls hP hS hl
  have hA : ∀ q, Aad ad H.size q → A q := fun q h => by
    rcases h with ⟨c, h1, rfl⟩ | h
    · exact C.2.2.2.1 c h1
    · exact C.2.2.2.2.1 q (Nat.le_trans hS.1 h)
  have hpre : ∀ U : State, U.heap = H → s.WarmedH U.vm → va_Pc (.ref (ad c) :: As) (mS D ad kI kS kL μ H.size) (.ref (ad c) :: As).toArray U := fun U hU hW => ⟨rfl, by rw [hU], by rw [hU]; exact hP, va_K.moved hW.alike C.2.1, C.2.2.1, C.2.2.2.2.2.1.warm hW⟩
  refine va_callv (va_runV (As := As) (rest := st) C.1 (hM H.size) (⟨callB_of n C.1.2.2.2.2 (fun w hw => by
    rcases List.mem_cons.mp hw with rfl | hw
    · exact tb_good _ g5
    · exact tb_good w hw) rfl rfl rfl (C.1.2.2.2.2 _ g4) (C.1.2.2.2.2 _ g1) ⟨g6, g7, g8⟩ hR, C.1.2.2.2.2 _ g2, C.1.2.2.2.2 _ g3⟩ : CallW R s args own y.cls idx y bytes maxL rt (W0 y bytes maxL rt) (rmY fr lo) 0 0 n) ⟨mS_blind, va_recv (q0 := c) C.2.1 hP hcl (by rw [xW_get (c := c) (by omega), xe_O ho]), hpre⟩ rfl hn hl.1 hst (lv_room hcat) hdg hr0) hS (fun q _ h => hA q h) hA (fun u t H1 locs1 ht hvm hw hB hz hk hS1 => k u hw H1 locs1 ls ?_ hS1 hl)
  unfold mB at hB
  rw [ht] at hB
  exact hB
theorem y_callSV (C : Cx p s m args meth cd cc nL ret own D ad kI kS kL A) {y : MethodName} {bytes : ByteArray} {maxL n fr lo : Nat} {rt : Option FieldType} {As : List Value} {post : Mem → Prop} {idx : Nat} (g : CLS own idx y bytes maxL rt n) (hM : MV l D ad kI kS kL y bytes maxL rt fr lo As μ post) (hn : As.length = n) {st0 : List Value} (hst : st0 = As.reverse ++ st) (hcat : (st.map fun v => v.category).sum ≤ 8) (hR : fr + 1 ≤ R.frames ∧ 8 + (maxL + 11) + lo ≤ R.locals) (hr0 : cells + 0 ≤ R.cells ∧ slots + 0 ≤ R.slots) (hdg : decode cc pc = .ok (.invokestatic idx, 3)) (k : ∀ (μ2 : Mem), post μ2 → Y p l e R s m args below meth cd D ad kI kS kL A nL cells slots Q (pc + 3) lv (st) μ2) : Y p l e R s m args below meth cd D ad kI kS kL A nL cells slots Q pc lv (st0) μ := by
  obtain ⟨g1, g2, g4, g5, g6, g7, g8⟩ := g
  intro H locs ls hP hS hl
  have hA : ∀ q, Aad ad H.size q → A q := fun q h => by
    rcases h with ⟨c, h1, rfl⟩ | h
    · exact C.2.2.2.1 c h1
    · exact C.2.2.2.2.1 q (Nat.le_trans hS.1 h)
  have hpre : ∀ U : State, U.heap = H → s.WarmedH U.vm → va_Pc As (mS D ad kI kS kL μ H.size) (As).toArray U := fun U hU hW => ⟨rfl, by rw [hU], by rw [hU]; exact hP, va_K.moved hW.alike C.2.1, C.2.2.1, C.2.2.2.2.2.1.warm hW⟩
  refine va_callv (va_runS (As := As) (rest := st) C.1 (hM H.size) (⟨callB_of n C.1.2.2.2.2 (fun w hw => by
    rcases List.mem_cons.mp hw with rfl | hw
    · exact tb_good _ g5
    · exact tb_good w hw) rfl rfl rfl (C.1.2.2.2.2 _ g4) (C.1.2.2.2.2 _ g1) ⟨g6, g7, g8⟩ hR, C.1.2.2.2.2 _ g2⟩ : CallB R s args own idx y bytes maxL rt (W0 y bytes maxL rt) (rmY fr lo) 0 0 n ∧ (Cond.static y).before args s = true) ⟨mS_blind, hpre⟩ rfl hn hl.1 hst (lv_room hcat) hdg hr0) hS (fun q _ h => hA q h) hA (fun u t H1 locs1 ht hvm hw hB hz hk hS1 => k u hw H1 locs1 ls ?_ hS1 hl)
  unfold mB at hB
  rw [ht] at hB
  exact hB
theorem y_callVN (C : Cx p s m args meth cd cc nL ret own D ad kI kS kL A) {y : MethodName} {bytes : ByteArray} {maxL n fr lo : Nat} {rt : Option FieldType} {As : List Value} {post : Option Nat → Mem → Prop} {idx ci c : Nat} {Cn : String} {T : u_T} {N : Nat} (g : CLV own idx y bytes maxL rt n) (hM : MN l D ad kI kS kL y bytes maxL rt fr lo (.ref (ad c) :: As) μ post) (ho : isO ci c) (hcl : vwCl[ci]? = some (y.cls, T, N)) (hn : As.length = n) {st0 : List Value} (hst : st0 = As.reverse ++ .ref (ad c) :: st) (hcat : (st.map fun v => v.category).sum ≤ 8) (hR : fr + 1 ≤ R.frames ∧ 8 + (maxL + 11) + lo ≤ R.locals) (hr0 : cells + 0 ≤ R.cells ∧ slots + 0 ≤ R.slots) (hdg : decode cc pc = .ok (.invokevirtual idx, 3)) (k : ∀ (r : Option Nat) (μ2 : Mem), post r μ2 → Y p l e R s m args below meth cd D ad kI kS kL A nL cells slots Q (pc + 3) lv (va_rf r :: st) μ2) : Y p l e R s m args below meth cd D ad kI kS kL A nL cells slots Q pc lv (st0) μ := by
  obtain ⟨g1, g2, g3, g4, g5, g6, g7, g8⟩ := g
  intro H locs ls hP hS hl
  have hA : ∀ q, Aad ad H.size q → A q := fun q h => by
    rcases h with ⟨c, h1, rfl⟩ | h
    · exact C.2.2.2.1 c h1
    · exact C.2.2.2.2.1 q (Nat.le_trans hS.1 h)
  have hpre : ∀ U : State, U.heap = H → s.WarmedH U.vm → va_Pc (.ref (ad c) :: As) (mS D ad kI kS kL μ H.size) (.ref (ad c) :: As).toArray U := fun U hU hW => ⟨rfl, by rw [hU], by rw [hU]; exact hP, va_K.moved hW.alike C.2.1, C.2.2.1, C.2.2.2.2.2.1.warm hW⟩
  refine va_callq (va_runV (As := As) (rest := st) C.1 (hM H.size) (⟨callB_of n C.1.2.2.2.2 (fun w hw => by
    rcases List.mem_cons.mp hw with rfl | hw
    · exact tb_good _ g5
    · exact tb_good w hw) rfl rfl rfl (C.1.2.2.2.2 _ g4) (C.1.2.2.2.2 _ g1) ⟨g6, g7, g8⟩ hR, C.1.2.2.2.2 _ g2, C.1.2.2.2.2 _ g3⟩ : CallW R s args own y.cls idx y bytes maxL rt (W0 y bytes maxL rt) (rmY fr lo) 0 0 n) ⟨mS_blind, va_recv (q0 := c) C.2.1 hP hcl (by rw [xW_get (c := c) (by omega), xe_O ho]), hpre⟩ rfl hn hl.1 hst (lv_room hcat) hdg hr0) hS (fun q _ h => hA q h) hA (fun r u t H1 locs1 ht hvm hw hB hz hk hS1 => k r u hw H1 locs1 ls ?_ hS1 hl)
  unfold mB at hB
  rw [ht] at hB
  exact hB
theorem y_callSN (C : Cx p s m args meth cd cc nL ret own D ad kI kS kL A) {y : MethodName} {bytes : ByteArray} {maxL n fr lo : Nat} {rt : Option FieldType} {As : List Value} {post : Option Nat → Mem → Prop} {idx : Nat} (g : CLS own idx y bytes maxL rt n) (hM : MN l D ad kI kS kL y bytes maxL rt fr lo As μ post) (hn : As.length = n) {st0 : List Value} (hst : st0 = As.reverse ++ st) (hcat : (st.map fun v => v.category).sum ≤ 8) (hR : fr + 1 ≤ R.frames ∧ 8 + (maxL + 11) + lo ≤ R.locals) (hr0 : cells + 0 ≤ R.cells ∧ slots + 0 ≤ R.slots) (hdg : decode cc pc = .ok (.invokestatic idx, 3)) (k : ∀ (r : Option Nat) (μ2 : Mem), post r μ2 → Y p l e R s m args below meth cd D ad kI kS kL A nL cells slots Q (pc + 3) lv (va_rf r :: st) μ2) : Y p l e R s m args below meth cd D ad kI kS kL A nL cells slots Q pc lv (st0) μ := by
  obtain ⟨g1, g2, g4, g5, g6, g7, g8⟩ := g
  intro H locs ls hP hS hl
  have hA : ∀ q, Aad ad H.size q → A q := fun q h => by
    rcases h with ⟨c, h1, rfl⟩ | h
    · exact C.2.2.2.1 c h1
    · exact C.2.2.2.2.1 q (Nat.le_trans hS.1 h)
  have hpre : ∀ U : State, U.heap = H → s.WarmedH U.vm → va_Pc As (mS D ad kI kS kL μ H.size) (As).toArray U := fun U hU hW => ⟨rfl, by rw [hU], by rw [hU]; exact hP, va_K.moved hW.alike C.2.1, C.2.2.1, C.2.2.2.2.2.1.warm hW⟩
  refine va_callq (va_runS (As := As) (rest := st) C.1 (hM H.size) (⟨callB_of n C.1.2.2.2.2 (fun w hw => by
    rcases List.mem_cons.mp hw with rfl | hw
    · exact tb_good _ g5
    · exact tb_good w hw) rfl rfl rfl (C.1.2.2.2.2 _ g4) (C.1.2.2.2.2 _ g1) ⟨g6, g7, g8⟩ hR, C.1.2.2.2.2 _ g2⟩ : CallB R s args own idx y bytes maxL rt (W0 y bytes maxL rt) (rmY fr lo) 0 0 n ∧ (Cond.static y).before args s = true) ⟨mS_blind, hpre⟩ rfl hn hl.1 hst (lv_room hcat) hdg hr0) hS (fun q _ h => hA q h) hA (fun r u t H1 locs1 ht hvm hw hB hz hk hS1 => k r u hw H1 locs1 ls ?_ hS1 hl)
  unfold mB at hB
  rw [ht] at hB
  exact hB
end ROWS
