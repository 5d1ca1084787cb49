/-! CONSTRUCTORS: rows over a world that is told cell by cell (it grows), and their contracts -/
def Cz (p : Program) (s : State) (m : MethodId) (args : Array Value) (meth : Method) (cd : Code) (cc : ByteArray) (nL : Nat) (ret : Option FieldType) (own : String) (A : Nat → Prop) : Prop :=
  CallFix p m cd cc nL s args TB own ∧ (∀ q, s.heap.size ≤ q → A q) ∧ NZ s ∧ va_AO "SleepRoads$Sheet" s ∧ va_AO "SleepRoads$Sleeper" s ∧ meth.sig.returnType = ret ∧ meth.locks = false
def Z (p : Program) (l : Launch) (e : Env) (R : Room) (s : State) (m : MethodId) (args : Array Value) (below : List Frame) (meth : Method) (cd : Code) (D : va_G) (A : Nat → Prop) (nL : Nat) (Q : State → Prop) (cells slots : Nat) (pc : Nat) (lv : List (Nat × Value)) (st : List Value) (tys : List (ClassId × FieldType)) (ws : va_W) : Prop :=
  ∀ (H : Heap) (locs : List Loc) (ls : Array Slot), va_K D vwCl tys s → va_P D vwCl ws H → va_D A ws → va_S A s.heap H locs → lv_has ls nL lv → W p l e R s m args below meth cd H locs cells slots Q (F0 m pc ls st)
/-- a constructor's contract: one new cell (h, e0) goes in, the world Wd comes out -/
def IM (l : Launch) (D : va_G) (y : MethodName) (bytes : ByteArray) (maxL fr mc ms lo : Nat) (e0 : va_E) (Wd : Nat → va_W → List (ClassId × FieldType) → Prop) : Prop :=
  ∀ (h sz : Nat), Met l y (W0 y bytes maxL none) { frames := fr, cells := mc, slots := ms, locals := lo } (va_Pc [.ref h] (fun U => U.heap.size = sz ∧ va_P D vwCl [(h, e0)] U.heap ∧ va_K D vwCl [] U ∧ NZ U ∧ va_AO "SleepRoads$Sheet" U ∧ va_AO "SleepRoads$Sleeper" U))
    (va_Qv (fun u : va_W × List (ClassId × FieldType) => Wd h u.1 u.2) (fun u t => va_P D vwCl u.1 t.heap ∧ va_K D vwCl u.2 t ∧ va_D (va_A [(h, e0)] sz) u.1) (va_A [(h, e0)] sz)) mc ms (va_A [(h, e0)] sz)
theorem one_D {h sz : Nat} {e0 : va_E} : va_D (va_A [(h, e0)] sz) [(h, e0)] := by
  refine ⟨fun i j p q h1 h2 _ => ?_, fun k q hk => va_A.in hk⟩
  have a1 : i < 1 := (List.getElem?_eq_some_iff.mp h1).1
  have a2 : j < 1 := (List.getElem?_eq_some_iff.mp h2).1
  omega
theorem K_eqI {D : va_G} {cl : List vw_C} {tys : List (ClassId × FieldType)} {U : State} {a b : ClassId} (h : va_K D cl tys U) (i j : Nat) (hi : tys[i]? = some (a, .int)) (hj : tys[j]? = some (b, .int)) : a = b := by
  have h1 : va_RA U a .int := (h.2 i _ hi).2
  have h2 : va_RA U b .int := (h.2 j _ hj).2
  unfold va_RA at h1 h2
  exact Option.some.inj (h1.symm.trans h2)
theorem K_eqO {D : va_G} {cl : List vw_C} {tys : List (ClassId × FieldType)} {U : State} {a b : ClassId} {C : String} (h : va_K D cl tys U) (i j : Nat) (hi : tys[i]? = some (a, .object C)) (hj : tys[j]? = some (b, .object C)) : a = b := by
  have h1 : va_RA U a (.object C) := (h.2 i _ hi).2
  have h2 : va_RA U b (.object C) := (h.2 j _ hj).2
  unfold va_RA at h1 h2
  obtain ⟨_, _, _, _, _, e1⟩ := h1
  obtain ⟨_, _, _, _, _, e2⟩ := h2
  exact Option.some.inj (e1.symm.trans e2)
theorem im_of {l : Launch} {D : va_G} {y : MethodName} {bytes : ByteArray} {maxL fr mc ms lo : Nat} {e0 : va_E} {Wd : Nat → va_W → List (ClassId × FieldType) → Prop} (own : String) (ho : y.cls = own) (hy : plainName y.cls = true) (hmL : 1 ≤ maxL)
    (body : ∀ (p : Program) (e : Env) (s : State) (m : MethodId) (args : Array Value) (below : List Frame) (meth : Method) (cd : Code) (A : Nat → Prop) (h : Nat), Cz p s m args meth cd bytes maxL none own A → meth.name = y.name → ∀ Q : State → Prop, Q = MQ below (va_Qv (fun u : va_W × List (ClassId × FieldType) => Wd h u.1 u.2) (fun u t => va_P D vwCl u.1 t.heap ∧ va_K D vwCl u.2 t ∧ va_D A u.1) A) args s mc ms A →
      Z p l e { frames := fr, cells := mc, slots := ms, locals := lo } s m args below meth cd D A maxL Q 0 0 0 [(0, .ref h)] [] [] [(h, e0)]) : IM l D y bytes maxL fr mc ms lo e0 Wd := by
  intro h sz
  refine Met.ofW (cc := bytes) (maxL := maxL) (ret := none) hy rfl ?_
  intro p e s m args below meth c s₁ B hml hv
  obtain ⟨rfl, hsz, hP, hK, hN, hO1, hO2⟩ := hv
  subst hsz
  have hts := atoms_spec (ws := W0 y bytes maxL none) B.pre
  have hown : s.vm.findClass y.cls = some m.cls := findClass_of_methodNamed B.named
  have hl := lv_entry [.ref h] (n := maxL) hmL
  rw [lg_entry_eq]
  have key := body p e s m [Value.ref h].toArray below meth c (va_A [(h, e0)] s.heap.size) h ⟨⟨B.exec, B.bytes, hml, by rw [← ho]; exact hown, fun w h => hts w (List.mem_cons_of_mem _ h)⟩, fun q h => Or.inr h, hN, hO1, hO2, B.returns, B.notSynchronized⟩ (name_of_methodNamed B.named B.method).1 _ rfl
  exact W.widen (Nat.zero_le _) (Nat.zero_le _) (W.widen (Nat.le_refl _) (Nat.le_refl _) (by first | exact key s.heap [] _ hK hP one_D va_S.rf hl | skip))
section ZROWS
variable {p : Program} {l : Launch} {e : Env} {R : Room} {s : State} {m : MethodId} {args : Array Value} {below : List Frame} {meth : Method} {cd : Code} {D : va_G} {A : Nat → Prop} {nL : Nat} {Q : State → Prop} {cells slots : Nat} {cc : ByteArray} {ret : Option FieldType} {own : String} {pc : Nat} {lv : List (Nat × Value)} {st : List Value} {tys : List (ClassId × FieldType)} {ws : va_W}
theorem v_aload_n (C : Cz p s m args meth cd cc nL ret own A) (j : Nat) {k : Fin 4} {i x : Nat} (hdg : decode cc pc = .ok (.aload_n k, 1)) (hi : (k : Nat) = i) (hl0 : lv[j]? = some (i, .ref x)) (kk : Z p l e R s m args below meth cd D A nL Q cells slots (pc + 1) lv (.ref x :: st) tys ws) : Z p l e R s m args below meth cd D A nL Q cells slots pc lv st tys ws :=
  fun H locs ls hK hP hD hS hl => lv_aload_n C.1.1 C.1.2.1 hdg hi (lv_at hl j hl0) (kk H locs ls hK hP hD hS hl)
theorem v_iload_n (C : Cz p s m args meth cd cc nL ret own A) (j : Nat) {k : Fin 4} {i : Nat} {x : Int32} (hdg : decode cc pc = .ok (.iload_n k, 1)) (hi : (k : Nat) = i) (hl0 : lv[j]? = some (i, .int x)) (kk : Z p l e R s m args below meth cd D A nL Q cells slots (pc + 1) lv (.int x :: st) tys ws) : Z p l e R s m args below meth cd D A nL Q cells slots pc lv st tys ws :=
  fun H locs ls hK hP hD hS hl => lv_iload_n C.1.1 C.1.2.1 hdg hi (lv_at hl j hl0) (kk H locs ls hK hP hD hS hl)
theorem v_iconst (C : Cz p s m args meth cd cc nL ret own A) {n : Int} (v : Int32) (hdg : decode cc pc = .ok (.iconst n, 1)) (hv : Int32.ofInt n = v) (kk : Z p l e R s m args below meth cd D A nL Q cells slots (pc + 1) lv (.int v :: st) tys ws) : Z p l e R s m args below meth cd D A nL Q cells slots pc lv st tys ws :=
  fun H locs ls hK hP hD hS hl => lv_iconst C.1.1 C.1.2.1 hdg hv (kk H locs ls hK hP hD hS hl)
theorem v_bipush (C : Cz p s m args meth cd cc nL ret own A) {n : Int} (v : Int32) (hdg : decode cc pc = .ok (.bipush n, 2)) (hv : (Int8.ofInt n).toInt32 = v) (kk : Z p l e R s m args below meth cd D A nL Q cells slots (pc + 2) lv (.int v :: st) tys ws) : Z p l e R s m args below meth cd D A nL Q cells slots pc lv st tys ws :=
  fun H locs ls hK hP hD hS hl => lv_bipush C.1.1 C.1.2.1 hdg hv (kk H locs ls hK hP hD hS hl)
theorem v_sipush (C : Cz p s m args meth cd cc nL ret own A) {n : Int} (v : Int32) (hdg : decode cc pc = .ok (.sipush n, 3)) (hv : (Int16.ofInt n).toInt32 = v) (kk : Z p l e R s m args below meth cd D A nL Q cells slots (pc + 3) lv (.int v :: st) tys ws) : Z p l e R s m args below meth cd D A nL Q cells slots pc lv st tys ws :=
  fun H locs ls hK hP hD hS hl => lv_sipush C.1.1 C.1.2.1 hdg hv (kk H locs ls hK hP hD hS hl)
theorem v_dup (C : Cz p s m args meth cd cc nL ret own A) {va : Value} (hdg : decode cc pc = .ok (.dup, 1)) (hva : va.category = 1) (kk : Z p l e R s m args below meth cd D A nL Q cells slots (pc + 1) lv (va :: va :: st) tys ws) : Z p l e R s m args below meth cd D A nL Q cells slots pc lv (va :: st) tys ws :=
  fun H locs ls hK hP hD hS hl => lv_dup C.1.1 C.1.2.1 hdg hva (kk H locs ls hK hP hD hS hl)
theorem v_goto (C : Cz p s m args meth cd cc nL ret own A) {off : Int} (tgt : Nat) (hdg : decode cc pc = .ok (.goto off, 3)) (ht : (pc : Int) + off = (tgt : Int)) (kk : Z p l e R s m args below meth cd D A nL Q cells slots tgt lv st tys ws) : Z p l e R s m args below meth cd D A nL Q cells slots pc lv st tys ws :=
  fun H locs ls hK hP hD hS hl => lv_goto C.1.1 C.1.2.1 hdg ht (kk H locs ls hK hP hD hS hl)
theorem v_istore_n (C : Cz p s m args meth cd cc nL ret own A) (lv' : List (Nat × Value)) {k : Fin 4} {i : Nat} {x : Int32} (hdg : decode cc pc = .ok (.istore_n k, 1)) (hi : (k : Nat) = i) (hn : i < nL) (hl0 : (i, Value.int x) :: lv.filter (fun q => !(q.1 == i) && !(q.1 + 1 == i && q.2.category == 2)) = lv') (kk : Z p l e R s m args below meth cd D A nL Q cells slots (pc + 1) lv' st tys ws) : Z p l e R s m args below meth cd D A nL Q cells slots pc lv (.int x :: st) tys ws :=
  fun H locs ls hK hP hD hS hl => lv_istore_n C.1.1 C.1.2.1 hdg hi hl hn hl0 (fun ls' h => kk H locs ls' hK hP hD hS h)
theorem v_astore_n (C : Cz p s m args meth cd cc nL ret own A) (lv' : List (Nat × Value)) {k : Fin 4} {i : Nat} {x : Nat} (hdg : decode cc pc = .ok (.astore_n k, 1)) (hi : (k : Nat) = i) (hn : i < nL) (hl0 : (i, Value.ref x) :: lv.filter (fun q => !(q.1 == i) && !(q.1 + 1 == i && q.2.category == 2)) = lv') (kk : Z p l e R s m args below meth cd D A nL Q cells slots (pc + 1) lv' st tys ws) : Z p l e R s m args below meth cd D A nL Q cells slots pc lv (.ref x :: st) tys ws :=
  fun H locs ls hK hP hD hS hl => lv_astore_n C.1.1 C.1.2.1 hdg hi hl hn hl0 (fun ls' h => kk H locs ls' hK hP hD hS h)
theorem v_iinc (C : Cz p s m args meth cd cc nL ret own A) (k : Nat) (v : Int32) (lv' : List (Nat × Value)) {i : Nat} {n : Int} {x : Int32} (hdg : decode cc pc = .ok (.iinc i n, 3)) (hk : lv[k]? = some (i, .int x)) (hv : x + Int32.ofInt n = v) (hn : i < nL) (hl0 : (i, Value.int v) :: lv.filter (fun q => !(q.1 == i) && !(q.1 + 1 == i && q.2.category == 2)) = lv') (kk : Z p l e R s m args below meth cd D A nL Q cells slots (pc + 3) lv' st tys ws) : Z p l e R s m args below meth cd D A nL Q cells slots pc lv st tys ws :=
  fun H locs ls hK hP hD hS hl => lv_iinc C.1.1 C.1.2.1 hdg hl hk hv hn hl0 (fun ls' h => kk H locs ls' hK hP hD hS h)
theorem v_geT (C : Cz p s m args meth cd cc nL ret own A) {x y : Int32} {off : Int} (tgt : Nat) (hdg : decode cc pc = .ok (.if_icmp .ge off, 3)) (ht : (pc : Int) + off = (tgt : Int)) (h : y ≤ x) (kk : Z p l e R s m args below meth cd D A nL Q cells slots tgt lv st tys ws) : Z p l e R s m args below meth cd D A nL Q cells slots pc lv (.int y :: .int x :: st) tys ws :=
  fun H locs ls hK hP hD hS hl => lv_icmp_ge C.1.1 C.1.2.1 hdg ht (fun _ => kk H locs ls hK hP hD hS hl) (fun q => absurd h q)
theorem v_geF (C : Cz p s m args meth cd cc nL ret own A) {x y : Int32} {off : Int} (tgt : Nat) (hdg : decode cc pc = .ok (.if_icmp .ge off, 3)) (ht : (pc : Int) + off = (tgt : Int)) (h : ¬ y ≤ x) (kk : Z p l e R s m args below meth cd D A nL Q cells slots (pc + 3) lv st tys ws) : Z p l e R s m args below meth cd D A nL Q cells slots pc lv (.int y :: .int x :: st) tys ws :=
  fun H locs ls hK hP hD hS hl => lv_icmp_ge C.1.1 C.1.2.1 hdg ht (fun q => absurd q h) (fun _ => kk H locs ls hK hP hD hS hl)
theorem v_oinit (C : Cz p s m args meth cd cc nL ret own A) {idx a : Nat} (g : Cond.methodLink own idx objectInit ∈ TB) (hf : 1 ≤ R.frames) (hlo : (st.map fun v => v.category).sum + 12 ≤ R.locals) (hdg : decode cc pc = .ok (.invokespecial idx, 3)) (kk : Z p l e R s m args below meth cd D A nL Q cells slots (pc + 3) lv st tys ws) : Z p l e R s m args below meth cd D A nL Q cells slots pc lv (.ref a :: st) tys ws := by
  intro H locs ls hK hP hD hS hl
  refine W.objInit C.1.1 C.1.2.1 C.1.2.2.2.1 (C.1.2.2.2.2 _ g) (C.1.2.2.2.2 _ oi_i) (C.1.2.2.2.2 _ oi_c) rfl (hl.1.trans C.1.2.2.1.symm) rfl hdg hf (by show 2 * 0 + _ + 12 ≤ _; omega) ?_
  exact kk H locs ls hK hP hD hS hl
theorem v_tys {t2 : List (ClassId × FieldType)} (is : List Nat) (h : is.filterMap (fun i => tys[i]?) = t2) (kk : Z p l e R s m args below meth cd D A nL Q cells slots pc lv st t2 ws) : Z p l e R s m args below meth cd D A nL Q cells slots pc lv st tys ws :=
  fun H locs ls hK hP hD hS hl => kk H locs ls (hK.sub is h) hP hD hS hl
theorem v_sub {ws2 : va_W} (is : List Nat) (h1 : is.filterMap (fun i => ws[i]?) = ws2) (hn : va_nd is = true) (h2 : is.map (fun i => ws[i]?) = ws2.map some) (kk : Z p l e R s m args below meth cd D A nL Q cells slots pc lv st tys ws2) : Z p l e R s m args below meth cd D A nL Q cells slots pc lv st tys ws :=
  fun H locs ls hK hP hD hS hl => kk H locs ls hK (hP.sub is h1) (hD.sub is hn h2) hS hl
theorem v_eq {t2 : List (ClassId × FieldType)} {ws2 : va_W} (h1 : tys = t2) (h2 : ws = ws2) (kk : Z p l e R s m args below meth cd D A nL Q cells slots pc lv st t2 ws2) : Z p l e R s m args below meth cd D A nL Q cells slots pc lv st tys ws := by
  subst h1; subst h2; exact kk
theorem v_sameI {a b : ClassId} (i j : Nat) (hi : tys[i]? = some (a, .int)) (hj : tys[j]? = some (b, .int)) (kk : a = b → Z p l e R s m args below meth cd D A nL Q cells slots pc lv st tys ws) : Z p l e R s m args below meth cd D A nL Q cells slots pc lv st tys ws :=
  fun H locs ls hK hP hD hS hl => kk (K_eqI hK i j hi hj) H locs ls hK hP hD hS hl
theorem v_sameO {a b : ClassId} {C : String} (i j : Nat) (hi : tys[i]? = some (a, .object C)) (hj : tys[j]? = some (b, .object C)) (kk : a = b → Z p l e R s m args below meth cd D A nL Q cells slots pc lv st tys ws) : Z p l e R s m args below meth cd D A nL Q cells slots pc lv st tys ws :=
  fun H locs ls hK hP hD hS hl => kk (K_eqO hK i j hi hj) H locs ls hK hP hD hS hl
/-- a new row of ints; the first, a further one -/
theorem v_newaF (C : Cz p s m args meth cd cc nL ret own A) (N' : Nat) {n : Int32} {t2 : ClassId → List (ClassId × FieldType)} {ws2 : ClassId → Nat → va_W} (cells2 slots2 : Nat) (hn : ¬ n < 0) (hN : n.toNatClampNeg = N') (hb : N' * componentBytes .int ≤ 536870912) (hc : cells + 1 = cells2) (hs : slots + N' = slots2) (hcells : cells2 ≤ R.cells) (hslots : slots2 ≤ R.slots) (hdg : decode cc pc = .ok (.newarray .int, 2)) (ht : ∀ kI, tys ++ [(kI, .int)] = t2 kI) (hw : ∀ kI q, ws ++ [(q, .inl (kI, N', .inl (fun _ => 0)))] = ws2 kI q)
    (kk : ∀ (q : Nat) (kI : ClassId), Z p l e R s m args below meth cd D A nL Q cells2 slots2 (pc + 2) lv (.ref q :: st) (t2 kI) (ws2 kI q)) : Z p l e R s m args below meth cd D A nL Q cells slots pc lv (.int n :: st) tys ws := by
  subst hc; subst hs
  intro H locs ls hK hP hD hS hl
  refine va_newa (atype := .int) (ty := .int) (N' := N') (a0 := (N', .inl (fun _ => 0))) C.1.1 C.1.2.1 (C.1.2.2.2.2 _ ka_int) rfl hK hP hD hS C.2.1 (fun _ => rfl) hn hN hb hcells hslots hdg (fun q cA H1 hK1 hP1 hD1 hS1 => ?_)
  rw [ht] at hK1
  rw [hw] at hP1 hD1
  exact kk q cA H1 locs ls hK1 hP1 hD1 hS1 hl
theorem v_newaI (C : Cz p s m args meth cd cc nL ret own A) (N' t0 : Nat) {n : Int32} {kI : ClassId} {ws2 : Nat → va_W} (cells2 slots2 : Nat) (ht0 : tys[t0]? = some (kI, .int)) (hn : ¬ n < 0) (hN : n.toNatClampNeg = N') (hb : N' * componentBytes .int ≤ 536870912) (hc : cells + 1 = cells2) (hs : slots + N' = slots2) (hcells : cells2 ≤ R.cells) (hslots : slots2 ≤ R.slots) (hdg : decode cc pc = .ok (.newarray .int, 2)) (hw : ∀ q, ws ++ [(q, .inl (kI, N', .inl (fun _ => 0)))] = ws2 q)
    (kk : ∀ (q : Nat), Z p l e R s m args below meth cd D A nL Q cells2 slots2 (pc + 2) lv (.ref q :: st) tys (ws2 q)) : Z p l e R s m args below meth cd D A nL Q cells slots pc lv (.int n :: st) tys ws := by
  subst hc; subst hs
  intro H locs ls hK hP hD hS hl
  refine va_newa (atype := .int) (ty := .int) (N' := N') (a0 := (N', .inl (fun _ => 0))) C.1.1 C.1.2.1 (C.1.2.2.2.2 _ ka_int) rfl hK hP hD hS C.2.1 (fun _ => rfl) hn hN hb hcells hslots hdg (fun q cA H1 hK1 hP1 hD1 hS1 => ?_)
  have e0 : (tys ++ [(cA, FieldType.int)])[t0]? = some (kI, .int) := by rw [List.getElem?_append_left (List.getElem?_eq_some_iff.mp ht0).1]; exact ht0
  have e1 : (tys ++ [(cA, FieldType.int)])[tys.length]? = some (cA, .int) := by rw [List.getElem?_append_right (Nat.le_refl _), Nat.sub_self]; rfl
  obtain rfl : kI = cA := K_eqI hK1 t0 tys.length e0 e1
  rw [hw] at hP1 hD1
  exact kk q H1 locs ls hK hP1 hD1 hS1 hl
/-- a new row of references -/
theorem v_newq (C : Cz p s m args meth cd cc nL ret own A) (N' : Nat) {n : Int32} {C0 : String} {index : Nat} {t2 : ClassId → List (ClassId × FieldType)} {ws2 : ClassId → Nat → va_W} (cells2 slots2 : Nat) (g : Cond.classLink own index C0 ∈ TB) (hO : va_AO C0 s) (hn : ¬ n < 0) (hN : n.toNatClampNeg = N') (hb : N' * 4 ≤ 536870912) (hc : cells + 1 = cells2) (hs : slots + N' = slots2) (hcells : cells2 ≤ R.cells) (hslots : slots2 ≤ R.slots) (hdg : decode cc pc = .ok (.anewarray index, 3)) (ht : ∀ kI, tys ++ [(kI, .object C0)] = t2 kI) (hw : ∀ kI q, ws ++ [(q, .inl (kI, N', .inr (.inr (.inr (.inr (fun _ => none))))))] = ws2 kI q)
    (kk : ∀ (q : Nat) (kI : ClassId), Z p l e R s m args below meth cd D A nL Q cells2 slots2 (pc + 3) lv (.ref q :: st) (t2 kI) (ws2 kI q)) : Z p l e R s m args below meth cd D A nL Q cells slots pc lv (.int n :: st) tys ws := by
  subst hc; subst hs
  intro H locs ls hK hP hD hS hl
  refine va_newq C.1.1 C.1.2.1 C.1.2.2.2.1 (C.1.2.2.2.2 _ g) hO hK hP hD hS C.2.1 hn hN hb hcells hslots hdg (fun q cA H1 hK1 hP1 hD1 hS1 => ?_)
  rw [ht] at hK1
  rw [hw] at hP1 hD1
  exact kk q cA H1 locs ls hK1 hP1 hD1 hS1 hl
/-- what a class needs to be made -/
def NW (own : String) (index ci N : Nat) (fs : List Value) : Prop := ∃ (C0 : String) (T : u_T) (t0 : Nat → FieldType), Cond.classLink own index C0 ∈ TB ∧ Cond.instantiable C0 N ∈ TB ∧ Cond.initialized C0 ∈ TB ∧ (∀ w ∈ u_ws C0 T N, w ∈ TB) ∧ (∀ k, k < N → parseFieldDescriptor (T k).2.2.1 = some (t0 k)) ∧ vwCl[ci]? = some (C0, T, N) ∧ ∀ j, j < N → defaultValue (t0 j) = vp_V fs j
theorem v_new (C : Cz p s m args meth cd cc nL ret own A) {index ci N : Nat} {fs : List Value} {ws2 : Nat → va_W} (cells2 slots2 : Nat) (g : NW own index ci N fs) (hc : cells + 1 = cells2) (hs : slots + N = slots2) (hcells : cells2 ≤ R.cells) (hslots : slots2 ≤ R.slots) (hdg : decode cc pc = .ok (.new index, 3)) (hw : ∀ q, ws ++ [(q, .inr (ci, fs))] = ws2 q)
    (kk : ∀ (q : Nat), Z p l e R s m args below meth cd D A nL Q cells2 slots2 (pc + 3) lv (.ref q :: st) tys (ws2 q)) : Z p l e R s m args below meth cd D A nL Q cells slots pc lv st tys ws := by
  subst hc; subst hs
  obtain ⟨C0, T, t0, g1, g2, g3, g4, g5, g6, g7⟩ := g
  intro H locs ls hK hP hD hS hl
  refine va_new C.1.1 C.1.2.1 C.1.2.2.2.2 g4 t0 g5 C.1.2.2.2.1 (C.1.2.2.2.2 _ g1) (C.1.2.2.2.2 _ g2) (C.1.2.2.2.2 _ g3) hK hP hD hS C.2.1 g6 g7 hcells hslots hdg (fun q H1 hP1 hD1 hS1 => ?_)
  rw [hw] at hP1 hD1
  exact kk q H1 locs ls hK hP1 hD1 hS1 hl
/-- a final reference field, in a constructor -/
def PF (own : String) (idx ci k : Nat) : Prop := ∃ (C0 : String) (T : u_T) (N : Nat) (t0 : Nat → FieldType) (ty : FieldType), Cond.fieldLink own idx C0 (T k).2.1 (T k).2.2.1 ∈ TB ∧ (∀ w ∈ u_ws C0 T N, w ∈ TB) ∧ vwCl[ci]? = some (C0, T, N) ∧ k < N ∧ (∀ {s : State} x, s.fieldFound? (T k).1 (T k).2.1 (T k).2.2.1 = some x → s.fieldFound? C0 (T k).2.1 (T k).2.2.1 = some x) ∧ (∀ k, k < N → parseFieldDescriptor (T k).2.2.1 = some (t0 k)) ∧ (∀ a, a < N → ∀ b, b < N → a ≠ b → (T a).2.1 ≠ (T b).2.1) ∧ (T k).2.2.2 = true ∧ (T k).1 = own ∧ parseFieldDescriptor (T k).2.2.1 = some ty ∧ (∀ v : Nat, narrow ty (.ref v) = .ref v) ∧ (∀ v : Nat, fits ty (.ref v) = true)
theorem v_putF (C : Cz p s m args meth cd cc nL ret own A) {idx ci k a v : Nat} {fs : List Value} {ws2 : va_W} (q0 : Nat) (hin : meth.name = "<init>") (g : PF own idx ci k) (he : ws[q0]? = some (a, .inr (ci, fs))) (hl0 : k < fs.length) (hdg : decode cc pc = .ok (.putfield idx, 3)) (hw : ws.set q0 (a, .inr (ci, fs.set k (.ref v))) = ws2) (kk : Z p l e R s m args below meth cd D A nL Q cells slots (pc + 3) lv st tys ws2) : Z p l e R s m args below meth cd D A nL Q cells slots pc lv (.ref v :: .ref a :: st) tys ws := by
  subst hw
  obtain ⟨C0, T, N, t0, ty, h1, h2, h3, h4, h5, h6, h7, h8, h9, h10, h11, h12⟩ := g
  intro H locs ls hK hP hD hS hl
  exact va_putF C.1.1 C.1.2.1 C.1.2.2.2.2 h2 t0 h6 h7 C.1.2.2.2.1 hK hP hD hS q0 he h3 k h4 (C.1.2.2.2.2 _ h1) (fun x => h5 (s := s) x) h8 hin h9 h10 (h11 v) (h12 v) hl0 hdg (fun H1 locs1 hP1 hD1 hS1 => kk H1 locs1 ls hK hP1 hD1 hS1 hl)
theorem v_put (C : Cz p s m args meth cd cc nL ret own A) {idx ci k a : Nat} {v : Int32} {fs : List Value} {ws2 : va_W} (q0 : Nat) (g : PL own idx ci k) (he : ws[q0]? = some (a, .inr (ci, fs))) (hl0 : k < fs.length) (hdg : decode cc pc = .ok (.putfield idx, 3)) (hw : ws.set q0 (a, .inr (ci, fs.set k (.int v))) = ws2) (kk : Z p l e R s m args below meth cd D A nL Q cells slots (pc + 3) lv st tys ws2) : Z p l e R s m args below meth cd D A nL Q cells slots pc lv (.int v :: .ref a :: st) tys ws := by
  subst hw
  obtain ⟨Cn, T, N, t0, h1, h2, h3, h4, h5, h6, h7, h8, h9⟩ := g
  intro H locs ls hK hP hD hS hl
  exact va_put C.1.1 C.1.2.1 C.1.2.2.2.2 h2 t0 h6 h7 C.1.2.2.2.1 hK hP hD hS q0 he h3 k h4 (C.1.2.2.2.2 _ h1) (fun x => h5 (s := s) x) h8 h9 rfl rfl hl0 hdg (fun H1 locs1 hP1 hD1 hS1 => kk H1 locs1 ls hK hP1 hD1 hS1 hl)
theorem v_getr (C : Cz p s m args meth cd cc nL ret own A) {idx ci k a v : Nat} {fs : List Value} (q0 : Nat) (g : GL own idx ci k) (he : ws[q0]? = some (a, .inr (ci, fs))) (hf : fs[k]? = some (.ref v)) (hdg : decode cc pc = .ok (.getfield idx, 3)) (kk : Z p l e R s m args below meth cd D A nL Q cells slots (pc + 3) lv (.ref v :: st) tys ws) : Z p l e R s m args below meth cd D A nL Q cells slots pc lv (.ref a :: st) tys ws := by
  obtain ⟨Cn, T, N, h1, h2, h3, h4, h5⟩ := g
  exact fun H locs ls hK hP hD hS hl => va_get C.1.1 C.1.2.1 C.1.2.2.2.2 h2 C.1.2.2.2.1 hK hP q0 he h3 k h4 (C.1.2.2.2.2 _ h1) (fun x => h5 (s := s) x) hf hdg (kk H locs ls hK hP hD hS hl)
theorem v_alen (C : Cz p s m args meth cd cc nL ret own A) {a : Nat} {cA : ClassId} {x : vp_A} {ty : FieldType} (q0 t0 : Nat) (v : Int32) (ha : ws[q0]? = some (a, .inl (cA, x))) (ht : tys[t0]? = some (cA, ty)) (hv : Int32.ofNat x.1 = v) (hdg : decode cc pc = .ok (.arraylength, 1)) (kk : Z p l e R s m args below meth cd D A nL Q cells slots (pc + 1) lv (.int v :: st) tys ws) : Z p l e R s m args below meth cd D A nL Q cells slots pc lv (.ref a :: st) tys ws :=
  fun H locs ls hK hP hD hS hl => va_alen C.1.1 C.1.2.1 hK hP q0 t0 ha ht hv hdg (kk H locs ls hK hP hD hS hl)
theorem v_astq (C : Cz p s m args meth cd cc nL ret own A) {a v n ci j : Nat} {cA : ClassId} {vs : List Value} {f : Nat → Option Nat} {rr : vw_C} {ws2 : va_W} (q0 t0 qk : Nat) (ha : ws[q0]? = some (a, .inl (cA, n, .inr (.inr (.inr (.inr f)))))) (ht : tys[t0]? = some (cA, .object rr.1)) (hv : ws[qk]? = some (v, .inr (ci, vs))) (hc : vwCl[ci]? = some rr) (hj : j < n) (hn : n < 1000) (hdg : decode cc pc = .ok (.aastore, 1)) (hw : ws.set q0 (a, .inl (cA, n, .inr (.inr (.inr (.inr (va_up f j (some v))))))) = ws2) (kk : Z p l e R s m args below meth cd D A nL Q cells slots (pc + 1) lv st tys ws2) : Z p l e R s m args below meth cd D A nL Q cells slots pc lv (.ref v :: .int (nI j) :: .ref a :: st) tys ws := by
  subst hw
  intro H locs ls hK hP hD hS hl
  refine va_astq C.1.1 C.1.2.1 hK hP hD hS q0 t0 qk ci ha ht hv hc (vp_in_nI hj (by omega)) hdg (fun H1 locs1 hP1 hD1 hS1 => ?_)
  rw [nI_clamp (by omega)] at hP1 hD1
  exact kk H1 locs1 ls hK hP1 hD1 hS1 hl
theorem v_iast (C : Cz p s m args meth cd cc nL ret own A) {a n j : Nat} {x : Int32} {cA : ClassId} {f : Nat → Int32} {ws2 : va_W} (q0 t0 : Nat) (ha : ws[q0]? = some (a, .inl (cA, n, .inl f))) (ht : tys[t0]? = some (cA, .int)) (hj : j < n) (hn : n < 1000) (hdg : decode cc pc = .ok (.iastore, 1)) (hw : ws.set q0 (a, .inl (cA, n, .inl (upd f j x))) = ws2) (kk : Z p l e R s m args below meth cd D A nL Q cells slots (pc + 1) lv st tys ws2) : Z p l e R s m args below meth cd D A nL Q cells slots pc lv (.int x :: .int (nI j) :: .ref a :: st) tys ws := by
  subst hw
  intro H locs ls hK hP hD hS hl
  refine va_iast C.1.1 C.1.2.1 hK hP hD hS q0 t0 ha ht (vp_in_nI hj (by omega)) hdg (fun H1 locs1 hP1 hD1 hS1 => ?_)
  rw [nI_clamp (by omega)] at hP1 hD1
  exact kk H1 locs1 ls hK hP1 hD1 hS1 hl
/-- a constructor's call: its cell is the i-th -/
theorem v_callI (C : Cz p s m args meth cd cc nL ret own A) {y : MethodName} {bytes : ByteArray} {maxL fr mc ms lo idx h : Nat} {e0 : va_E} {Wd : Nat → va_W → List (ClassId × FieldType) → Prop} {wr : va_W} (g : CLI own idx y bytes maxL none 0) (hM : IM l D y bytes maxL fr mc ms lo e0 Wd) (cells2 slots2 i : Nat) (isR : List Nat) (h0 : ws[i]? = some (h, e0)) (hR : isR.map (fun i => ws[i]?) = wr.map some) (hn : va_nd isR = true) (hdis : ∀ j ∈ isR, j ∉ [i]) (hcat : (st.map fun v => v.category).sum ≤ 8) (hRm : fr + 1 ≤ R.frames ∧ 8 + (maxL + 11) + lo ≤ R.locals) (hc : cells + mc = cells2) (hs : slots + ms = slots2) (hcells : cells2 ≤ R.cells) (hslots : slots2 ≤ R.slots) (hdg : decode cc pc = .ok (.invokespecial idx, 3))
    (kk : ∀ w1 t1, Wd h w1 t1 → Z p l e R s m args below meth cd D A nL Q cells2 slots2 (pc + 3) lv st (tys ++ t1) (wr ++ w1)) : Z p l e R s m args below meth cd D A nL Q cells slots pc lv (.ref h :: st) tys ws := by
  subst hc; subst hs
  obtain ⟨g1, g2, g3, g4, ⟨g5, g6, g7⟩, g8⟩ := g
  intro H locs ls hK hP hD hS hl
  have hC1 : [i].map (fun i => ws[i]?) = [(h, e0)].map some := by simp [h0]
  have hPc : va_P D vwCl [(h, e0)] H := hP.sub [i] (by simp [h0])
  have hF := va_free (wc := [(h, e0)]) hD hS C.2.1 [i] hC1
  have hpre : ∀ U : State, U.heap = H → s.WarmedH U.vm → va_Pc [.ref h] (fun U => U.heap.size = H.size ∧ va_P D vwCl [(h, e0)] U.heap ∧ va_K D vwCl [] U ∧ NZ U ∧ va_AO "SleepRoads$Sheet" U ∧ va_AO "SleepRoads$Sleeper" U) (.ref h :: ([] : List Value)).toArray U := fun U hU hW => ⟨rfl, by rw [hU], by rw [hU]; exact hPc, va_K.moved hW.alike (hK.sub [] rfl), C.2.2.1.warm hW, C.2.2.2.1.moved hW.alike, C.2.2.2.2.1.moved hW.alike⟩
  refine va_callv (va_runI (As := []) (rest := st) C.1 (hM h H.size) ⟨callB_of 0 C.1.2.2.2.2 (fun w hw => by
    rcases List.mem_cons.mp hw with rfl | hw
    · exact tb_good _ g4
    · exact tb_good w hw) rfl rfl rfl (C.1.2.2.2.2 _ g3) (C.1.2.2.2.2 _ g1) ⟨g5, g6, g7⟩ hRm, g8, C.1.2.2.2.2 _ g2⟩ ⟨fun a U g mk q => by obtain ⟨q0, q1, q2, q3, q4, q5, q6⟩ := q; exact ⟨q0, q1, q2, va_K.moved (u := U) (U := U.calling g mk a) (Vm.Alike.refl U.vm) q3, q4.same (u := U) (U := U.calling g mk a) rfl, q5, q6⟩, hpre⟩ rfl rfl hl.1 rfl (lv_room hcat) hdg ⟨hcells, hslots⟩) hS (fun q _ h => hF q h) hF (fun u t H1 locs1 ht hvm hw hB hz1 hk1 hS1 => ?_)
  obtain ⟨hP1, hK1, hD1⟩ := hB
  rw [ht] at hP1
  have hK1 := va_K.moved hvm.symm hK1
  obtain ⟨hP2, hD2⟩ := va_join (wr := wr) (w1 := u.1) hP hD [i] isR hC1 hR hn hdis hk1 hF hP1 hD1
  exact kk u.1 u.2 hw H1 locs1 ls (hK.app hK1) hP2 hD2 hS1 hl
theorem v_callJ (C : Cz p s m args meth cd cc nL ret own A) {y : MethodName} {bytes : ByteArray} {maxL fr mc ms lo idx h : Nat} {host : String} {e0 : va_E} {Wd : Nat → va_W → List (ClassId × FieldType) → Prop} {wr : va_W} (hNl : va_Nw (.methodLinkNest own idx y host) s) (g : CLJ y bytes maxL none 0) (hM : IM l D y bytes maxL fr mc ms lo e0 Wd) (cells2 slots2 i : Nat) (isR : List Nat) (h0 : ws[i]? = some (h, e0)) (hR : isR.map (fun i => ws[i]?) = wr.map some) (hn : va_nd isR = true) (hdis : ∀ j ∈ isR, j ∉ [i]) (hcat : (st.map fun v => v.category).sum ≤ 8) (hRm : fr + 1 ≤ R.frames ∧ 8 + (maxL + 11) + lo ≤ R.locals) (hc : cells + mc = cells2) (hs : slots + ms = slots2) (hcells : cells2 ≤ R.cells) (hslots : slots2 ≤ R.slots) (hdg : decode cc pc = .ok (.invokespecial idx, 3))
    (kk : ∀ w1 t1, Wd h w1 t1 → Z p l e R s m args below meth cd D A nL Q cells2 slots2 (pc + 3) lv st (tys ++ t1) (wr ++ w1)) : Z p l e R s m args below meth cd D A nL Q cells slots pc lv (.ref h :: st) tys ws := by
  subst hc; subst hs
  obtain ⟨g2, g3, g4, ⟨g5, g6, g7⟩, g8⟩ := g
  intro H locs ls hK hP hD hS hl
  have hC1 : [i].map (fun i => ws[i]?) = [(h, e0)].map some := by simp [h0]
  have hPc : va_P D vwCl [(h, e0)] H := hP.sub [i] (by simp [h0])
  have hF := va_free (wc := [(h, e0)]) hD hS C.2.1 [i] hC1
  have hpre : ∀ U : State, U.heap = H → s.WarmedH U.vm → va_Pc [.ref h] (fun U => U.heap.size = H.size ∧ va_P D vwCl [(h, e0)] U.heap ∧ va_K D vwCl [] U ∧ NZ U ∧ va_AO "SleepRoads$Sheet" U ∧ va_AO "SleepRoads$Sleeper" U) (.ref h :: ([] : List Value)).toArray U := fun U hU hW => ⟨rfl, by rw [hU], by rw [hU]; exact hPc, va_K.moved hW.alike (hK.sub [] rfl), C.2.2.1.warm hW, C.2.2.2.1.moved hW.alike, C.2.2.2.2.1.moved hW.alike⟩
  refine va_callv (va_runIN (As := []) (rest := st) C.1 (hM h H.size) ⟨va_cnB 0 C.1.2.2.2.2 (fun w hw => by
    rcases List.mem_cons.mp hw with rfl | hw
    · exact tb_good _ g4
    · exact tb_good w hw) rfl rfl rfl hNl (C.1.2.2.2.2 _ g3) ⟨g5, g6, g7⟩ hRm, g8, C.1.2.2.2.2 _ g2⟩ ⟨fun a U g mk q => by obtain ⟨q0, q1, q2, q3, q4, q5, q6⟩ := q; exact ⟨q0, q1, q2, va_K.moved (u := U) (U := U.calling g mk a) (Vm.Alike.refl U.vm) q3, q4.same (u := U) (U := U.calling g mk a) rfl, q5, q6⟩, hpre⟩ rfl rfl hl.1 rfl (lv_room hcat) hdg ⟨hcells, hslots⟩) hS (fun q _ h => hF q h) hF (fun u t H1 locs1 ht hvm hw hB hz1 hk1 hS1 => ?_)
  obtain ⟨hP1, hK1, hD1⟩ := hB
  rw [ht] at hP1
  have hK1 := va_K.moved hvm.symm hK1
  obtain ⟨hP2, hD2⟩ := va_join (wr := wr) (w1 := u.1) hP hD [i] isR hC1 hR hn hdis hk1 hF hP1 hD1
  exact kk u.1 u.2 hw H1 locs1 ls (hK.app hK1) hP2 hD2 hS1 hl
theorem v_ret (C : Cz p s m args meth cd cc nL none own A) {h : Nat} {Wd : Nat → va_W → List (ClassId × FieldType) → Prop} (hQ : Q = MQ below (va_Qv (fun u : va_W × List (ClassId × FieldType) => Wd h u.1 u.2) (fun u t => va_P D vwCl u.1 t.heap ∧ va_K D vwCl u.2 t ∧ va_D A u.1) A) args s cells slots A) (hdg : decode cc pc = .ok (.return_, 1)) (hw : Wd h ws tys) : Z p l e R s m args below meth cd D A nL Q cells slots pc lv [] tys ws := by
  subst hQ
  intro H locs ls hK hP hD hS hl
  exact W.vret C.1.1 C.1.2.1 C.2.2.2.2.2.1 (fun t ht hW => ⟨⟨(ws, tys), rfl, hw, by rw [ht]; exact hP, va_K.moved hW.alike hK, hD⟩, hS.F ht⟩) hS.2.2 hdg C.2.2.2.2.2.2
end ZROWS
