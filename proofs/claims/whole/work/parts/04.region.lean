/-! THE REGION. All cells of the class and of the reference are 48, at the addresses ad 0 .. ad 47; what changes in them are ints alone: a memory is cell, place -> int.
0 the object SleepRoads; 1, 2 town, tryout; 3 readings; 4 its array of sheets; 5, 6 the towns' arrays of sleepers; 7, 8 their goods; 9, 10 onTheWay; 11, 12, 13 rows of readings; 14 .. 17 sheets; 18 .. 21 their cells; 22 .. 25, 26 .. 29 the towns' sleepers; 30 the reference; 31 .. 47 its rows. -/
abbrev Mem : Type := Nat → Nat → Int32
def mu (μ : Mem) (c k : Nat) (v : Int32) : Mem := fun c' => if c' = c then upd (μ c) k v else μ c'
theorem mu_at (μ : Mem) (c k : Nat) (v : Int32) : mu μ c k v c k = v := by simp [mu, upd]
theorem mu_row (μ : Mem) (c k : Nat) (v : Int32) : mu μ c k v c = upd (μ c) k v := by simp [mu]
theorem mu_c (μ : Mem) {c c' : Nat} (k : Nat) (v : Int32) (h : c' ≠ c) : mu μ c k v c' = μ c' := by simp [mu, h]
theorem mu_k (μ : Mem) {c c' k k' : Nat} (v : Int32) (h : k' ≠ k) : mu μ c k v c' k' = μ c' k' := by
  by_cases hc : c' = c
  · subst hc; simp [mu, upd, h]
  · simp [mu, hc]
theorem mu_ne (μ : Mem) {c c' k k' : Nat} (v : Int32) (h : c' ≠ c ∨ k' ≠ k) : mu μ c k v c' k' = μ c' k' := by
  rcases h with h | h
  · rw [mu_c μ k v h]
  · exact mu_k μ v h
def mlen (c : Nat) : Nat := if c = 31 then 9 else if c ≤ 34 then 4 else if c = 35 then 9 else if c ≤ 38 then 4 else if c = 39 then 9 else if c = 40 then 61 else if c ≤ 43 then 8 else if c ≤ 45 then 4 else if c = 46 then 240 else 60
def alen (c : Nat) : Nat := if c ≤ 8 then 9 else if c ≤ 10 then 61 else if c ≤ 13 then 8 else if c ≤ 21 then 60 else mlen c
abbrev isA (c : Nat) : Prop := (7 ≤ c ∧ c ≤ 13) ∨ (18 ≤ c ∧ c ≤ 21) ∨ (31 ≤ c ∧ c ≤ 47)
def oci (c : Nat) : Nat := if c = 0 then 4 else if c ≤ 2 then 3 else if c = 3 then 0 else if c ≤ 17 then 1 else if c ≤ 29 then 2 else 5
abbrev isO (ci c : Nat) : Prop := (ci = 4 ∧ c = 0) ∨ (ci = 3 ∧ 1 ≤ c ∧ c ≤ 2) ∨ (ci = 0 ∧ c = 3) ∨ (ci = 1 ∧ 14 ≤ c ∧ c ≤ 17) ∨ (ci = 2 ∧ 22 ≤ c ∧ c ≤ 29) ∨ (ci = 5 ∧ c = 30)
def fl (ad : Nat → Nat) (ci c : Nat) (r : Nat → Int32) : List Value := match ci with
  | 0 => [.ref (ad 11), .ref (ad 12), .ref (ad 13), .int (r 3)]
  | 1 => [.ref (ad (c + 4)), .int (r 1), .int (r 2)]
  | 2 => [.int (r 0), .int (r 1), .int (r 2)]
  | 3 => [.ref (ad (c + 4)), .ref (ad (c + 6)), .ref (ad (c + 8)), .int (r 3), .int (r 4), .int (r 5), .int (r 6)]
  | 4 => [.ref (ad 1), .ref (ad 2), .ref (ad 3), .ref (ad 4), .int (r 4), .int (r 5)]
  | _ => [.int (r 0), .int (r 1), .ref (ad 31), .int (r 3), .ref (ad 32), .ref (ad 33), .ref (ad 34), .int (r 7), .int (r 8), .int (r 9), .int (r 10), .ref (ad 35), .ref (ad 36), .ref (ad 37), .ref (ad 38), .ref (ad 39), .int (r 16), .int (r 17), .int (r 18), .int (r 19), .ref (ad 40), .int (r 21), .ref (ad 41), .ref (ad 42), .ref (ad 43), .ref (ad 44), .ref (ad 45), .ref (ad 46), .ref (ad 47), .int (r 29)]
def xe (ad : Nat → Nat) (kI kS kL : ClassId) (c : Nat) (r : Nat → Int32) : va_E :=
  if c = 4 then .inl (kS, 4, .inr (.inr (.inr (.inr (fun j => some (ad (14 + j)))))))
  else if c = 5 ∨ c = 6 then .inl (kL, 4, .inr (.inr (.inr (.inr (fun j => some (ad (4 * (c - 4) + 18 + j)))))))
  else if isA c then .inl (kI, alen c, .inl r)
  else .inr (oci c, fl ad (oci c) c r)
def xW (ad : Nat → Nat) (kI kS kL : ClassId) (μ : Mem) : va_W := (List.range 48).map (fun c => (ad c, xe ad kI kS kL c (μ c)))
theorem xe_O {ad : Nat → Nat} {kI kS kL : ClassId} {ci c : Nat} (h : isO ci c) (r : Nat → Int32) : xe ad kI kS kL c r = .inr (ci, fl ad ci c r) := by
  have h1 : c ≠ 4 := by omega
  have h2 : ¬ (c = 5 ∨ c = 6) := by omega
  have h3 : ¬ isA c := by omega
  have h4 : oci c = ci := by
    unfold oci
    rcases h with h | h | h | h | h | h
    · rw [if_pos h.2]; exact h.1.symm
    · rw [if_neg (by omega), if_pos (by omega)]; exact h.1.symm
    · rw [if_neg (by omega), if_neg (by omega), if_pos (by omega)]; exact h.1.symm
    · rw [if_neg (by omega), if_neg (by omega), if_neg (by omega), if_pos (by omega)]; exact h.1.symm
    · rw [if_neg (by omega), if_neg (by omega), if_neg (by omega), if_neg (by omega), if_pos (by omega)]; exact h.1.symm
    · rw [if_neg (by omega), if_neg (by omega), if_neg (by omega), if_neg (by omega), if_neg (by omega)]; exact h.1.symm
  unfold xe
  rw [if_neg h1, if_neg h2, if_neg h3, h4]
theorem xe_A {ad : Nat → Nat} {kI kS kL : ClassId} {c : Nat} (h : isA c) (r : Nat → Int32) : xe ad kI kS kL c r = .inl (kI, alen c, .inl r) := by
  unfold xe
  rw [if_neg (by omega), if_neg (by omega), if_pos h]
theorem xe_S {ad : Nat → Nat} {kI kS kL : ClassId} (r : Nat → Int32) : xe ad kI kS kL 4 r = .inl (kS, 4, .inr (.inr (.inr (.inr (fun j => some (ad (14 + j))))))) := rfl
theorem xe_L {ad : Nat → Nat} {kI kS kL : ClassId} {c : Nat} (h : c = 5 ∨ c = 6) (r : Nat → Int32) : xe ad kI kS kL c r = .inl (kL, 4, .inr (.inr (.inr (.inr (fun j => some (ad (4 * (c - 4) + 18 + j))))))) := by
  unfold xe
  rw [if_neg (by omega), if_pos h]
theorem xW_get {ad : Nat → Nat} {kI kS kL : ClassId} {c : Nat} (h : c < 48) (μ : Mem) : (xW ad kI kS kL μ)[c]? = some (ad c, xe ad kI kS kL c (μ c)) := by
  simp [xW, h]
theorem xW_set {ad : Nat → Nat} {kI kS kL : ClassId} {c : Nat} (h : c < 48) (μ : Mem) (k : Nat) (v : Int32) : (xW ad kI kS kL μ).set c (ad c, xe ad kI kS kL c (upd (μ c) k v)) = xW ad kI kS kL (mu μ c k v) := by
  apply List.ext_getElem?
  intro j
  by_cases hj : j = c
  · subst hj
    rw [List.getElem?_set_self (by simp [xW, h]), xW_get h, mu_row]
  · rw [List.getElem?_set_ne (Ne.symm hj)]
    simp only [xW, List.getElem?_map]
    by_cases h8 : j < 48
    · simp [List.getElem?_range, h8, mu, hj]
    · simp [h8]
def mr (μ : Mem) (c : Nat) (r : Nat → Int32) : Mem := fun c' => if c' = c then r else μ c'
theorem mr_row (μ : Mem) (c : Nat) (r : Nat → Int32) : mr μ c r c = r := by simp [mr]
theorem mr_c (μ : Mem) {c c' : Nat} (r : Nat → Int32) (h : c' ≠ c) : mr μ c r c' = μ c' := by simp [mr, h]
theorem xW_setr {ad : Nat → Nat} {kI kS kL : ClassId} {c : Nat} (h : c < 48) (μ : Mem) (r : Nat → Int32) : (xW ad kI kS kL μ).set c (ad c, xe ad kI kS kL c r) = xW ad kI kS kL (mr μ c r) := by
  apply List.ext_getElem?
  intro j
  by_cases hj : j = c
  · subst hj
    rw [List.getElem?_set_self (by simp [xW, h]), xW_get h, mr_row]
  · rw [List.getElem?_set_ne (Ne.symm hj)]
    simp only [xW, List.getElem?_map]
    by_cases h8 : j < 48
    · simp [List.getElem?_range, h8, mr, hj]
    · simp [h8]
theorem xW_at {ad : Nat → Nat} {kI kS kL : ClassId} {μ : Mem} {k : Nat} {q : Nat × va_E} (h : (xW ad kI kS kL μ)[k]? = some q) : k < 48 ∧ q = (ad k, xe ad kI kS kL k (μ k)) := by
  have hk : k < 48 := by have := (List.getElem?_eq_some_iff.mp h).1; simpa [xW] using this
  exact ⟨hk, by rw [xW_get hk] at h; exact (Option.some.inj h).symm⟩
abbrev tyL (kI kS kL : ClassId) : List (ClassId × FieldType) := [(kI, .int), (kS, .object "SleepRoads$Sheet"), (kL, .object "SleepRoads$Sleeper")]
def Inj (ad : Nat → Nat) : Prop := ∀ i j, i < 48 → j < 48 → ad i = ad j → i = j
theorem xW_D {ad : Nat → Nat} {kI kS kL : ClassId} {μ : Mem} {A : Nat → Prop} (hi : Inj ad) (hA : ∀ c, c < 48 → A (ad c)) : va_D A (xW ad kI kS kL μ) := by
  refine ⟨fun i j p q h1 h2 e => ?_, fun k q h => ?_⟩
  · obtain ⟨a1, rfl⟩ := xW_at h1
    obtain ⟨a2, rfl⟩ := xW_at h2
    exact hi i j a1 a2 e
  · obtain ⟨a1, rfl⟩ := xW_at h
    exact hA k a1
theorem xW_inj {ad : Nat → Nat} {kI kS kL : ClassId} {μ : Mem} {A : Nat → Prop} (h : va_D A (xW ad kI kS kL μ)) : Inj ad := fun i j hi hj e => h.1 i j _ _ (xW_get hi μ) (xW_get hj μ) e
/-- the cells of the region, and all that is new -/
def Aad (ad : Nat → Nat) (sz : Nat) : Nat → Prop := fun q => (∃ c, c < 48 ∧ q = ad c) ∨ sz ≤ q
def mS (D : va_G) (ad : Nat → Nat) (kI kS kL : ClassId) (μ : Mem) (sz : Nat) : State → Prop := fun U => U.heap.size = sz ∧ va_P D vwCl (xW ad kI kS kL μ) U.heap ∧ va_K D vwCl (tyL kI kS kL) U ∧ Inj ad ∧ NZ U
def mB (D : va_G) (ad : Nat → Nat) (kI kS kL : ClassId) (μ : Mem) (t : State) : Prop := va_P D vwCl (xW ad kI kS kL μ) t.heap
def W0 (y : MethodName) (bytes : ByteArray) (maxL : Nat) (ret : Option FieldType) : List Cond := .code y bytes maxL ret :: TB
abbrev rmY (fr lo : Nat) : Room := { frames := fr, cells := 0, slots := 0, locals := lo }
/-- contracts: an int (boolean), a long, nothing, a reference that may be null -/
def MI (l : Launch) (D : va_G) (ad : Nat → Nat) (kI kS kL : ClassId) (y : MethodName) (bytes : ByteArray) (maxL : Nat) (ret : Option FieldType) (fr lo : Nat) (av : List Value) (μ : Mem) (post : Int32 → Mem → Prop) : Prop := ∀ sz, Met l y (W0 y bytes maxL ret) (rmY fr lo) (va_Pc av (mS D ad kI kS kL μ sz)) (va_Qi post (mB D ad kI kS kL) (Aad ad sz)) 0 0 (Aad ad sz)
def ML (l : Launch) (D : va_G) (ad : Nat → Nat) (kI kS kL : ClassId) (y : MethodName) (bytes : ByteArray) (maxL : Nat) (ret : Option FieldType) (fr lo : Nat) (av : List Value) (μ : Mem) (post : Int64 → Mem → Prop) : Prop := ∀ sz, Met l y (W0 y bytes maxL ret) (rmY fr lo) (va_Pc av (mS D ad kI kS kL μ sz)) (va_Ql post (mB D ad kI kS kL) (Aad ad sz)) 0 0 (Aad ad sz)
def MV (l : Launch) (D : va_G) (ad : Nat → Nat) (kI kS kL : ClassId) (y : MethodName) (bytes : ByteArray) (maxL : Nat) (ret : Option FieldType) (fr lo : Nat) (av : List Value) (μ : Mem) (post : Mem → Prop) : Prop := ∀ sz, Met l y (W0 y bytes maxL ret) (rmY fr lo) (va_Pc av (mS D ad kI kS kL μ sz)) (va_Qv post (mB D ad kI kS kL) (Aad ad sz)) 0 0 (Aad ad sz)
def MN (l : Launch) (D : va_G) (ad : Nat → Nat) (kI kS kL : ClassId) (y : MethodName) (bytes : ByteArray) (maxL : Nat) (ret : Option FieldType) (fr lo : Nat) (av : List Value) (μ : Mem) (post : Option Nat → Mem → Prop) : Prop := ∀ sz, Met l y (W0 y bytes maxL ret) (rmY fr lo) (va_Pc av (mS D ad kI kS kL μ sz)) (va_Qq post (mB D ad kI kS kL) (Aad ad sz)) 0 0 (Aad ad sz)
/-- what stays the same through a body -/
def Cx (p : Program) (s : State) (m : MethodId) (args : Array Value) (meth : Method) (cd : Code) (cc : ByteArray) (nL : Nat) (ret : Option FieldType) (own : String) (D : va_G) (ad : Nat → Nat) (kI kS kL : ClassId) (A : Nat → Prop) : Prop :=
  CallFix p m cd cc nL s args TB own ∧ va_K D vwCl (tyL kI kS kL) s ∧ Inj ad ∧ (∀ c, c < 48 → A (ad c)) ∧ (∀ q, s.heap.size ≤ q → A q) ∧ NZ s ∧ meth.sig.returnType = ret ∧ meth.locks = false
def Y (p : Program) (l : Launch) (e : Env) (R : Room) (s : State) (m : MethodId) (args : Array Value) (below : List Frame) (meth : Method) (cd : Code) (D : va_G) (ad : Nat → Nat) (kI kS kL : ClassId) (A : Nat → Prop) (nL : Nat) (cells slots : Nat) (Q : State → Prop) (pc : Nat) (lv : List (Nat × Value)) (st : List Value) (μ : Mem) : Prop :=
  ∀ (H : Heap) (locs : List Loc) (ls : Array Slot), va_P D vwCl (xW ad kI kS kL μ) H → va_S A s.heap H locs → lv_has ls nL lv → W p l e R s m args below meth cd H locs cells slots Q (F0 m pc ls st)
theorem mS_blind {D : va_G} {ad : Nat → Nat} {kI kS kL : ClassId} {μ : Mem} {sz : Nat} {av : List Value} : FrameBlind (va_Pc av (mS D ad kI kS kL μ sz)) := fun a U g mk q => by
  obtain ⟨q0, q1, q2, q3, q4, q5⟩ := q
  exact ⟨q0, q1, q2, va_K.moved (u := U) (U := U.calling g mk a) (Vm.Alike.refl U.vm) q3, q4, q5.same (u := U) (U := U.calling g mk a) rfl⟩
section BODY
variable {l : Launch} {D : va_G} {ad : Nat → Nat} {kI kS kL : ClassId} {y : MethodName} {bytes : ByteArray} {maxL : Nat} {ret : Option FieldType} {fr lo : Nat} {av : List Value} {μ : Mem}
theorem met_of (own : String) (ho : y.cls = own) (Qc : (Nat → Prop) → Array Value → State → Outcome → State → Prop) (hy : plainName y.cls = true) {lv : List (Nat × Value)} (hlv : lv_args 0 av = lv) (hle : (lg_sl av).length ≤ maxL)
    (body : ∀ (p : Program) (e : Env) (s : State) (m : MethodId) (args : Array Value) (below : List Frame) (meth : Method) (cd : Code) (A : Nat → Prop), A = Aad ad s.heap.size → Cx p s m args meth cd bytes maxL ret own D ad kI kS kL A →
      (meth.name = y.name) → ∀ Q : State → Prop, Q = MQ below (Qc A) args s 0 0 A → Y p l e (rmY fr lo) s m args below meth cd D ad kI kS kL A maxL 0 0 Q 0 lv [] μ) :
    ∀ sz, Met l y (W0 y bytes maxL ret) (rmY fr lo) (va_Pc av (mS D ad kI kS kL μ sz)) (Qc (Aad ad sz)) 0 0 (Aad ad sz) := by
  intro sz
  refine Met.ofW (cc := bytes) (maxL := maxL) (ret := ret) hy rfl ?_
  intro p e s m args below meth c s₁ B hml hv
  obtain ⟨rfl, hsz, hP, hK, hD0, hN⟩ := hv
  subst hsz
  have hts := atoms_spec (ws := W0 y bytes maxL ret) B.pre
  have hown : s.vm.findClass y.cls = some m.cls := findClass_of_methodNamed B.named
  have hl := lv_entry av (n := maxL) hle
  rw [lg_entry_eq]
  refine body p e s m av.toArray below meth c (Aad ad s.heap.size) rfl ⟨⟨B.exec, B.bytes, hml, by rw [← ho]; exact hown, fun w h => hts w (List.mem_cons_of_mem _ h)⟩, hK, hD0, fun c h => Or.inl ⟨c, h, rfl⟩, fun q h => Or.inr h, hN, B.returns, B.notSynchronized⟩ (name_of_methodNamed B.named B.method).1 _ rfl s.heap [] _ hP va_S.rf (by rw [← hlv]; exact hl)
theorem met_I (own : String) (ho : y.cls = own) {post : Int32 → Mem → Prop} (hy : plainName y.cls = true) {lv : List (Nat × Value)} (hlv : lv_args 0 av = lv) (hle : (lg_sl av).length ≤ maxL)
    (body : ∀ (p : Program) (e : Env) (s : State) (m : MethodId) (args : Array Value) (below : List Frame) (meth : Method) (cd : Code) (A : Nat → Prop), A = Aad ad s.heap.size → Cx p s m args meth cd bytes maxL ret own D ad kI kS kL A →
      (meth.name = y.name) → ∀ Q : State → Prop, Q = MQ below (va_Qi post (mB D ad kI kS kL) A) args s 0 0 A → Y p l e (rmY fr lo) s m args below meth cd D ad kI kS kL A maxL 0 0 Q 0 lv [] μ) :
    MI l D ad kI kS kL y bytes maxL ret fr lo av μ post := met_of own ho (fun A => va_Qi post (mB D ad kI kS kL) A) hy hlv hle body
theorem met_L (own : String) (ho : y.cls = own) {post : Int64 → Mem → Prop} (hy : plainName y.cls = true) {lv : List (Nat × Value)} (hlv : lv_args 0 av = lv) (hle : (lg_sl av).length ≤ maxL)
    (body : ∀ (p : Program) (e : Env) (s : State) (m : MethodId) (args : Array Value) (below : List Frame) (meth : Method) (cd : Code) (A : Nat → Prop), A = Aad ad s.heap.size → Cx p s m args meth cd bytes maxL ret own D ad kI kS kL A →
      (meth.name = y.name) → ∀ Q : State → Prop, Q = MQ below (va_Ql post (mB D ad kI kS kL) A) args s 0 0 A → Y p l e (rmY fr lo) s m args below meth cd D ad kI kS kL A maxL 0 0 Q 0 lv [] μ) :
    ML l D ad kI kS kL y bytes maxL ret fr lo av μ post := met_of own ho (fun A => va_Ql post (mB D ad kI kS kL) A) hy hlv hle body
theorem met_V (own : String) (ho : y.cls = own) {post : Mem → Prop} (hy : plainName y.cls = true) {lv : List (Nat × Value)} (hlv : lv_args 0 av = lv) (hle : (lg_sl av).length ≤ maxL)
    (body : ∀ (p : Program) (e : Env) (s : State) (m : MethodId) (args : Array Value) (below : List Frame) (meth : Method) (cd : Code) (A : Nat → Prop), A = Aad ad s.heap.size → Cx p s m args meth cd bytes maxL ret own D ad kI kS kL A →
      (meth.name = y.name) → ∀ Q : State → Prop, Q = MQ below (va_Qv post (mB D ad kI kS kL) A) args s 0 0 A → Y p l e (rmY fr lo) s m args below meth cd D ad kI kS kL A maxL 0 0 Q 0 lv [] μ) :
    MV l D ad kI kS kL y bytes maxL ret fr lo av μ post := met_of own ho (fun A => va_Qv post (mB D ad kI kS kL) A) hy hlv hle body
theorem met_N (own : String) (ho : y.cls = own) {post : Option Nat → Mem → Prop} (hy : plainName y.cls = true) {lv : List (Nat × Value)} (hlv : lv_args 0 av = lv) (hle : (lg_sl av).length ≤ maxL)
    (body : ∀ (p : Program) (e : Env) (s : State) (m : MethodId) (args : Array Value) (below : List Frame) (meth : Method) (cd : Code) (A : Nat → Prop), A = Aad ad s.heap.size → Cx p s m args meth cd bytes maxL ret own D ad kI kS kL A →
      (meth.name = y.name) → ∀ Q : State → Prop, Q = MQ below (va_Qq post (mB D ad kI kS kL) A) args s 0 0 A → Y p l e (rmY fr lo) s m args below meth cd D ad kI kS kL A maxL 0 0 Q 0 lv [] μ) :
    MN l D ad kI kS kL y bytes maxL ret fr lo av μ post := met_of own ho (fun A => va_Qq post (mB D ad kI kS kL) A) hy hlv hle body
end BODY
