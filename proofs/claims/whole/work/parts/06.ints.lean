/-! plain facts of ints -/
def inB (x : Int32) (n : Nat) : Bool := decide (0 ≤ x.toInt ∧ x.toInt < (n : Int))
theorem inB_t {x : Int32} {n : Nat} (h : 0 ≤ x.toInt ∧ x.toInt < (n : Int)) : inB x n = true := decide_eq_true h
theorem inB_f {x : Int32} {n : Nat} (h : x.toInt < 0 ∨ (n : Int) ≤ x.toInt) : inB x n = false := decide_eq_false (by omega)
theorem inB_iff {x : Int32} {n : Nat} : inB x n = true ↔ (0 ≤ x.toInt ∧ x.toInt < (n : Int)) := decide_eq_true_iff
theorem inB_n {x : Int32} {n : Nat} (h : inB x n = false) : x.toInt < 0 ∨ (n : Int) ≤ x.toInt := by
  have := of_decide_eq_false h
  omega
theorem inB_of {x : Int32} {n : Nat} (h : inB x n = true) (hn : n < 2 ^ 31) : ∃ j, j < n ∧ x = nI j := vp_in_of (vp_in_iff.mpr (inB_iff.mp h)) hn
theorem inB_nI {j n : Nat} (h : j < n) (hn : n < 2 ^ 31) : inB (nI j) n = true := inB_t (by rw [nI_toInt (by omega)]; omega)
theorem inB_nI' {j n : Nat} (h : n ≤ j) (hn : j < 2 ^ 31) : inB (nI j) n = false := inB_f (by rw [nI_toInt (by omega)]; omega)
def ix (x : Int32) : Nat := x.toNatClampNeg
theorem ix_nI {j : Nat} (h : j < 2 ^ 31) : ix (nI j) = j := nI_clamp h
/-- an answer that is yes or no -/
def bo (r : Int32) (b : Bool) : Prop := (b = true ∧ r = nI 1) ∨ (b = false ∧ r = nI 0)
theorem i_inc (a : Nat) : nI a + Int32.ofInt 1 = nI (a + 1) := by
  rw [show Int32.ofInt 1 = nI 1 by decide]; exact nI_add a 1
theorem i_dec {a : Nat} (h : 0 < a) : nI a + Int32.ofInt (-1) = nI (a - 1) := by
  obtain ⟨b, rfl⟩ : ∃ b, a = b + 1 := ⟨a - 1, by omega⟩
  rw [show Int32.ofInt (-1) = -1 by decide]
  exact pk_m1 b
theorem i_smod : ∀ b, b < 32 → (((nI b &&& 31).toBitVec).smod 32).toNat = b := by decide +kernel
theorem i_shl {a b : Nat} (hb : b < 32) (h : a * 2 ^ b < 2 ^ 32) : nI a <<< (nI b &&& 31) = nI (a * 2 ^ b) := pk_shlN _ b (i_smod b hb) h
theorem i_shr {a b : Nat} (hb : b < 32) (h : a < 2 ^ 31) : nI a >>> (nI b &&& 31) = nI (a / 2 ^ b) := pk_shrN h _ b (i_smod b hb)
theorem i_and (a b : Nat) : nI a &&& nI b = nI (a &&& b) := by
  apply Int32.toBitVec_inj.mp
  show (BitVec.ofNat 32 a &&& BitVec.ofNat 32 b) = BitVec.ofNat 32 (a &&& b)
  exact (BitVec.ofNat_and).symm
theorem i_or (a b : Nat) : nI a ||| nI b = nI (a ||| b) := by
  apply Int32.toBitVec_inj.mp
  show (BitVec.ofNat 32 a ||| BitVec.ofNat 32 b) = BitVec.ofNat 32 (a ||| b)
  exact (BitVec.ofNat_or).symm
theorem i_rem {a d : Nat} (ha : a < 2 ^ 31) (h0 : 0 < d) (hd : d < 2 ^ 31) : nI a - nI a / nI d * nI d = nI (a % d) := pk_rem ha h0 hd
theorem i_div {a d : Nat} (ha : a < 2 ^ 31) (h0 : 0 < d) (hd : d < 2 ^ 31) : nI a / nI d = nI (a / d) := pk_div ha h0 hd
theorem i_inj {a b : Nat} (ha : a < 2 ^ 31) (hb : b < 2 ^ 31) (h : nI a = nI b) : a = b := (nI_eq ha hb).mp h
/-- longs: their numbers -/
theorem l_i (x : Int32) : x.toInt64.toInt = x.toInt := Int32.toInt_toInt64 x
theorem l_sub {x y : Int64} {a b : Int} (hx : x.toInt = a) (hy : y.toInt = b) (h : -4611686018427387904 < a ∧ a < 4611686018427387904 ∧ -4611686018427387904 < b ∧ b < 4611686018427387904) : (x - y).toInt = a - b := by
  rw [Int64.toInt_sub, hx, hy]
  rw [Int.bmod_eq_of_le] <;> omega
theorem l_add {x y : Int64} {a b : Int} (hx : x.toInt = a) (hy : y.toInt = b) (h : -4611686018427387904 < a ∧ a < 4611686018427387904 ∧ -4611686018427387904 < b ∧ b < 4611686018427387904) : (x + y).toInt = a + b := by
  rw [Int64.toInt_add, hx, hy]
  rw [Int.bmod_eq_of_le] <;> omega
theorem l_cmp {x y : Int64} {a b : Int} (hx : x.toInt = a) (hy : y.toInt = b) : (lg_cmp x y).toInt = if b < a then 1 else if a = b then 0 else -1 := by
  have h1 : y < x ↔ b < a := by rw [Int64.lt_iff_toInt_lt, hx, hy]
  have h2 : x = y ↔ a = b := by rw [← Int64.toInt_inj, hx, hy]
  unfold lg_cmp
  by_cases c1 : y < x
  · rw [if_pos c1, if_pos (h1.mp c1)]; decide
  · rw [if_neg c1, if_neg (fun q => c1 (h1.mpr q))]
    by_cases c2 : x = y
    · rw [if_pos c2, if_pos (h2.mp c2)]; decide
    · rw [if_neg c2, if_neg (fun q => c2 (h2.mpr q))]; decide
