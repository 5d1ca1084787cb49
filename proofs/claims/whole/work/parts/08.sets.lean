/-! sets of places, as whole numbers -/
def bs : Nat → (Nat → Bool) → Nat
  | 0, _ => 0
  | P + 1, f => bs P f ||| (if f P = true then 2 ^ P else 0)
theorem bs_bit (P : Nat) (f : Nat → Bool) (i : Nat) : (bs P f).testBit i = (decide (i < P) && f i) := by
  induction P with
  | zero => simp [bs]
  | succ P ih =>
    rw [bs, Nat.testBit_or, ih]
    by_cases hf : f P = true
    · rw [if_pos hf, Nat.testBit_two_pow]
      by_cases h : P = i
      · subst h; simp [hf]
      · have : (i < P + 1) ↔ i < P := by omega
        simp [h, this]
    · rw [if_neg hf]
      by_cases h : P = i
      · subst h; simp at hf; simp [hf]
      · have : (i < P + 1) ↔ i < P := by omega
        simp [this]
theorem bs_lt (P : Nat) (f : Nat → Bool) : bs P f < 2 ^ P := by
  induction P with
  | zero => simp [bs]
  | succ P ih =>
    rw [bs]
    apply Nat.or_lt_two_pow
    · exact Nat.lt_of_lt_of_le ih (Nat.pow_le_pow_right (by decide) (by omega))
    · split
      · exact Nat.pow_lt_pow_right (by decide) (by omega)
      · exact Nat.two_pow_pos _
theorem bs_ext {P : Nat} {f g : Nat → Bool} (h : ∀ p, p < P → f p = g p) : bs P f = bs P g := by
  apply Nat.eq_of_testBit_eq
  intro i
  rw [bs_bit, bs_bit]
  by_cases hi : i < P
  · rw [h i hi]
  · simp [hi]
theorem bs_full (P : Nat) : bs P (fun _ => true) = 2 ^ P - 1 := by
  apply Nat.eq_of_testBit_eq
  intro i
  rw [bs_bit, Nat.testBit_two_pow_sub_one]
  simp
theorem bs_and (P : Nat) (f g : Nat → Bool) : bs P f &&& bs P g = bs P (fun p => f p && g p) := by
  apply Nat.eq_of_testBit_eq
  intro i
  rw [Nat.testBit_and, bs_bit, bs_bit, bs_bit]
  cases decide (i < P) <;> simp
theorem bs_of {P s : Nat} (h : s < 2 ^ P) : bs P s.testBit = s := by
  apply Nat.eq_of_testBit_eq
  intro i
  rw [bs_bit]
  by_cases hi : i < P
  · simp [hi]
  · have : s.testBit i = false := Nat.testBit_lt_two_pow (Nat.lt_of_lt_of_le h (Nat.pow_le_pow_right (by decide) (by omega)))
    simp [this]
theorem bs_or1 {P q : Nat} (hq : q < P) (f : Nat → Bool) : bs P f ||| 2 ^ q = bs P (fun p => f p || decide (q = p)) := by
  apply Nat.eq_of_testBit_eq
  intro i
  rw [Nat.testBit_or, bs_bit, bs_bit, Nat.testBit_two_pow]
  by_cases hi : i < P
  · simp [hi]
  · have : q ≠ i := by omega
    simp [hi, this]
theorem pow9 {P : Nat} (h : P ≤ 9) : 2 ^ P ≤ 512 := Nat.pow_le_pow_right (n := 2) (by decide) h
theorem set9 {P s : Nat} (h : P ≤ 9) (hs : s < 2 ^ P) : s < 512 := Nat.lt_of_lt_of_le hs (pow9 h)
theorem i_clr {P q : Nat} (f : Nat → Bool) : nI (bs P f) &&& (nI (2 ^ q) ^^^ (-1)) = nI (bs P (fun p => f p && !decide (q = p))) := by
  apply Int32.toBitVec_inj.mp
  show (BitVec.ofNat 32 (bs P f) &&& (BitVec.ofNat 32 (2 ^ q) ^^^ BitVec.allOnes 32)) = BitVec.ofNat 32 (bs P (fun p => f p && !decide (q = p)))
  apply BitVec.eq_of_getLsbD_eq
  intro i hi
  rw [BitVec.getLsbD_and, BitVec.getLsbD_xor, BitVec.getLsbD_ofNat, BitVec.getLsbD_ofNat, BitVec.getLsbD_ofNat, BitVec.getLsbD_allOnes, bs_bit, bs_bit, Nat.testBit_two_pow]
  simp only [hi, decide_true, Bool.true_and]
  cases decide (i < P) <;> cases f i <;> simp
/-- which of k sleepers of w leave p free -/
def frB (τ : Tn) (w m k p : Nat) : Bool := (List.range k).all (fun a => !(w.testBit a && decide (pl τ a m = p)))
def frS (τ : Tn) (w m : Nat) : Nat := bs (tP τ) (frB τ w m (tS τ))
theorem frB_0 (τ : Tn) (w m p : Nat) : frB τ w m 0 p = true := rfl
theorem frB_s (τ : Tn) (w m k p : Nat) : frB τ w m (k + 1) p = (frB τ w m k p && !(w.testBit k && decide (pl τ k m = p))) := by
  simp [frB, List.range_succ]
theorem frS_lt (τ : Tn) (w m : Nat) : frS τ w m < 2 ^ tP τ := bs_lt _ _
theorem frS_bit (τ : Tn) (w m p : Nat) (h : p < tP τ) : (frS τ w m).testBit p = frB τ w m (tS τ) p := by
  rw [frS, bs_bit]; simp [h]
/-- a set and its neighbours -/
def nbS (P s : Nat) : Nat := bs P (fun p => s.testBit p || (s.testBit ((p + 1) % P) || s.testBit ((p + P - 1) % P)))
theorem nbS_lt (P s : Nat) : nbS P s < 2 ^ P := bs_lt _ _
theorem nbS_eq : ∀ P, P < 10 → 3 ≤ P → ∀ s, s < 2 ^ P → ((s ||| (s * 2 ^ 1 ||| s / 2 ^ (P - 1))) ||| (s / 2 ^ 1 ||| s * 2 ^ (P - 1))) &&& (2 ^ P - 1) = nbS P s := by decide +kernel
/-- where one can be behind m minutes -/
def rcS (τ : Tn) (w fr : Nat) : Nat → Nat
  | 0 => 2 ^ fr
  | m + 1 => nbS (tP τ) (rcS τ w fr m) &&& frS τ w (m + 1)
theorem rcS_lt {τ : Tn} {w fr : Nat} (h : fr < tP τ) : ∀ m, rcS τ w fr m < 2 ^ tP τ
  | 0 => Nat.pow_lt_pow_right (by decide) h
  | m + 1 => Nat.lt_of_le_of_lt Nat.and_le_left (nbS_lt _ _)
/-- the first of k minutes from n on in which it comes there -/
def sn (R : Nat → Nat) (to : Nat) : Nat → Nat → Option Nat
  | _, 0 => none
  | n, k + 1 => if (R n).testBit to = true then some n else sn R to (n + 1) k
def soon (τ : Tn) (w fr to : Nat) : Option Nat := sn (rcS τ w fr) to 0 61
def oI (o : Option Nat) : Int32 := match o with
  | some n => nI n
  | none => -9
