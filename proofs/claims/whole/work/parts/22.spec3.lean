/-! sheets, ways, odds: what each call answers -/
abbrev lostL : Int64 := -9223372036854775808
def q_sheet (k l n : Int32) : Int32 := if inB k 4 = true then (if inB l 3 = true ∧ n.toInt ≤ 60 then (if n.toInt < 0 then -10 - nI 4 else nI 1) else -2) else -1
def f_sheet (k l n : Int32) : Nat := if inB k 4 = true ∧ inB l 3 = true ∧ n.toInt < 0 then 4 else 0
def ok_sheet (k l n : Int32) : Bool := inB k 4 && (inB l 3 && inB n 61)
def q_lose (θ : Tn) (k : Int32) : Int32 := if inB k 4 = true then (if θ (ix k) 0 = 0 then nI 0 else nI 1) else -1
def q_put (θ : Tn) (k i : Int32) : Int32 := if inB k 4 = true then (if θ (ix k) 0 = 0 then -10 - nI 1 else if inB i (θ (ix k) 1) = true then nI 1 else -10 - nI 3) else -1
def f_put (θ : Tn) (k i : Int32) : Nat := if inB k 4 = true then (if θ (ix k) 0 = 0 then 1 else if inB i (θ (ix k) 1) = true then 0 else 3) else 0
def ok_put (θ : Tn) (k i : Int32) : Bool := inB k 4 && (decide (0 < θ (ix k) 0) && inB i (θ (ix k) 1))
def q_cell (θ : Tn) (ζ : Nat → Nat → Int32) (k i l : Int32) : Int64 := if inB k 4 = true ∧ inB l 3 = true ∧ farF (θ (ix k) 0) (ix l) = 0 ∧ inB i (θ (ix k) 1) = true then (ζ (ix k) (ix i)).toInt64 else lostL
def f_cell (θ : Tn) (k i l : Int32) : Nat := if inB k 4 = true ∧ inB l 3 = true then (if farF (θ (ix k) 0) (ix l) = 0 then (if inB i (θ (ix k) 1) = true then 0 else 3) else farF (θ (ix k) 0) (ix l)) else 0
def ok_copy (θ : Tn) (k i o j n : Int32) : Bool := inB k 4 && (inB o 4 && (decide (0 < θ (ix k) 0 ∧ 0 < θ (ix o) 0 ∧ θ (ix k) 0 = θ (ix o) 0) && (focB (θ (ix k) 1) i n && focB (θ (ix o) 1) j n)))
def f_copy (θ : Tn) (k i o j n : Int32) : Nat := if inB k 4 = true ∧ inB o 4 = true then (if θ (ix k) 0 = 0 ∨ θ (ix o) 0 = 0 then 1 else if θ (ix k) 0 = θ (ix o) 0 then (if focB (θ (ix k) 1) i n = true ∧ focB (θ (ix o) 1) j n = true then 0 else 3) else 2) else 0
def q_copy (θ : Tn) (k i o j n : Int32) : Int32 := if inB k 4 = true ∧ inB o 4 = true then (if f_copy θ k i o j n = 0 then n else -10 - nI (f_copy θ k i o j n)) else -1
theorem soon_lt {R : Nat → Nat} {to m : Nat} : ∀ {k n : Nat}, sn R to n k = some m → m < n + k
  | 0, n, h => by cases h
  | k + 1, n, h => by
    rw [sn] at h
    split at h
    · cases h; omega
    · have := soon_lt h; omega
theorem soon_61 {τ : Tn} {w f t m : Nat} (h : soon τ w f t = some m) : m < 61 := by have := soon_lt h; omega
theorem soon_at {R : Nat → Nat} {to m : Nat} : ∀ {k n : Nat}, sn R to n k = some m → (R m).testBit to = true
  | 0, n, h => by cases h
  | k + 1, n, h => by
    rw [sn] at h
    split at h
    · cases h; assumption
    · exact soon_at h
theorem after_back {P p a : Nat} (hp : p < P) : ∃ b, b ≤ 2 ∧ after P (after P p a) b = p := by
  by_cases h1 : a = 1
  · refine ⟨2, by omega, ?_⟩
    subst h1
    show (((p + 1) % P) + P - 1) % P = p
    by_cases h : p + 1 = P
    · rw [h, Nat.mod_self, Nat.mod_eq_of_lt (by omega)]; omega
    · rw [Nat.mod_eq_of_lt (show p + 1 < P by omega), show p + 1 + P - 1 = p + P by omega, Nat.add_mod_right, Nat.mod_eq_of_lt hp]
  · by_cases h2 : a = 2
    · refine ⟨1, by omega, ?_⟩
      subst h2
      show (((p + P - 1) % P) + 1) % P = p
      by_cases h : p = 0
      · subst h
        rw [Nat.mod_eq_of_lt (show 0 + P - 1 < P by omega), show 0 + P - 1 + 1 = P by omega, Nat.mod_self]
      · rw [show p + P - 1 = (p - 1) + P by omega, Nat.add_mod_right, Nat.mod_eq_of_lt (show p - 1 < P by omega), show p - 1 + 1 = p by omega, Nat.mod_eq_of_lt hp]
    · refine ⟨0, by omega, ?_⟩
      have : after P p a = p := by unfold after; rw [if_neg h1, if_neg h2]
      rw [this]
      rfl
theorem nbS_in {P s p : Nat} (hp : p < P) : (nbS P s).testBit p = true ↔ ∃ a, a ≤ 2 ∧ s.testBit (after P p a) = true := by
  constructor
  · intro h
    obtain ⟨a, h1, -, h2⟩ := faS_ex hp h
    exact ⟨a, h1, h2⟩
  · intro ⟨a, h1, h2⟩
    rw [nbS, bs_bit]
    simp only [hp, decide_true, Bool.true_and, Bool.or_eq_true]
    rcases (show a = 0 ∨ a = 1 ∨ a = 2 by omega) with rfl | rfl | rfl
    · exact Or.inl h2
    · exact Or.inr (Or.inl h2)
    · exact Or.inr (Or.inr h2)
theorem bit_lt {P s p : Nat} (hs : s < 2 ^ P) (h : s.testBit p = true) : p < P := by
  rcases Nat.lt_or_ge p P with q | q
  · exact q
  · rw [Nat.testBit_lt_two_pow (Nat.lt_of_lt_of_le hs (Nat.pow_le_pow_right (by decide) q))] at h
    cases h
theorem way_meet {τ : Tn} {f t n : Nat} (hf : f < tP τ) (h0 : (frS τ 15 0).testBit f = true) (ht : (rcS τ 15 f n).testBit t = true) : ∀ m, m ≤ n → ∃ p, (rcS τ 15 f (n - m)).testBit p = true ∧ (bwS τ t n (n - m)).testBit p = true := by
  have hin : ∀ m p, (rcS τ 15 f m).testBit p = true → (frS τ 15 m).testBit p = true := by
    intro m p h
    cases m with
    | zero =>
      rw [rcS, Nat.testBit_two_pow] at h
      rw [← of_decide_eq_true h]; exact h0
    | succ m => rw [rcS, Nat.testBit_and, Bool.and_eq_true] at h; exact h.2
  intro m
  induction m with
  | zero =>
    intro _
    refine ⟨t, ht, ?_⟩
    rw [Nat.sub_zero, bwS, Nat.sub_self, bj, Nat.testBit_and, Bool.and_eq_true]
    exact ⟨by rw [Nat.testBit_two_pow]; simp, hin n t ht⟩
  | succ m ih =>
    intro hm
    obtain ⟨p, h1, h2⟩ := ih (by omega)
    have hp : p < tP τ := bit_lt (rcS_lt hf _) h1
    have e : n - m = (n - (m + 1)) + 1 := by omega
    rw [e, rcS, Nat.testBit_and, Bool.and_eq_true] at h1
    obtain ⟨a, ha, hq⟩ := (nbS_in hp).mp h1.1
    refine ⟨after (tP τ) p a, hq, ?_⟩
    obtain ⟨b, hb, hback⟩ := after_back (a := a) hp
    rw [bwS, show n - (n - (m + 1)) = m + 1 by omega, bj, Nat.testBit_and, Bool.and_eq_true]
    refine ⟨(nbS_in (after_lt hp)).mpr ⟨b, hb, ?_⟩, hin _ _ hq⟩
    rw [hback]
    have e2 : bwS τ t n (n - m) = bj τ t n m &&& frS τ 15 (n - m) := bwS_j (by omega)
    rw [← e2]; exact h2
theorem way_0 {τ : Tn} {f t n : Nat} (hf : f < tP τ) (h0 : (frS τ 15 0).testBit f = true) (h : soon τ 15 f t = some n) : (bwS τ t n 0).testBit f = true := by
  obtain ⟨p, h1, h2⟩ := way_meet hf h0 (soon_at h) n (Nat.le_refl n)
  rw [Nat.sub_self] at h1 h2
  rw [rcS, Nat.testBit_two_pow] at h1
  rw [of_decide_eq_true h1]; exact h2
def q_soonest (τ : Tn) (f t k : Int32) : Int32 := if inB f (tP τ) = true ∧ inB t (tP τ) = true then (if -1 ≤ k.toInt ∧ k.toInt < 60 then (if (frS τ 15 0).testBit (ix f) = true then (match soon τ 15 (ix f) (ix t) with
  | none => -9
  | some n => if k.toInt = -1 then nI n else if k.toInt < n then nI (actS τ (ix t) n (ix f) (ix k)) else -9) else -3) else -2) else -1
/-- odds -/
def cwB (τ : Tn) (f t n w : Nat) : Bool := (frS τ w 0).testBit f && (match soon τ w f t with
  | none => false
  | some m => decide (m ≤ n))
def cnB (F : Nat → Bool) : Nat → Nat
  | 0 => 0
  | k + 1 => cnB F k + (if F k = true then 1 else 0)
theorem cnB_le (F : Nat → Bool) : ∀ k, cnB F k ≤ k
  | 0 => Nat.le_refl 0
  | k + 1 => by have := cnB_le F k; rw [cnB]; split <;> omega
def rdS : Nat → Nat × Nat → Nat × Nat
  | 0, p => p
  | k + 1, p => if 1 < p.2 ∧ p.1 % 2 = 0 then rdS k (p.1 / 2, p.2 / 2) else p
def odS (τ : Tn) (f t n : Nat) : Nat × Nat := rdS 5 (cnB (cwB τ f t n) (2 ^ tS τ), 2 ^ tS τ)
def q_odds (τ : Tn) (f t n w : Int32) : Int64 := if inB f (tP τ) = true ∧ inB t (tP τ) = true ∧ inB n 61 = true ∧ inB w 2 = true then (if w.toInt = 0 then (nI (odS τ (ix f) (ix t) (ix n)).1).toInt64 else (nI (odS τ (ix f) (ix t) (ix n)).2).toInt64) else lostL
/-- walks that are told: ζ the cells, from i on -/
def actB (ζ : Nat → Int32) (i n : Nat) : Bool := (List.range n).all (fun x => inB (ζ (i + x)) 3)
theorem actB_t {ζ : Nat → Int32} {i n : Nat} (h : ∀ x, x < n → inB (ζ (i + x)) 3 = true) : actB ζ i n = true := List.all_eq_true.mpr (fun x hx => h x (List.mem_range.mp hx))
theorem actB_f {ζ : Nat → Int32} {i n x : Nat} (hx : x < n) (h : inB (ζ (i + x)) 3 = false) : actB ζ i n = false := by
  cases hb : actB ζ i n with
  | false => rfl
  | true => have := List.all_eq_true.mp hb x (List.mem_range.mpr hx); rw [h] at this; cases this
theorem actB_at {ζ : Nat → Int32} {i n x : Nat} (hx : x < n) (h : actB ζ i n = true) : inB (ζ (i + x)) 3 = true := List.all_eq_true.mp h x (List.mem_range.mpr hx)
def wkP (τ : Tn) (ζ : Nat → Int32) (i p : Nat) : Nat → Nat
  | 0 => p
  | x + 1 => after (tP τ) (wkP τ ζ i p x) (ix (ζ (i + x)))
def wkB (τ : Tn) (ζ : Nat → Int32) (i p x : Nat) : Bool := !(frS τ 15 (x + 1)).testBit (wkP τ ζ i p (x + 1))
def wkN (τ : Tn) (ζ : Nat → Int32) (i p : Nat) : Nat → Nat
  | 0 => 2 ^ p
  | x + 1 => wkN τ ζ i p x ||| 2 ^ wkP τ ζ i p (x + 1)
def wkS (ζ : Nat → Int32) (i : Nat) : Nat → Nat
  | 0 => 0
  | x + 1 => wkS ζ i x + (if ix (ζ (i + x)) = 0 then 1 else 0)
def q_wk (τ : Tn) (ζ : Nat → Int32) (i p n w : Nat) : Int32 := match fs (wkB τ ζ i p) 0 n with
  | some x => if w = 1 then nI x else -100 - nI x
  | none => if w = 0 then nI (wkP τ ζ i p n) else if w = 1 then -9 else if w = 2 then nI (wkN τ ζ i p n) else nI (wkS ζ i n)
theorem wkP_lt {τ : Tn} {ζ : Nat → Int32} {i p : Nat} (h : p < tP τ) : ∀ x, wkP τ ζ i p x < tP τ
  | 0 => h
  | x + 1 => after_lt (wkP_lt h x)
theorem wkS_le {ζ : Nat → Int32} {i : Nat} : ∀ x, wkS ζ i x ≤ x
  | 0 => Nat.le_refl 0
  | x + 1 => by have := wkS_le (ζ := ζ) (i := i) x; rw [wkS]; split <;> omega
theorem wkN_lt {τ : Tn} {ζ : Nat → Int32} {i p : Nat} (h : p < tP τ) : ∀ x, wkN τ ζ i p x < 2 ^ tP τ
  | 0 => Nat.pow_lt_pow_right (by decide) h
  | x + 1 => Nat.or_lt_two_pow (wkN_lt h x) (Nat.pow_lt_pow_right (by decide) (wkP_lt h (x + 1)))
def f_walk (τ θ : Tn) (ζ : Nat → Nat → Int32) (p k l i n w : Int32) : Nat := if inB p (tP τ) = true ∧ inB k 4 = true then (if inB l 3 = true ∧ inB n 41 = true ∧ inB w 4 = true then (if (frS τ 15 0).testBit (ix p) = true then (if farF (θ (ix k) 0) (ix l) = 0 then (if focB (θ (ix k) 1) i n = true then 0 else 3) else farF (θ (ix k) 0) (ix l)) else 0) else 0) else 0
def q_walk (τ θ : Tn) (ζ : Nat → Nat → Int32) (p k l i n w : Int32) : Int32 := if inB p (tP τ) = true ∧ inB k 4 = true then (if inB l 3 = true ∧ inB n 41 = true ∧ inB w 4 = true then (if (frS τ 15 0).testBit (ix p) = true then (if f_walk τ θ ζ p k l i n w = 0 then (if actB (ζ (ix k)) (ix i) (ix n) = true then q_wk τ (ζ (ix k)) (ix i) (ix p) (ix n) (ix w) else -2) else -10 - nI (f_walk τ θ ζ p k l i n w)) else -3) else -2) else -1
