theorem sn_t {R : Nat → Nat} {to n : Nat} (h : (R n).testBit to = true) (hn : n < 61) : sn R to n (61 - n) = some n := by
  obtain ⟨k, hk⟩ : ∃ k, 61 - n = k + 1 := ⟨60 - n, by omega⟩
  rw [hk, sn, if_pos h]
theorem sn_f {R : Nat → Nat} {to n : Nat} (h : (R n).testBit to = false) (hn : n < 61) : sn R to n (61 - n) = sn R to (n + 1) (61 - (n + 1)) := by
  obtain ⟨k, hk⟩ : ∃ k, 61 - n = k + 1 := ⟨60 - n, by omega⟩
  rw [hk, sn, if_neg (by rw [h]; decide), show 61 - (n + 1) = k by omega]
/-- a sleeper comes to p at all -/
def ctB (τ : Tn) (a p : Nat) : Bool := (List.range 61).any (fun m => decide (pl τ a m = p))
theorem ctB_t {τ : Tn} {a p m : Nat} (hm : m < 61) (h : pl τ a m = p) : ctB τ a p = true := List.any_eq_true.mpr ⟨m, List.mem_range.mpr hm, decide_eq_true h⟩
theorem ctB_f {τ : Tn} {a p : Nat} (h : ∀ m, m < 61 → ¬ pl τ a m = p) : ctB τ a p = false := by
  cases hb : ctB τ a p with
  | false => rfl
  | true =>
    obtain ⟨m, h1, h2⟩ := List.any_eq_true.mp hb
    exact absurd (of_decide_eq_true h2) (h m (List.mem_range.mp h1))
def cmS (τ : Tn) (p : Nat) : Nat → Nat
  | 0 => 0
  | k + 1 => cmS τ p k + (if ctB τ k p = true then 1 else 0)
theorem cmS_le (τ : Tn) (p : Nat) : ∀ k, cmS τ p k ≤ k
  | 0 => Nat.le_refl 0
  | k + 1 => by
    have := cmS_le τ p k
    rw [cmS]
    split <;> omega
/-- of the places below p the one to which the most come, and how many -/
def gbS (τ : Tn) : Nat → Nat × Nat
  | 0 => (0, 0)
  | p + 1 => if (gbS τ p).2 < cmS τ p (tS τ) then (p, cmS τ p (tS τ)) else gbS τ p
theorem gbS_le (τ : Tn) : ∀ p, (gbS τ p).1 ≤ p ∧ (gbS τ p).2 ≤ tS τ
  | 0 => ⟨Nat.le_refl 0, Nat.zero_le _⟩
  | p + 1 => by
    have h := gbS_le τ p
    have h2 := cmS_le τ p (tS τ)
    rw [gbS]
    split
    · exact ⟨by show p ≤ p + 1; omega, h2⟩
    · exact ⟨by omega, h.2⟩
/-- what was visited in n steps (a step a sleeper, a row of steps a minute), and what a takes in them -/
def vis (τ : Tn) : Nat → Nat
  | 0 => 0
  | n + 1 => vis τ n ||| 2 ^ pl τ (n % tS τ) (n / tS τ)
def tk (τ : Tn) (a : Nat) : Nat → Nat
  | 0 => 0
  | n + 1 => if n % tS τ = a ∧ (vis τ n).testBit (pl τ (n % tS τ) (n / tS τ)) = false then tk τ a n + tG τ (pl τ (n % tS τ) (n / tS τ)) else tk τ a n
theorem vis_lt {τ : Tn} (h : 0 < tP τ) : ∀ n, vis τ n < 2 ^ tP τ
  | 0 => Nat.two_pow_pos _
  | n + 1 => Nat.or_lt_two_pow (vis_lt h n) (Nat.pow_lt_pow_right (by decide) (pl_lt h _ _))
theorem step_mod {m b S : Nat} (hb : b < S) : (m * S + b) % S = b := by rw [Nat.mul_comm, Nat.mul_add_mod, Nat.mod_eq_of_lt hb]
theorem step_div {m b S : Nat} (hb : b < S) : (m * S + b) / S = m := by rw [Nat.mul_comm, Nat.mul_add_div (by omega), Nat.div_eq_of_lt hb]; rfl
theorem vis_s {τ : Tn} {m b : Nat} (hb : b < tS τ) : vis τ (m * tS τ + b + 1) = vis τ (m * tS τ + b) ||| 2 ^ pl τ b m := by rw [vis, step_mod hb, step_div hb]
theorem tk_t {τ : Tn} {m b : Nat} (hb : b < tS τ) (hv : (vis τ (m * tS τ + b)).testBit (pl τ b m) = false) : tk τ b (m * tS τ + b + 1) = tk τ b (m * tS τ + b) + tG τ (pl τ b m) := by rw [tk, step_mod hb, step_div hb, if_pos ⟨rfl, hv⟩]
theorem tk_f {τ : Tn} {a m b : Nat} (hb : b < tS τ) (hv : b ≠ a ∨ (vis τ (m * tS τ + b)).testBit (pl τ b m) = true) : tk τ a (m * tS τ + b + 1) = tk τ a (m * tS τ + b) := by
  rw [tk, step_mod hb, step_div hb, if_neg]
  intro ⟨h1, h2⟩
  rcases hv with h | h
  · exact h h1
  · rw [h2] at h; cases h
/-- backwards from the end: ahead of the mask, step by step; and what stands for a minute -/
def bj (τ : Tn) (t n : Nat) : Nat → Nat
  | 0 => 2 ^ t
  | j + 1 => nbS (tP τ) (bj τ t n j &&& frS τ 15 (n - j))
def bwS (τ : Tn) (t n m : Nat) : Nat := bj τ t n (n - m) &&& frS τ 15 m
theorem bj_lt {τ : Tn} {t n : Nat} (h : t < tP τ) : ∀ j, bj τ t n j < 2 ^ tP τ
  | 0 => Nat.pow_lt_pow_right (by decide) h
  | j + 1 => nbS_lt _ _
theorem bwS_lt {τ : Tn} {t n : Nat} (m : Nat) : bwS τ t n m < 2 ^ tP τ := Nat.lt_of_le_of_lt Nat.and_le_right (frS_lt _ _ _)
theorem bwS_j {τ : Tn} {t n j : Nat} (h : j ≤ n) : bwS τ t n (n - j) = bj τ t n j &&& frS τ 15 (n - j) := by rw [bwS, show n - (n - j) = j by omega]
/-- the least act from p into a set -/
def faS (P s p : Nat) : Option Nat := if s.testBit (after P p 0) = true then some 0 else if s.testBit (after P p 1) = true then some 1 else if s.testBit (after P p 2) = true then some 2 else none
theorem faS_ex {P s p : Nat} (hp : p < P) (h : (nbS P s).testBit p = true) : ∃ a, a ≤ 2 ∧ faS P s p = some a ∧ s.testBit (after P p a) = true := by
  rw [nbS, bs_bit] at h
  simp only [hp, decide_true, Bool.true_and, Bool.or_eq_true] at h
  unfold faS
  by_cases h0 : s.testBit (after P p 0) = true
  · exact ⟨0, by omega, by rw [if_pos h0], h0⟩
  · by_cases h1 : s.testBit (after P p 1) = true
    · exact ⟨1, by omega, by rw [if_neg h0, if_pos h1], h1⟩
    · by_cases h2 : s.testBit (after P p 2) = true
      · exact ⟨2, by omega, by rw [if_neg h0, if_neg h1, if_pos h2], h2⟩
      · rcases h with h | h | h
        · exact absurd h h0
        · exact absurd h h1
        · exact absurd h h2
/-- the soonest walk: where one is, and the act then -/
def posS (τ : Tn) (t n f : Nat) : Nat → Nat
  | 0 => f
  | x + 1 => after (tP τ) (posS τ t n f x) ((faS (tP τ) (bwS τ t n (x + 1)) (posS τ t n f x)).getD 0)
def actS (τ : Tn) (t n f x : Nat) : Nat := (faS (tP τ) (bwS τ t n (x + 1)) (posS τ t n f x)).getD 0
theorem way_step {τ : Tn} {t n f x : Nat} (hp : posS τ t n f x < tP τ) (hx : x < n) (h : (bwS τ t n x).testBit (posS τ t n f x) = true) : actS τ t n f x ≤ 2 ∧ faS (tP τ) (bwS τ t n (x + 1)) (posS τ t n f x) = some (actS τ t n f x) ∧ (bwS τ t n (x + 1)).testBit (posS τ t n f (x + 1)) = true := by
  have h1 : (nbS (tP τ) (bwS τ t n (x + 1))).testBit (posS τ t n f x) = true := by
    have e : bj τ t n (n - x) = nbS (tP τ) (bwS τ t n (x + 1)) := by
      rw [show n - x = (n - (x + 1)) + 1 by omega, bj, bwS, show n - (n - (x + 1)) = x + 1 by omega]
    rw [bwS, Nat.testBit_and, e, Bool.and_eq_true] at h
    exact h.1
  obtain ⟨a, h2, h3, h4⟩ := faS_ex hp h1
  have e2 : actS τ t n f x = a := by rw [actS, h3]; rfl
  refine ⟨by omega, by rw [e2]; exact h3, ?_⟩
  rw [posS, h3]
  exact h4

set_option maxRecDepth 100000 in
set_option maxHeartbeats 4000000 in
theorem k_everyPlace (l : Launch) (D : va_G) (ad : Nat → Nat) (kI kS kL : ClassId) (μ : Mem) (c : Nat) (hc : isO 3 c) (τ : Tn) (hT : TX μ c τ) (hB : tB τ) : MI l D ad kI kS kL yX3_everyPlace cX3_everyPlace 1 (some .int) 1 20 [.ref (ad c)] μ (fun r μ2 => μ = μ2 ∧ r = nI (2 ^ tP τ - 1)) := by
  refine met_I RX3 rfl (by decide) (lv := [(0, .ref (ad c))]) rfl (Nat.le_of_ble_eq_true rfl) ?_
  intro pp ee ss mm aa bb me cd AA hA0 CC hnm QQ hQ
  have hP9 : tP τ ≤ 9 := hB.1
  have hS4 : tS τ ≤ 4 := hB.2.1
  have hc2 : 1 ≤ c ∧ c ≤ 2 := by omega
  refine y_aload_n CC 0 dX3_everyPlace_0 rfl rfl ?_
  refine y_geti CC gl_X3_28 hc rfl (v := nI (tP τ)) hT.1 dX3_everyPlace_1 ?_
  refine y_callTI (st := []) CC CC.2.2.2.2.2.1.2.2.2.2.2.2 cl_X3_114 (k_bit l D ad kI kS kL μ (tP τ) (by omega)) rfl rfl (Nat.le_of_ble_eq_true rfl) ⟨by decide, by decide⟩ ⟨Nat.zero_le _, Nat.zero_le _⟩ dX3_everyPlace_4 (fun r_ μ_ w_1 => ?_)
  obtain ⟨rfl, rfl⟩ := w_1
  refine y_iconst CC (nI 1) dX3_everyPlace_7 (by decide) ?_
  refine y_isub CC dX3_everyPlace_8 (v := nI (2 ^ tP τ - 1)) (pk_sub Nat.one_le_two_pow) ?_
  exact y_iret CC hQ dX3_everyPlace_9 (⟨rfl, rfl⟩)

set_option maxRecDepth 100000 in
set_option maxHeartbeats 4000000 in
theorem k_freePlaces (l : Launch) (D : va_G) (ad : Nat → Nat) (kI kS kL : ClassId) (μ : Mem) (c : Nat) (hc : isO 3 c) (τ : Tn) (hT : TX μ c τ) (hB : tB τ) (hP3 : 3 ≤ tP τ) (m w : Nat) (hm : m ≤ 61) (hw : w < 16) : MI l D ad kI kS kL yX3_freePlaces cX3_freePlaces 5 (some .int) 3 69 [.ref (ad c), .int (nI m), .int (nI w)] μ (fun r μ2 => μ = μ2 ∧ r = nI (frS τ w m)) := by
  refine met_I RX3 rfl (by decide) (lv := [(0, .ref (ad c)), (1, .int (nI m)), (2, .int (nI w))]) rfl (Nat.le_of_ble_eq_true rfl) ?_
  intro pp ee ss mm aa bb me cd AA hA0 CC hnm QQ hQ
  have hP9 : tP τ ≤ 9 := hB.1
  have hS4 : tS τ ≤ 4 := hB.2.1
  have hc2 : 1 ≤ c ∧ c ≤ 2 := by omega
  refine y_aload_n CC 0 dX3_freePlaces_0 rfl rfl ?_
  refine y_callVI (st := []) CC cl_X3_117 (k_everyPlace l D ad kI kS kL μ c hc τ hT hB) hc rfl rfl rfl (Nat.le_of_ble_eq_true rfl) ⟨by decide, by decide⟩ ⟨Nat.zero_le _, Nat.zero_le _⟩ dX3_freePlaces_1 (fun r_ μ_ w_1 => ?_)
  obtain ⟨rfl, rfl⟩ := w_1
  refine y_top (y := nI (bs (tP τ) (frB τ w m 0))) (by rw [← bs_full]; exact congrArg nI (bs_ext (fun p_ _ => rfl))) ?_
  refine y_istore_n CC [(3, .int (nI (bs (tP τ) (frB τ w m 0)))), (0, .ref (ad c)), (1, .int (nI m)), (2, .int (nI w))] dX3_freePlaces_4 rfl (by decide) rfl ?_
  refine y_iconst CC (nI 0) dX3_freePlaces_5 (by decide) ?_
  refine y_istore CC [(4, .int (nI 0)), (3, .int (nI (bs (tP τ) (frB τ w m 0)))), (0, .ref (ad c)), (1, .int (nI m)), (2, .int (nI w))] dX3_freePlaces_6 (by decide) rfl ?_
  have L8 : ∀ (n8 : Nat) (a : Nat), tS τ - a < n8 → (a ≤ tS τ) → Y pp l ee (rmY 3 69) ss mm aa bb me cd D ad kI kS kL AA 5 0 0 QQ 8 [(4, .int (nI a)), (3, .int (nI (bs (tP τ) (frB τ w m a)))), (0, .ref (ad c)), (1, .int (nI m)), (2, .int (nI w))] [] μ := by
    intro n8
    induction n8 with
    | zero => intro a hm8; exact absurd hm8 (Nat.not_lt_zero _)
    | succ n8 ih8 =>
      intro a hm8 ha
      refine y_iload CC 0 dX3_freePlaces_8 rfl ?_
      refine y_aload_n CC 2 dX3_freePlaces_10 rfl rfl ?_
      refine y_geti CC gl_X3_24 hc rfl (v := nI (tS τ)) hT.2.1 dX3_freePlaces_11 ?_
      refine z_icmp_ge CC 47 dX3_freePlaces_14 (by decide) (a := ((a : Nat) : Int)) (b := ((tS τ : Nat) : Int)) (nI_toInt (by omega)) (nI_toInt (by omega)) (fun c_3 => ?_) (fun c_3 => ?_)
      · skip
        refine y_iload_n CC 1 dX3_freePlaces_47 rfl rfl ?_
        exact y_iret CC hQ dX3_freePlaces_48 (⟨rfl, by rw [show a = tS τ by omega]; rfl⟩)
      · skip
        refine y_iload_n CC 4 dX3_freePlaces_17 rfl rfl ?_
        refine y_iload CC 0 dX3_freePlaces_18 rfl ?_
        refine y_callTI (st := []) CC CC.2.2.2.2.2.1.2.2.2.2.2.1 cl_X3_110 (k_isIn l D ad kI kS kL μ w a (by omega) (by omega)) rfl rfl (Nat.le_of_ble_eq_true rfl) ⟨by decide, by decide⟩ ⟨Nat.zero_le _, Nat.zero_le _⟩ dX3_freePlaces_20 (fun r_ μ_ w_5 => ?_)
        rcases w_5 with ⟨rfl, ⟨b_4, rfl⟩ | ⟨b_4, rfl⟩⟩
        · skip
          refine z_if_eqF CC 41 dX3_freePlaces_23 (by decide) (a := (1 : Int)) (nI_toInt (by decide)) (by decide) ?_
          refine y_iload_n CC 1 dX3_freePlaces_26 rfl rfl ?_
          refine y_aload_n CC 2 dX3_freePlaces_27 rfl rfl ?_
          refine y_iload CC 0 dX3_freePlaces_28 rfl ?_
          refine y_iload_n CC 3 dX3_freePlaces_30 rfl rfl ?_
          refine y_callVI (st := [.int (nI (bs (tP τ) (frB τ w m a)))]) CC cl_X3_106 (k_placeOf l D ad kI kS kL μ c hc τ hT hB (by omega) a m (by omega) (by omega)) hc rfl rfl rfl (Nat.le_of_ble_eq_true rfl) ⟨by decide, by decide⟩ ⟨Nat.zero_le _, Nat.zero_le _⟩ dX3_freePlaces_31 (fun r_ μ_ w_7 => ?_)
          obtain ⟨rfl, rfl⟩ := w_7
          have h_pl_6 := pl_lt (τ := τ) (by omega) a m
          refine y_callTI (st := [.int (nI (bs (tP τ) (frB τ w m a)))]) CC CC.2.2.2.2.2.1.2.2.2.2.2.2 cl_X3_114 (k_bit l D ad kI kS kL μ (pl τ a m) (by omega)) rfl rfl (Nat.le_of_ble_eq_true rfl) ⟨by decide, by decide⟩ ⟨Nat.zero_le _, Nat.zero_le _⟩ dX3_freePlaces_34 (fun r_ μ_ w_8 => ?_)
          obtain ⟨rfl, rfl⟩ := w_8
          refine y_iconst CC ((-1)) dX3_freePlaces_37 (by decide) ?_
          refine y_ixor CC dX3_freePlaces_38 (v := (nI (2 ^ (pl τ a m))) ^^^ (-1)) rfl ?_
          refine y_iand CC dX3_freePlaces_39 (v := nI (bs (tP τ) (frB τ w m (a + 1)))) ((i_clr _).trans (congrArg nI (bs_ext (fun p_ _ => by rw [frB_s, b_4]; simp)))) ?_
          refine y_istore_n CC [(3, .int (nI (bs (tP τ) (frB τ w m (a + 1))))), (4, .int (nI a)), (0, .ref (ad c)), (1, .int (nI m)), (2, .int (nI w))] dX3_freePlaces_40 rfl (by decide) rfl ?_
          refine y_iinc CC 1 (nI (a + 1)) [(4, .int (nI (a + 1))), (3, .int (nI (bs (tP τ) (frB τ w m (a + 1))))), (0, .ref (ad c)), (1, .int (nI m)), (2, .int (nI w))] dX3_freePlaces_41 rfl (i_inc _) (by decide) rfl ?_
          refine y_goto CC 8 dX3_freePlaces_44 (by decide) ?_
          exact ih8 (a + 1) (by omega) (by omega)
        · skip
          refine z_if_eqT CC 41 dX3_freePlaces_23 (by decide) (a := (0 : Int)) (nI_toInt (by decide)) (by decide) ?_
          refine y_lvE (lv2 := [(4, .int (nI a)), (3, .int (nI (bs (tP τ) (frB τ w m (a + 1))))), (0, .ref (ad c)), (1, .int (nI m)), (2, .int (nI w))]) (by rw [show bs (tP τ) (frB τ w m (a + 1)) = bs (tP τ) (frB τ w m a) from bs_ext (fun p_ _ => by rw [frB_s, b_4]; simp)]) ?_
          refine y_iinc CC 0 (nI (a + 1)) [(4, .int (nI (a + 1))), (3, .int (nI (bs (tP τ) (frB τ w m (a + 1))))), (0, .ref (ad c)), (1, .int (nI m)), (2, .int (nI w))] dX3_freePlaces_41 rfl (i_inc _) (by decide) rfl ?_
          refine y_goto CC 8 dX3_freePlaces_44 (by decide) ?_
          exact ih8 (a + 1) (by omega) (by omega)
  exact L8 _ 0 (Nat.lt_succ_self _) (Nat.zero_le _)

set_option maxRecDepth 100000 in
set_option maxHeartbeats 4000000 in
theorem k_withNeighbours (l : Launch) (D : va_G) (ad : Nat → Nat) (kI kS kL : ClassId) (μ : Mem) (c : Nat) (hc : isO 3 c) (τ : Tn) (hT : TX μ c τ) (hB : tB τ) (hP3 : 3 ≤ tP τ) (s : Nat) (hs : s < 2 ^ tP τ) : MI l D ad kI kS kL yX3_withNeighbours cX3_withNeighbours 5 (some .int) 2 40 [.ref (ad c), .int (nI s)] μ (fun r μ2 => μ = μ2 ∧ r = nI (nbS (tP τ) s)) := by
  refine met_I RX3 rfl (by decide) (lv := [(0, .ref (ad c)), (1, .int (nI s))]) rfl (Nat.le_of_ble_eq_true rfl) ?_
  intro pp ee ss mm aa bb me cd AA hA0 CC hnm QQ hQ
  have hP9 : tP τ ≤ 9 := hB.1
  have hS4 : tS τ ≤ 4 := hB.2.1
  have hc2 : 1 ≤ c ∧ c ≤ 2 := by omega
  have hs9 := set9 hP9 hs
  have hp8 : 2 ^ (tP τ - 1) ≤ 256 := show 2 ^ (tP τ - 1) ≤ 2 ^ 8 from Nat.pow_le_pow_right (by decide) (by omega)
  have hsl : s * 2 ^ (tP τ - 1) ≤ 511 * 256 := Nat.mul_le_mul (by omega) hp8
  refine y_aload_n CC 0 dX3_withNeighbours_0 rfl rfl ?_
  refine y_geti CC gl_X3_28 hc rfl (v := nI (tP τ)) hT.1 dX3_withNeighbours_1 ?_
  refine y_iconst CC (nI 1) dX3_withNeighbours_4 (by decide) ?_
  refine y_isub CC dX3_withNeighbours_5 (v := nI ((tP τ) - 1)) (pk_sub (by omega)) ?_
  refine y_istore_n CC [(2, .int (nI ((tP τ) - 1))), (0, .ref (ad c)), (1, .int (nI s))] dX3_withNeighbours_6 rfl (by decide) rfl ?_
  refine y_iload_n CC 2 dX3_withNeighbours_7 rfl rfl ?_
  refine y_iconst CC (nI 1) dX3_withNeighbours_8 (by decide) ?_
  refine y_ishl CC dX3_withNeighbours_9 (v := nI (s * 2 ^ 1)) (i_shl (by omega) (by omega)) ?_
  refine y_iload_n CC 2 dX3_withNeighbours_10 rfl rfl ?_
  refine y_iload_n CC 0 dX3_withNeighbours_11 rfl rfl ?_
  refine y_ishr CC dX3_withNeighbours_12 (v := nI (s / 2 ^ ((tP τ) - 1))) (i_shr (by omega) (by omega)) ?_
  refine y_ior CC dX3_withNeighbours_13 (v := nI ((s * 2 ^ 1) ||| (s / 2 ^ ((tP τ) - 1)))) (i_or _ _) ?_
  refine y_istore_n CC [(3, .int (nI ((s * 2 ^ 1) ||| (s / 2 ^ ((tP τ) - 1))))), (2, .int (nI ((tP τ) - 1))), (0, .ref (ad c)), (1, .int (nI s))] dX3_withNeighbours_14 rfl (by decide) rfl ?_
  refine y_iload_n CC 3 dX3_withNeighbours_15 rfl rfl ?_
  refine y_iconst CC (nI 1) dX3_withNeighbours_16 (by decide) ?_
  refine y_ishr CC dX3_withNeighbours_17 (v := nI (s / 2 ^ 1)) (i_shr (by omega) (by omega)) ?_
  refine y_iload_n CC 3 dX3_withNeighbours_18 rfl rfl ?_
  refine y_iload_n CC 1 dX3_withNeighbours_19 rfl rfl ?_
  refine y_ishl CC dX3_withNeighbours_20 (v := nI (s * 2 ^ ((tP τ) - 1))) (i_shl (by omega) (by omega)) ?_
  refine y_ior CC dX3_withNeighbours_21 (v := nI ((s / 2 ^ 1) ||| (s * 2 ^ ((tP τ) - 1)))) (i_or _ _) ?_
  refine y_istore CC [(4, .int (nI ((s / 2 ^ 1) ||| (s * 2 ^ ((tP τ) - 1))))), (3, .int (nI ((s * 2 ^ 1) ||| (s / 2 ^ ((tP τ) - 1))))), (2, .int (nI ((tP τ) - 1))), (0, .ref (ad c)), (1, .int (nI s))] dX3_withNeighbours_22 (by decide) rfl ?_
  refine y_iload_n CC 4 dX3_withNeighbours_24 rfl rfl ?_
  refine y_iload_n CC 1 dX3_withNeighbours_25 rfl rfl ?_
  refine y_ior CC dX3_withNeighbours_26 (v := nI (s ||| ((s * 2 ^ 1) ||| (s / 2 ^ ((tP τ) - 1))))) (i_or _ _) ?_
  refine y_iload CC 0 dX3_withNeighbours_27 rfl ?_
  refine y_ior CC dX3_withNeighbours_29 (v := nI ((s ||| ((s * 2 ^ 1) ||| (s / 2 ^ ((tP τ) - 1)))) ||| ((s / 2 ^ 1) ||| (s * 2 ^ ((tP τ) - 1))))) (i_or _ _) ?_
  refine y_aload_n CC 3 dX3_withNeighbours_30 rfl rfl ?_
  refine y_callVI (st := [.int (nI ((s ||| ((s * 2 ^ 1) ||| (s / 2 ^ ((tP τ) - 1)))) ||| ((s / 2 ^ 1) ||| (s * 2 ^ ((tP τ) - 1)))))]) CC cl_X3_117 (k_everyPlace l D ad kI kS kL μ c hc τ hT hB) hc rfl rfl rfl (Nat.le_of_ble_eq_true rfl) ⟨by decide, by decide⟩ ⟨Nat.zero_le _, Nat.zero_le _⟩ dX3_withNeighbours_31 (fun r_ μ_ w_1 => ?_)
  obtain ⟨rfl, rfl⟩ := w_1
  refine y_iand CC dX3_withNeighbours_34 (v := nI (nbS (tP τ) s)) ((i_and _ _).trans (congrArg nI (nbS_eq (tP τ) (by omega) hP3 s hs))) ?_
  exact y_iret CC hQ dX3_withNeighbours_35 (⟨rfl, rfl⟩)

set_option maxRecDepth 100000 in
set_option maxHeartbeats 4000000 in
theorem k_fewestMinutes (l : Launch) (D : va_G) (ad : Nat → Nat) (kI kS kL : ClassId) (μ : Mem) (c : Nat) (hc : isO 3 c) (τ : Tn) (hT : TX μ c τ) (hB : tB τ) (hP3 : 3 ≤ tP τ) (f t w : Nat) (hf : f < tP τ) (ht : t < tP τ) (hw : w < 16) : MI l D ad kI kS kL yX3_fewestMinutes cX3_fewestMinutes 6 (some .int) 4 93 [.ref (ad c), .int (nI f), .int (nI t), .int (nI w)] μ (fun r μ2 => μ = μ2 ∧ r = oI (soon τ w f t)) := by
  refine met_I RX3 rfl (by decide) (lv := [(0, .ref (ad c)), (1, .int (nI f)), (2, .int (nI t)), (3, .int (nI w))]) rfl (Nat.le_of_ble_eq_true rfl) ?_
  intro pp ee ss mm aa bb me cd AA hA0 CC hnm QQ hQ
  have hP9 : tP τ ≤ 9 := hB.1
  have hS4 : tS τ ≤ 4 := hB.2.1
  have hc2 : 1 ≤ c ∧ c ≤ 2 := by omega
  refine y_iload_n CC 1 dX3_fewestMinutes_0 rfl rfl ?_
  refine y_callTI (st := []) CC CC.2.2.2.2.2.1.2.2.2.2.2.2 cl_X3_114 (k_bit l D ad kI kS kL μ f (by omega)) rfl rfl (Nat.le_of_ble_eq_true rfl) ⟨by decide, by decide⟩ ⟨Nat.zero_le _, Nat.zero_le _⟩ dX3_fewestMinutes_1 (fun r_ μ_ w_1 => ?_)
  obtain ⟨rfl, rfl⟩ := w_1
  refine y_istore CC [(4, .int (nI (2 ^ f))), (0, .ref (ad c)), (1, .int (nI f)), (2, .int (nI t)), (3, .int (nI w))] dX3_fewestMinutes_4 (by decide) rfl ?_
  refine y_iconst CC (nI 0) dX3_fewestMinutes_6 (by decide) ?_
  refine y_istore CC [(5, .int (nI 0)), (4, .int (nI (2 ^ f))), (0, .ref (ad c)), (1, .int (nI f)), (2, .int (nI t)), (3, .int (nI w))] dX3_fewestMinutes_7 (by decide) rfl ?_
  have L9 : ∀ (n9 : Nat) (n : Nat), 61 - n < n9 → (n ≤ 61) → (sn (rcS τ w f) t n (61 - n) = soon τ w f t) → Y pp l ee (rmY 4 93) ss mm aa bb me cd D ad kI kS kL AA 6 0 0 QQ 9 [(5, .int (nI n)), (4, .int (nI (rcS τ w f n))), (0, .ref (ad c)), (1, .int (nI f)), (2, .int (nI t)), (3, .int (nI w))] [] μ := by
    intro n9
    induction n9 with
    | zero => intro n hm9; exact absurd hm9 (Nat.not_lt_zero _)
    | succ n9 ih9 =>
      intro n hm9 hn hs
      have hr := rcS_lt (τ := τ) (w := w) hf n
      have hr9 := set9 hP9 hr
      refine y_iload CC 0 dX3_fewestMinutes_9 rfl ?_
      refine y_bipush CC (nI 60) dX3_fewestMinutes_11 (by decide) ?_
      refine z_icmp_gt CC 52 dX3_fewestMinutes_13 (by decide) (a := ((n : Nat) : Int)) (b := (60 : Int)) (nI_toInt (by omega)) (nI_toInt (by decide)) (fun c_3 => ?_) (fun c_3 => ?_)
      · skip
        refine y_bipush CC ((-9)) dX3_fewestMinutes_52 (by decide) ?_
        exact y_iret CC hQ dX3_fewestMinutes_54 (⟨rfl, by rw [← hs, show n = 61 by omega]; rfl⟩)
      · skip
        refine y_iload CC 1 dX3_fewestMinutes_16 rfl ?_
        refine y_iload_n CC 4 dX3_fewestMinutes_18 rfl rfl ?_
        refine y_callTI (st := []) CC CC.2.2.2.2.2.1.2.2.2.2.2.1 cl_X3_110 (k_isIn l D ad kI kS kL μ (rcS τ w f n) t (by omega) (by omega)) rfl rfl (Nat.le_of_ble_eq_true rfl) ⟨by decide, by decide⟩ ⟨Nat.zero_le _, Nat.zero_le _⟩ dX3_fewestMinutes_19 (fun r_ μ_ w_5 => ?_)
        rcases w_5 with ⟨rfl, ⟨b_4, rfl⟩ | ⟨b_4, rfl⟩⟩
        · skip
          refine z_if_eqF CC 28 dX3_fewestMinutes_22 (by decide) (a := (1 : Int)) (nI_toInt (by decide)) (by decide) ?_
          refine y_iload CC 0 dX3_fewestMinutes_25 rfl ?_
          exact y_iret CC hQ dX3_fewestMinutes_27 (⟨rfl, by rw [← hs, sn_t b_4 (by omega)]; rfl⟩)
        · skip
          refine z_if_eqT CC 28 dX3_fewestMinutes_22 (by decide) (a := (0 : Int)) (nI_toInt (by decide)) (by decide) ?_
          refine y_aload_n CC 2 dX3_fewestMinutes_28 rfl rfl ?_
          refine y_iload CC 1 dX3_fewestMinutes_29 rfl ?_
          refine y_callVI (st := []) CC cl_X3_121 (k_withNeighbours l D ad kI kS kL μ c hc τ hT hB hP3 (rcS τ w f n) hr) hc rfl rfl rfl (Nat.le_of_ble_eq_true rfl) ⟨by decide, by decide⟩ ⟨Nat.zero_le _, Nat.zero_le _⟩ dX3_fewestMinutes_31 (fun r_ μ_ w_6 => ?_)
          obtain ⟨rfl, rfl⟩ := w_6
          refine y_aload_n CC 2 dX3_fewestMinutes_34 rfl rfl ?_
          refine y_iload CC 0 dX3_fewestMinutes_35 rfl ?_
          refine y_iconst CC (nI 1) dX3_fewestMinutes_37 (by decide) ?_
          refine y_iadd CC dX3_fewestMinutes_38 (v := nI (n + 1)) (nI_add _ _) ?_
          refine y_iload_n CC 5 dX3_fewestMinutes_39 rfl rfl ?_
          refine y_callVI (st := [.int (nI (nbS (tP τ) (rcS τ w f n)))]) CC cl_X3_124 (k_freePlaces l D ad kI kS kL μ c hc τ hT hB hP3 (n + 1) w (by omega) (by omega)) hc rfl rfl rfl (Nat.le_of_ble_eq_true rfl) ⟨by decide, by decide⟩ ⟨Nat.zero_le _, Nat.zero_le _⟩ dX3_fewestMinutes_40 (fun r_ μ_ w_8 => ?_)
          obtain ⟨rfl, rfl⟩ := w_8
          have h_fr_7 := set9 (P := tP τ) (by omega) (frS_lt τ w (n + 1))
          refine y_iand CC dX3_fewestMinutes_43 (v := nI (rcS τ w f (n + 1))) (i_and _ _) ?_
          refine y_istore CC [(4, .int (nI (rcS τ w f (n + 1)))), (5, .int (nI n)), (0, .ref (ad c)), (1, .int (nI f)), (2, .int (nI t)), (3, .int (nI w))] dX3_fewestMinutes_44 (by decide) rfl ?_
          refine y_iinc CC 1 (nI (n + 1)) [(5, .int (nI (n + 1))), (4, .int (nI (rcS τ w f (n + 1)))), (0, .ref (ad c)), (1, .int (nI f)), (2, .int (nI t)), (3, .int (nI w))] dX3_fewestMinutes_46 rfl (i_inc _) (by decide) rfl ?_
          refine y_goto CC 9 dX3_fewestMinutes_49 (by decide) ?_
          exact ih9 (n + 1) (by omega) (by omega) (by rw [← sn_f b_4 (by omega)]; exact hs)
  exact L9 _ 0 (Nat.lt_succ_self _) (Nat.zero_le _) rfl

set_option maxRecDepth 100000 in
set_option maxHeartbeats 4000000 in
theorem k_comesTo (l : Launch) (D : va_G) (ad : Nat → Nat) (kI kS kL : ClassId) (μ : Mem) (c : Nat) (hc : isO 3 c) (τ : Tn) (hT : TX μ c τ) (hB : tB τ) (hP : 0 < tP τ) (a p : Nat) (ha : a < tS τ) (hp : p < tP τ) : MI l D ad kI kS kL yX3_comesTo cX3_comesTo 4 (some .boolean) 3 69 [.ref (ad c), .int (nI a), .int (nI p)] μ (fun r μ2 => μ = μ2 ∧ bo r (ctB τ a p)) := by
  refine met_I RX3 rfl (by decide) (lv := [(0, .ref (ad c)), (1, .int (nI a)), (2, .int (nI p))]) rfl (Nat.le_of_ble_eq_true rfl) ?_
  intro pp ee ss mm aa bb me cd AA hA0 CC hnm QQ hQ
  have hP9 : tP τ ≤ 9 := hB.1
  have hS4 : tS τ ≤ 4 := hB.2.1
  have hc2 : 1 ≤ c ∧ c ≤ 2 := by omega
  refine y_iconst CC (nI 0) dX3_comesTo_0 (by decide) ?_
  refine y_istore_n CC [(3, .int (nI 0)), (0, .ref (ad c)), (1, .int (nI a)), (2, .int (nI p))] dX3_comesTo_1 rfl (by decide) rfl ?_
  have L2 : ∀ (n2 : Nat) (m : Nat), 61 - m < n2 → (m ≤ 61) → (∀ j, j < m → ¬ pl τ a j = p) → Y pp l ee (rmY 3 69) ss mm aa bb me cd D ad kI kS kL AA 4 0 0 QQ 2 [(3, .int (nI m)), (0, .ref (ad c)), (1, .int (nI a)), (2, .int (nI p))] [] μ := by
    intro n2
    induction n2 with
    | zero => intro m hm2; exact absurd hm2 (Nat.not_lt_zero _)
    | succ n2 ih2 =>
      intro m hm2 hm hn
      refine y_iload_n CC 0 dX3_comesTo_2 rfl rfl ?_
      refine y_bipush CC (nI 60) dX3_comesTo_3 (by decide) ?_
      refine z_icmp_gt CC 26 dX3_comesTo_5 (by decide) (a := ((m : Nat) : Int)) (b := (60 : Int)) (nI_toInt (by omega)) (nI_toInt (by decide)) (fun c_2 => ?_) (fun c_2 => ?_)
      · skip
        refine y_iconst CC (nI 0) dX3_comesTo_26 (by decide) ?_
        exact y_zret CC hQ dX3_comesTo_27 (by decide) (⟨rfl, Or.inr ⟨ctB_f (fun j hj => hn j (by omega)), rfl⟩⟩)
      · skip
        refine y_aload_n CC 1 dX3_comesTo_8 rfl rfl ?_
        refine y_iload_n CC 2 dX3_comesTo_9 rfl rfl ?_
        refine y_iload_n CC 0 dX3_comesTo_10 rfl rfl ?_
        refine y_callVI (st := []) CC cl_X3_106 (k_placeOf l D ad kI kS kL μ c hc τ hT hB hP a m (by omega) (by omega)) hc rfl rfl rfl (Nat.le_of_ble_eq_true rfl) ⟨by decide, by decide⟩ ⟨Nat.zero_le _, Nat.zero_le _⟩ dX3_comesTo_11 (fun r_ μ_ w_4 => ?_)
        obtain ⟨rfl, rfl⟩ := w_4
        have h_pl_3 := pl_lt (τ := τ) hP a m
        refine y_iload_n CC 3 dX3_comesTo_14 rfl rfl ?_
        refine z_icmp_ne CC 20 dX3_comesTo_15 (by decide) (a := ((pl τ a m : Nat) : Int)) (b := ((p : Nat) : Int)) (nI_toInt (by omega)) (nI_toInt (by omega)) (fun c_5 => ?_) (fun c_5 => ?_)
        · skip
          refine y_iinc CC 0 (nI (m + 1)) [(3, .int (nI (m + 1))), (0, .ref (ad c)), (1, .int (nI a)), (2, .int (nI p))] dX3_comesTo_20 rfl (i_inc _) (by decide) rfl ?_
          refine y_goto CC 2 dX3_comesTo_23 (by decide) ?_
          exact ih2 (m + 1) (by omega) (by omega) (fun j hj => by rcases (show j < m ∨ j = m by omega) with h | rfl; exact hn j h; omega)
        · skip
          refine y_iconst CC (nI 1) dX3_comesTo_18 (by decide) ?_
          exact y_zret CC hQ dX3_comesTo_19 (by decide) (⟨rfl, Or.inl ⟨ctB_t (m := m) (by omega) (by omega), rfl⟩⟩)
  exact L2 _ 0 (Nat.lt_succ_self _) (Nat.zero_le _) (fun j hj => absurd hj (Nat.not_lt_zero j))

set_option maxRecDepth 100000 in
set_option maxHeartbeats 4000000 in
theorem k_placeWhereMostCome (l : Launch) (D : va_G) (ad : Nat → Nat) (kI kS kL : ClassId) (μ : Mem) (c : Nat) (hc : isO 3 c) (τ : Tn) (hT : TX μ c τ) (hB : tB τ) (hP : 0 < tP τ) : MI l D ad kI kS kL yX3_placeWhereMostCome cX3_placeWhereMostCome 6 (some .int) 4 92 [.ref (ad c)] μ (fun r μ2 => μ = μ2 ∧ r = nI (gbS τ (tP τ)).1) := by
  refine met_I RX3 rfl (by decide) (lv := [(0, .ref (ad c))]) rfl (Nat.le_of_ble_eq_true rfl) ?_
  intro pp ee ss mm aa bb me cd AA hA0 CC hnm QQ hQ
  have hP9 : tP τ ≤ 9 := hB.1
  have hS4 : tS τ ≤ 4 := hB.2.1
  have hc2 : 1 ≤ c ∧ c ≤ 2 := by omega
  refine y_iconst CC (nI 0) dX3_placeWhereMostCome_0 (by decide) ?_
  refine y_istore_n CC [(1, .int (nI 0)), (0, .ref (ad c))] dX3_placeWhereMostCome_1 rfl (by decide) rfl ?_
  refine y_iconst CC (nI 0) dX3_placeWhereMostCome_2 (by decide) ?_
  refine y_istore_n CC [(2, .int (nI 0)), (1, .int (nI 0)), (0, .ref (ad c))] dX3_placeWhereMostCome_3 rfl (by decide) rfl ?_
  refine y_iconst CC (nI 0) dX3_placeWhereMostCome_4 (by decide) ?_
  refine y_istore_n CC [(3, .int (nI 0)), (2, .int (nI 0)), (1, .int (nI 0)), (0, .ref (ad c))] dX3_placeWhereMostCome_5 rfl (by decide) rfl ?_
  have L6 : ∀ (n6 : Nat) (p : Nat), tP τ - p < n6 → (p ≤ tP τ) → Y pp l ee (rmY 4 92) ss mm aa bb me cd D ad kI kS kL AA 6 0 0 QQ 6 [(3, .int (nI p)), (2, .int (nI ((gbS τ p).2))), (1, .int (nI ((gbS τ p).1))), (0, .ref (ad c))] [] μ := by
    intro n6
    induction n6 with
    | zero => intro p hm6; exact absurd hm6 (Nat.not_lt_zero _)
    | succ n6 ih6 =>
      intro p hm6 hp
      have hg := gbS_le τ p
      refine y_iload_n CC 0 dX3_placeWhereMostCome_6 rfl rfl ?_
      refine y_aload_n CC 3 dX3_placeWhereMostCome_7 rfl rfl ?_
      refine y_geti CC gl_X3_28 hc rfl (v := nI (tP τ)) hT.1 dX3_placeWhereMostCome_8 ?_
      refine z_icmp_ge CC 72 dX3_placeWhereMostCome_11 (by decide) (a := ((p : Nat) : Int)) (b := ((tP τ : Nat) : Int)) (nI_toInt (by omega)) (nI_toInt (by omega)) (fun c_2 => ?_) (fun c_2 => ?_)
      · skip
        refine y_iload_n CC 2 dX3_placeWhereMostCome_72 rfl rfl ?_
        exact y_iret CC hQ dX3_placeWhereMostCome_73 (⟨rfl, by rw [show p = tP τ by omega]⟩)
      · skip
        refine y_iconst CC (nI 0) dX3_placeWhereMostCome_14 (by decide) ?_
        refine y_istore CC [(4, .int (nI 0)), (3, .int (nI p)), (2, .int (nI ((gbS τ p).2))), (1, .int (nI ((gbS τ p).1))), (0, .ref (ad c))] dX3_placeWhereMostCome_15 (by decide) rfl ?_
        refine y_iconst CC (nI 0) dX3_placeWhereMostCome_17 (by decide) ?_
        refine y_istore CC [(5, .int (nI 0)), (4, .int (nI 0)), (3, .int (nI p)), (2, .int (nI ((gbS τ p).2))), (1, .int (nI ((gbS τ p).1))), (0, .ref (ad c))] dX3_placeWhereMostCome_18 (by decide) rfl ?_
        have L20 : ∀ (n20 : Nat) (a : Nat), tS τ - a < n20 → (a ≤ tS τ) → Y pp l ee (rmY 4 92) ss mm aa bb me cd D ad kI kS kL AA 6 0 0 QQ 20 [(5, .int (nI a)), (4, .int (nI (cmS τ p a))), (3, .int (nI p)), (2, .int (nI ((gbS τ p).2))), (1, .int (nI ((gbS τ p).1))), (0, .ref (ad c))] [] μ := by
          intro n20
          induction n20 with
          | zero => intro a hm20; exact absurd hm20 (Nat.not_lt_zero _)
          | succ n20 ih20 =>
            intro a hm20 ha
            have hcm := cmS_le τ p a
            refine y_iload CC 0 dX3_placeWhereMostCome_20 rfl ?_
            refine y_aload_n CC 5 dX3_placeWhereMostCome_22 rfl rfl ?_
            refine y_geti CC gl_X3_24 hc rfl (v := nI (tS τ)) hT.2.1 dX3_placeWhereMostCome_23 ?_
            refine z_icmp_ge CC 55 dX3_placeWhereMostCome_26 (by decide) (a := ((a : Nat) : Int)) (b := ((tS τ : Nat) : Int)) (nI_toInt (by omega)) (nI_toInt (by omega)) (fun c_4 => ?_) (fun c_4 => ?_)
            · skip
              refine y_lvE (lv2 := [(5, .int (nI a)), (4, .int (nI (cmS τ p (tS τ)))), (3, .int (nI p)), (2, .int (nI ((gbS τ p).2))), (1, .int (nI ((gbS τ p).1))), (0, .ref (ad c))]) (by rw [show a = tS τ by omega]) ?_
              have hcm2 := cmS_le τ p (tS τ)
              refine y_iload CC 1 dX3_placeWhereMostCome_55 rfl ?_
              refine y_iload_n CC 3 dX3_placeWhereMostCome_57 rfl rfl ?_
              refine z_icmp_le CC 66 dX3_placeWhereMostCome_58 (by decide) (a := ((cmS τ p (tS τ) : Nat) : Int)) (b := (((gbS τ p).2 : Nat) : Int)) (nI_toInt (by omega)) (nI_toInt (by omega)) (fun c_5 => ?_) (fun c_5 => ?_)
              · skip
                refine y_lvE (lv2 := [(5, .int (nI a)), (4, .int (nI (cmS τ p (tS τ)))), (3, .int (nI p)), (2, .int (nI ((gbS τ (p + 1)).2))), (1, .int (nI ((gbS τ (p + 1)).1))), (0, .ref (ad c))]) (by rw [show gbS τ (p + 1) = gbS τ p from by rw [gbS, if_neg (by omega)]]) ?_
                refine y_iinc CC 2 (nI (p + 1)) [(3, .int (nI (p + 1))), (5, .int (nI a)), (4, .int (nI (cmS τ p (tS τ)))), (2, .int (nI ((gbS τ (p + 1)).2))), (1, .int (nI ((gbS τ (p + 1)).1))), (0, .ref (ad c))] dX3_placeWhereMostCome_66 rfl (i_inc _) (by decide) rfl ?_
                refine y_goto CC 6 dX3_placeWhereMostCome_69 (by decide) ?_
                refine y_lv [0, 3, 4, 5] rfl ?_
                exact ih6 (p + 1) (by omega) (by omega)
              · skip
                refine y_iload CC 1 dX3_placeWhereMostCome_61 rfl ?_
                refine y_istore_n CC [(2, .int (nI (cmS τ p (tS τ)))), (5, .int (nI a)), (4, .int (nI (cmS τ p (tS τ)))), (3, .int (nI p)), (1, .int (nI ((gbS τ p).1))), (0, .ref (ad c))] dX3_placeWhereMostCome_63 rfl (by decide) rfl ?_
                refine y_iload_n CC 3 dX3_placeWhereMostCome_64 rfl rfl ?_
                refine y_istore_n CC [(1, .int (nI p)), (2, .int (nI (cmS τ p (tS τ)))), (5, .int (nI a)), (4, .int (nI (cmS τ p (tS τ)))), (3, .int (nI p)), (0, .ref (ad c))] dX3_placeWhereMostCome_65 rfl (by decide) rfl ?_
                refine y_lvE (lv2 := [(1, .int (nI ((gbS τ (p + 1)).1))), (2, .int (nI ((gbS τ (p + 1)).2))), (5, .int (nI a)), (4, .int (nI (cmS τ p (tS τ)))), (3, .int (nI p)), (0, .ref (ad c))]) (by rw [show gbS τ (p + 1) = (p, cmS τ p (tS τ)) from by rw [gbS, if_pos (by omega)]]) ?_
                refine y_iinc CC 4 (nI (p + 1)) [(3, .int (nI (p + 1))), (1, .int (nI ((gbS τ (p + 1)).1))), (2, .int (nI ((gbS τ (p + 1)).2))), (5, .int (nI a)), (4, .int (nI (cmS τ p (tS τ)))), (0, .ref (ad c))] dX3_placeWhereMostCome_66 rfl (i_inc _) (by decide) rfl ?_
                refine y_goto CC 6 dX3_placeWhereMostCome_69 (by decide) ?_
                refine y_lv [0, 2, 1, 5] rfl ?_
                exact ih6 (p + 1) (by omega) (by omega)
            · skip
              refine y_iload CC 1 dX3_placeWhereMostCome_29 rfl ?_
              refine y_aload_n CC 5 dX3_placeWhereMostCome_31 rfl rfl ?_
              refine y_iload CC 0 dX3_placeWhereMostCome_32 rfl ?_
              refine y_iload_n CC 2 dX3_placeWhereMostCome_34 rfl rfl ?_
              refine y_callVI (st := [.int (nI (cmS τ p a))]) CC cl_X3_141 (k_comesTo l D ad kI kS kL μ c hc τ hT hB hP a p (by omega) (by omega)) hc rfl rfl rfl (Nat.le_of_ble_eq_true rfl) ⟨by decide, by decide⟩ ⟨Nat.zero_le _, Nat.zero_le _⟩ dX3_placeWhereMostCome_35 (fun r_ μ_ w_7 => ?_)
              rcases w_7 with ⟨rfl, ⟨b_6, rfl⟩ | ⟨b_6, rfl⟩⟩
              · skip
                refine z_if_eqF CC 45 dX3_placeWhereMostCome_38 (by decide) (a := (1 : Int)) (nI_toInt (by decide)) (by decide) ?_
                refine y_iconst CC (nI 1) dX3_placeWhereMostCome_41 (by decide) ?_
                refine y_goto CC 46 dX3_placeWhereMostCome_42 (by decide) ?_
                refine y_iadd CC dX3_placeWhereMostCome_46 (v := nI (cmS τ p (a + 1))) ((nI_add _ _).trans (by rw [cmS, b_6]; rfl)) ?_
                refine y_istore CC [(4, .int (nI (cmS τ p (a + 1)))), (5, .int (nI a)), (3, .int (nI p)), (2, .int (nI ((gbS τ p).2))), (1, .int (nI ((gbS τ p).1))), (0, .ref (ad c))] dX3_placeWhereMostCome_47 (by decide) rfl ?_
                refine y_iinc CC 1 (nI (a + 1)) [(5, .int (nI (a + 1))), (4, .int (nI (cmS τ p (a + 1)))), (3, .int (nI p)), (2, .int (nI ((gbS τ p).2))), (1, .int (nI ((gbS τ p).1))), (0, .ref (ad c))] dX3_placeWhereMostCome_49 rfl (i_inc _) (by decide) rfl ?_
                refine y_goto CC 20 dX3_placeWhereMostCome_52 (by decide) ?_
                exact ih20 (a + 1) (by omega) (by omega)
              · skip
                refine z_if_eqT CC 45 dX3_placeWhereMostCome_38 (by decide) (a := (0 : Int)) (nI_toInt (by decide)) (by decide) ?_
                refine y_iconst CC (nI 0) dX3_placeWhereMostCome_45 (by decide) ?_
                refine y_iadd CC dX3_placeWhereMostCome_46 (v := nI (cmS τ p (a + 1))) ((nI_add _ _).trans (by rw [cmS, b_6]; rfl)) ?_
                refine y_istore CC [(4, .int (nI (cmS τ p (a + 1)))), (5, .int (nI a)), (3, .int (nI p)), (2, .int (nI ((gbS τ p).2))), (1, .int (nI ((gbS τ p).1))), (0, .ref (ad c))] dX3_placeWhereMostCome_47 (by decide) rfl ?_
                refine y_iinc CC 1 (nI (a + 1)) [(5, .int (nI (a + 1))), (4, .int (nI (cmS τ p (a + 1)))), (3, .int (nI p)), (2, .int (nI ((gbS τ p).2))), (1, .int (nI ((gbS τ p).1))), (0, .ref (ad c))] dX3_placeWhereMostCome_49 rfl (i_inc _) (by decide) rfl ?_
                refine y_goto CC 20 dX3_placeWhereMostCome_52 (by decide) ?_
                exact ih20 (a + 1) (by omega) (by omega)
        exact L20 _ 0 (Nat.lt_succ_self _) (Nat.zero_le _)
  exact L6 _ 0 (Nat.lt_succ_self _) (Nat.zero_le _)

set_option maxRecDepth 100000 in
set_option maxHeartbeats 4000000 in
theorem k_goodsTakenBy (l : Launch) (D : va_G) (ad : Nat → Nat) (kI kS kL : ClassId) (μ : Mem) (c : Nat) (hc : isO 3 c) (τ : Tn) (hT : TX μ c τ) (hB : tB τ) (hP : 0 < tP τ) (a M : Nat) (ha : a < tS τ) (hM : M ≤ 60) : MI l D ad kI kS kL yX3_goodsTakenBy cX3_goodsTakenBy 8 (some .int) 3 69 [.ref (ad c), .int (nI a), .int (nI M)] μ (fun r μ2 => μ = μ2 ∧ r = nI (tk τ a ((M + 1) * tS τ))) := by
  refine met_I RX3 rfl (by decide) (lv := [(0, .ref (ad c)), (1, .int (nI a)), (2, .int (nI M))]) rfl (Nat.le_of_ble_eq_true rfl) ?_
  intro pp ee ss mm aa bb me cd AA hA0 CC hnm QQ hQ
  have hP9 : tP τ ≤ 9 := hB.1
  have hS4 : tS τ ≤ 4 := hB.2.1
  have hc2 : 1 ≤ c ∧ c ≤ 2 := by omega
  refine y_iconst CC (nI 0) dX3_goodsTakenBy_0 (by decide) ?_
  refine y_istore_n CC [(3, .int (nI 0)), (0, .ref (ad c)), (1, .int (nI a)), (2, .int (nI M))] dX3_goodsTakenBy_1 rfl (by decide) rfl ?_
  refine y_iconst CC (nI 0) dX3_goodsTakenBy_2 (by decide) ?_
  refine y_istore CC [(4, .int (nI 0)), (3, .int (nI 0)), (0, .ref (ad c)), (1, .int (nI a)), (2, .int (nI M))] dX3_goodsTakenBy_3 (by decide) rfl ?_
  refine y_iconst CC (nI 0) dX3_goodsTakenBy_5 (by decide) ?_
  refine y_istore CC [(5, .int (nI 0)), (4, .int (nI 0)), (3, .int (nI 0)), (0, .ref (ad c)), (1, .int (nI a)), (2, .int (nI M))] dX3_goodsTakenBy_6 (by decide) rfl ?_
  have L8 : ∀ (n8 : Nat) (m : Nat), M + 1 - m < n8 → (m ≤ M + 1) → Y pp l ee (rmY 3 69) ss mm aa bb me cd D ad kI kS kL AA 8 0 0 QQ 8 [(5, .int (nI m)), (4, .int (nI (tk τ a (m * tS τ)))), (3, .int (nI (vis τ (m * tS τ)))), (0, .ref (ad c)), (1, .int (nI a)), (2, .int (nI M))] [] μ := by
    intro n8
    induction n8 with
    | zero => intro m hm8; exact absurd hm8 (Nat.not_lt_zero _)
    | succ n8 ih8 =>
      intro m hm8 hm
      refine y_iload CC 0 dX3_goodsTakenBy_8 rfl ?_
      refine y_iload_n CC 5 dX3_goodsTakenBy_10 rfl rfl ?_
      refine z_icmp_gt CC 89 dX3_goodsTakenBy_11 (by decide) (a := ((m : Nat) : Int)) (b := ((M : Nat) : Int)) (nI_toInt (by omega)) (nI_toInt (by omega)) (fun c_2 => ?_) (fun c_2 => ?_)
      · skip
        refine y_iload CC 1 dX3_goodsTakenBy_89 rfl ?_
        exact y_iret CC hQ dX3_goodsTakenBy_91 (⟨rfl, by rw [show m = M + 1 by omega]⟩)
      · skip
        refine y_iload CC 0 dX3_goodsTakenBy_14 rfl ?_
        refine y_bipush CC (nI 60) dX3_goodsTakenBy_16 (by decide) ?_
        refine z_icmp_gtF CC 89 dX3_goodsTakenBy_18 (by decide) (a := ((m : Nat) : Int)) (b := (60 : Int)) (nI_toInt (by omega)) (nI_toInt (by decide)) (by omega) ?_
        refine y_iconst CC (nI 0) dX3_goodsTakenBy_21 (by decide) ?_
        refine y_istore CC [(6, .int (nI 0)), (5, .int (nI m)), (4, .int (nI (tk τ a (m * tS τ)))), (3, .int (nI (vis τ (m * tS τ)))), (0, .ref (ad c)), (1, .int (nI a)), (2, .int (nI M))] dX3_goodsTakenBy_22 (by decide) rfl ?_
        have L24 : ∀ (n24 : Nat) (b : Nat), tS τ - b < n24 → (b ≤ tS τ) → Y pp l ee (rmY 3 69) ss mm aa bb me cd D ad kI kS kL AA 8 0 0 QQ 24 [(6, .int (nI b)), (5, .int (nI m)), (4, .int (nI (tk τ a (m * tS τ + b)))), (3, .int (nI (vis τ (m * tS τ + b)))), (0, .ref (ad c)), (1, .int (nI a)), (2, .int (nI M))] [] μ := by
          intro n24
          induction n24 with
          | zero => intro b hm24; exact absurd hm24 (Nat.not_lt_zero _)
          | succ n24 ih24 =>
            intro b hm24 hb
            have hv9 := set9 hP9 (vis_lt hP (m * tS τ + b))
            refine y_iload CC 0 dX3_goodsTakenBy_24 rfl ?_
            refine y_aload_n CC 4 dX3_goodsTakenBy_26 rfl rfl ?_
            refine y_geti CC gl_X3_24 hc rfl (v := nI (tS τ)) hT.2.1 dX3_goodsTakenBy_27 ?_
            refine z_icmp_ge CC 83 dX3_goodsTakenBy_30 (by decide) (a := ((b : Nat) : Int)) (b := ((tS τ : Nat) : Int)) (nI_toInt (by omega)) (nI_toInt (by omega)) (fun c_4 => ?_) (fun c_4 => ?_)
            · skip
              refine y_lvE (lv2 := [(6, .int (nI b)), (5, .int (nI m)), (4, .int (nI (tk τ a ((m + 1) * tS τ)))), (3, .int (nI (vis τ ((m + 1) * tS τ)))), (0, .ref (ad c)), (1, .int (nI a)), (2, .int (nI M))]) (by rw [show (m + 1) * tS τ = m * tS τ + b from by rw [Nat.succ_mul, show b = tS τ by omega]]) ?_
              refine y_iinc CC 1 (nI (m + 1)) [(5, .int (nI (m + 1))), (6, .int (nI b)), (4, .int (nI (tk τ a ((m + 1) * tS τ)))), (3, .int (nI (vis τ ((m + 1) * tS τ)))), (0, .ref (ad c)), (1, .int (nI a)), (2, .int (nI M))] dX3_goodsTakenBy_83 rfl (i_inc _) (by decide) rfl ?_
              refine y_goto CC 8 dX3_goodsTakenBy_86 (by decide) ?_
              refine y_lv [0, 2, 3, 4, 5, 6] rfl ?_
              exact ih8 (m + 1) (by omega) (by omega)
            · skip
              refine y_aload_n CC 4 dX3_goodsTakenBy_33 rfl rfl ?_
              refine y_iload CC 0 dX3_goodsTakenBy_34 rfl ?_
              refine y_iload CC 1 dX3_goodsTakenBy_36 rfl ?_
              refine y_callVI (st := []) CC cl_X3_106 (k_placeOf l D ad kI kS kL μ c hc τ hT hB hP b m (by omega) (by omega)) hc rfl rfl rfl (Nat.le_of_ble_eq_true rfl) ⟨by decide, by decide⟩ ⟨Nat.zero_le _, Nat.zero_le _⟩ dX3_goodsTakenBy_38 (fun r_ μ_ w_6 => ?_)
              obtain ⟨rfl, rfl⟩ := w_6
              have h_pl_5 := pl_lt (τ := τ) hP b m
              refine y_istore CC [(7, .int (nI (pl τ b m))), (6, .int (nI b)), (5, .int (nI m)), (4, .int (nI (tk τ a (m * tS τ + b)))), (3, .int (nI (vis τ (m * tS τ + b)))), (0, .ref (ad c)), (1, .int (nI a)), (2, .int (nI M))] dX3_goodsTakenBy_41 (by decide) rfl ?_
              refine y_iload CC 1 dX3_goodsTakenBy_43 rfl ?_
              refine y_iload_n CC 6 dX3_goodsTakenBy_45 rfl rfl ?_
              refine z_icmp_ne CC 69 dX3_goodsTakenBy_46 (by decide) (a := ((b : Nat) : Int)) (b := ((a : Nat) : Int)) (nI_toInt (by omega)) (nI_toInt (by omega)) (fun c_7 => ?_) (fun c_7 => ?_)
              · skip
                refine y_iload_n CC 4 dX3_goodsTakenBy_69 rfl rfl ?_
                refine y_iload CC 0 dX3_goodsTakenBy_70 rfl ?_
                refine y_callTI (st := [.int (nI (vis τ (m * tS τ + b)))]) CC CC.2.2.2.2.2.1.2.2.2.2.2.2 cl_X3_114 (k_bit l D ad kI kS kL μ (pl τ b m) (by omega)) rfl rfl (Nat.le_of_ble_eq_true rfl) ⟨by decide, by decide⟩ ⟨Nat.zero_le _, Nat.zero_le _⟩ dX3_goodsTakenBy_72 (fun r_ μ_ w_8 => ?_)
                obtain ⟨rfl, rfl⟩ := w_8
                refine y_ior CC dX3_goodsTakenBy_75 (v := nI ((vis τ (m * tS τ + b)) ||| (2 ^ (pl τ b m)))) (i_or _ _) ?_
                refine y_istore_n CC [(3, .int (nI ((vis τ (m * tS τ + b)) ||| (2 ^ (pl τ b m))))), (7, .int (nI (pl τ b m))), (6, .int (nI b)), (5, .int (nI m)), (4, .int (nI (tk τ a (m * tS τ + b)))), (0, .ref (ad c)), (1, .int (nI a)), (2, .int (nI M))] dX3_goodsTakenBy_76 rfl (by decide) rfl ?_
                refine y_iinc CC 2 (nI (b + 1)) [(6, .int (nI (b + 1))), (3, .int (nI ((vis τ (m * tS τ + b)) ||| (2 ^ (pl τ b m))))), (7, .int (nI (pl τ b m))), (5, .int (nI m)), (4, .int (nI (tk τ a (m * tS τ + b)))), (0, .ref (ad c)), (1, .int (nI a)), (2, .int (nI M))] dX3_goodsTakenBy_77 rfl (i_inc _) (by decide) rfl ?_
                refine y_goto CC 24 dX3_goodsTakenBy_80 (by decide) ?_
                refine y_lvE (lv2 := [(6, .int (nI (b + 1))), (3, .int (nI (vis τ (m * tS τ + (b + 1))))), (7, .int (nI (pl τ b m))), (5, .int (nI m)), (4, .int (nI (tk τ a (m * tS τ + (b + 1))))), (0, .ref (ad c)), (1, .int (nI a)), (2, .int (nI M))]) (by rw [show m * tS τ + (b + 1) = m * tS τ + b + 1 from rfl, vis_s (by omega), (tk_f (τ := τ) (a := a) (m := m) (b := b) (by omega) (Or.inl (by omega)))]) ?_
                refine y_lv [0, 3, 4, 1, 5, 6, 7] rfl ?_
                exact ih24 (b + 1) (by omega) (by omega)
              · skip
                refine y_iload_n CC 4 dX3_goodsTakenBy_49 rfl rfl ?_
                refine y_iload CC 0 dX3_goodsTakenBy_50 rfl ?_
                refine y_callTI (st := []) CC CC.2.2.2.2.2.1.2.2.2.2.2.1 cl_X3_110 (k_isIn l D ad kI kS kL μ (vis τ (m * tS τ + b)) (pl τ b m) (by omega) (by omega)) rfl rfl (Nat.le_of_ble_eq_true rfl) ⟨by decide, by decide⟩ ⟨Nat.zero_le _, Nat.zero_le _⟩ dX3_goodsTakenBy_52 (fun r_ μ_ w_10 => ?_)
                rcases w_10 with ⟨rfl, ⟨b_9, rfl⟩ | ⟨b_9, rfl⟩⟩
                · skip
                  refine z_if_neT CC 69 dX3_goodsTakenBy_55 (by decide) (a := (1 : Int)) (nI_toInt (by decide)) (by decide) ?_
                  refine y_iload_n CC 4 dX3_goodsTakenBy_69 rfl rfl ?_
                  refine y_iload CC 0 dX3_goodsTakenBy_70 rfl ?_
                  refine y_callTI (st := [.int (nI (vis τ (m * tS τ + b)))]) CC CC.2.2.2.2.2.1.2.2.2.2.2.2 cl_X3_114 (k_bit l D ad kI kS kL μ (pl τ b m) (by omega)) rfl rfl (Nat.le_of_ble_eq_true rfl) ⟨by decide, by decide⟩ ⟨Nat.zero_le _, Nat.zero_le _⟩ dX3_goodsTakenBy_72 (fun r_ μ_ w_11 => ?_)
                  obtain ⟨rfl, rfl⟩ := w_11
                  refine y_ior CC dX3_goodsTakenBy_75 (v := nI ((vis τ (m * tS τ + b)) ||| (2 ^ (pl τ b m)))) (i_or _ _) ?_
                  refine y_istore_n CC [(3, .int (nI ((vis τ (m * tS τ + b)) ||| (2 ^ (pl τ b m))))), (7, .int (nI (pl τ b m))), (6, .int (nI b)), (5, .int (nI m)), (4, .int (nI (tk τ a (m * tS τ + b)))), (0, .ref (ad c)), (1, .int (nI a)), (2, .int (nI M))] dX3_goodsTakenBy_76 rfl (by decide) rfl ?_
                  refine y_iinc CC 2 (nI (b + 1)) [(6, .int (nI (b + 1))), (3, .int (nI ((vis τ (m * tS τ + b)) ||| (2 ^ (pl τ b m))))), (7, .int (nI (pl τ b m))), (5, .int (nI m)), (4, .int (nI (tk τ a (m * tS τ + b)))), (0, .ref (ad c)), (1, .int (nI a)), (2, .int (nI M))] dX3_goodsTakenBy_77 rfl (i_inc _) (by decide) rfl ?_
                  refine y_goto CC 24 dX3_goodsTakenBy_80 (by decide) ?_
                  refine y_lvE (lv2 := [(6, .int (nI (b + 1))), (3, .int (nI (vis τ (m * tS τ + (b + 1))))), (7, .int (nI (pl τ b m))), (5, .int (nI m)), (4, .int (nI (tk τ a (m * tS τ + (b + 1))))), (0, .ref (ad c)), (1, .int (nI a)), (2, .int (nI M))]) (by rw [show m * tS τ + (b + 1) = m * tS τ + b + 1 from rfl, vis_s (by omega), (tk_f (τ := τ) (a := a) (m := m) (b := b) (by omega) (Or.inr b_9))]) ?_
                  refine y_lv [0, 3, 4, 1, 5, 6, 7] rfl ?_
                  exact ih24 (b + 1) (by omega) (by omega)
                · skip
                  refine z_if_neF CC 69 dX3_goodsTakenBy_55 (by decide) (a := (0 : Int)) (nI_toInt (by decide)) (by decide) ?_
                  refine y_iload CC 3 dX3_goodsTakenBy_58 rfl ?_
                  refine y_aload_n CC 5 dX3_goodsTakenBy_60 rfl rfl ?_
                  refine y_iload CC 0 dX3_goodsTakenBy_61 rfl ?_
                  refine y_callVI (st := [.int (nI (tk τ a (m * tS τ + b)))]) CC cl_X3_95 (k_goodsAt l D ad kI kS kL μ c hc τ hT hB (nI (pl τ b m))) hc rfl rfl rfl (Nat.le_of_ble_eq_true rfl) ⟨by decide, by decide⟩ ⟨Nat.zero_le _, Nat.zero_le _⟩ dX3_goodsTakenBy_63 (fun r_ μ_ w_12 => ?_)
                  obtain ⟨rfl, rfl⟩ := w_12
                  refine y_top (y := nI (tG τ (pl τ b m))) (by rw [if_pos (inB_nI (by omega) (by omega)), ix_nI (by omega)]) ?_
                  refine y_iadd CC dX3_goodsTakenBy_66 (v := nI ((tk τ a (m * tS τ + b)) + (tG τ (pl τ b m)))) (nI_add _ _) ?_
                  refine y_istore CC [(4, .int (nI ((tk τ a (m * tS τ + b)) + (tG τ (pl τ b m))))), (7, .int (nI (pl τ b m))), (6, .int (nI b)), (5, .int (nI m)), (3, .int (nI (vis τ (m * tS τ + b)))), (0, .ref (ad c)), (1, .int (nI a)), (2, .int (nI M))] dX3_goodsTakenBy_67 (by decide) rfl ?_
                  refine y_iload_n CC 4 dX3_goodsTakenBy_69 rfl rfl ?_
                  refine y_iload CC 1 dX3_goodsTakenBy_70 rfl ?_
                  refine y_callTI (st := [.int (nI (vis τ (m * tS τ + b)))]) CC CC.2.2.2.2.2.1.2.2.2.2.2.2 cl_X3_114 (k_bit l D ad kI kS kL μ (pl τ b m) (by omega)) rfl rfl (Nat.le_of_ble_eq_true rfl) ⟨by decide, by decide⟩ ⟨Nat.zero_le _, Nat.zero_le _⟩ dX3_goodsTakenBy_72 (fun r_ μ_ w_13 => ?_)
                  obtain ⟨rfl, rfl⟩ := w_13
                  refine y_ior CC dX3_goodsTakenBy_75 (v := nI ((vis τ (m * tS τ + b)) ||| (2 ^ (pl τ b m)))) (i_or _ _) ?_
                  refine y_istore_n CC [(3, .int (nI ((vis τ (m * tS τ + b)) ||| (2 ^ (pl τ b m))))), (4, .int (nI ((tk τ a (m * tS τ + b)) + (tG τ (pl τ b m))))), (7, .int (nI (pl τ b m))), (6, .int (nI b)), (5, .int (nI m)), (0, .ref (ad c)), (1, .int (nI a)), (2, .int (nI M))] dX3_goodsTakenBy_76 rfl (by decide) rfl ?_
                  refine y_iinc CC 3 (nI (b + 1)) [(6, .int (nI (b + 1))), (3, .int (nI ((vis τ (m * tS τ + b)) ||| (2 ^ (pl τ b m))))), (4, .int (nI ((tk τ a (m * tS τ + b)) + (tG τ (pl τ b m))))), (7, .int (nI (pl τ b m))), (5, .int (nI m)), (0, .ref (ad c)), (1, .int (nI a)), (2, .int (nI M))] dX3_goodsTakenBy_77 rfl (i_inc _) (by decide) rfl ?_
                  refine y_goto CC 24 dX3_goodsTakenBy_80 (by decide) ?_
                  refine y_lvE (lv2 := [(6, .int (nI (b + 1))), (3, .int (nI (vis τ (m * tS τ + (b + 1))))), (4, .int (nI (tk τ a (m * tS τ + (b + 1))))), (7, .int (nI (pl τ b m))), (5, .int (nI m)), (0, .ref (ad c)), (1, .int (nI a)), (2, .int (nI M))]) (by rw [show m * tS τ + (b + 1) = m * tS τ + b + 1 from rfl, vis_s (by omega), show tk τ a (m * tS τ + b + 1) = tk τ a (m * tS τ + b) + tG τ (pl τ b m) from (by obtain rfl : b = a := (by omega); exact (tk_t (τ := τ) (m := m) (b := b) (by omega) b_9))]) ?_
                  refine y_lv [0, 4, 2, 1, 5, 6, 7] rfl ?_
                  exact ih24 (b + 1) (by omega) (by omega)
        exact L24 _ 0 (Nat.lt_succ_self _) (Nat.zero_le _)
  refine y_lvE (lv2 := [(5, .int (nI 0)), (4, .int (nI (tk τ a (0 * tS τ)))), (3, .int (nI (vis τ (0 * tS τ)))), (0, .ref (ad c)), (1, .int (nI a)), (2, .int (nI M))]) (by rw [Nat.zero_mul]; rfl) ?_
  exact L8 _ 0 (Nat.lt_succ_self _) (Nat.zero_le _)
