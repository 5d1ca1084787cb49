theorem soon_rcM {τ : Tn} {f t : Nat} (h : (frS τ 15 0).testBit f = true) : sn (rcM τ 15 f) t 0 (60 + 1) = soon τ 15 f t := sn_ext (rcM_eq h) 0 61
/-- the least act again, by the bits -/
theorem faS_0 {P s p : Nat} (h : s.testBit (after P p 0) = true) : faS P s p = some 0 := by rw [faS, if_pos h]
theorem faS_1 {P s p : Nat} (h0 : s.testBit (after P p 0) = false) (h : s.testBit (after P p 1) = true) : faS P s p = some 1 := by rw [faS, if_neg (by rw [h0]; decide), if_pos h]
theorem faS_2 {P s p : Nat} (h0 : s.testBit (after P p 0) = false) (h1 : s.testBit (after P p 1) = false) (h : s.testBit (after P p 2) = true) : faS P s p = some 2 := by rw [faS, if_neg (by rw [h0]; decide), if_neg (by rw [h1]; decide), if_pos h]
theorem faS_n {P s p : Nat} (h0 : s.testBit (after P p 0) = false) (h1 : s.testBit (after P p 1) = false) (h : s.testBit (after P p 2) = false) : faS P s p = none := by rw [faS, if_neg (by rw [h0]; decide), if_neg (by rw [h1]; decide), if_neg (by rw [h]; decide)]
theorem TM.st {μ ν : Mem} {τ : Tn} {j : Nat} (h : TM μ τ) (hF : ∀ c k, c ≠ 34 ∨ k ≠ j → ν c k = μ c k) (v : Nat) : TM (mu ν 34 j (nI v)) (tu τ 3 j v) := by
  refine ⟨?_, ?_, fun a ha => ?_, fun p hp => ?_⟩
  · rw [mu_ne _ _ (Or.inl (by decide)), hF _ _ (Or.inl (by decide))]; simpa [tu] using h.1
  · rw [mu_ne _ _ (Or.inl (by decide)), hF _ _ (Or.inl (by decide))]; simpa [tu] using h.2.1
  · obtain ⟨h1, h2, h3⟩ := h.2.2.1 a (by simpa [tu] using ha)
    rw [mu_ne _ _ (Or.inl (by decide)), mu_ne _ _ (Or.inl (by decide)), hF 32 _ (Or.inl (by decide)), hF 33 _ (Or.inl (by decide))]
    refine ⟨by simpa [tu] using h1, by simpa [tu] using h2, ?_⟩
    by_cases e : a = j
    · subst e; rw [mu_at]; simp [tu]
    · rw [mu_k _ _ e, hF _ _ (Or.inr e), tD, tu_i _ _ e]; exact h3
  · rw [mu_ne _ _ (Or.inl (by decide)), hF _ _ (Or.inl (by decide))]; simpa [tu] using h.2.2.2 p (by simpa [tu] using hp)
theorem TM.kd {μ ν : Mem} {τ : Tn} {j : Nat} (h : TM μ τ) (hF : ∀ c k, c ≠ 32 ∨ k ≠ j → ν c k = μ c k) (v : Nat) : TM (mu ν 32 j (nI v)) (tu τ 1 j v) := by
  refine ⟨?_, ?_, fun a ha => ?_, fun p hp => ?_⟩
  · rw [mu_ne _ _ (Or.inl (by decide)), hF _ _ (Or.inl (by decide))]; simpa [tu] using h.1
  · rw [mu_ne _ _ (Or.inl (by decide)), hF _ _ (Or.inl (by decide))]; simpa [tu] using h.2.1
  · obtain ⟨h1, h2, h3⟩ := h.2.2.1 a (by simpa [tu] using ha)
    rw [mu_ne _ _ (show 33 ≠ 32 ∨ a ≠ j from Or.inl (by decide)), mu_ne _ _ (show 34 ≠ 32 ∨ a ≠ j from Or.inl (by decide)), hF 33 _ (Or.inl (by decide)), hF 34 _ (Or.inl (by decide))]
    refine ⟨?_, by simpa [tu] using h2, by simpa [tu] using h3⟩
    by_cases e : a = j
    · subst e; rw [mu_at]; simp [tu]
    · rw [mu_k _ _ e, hF _ _ (Or.inr e), tK, tu_i _ _ e]; exact h1
  · rw [mu_ne _ _ (Or.inl (by decide)), hF _ _ (Or.inl (by decide))]; simpa [tu] using h.2.2.2 p (by simpa [tu] using hp)
theorem TM.sa {μ ν : Mem} {τ : Tn} {j : Nat} (h : TM μ τ) (hF : ∀ c k, c ≠ 33 ∨ k ≠ j → ν c k = μ c k) (v : Nat) : TM (mu ν 33 j (nI v)) (tu τ 2 j v) := by
  refine ⟨?_, ?_, fun a ha => ?_, fun p hp => ?_⟩
  · rw [mu_ne _ _ (Or.inl (by decide)), hF _ _ (Or.inl (by decide))]; simpa [tu] using h.1
  · rw [mu_ne _ _ (Or.inl (by decide)), hF _ _ (Or.inl (by decide))]; simpa [tu] using h.2.1
  · obtain ⟨h1, h2, h3⟩ := h.2.2.1 a (by simpa [tu] using ha)
    rw [mu_ne _ _ (show 32 ≠ 33 ∨ a ≠ j from Or.inl (by decide)), mu_ne _ _ (show 34 ≠ 33 ∨ a ≠ j from Or.inl (by decide)), hF 32 _ (Or.inl (by decide)), hF 34 _ (Or.inl (by decide))]
    refine ⟨by simpa [tu] using h1, ?_, by simpa [tu] using h3⟩
    by_cases e : a = j
    · subst e; rw [mu_at]; simp [tu]
    · rw [mu_k _ _ e, hF _ _ (Or.inr e), tA, tu_i _ _ e]; exact h2
  · rw [mu_ne _ _ (Or.inl (by decide)), hF _ _ (Or.inl (by decide))]; simpa [tu] using h.2.2.2 p (by simpa [tu] using hp)
theorem tB_u {τ : Tn} (h : tB τ) {r j v : Nat} (hr : (r = 1 ∧ v ≤ 2) ∨ ((r = 2 ∨ r = 3) ∧ v ≤ 9)) : tB (tu τ r j v) := by
  obtain ⟨h1, h2, h3, h4⟩ := h
  refine ⟨?_, ?_, fun a ha => ?_, fun p hp => ?_⟩
  · rw [tP, tu_r _ _ _ (by omega)]; exact h1
  · rw [tS, tu_r _ _ _ (by omega)]; exact h2
  · obtain ⟨a1, a2, a3⟩ := h3 a ha
    simp only [tK, tA, tD, tu_if]
    refine ⟨?_, ?_, ?_⟩ <;> split <;> first | assumption | omega
  · rw [tG, tu_r _ _ _ (by omega)]; exact h4 p hp
theorem mu_back {μ ν : Mem} {c j : Nat} {v : Int32} (hF : ∀ c' k, c' ≠ c ∨ k ≠ j → ν c' k = μ c' k) (h : μ c j = v) : μ = mu ν c j v := by
  funext c' k
  by_cases e : c' ≠ c ∨ k ≠ j
  · rw [mu_ne _ _ e, hF _ _ e]
  · have e1 : c' = c := by omega
    have e2 : k = j := by omega
    subst e1; subst e2
    rw [mu_at]; exact h
theorem FR_mu {μ ν : Mem} {c j : Nat} {v : Int32} (hF : ∀ c' k, c' ≠ c ∨ k ≠ j → ν c' k = μ c' k) : ∀ c' k, c' ≠ c ∨ k ≠ j → mu ν c j v c' k = μ c' k := fun c' k h => by rw [mu_ne _ _ h]; exact hF c' k h
theorem RM.same {μ ν : Mem} {ρ : Tn} (h : RM μ ρ) (h1 : ν 30 21 = μ 30 21) (h2 : ∀ c k, 41 ≤ c → c ≤ 43 → ν c k = μ c k) : RM ν ρ := ⟨by rw [h1]; exact h.1, fun i hi => by rw [h2 41 i (by decide) (by decide), h2 42 i (by decide) (by decide), h2 43 i (by decide) (by decide)]; exact h.2 i hi⟩
theorem pl_st {τ : Tn} {j v m : Nat} : pl (tu τ 3 j v) j m = pif τ (tK τ j) (tA τ j) v m := by simp [pl, pif, tu]
/-- who comes to p, as a set, behind n steps -/
def gsN (τ : Tn) (p : Nat) : Nat → Nat
  | 0 => 0
  | n + 1 => gsN τ p n ||| (if pl τ (n % tS τ) (n / tS τ) = p then 2 ^ (n % tS τ) else 0)
theorem gsN_bit {τ : Tn} {p a : Nat} : ∀ n, (gsN τ p n).testBit a = true ↔ ∃ x, x < n ∧ x % tS τ = a ∧ pl τ a (x / tS τ) = p
  | 0 => by rw [gsN]; simp
  | n + 1 => by
    rw [gsN, Nat.testBit_or, Bool.or_eq_true, gsN_bit n]
    constructor
    · rintro (⟨x, h1, h2, h3⟩ | h)
      · exact ⟨x, by omega, h2, h3⟩
      · split at h
        · rename_i hp
          rw [Nat.testBit_two_pow] at h
          have e := of_decide_eq_true h
          exact ⟨n, by omega, e, by rw [← e]; exact hp⟩
        · simp at h
    · rintro ⟨x, h1, h2, h3⟩
      by_cases e : x = n
      · right
        subst e
        subst h2
        rw [if_pos h3, Nat.testBit_two_pow]; simp
      · exact Or.inl ⟨x, by omega, h2, h3⟩
theorem gsN_ct {τ : Tn} {p a : Nat} (ha : a < tS τ) : (gsN τ p (tS τ * 61)).testBit a = ctB τ a p := by
  cases hb : ctB τ a p with
  | true =>
    obtain ⟨m, h1, h2⟩ := List.any_eq_true.mp hb
    have hm := List.mem_range.mp h1
    refine (gsN_bit _).mpr ⟨m * tS τ + a, ?_, step_mod ha, by rw [step_div ha]; exact of_decide_eq_true h2⟩
    have : m * tS τ + tS τ ≤ 61 * tS τ := by rw [← Nat.succ_mul]; exact Nat.mul_le_mul_right _ (by omega)
    rw [Nat.mul_comm (tS τ) 61]; omega
  | false =>
    cases hg : (gsN τ p (tS τ * 61)).testBit a with
    | false => rfl
    | true =>
      obtain ⟨x, h1, h2, h3⟩ := (gsN_bit _).mp hg
      have : x / tS τ ≤ 60 := div_le_of (M := 60) h1 (by omega)
      rw [ctB_t (by omega) h3] at hb
      cases hb
theorem gsN_lt {τ : Tn} {p : Nat} (h : 0 < tS τ) (h4 : tS τ ≤ 4) : ∀ n, gsN τ p n < 16
  | 0 => by rw [gsN]; decide
  | n + 1 => by
    rw [gsN]
    apply Nat.or_lt_two_pow (n := 4) (gsN_lt h h4 n)
    split
    · exact Nat.pow_lt_pow_right (by decide) (by have := Nat.mod_lt n h; omega)
    · decide
theorem bit_num {x k : Nat} : (x / 2 ^ k) &&& 1 = if x.testBit k = true then 1 else 0 := by
  rw [Nat.and_one_is_mod, Nat.testBit_eq_decide_div_mod_eq]
  by_cases h : x / 2 ^ k % 2 = 1
  · simp [h]
  · simp [h]; omega
def bI (τ : Tn) (p : Nat) : Int32 := if (gbS τ p).2 = 0 then -9 else nI (gbS τ p).1
theorem gbS_ge {τ : Tn} {q : Nat} : ∀ p, q < p → cmS τ q (tS τ) ≤ (gbS τ p).2
  | 0, h => absurd h (Nat.not_lt_zero q)
  | p + 1, h => by
    rw [gbS]
    by_cases e : q = p
    · subst e
      split
      · exact Nat.le_refl _
      · omega
    · have := gbS_ge (τ := τ) (q := q) p (by omega)
      split
      · show cmS τ q (tS τ) ≤ cmS τ p (tS τ); omega
      · exact this
theorem cmS_pos {τ : Tn} {p a : Nat} (h : ctB τ a p = true) : ∀ k, a < k → 1 ≤ cmS τ p k
  | 0, q => absurd q (Nat.not_lt_zero a)
  | k + 1, q => by
    rw [cmS]
    by_cases e : a = k
    · subst e; rw [if_pos h]; omega
    · have := cmS_pos h k (by omega); omega
theorem gb_end {τ : Tn} (hV : tV τ) (hS : 0 < tS τ) : bI τ (tP τ) = nI (gbS τ (tP τ)).1 := by
  have h1 := hV.2.2 0 hS
  have hc : ctB τ 0 (tA τ 0) = true := ctB_t (m := 0) (by decide) (by
    unfold pl pif gone
    simp
    exact Nat.mod_eq_of_lt h1.1)
  have h2 := cmS_pos hc (tS τ) hS
  have h3 := gbS_ge (τ := τ) (q := tA τ 0) (tP τ) h1.1
  rw [bI, if_neg (by omega)]
/-- odds: the reference's count -/
def cwM (τ : Tn) (f t n set : Nat) : Bool := (sn (rcM τ (15 ^^^ set) f) t 0 (n + 1)).isSome
theorem ab_w : ∀ set, set < 16 → ∀ a, a < 4 → (15 ^^^ set).testBit a = !set.testBit a := by decide +kernel
theorem gcd_r {u d S : Nat} (hS : S ≤ 4) (hd : d = 2 ^ S) (hu : u ≤ d) : rdS 5 (u, d) = (u / Nat.gcd u d, d / Nat.gcd u d) := by
  have h : ∀ S, S < 5 → ∀ u, u < 2 ^ S + 1 → rdS 5 (u, 2 ^ S) = (u / Nat.gcd u (2 ^ S), 2 ^ S / Nat.gcd u (2 ^ S)) := by decide +kernel
  subst hd
  exact h S (by omega) u (by omega)
theorem l_sh1 : ∀ S, S < 5 → (1 : Int64) <<< ((nI S).toInt64 &&& 63) = lN (2 ^ S) := by decide +kernel
def lsS (τ : Tn) (a : Nat) (o : Option Nat) : Nat := match o with
  | none => 9
  | some b => dst b (tD τ a)

set_option maxRecDepth 100000 in
set_option maxHeartbeats 4000000 in
theorem m_free (l : Launch) (D : va_G) (ad : Nat → Nat) (kI kS kL : ClassId) (μ : Mem) (τ : Tn) (hM : TM μ τ) (hV : tV τ) (hab : μ 30 7 = nI 0) (m : Int32) : MI l D ad kI kS kL yX5_free cX5_free 2 (some .int) 2 47 [.ref (ad 30), .int m] μ (fun r μ2 => μ = μ2 ∧ r = q_free τ m) := by
  refine met_I RX5 rfl (by decide) (lv := [(0, .ref (ad 30)), (1, .int m)]) rfl (Nat.le_of_ble_eq_true rfl) ?_
  intro pp ee ss mm aa bb me cd AA hA0 CC hnm QQ hQ
  have hB := hV.1
  have hP9 : tP τ ≤ 9 := hB.1
  have hS4 : tS τ ≤ 4 := hB.2.1
  have hVc := hV.2.1
  refine y_iload_n CC 1 dX5_free_0 rfl rfl ?_
  refine y_callSI (st := []) CC cl_X5_141 (m_noMinute l D ad kI kS kL μ m) rfl rfl (Nat.le_of_ble_eq_true rfl) ⟨by decide, by decide⟩ ⟨Nat.zero_le _, Nat.zero_le _⟩ dX5_free_1 (fun r_ μ_ w_2 => ?_)
  rcases w_2 with ⟨rfl, ⟨b_1, rfl⟩ | ⟨b_1, rfl⟩⟩
  · skip
    refine z_if_eqF CC 10 dX5_free_4 (by decide) (a := (1 : Int)) (nI_toInt (by decide)) (by decide) ?_
    refine y_bipush CC ((-2)) dX5_free_7 (by decide) ?_
    exact y_iret CC hQ dX5_free_9 (⟨rfl, by simp [q_free, b_1]⟩)
  · skip
    obtain ⟨jm, hjm, rfl⟩ := inB_of b_1 (by omega)
    refine z_if_eqT CC 10 dX5_free_4 (by decide) (a := (0 : Int)) (nI_toInt (by decide)) (by decide) ?_
    refine y_aload_n CC 0 dX5_free_10 rfl rfl ?_
    refine y_geti CC gl_X5_78 (by omega) rfl (v := nI (tS τ)) hM.2.1 dX5_free_11 ?_
    refine z_if_ne CC 22 dX5_free_14 (by decide) (a := ((tS τ : Nat) : Int)) (nI_toInt (by omega)) (fun c_3 => ?_) (fun c_3 => ?_)
    · skip
      have h0_ : 0 < tP τ := by omega
      refine y_aload_n CC 0 dX5_free_22 rfl rfl ?_
      refine y_iload_n CC 1 dX5_free_23 rfl rfl ?_
      refine y_callVI (ci := 5) (st := []) CC cl_X5_153 (m_freeAt l D ad kI kS kL μ τ hM hB (by omega) 15 0 hab (by decide) (by decide) jm (by omega)) (by omega) rfl rfl rfl (Nat.le_of_ble_eq_true rfl) ⟨by decide, by decide⟩ ⟨Nat.zero_le _, Nat.zero_le _⟩ dX5_free_24 (fun r_ μ_ w_5 => ?_)
      obtain ⟨rfl, rfl⟩ := w_5
      have h_fr_4 := set9 (P := tP τ) (by omega) (frS_lt τ 15 jm)
      exact y_iret CC hQ dX5_free_27 (⟨rfl, by simp [q_free, b_1, ix_nI (show jm < 2 ^ 31 by omega), h0_]⟩)
    · skip
      have h0_ : ¬ 0 < tP τ := by omega
      refine y_bipush CC ((-3)) dX5_free_17 (by decide) ?_
      refine y_goto CC 27 dX5_free_19 (by decide) ?_
      exact y_iret CC hQ dX5_free_27 (⟨rfl, by simp [q_free, b_1, ix_nI (show jm < 2 ^ 31 by omega), h0_]⟩)

set_option maxRecDepth 100000 in
set_option maxHeartbeats 4000000 in
theorem m_soonest (l : Launch) (D : va_G) (ad : Nat → Nat) (kI kS kL : ClassId) (μ : Mem) (τ : Tn) (hM : TM μ τ) (hV : tV τ) (hab : μ 30 7 = nI 0) (f t k : Int32) : MI l D ad kI kS kL yX5_soonest cX5_soonest 9 (some .int) 4 96 [.ref (ad 30), .int f, .int t, .int k] μ (fun r μ2 => (∀ c1 k1, c1 ≠ 40 → μ2 c1 k1 = μ c1 k1) ∧ r = q_soonest τ f t k) := by
  refine met_I RX5 rfl (by decide) (lv := [(0, .ref (ad 30)), (1, .int f), (2, .int t), (3, .int k)]) rfl (Nat.le_of_ble_eq_true rfl) ?_
  intro pp ee ss mm aa bb me cd AA hA0 CC hnm QQ hQ
  have hB := hV.1
  have hP9 : tP τ ≤ 9 := hB.1
  have hS4 : tS τ ≤ 4 := hB.2.1
  have hVc := hV.2.1
  refine y_aload_n CC 0 dX5_soonest_0 rfl rfl ?_
  refine y_iload_n CC 1 dX5_soonest_1 rfl rfl ?_
  refine y_callVI (ci := 5) (st := []) CC cl_X5_134 (m_noPlace l D ad kI kS kL μ τ hM hB f) (by omega) rfl rfl rfl (Nat.le_of_ble_eq_true rfl) ⟨by decide, by decide⟩ ⟨Nat.zero_le _, Nat.zero_le _⟩ dX5_soonest_2 (fun r_ μ_ w_2 => ?_)
  rcases w_2 with ⟨rfl, ⟨b_1, rfl⟩ | ⟨b_1, rfl⟩⟩
  · skip
    refine z_if_neT CC 16 dX5_soonest_5 (by decide) (a := (1 : Int)) (nI_toInt (by decide)) (by decide) ?_
    refine y_iconst CC ((-1)) dX5_soonest_16 (by decide) ?_
    exact y_iret CC hQ dX5_soonest_17 (⟨fun _ _ _ => rfl, by simp [q_soonest, b_1]⟩)
  · skip
    obtain ⟨jf, hjf, rfl⟩ := inB_of b_1 (by omega)
    refine z_if_neF CC 16 dX5_soonest_5 (by decide) (a := (0 : Int)) (nI_toInt (by decide)) (by decide) ?_
    refine y_aload_n CC 0 dX5_soonest_8 rfl rfl ?_
    refine y_iload_n CC 2 dX5_soonest_9 rfl rfl ?_
    refine y_callVI (ci := 5) (st := []) CC cl_X5_134 (m_noPlace l D ad kI kS kL μ τ hM hB t) (by omega) rfl rfl rfl (Nat.le_of_ble_eq_true rfl) ⟨by decide, by decide⟩ ⟨Nat.zero_le _, Nat.zero_le _⟩ dX5_soonest_10 (fun r_ μ_ w_4 => ?_)
    rcases w_4 with ⟨rfl, ⟨b_3, rfl⟩ | ⟨b_3, rfl⟩⟩
    · skip
      refine z_if_eqF CC 18 dX5_soonest_13 (by decide) (a := (1 : Int)) (nI_toInt (by decide)) (by decide) ?_
      refine y_iconst CC ((-1)) dX5_soonest_16 (by decide) ?_
      exact y_iret CC hQ dX5_soonest_17 (⟨fun _ _ _ => rfl, by simp [q_soonest, b_1, ix_nI (show jf < 2 ^ 31 by omega), b_3]⟩)
    · skip
      obtain ⟨jt, hjt, rfl⟩ := inB_of b_3 (by omega)
      refine z_if_eqT CC 18 dX5_soonest_13 (by decide) (a := (0 : Int)) (nI_toInt (by decide)) (by decide) ?_
      refine y_iload_n CC 3 dX5_soonest_18 rfl rfl ?_
      refine y_i2l CC dX5_soonest_19 (v := (k).toInt64) rfl ?_
      refine y_ldc2 CC kl_X5_180 dX5_soonest_20 ?_
      refine y_ldc2 CC kl_X5_182 dX5_soonest_23 ?_
      refine y_callSI (st := []) CC cl_X5_74 (m_in l D ad kI kS kL μ ((k).toInt64) (-1) (59) ((k).toInt) ((-1 : Int)) ((59 : Int))  ((l_i _).trans rfl) (by decide) (by decide)) rfl rfl (Nat.le_of_ble_eq_true rfl) ⟨by decide, by decide⟩ ⟨Nat.zero_le _, Nat.zero_le _⟩ dX5_soonest_26 (fun r_ μ_ w_6 => ?_)
      rcases w_6 with ⟨rfl, ⟨i_5, rfl⟩ | ⟨i_5, rfl⟩⟩
      · skip
        have hk1_ : -1 ≤ k.toInt := by omega
        have hk2_ : k.toInt < 60 := by omega
        refine z_if_neT CC 35 dX5_soonest_29 (by decide) (a := (1 : Int)) (nI_toInt (by decide)) (by decide) ?_
        refine y_aload_n CC 0 dX5_soonest_35 rfl rfl ?_
        refine y_iconst CC (nI 0) dX5_soonest_36 (by decide) ?_
        refine y_callVI (ci := 5) (st := []) CC cl_X5_153 (m_freeAt l D ad kI kS kL μ τ hM hB (by omega) 15 0 hab (by decide) (by decide) 0 (by omega)) (by omega) rfl rfl rfl (Nat.le_of_ble_eq_true rfl) ⟨by decide, by decide⟩ ⟨Nat.zero_le _, Nat.zero_le _⟩ dX5_soonest_37 (fun r_ μ_ w_8 => ?_)
        obtain ⟨rfl, rfl⟩ := w_8
        have h_fr_7 := set9 (P := tP τ) (by omega) (frS_lt τ 15 0)
        refine y_iload_n CC 1 dX5_soonest_40 rfl rfl ?_
        refine y_callSI (st := []) CC cl_X5_150 (m_isIn l D ad kI kS kL μ (frS τ 15 0) jf (by omega) (by omega)) rfl rfl (Nat.le_of_ble_eq_true rfl) ⟨by decide, by decide⟩ ⟨Nat.zero_le _, Nat.zero_le _⟩ dX5_soonest_41 (fun r_ μ_ w_10 => ?_)
        rcases w_10 with ⟨rfl, ⟨b_9, rfl⟩ | ⟨b_9, rfl⟩⟩
        · skip
          refine z_if_neT CC 50 dX5_soonest_44 (by decide) (a := (1 : Int)) (nI_toInt (by decide)) (by decide) ?_
          refine y_aload_n CC 0 dX5_soonest_50 rfl rfl ?_
          refine y_iload_n CC 1 dX5_soonest_51 rfl rfl ?_
          refine y_iload_n CC 2 dX5_soonest_52 rfl rfl ?_
          refine y_bipush CC (nI 60) dX5_soonest_53 (by decide) ?_
          refine y_callVI (ci := 5) (st := []) CC cl_X5_184 (m_soonestOf l D ad kI kS kL μ τ hM hB (by omega) 15 0 hab (by decide) (by decide) jf jt 60 (by omega) (by omega) (by omega)) (by omega) rfl rfl rfl (Nat.le_of_ble_eq_true rfl) ⟨by decide, by decide⟩ ⟨Nat.zero_le _, Nat.zero_le _⟩ dX5_soonest_55 (fun r_ μ_ w_11 => ?_)
          obtain ⟨rfl, rfl⟩ := w_11
          refine y_top (y := oI (soon τ 15 jf jt)) (by rw [soon_rcM b_9]) ?_
          refine y_istore CC [(4, .int (oI (soon τ 15 jf jt))), (0, .ref (ad 30)), (1, .int (nI jf)), (2, .int (nI jt)), (3, .int k)] dX5_soonest_58 (by decide) rfl ?_
          rcases hb_ : soon τ 15 jf jt with _ | n
          · skip
            refine y_lvE (lv2 := [(4, .int (-9)), (0, .ref (ad 30)), (1, .int (nI jf)), (2, .int (nI jt)), (3, .int k)]) (by first | rfl | (rw [hb_]; rfl)) ?_
            refine y_iload_n CC 4 dX5_soonest_60 rfl rfl ?_
            refine z_if_lt CC 70 dX5_soonest_61 (by decide) (a := (k).toInt) rfl (fun c_12 => ?_) (fun c_12 => ?_)
            · skip
              have hkm_ : k.toInt = -1 := by omega
              refine y_iload_n CC 4 dX5_soonest_70 rfl rfl ?_
              refine z_if_geF CC 79 dX5_soonest_71 (by decide) (a := (k).toInt) rfl (by omega) ?_
              refine y_iload CC 0 dX5_soonest_74 rfl ?_
              refine y_goto CC 81 dX5_soonest_76 (by decide) ?_
              exact y_iret CC hQ dX5_soonest_81 (⟨fun _ _ _ => rfl, by simp [q_soonest, b_1, ix_nI (show jf < 2 ^ 31 by omega), b_3, ix_nI (show jt < 2 ^ 31 by omega), hk1_, hk2_, b_9, hb_, hkm_]⟩)
            · skip
              obtain ⟨jk, hjk, rfl⟩ := inB_of (x := k) (n := 60) (inB_t (by omega)) (by omega)
              have hkn_ : ¬ ((jk : Nat) : Int) = -1 := by omega
              refine y_iload_n CC 4 dX5_soonest_64 rfl rfl ?_
              refine y_iload CC 0 dX5_soonest_65 rfl ?_
              refine z_icmp_ltF CC 82 dX5_soonest_67 (by decide) (a := ((jk : Nat) : Int)) (b := (-9 : Int)) (nI_toInt (by omega)) (by decide) (by omega) ?_
              refine y_iload_n CC 4 dX5_soonest_70 rfl rfl ?_
              refine z_if_geT CC 79 dX5_soonest_71 (by decide) (a := ((jk : Nat) : Int)) (nI_toInt (by omega)) (by omega) ?_
              refine y_bipush CC ((-9)) dX5_soonest_79 (by decide) ?_
              exact y_iret CC hQ dX5_soonest_81 (⟨fun _ _ _ => rfl, by simp [q_soonest, b_1, ix_nI (show jf < 2 ^ 31 by omega), b_3, ix_nI (show jt < 2 ^ 31 by omega), b_9, hb_, hkn_, nI_toInt (show jk < 2 ^ 31 by omega), ix_nI (show jk < 2 ^ 31 by omega), show (-1 : Int) ≤ ((jk : Nat) : Int) by omega, hjk, show ((jk : Nat) : Int) < 60 by omega]⟩)
          · skip
            refine y_lvE (lv2 := [(4, .int (nI n)), (0, .ref (ad 30)), (1, .int (nI jf)), (2, .int (nI jt)), (3, .int k)]) (by first | rfl | (rw [hb_]; rfl)) ?_
            have hn_ := soon_61 hb_
            refine y_iload_n CC 4 dX5_soonest_60 rfl rfl ?_
            refine z_if_lt CC 70 dX5_soonest_61 (by decide) (a := (k).toInt) rfl (fun c_13 => ?_) (fun c_13 => ?_)
            · skip
              have hkm_ : k.toInt = -1 := by omega
              refine y_iload_n CC 4 dX5_soonest_70 rfl rfl ?_
              refine z_if_geF CC 79 dX5_soonest_71 (by decide) (a := (k).toInt) rfl (by omega) ?_
              refine y_iload CC 0 dX5_soonest_74 rfl ?_
              refine y_goto CC 81 dX5_soonest_76 (by decide) ?_
              exact y_iret CC hQ dX5_soonest_81 (⟨fun _ _ _ => rfl, by simp [q_soonest, b_1, ix_nI (show jf < 2 ^ 31 by omega), b_3, ix_nI (show jt < 2 ^ 31 by omega), hk1_, hk2_, b_9, hb_, hkm_]⟩)
            · skip
              obtain ⟨jk, hjk, rfl⟩ := inB_of (x := k) (n := 60) (inB_t (by omega)) (by omega)
              have hkn_ : ¬ ((jk : Nat) : Int) = -1 := by omega
              refine y_iload_n CC 4 dX5_soonest_64 rfl rfl ?_
              refine y_iload CC 0 dX5_soonest_65 rfl ?_
              refine z_icmp_lt CC 82 dX5_soonest_67 (by decide) (a := ((jk : Nat) : Int)) (b := ((n : Nat) : Int)) (nI_toInt (by omega)) (nI_toInt (by omega)) (fun c_14 => ?_) (fun c_14 => ?_)
              · skip
                have hlt_ : jk < n := by omega
                refine y_aload_n CC 1 dX5_soonest_82 rfl rfl ?_
                refine y_iload_n CC 3 dX5_soonest_83 rfl rfl ?_
                refine y_iload CC 0 dX5_soonest_84 rfl ?_
                refine y_callVV (ci := 5) (st := []) CC cl_X5_188 (m_goBack l D ad kI kS kL μ τ hM hB (by omega) hab jt n (by omega) (by omega) (rc_in b_9 (soon_at hb_))) (by omega) rfl rfl rfl (Nat.le_of_ble_eq_true rfl) ⟨by decide, by decide⟩ ⟨Nat.zero_le _, Nat.zero_le _⟩ dX5_soonest_86 (fun μ_ w_15 => ?_)
                obtain ⟨hF, hW⟩ := w_15
                have hMν : TM μ_ τ := hM.same (hF 30 1 (by decide)) (hF 30 3 (by decide)) (fun c_ k_ h1_ h2_ => hF c_ k_ (by omega))
                refine y_iload_n CC 2 dX5_soonest_89 rfl rfl ?_
                refine y_istore CC [(5, .int (nI jf)), (4, .int (nI n)), (0, .ref (ad 30)), (1, .int (nI jf)), (2, .int (nI jt)), (3, .int (nI jk))] dX5_soonest_90 (by decide) rfl ?_
                refine y_bipush CC ((-9)) dX5_soonest_92 (by decide) ?_
                refine y_istore CC [(6, .int (-9)), (5, .int (nI jf)), (4, .int (nI n)), (0, .ref (ad 30)), (1, .int (nI jf)), (2, .int (nI jt)), (3, .int (nI jk))] dX5_soonest_94 (by decide) rfl ?_
                refine y_iconst CC (nI 0) dX5_soonest_96 (by decide) ?_
                refine y_istore CC [(7, .int (nI 0)), (6, .int (-9)), (5, .int (nI jf)), (4, .int (nI n)), (0, .ref (ad 30)), (1, .int (nI jf)), (2, .int (nI jt)), (3, .int (nI jk))] dX5_soonest_97 (by decide) rfl ?_
                have L99 : ∀ (n99 : Nat) (x : Nat) (av : Int32), jk + 1 - x < n99 → (x ≤ jk + 1) → (posS τ jt n jf x < tP τ) → ((bwS τ jt n x).testBit (posS τ jt n jf x) = true) → (x ≤ jk → av = -9) → (x = jk + 1 → av = nI (actS τ jt n jf jk)) → Y pp l ee (rmY 4 96) ss mm aa bb me cd D ad kI kS kL AA 9 0 0 QQ 99 [(7, .int (nI x)), (6, .int av), (5, .int (nI (posS τ jt n jf x))), (4, .int (nI n)), (0, .ref (ad 30)), (1, .int (nI jf)), (2, .int (nI jt)), (3, .int (nI jk))] [] μ_ := by
                  intro n99
                  induction n99 with
                  | zero => intro x av hm99; exact absurd hm99 (Nat.not_lt_zero _)
                  | succ n99 ih99 =>
                    intro x av hm99 hx hp hin hav1 hav2
                    refine y_iload CC 0 dX5_soonest_99 rfl ?_
                    refine y_iload_n CC 7 dX5_soonest_101 rfl rfl ?_
                    refine z_icmp_gt CC 182 dX5_soonest_102 (by decide) (a := ((x : Nat) : Int)) (b := ((jk : Nat) : Int)) (nI_toInt (by omega)) (nI_toInt (by omega)) (fun c_17 => ?_) (fun c_17 => ?_)
                    · skip
                      refine y_iload CC 1 dX5_soonest_182 rfl ?_
                      exact y_iret CC hQ dX5_soonest_184 (⟨hF, by rw [hav2 (by omega)]; simp [q_soonest, b_1, ix_nI (show jf < 2 ^ 31 by omega), b_3, ix_nI (show jt < 2 ^ 31 by omega), b_9, hb_, hkn_, nI_toInt (show jk < 2 ^ 31 by omega), ix_nI (show jk < 2 ^ 31 by omega), show (-1 : Int) ≤ ((jk : Nat) : Int) by omega, hjk, show ((jk : Nat) : Int) < 60 by omega, hlt_]⟩)
                    · skip
                      have hb9 := set9 hP9 (bwS_lt (τ := τ) (t := jt) (n := n) (x + 1))
                      have hst := way_step hp (by omega) hin
                      have ha2_ := hst.1
                      refine y_iconst CC (nI 2) dX5_soonest_105 (by decide) ?_
                      refine y_istore CC [(8, .int (nI 2)), (7, .int (nI x)), (6, .int av), (5, .int (nI (posS τ jt n jf x))), (4, .int (nI n)), (0, .ref (ad 30)), (1, .int (nI jf)), (2, .int (nI jt)), (3, .int (nI jk))] dX5_soonest_106 (by decide) rfl ?_
                      refine y_iload CC 0 dX5_soonest_108 rfl ?_
                      refine z_if_ltF CC 151 dX5_soonest_110 (by decide) (a := (2 : Int)) (nI_toInt (by decide)) (by decide) ?_
                      refine y_aload_n CC 5 dX5_soonest_113 rfl rfl ?_
                      refine y_getr CC gl_X5_37 (by omega) (d := 40) rfl dX5_soonest_114 ?_
                      refine y_iload CC 1 dX5_soonest_117 rfl ?_
                      refine y_iconst CC (nI 1) dX5_soonest_119 (by decide) ?_
                      refine y_iadd CC dX5_soonest_120 (v := nI (x + 1)) (nI_add _ _) ?_
                      refine y_ialdN CC (n := 61) (by omega) (by decide) (by omega) (by omega) (v := nI (bwS τ jt n (x + 1))) (hW (x + 1) (by omega)) dX5_soonest_121 ?_
                      refine y_aload_n CC 5 dX5_soonest_122 rfl rfl ?_
                      refine y_iload CC 3 dX5_soonest_123 rfl ?_
                      refine y_iload CC 0 dX5_soonest_125 rfl ?_
                      refine y_callVI (ci := 5) (st := [.int (nI (bwS τ jt n (x + 1)))]) CC cl_X5_168 (m_behind l D ad kI kS kL μ_ τ hMν hB (posS τ jt n jf x) 2 (by omega) (by omega)) (by omega) rfl rfl rfl (Nat.le_of_ble_eq_true rfl) ⟨by decide, by decide⟩ ⟨Nat.zero_le _, Nat.zero_le _⟩ dX5_soonest_127 (fun r_ μ_ w_19 => ?_)
                      obtain ⟨rfl, rfl⟩ := w_19
                      have h_af_18 := after_lt (P := tP τ) (p := posS τ jt n jf x) (act := 2) (by omega)
                      refine y_callSI (st := []) CC cl_X5_150 (m_isIn l D ad kI kS kL μ_ (bwS τ jt n (x + 1)) (after (tP τ) (posS τ jt n jf x) 2) (by omega) (by omega)) rfl rfl (Nat.le_of_ble_eq_true rfl) ⟨by decide, by decide⟩ ⟨Nat.zero_le _, Nat.zero_le _⟩ dX5_soonest_130 (fun r_ μ_ w_21 => ?_)
                      rcases w_21 with ⟨rfl, ⟨b_20, rfl⟩ | ⟨b_20, rfl⟩⟩
                      · skip
                        refine z_if_eqF CC 141 dX5_soonest_133 (by decide) (a := (1 : Int)) (nI_toInt (by decide)) (by decide) ?_
                        refine y_iload CC 0 dX5_soonest_136 rfl ?_
                        refine y_goto CC 143 dX5_soonest_138 (by decide) ?_
                        refine y_istore CC [(6, .int (nI 2)), (8, .int (nI 2)), (7, .int (nI x)), (5, .int (nI (posS τ jt n jf x))), (4, .int (nI n)), (0, .ref (ad 30)), (1, .int (nI jf)), (2, .int (nI jt)), (3, .int (nI jk))] dX5_soonest_143 (by decide) rfl ?_
                        refine y_iinc CC 1 (nI 1) [(8, .int (nI 1)), (6, .int (nI 2)), (7, .int (nI x)), (5, .int (nI (posS τ jt n jf x))), (4, .int (nI n)), (0, .ref (ad 30)), (1, .int (nI jf)), (2, .int (nI jt)), (3, .int (nI jk))] dX5_soonest_145 rfl (by decide) (by decide) rfl ?_
                        refine y_goto CC 108 dX5_soonest_148 (by decide) ?_
                        refine y_iload CC 0 dX5_soonest_108 rfl ?_
                        refine z_if_ltF CC 151 dX5_soonest_110 (by decide) (a := (1 : Int)) (nI_toInt (by decide)) (by decide) ?_
                        refine y_aload_n CC 5 dX5_soonest_113 rfl rfl ?_
                        refine y_getr CC gl_X5_37 (by omega) (d := 40) rfl dX5_soonest_114 ?_
                        refine y_iload CC 2 dX5_soonest_117 rfl ?_
                        refine y_iconst CC (nI 1) dX5_soonest_119 (by decide) ?_
                        refine y_iadd CC dX5_soonest_120 (v := nI (x + 1)) (nI_add _ _) ?_
                        refine y_ialdN CC (n := 61) (by omega) (by decide) (by omega) (by omega) (v := nI (bwS τ jt n (x + 1))) (hW (x + 1) (by omega)) dX5_soonest_121 ?_
                        refine y_aload_n CC 5 dX5_soonest_122 rfl rfl ?_
                        refine y_iload CC 3 dX5_soonest_123 rfl ?_
                        refine y_iload CC 0 dX5_soonest_125 rfl ?_
                        refine y_callVI (ci := 5) (st := [.int (nI (bwS τ jt n (x + 1)))]) CC cl_X5_168 (m_behind l D ad kI kS kL μ_ τ hMν hB (posS τ jt n jf x) 1 (by omega) (by omega)) (by omega) rfl rfl rfl (Nat.le_of_ble_eq_true rfl) ⟨by decide, by decide⟩ ⟨Nat.zero_le _, Nat.zero_le _⟩ dX5_soonest_127 (fun r_ μ_ w_23 => ?_)
                        obtain ⟨rfl, rfl⟩ := w_23
                        have h_af_22 := after_lt (P := tP τ) (p := posS τ jt n jf x) (act := 1) (by omega)
                        refine y_callSI (st := []) CC cl_X5_150 (m_isIn l D ad kI kS kL μ_ (bwS τ jt n (x + 1)) (after (tP τ) (posS τ jt n jf x) 1) (by omega) (by omega)) rfl rfl (Nat.le_of_ble_eq_true rfl) ⟨by decide, by decide⟩ ⟨Nat.zero_le _, Nat.zero_le _⟩ dX5_soonest_130 (fun r_ μ_ w_25 => ?_)
                        rcases w_25 with ⟨rfl, ⟨b_24, rfl⟩ | ⟨b_24, rfl⟩⟩
                        · skip
                          refine z_if_eqF CC 141 dX5_soonest_133 (by decide) (a := (1 : Int)) (nI_toInt (by decide)) (by decide) ?_
                          refine y_iload CC 0 dX5_soonest_136 rfl ?_
                          refine y_goto CC 143 dX5_soonest_138 (by decide) ?_
                          refine y_istore CC [(6, .int (nI 1)), (8, .int (nI 1)), (7, .int (nI x)), (5, .int (nI (posS τ jt n jf x))), (4, .int (nI n)), (0, .ref (ad 30)), (1, .int (nI jf)), (2, .int (nI jt)), (3, .int (nI jk))] dX5_soonest_143 (by decide) rfl ?_
                          refine y_iinc CC 1 (nI 0) [(8, .int (nI 0)), (6, .int (nI 1)), (7, .int (nI x)), (5, .int (nI (posS τ jt n jf x))), (4, .int (nI n)), (0, .ref (ad 30)), (1, .int (nI jf)), (2, .int (nI jt)), (3, .int (nI jk))] dX5_soonest_145 rfl (by decide) (by decide) rfl ?_
                          refine y_goto CC 108 dX5_soonest_148 (by decide) ?_
                          refine y_iload CC 0 dX5_soonest_108 rfl ?_
                          refine z_if_ltF CC 151 dX5_soonest_110 (by decide) (a := (0 : Int)) (nI_toInt (by decide)) (by decide) ?_
                          refine y_aload_n CC 5 dX5_soonest_113 rfl rfl ?_
                          refine y_getr CC gl_X5_37 (by omega) (d := 40) rfl dX5_soonest_114 ?_
                          refine y_iload CC 2 dX5_soonest_117 rfl ?_
                          refine y_iconst CC (nI 1) dX5_soonest_119 (by decide) ?_
                          refine y_iadd CC dX5_soonest_120 (v := nI (x + 1)) (nI_add _ _) ?_
                          refine y_ialdN CC (n := 61) (by omega) (by decide) (by omega) (by omega) (v := nI (bwS τ jt n (x + 1))) (hW (x + 1) (by omega)) dX5_soonest_121 ?_
                          refine y_aload_n CC 5 dX5_soonest_122 rfl rfl ?_
                          refine y_iload CC 3 dX5_soonest_123 rfl ?_
                          refine y_iload CC 0 dX5_soonest_125 rfl ?_
                          refine y_callVI (ci := 5) (st := [.int (nI (bwS τ jt n (x + 1)))]) CC cl_X5_168 (m_behind l D ad kI kS kL μ_ τ hMν hB (posS τ jt n jf x) 0 (by omega) (by omega)) (by omega) rfl rfl rfl (Nat.le_of_ble_eq_true rfl) ⟨by decide, by decide⟩ ⟨Nat.zero_le _, Nat.zero_le _⟩ dX5_soonest_127 (fun r_ μ_ w_27 => ?_)
                          obtain ⟨rfl, rfl⟩ := w_27
                          have h_af_26 := after_lt (P := tP τ) (p := posS τ jt n jf x) (act := 0) (by omega)
                          refine y_callSI (st := []) CC cl_X5_150 (m_isIn l D ad kI kS kL μ_ (bwS τ jt n (x + 1)) (after (tP τ) (posS τ jt n jf x) 0) (by omega) (by omega)) rfl rfl (Nat.le_of_ble_eq_true rfl) ⟨by decide, by decide⟩ ⟨Nat.zero_le _, Nat.zero_le _⟩ dX5_soonest_130 (fun r_ μ_ w_29 => ?_)
                          rcases w_29 with ⟨rfl, ⟨b_28, rfl⟩ | ⟨b_28, rfl⟩⟩
                          · skip
                            refine z_if_eqF CC 141 dX5_soonest_133 (by decide) (a := (1 : Int)) (nI_toInt (by decide)) (by decide) ?_
                            refine y_iload CC 0 dX5_soonest_136 rfl ?_
                            refine y_goto CC 143 dX5_soonest_138 (by decide) ?_
                            refine y_istore CC [(6, .int (nI 0)), (8, .int (nI 0)), (7, .int (nI x)), (5, .int (nI (posS τ jt n jf x))), (4, .int (nI n)), (0, .ref (ad 30)), (1, .int (nI jf)), (2, .int (nI jt)), (3, .int (nI jk))] dX5_soonest_143 (by decide) rfl ?_
                            refine y_iinc CC 1 ((-1)) [(8, .int (-1)), (6, .int (nI 0)), (7, .int (nI x)), (5, .int (nI (posS τ jt n jf x))), (4, .int (nI n)), (0, .ref (ad 30)), (1, .int (nI jf)), (2, .int (nI jt)), (3, .int (nI jk))] dX5_soonest_145 rfl (by decide) (by decide) rfl ?_
                            refine y_goto CC 108 dX5_soonest_148 (by decide) ?_
                            refine y_iload CC 0 dX5_soonest_108 rfl ?_
                            refine z_if_ltT CC 151 dX5_soonest_110 (by decide) (a := (-1 : Int)) (by decide) (by decide) ?_
                            have hact_ : actS τ jt n jf x = 0 := by have h_ := hst.2.1; rw [faS_0 b_28] at h_; exact (Option.some.inj h_).symm
                            refine y_lvE (lv2 := [(8, .int (-1)), (6, .int (nI (actS τ jt n jf x))), (7, .int (nI x)), (5, .int (nI (posS τ jt n jf x))), (4, .int (nI n)), (0, .ref (ad 30)), (1, .int (nI jf)), (2, .int (nI jt)), (3, .int (nI jk))]) (by rw [hact_]) ?_
                            refine y_aload_n CC 5 dX5_soonest_151 rfl rfl ?_
                            refine y_iload CC 3 dX5_soonest_152 rfl ?_
                            refine y_iload CC 1 dX5_soonest_154 rfl ?_
                            refine y_callVI (ci := 5) (st := []) CC cl_X5_168 (m_behind l D ad kI kS kL μ_ τ hMν hB (posS τ jt n jf x) (actS τ jt n jf x) (by omega) (by omega)) (by omega) rfl rfl rfl (Nat.le_of_ble_eq_true rfl) ⟨by decide, by decide⟩ ⟨Nat.zero_le _, Nat.zero_le _⟩ dX5_soonest_156 (fun r_ μ_ w_31 => ?_)
                            obtain ⟨rfl, rfl⟩ := w_31
                            have h_af_30 := after_lt (P := tP τ) (p := posS τ jt n jf x) (act := actS τ jt n jf x) (by omega)
                            refine y_top (y := nI (posS τ jt n jf (x + 1))) rfl ?_
                            refine y_istore CC [(5, .int (nI (posS τ jt n jf (x + 1)))), (8, .int (-1)), (6, .int (nI (actS τ jt n jf x))), (7, .int (nI x)), (4, .int (nI n)), (0, .ref (ad 30)), (1, .int (nI jf)), (2, .int (nI jt)), (3, .int (nI jk))] dX5_soonest_159 (by decide) rfl ?_
                            refine y_iload CC 3 dX5_soonest_161 rfl ?_
                            refine y_iload_n CC 8 dX5_soonest_163 rfl rfl ?_
                            refine z_icmp_ge CC 172 dX5_soonest_164 (by decide) (a := ((x : Nat) : Int)) (b := ((jk : Nat) : Int)) (nI_toInt (by omega)) (nI_toInt (by omega)) (fun c_32 => ?_) (fun c_32 => ?_)
                            · skip
                              refine y_iload CC 2 dX5_soonest_172 rfl ?_
                              refine y_istore CC [(6, .int (nI (actS τ jt n jf x))), (5, .int (nI (posS τ jt n jf (x + 1)))), (8, .int (-1)), (7, .int (nI x)), (4, .int (nI n)), (0, .ref (ad 30)), (1, .int (nI jf)), (2, .int (nI jt)), (3, .int (nI jk))] dX5_soonest_174 (by decide) rfl ?_
                              refine y_iinc CC 3 (nI (x + 1)) [(7, .int (nI (x + 1))), (6, .int (nI (actS τ jt n jf x))), (5, .int (nI (posS τ jt n jf (x + 1)))), (8, .int (-1)), (4, .int (nI n)), (0, .ref (ad 30)), (1, .int (nI jf)), (2, .int (nI jt)), (3, .int (nI jk))] dX5_soonest_176 rfl (i_inc _) (by decide) rfl ?_
                              refine y_goto CC 99 dX5_soonest_179 (by decide) ?_
                              refine y_lv [0, 1, 2, 4, 5, 6, 7, 8] rfl ?_
                              exact ih99 (x + 1) (nI (actS τ jt n jf x)) (by omega) (by omega) (after_lt hp) hst.2.2 (fun h => absurd h (by omega)) (fun _ => by rw [show x = jk by omega])
                            · skip
                              refine y_bipush CC ((-9)) dX5_soonest_167 (by decide) ?_
                              refine y_goto CC 174 dX5_soonest_169 (by decide) ?_
                              refine y_istore CC [(6, .int (-9)), (5, .int (nI (posS τ jt n jf (x + 1)))), (8, .int (-1)), (7, .int (nI x)), (4, .int (nI n)), (0, .ref (ad 30)), (1, .int (nI jf)), (2, .int (nI jt)), (3, .int (nI jk))] dX5_soonest_174 (by decide) rfl ?_
                              refine y_iinc CC 3 (nI (x + 1)) [(7, .int (nI (x + 1))), (6, .int (-9)), (5, .int (nI (posS τ jt n jf (x + 1)))), (8, .int (-1)), (4, .int (nI n)), (0, .ref (ad 30)), (1, .int (nI jf)), (2, .int (nI jt)), (3, .int (nI jk))] dX5_soonest_176 rfl (i_inc _) (by decide) rfl ?_
                              refine y_goto CC 99 dX5_soonest_179 (by decide) ?_
                              refine y_lv [0, 1, 2, 4, 5, 6, 7, 8] rfl ?_
                              exact ih99 (x + 1) (-9) (by omega) (by omega) (after_lt hp) hst.2.2 (fun _ => rfl) (fun h => absurd h (by omega))
                          · skip
                            refine z_if_eqT CC 141 dX5_soonest_133 (by decide) (a := (0 : Int)) (nI_toInt (by decide)) (by decide) ?_
                            refine y_iload CC 1 dX5_soonest_141 rfl ?_
                            refine y_istore CC [(6, .int (nI 1)), (8, .int (nI 0)), (7, .int (nI x)), (5, .int (nI (posS τ jt n jf x))), (4, .int (nI n)), (0, .ref (ad 30)), (1, .int (nI jf)), (2, .int (nI jt)), (3, .int (nI jk))] dX5_soonest_143 (by decide) rfl ?_
                            refine y_iinc CC 1 ((-1)) [(8, .int (-1)), (6, .int (nI 1)), (7, .int (nI x)), (5, .int (nI (posS τ jt n jf x))), (4, .int (nI n)), (0, .ref (ad 30)), (1, .int (nI jf)), (2, .int (nI jt)), (3, .int (nI jk))] dX5_soonest_145 rfl (by decide) (by decide) rfl ?_
                            refine y_goto CC 108 dX5_soonest_148 (by decide) ?_
                            refine y_iload CC 0 dX5_soonest_108 rfl ?_
                            refine z_if_ltT CC 151 dX5_soonest_110 (by decide) (a := (-1 : Int)) (by decide) (by decide) ?_
                            have hact_ : actS τ jt n jf x = 1 := by have h_ := hst.2.1; rw [faS_1 b_28 b_24] at h_; exact (Option.some.inj h_).symm
                            refine y_lvE (lv2 := [(8, .int (-1)), (6, .int (nI (actS τ jt n jf x))), (7, .int (nI x)), (5, .int (nI (posS τ jt n jf x))), (4, .int (nI n)), (0, .ref (ad 30)), (1, .int (nI jf)), (2, .int (nI jt)), (3, .int (nI jk))]) (by rw [hact_]) ?_
                            refine y_aload_n CC 5 dX5_soonest_151 rfl rfl ?_
                            refine y_iload CC 3 dX5_soonest_152 rfl ?_
                            refine y_iload CC 1 dX5_soonest_154 rfl ?_
                            refine y_callVI (ci := 5) (st := []) CC cl_X5_168 (m_behind l D ad kI kS kL μ_ τ hMν hB (posS τ jt n jf x) (actS τ jt n jf x) (by omega) (by omega)) (by omega) rfl rfl rfl (Nat.le_of_ble_eq_true rfl) ⟨by decide, by decide⟩ ⟨Nat.zero_le _, Nat.zero_le _⟩ dX5_soonest_156 (fun r_ μ_ w_34 => ?_)
                            obtain ⟨rfl, rfl⟩ := w_34
                            have h_af_33 := after_lt (P := tP τ) (p := posS τ jt n jf x) (act := actS τ jt n jf x) (by omega)
                            refine y_top (y := nI (posS τ jt n jf (x + 1))) rfl ?_
                            refine y_istore CC [(5, .int (nI (posS τ jt n jf (x + 1)))), (8, .int (-1)), (6, .int (nI (actS τ jt n jf x))), (7, .int (nI x)), (4, .int (nI n)), (0, .ref (ad 30)), (1, .int (nI jf)), (2, .int (nI jt)), (3, .int (nI jk))] dX5_soonest_159 (by decide) rfl ?_
                            refine y_iload CC 3 dX5_soonest_161 rfl ?_
                            refine y_iload_n CC 8 dX5_soonest_163 rfl rfl ?_
                            refine z_icmp_ge CC 172 dX5_soonest_164 (by decide) (a := ((x : Nat) : Int)) (b := ((jk : Nat) : Int)) (nI_toInt (by omega)) (nI_toInt (by omega)) (fun c_35 => ?_) (fun c_35 => ?_)
                            · skip
                              refine y_iload CC 2 dX5_soonest_172 rfl ?_
                              refine y_istore CC [(6, .int (nI (actS τ jt n jf x))), (5, .int (nI (posS τ jt n jf (x + 1)))), (8, .int (-1)), (7, .int (nI x)), (4, .int (nI n)), (0, .ref (ad 30)), (1, .int (nI jf)), (2, .int (nI jt)), (3, .int (nI jk))] dX5_soonest_174 (by decide) rfl ?_
                              refine y_iinc CC 3 (nI (x + 1)) [(7, .int (nI (x + 1))), (6, .int (nI (actS τ jt n jf x))), (5, .int (nI (posS τ jt n jf (x + 1)))), (8, .int (-1)), (4, .int (nI n)), (0, .ref (ad 30)), (1, .int (nI jf)), (2, .int (nI jt)), (3, .int (nI jk))] dX5_soonest_176 rfl (i_inc _) (by decide) rfl ?_
                              refine y_goto CC 99 dX5_soonest_179 (by decide) ?_
                              refine y_lv [0, 1, 2, 4, 5, 6, 7, 8] rfl ?_
                              exact ih99 (x + 1) (nI (actS τ jt n jf x)) (by omega) (by omega) (after_lt hp) hst.2.2 (fun h => absurd h (by omega)) (fun _ => by rw [show x = jk by omega])
                            · skip
                              refine y_bipush CC ((-9)) dX5_soonest_167 (by decide) ?_
                              refine y_goto CC 174 dX5_soonest_169 (by decide) ?_
                              refine y_istore CC [(6, .int (-9)), (5, .int (nI (posS τ jt n jf (x + 1)))), (8, .int (-1)), (7, .int (nI x)), (4, .int (nI n)), (0, .ref (ad 30)), (1, .int (nI jf)), (2, .int (nI jt)), (3, .int (nI jk))] dX5_soonest_174 (by decide) rfl ?_
                              refine y_iinc CC 3 (nI (x + 1)) [(7, .int (nI (x + 1))), (6, .int (-9)), (5, .int (nI (posS τ jt n jf (x + 1)))), (8, .int (-1)), (4, .int (nI n)), (0, .ref (ad 30)), (1, .int (nI jf)), (2, .int (nI jt)), (3, .int (nI jk))] dX5_soonest_176 rfl (i_inc _) (by decide) rfl ?_
                              refine y_goto CC 99 dX5_soonest_179 (by decide) ?_
                              refine y_lv [0, 1, 2, 4, 5, 6, 7, 8] rfl ?_
                              exact ih99 (x + 1) (-9) (by omega) (by omega) (after_lt hp) hst.2.2 (fun _ => rfl) (fun h => absurd h (by omega))
                        · skip
                          refine z_if_eqT CC 141 dX5_soonest_133 (by decide) (a := (0 : Int)) (nI_toInt (by decide)) (by decide) ?_
                          refine y_iload CC 1 dX5_soonest_141 rfl ?_
                          refine y_istore CC [(6, .int (nI 2)), (8, .int (nI 1)), (7, .int (nI x)), (5, .int (nI (posS τ jt n jf x))), (4, .int (nI n)), (0, .ref (ad 30)), (1, .int (nI jf)), (2, .int (nI jt)), (3, .int (nI jk))] dX5_soonest_143 (by decide) rfl ?_
                          refine y_iinc CC 1 (nI 0) [(8, .int (nI 0)), (6, .int (nI 2)), (7, .int (nI x)), (5, .int (nI (posS τ jt n jf x))), (4, .int (nI n)), (0, .ref (ad 30)), (1, .int (nI jf)), (2, .int (nI jt)), (3, .int (nI jk))] dX5_soonest_145 rfl (by decide) (by decide) rfl ?_
                          refine y_goto CC 108 dX5_soonest_148 (by decide) ?_
                          refine y_iload CC 0 dX5_soonest_108 rfl ?_
                          refine z_if_ltF CC 151 dX5_soonest_110 (by decide) (a := (0 : Int)) (nI_toInt (by decide)) (by decide) ?_
                          refine y_aload_n CC 5 dX5_soonest_113 rfl rfl ?_
                          refine y_getr CC gl_X5_37 (by omega) (d := 40) rfl dX5_soonest_114 ?_
                          refine y_iload CC 2 dX5_soonest_117 rfl ?_
                          refine y_iconst CC (nI 1) dX5_soonest_119 (by decide) ?_
                          refine y_iadd CC dX5_soonest_120 (v := nI (x + 1)) (nI_add _ _) ?_
                          refine y_ialdN CC (n := 61) (by omega) (by decide) (by omega) (by omega) (v := nI (bwS τ jt n (x + 1))) (hW (x + 1) (by omega)) dX5_soonest_121 ?_
                          refine y_aload_n CC 5 dX5_soonest_122 rfl rfl ?_
                          refine y_iload CC 3 dX5_soonest_123 rfl ?_
                          refine y_iload CC 0 dX5_soonest_125 rfl ?_
                          refine y_callVI (ci := 5) (st := [.int (nI (bwS τ jt n (x + 1)))]) CC cl_X5_168 (m_behind l D ad kI kS kL μ_ τ hMν hB (posS τ jt n jf x) 0 (by omega) (by omega)) (by omega) rfl rfl rfl (Nat.le_of_ble_eq_true rfl) ⟨by decide, by decide⟩ ⟨Nat.zero_le _, Nat.zero_le _⟩ dX5_soonest_127 (fun r_ μ_ w_37 => ?_)
                          obtain ⟨rfl, rfl⟩ := w_37
                          have h_af_36 := after_lt (P := tP τ) (p := posS τ jt n jf x) (act := 0) (by omega)
                          refine y_callSI (st := []) CC cl_X5_150 (m_isIn l D ad kI kS kL μ_ (bwS τ jt n (x + 1)) (after (tP τ) (posS τ jt n jf x) 0) (by omega) (by omega)) rfl rfl (Nat.le_of_ble_eq_true rfl) ⟨by decide, by decide⟩ ⟨Nat.zero_le _, Nat.zero_le _⟩ dX5_soonest_130 (fun r_ μ_ w_39 => ?_)
                          rcases w_39 with ⟨rfl, ⟨b_38, rfl⟩ | ⟨b_38, rfl⟩⟩
                          · skip
                            refine z_if_eqF CC 141 dX5_soonest_133 (by decide) (a := (1 : Int)) (nI_toInt (by decide)) (by decide) ?_
                            refine y_iload CC 0 dX5_soonest_136 rfl ?_
                            refine y_goto CC 143 dX5_soonest_138 (by decide) ?_
                            refine y_istore CC [(6, .int (nI 0)), (8, .int (nI 0)), (7, .int (nI x)), (5, .int (nI (posS τ jt n jf x))), (4, .int (nI n)), (0, .ref (ad 30)), (1, .int (nI jf)), (2, .int (nI jt)), (3, .int (nI jk))] dX5_soonest_143 (by decide) rfl ?_
                            refine y_iinc CC 1 ((-1)) [(8, .int (-1)), (6, .int (nI 0)), (7, .int (nI x)), (5, .int (nI (posS τ jt n jf x))), (4, .int (nI n)), (0, .ref (ad 30)), (1, .int (nI jf)), (2, .int (nI jt)), (3, .int (nI jk))] dX5_soonest_145 rfl (by decide) (by decide) rfl ?_
                            refine y_goto CC 108 dX5_soonest_148 (by decide) ?_
                            refine y_iload CC 0 dX5_soonest_108 rfl ?_
                            refine z_if_ltT CC 151 dX5_soonest_110 (by decide) (a := (-1 : Int)) (by decide) (by decide) ?_
                            have hact_ : actS τ jt n jf x = 0 := by have h_ := hst.2.1; rw [faS_0 b_38] at h_; exact (Option.some.inj h_).symm
                            refine y_lvE (lv2 := [(8, .int (-1)), (6, .int (nI (actS τ jt n jf x))), (7, .int (nI x)), (5, .int (nI (posS τ jt n jf x))), (4, .int (nI n)), (0, .ref (ad 30)), (1, .int (nI jf)), (2, .int (nI jt)), (3, .int (nI jk))]) (by rw [hact_]) ?_
                            refine y_aload_n CC 5 dX5_soonest_151 rfl rfl ?_
                            refine y_iload CC 3 dX5_soonest_152 rfl ?_
                            refine y_iload CC 1 dX5_soonest_154 rfl ?_
                            refine y_callVI (ci := 5) (st := []) CC cl_X5_168 (m_behind l D ad kI kS kL μ_ τ hMν hB (posS τ jt n jf x) (actS τ jt n jf x) (by omega) (by omega)) (by omega) rfl rfl rfl (Nat.le_of_ble_eq_true rfl) ⟨by decide, by decide⟩ ⟨Nat.zero_le _, Nat.zero_le _⟩ dX5_soonest_156 (fun r_ μ_ w_41 => ?_)
                            obtain ⟨rfl, rfl⟩ := w_41
                            have h_af_40 := after_lt (P := tP τ) (p := posS τ jt n jf x) (act := actS τ jt n jf x) (by omega)
                            refine y_top (y := nI (posS τ jt n jf (x + 1))) rfl ?_
                            refine y_istore CC [(5, .int (nI (posS τ jt n jf (x + 1)))), (8, .int (-1)), (6, .int (nI (actS τ jt n jf x))), (7, .int (nI x)), (4, .int (nI n)), (0, .ref (ad 30)), (1, .int (nI jf)), (2, .int (nI jt)), (3, .int (nI jk))] dX5_soonest_159 (by decide) rfl ?_
                            refine y_iload CC 3 dX5_soonest_161 rfl ?_
                            refine y_iload_n CC 8 dX5_soonest_163 rfl rfl ?_
                            refine z_icmp_ge CC 172 dX5_soonest_164 (by decide) (a := ((x : Nat) : Int)) (b := ((jk : Nat) : Int)) (nI_toInt (by omega)) (nI_toInt (by omega)) (fun c_42 => ?_) (fun c_42 => ?_)
                            · skip
                              refine y_iload CC 2 dX5_soonest_172 rfl ?_
                              refine y_istore CC [(6, .int (nI (actS τ jt n jf x))), (5, .int (nI (posS τ jt n jf (x + 1)))), (8, .int (-1)), (7, .int (nI x)), (4, .int (nI n)), (0, .ref (ad 30)), (1, .int (nI jf)), (2, .int (nI jt)), (3, .int (nI jk))] dX5_soonest_174 (by decide) rfl ?_
                              refine y_iinc CC 3 (nI (x + 1)) [(7, .int (nI (x + 1))), (6, .int (nI (actS τ jt n jf x))), (5, .int (nI (posS τ jt n jf (x + 1)))), (8, .int (-1)), (4, .int (nI n)), (0, .ref (ad 30)), (1, .int (nI jf)), (2, .int (nI jt)), (3, .int (nI jk))] dX5_soonest_176 rfl (i_inc _) (by decide) rfl ?_
                              refine y_goto CC 99 dX5_soonest_179 (by decide) ?_
                              refine y_lv [0, 1, 2, 4, 5, 6, 7, 8] rfl ?_
                              exact ih99 (x + 1) (nI (actS τ jt n jf x)) (by omega) (by omega) (after_lt hp) hst.2.2 (fun h => absurd h (by omega)) (fun _ => by rw [show x = jk by omega])
                            · skip
                              refine y_bipush CC ((-9)) dX5_soonest_167 (by decide) ?_
                              refine y_goto CC 174 dX5_soonest_169 (by decide) ?_
                              refine y_istore CC [(6, .int (-9)), (5, .int (nI (posS τ jt n jf (x + 1)))), (8, .int (-1)), (7, .int (nI x)), (4, .int (nI n)), (0, .ref (ad 30)), (1, .int (nI jf)), (2, .int (nI jt)), (3, .int (nI jk))] dX5_soonest_174 (by decide) rfl ?_
                              refine y_iinc CC 3 (nI (x + 1)) [(7, .int (nI (x + 1))), (6, .int (-9)), (5, .int (nI (posS τ jt n jf (x + 1)))), (8, .int (-1)), (4, .int (nI n)), (0, .ref (ad 30)), (1, .int (nI jf)), (2, .int (nI jt)), (3, .int (nI jk))] dX5_soonest_176 rfl (i_inc _) (by decide) rfl ?_
                              refine y_goto CC 99 dX5_soonest_179 (by decide) ?_
                              refine y_lv [0, 1, 2, 4, 5, 6, 7, 8] rfl ?_
                              exact ih99 (x + 1) (-9) (by omega) (by omega) (after_lt hp) hst.2.2 (fun _ => rfl) (fun h => absurd h (by omega))
                          · skip
                            refine z_if_eqT CC 141 dX5_soonest_133 (by decide) (a := (0 : Int)) (nI_toInt (by decide)) (by decide) ?_
                            refine y_iload CC 1 dX5_soonest_141 rfl ?_
                            refine y_istore CC [(6, .int (nI 2)), (8, .int (nI 0)), (7, .int (nI x)), (5, .int (nI (posS τ jt n jf x))), (4, .int (nI n)), (0, .ref (ad 30)), (1, .int (nI jf)), (2, .int (nI jt)), (3, .int (nI jk))] dX5_soonest_143 (by decide) rfl ?_
                            refine y_iinc CC 1 ((-1)) [(8, .int (-1)), (6, .int (nI 2)), (7, .int (nI x)), (5, .int (nI (posS τ jt n jf x))), (4, .int (nI n)), (0, .ref (ad 30)), (1, .int (nI jf)), (2, .int (nI jt)), (3, .int (nI jk))] dX5_soonest_145 rfl (by decide) (by decide) rfl ?_
                            refine y_goto CC 108 dX5_soonest_148 (by decide) ?_
                            refine y_iload CC 0 dX5_soonest_108 rfl ?_
                            refine z_if_ltT CC 151 dX5_soonest_110 (by decide) (a := (-1 : Int)) (by decide) (by decide) ?_
                            have hact_ : actS τ jt n jf x = 2 := by have h_ := hst.2.1; rw [faS_2 b_38 b_24 b_20] at h_; exact (Option.some.inj h_).symm
                            refine y_lvE (lv2 := [(8, .int (-1)), (6, .int (nI (actS τ jt n jf x))), (7, .int (nI x)), (5, .int (nI (posS τ jt n jf x))), (4, .int (nI n)), (0, .ref (ad 30)), (1, .int (nI jf)), (2, .int (nI jt)), (3, .int (nI jk))]) (by rw [hact_]) ?_
                            refine y_aload_n CC 5 dX5_soonest_151 rfl rfl ?_
                            refine y_iload CC 3 dX5_soonest_152 rfl ?_
                            refine y_iload CC 1 dX5_soonest_154 rfl ?_
                            refine y_callVI (ci := 5) (st := []) CC cl_X5_168 (m_behind l D ad kI kS kL μ_ τ hMν hB (posS τ jt n jf x) (actS τ jt n jf x) (by omega) (by omega)) (by omega) rfl rfl rfl (Nat.le_of_ble_eq_true rfl) ⟨by decide, by decide⟩ ⟨Nat.zero_le _, Nat.zero_le _⟩ dX5_soonest_156 (fun r_ μ_ w_44 => ?_)
                            obtain ⟨rfl, rfl⟩ := w_44
                            have h_af_43 := after_lt (P := tP τ) (p := posS τ jt n jf x) (act := actS τ jt n jf x) (by omega)
                            refine y_top (y := nI (posS τ jt n jf (x + 1))) rfl ?_
                            refine y_istore CC [(5, .int (nI (posS τ jt n jf (x + 1)))), (8, .int (-1)), (6, .int (nI (actS τ jt n jf x))), (7, .int (nI x)), (4, .int (nI n)), (0, .ref (ad 30)), (1, .int (nI jf)), (2, .int (nI jt)), (3, .int (nI jk))] dX5_soonest_159 (by decide) rfl ?_
                            refine y_iload CC 3 dX5_soonest_161 rfl ?_
                            refine y_iload_n CC 8 dX5_soonest_163 rfl rfl ?_
                            refine z_icmp_ge CC 172 dX5_soonest_164 (by decide) (a := ((x : Nat) : Int)) (b := ((jk : Nat) : Int)) (nI_toInt (by omega)) (nI_toInt (by omega)) (fun c_45 => ?_) (fun c_45 => ?_)
                            · skip
                              refine y_iload CC 2 dX5_soonest_172 rfl ?_
                              refine y_istore CC [(6, .int (nI (actS τ jt n jf x))), (5, .int (nI (posS τ jt n jf (x + 1)))), (8, .int (-1)), (7, .int (nI x)), (4, .int (nI n)), (0, .ref (ad 30)), (1, .int (nI jf)), (2, .int (nI jt)), (3, .int (nI jk))] dX5_soonest_174 (by decide) rfl ?_
                              refine y_iinc CC 3 (nI (x + 1)) [(7, .int (nI (x + 1))), (6, .int (nI (actS τ jt n jf x))), (5, .int (nI (posS τ jt n jf (x + 1)))), (8, .int (-1)), (4, .int (nI n)), (0, .ref (ad 30)), (1, .int (nI jf)), (2, .int (nI jt)), (3, .int (nI jk))] dX5_soonest_176 rfl (i_inc _) (by decide) rfl ?_
                              refine y_goto CC 99 dX5_soonest_179 (by decide) ?_
                              refine y_lv [0, 1, 2, 4, 5, 6, 7, 8] rfl ?_
                              exact ih99 (x + 1) (nI (actS τ jt n jf x)) (by omega) (by omega) (after_lt hp) hst.2.2 (fun h => absurd h (by omega)) (fun _ => by rw [show x = jk by omega])
                            · skip
                              refine y_bipush CC ((-9)) dX5_soonest_167 (by decide) ?_
                              refine y_goto CC 174 dX5_soonest_169 (by decide) ?_
                              refine y_istore CC [(6, .int (-9)), (5, .int (nI (posS τ jt n jf (x + 1)))), (8, .int (-1)), (7, .int (nI x)), (4, .int (nI n)), (0, .ref (ad 30)), (1, .int (nI jf)), (2, .int (nI jt)), (3, .int (nI jk))] dX5_soonest_174 (by decide) rfl ?_
                              refine y_iinc CC 3 (nI (x + 1)) [(7, .int (nI (x + 1))), (6, .int (-9)), (5, .int (nI (posS τ jt n jf (x + 1)))), (8, .int (-1)), (4, .int (nI n)), (0, .ref (ad 30)), (1, .int (nI jf)), (2, .int (nI jt)), (3, .int (nI jk))] dX5_soonest_176 rfl (i_inc _) (by decide) rfl ?_
                              refine y_goto CC 99 dX5_soonest_179 (by decide) ?_
                              refine y_lv [0, 1, 2, 4, 5, 6, 7, 8] rfl ?_
                              exact ih99 (x + 1) (-9) (by omega) (by omega) (after_lt hp) hst.2.2 (fun _ => rfl) (fun h => absurd h (by omega))
                      · skip
                        refine z_if_eqT CC 141 dX5_soonest_133 (by decide) (a := (0 : Int)) (nI_toInt (by decide)) (by decide) ?_
                        refine y_iload CC 2 dX5_soonest_141 rfl ?_
                        refine y_istore CC [(6, .int av), (8, .int (nI 2)), (7, .int (nI x)), (5, .int (nI (posS τ jt n jf x))), (4, .int (nI n)), (0, .ref (ad 30)), (1, .int (nI jf)), (2, .int (nI jt)), (3, .int (nI jk))] dX5_soonest_143 (by decide) rfl ?_
                        refine y_iinc CC 1 (nI 1) [(8, .int (nI 1)), (6, .int av), (7, .int (nI x)), (5, .int (nI (posS τ jt n jf x))), (4, .int (nI n)), (0, .ref (ad 30)), (1, .int (nI jf)), (2, .int (nI jt)), (3, .int (nI jk))] dX5_soonest_145 rfl (by decide) (by decide) rfl ?_
                        refine y_goto CC 108 dX5_soonest_148 (by decide) ?_
                        refine y_iload CC 0 dX5_soonest_108 rfl ?_
                        refine z_if_ltF CC 151 dX5_soonest_110 (by decide) (a := (1 : Int)) (nI_toInt (by decide)) (by decide) ?_
                        refine y_aload_n CC 5 dX5_soonest_113 rfl rfl ?_
                        refine y_getr CC gl_X5_37 (by omega) (d := 40) rfl dX5_soonest_114 ?_
                        refine y_iload CC 2 dX5_soonest_117 rfl ?_
                        refine y_iconst CC (nI 1) dX5_soonest_119 (by decide) ?_
                        refine y_iadd CC dX5_soonest_120 (v := nI (x + 1)) (nI_add _ _) ?_
                        refine y_ialdN CC (n := 61) (by omega) (by decide) (by omega) (by omega) (v := nI (bwS τ jt n (x + 1))) (hW (x + 1) (by omega)) dX5_soonest_121 ?_
                        refine y_aload_n CC 5 dX5_soonest_122 rfl rfl ?_
                        refine y_iload CC 3 dX5_soonest_123 rfl ?_
                        refine y_iload CC 0 dX5_soonest_125 rfl ?_
                        refine y_callVI (ci := 5) (st := [.int (nI (bwS τ jt n (x + 1)))]) CC cl_X5_168 (m_behind l D ad kI kS kL μ_ τ hMν hB (posS τ jt n jf x) 1 (by omega) (by omega)) (by omega) rfl rfl rfl (Nat.le_of_ble_eq_true rfl) ⟨by decide, by decide⟩ ⟨Nat.zero_le _, Nat.zero_le _⟩ dX5_soonest_127 (fun r_ μ_ w_47 => ?_)
                        obtain ⟨rfl, rfl⟩ := w_47
                        have h_af_46 := after_lt (P := tP τ) (p := posS τ jt n jf x) (act := 1) (by omega)
                        refine y_callSI (st := []) CC cl_X5_150 (m_isIn l D ad kI kS kL μ_ (bwS τ jt n (x + 1)) (after (tP τ) (posS τ jt n jf x) 1) (by omega) (by omega)) rfl rfl (Nat.le_of_ble_eq_true rfl) ⟨by decide, by decide⟩ ⟨Nat.zero_le _, Nat.zero_le _⟩ dX5_soonest_130 (fun r_ μ_ w_49 => ?_)
                        rcases w_49 with ⟨rfl, ⟨b_48, rfl⟩ | ⟨b_48, rfl⟩⟩
                        · skip
                          refine z_if_eqF CC 141 dX5_soonest_133 (by decide) (a := (1 : Int)) (nI_toInt (by decide)) (by decide) ?_
                          refine y_iload CC 0 dX5_soonest_136 rfl ?_
                          refine y_goto CC 143 dX5_soonest_138 (by decide) ?_
                          refine y_istore CC [(6, .int (nI 1)), (8, .int (nI 1)), (7, .int (nI x)), (5, .int (nI (posS τ jt n jf x))), (4, .int (nI n)), (0, .ref (ad 30)), (1, .int (nI jf)), (2, .int (nI jt)), (3, .int (nI jk))] dX5_soonest_143 (by decide) rfl ?_
                          refine y_iinc CC 1 (nI 0) [(8, .int (nI 0)), (6, .int (nI 1)), (7, .int (nI x)), (5, .int (nI (posS τ jt n jf x))), (4, .int (nI n)), (0, .ref (ad 30)), (1, .int (nI jf)), (2, .int (nI jt)), (3, .int (nI jk))] dX5_soonest_145 rfl (by decide) (by decide) rfl ?_
                          refine y_goto CC 108 dX5_soonest_148 (by decide) ?_
                          refine y_iload CC 0 dX5_soonest_108 rfl ?_
                          refine z_if_ltF CC 151 dX5_soonest_110 (by decide) (a := (0 : Int)) (nI_toInt (by decide)) (by decide) ?_
                          refine y_aload_n CC 5 dX5_soonest_113 rfl rfl ?_
                          refine y_getr CC gl_X5_37 (by omega) (d := 40) rfl dX5_soonest_114 ?_
                          refine y_iload CC 2 dX5_soonest_117 rfl ?_
                          refine y_iconst CC (nI 1) dX5_soonest_119 (by decide) ?_
                          refine y_iadd CC dX5_soonest_120 (v := nI (x + 1)) (nI_add _ _) ?_
                          refine y_ialdN CC (n := 61) (by omega) (by decide) (by omega) (by omega) (v := nI (bwS τ jt n (x + 1))) (hW (x + 1) (by omega)) dX5_soonest_121 ?_
                          refine y_aload_n CC 5 dX5_soonest_122 rfl rfl ?_
                          refine y_iload CC 3 dX5_soonest_123 rfl ?_
                          refine y_iload CC 0 dX5_soonest_125 rfl ?_
                          refine y_callVI (ci := 5) (st := [.int (nI (bwS τ jt n (x + 1)))]) CC cl_X5_168 (m_behind l D ad kI kS kL μ_ τ hMν hB (posS τ jt n jf x) 0 (by omega) (by omega)) (by omega) rfl rfl rfl (Nat.le_of_ble_eq_true rfl) ⟨by decide, by decide⟩ ⟨Nat.zero_le _, Nat.zero_le _⟩ dX5_soonest_127 (fun r_ μ_ w_51 => ?_)
                          obtain ⟨rfl, rfl⟩ := w_51
                          have h_af_50 := after_lt (P := tP τ) (p := posS τ jt n jf x) (act := 0) (by omega)
                          refine y_callSI (st := []) CC cl_X5_150 (m_isIn l D ad kI kS kL μ_ (bwS τ jt n (x + 1)) (after (tP τ) (posS τ jt n jf x) 0) (by omega) (by omega)) rfl rfl (Nat.le_of_ble_eq_true rfl) ⟨by decide, by decide⟩ ⟨Nat.zero_le _, Nat.zero_le _⟩ dX5_soonest_130 (fun r_ μ_ w_53 => ?_)
                          rcases w_53 with ⟨rfl, ⟨b_52, rfl⟩ | ⟨b_52, rfl⟩⟩
                          · skip
                            refine z_if_eqF CC 141 dX5_soonest_133 (by decide) (a := (1 : Int)) (nI_toInt (by decide)) (by decide) ?_
                            refine y_iload CC 0 dX5_soonest_136 rfl ?_
                            refine y_goto CC 143 dX5_soonest_138 (by decide) ?_
                            refine y_istore CC [(6, .int (nI 0)), (8, .int (nI 0)), (7, .int (nI x)), (5, .int (nI (posS τ jt n jf x))), (4, .int (nI n)), (0, .ref (ad 30)), (1, .int (nI jf)), (2, .int (nI jt)), (3, .int (nI jk))] dX5_soonest_143 (by decide) rfl ?_
                            refine y_iinc CC 1 ((-1)) [(8, .int (-1)), (6, .int (nI 0)), (7, .int (nI x)), (5, .int (nI (posS τ jt n jf x))), (4, .int (nI n)), (0, .ref (ad 30)), (1, .int (nI jf)), (2, .int (nI jt)), (3, .int (nI jk))] dX5_soonest_145 rfl (by decide) (by decide) rfl ?_
                            refine y_goto CC 108 dX5_soonest_148 (by decide) ?_
                            refine y_iload CC 0 dX5_soonest_108 rfl ?_
                            refine z_if_ltT CC 151 dX5_soonest_110 (by decide) (a := (-1 : Int)) (by decide) (by decide) ?_
                            have hact_ : actS τ jt n jf x = 0 := by have h_ := hst.2.1; rw [faS_0 b_52] at h_; exact (Option.some.inj h_).symm
                            refine y_lvE (lv2 := [(8, .int (-1)), (6, .int (nI (actS τ jt n jf x))), (7, .int (nI x)), (5, .int (nI (posS τ jt n jf x))), (4, .int (nI n)), (0, .ref (ad 30)), (1, .int (nI jf)), (2, .int (nI jt)), (3, .int (nI jk))]) (by rw [hact_]) ?_
                            refine y_aload_n CC 5 dX5_soonest_151 rfl rfl ?_
                            refine y_iload CC 3 dX5_soonest_152 rfl ?_
                            refine y_iload CC 1 dX5_soonest_154 rfl ?_
                            refine y_callVI (ci := 5) (st := []) CC cl_X5_168 (m_behind l D ad kI kS kL μ_ τ hMν hB (posS τ jt n jf x) (actS τ jt n jf x) (by omega) (by omega)) (by omega) rfl rfl rfl (Nat.le_of_ble_eq_true rfl) ⟨by decide, by decide⟩ ⟨Nat.zero_le _, Nat.zero_le _⟩ dX5_soonest_156 (fun r_ μ_ w_55 => ?_)
                            obtain ⟨rfl, rfl⟩ := w_55
                            have h_af_54 := after_lt (P := tP τ) (p := posS τ jt n jf x) (act := actS τ jt n jf x) (by omega)
                            refine y_top (y := nI (posS τ jt n jf (x + 1))) rfl ?_
                            refine y_istore CC [(5, .int (nI (posS τ jt n jf (x + 1)))), (8, .int (-1)), (6, .int (nI (actS τ jt n jf x))), (7, .int (nI x)), (4, .int (nI n)), (0, .ref (ad 30)), (1, .int (nI jf)), (2, .int (nI jt)), (3, .int (nI jk))] dX5_soonest_159 (by decide) rfl ?_
                            refine y_iload CC 3 dX5_soonest_161 rfl ?_
                            refine y_iload_n CC 8 dX5_soonest_163 rfl rfl ?_
                            refine z_icmp_ge CC 172 dX5_soonest_164 (by decide) (a := ((x : Nat) : Int)) (b := ((jk : Nat) : Int)) (nI_toInt (by omega)) (nI_toInt (by omega)) (fun c_56 => ?_) (fun c_56 => ?_)
                            · skip
                              refine y_iload CC 2 dX5_soonest_172 rfl ?_
                              refine y_istore CC [(6, .int (nI (actS τ jt n jf x))), (5, .int (nI (posS τ jt n jf (x + 1)))), (8, .int (-1)), (7, .int (nI x)), (4, .int (nI n)), (0, .ref (ad 30)), (1, .int (nI jf)), (2, .int (nI jt)), (3, .int (nI jk))] dX5_soonest_174 (by decide) rfl ?_
                              refine y_iinc CC 3 (nI (x + 1)) [(7, .int (nI (x + 1))), (6, .int (nI (actS τ jt n jf x))), (5, .int (nI (posS τ jt n jf (x + 1)))), (8, .int (-1)), (4, .int (nI n)), (0, .ref (ad 30)), (1, .int (nI jf)), (2, .int (nI jt)), (3, .int (nI jk))] dX5_soonest_176 rfl (i_inc _) (by decide) rfl ?_
                              refine y_goto CC 99 dX5_soonest_179 (by decide) ?_
                              refine y_lv [0, 1, 2, 4, 5, 6, 7, 8] rfl ?_
                              exact ih99 (x + 1) (nI (actS τ jt n jf x)) (by omega) (by omega) (after_lt hp) hst.2.2 (fun h => absurd h (by omega)) (fun _ => by rw [show x = jk by omega])
                            · skip
                              refine y_bipush CC ((-9)) dX5_soonest_167 (by decide) ?_
                              refine y_goto CC 174 dX5_soonest_169 (by decide) ?_
                              refine y_istore CC [(6, .int (-9)), (5, .int (nI (posS τ jt n jf (x + 1)))), (8, .int (-1)), (7, .int (nI x)), (4, .int (nI n)), (0, .ref (ad 30)), (1, .int (nI jf)), (2, .int (nI jt)), (3, .int (nI jk))] dX5_soonest_174 (by decide) rfl ?_
                              refine y_iinc CC 3 (nI (x + 1)) [(7, .int (nI (x + 1))), (6, .int (-9)), (5, .int (nI (posS τ jt n jf (x + 1)))), (8, .int (-1)), (4, .int (nI n)), (0, .ref (ad 30)), (1, .int (nI jf)), (2, .int (nI jt)), (3, .int (nI jk))] dX5_soonest_176 rfl (i_inc _) (by decide) rfl ?_
                              refine y_goto CC 99 dX5_soonest_179 (by decide) ?_
                              refine y_lv [0, 1, 2, 4, 5, 6, 7, 8] rfl ?_
                              exact ih99 (x + 1) (-9) (by omega) (by omega) (after_lt hp) hst.2.2 (fun _ => rfl) (fun h => absurd h (by omega))
                          · skip
                            refine z_if_eqT CC 141 dX5_soonest_133 (by decide) (a := (0 : Int)) (nI_toInt (by decide)) (by decide) ?_
                            refine y_iload CC 1 dX5_soonest_141 rfl ?_
                            refine y_istore CC [(6, .int (nI 1)), (8, .int (nI 0)), (7, .int (nI x)), (5, .int (nI (posS τ jt n jf x))), (4, .int (nI n)), (0, .ref (ad 30)), (1, .int (nI jf)), (2, .int (nI jt)), (3, .int (nI jk))] dX5_soonest_143 (by decide) rfl ?_
                            refine y_iinc CC 1 ((-1)) [(8, .int (-1)), (6, .int (nI 1)), (7, .int (nI x)), (5, .int (nI (posS τ jt n jf x))), (4, .int (nI n)), (0, .ref (ad 30)), (1, .int (nI jf)), (2, .int (nI jt)), (3, .int (nI jk))] dX5_soonest_145 rfl (by decide) (by decide) rfl ?_
                            refine y_goto CC 108 dX5_soonest_148 (by decide) ?_
                            refine y_iload CC 0 dX5_soonest_108 rfl ?_
                            refine z_if_ltT CC 151 dX5_soonest_110 (by decide) (a := (-1 : Int)) (by decide) (by decide) ?_
                            have hact_ : actS τ jt n jf x = 1 := by have h_ := hst.2.1; rw [faS_1 b_52 b_48] at h_; exact (Option.some.inj h_).symm
                            refine y_lvE (lv2 := [(8, .int (-1)), (6, .int (nI (actS τ jt n jf x))), (7, .int (nI x)), (5, .int (nI (posS τ jt n jf x))), (4, .int (nI n)), (0, .ref (ad 30)), (1, .int (nI jf)), (2, .int (nI jt)), (3, .int (nI jk))]) (by rw [hact_]) ?_
                            refine y_aload_n CC 5 dX5_soonest_151 rfl rfl ?_
                            refine y_iload CC 3 dX5_soonest_152 rfl ?_
                            refine y_iload CC 1 dX5_soonest_154 rfl ?_
                            refine y_callVI (ci := 5) (st := []) CC cl_X5_168 (m_behind l D ad kI kS kL μ_ τ hMν hB (posS τ jt n jf x) (actS τ jt n jf x) (by omega) (by omega)) (by omega) rfl rfl rfl (Nat.le_of_ble_eq_true rfl) ⟨by decide, by decide⟩ ⟨Nat.zero_le _, Nat.zero_le _⟩ dX5_soonest_156 (fun r_ μ_ w_58 => ?_)
                            obtain ⟨rfl, rfl⟩ := w_58
                            have h_af_57 := after_lt (P := tP τ) (p := posS τ jt n jf x) (act := actS τ jt n jf x) (by omega)
                            refine y_top (y := nI (posS τ jt n jf (x + 1))) rfl ?_
                            refine y_istore CC [(5, .int (nI (posS τ jt n jf (x + 1)))), (8, .int (-1)), (6, .int (nI (actS τ jt n jf x))), (7, .int (nI x)), (4, .int (nI n)), (0, .ref (ad 30)), (1, .int (nI jf)), (2, .int (nI jt)), (3, .int (nI jk))] dX5_soonest_159 (by decide) rfl ?_
                            refine y_iload CC 3 dX5_soonest_161 rfl ?_
                            refine y_iload_n CC 8 dX5_soonest_163 rfl rfl ?_
                            refine z_icmp_ge CC 172 dX5_soonest_164 (by decide) (a := ((x : Nat) : Int)) (b := ((jk : Nat) : Int)) (nI_toInt (by omega)) (nI_toInt (by omega)) (fun c_59 => ?_) (fun c_59 => ?_)
                            · skip
                              refine y_iload CC 2 dX5_soonest_172 rfl ?_
                              refine y_istore CC [(6, .int (nI (actS τ jt n jf x))), (5, .int (nI (posS τ jt n jf (x + 1)))), (8, .int (-1)), (7, .int (nI x)), (4, .int (nI n)), (0, .ref (ad 30)), (1, .int (nI jf)), (2, .int (nI jt)), (3, .int (nI jk))] dX5_soonest_174 (by decide) rfl ?_
                              refine y_iinc CC 3 (nI (x + 1)) [(7, .int (nI (x + 1))), (6, .int (nI (actS τ jt n jf x))), (5, .int (nI (posS τ jt n jf (x + 1)))), (8, .int (-1)), (4, .int (nI n)), (0, .ref (ad 30)), (1, .int (nI jf)), (2, .int (nI jt)), (3, .int (nI jk))] dX5_soonest_176 rfl (i_inc _) (by decide) rfl ?_
                              refine y_goto CC 99 dX5_soonest_179 (by decide) ?_
                              refine y_lv [0, 1, 2, 4, 5, 6, 7, 8] rfl ?_
                              exact ih99 (x + 1) (nI (actS τ jt n jf x)) (by omega) (by omega) (after_lt hp) hst.2.2 (fun h => absurd h (by omega)) (fun _ => by rw [show x = jk by omega])
                            · skip
                              refine y_bipush CC ((-9)) dX5_soonest_167 (by decide) ?_
                              refine y_goto CC 174 dX5_soonest_169 (by decide) ?_
                              refine y_istore CC [(6, .int (-9)), (5, .int (nI (posS τ jt n jf (x + 1)))), (8, .int (-1)), (7, .int (nI x)), (4, .int (nI n)), (0, .ref (ad 30)), (1, .int (nI jf)), (2, .int (nI jt)), (3, .int (nI jk))] dX5_soonest_174 (by decide) rfl ?_
                              refine y_iinc CC 3 (nI (x + 1)) [(7, .int (nI (x + 1))), (6, .int (-9)), (5, .int (nI (posS τ jt n jf (x + 1)))), (8, .int (-1)), (4, .int (nI n)), (0, .ref (ad 30)), (1, .int (nI jf)), (2, .int (nI jt)), (3, .int (nI jk))] dX5_soonest_176 rfl (i_inc _) (by decide) rfl ?_
                              refine y_goto CC 99 dX5_soonest_179 (by decide) ?_
                              refine y_lv [0, 1, 2, 4, 5, 6, 7, 8] rfl ?_
                              exact ih99 (x + 1) (-9) (by omega) (by omega) (after_lt hp) hst.2.2 (fun _ => rfl) (fun h => absurd h (by omega))
                        · skip
                          refine z_if_eqT CC 141 dX5_soonest_133 (by decide) (a := (0 : Int)) (nI_toInt (by decide)) (by decide) ?_
                          refine y_iload CC 1 dX5_soonest_141 rfl ?_
                          refine y_istore CC [(6, .int av), (8, .int (nI 1)), (7, .int (nI x)), (5, .int (nI (posS τ jt n jf x))), (4, .int (nI n)), (0, .ref (ad 30)), (1, .int (nI jf)), (2, .int (nI jt)), (3, .int (nI jk))] dX5_soonest_143 (by decide) rfl ?_
                          refine y_iinc CC 1 (nI 0) [(8, .int (nI 0)), (6, .int av), (7, .int (nI x)), (5, .int (nI (posS τ jt n jf x))), (4, .int (nI n)), (0, .ref (ad 30)), (1, .int (nI jf)), (2, .int (nI jt)), (3, .int (nI jk))] dX5_soonest_145 rfl (by decide) (by decide) rfl ?_
                          refine y_goto CC 108 dX5_soonest_148 (by decide) ?_
                          refine y_iload CC 0 dX5_soonest_108 rfl ?_
                          refine z_if_ltF CC 151 dX5_soonest_110 (by decide) (a := (0 : Int)) (nI_toInt (by decide)) (by decide) ?_
                          refine y_aload_n CC 5 dX5_soonest_113 rfl rfl ?_
                          refine y_getr CC gl_X5_37 (by omega) (d := 40) rfl dX5_soonest_114 ?_
                          refine y_iload CC 2 dX5_soonest_117 rfl ?_
                          refine y_iconst CC (nI 1) dX5_soonest_119 (by decide) ?_
                          refine y_iadd CC dX5_soonest_120 (v := nI (x + 1)) (nI_add _ _) ?_
                          refine y_ialdN CC (n := 61) (by omega) (by decide) (by omega) (by omega) (v := nI (bwS τ jt n (x + 1))) (hW (x + 1) (by omega)) dX5_soonest_121 ?_
                          refine y_aload_n CC 5 dX5_soonest_122 rfl rfl ?_
                          refine y_iload CC 3 dX5_soonest_123 rfl ?_
                          refine y_iload CC 0 dX5_soonest_125 rfl ?_
                          refine y_callVI (ci := 5) (st := [.int (nI (bwS τ jt n (x + 1)))]) CC cl_X5_168 (m_behind l D ad kI kS kL μ_ τ hMν hB (posS τ jt n jf x) 0 (by omega) (by omega)) (by omega) rfl rfl rfl (Nat.le_of_ble_eq_true rfl) ⟨by decide, by decide⟩ ⟨Nat.zero_le _, Nat.zero_le _⟩ dX5_soonest_127 (fun r_ μ_ w_61 => ?_)
                          obtain ⟨rfl, rfl⟩ := w_61
                          have h_af_60 := after_lt (P := tP τ) (p := posS τ jt n jf x) (act := 0) (by omega)
                          refine y_callSI (st := []) CC cl_X5_150 (m_isIn l D ad kI kS kL μ_ (bwS τ jt n (x + 1)) (after (tP τ) (posS τ jt n jf x) 0) (by omega) (by omega)) rfl rfl (Nat.le_of_ble_eq_true rfl) ⟨by decide, by decide⟩ ⟨Nat.zero_le _, Nat.zero_le _⟩ dX5_soonest_130 (fun r_ μ_ w_63 => ?_)
                          rcases w_63 with ⟨rfl, ⟨b_62, rfl⟩ | ⟨b_62, rfl⟩⟩
                          · skip
                            refine z_if_eqF CC 141 dX5_soonest_133 (by decide) (a := (1 : Int)) (nI_toInt (by decide)) (by decide) ?_
                            refine y_iload CC 0 dX5_soonest_136 rfl ?_
                            refine y_goto CC 143 dX5_soonest_138 (by decide) ?_
                            refine y_istore CC [(6, .int (nI 0)), (8, .int (nI 0)), (7, .int (nI x)), (5, .int (nI (posS τ jt n jf x))), (4, .int (nI n)), (0, .ref (ad 30)), (1, .int (nI jf)), (2, .int (nI jt)), (3, .int (nI jk))] dX5_soonest_143 (by decide) rfl ?_
                            refine y_iinc CC 1 ((-1)) [(8, .int (-1)), (6, .int (nI 0)), (7, .int (nI x)), (5, .int (nI (posS τ jt n jf x))), (4, .int (nI n)), (0, .ref (ad 30)), (1, .int (nI jf)), (2, .int (nI jt)), (3, .int (nI jk))] dX5_soonest_145 rfl (by decide) (by decide) rfl ?_
                            refine y_goto CC 108 dX5_soonest_148 (by decide) ?_
                            refine y_iload CC 0 dX5_soonest_108 rfl ?_
                            refine z_if_ltT CC 151 dX5_soonest_110 (by decide) (a := (-1 : Int)) (by decide) (by decide) ?_
                            have hact_ : actS τ jt n jf x = 0 := by have h_ := hst.2.1; rw [faS_0 b_62] at h_; exact (Option.some.inj h_).symm
                            refine y_lvE (lv2 := [(8, .int (-1)), (6, .int (nI (actS τ jt n jf x))), (7, .int (nI x)), (5, .int (nI (posS τ jt n jf x))), (4, .int (nI n)), (0, .ref (ad 30)), (1, .int (nI jf)), (2, .int (nI jt)), (3, .int (nI jk))]) (by rw [hact_]) ?_
                            refine y_aload_n CC 5 dX5_soonest_151 rfl rfl ?_
                            refine y_iload CC 3 dX5_soonest_152 rfl ?_
                            refine y_iload CC 1 dX5_soonest_154 rfl ?_
                            refine y_callVI (ci := 5) (st := []) CC cl_X5_168 (m_behind l D ad kI kS kL μ_ τ hMν hB (posS τ jt n jf x) (actS τ jt n jf x) (by omega) (by omega)) (by omega) rfl rfl rfl (Nat.le_of_ble_eq_true rfl) ⟨by decide, by decide⟩ ⟨Nat.zero_le _, Nat.zero_le _⟩ dX5_soonest_156 (fun r_ μ_ w_65 => ?_)
                            obtain ⟨rfl, rfl⟩ := w_65
                            have h_af_64 := after_lt (P := tP τ) (p := posS τ jt n jf x) (act := actS τ jt n jf x) (by omega)
                            refine y_top (y := nI (posS τ jt n jf (x + 1))) rfl ?_
                            refine y_istore CC [(5, .int (nI (posS τ jt n jf (x + 1)))), (8, .int (-1)), (6, .int (nI (actS τ jt n jf x))), (7, .int (nI x)), (4, .int (nI n)), (0, .ref (ad 30)), (1, .int (nI jf)), (2, .int (nI jt)), (3, .int (nI jk))] dX5_soonest_159 (by decide) rfl ?_
                            refine y_iload CC 3 dX5_soonest_161 rfl ?_
                            refine y_iload_n CC 8 dX5_soonest_163 rfl rfl ?_
                            refine z_icmp_ge CC 172 dX5_soonest_164 (by decide) (a := ((x : Nat) : Int)) (b := ((jk : Nat) : Int)) (nI_toInt (by omega)) (nI_toInt (by omega)) (fun c_66 => ?_) (fun c_66 => ?_)
                            · skip
                              refine y_iload CC 2 dX5_soonest_172 rfl ?_
                              refine y_istore CC [(6, .int (nI (actS τ jt n jf x))), (5, .int (nI (posS τ jt n jf (x + 1)))), (8, .int (-1)), (7, .int (nI x)), (4, .int (nI n)), (0, .ref (ad 30)), (1, .int (nI jf)), (2, .int (nI jt)), (3, .int (nI jk))] dX5_soonest_174 (by decide) rfl ?_
                              refine y_iinc CC 3 (nI (x + 1)) [(7, .int (nI (x + 1))), (6, .int (nI (actS τ jt n jf x))), (5, .int (nI (posS τ jt n jf (x + 1)))), (8, .int (-1)), (4, .int (nI n)), (0, .ref (ad 30)), (1, .int (nI jf)), (2, .int (nI jt)), (3, .int (nI jk))] dX5_soonest_176 rfl (i_inc _) (by decide) rfl ?_
                              refine y_goto CC 99 dX5_soonest_179 (by decide) ?_
                              refine y_lv [0, 1, 2, 4, 5, 6, 7, 8] rfl ?_
                              exact ih99 (x + 1) (nI (actS τ jt n jf x)) (by omega) (by omega) (after_lt hp) hst.2.2 (fun h => absurd h (by omega)) (fun _ => by rw [show x = jk by omega])
                            · skip
                              refine y_bipush CC ((-9)) dX5_soonest_167 (by decide) ?_
                              refine y_goto CC 174 dX5_soonest_169 (by decide) ?_
                              refine y_istore CC [(6, .int (-9)), (5, .int (nI (posS τ jt n jf (x + 1)))), (8, .int (-1)), (7, .int (nI x)), (4, .int (nI n)), (0, .ref (ad 30)), (1, .int (nI jf)), (2, .int (nI jt)), (3, .int (nI jk))] dX5_soonest_174 (by decide) rfl ?_
                              refine y_iinc CC 3 (nI (x + 1)) [(7, .int (nI (x + 1))), (6, .int (-9)), (5, .int (nI (posS τ jt n jf (x + 1)))), (8, .int (-1)), (4, .int (nI n)), (0, .ref (ad 30)), (1, .int (nI jf)), (2, .int (nI jt)), (3, .int (nI jk))] dX5_soonest_176 rfl (i_inc _) (by decide) rfl ?_
                              refine y_goto CC 99 dX5_soonest_179 (by decide) ?_
                              refine y_lv [0, 1, 2, 4, 5, 6, 7, 8] rfl ?_
                              exact ih99 (x + 1) (-9) (by omega) (by omega) (after_lt hp) hst.2.2 (fun _ => rfl) (fun h => absurd h (by omega))
                          · skip
                            refine z_if_eqT CC 141 dX5_soonest_133 (by decide) (a := (0 : Int)) (nI_toInt (by decide)) (by decide) ?_
                            refine y_iload CC 1 dX5_soonest_141 rfl ?_
                            refine y_istore CC [(6, .int av), (8, .int (nI 0)), (7, .int (nI x)), (5, .int (nI (posS τ jt n jf x))), (4, .int (nI n)), (0, .ref (ad 30)), (1, .int (nI jf)), (2, .int (nI jt)), (3, .int (nI jk))] dX5_soonest_143 (by decide) rfl ?_
                            refine y_iinc CC 1 ((-1)) [(8, .int (-1)), (6, .int av), (7, .int (nI x)), (5, .int (nI (posS τ jt n jf x))), (4, .int (nI n)), (0, .ref (ad 30)), (1, .int (nI jf)), (2, .int (nI jt)), (3, .int (nI jk))] dX5_soonest_145 rfl (by decide) (by decide) rfl ?_
                            refine y_goto CC 108 dX5_soonest_148 (by decide) ?_
                            refine y_iload CC 0 dX5_soonest_108 rfl ?_
                            refine z_if_ltT CC 151 dX5_soonest_110 (by decide) (a := (-1 : Int)) (by decide) (by decide) ?_
                            skip
                            · exfalso; have h_ := hst.2.1; rw [faS_n b_62 b_48 b_20] at h_; cases h_
                exact L99 _ 0 (-9) (Nat.lt_succ_self _) (Nat.zero_le _) (show jf < tP τ by omega) (way_0 (show jf < tP τ by omega) b_9 hb_) (fun _ => rfl) (fun h => absurd h (by omega))
              · skip
                have hlt_ : ¬ jk < n := by omega
                refine y_iload_n CC 4 dX5_soonest_70 rfl rfl ?_
                refine z_if_geT CC 79 dX5_soonest_71 (by decide) (a := ((jk : Nat) : Int)) (nI_toInt (by omega)) (by omega) ?_
                refine y_bipush CC ((-9)) dX5_soonest_79 (by decide) ?_
                exact y_iret CC hQ dX5_soonest_81 (⟨fun _ _ _ => rfl, by simp [q_soonest, b_1, ix_nI (show jf < 2 ^ 31 by omega), b_3, ix_nI (show jt < 2 ^ 31 by omega), b_9, hb_, hkn_, nI_toInt (show jk < 2 ^ 31 by omega), ix_nI (show jk < 2 ^ 31 by omega), show (-1 : Int) ≤ ((jk : Nat) : Int) by omega, hjk, show ((jk : Nat) : Int) < 60 by omega, hlt_]⟩)
        · skip
          refine z_if_neF CC 50 dX5_soonest_44 (by decide) (a := (0 : Int)) (nI_toInt (by decide)) (by decide) ?_
          refine y_bipush CC ((-3)) dX5_soonest_47 (by decide) ?_
          exact y_iret CC hQ dX5_soonest_49 (⟨fun _ _ _ => rfl, by simp [q_soonest, b_1, ix_nI (show jf < 2 ^ 31 by omega), b_3, ix_nI (show jt < 2 ^ 31 by omega), hk1_, hk2_, b_9]⟩)
      · skip
        have hk1_ : ¬ (-1 ≤ k.toInt ∧ k.toInt < 60) := by omega
        refine z_if_neF CC 35 dX5_soonest_29 (by decide) (a := (0 : Int)) (nI_toInt (by decide)) (by decide) ?_
        refine y_bipush CC ((-2)) dX5_soonest_32 (by decide) ?_
        exact y_iret CC hQ dX5_soonest_34 (⟨fun _ _ _ => rfl, by unfold q_soonest; rw [if_pos ⟨b_1, b_3⟩, if_neg hk1_]⟩)

set_option maxRecDepth 100000 in
set_option maxHeartbeats 4000000 in
theorem m_steer (l : Launch) (D : va_G) (ad : Nat → Nat) (kI kS kL : ClassId) (μ : Mem) (τ : Tn) (hM : TM μ τ) (hV : tV τ) (a p m : Int32) : MI l D ad kI kS kL yX5_steer cX5_steer 10 (some .int) 2 46 [.ref (ad 30), .int a, .int p, .int m] μ (fun r μ2 => μ = μ2 ∧ r = q_steer τ a p m) := by
  refine met_I RX5 rfl (by decide) (lv := [(0, .ref (ad 30)), (1, .int a), (2, .int p), (3, .int m)]) rfl (Nat.le_of_ble_eq_true rfl) ?_
  intro pp ee ss mm aa bb me cd AA hA0 CC hnm QQ hQ
  have hB := hV.1
  have hP9 : tP τ ≤ 9 := hB.1
  have hS4 : tS τ ≤ 4 := hB.2.1
  have hVc := hV.2.1
  refine y_aload_n CC 0 dX5_steer_0 rfl rfl ?_
  refine y_iload_n CC 1 dX5_steer_1 rfl rfl ?_
  refine y_callVI (ci := 5) (st := []) CC cl_X5_131 (m_noSleeper l D ad kI kS kL μ τ hM hB a) (by omega) rfl rfl rfl (Nat.le_of_ble_eq_true rfl) ⟨by decide, by decide⟩ ⟨Nat.zero_le _, Nat.zero_le _⟩ dX5_steer_2 (fun r_ μ_ w_2 => ?_)
  rcases w_2 with ⟨rfl, ⟨b_1, rfl⟩ | ⟨b_1, rfl⟩⟩
  · skip
    refine z_if_neT CC 16 dX5_steer_5 (by decide) (a := (1 : Int)) (nI_toInt (by decide)) (by decide) ?_
    refine y_iconst CC ((-1)) dX5_steer_16 (by decide) ?_
    exact y_iret CC hQ dX5_steer_17 (⟨rfl, by simp [q_steer, b_1]⟩)
  · skip
    obtain ⟨j, hj, rfl⟩ := inB_of b_1 (by omega)
    refine z_if_neF CC 16 dX5_steer_5 (by decide) (a := (0 : Int)) (nI_toInt (by decide)) (by decide) ?_
    refine y_aload_n CC 0 dX5_steer_8 rfl rfl ?_
    refine y_iload_n CC 2 dX5_steer_9 rfl rfl ?_
    refine y_callVI (ci := 5) (st := []) CC cl_X5_134 (m_noPlace l D ad kI kS kL μ τ hM hB p) (by omega) rfl rfl rfl (Nat.le_of_ble_eq_true rfl) ⟨by decide, by decide⟩ ⟨Nat.zero_le _, Nat.zero_le _⟩ dX5_steer_10 (fun r_ μ_ w_4 => ?_)
    rcases w_4 with ⟨rfl, ⟨b_3, rfl⟩ | ⟨b_3, rfl⟩⟩
    · skip
      refine z_if_eqF CC 18 dX5_steer_13 (by decide) (a := (1 : Int)) (nI_toInt (by decide)) (by decide) ?_
      refine y_iconst CC ((-1)) dX5_steer_16 (by decide) ?_
      exact y_iret CC hQ dX5_steer_17 (⟨rfl, by simp [q_steer, b_1, ix_nI (show j < 2 ^ 31 by omega), b_3]⟩)
    · skip
      obtain ⟨jp, hjp, rfl⟩ := inB_of b_3 (by omega)
      refine z_if_eqT CC 18 dX5_steer_13 (by decide) (a := (0 : Int)) (nI_toInt (by decide)) (by decide) ?_
      refine y_iload_n CC 3 dX5_steer_18 rfl rfl ?_
      refine y_callSI (st := []) CC cl_X5_141 (m_noMinute l D ad kI kS kL μ m) rfl rfl (Nat.le_of_ble_eq_true rfl) ⟨by decide, by decide⟩ ⟨Nat.zero_le _, Nat.zero_le _⟩ dX5_steer_19 (fun r_ μ_ w_6 => ?_)
      rcases w_6 with ⟨rfl, ⟨b_5, rfl⟩ | ⟨b_5, rfl⟩⟩
      · skip
        refine z_if_eqF CC 28 dX5_steer_22 (by decide) (a := (1 : Int)) (nI_toInt (by decide)) (by decide) ?_
        refine y_bipush CC ((-2)) dX5_steer_25 (by decide) ?_
        exact y_iret CC hQ dX5_steer_27 (⟨rfl, by simp [q_steer, b_1, ix_nI (show j < 2 ^ 31 by omega), b_3, ix_nI (show jp < 2 ^ 31 by omega), b_5]⟩)
      · skip
        obtain ⟨jm, hjm, rfl⟩ := inB_of b_5 (by omega)
        refine z_if_eqT CC 28 dX5_steer_22 (by decide) (a := (0 : Int)) (nI_toInt (by decide)) (by decide) ?_
        have hkb := hB.2.2.1 j (by omega)
        refine y_aload_n CC 0 dX5_steer_28 rfl rfl ?_
        refine y_getr CC gl_X5_19 (by omega) (d := 34) rfl dX5_steer_29 ?_
        refine y_iload_n CC 1 dX5_steer_32 rfl rfl ?_
        refine y_ialdN CC (n := 4) (by omega) (by decide) (by omega) (by omega) (v := nI (tD τ j)) (hM.2.2.1 j (by omega)).2.2 dX5_steer_33 ?_
        refine y_istore CC [(4, .int (nI (tD τ j))), (0, .ref (ad 30)), (1, .int (nI j)), (2, .int (nI jp)), (3, .int (nI jm))] dX5_steer_34 (by decide) rfl ?_
        refine y_bipush CC ((-9)) dX5_steer_36 (by decide) ?_
        refine y_istore CC [(5, .int (-9)), (4, .int (nI (tD τ j))), (0, .ref (ad 30)), (1, .int (nI j)), (2, .int (nI jp)), (3, .int (nI jm))] dX5_steer_38 (by decide) rfl ?_
        refine y_bipush CC (nI 9) dX5_steer_40 (by decide) ?_
        refine y_istore CC [(6, .int (nI 9)), (5, .int (-9)), (4, .int (nI (tD τ j))), (0, .ref (ad 30)), (1, .int (nI j)), (2, .int (nI jp)), (3, .int (nI jm))] dX5_steer_42 (by decide) rfl ?_
        refine y_iconst CC (nI 0) dX5_steer_44 (by decide) ?_
        refine y_istore CC [(7, .int (nI 0)), (6, .int (nI 9)), (5, .int (-9)), (4, .int (nI (tD τ j))), (0, .ref (ad 30)), (1, .int (nI j)), (2, .int (nI jp)), (3, .int (nI jm))] dX5_steer_45 (by decide) rfl ?_
        have L47 : ∀ (n47 : Nat) (v : Nat) (ν : Mem), 4 - v < n47 → (v ≤ 4) → (∀ c1 k1, c1 ≠ 34 ∨ k1 ≠ j → ν c1 k1 = μ c1 k1) → Y pp l ee (rmY 2 46) ss mm aa bb me cd D ad kI kS kL AA 10 0 0 QQ 47 [(7, .int (nI v)), (6, .int (nI (lsS τ j (stS τ j jp jm v)))), (5, .int (oI (stS τ j jp jm v))), (4, .int (nI (tD τ j))), (0, .ref (ad 30)), (1, .int (nI j)), (2, .int (nI jp)), (3, .int (nI jm))] [] ν := by
          intro n47
          induction n47 with
          | zero => intro v ν hm47; exact absurd hm47 (Nat.not_lt_zero _)
          | succ n47 ih47 =>
            intro v ν hm47 hv hF
            refine y_iload CC 0 dX5_steer_47 rfl ?_
            refine y_iconst CC (nI 4) dX5_steer_49 (by decide) ?_
            refine z_icmp_ge CC 141 dX5_steer_50 (by decide) (a := ((v : Nat) : Int)) (b := (4 : Int)) (nI_toInt (by omega)) (nI_toInt (by decide)) (fun c_8 => ?_) (fun c_8 => ?_)
            · skip
              refine y_aload_n CC 4 dX5_steer_141 rfl rfl ?_
              refine y_getr CC gl_X5_19 (by omega) (d := 34) rfl dX5_steer_142 ?_
              refine y_iload_n CC 5 dX5_steer_145 rfl rfl ?_
              refine y_iload CC 3 dX5_steer_146 rfl ?_
              refine y_iastN CC (n := 4) (by omega) (by decide) (by omega) (by omega) dX5_steer_148 ?_
              refine y_iload CC 2 dX5_steer_149 rfl ?_
              exact y_iret CC hQ dX5_steer_151 (⟨mu_back hF (hM.2.2.1 j (by omega)).2.2, by simp [q_steer, b_1, ix_nI (show j < 2 ^ 31 by omega), b_3, ix_nI (show jp < 2 ^ 31 by omega), b_5, ix_nI (show jm < 2 ^ 31 by omega)]; rw [show v = 4 by omega]⟩)
            · skip
              rcases hb_ : stS τ j jp jm v with _ | b
              · skip
                refine y_lvE (lv2 := [(7, .int (nI v)), (6, .int (nI 9)), (5, .int (-9)), (4, .int (nI (tD τ j))), (0, .ref (ad 30)), (1, .int (nI j)), (2, .int (nI jp)), (3, .int (nI jm))]) (by first | rfl | (rw [hb_]; rfl)) ?_
                refine y_aload_n CC 4 dX5_steer_53 rfl rfl ?_
                refine y_getr CC gl_X5_19 (by omega) (d := 34) rfl dX5_steer_54 ?_
                refine y_iload_n CC 5 dX5_steer_57 rfl rfl ?_
                refine y_iload CC 0 dX5_steer_58 rfl ?_
                refine y_iastN CC (n := 4) (by omega) (by decide) (by omega) (by omega) dX5_steer_60 ?_
                have hMs : TM (mu ν 34 j (nI v)) (tu τ 3 j v) := hM.st hF v
                have hBs : tB (tu τ 3 j v) := tB_u hB (Or.inr ⟨Or.inr rfl, by omega⟩)
                have e1_ : tP (tu τ 3 j v) = tP τ := by simp [tu]
                have e2_ : tS (tu τ 3 j v) = tS τ := by simp [tu]
                refine y_iload CC 0 dX5_steer_61 rfl ?_
                refine y_iload CC 3 dX5_steer_63 rfl ?_
                refine z_icmp_ge CC 76 dX5_steer_65 (by decide) (a := ((v : Nat) : Int)) (b := ((tD τ j : Nat) : Int)) (nI_toInt (by omega)) (nI_toInt (by omega)) (fun c_9 => ?_) (fun c_9 => ?_)
                · skip
                  refine y_iload CC 0 dX5_steer_76 rfl ?_
                  refine y_iload CC 3 dX5_steer_78 rfl ?_
                  refine y_isub CC dX5_steer_80 (v := nI (v - (tD τ j))) (pk_sub (by omega)) ?_
                  refine y_istore CC [(8, .int (nI (v - (tD τ j)))), (7, .int (nI v)), (6, .int (nI 9)), (5, .int (-9)), (4, .int (nI (tD τ j))), (0, .ref (ad 30)), (1, .int (nI j)), (2, .int (nI jp)), (3, .int (nI jm))] dX5_steer_81 (by decide) rfl ?_
                  refine y_lvE (lv2 := [(8, .int (nI (dst v (tD τ j)))), (7, .int (nI v)), (6, .int (nI 9)), (5, .int (-9)), (4, .int (nI (tD τ j))), (0, .ref (ad 30)), (1, .int (nI j)), (2, .int (nI jp)), (3, .int (nI jm))]) (by rw [show dst v (tD τ j) = v - (tD τ j) from by unfold dst; omega]) ?_
                  have hd1 : dst v (tD τ j) ≤ 3 ∨ 3 < dst v (tD τ j) := by omega
                  have hd1b : dst v (tD τ j) ≤ 20 := by unfold dst; omega
                  have hd3 : tD τ j ≤ 3 := (hV.2.2 j (by omega)).2
                  have hd4 : dst v (tD τ j) ≤ 3 := by unfold dst; omega
                  refine y_aload_n CC 5 dX5_steer_83 rfl rfl ?_
                  refine y_iload_n CC 6 dX5_steer_84 rfl rfl ?_
                  refine y_iload_n CC 8 dX5_steer_85 rfl rfl ?_
                  refine y_callVI (ci := 5) (st := []) CC cl_X5_144 (m_whereAt l D ad kI kS kL (mu ν 34 j (nI v)) (tu τ 3 j v) hMs hBs (by omega) j jm (by omega) (by omega)) (by omega) rfl rfl rfl (Nat.le_of_ble_eq_true rfl) ⟨by decide, by decide⟩ ⟨Nat.zero_le _, Nat.zero_le _⟩ dX5_steer_86 (fun r_ μ_ w_11 => ?_)
                  obtain ⟨rfl, rfl⟩ := w_11
                  have h_pl_10 := pl_lt (τ := (tu τ 3 j v)) (by omega) j jm
                  have hpl_ : pl (tu τ 3 j v) j jm = pif τ (tK τ j) (tA τ j) v jm := pl_st
                  refine y_iload_n CC 7 dX5_steer_89 rfl rfl ?_
                  refine z_icmp_ne CC 104 dX5_steer_90 (by decide) (a := ((pl (tu τ 3 j v) j jm : Nat) : Int)) (b := ((jp : Nat) : Int)) (nI_toInt (by omega)) (nI_toInt (by omega)) (fun c_12 => ?_) (fun c_12 => ?_)
                  · skip
                    refine y_iconst CC (nI 0) dX5_steer_104 (by decide) ?_
                    refine y_istore CC [(9, .int (nI 0)), (8, .int (nI (dst v (tD τ j)))), (7, .int (nI v)), (6, .int (nI 9)), (5, .int (-9)), (4, .int (nI (tD τ j))), (0, .ref (ad 30)), (1, .int (nI j)), (2, .int (nI jp)), (3, .int (nI jm))] dX5_steer_105 (by decide) rfl ?_
                    refine y_iload CC 0 dX5_steer_107 rfl ?_
                    refine z_if_eqT CC 117 dX5_steer_109 (by decide) (a := (0 : Int)) (nI_toInt (by decide)) (by decide) ?_
                    refine y_iload CC 4 dX5_steer_117 rfl ?_
                    refine y_istore CC [(5, .int (-9)), (9, .int (nI 0)), (8, .int (nI (dst v (tD τ j)))), (7, .int (nI v)), (6, .int (nI 9)), (4, .int (nI (tD τ j))), (0, .ref (ad 30)), (1, .int (nI j)), (2, .int (nI jp)), (3, .int (nI jm))] dX5_steer_119 (by decide) rfl ?_
                    refine y_iload CC 1 dX5_steer_121 rfl ?_
                    refine z_if_eqT CC 131 dX5_steer_123 (by decide) (a := (0 : Int)) (nI_toInt (by decide)) (by decide) ?_
                    refine y_iload CC 4 dX5_steer_131 rfl ?_
                    refine y_istore CC [(6, .int (nI 9)), (5, .int (-9)), (9, .int (nI 0)), (8, .int (nI (dst v (tD τ j)))), (7, .int (nI v)), (4, .int (nI (tD τ j))), (0, .ref (ad 30)), (1, .int (nI j)), (2, .int (nI jp)), (3, .int (nI jm))] dX5_steer_133 (by decide) rfl ?_
                    refine y_iinc CC 4 (nI (v + 1)) [(7, .int (nI (v + 1))), (6, .int (nI 9)), (5, .int (-9)), (9, .int (nI 0)), (8, .int (nI (dst v (tD τ j)))), (4, .int (nI (tD τ j))), (0, .ref (ad 30)), (1, .int (nI j)), (2, .int (nI jp)), (3, .int (nI jm))] dX5_steer_135 rfl (i_inc _) (by decide) rfl ?_
                    refine y_goto CC 47 dX5_steer_138 (by decide) ?_
                    refine y_lvE (lv2 := [(7, .int (nI (v + 1))), (6, .int (nI (lsS τ j (stS τ j jp jm (v + 1))))), (5, .int (oI (stS τ j jp jm (v + 1)))), (9, .int (nI 0)), (8, .int (nI (dst v (tD τ j)))), (4, .int (nI (tD τ j))), (0, .ref (ad 30)), (1, .int (nI j)), (2, .int (nI jp)), (3, .int (nI jm))]) (by rw [stS_n hb_, if_neg (by omega)]; rfl) ?_
                    refine y_lv [0, 1, 2, 5, 6, 7, 8, 9] rfl ?_
                    exact ih47 (v + 1) (mu ν 34 j (nI v)) (by omega) (by omega) (FR_mu hF)
                  · skip
                    refine y_iload CC 0 dX5_steer_93 rfl ?_
                    refine y_iload CC 2 dX5_steer_95 rfl ?_
                    refine z_icmp_ge CC 104 dX5_steer_97 (by decide) (a := ((dst v (tD τ j) : Nat) : Int)) (b := (9 : Int)) (nI_toInt (by omega)) (nI_toInt (by decide)) (fun c_13 => ?_) (fun c_13 => ?_)
                    · skip
                      refine y_iconst CC (nI 0) dX5_steer_104 (by decide) ?_
                      refine y_istore CC [(9, .int (nI 0)), (8, .int (nI (dst v (tD τ j)))), (7, .int (nI v)), (6, .int (nI 9)), (5, .int (-9)), (4, .int (nI (tD τ j))), (0, .ref (ad 30)), (1, .int (nI j)), (2, .int (nI jp)), (3, .int (nI jm))] dX5_steer_105 (by decide) rfl ?_
                      refine y_iload CC 0 dX5_steer_107 rfl ?_
                      refine z_if_eqT CC 117 dX5_steer_109 (by decide) (a := (0 : Int)) (nI_toInt (by decide)) (by decide) ?_
                      refine y_iload CC 4 dX5_steer_117 rfl ?_
                      refine y_istore CC [(5, .int (-9)), (9, .int (nI 0)), (8, .int (nI (dst v (tD τ j)))), (7, .int (nI v)), (6, .int (nI 9)), (4, .int (nI (tD τ j))), (0, .ref (ad 30)), (1, .int (nI j)), (2, .int (nI jp)), (3, .int (nI jm))] dX5_steer_119 (by decide) rfl ?_
                      refine y_iload CC 1 dX5_steer_121 rfl ?_
                      refine z_if_eqT CC 131 dX5_steer_123 (by decide) (a := (0 : Int)) (nI_toInt (by decide)) (by decide) ?_
                      refine y_iload CC 4 dX5_steer_131 rfl ?_
                      refine y_istore CC [(6, .int (nI 9)), (5, .int (-9)), (9, .int (nI 0)), (8, .int (nI (dst v (tD τ j)))), (7, .int (nI v)), (4, .int (nI (tD τ j))), (0, .ref (ad 30)), (1, .int (nI j)), (2, .int (nI jp)), (3, .int (nI jm))] dX5_steer_133 (by decide) rfl ?_
                      refine y_iinc CC 4 (nI (v + 1)) [(7, .int (nI (v + 1))), (6, .int (nI 9)), (5, .int (-9)), (9, .int (nI 0)), (8, .int (nI (dst v (tD τ j)))), (4, .int (nI (tD τ j))), (0, .ref (ad 30)), (1, .int (nI j)), (2, .int (nI jp)), (3, .int (nI jm))] dX5_steer_135 rfl (i_inc _) (by decide) rfl ?_
                      refine y_goto CC 47 dX5_steer_138 (by decide) ?_
                      refine y_lvE (lv2 := [(7, .int (nI (v + 1))), (6, .int (nI (lsS τ j (stS τ j jp jm (v + 1))))), (5, .int (oI (stS τ j jp jm (v + 1)))), (9, .int (nI 0)), (8, .int (nI (dst v (tD τ j)))), (4, .int (nI (tD τ j))), (0, .ref (ad 30)), (1, .int (nI j)), (2, .int (nI jp)), (3, .int (nI jm))]) (by rw [stS_n hb_, if_neg (by omega)]; rfl) ?_
                      refine y_lv [0, 1, 2, 5, 6, 7, 8, 9] rfl ?_
                      exact ih47 (v + 1) (mu ν 34 j (nI v)) (by omega) (by omega) (FR_mu hF)
                    · skip
                      refine y_iconst CC (nI 1) dX5_steer_100 (by decide) ?_
                      refine y_goto CC 105 dX5_steer_101 (by decide) ?_
                      refine y_istore CC [(9, .int (nI 1)), (8, .int (nI (dst v (tD τ j)))), (7, .int (nI v)), (6, .int (nI 9)), (5, .int (-9)), (4, .int (nI (tD τ j))), (0, .ref (ad 30)), (1, .int (nI j)), (2, .int (nI jp)), (3, .int (nI jm))] dX5_steer_105 (by decide) rfl ?_
                      refine y_iload CC 0 dX5_steer_107 rfl ?_
                      refine z_if_eqF CC 117 dX5_steer_109 (by decide) (a := (1 : Int)) (nI_toInt (by decide)) (by decide) ?_
                      refine y_iload CC 2 dX5_steer_112 rfl ?_
                      refine y_goto CC 119 dX5_steer_114 (by decide) ?_
                      refine y_istore CC [(5, .int (nI v)), (9, .int (nI 1)), (8, .int (nI (dst v (tD τ j)))), (7, .int (nI v)), (6, .int (nI 9)), (4, .int (nI (tD τ j))), (0, .ref (ad 30)), (1, .int (nI j)), (2, .int (nI jp)), (3, .int (nI jm))] dX5_steer_119 (by decide) rfl ?_
                      refine y_iload CC 1 dX5_steer_121 rfl ?_
                      refine z_if_eqF CC 131 dX5_steer_123 (by decide) (a := (1 : Int)) (nI_toInt (by decide)) (by decide) ?_
                      refine y_iload CC 2 dX5_steer_126 rfl ?_
                      refine y_goto CC 133 dX5_steer_128 (by decide) ?_
                      refine y_istore CC [(6, .int (nI (dst v (tD τ j)))), (5, .int (nI v)), (9, .int (nI 1)), (8, .int (nI (dst v (tD τ j)))), (7, .int (nI v)), (4, .int (nI (tD τ j))), (0, .ref (ad 30)), (1, .int (nI j)), (2, .int (nI jp)), (3, .int (nI jm))] dX5_steer_133 (by decide) rfl ?_
                      refine y_iinc CC 4 (nI (v + 1)) [(7, .int (nI (v + 1))), (6, .int (nI (dst v (tD τ j)))), (5, .int (nI v)), (9, .int (nI 1)), (8, .int (nI (dst v (tD τ j)))), (4, .int (nI (tD τ j))), (0, .ref (ad 30)), (1, .int (nI j)), (2, .int (nI jp)), (3, .int (nI jm))] dX5_steer_135 rfl (i_inc _) (by decide) rfl ?_
                      refine y_goto CC 47 dX5_steer_138 (by decide) ?_
                      refine y_lvE (lv2 := [(7, .int (nI (v + 1))), (6, .int (nI (lsS τ j (stS τ j jp jm (v + 1))))), (5, .int (oI (stS τ j jp jm (v + 1)))), (9, .int (nI 1)), (8, .int (nI (dst v (tD τ j)))), (4, .int (nI (tD τ j))), (0, .ref (ad 30)), (1, .int (nI j)), (2, .int (nI jp)), (3, .int (nI jm))]) (by rw [stS_n hb_, if_pos (by omega)]; rfl) ?_
                      refine y_lv [0, 1, 2, 5, 6, 7, 8, 9] rfl ?_
                      exact ih47 (v + 1) (mu ν 34 j (nI v)) (by omega) (by omega) (FR_mu hF)
                · skip
                  refine y_iload CC 3 dX5_steer_68 rfl ?_
                  refine y_iload CC 0 dX5_steer_70 rfl ?_
                  refine y_isub CC dX5_steer_72 (v := nI ((tD τ j) - v)) (pk_sub (by omega)) ?_
                  refine y_goto CC 81 dX5_steer_73 (by decide) ?_
                  refine y_istore CC [(8, .int (nI ((tD τ j) - v))), (7, .int (nI v)), (6, .int (nI 9)), (5, .int (-9)), (4, .int (nI (tD τ j))), (0, .ref (ad 30)), (1, .int (nI j)), (2, .int (nI jp)), (3, .int (nI jm))] dX5_steer_81 (by decide) rfl ?_
                  refine y_lvE (lv2 := [(8, .int (nI (dst v (tD τ j)))), (7, .int (nI v)), (6, .int (nI 9)), (5, .int (-9)), (4, .int (nI (tD τ j))), (0, .ref (ad 30)), (1, .int (nI j)), (2, .int (nI jp)), (3, .int (nI jm))]) (by rw [show dst v (tD τ j) = (tD τ j) - v from by unfold dst; omega]) ?_
                  have hd1 : dst v (tD τ j) ≤ 3 ∨ 3 < dst v (tD τ j) := by omega
                  have hd1b : dst v (tD τ j) ≤ 20 := by unfold dst; omega
                  have hd3 : tD τ j ≤ 3 := (hV.2.2 j (by omega)).2
                  have hd4 : dst v (tD τ j) ≤ 3 := by unfold dst; omega
                  refine y_aload_n CC 5 dX5_steer_83 rfl rfl ?_
                  refine y_iload_n CC 6 dX5_steer_84 rfl rfl ?_
                  refine y_iload_n CC 8 dX5_steer_85 rfl rfl ?_
                  refine y_callVI (ci := 5) (st := []) CC cl_X5_144 (m_whereAt l D ad kI kS kL (mu ν 34 j (nI v)) (tu τ 3 j v) hMs hBs (by omega) j jm (by omega) (by omega)) (by omega) rfl rfl rfl (Nat.le_of_ble_eq_true rfl) ⟨by decide, by decide⟩ ⟨Nat.zero_le _, Nat.zero_le _⟩ dX5_steer_86 (fun r_ μ_ w_15 => ?_)
                  obtain ⟨rfl, rfl⟩ := w_15
                  have h_pl_14 := pl_lt (τ := (tu τ 3 j v)) (by omega) j jm
                  have hpl_ : pl (tu τ 3 j v) j jm = pif τ (tK τ j) (tA τ j) v jm := pl_st
                  refine y_iload_n CC 7 dX5_steer_89 rfl rfl ?_
                  refine z_icmp_ne CC 104 dX5_steer_90 (by decide) (a := ((pl (tu τ 3 j v) j jm : Nat) : Int)) (b := ((jp : Nat) : Int)) (nI_toInt (by omega)) (nI_toInt (by omega)) (fun c_16 => ?_) (fun c_16 => ?_)
                  · skip
                    refine y_iconst CC (nI 0) dX5_steer_104 (by decide) ?_
                    refine y_istore CC [(9, .int (nI 0)), (8, .int (nI (dst v (tD τ j)))), (7, .int (nI v)), (6, .int (nI 9)), (5, .int (-9)), (4, .int (nI (tD τ j))), (0, .ref (ad 30)), (1, .int (nI j)), (2, .int (nI jp)), (3, .int (nI jm))] dX5_steer_105 (by decide) rfl ?_
                    refine y_iload CC 0 dX5_steer_107 rfl ?_
                    refine z_if_eqT CC 117 dX5_steer_109 (by decide) (a := (0 : Int)) (nI_toInt (by decide)) (by decide) ?_
                    refine y_iload CC 4 dX5_steer_117 rfl ?_
                    refine y_istore CC [(5, .int (-9)), (9, .int (nI 0)), (8, .int (nI (dst v (tD τ j)))), (7, .int (nI v)), (6, .int (nI 9)), (4, .int (nI (tD τ j))), (0, .ref (ad 30)), (1, .int (nI j)), (2, .int (nI jp)), (3, .int (nI jm))] dX5_steer_119 (by decide) rfl ?_
                    refine y_iload CC 1 dX5_steer_121 rfl ?_
                    refine z_if_eqT CC 131 dX5_steer_123 (by decide) (a := (0 : Int)) (nI_toInt (by decide)) (by decide) ?_
                    refine y_iload CC 4 dX5_steer_131 rfl ?_
                    refine y_istore CC [(6, .int (nI 9)), (5, .int (-9)), (9, .int (nI 0)), (8, .int (nI (dst v (tD τ j)))), (7, .int (nI v)), (4, .int (nI (tD τ j))), (0, .ref (ad 30)), (1, .int (nI j)), (2, .int (nI jp)), (3, .int (nI jm))] dX5_steer_133 (by decide) rfl ?_
                    refine y_iinc CC 4 (nI (v + 1)) [(7, .int (nI (v + 1))), (6, .int (nI 9)), (5, .int (-9)), (9, .int (nI 0)), (8, .int (nI (dst v (tD τ j)))), (4, .int (nI (tD τ j))), (0, .ref (ad 30)), (1, .int (nI j)), (2, .int (nI jp)), (3, .int (nI jm))] dX5_steer_135 rfl (i_inc _) (by decide) rfl ?_
                    refine y_goto CC 47 dX5_steer_138 (by decide) ?_
                    refine y_lvE (lv2 := [(7, .int (nI (v + 1))), (6, .int (nI (lsS τ j (stS τ j jp jm (v + 1))))), (5, .int (oI (stS τ j jp jm (v + 1)))), (9, .int (nI 0)), (8, .int (nI (dst v (tD τ j)))), (4, .int (nI (tD τ j))), (0, .ref (ad 30)), (1, .int (nI j)), (2, .int (nI jp)), (3, .int (nI jm))]) (by rw [stS_n hb_, if_neg (by omega)]; rfl) ?_
                    refine y_lv [0, 1, 2, 5, 6, 7, 8, 9] rfl ?_
                    exact ih47 (v + 1) (mu ν 34 j (nI v)) (by omega) (by omega) (FR_mu hF)
                  · skip
                    refine y_iload CC 0 dX5_steer_93 rfl ?_
                    refine y_iload CC 2 dX5_steer_95 rfl ?_
                    refine z_icmp_ge CC 104 dX5_steer_97 (by decide) (a := ((dst v (tD τ j) : Nat) : Int)) (b := (9 : Int)) (nI_toInt (by omega)) (nI_toInt (by decide)) (fun c_17 => ?_) (fun c_17 => ?_)
                    · skip
                      refine y_iconst CC (nI 0) dX5_steer_104 (by decide) ?_
                      refine y_istore CC [(9, .int (nI 0)), (8, .int (nI (dst v (tD τ j)))), (7, .int (nI v)), (6, .int (nI 9)), (5, .int (-9)), (4, .int (nI (tD τ j))), (0, .ref (ad 30)), (1, .int (nI j)), (2, .int (nI jp)), (3, .int (nI jm))] dX5_steer_105 (by decide) rfl ?_
                      refine y_iload CC 0 dX5_steer_107 rfl ?_
                      refine z_if_eqT CC 117 dX5_steer_109 (by decide) (a := (0 : Int)) (nI_toInt (by decide)) (by decide) ?_
                      refine y_iload CC 4 dX5_steer_117 rfl ?_
                      refine y_istore CC [(5, .int (-9)), (9, .int (nI 0)), (8, .int (nI (dst v (tD τ j)))), (7, .int (nI v)), (6, .int (nI 9)), (4, .int (nI (tD τ j))), (0, .ref (ad 30)), (1, .int (nI j)), (2, .int (nI jp)), (3, .int (nI jm))] dX5_steer_119 (by decide) rfl ?_
                      refine y_iload CC 1 dX5_steer_121 rfl ?_
                      refine z_if_eqT CC 131 dX5_steer_123 (by decide) (a := (0 : Int)) (nI_toInt (by decide)) (by decide) ?_
                      refine y_iload CC 4 dX5_steer_131 rfl ?_
                      refine y_istore CC [(6, .int (nI 9)), (5, .int (-9)), (9, .int (nI 0)), (8, .int (nI (dst v (tD τ j)))), (7, .int (nI v)), (4, .int (nI (tD τ j))), (0, .ref (ad 30)), (1, .int (nI j)), (2, .int (nI jp)), (3, .int (nI jm))] dX5_steer_133 (by decide) rfl ?_
                      refine y_iinc CC 4 (nI (v + 1)) [(7, .int (nI (v + 1))), (6, .int (nI 9)), (5, .int (-9)), (9, .int (nI 0)), (8, .int (nI (dst v (tD τ j)))), (4, .int (nI (tD τ j))), (0, .ref (ad 30)), (1, .int (nI j)), (2, .int (nI jp)), (3, .int (nI jm))] dX5_steer_135 rfl (i_inc _) (by decide) rfl ?_
                      refine y_goto CC 47 dX5_steer_138 (by decide) ?_
                      refine y_lvE (lv2 := [(7, .int (nI (v + 1))), (6, .int (nI (lsS τ j (stS τ j jp jm (v + 1))))), (5, .int (oI (stS τ j jp jm (v + 1)))), (9, .int (nI 0)), (8, .int (nI (dst v (tD τ j)))), (4, .int (nI (tD τ j))), (0, .ref (ad 30)), (1, .int (nI j)), (2, .int (nI jp)), (3, .int (nI jm))]) (by rw [stS_n hb_, if_neg (by omega)]; rfl) ?_
                      refine y_lv [0, 1, 2, 5, 6, 7, 8, 9] rfl ?_
                      exact ih47 (v + 1) (mu ν 34 j (nI v)) (by omega) (by omega) (FR_mu hF)
                    · skip
                      refine y_iconst CC (nI 1) dX5_steer_100 (by decide) ?_
                      refine y_goto CC 105 dX5_steer_101 (by decide) ?_
                      refine y_istore CC [(9, .int (nI 1)), (8, .int (nI (dst v (tD τ j)))), (7, .int (nI v)), (6, .int (nI 9)), (5, .int (-9)), (4, .int (nI (tD τ j))), (0, .ref (ad 30)), (1, .int (nI j)), (2, .int (nI jp)), (3, .int (nI jm))] dX5_steer_105 (by decide) rfl ?_
                      refine y_iload CC 0 dX5_steer_107 rfl ?_
                      refine z_if_eqF CC 117 dX5_steer_109 (by decide) (a := (1 : Int)) (nI_toInt (by decide)) (by decide) ?_
                      refine y_iload CC 2 dX5_steer_112 rfl ?_
                      refine y_goto CC 119 dX5_steer_114 (by decide) ?_
                      refine y_istore CC [(5, .int (nI v)), (9, .int (nI 1)), (8, .int (nI (dst v (tD τ j)))), (7, .int (nI v)), (6, .int (nI 9)), (4, .int (nI (tD τ j))), (0, .ref (ad 30)), (1, .int (nI j)), (2, .int (nI jp)), (3, .int (nI jm))] dX5_steer_119 (by decide) rfl ?_
                      refine y_iload CC 1 dX5_steer_121 rfl ?_
                      refine z_if_eqF CC 131 dX5_steer_123 (by decide) (a := (1 : Int)) (nI_toInt (by decide)) (by decide) ?_
                      refine y_iload CC 2 dX5_steer_126 rfl ?_
                      refine y_goto CC 133 dX5_steer_128 (by decide) ?_
                      refine y_istore CC [(6, .int (nI (dst v (tD τ j)))), (5, .int (nI v)), (9, .int (nI 1)), (8, .int (nI (dst v (tD τ j)))), (7, .int (nI v)), (4, .int (nI (tD τ j))), (0, .ref (ad 30)), (1, .int (nI j)), (2, .int (nI jp)), (3, .int (nI jm))] dX5_steer_133 (by decide) rfl ?_
                      refine y_iinc CC 4 (nI (v + 1)) [(7, .int (nI (v + 1))), (6, .int (nI (dst v (tD τ j)))), (5, .int (nI v)), (9, .int (nI 1)), (8, .int (nI (dst v (tD τ j)))), (4, .int (nI (tD τ j))), (0, .ref (ad 30)), (1, .int (nI j)), (2, .int (nI jp)), (3, .int (nI jm))] dX5_steer_135 rfl (i_inc _) (by decide) rfl ?_
                      refine y_goto CC 47 dX5_steer_138 (by decide) ?_
                      refine y_lvE (lv2 := [(7, .int (nI (v + 1))), (6, .int (nI (lsS τ j (stS τ j jp jm (v + 1))))), (5, .int (oI (stS τ j jp jm (v + 1)))), (9, .int (nI 1)), (8, .int (nI (dst v (tD τ j)))), (4, .int (nI (tD τ j))), (0, .ref (ad 30)), (1, .int (nI j)), (2, .int (nI jp)), (3, .int (nI jm))]) (by rw [stS_n hb_, if_pos (by omega)]; rfl) ?_
                      refine y_lv [0, 1, 2, 5, 6, 7, 8, 9] rfl ?_
                      exact ih47 (v + 1) (mu ν 34 j (nI v)) (by omega) (by omega) (FR_mu hF)
              · skip
                refine y_lvE (lv2 := [(7, .int (nI v)), (6, .int (nI (dst b (tD τ j)))), (5, .int (nI b)), (4, .int (nI (tD τ j))), (0, .ref (ad 30)), (1, .int (nI j)), (2, .int (nI jp)), (3, .int (nI jm))]) (by first | rfl | (rw [hb_]; rfl)) ?_
                have hbv := stS_lt hb_
                have hd2 : dst b (tD τ j) ≤ 20 := by unfold dst; omega
                refine y_aload_n CC 4 dX5_steer_53 rfl rfl ?_
                refine y_getr CC gl_X5_19 (by omega) (d := 34) rfl dX5_steer_54 ?_
                refine y_iload_n CC 5 dX5_steer_57 rfl rfl ?_
                refine y_iload CC 0 dX5_steer_58 rfl ?_
                refine y_iastN CC (n := 4) (by omega) (by decide) (by omega) (by omega) dX5_steer_60 ?_
                have hMs : TM (mu ν 34 j (nI v)) (tu τ 3 j v) := hM.st hF v
                have hBs : tB (tu τ 3 j v) := tB_u hB (Or.inr ⟨Or.inr rfl, by omega⟩)
                have e1_ : tP (tu τ 3 j v) = tP τ := by simp [tu]
                have e2_ : tS (tu τ 3 j v) = tS τ := by simp [tu]
                refine y_iload CC 0 dX5_steer_61 rfl ?_
                refine y_iload CC 3 dX5_steer_63 rfl ?_
                refine z_icmp_ge CC 76 dX5_steer_65 (by decide) (a := ((v : Nat) : Int)) (b := ((tD τ j : Nat) : Int)) (nI_toInt (by omega)) (nI_toInt (by omega)) (fun c_18 => ?_) (fun c_18 => ?_)
                · skip
                  refine y_iload CC 0 dX5_steer_76 rfl ?_
                  refine y_iload CC 3 dX5_steer_78 rfl ?_
                  refine y_isub CC dX5_steer_80 (v := nI (v - (tD τ j))) (pk_sub (by omega)) ?_
                  refine y_istore CC [(8, .int (nI (v - (tD τ j)))), (7, .int (nI v)), (6, .int (nI (dst b (tD τ j)))), (5, .int (nI b)), (4, .int (nI (tD τ j))), (0, .ref (ad 30)), (1, .int (nI j)), (2, .int (nI jp)), (3, .int (nI jm))] dX5_steer_81 (by decide) rfl ?_
                  refine y_lvE (lv2 := [(8, .int (nI (dst v (tD τ j)))), (7, .int (nI v)), (6, .int (nI (dst b (tD τ j)))), (5, .int (nI b)), (4, .int (nI (tD τ j))), (0, .ref (ad 30)), (1, .int (nI j)), (2, .int (nI jp)), (3, .int (nI jm))]) (by rw [show dst v (tD τ j) = v - (tD τ j) from by unfold dst; omega]) ?_
                  have hd1 : dst v (tD τ j) ≤ 3 ∨ 3 < dst v (tD τ j) := by omega
                  have hd1b : dst v (tD τ j) ≤ 20 := by unfold dst; omega
                  have hd3 : tD τ j ≤ 3 := (hV.2.2 j (by omega)).2
                  have hd4 : dst v (tD τ j) ≤ 3 := by unfold dst; omega
                  refine y_aload_n CC 5 dX5_steer_83 rfl rfl ?_
                  refine y_iload_n CC 6 dX5_steer_84 rfl rfl ?_
                  refine y_iload_n CC 8 dX5_steer_85 rfl rfl ?_
                  refine y_callVI (ci := 5) (st := []) CC cl_X5_144 (m_whereAt l D ad kI kS kL (mu ν 34 j (nI v)) (tu τ 3 j v) hMs hBs (by omega) j jm (by omega) (by omega)) (by omega) rfl rfl rfl (Nat.le_of_ble_eq_true rfl) ⟨by decide, by decide⟩ ⟨Nat.zero_le _, Nat.zero_le _⟩ dX5_steer_86 (fun r_ μ_ w_20 => ?_)
                  obtain ⟨rfl, rfl⟩ := w_20
                  have h_pl_19 := pl_lt (τ := (tu τ 3 j v)) (by omega) j jm
                  have hpl_ : pl (tu τ 3 j v) j jm = pif τ (tK τ j) (tA τ j) v jm := pl_st
                  refine y_iload_n CC 7 dX5_steer_89 rfl rfl ?_
                  refine z_icmp_ne CC 104 dX5_steer_90 (by decide) (a := ((pl (tu τ 3 j v) j jm : Nat) : Int)) (b := ((jp : Nat) : Int)) (nI_toInt (by omega)) (nI_toInt (by omega)) (fun c_21 => ?_) (fun c_21 => ?_)
                  · skip
                    refine y_iconst CC (nI 0) dX5_steer_104 (by decide) ?_
                    refine y_istore CC [(9, .int (nI 0)), (8, .int (nI (dst v (tD τ j)))), (7, .int (nI v)), (6, .int (nI (dst b (tD τ j)))), (5, .int (nI b)), (4, .int (nI (tD τ j))), (0, .ref (ad 30)), (1, .int (nI j)), (2, .int (nI jp)), (3, .int (nI jm))] dX5_steer_105 (by decide) rfl ?_
                    refine y_iload CC 0 dX5_steer_107 rfl ?_
                    refine z_if_eqT CC 117 dX5_steer_109 (by decide) (a := (0 : Int)) (nI_toInt (by decide)) (by decide) ?_
                    refine y_iload CC 4 dX5_steer_117 rfl ?_
                    refine y_istore CC [(5, .int (nI b)), (9, .int (nI 0)), (8, .int (nI (dst v (tD τ j)))), (7, .int (nI v)), (6, .int (nI (dst b (tD τ j)))), (4, .int (nI (tD τ j))), (0, .ref (ad 30)), (1, .int (nI j)), (2, .int (nI jp)), (3, .int (nI jm))] dX5_steer_119 (by decide) rfl ?_
                    refine y_iload CC 1 dX5_steer_121 rfl ?_
                    refine z_if_eqT CC 131 dX5_steer_123 (by decide) (a := (0 : Int)) (nI_toInt (by decide)) (by decide) ?_
                    refine y_iload CC 4 dX5_steer_131 rfl ?_
                    refine y_istore CC [(6, .int (nI (dst b (tD τ j)))), (5, .int (nI b)), (9, .int (nI 0)), (8, .int (nI (dst v (tD τ j)))), (7, .int (nI v)), (4, .int (nI (tD τ j))), (0, .ref (ad 30)), (1, .int (nI j)), (2, .int (nI jp)), (3, .int (nI jm))] dX5_steer_133 (by decide) rfl ?_
                    refine y_iinc CC 4 (nI (v + 1)) [(7, .int (nI (v + 1))), (6, .int (nI (dst b (tD τ j)))), (5, .int (nI b)), (9, .int (nI 0)), (8, .int (nI (dst v (tD τ j)))), (4, .int (nI (tD τ j))), (0, .ref (ad 30)), (1, .int (nI j)), (2, .int (nI jp)), (3, .int (nI jm))] dX5_steer_135 rfl (i_inc _) (by decide) rfl ?_
                    refine y_goto CC 47 dX5_steer_138 (by decide) ?_
                    refine y_lvE (lv2 := [(7, .int (nI (v + 1))), (6, .int (nI (lsS τ j (stS τ j jp jm (v + 1))))), (5, .int (oI (stS τ j jp jm (v + 1)))), (9, .int (nI 0)), (8, .int (nI (dst v (tD τ j)))), (4, .int (nI (tD τ j))), (0, .ref (ad 30)), (1, .int (nI j)), (2, .int (nI jp)), (3, .int (nI jm))]) (by rw [stS_s hb_, if_neg (fun q_ => by omega)]; rfl) ?_
                    refine y_lv [0, 1, 2, 5, 6, 7, 8, 9] rfl ?_
                    exact ih47 (v + 1) (mu ν 34 j (nI v)) (by omega) (by omega) (FR_mu hF)
                  · skip
                    refine y_iload CC 0 dX5_steer_93 rfl ?_
                    refine y_iload CC 2 dX5_steer_95 rfl ?_
                    refine z_icmp_ge CC 104 dX5_steer_97 (by decide) (a := ((dst v (tD τ j) : Nat) : Int)) (b := ((dst b (tD τ j) : Nat) : Int)) (nI_toInt (by omega)) (nI_toInt (by omega)) (fun c_22 => ?_) (fun c_22 => ?_)
                    · skip
                      refine y_iconst CC (nI 0) dX5_steer_104 (by decide) ?_
                      refine y_istore CC [(9, .int (nI 0)), (8, .int (nI (dst v (tD τ j)))), (7, .int (nI v)), (6, .int (nI (dst b (tD τ j)))), (5, .int (nI b)), (4, .int (nI (tD τ j))), (0, .ref (ad 30)), (1, .int (nI j)), (2, .int (nI jp)), (3, .int (nI jm))] dX5_steer_105 (by decide) rfl ?_
                      refine y_iload CC 0 dX5_steer_107 rfl ?_
                      refine z_if_eqT CC 117 dX5_steer_109 (by decide) (a := (0 : Int)) (nI_toInt (by decide)) (by decide) ?_
                      refine y_iload CC 4 dX5_steer_117 rfl ?_
                      refine y_istore CC [(5, .int (nI b)), (9, .int (nI 0)), (8, .int (nI (dst v (tD τ j)))), (7, .int (nI v)), (6, .int (nI (dst b (tD τ j)))), (4, .int (nI (tD τ j))), (0, .ref (ad 30)), (1, .int (nI j)), (2, .int (nI jp)), (3, .int (nI jm))] dX5_steer_119 (by decide) rfl ?_
                      refine y_iload CC 1 dX5_steer_121 rfl ?_
                      refine z_if_eqT CC 131 dX5_steer_123 (by decide) (a := (0 : Int)) (nI_toInt (by decide)) (by decide) ?_
                      refine y_iload CC 4 dX5_steer_131 rfl ?_
                      refine y_istore CC [(6, .int (nI (dst b (tD τ j)))), (5, .int (nI b)), (9, .int (nI 0)), (8, .int (nI (dst v (tD τ j)))), (7, .int (nI v)), (4, .int (nI (tD τ j))), (0, .ref (ad 30)), (1, .int (nI j)), (2, .int (nI jp)), (3, .int (nI jm))] dX5_steer_133 (by decide) rfl ?_
                      refine y_iinc CC 4 (nI (v + 1)) [(7, .int (nI (v + 1))), (6, .int (nI (dst b (tD τ j)))), (5, .int (nI b)), (9, .int (nI 0)), (8, .int (nI (dst v (tD τ j)))), (4, .int (nI (tD τ j))), (0, .ref (ad 30)), (1, .int (nI j)), (2, .int (nI jp)), (3, .int (nI jm))] dX5_steer_135 rfl (i_inc _) (by decide) rfl ?_
                      refine y_goto CC 47 dX5_steer_138 (by decide) ?_
                      refine y_lvE (lv2 := [(7, .int (nI (v + 1))), (6, .int (nI (lsS τ j (stS τ j jp jm (v + 1))))), (5, .int (oI (stS τ j jp jm (v + 1)))), (9, .int (nI 0)), (8, .int (nI (dst v (tD τ j)))), (4, .int (nI (tD τ j))), (0, .ref (ad 30)), (1, .int (nI j)), (2, .int (nI jp)), (3, .int (nI jm))]) (by rw [stS_s hb_, if_neg (fun q_ => by omega)]; rfl) ?_
                      refine y_lv [0, 1, 2, 5, 6, 7, 8, 9] rfl ?_
                      exact ih47 (v + 1) (mu ν 34 j (nI v)) (by omega) (by omega) (FR_mu hF)
                    · skip
                      refine y_iconst CC (nI 1) dX5_steer_100 (by decide) ?_
                      refine y_goto CC 105 dX5_steer_101 (by decide) ?_
                      refine y_istore CC [(9, .int (nI 1)), (8, .int (nI (dst v (tD τ j)))), (7, .int (nI v)), (6, .int (nI (dst b (tD τ j)))), (5, .int (nI b)), (4, .int (nI (tD τ j))), (0, .ref (ad 30)), (1, .int (nI j)), (2, .int (nI jp)), (3, .int (nI jm))] dX5_steer_105 (by decide) rfl ?_
                      refine y_iload CC 0 dX5_steer_107 rfl ?_
                      refine z_if_eqF CC 117 dX5_steer_109 (by decide) (a := (1 : Int)) (nI_toInt (by decide)) (by decide) ?_
                      refine y_iload CC 2 dX5_steer_112 rfl ?_
                      refine y_goto CC 119 dX5_steer_114 (by decide) ?_
                      refine y_istore CC [(5, .int (nI v)), (9, .int (nI 1)), (8, .int (nI (dst v (tD τ j)))), (7, .int (nI v)), (6, .int (nI (dst b (tD τ j)))), (4, .int (nI (tD τ j))), (0, .ref (ad 30)), (1, .int (nI j)), (2, .int (nI jp)), (3, .int (nI jm))] dX5_steer_119 (by decide) rfl ?_
                      refine y_iload CC 1 dX5_steer_121 rfl ?_
                      refine z_if_eqF CC 131 dX5_steer_123 (by decide) (a := (1 : Int)) (nI_toInt (by decide)) (by decide) ?_
                      refine y_iload CC 2 dX5_steer_126 rfl ?_
                      refine y_goto CC 133 dX5_steer_128 (by decide) ?_
                      refine y_istore CC [(6, .int (nI (dst v (tD τ j)))), (5, .int (nI v)), (9, .int (nI 1)), (8, .int (nI (dst v (tD τ j)))), (7, .int (nI v)), (4, .int (nI (tD τ j))), (0, .ref (ad 30)), (1, .int (nI j)), (2, .int (nI jp)), (3, .int (nI jm))] dX5_steer_133 (by decide) rfl ?_
                      refine y_iinc CC 4 (nI (v + 1)) [(7, .int (nI (v + 1))), (6, .int (nI (dst v (tD τ j)))), (5, .int (nI v)), (9, .int (nI 1)), (8, .int (nI (dst v (tD τ j)))), (4, .int (nI (tD τ j))), (0, .ref (ad 30)), (1, .int (nI j)), (2, .int (nI jp)), (3, .int (nI jm))] dX5_steer_135 rfl (i_inc _) (by decide) rfl ?_
                      refine y_goto CC 47 dX5_steer_138 (by decide) ?_
                      refine y_lvE (lv2 := [(7, .int (nI (v + 1))), (6, .int (nI (lsS τ j (stS τ j jp jm (v + 1))))), (5, .int (oI (stS τ j jp jm (v + 1)))), (9, .int (nI 1)), (8, .int (nI (dst v (tD τ j)))), (4, .int (nI (tD τ j))), (0, .ref (ad 30)), (1, .int (nI j)), (2, .int (nI jp)), (3, .int (nI jm))]) (by rw [stS_s hb_, if_pos ⟨by omega, by omega⟩]; rfl) ?_
                      refine y_lv [0, 1, 2, 5, 6, 7, 8, 9] rfl ?_
                      exact ih47 (v + 1) (mu ν 34 j (nI v)) (by omega) (by omega) (FR_mu hF)
                · skip
                  refine y_iload CC 3 dX5_steer_68 rfl ?_
                  refine y_iload CC 0 dX5_steer_70 rfl ?_
                  refine y_isub CC dX5_steer_72 (v := nI ((tD τ j) - v)) (pk_sub (by omega)) ?_
                  refine y_goto CC 81 dX5_steer_73 (by decide) ?_
                  refine y_istore CC [(8, .int (nI ((tD τ j) - v))), (7, .int (nI v)), (6, .int (nI (dst b (tD τ j)))), (5, .int (nI b)), (4, .int (nI (tD τ j))), (0, .ref (ad 30)), (1, .int (nI j)), (2, .int (nI jp)), (3, .int (nI jm))] dX5_steer_81 (by decide) rfl ?_
                  refine y_lvE (lv2 := [(8, .int (nI (dst v (tD τ j)))), (7, .int (nI v)), (6, .int (nI (dst b (tD τ j)))), (5, .int (nI b)), (4, .int (nI (tD τ j))), (0, .ref (ad 30)), (1, .int (nI j)), (2, .int (nI jp)), (3, .int (nI jm))]) (by rw [show dst v (tD τ j) = (tD τ j) - v from by unfold dst; omega]) ?_
                  have hd1 : dst v (tD τ j) ≤ 3 ∨ 3 < dst v (tD τ j) := by omega
                  have hd1b : dst v (tD τ j) ≤ 20 := by unfold dst; omega
                  have hd3 : tD τ j ≤ 3 := (hV.2.2 j (by omega)).2
                  have hd4 : dst v (tD τ j) ≤ 3 := by unfold dst; omega
                  refine y_aload_n CC 5 dX5_steer_83 rfl rfl ?_
                  refine y_iload_n CC 6 dX5_steer_84 rfl rfl ?_
                  refine y_iload_n CC 8 dX5_steer_85 rfl rfl ?_
                  refine y_callVI (ci := 5) (st := []) CC cl_X5_144 (m_whereAt l D ad kI kS kL (mu ν 34 j (nI v)) (tu τ 3 j v) hMs hBs (by omega) j jm (by omega) (by omega)) (by omega) rfl rfl rfl (Nat.le_of_ble_eq_true rfl) ⟨by decide, by decide⟩ ⟨Nat.zero_le _, Nat.zero_le _⟩ dX5_steer_86 (fun r_ μ_ w_24 => ?_)
                  obtain ⟨rfl, rfl⟩ := w_24
                  have h_pl_23 := pl_lt (τ := (tu τ 3 j v)) (by omega) j jm
                  have hpl_ : pl (tu τ 3 j v) j jm = pif τ (tK τ j) (tA τ j) v jm := pl_st
                  refine y_iload_n CC 7 dX5_steer_89 rfl rfl ?_
                  refine z_icmp_ne CC 104 dX5_steer_90 (by decide) (a := ((pl (tu τ 3 j v) j jm : Nat) : Int)) (b := ((jp : Nat) : Int)) (nI_toInt (by omega)) (nI_toInt (by omega)) (fun c_25 => ?_) (fun c_25 => ?_)
                  · skip
                    refine y_iconst CC (nI 0) dX5_steer_104 (by decide) ?_
                    refine y_istore CC [(9, .int (nI 0)), (8, .int (nI (dst v (tD τ j)))), (7, .int (nI v)), (6, .int (nI (dst b (tD τ j)))), (5, .int (nI b)), (4, .int (nI (tD τ j))), (0, .ref (ad 30)), (1, .int (nI j)), (2, .int (nI jp)), (3, .int (nI jm))] dX5_steer_105 (by decide) rfl ?_
                    refine y_iload CC 0 dX5_steer_107 rfl ?_
                    refine z_if_eqT CC 117 dX5_steer_109 (by decide) (a := (0 : Int)) (nI_toInt (by decide)) (by decide) ?_
                    refine y_iload CC 4 dX5_steer_117 rfl ?_
                    refine y_istore CC [(5, .int (nI b)), (9, .int (nI 0)), (8, .int (nI (dst v (tD τ j)))), (7, .int (nI v)), (6, .int (nI (dst b (tD τ j)))), (4, .int (nI (tD τ j))), (0, .ref (ad 30)), (1, .int (nI j)), (2, .int (nI jp)), (3, .int (nI jm))] dX5_steer_119 (by decide) rfl ?_
                    refine y_iload CC 1 dX5_steer_121 rfl ?_
                    refine z_if_eqT CC 131 dX5_steer_123 (by decide) (a := (0 : Int)) (nI_toInt (by decide)) (by decide) ?_
                    refine y_iload CC 4 dX5_steer_131 rfl ?_
                    refine y_istore CC [(6, .int (nI (dst b (tD τ j)))), (5, .int (nI b)), (9, .int (nI 0)), (8, .int (nI (dst v (tD τ j)))), (7, .int (nI v)), (4, .int (nI (tD τ j))), (0, .ref (ad 30)), (1, .int (nI j)), (2, .int (nI jp)), (3, .int (nI jm))] dX5_steer_133 (by decide) rfl ?_
                    refine y_iinc CC 4 (nI (v + 1)) [(7, .int (nI (v + 1))), (6, .int (nI (dst b (tD τ j)))), (5, .int (nI b)), (9, .int (nI 0)), (8, .int (nI (dst v (tD τ j)))), (4, .int (nI (tD τ j))), (0, .ref (ad 30)), (1, .int (nI j)), (2, .int (nI jp)), (3, .int (nI jm))] dX5_steer_135 rfl (i_inc _) (by decide) rfl ?_
                    refine y_goto CC 47 dX5_steer_138 (by decide) ?_
                    refine y_lvE (lv2 := [(7, .int (nI (v + 1))), (6, .int (nI (lsS τ j (stS τ j jp jm (v + 1))))), (5, .int (oI (stS τ j jp jm (v + 1)))), (9, .int (nI 0)), (8, .int (nI (dst v (tD τ j)))), (4, .int (nI (tD τ j))), (0, .ref (ad 30)), (1, .int (nI j)), (2, .int (nI jp)), (3, .int (nI jm))]) (by rw [stS_s hb_, if_neg (fun q_ => by omega)]; rfl) ?_
                    refine y_lv [0, 1, 2, 5, 6, 7, 8, 9] rfl ?_
                    exact ih47 (v + 1) (mu ν 34 j (nI v)) (by omega) (by omega) (FR_mu hF)
                  · skip
                    refine y_iload CC 0 dX5_steer_93 rfl ?_
                    refine y_iload CC 2 dX5_steer_95 rfl ?_
                    refine z_icmp_ge CC 104 dX5_steer_97 (by decide) (a := ((dst v (tD τ j) : Nat) : Int)) (b := ((dst b (tD τ j) : Nat) : Int)) (nI_toInt (by omega)) (nI_toInt (by omega)) (fun c_26 => ?_) (fun c_26 => ?_)
                    · skip
                      refine y_iconst CC (nI 0) dX5_steer_104 (by decide) ?_
                      refine y_istore CC [(9, .int (nI 0)), (8, .int (nI (dst v (tD τ j)))), (7, .int (nI v)), (6, .int (nI (dst b (tD τ j)))), (5, .int (nI b)), (4, .int (nI (tD τ j))), (0, .ref (ad 30)), (1, .int (nI j)), (2, .int (nI jp)), (3, .int (nI jm))] dX5_steer_105 (by decide) rfl ?_
                      refine y_iload CC 0 dX5_steer_107 rfl ?_
                      refine z_if_eqT CC 117 dX5_steer_109 (by decide) (a := (0 : Int)) (nI_toInt (by decide)) (by decide) ?_
                      refine y_iload CC 4 dX5_steer_117 rfl ?_
                      refine y_istore CC [(5, .int (nI b)), (9, .int (nI 0)), (8, .int (nI (dst v (tD τ j)))), (7, .int (nI v)), (6, .int (nI (dst b (tD τ j)))), (4, .int (nI (tD τ j))), (0, .ref (ad 30)), (1, .int (nI j)), (2, .int (nI jp)), (3, .int (nI jm))] dX5_steer_119 (by decide) rfl ?_
                      refine y_iload CC 1 dX5_steer_121 rfl ?_
                      refine z_if_eqT CC 131 dX5_steer_123 (by decide) (a := (0 : Int)) (nI_toInt (by decide)) (by decide) ?_
                      refine y_iload CC 4 dX5_steer_131 rfl ?_
                      refine y_istore CC [(6, .int (nI (dst b (tD τ j)))), (5, .int (nI b)), (9, .int (nI 0)), (8, .int (nI (dst v (tD τ j)))), (7, .int (nI v)), (4, .int (nI (tD τ j))), (0, .ref (ad 30)), (1, .int (nI j)), (2, .int (nI jp)), (3, .int (nI jm))] dX5_steer_133 (by decide) rfl ?_
                      refine y_iinc CC 4 (nI (v + 1)) [(7, .int (nI (v + 1))), (6, .int (nI (dst b (tD τ j)))), (5, .int (nI b)), (9, .int (nI 0)), (8, .int (nI (dst v (tD τ j)))), (4, .int (nI (tD τ j))), (0, .ref (ad 30)), (1, .int (nI j)), (2, .int (nI jp)), (3, .int (nI jm))] dX5_steer_135 rfl (i_inc _) (by decide) rfl ?_
                      refine y_goto CC 47 dX5_steer_138 (by decide) ?_
                      refine y_lvE (lv2 := [(7, .int (nI (v + 1))), (6, .int (nI (lsS τ j (stS τ j jp jm (v + 1))))), (5, .int (oI (stS τ j jp jm (v + 1)))), (9, .int (nI 0)), (8, .int (nI (dst v (tD τ j)))), (4, .int (nI (tD τ j))), (0, .ref (ad 30)), (1, .int (nI j)), (2, .int (nI jp)), (3, .int (nI jm))]) (by rw [stS_s hb_, if_neg (fun q_ => by omega)]; rfl) ?_
                      refine y_lv [0, 1, 2, 5, 6, 7, 8, 9] rfl ?_
                      exact ih47 (v + 1) (mu ν 34 j (nI v)) (by omega) (by omega) (FR_mu hF)
                    · skip
                      refine y_iconst CC (nI 1) dX5_steer_100 (by decide) ?_
                      refine y_goto CC 105 dX5_steer_101 (by decide) ?_
                      refine y_istore CC [(9, .int (nI 1)), (8, .int (nI (dst v (tD τ j)))), (7, .int (nI v)), (6, .int (nI (dst b (tD τ j)))), (5, .int (nI b)), (4, .int (nI (tD τ j))), (0, .ref (ad 30)), (1, .int (nI j)), (2, .int (nI jp)), (3, .int (nI jm))] dX5_steer_105 (by decide) rfl ?_
                      refine y_iload CC 0 dX5_steer_107 rfl ?_
                      refine z_if_eqF CC 117 dX5_steer_109 (by decide) (a := (1 : Int)) (nI_toInt (by decide)) (by decide) ?_
                      refine y_iload CC 2 dX5_steer_112 rfl ?_
                      refine y_goto CC 119 dX5_steer_114 (by decide) ?_
                      refine y_istore CC [(5, .int (nI v)), (9, .int (nI 1)), (8, .int (nI (dst v (tD τ j)))), (7, .int (nI v)), (6, .int (nI (dst b (tD τ j)))), (4, .int (nI (tD τ j))), (0, .ref (ad 30)), (1, .int (nI j)), (2, .int (nI jp)), (3, .int (nI jm))] dX5_steer_119 (by decide) rfl ?_
                      refine y_iload CC 1 dX5_steer_121 rfl ?_
                      refine z_if_eqF CC 131 dX5_steer_123 (by decide) (a := (1 : Int)) (nI_toInt (by decide)) (by decide) ?_
                      refine y_iload CC 2 dX5_steer_126 rfl ?_
                      refine y_goto CC 133 dX5_steer_128 (by decide) ?_
                      refine y_istore CC [(6, .int (nI (dst v (tD τ j)))), (5, .int (nI v)), (9, .int (nI 1)), (8, .int (nI (dst v (tD τ j)))), (7, .int (nI v)), (4, .int (nI (tD τ j))), (0, .ref (ad 30)), (1, .int (nI j)), (2, .int (nI jp)), (3, .int (nI jm))] dX5_steer_133 (by decide) rfl ?_
                      refine y_iinc CC 4 (nI (v + 1)) [(7, .int (nI (v + 1))), (6, .int (nI (dst v (tD τ j)))), (5, .int (nI v)), (9, .int (nI 1)), (8, .int (nI (dst v (tD τ j)))), (4, .int (nI (tD τ j))), (0, .ref (ad 30)), (1, .int (nI j)), (2, .int (nI jp)), (3, .int (nI jm))] dX5_steer_135 rfl (i_inc _) (by decide) rfl ?_
                      refine y_goto CC 47 dX5_steer_138 (by decide) ?_
                      refine y_lvE (lv2 := [(7, .int (nI (v + 1))), (6, .int (nI (lsS τ j (stS τ j jp jm (v + 1))))), (5, .int (oI (stS τ j jp jm (v + 1)))), (9, .int (nI 1)), (8, .int (nI (dst v (tD τ j)))), (4, .int (nI (tD τ j))), (0, .ref (ad 30)), (1, .int (nI j)), (2, .int (nI jp)), (3, .int (nI jm))]) (by rw [stS_s hb_, if_pos ⟨by omega, by omega⟩]; rfl) ?_
                      refine y_lv [0, 1, 2, 5, 6, 7, 8, 9] rfl ?_
                      exact ih47 (v + 1) (mu ν 34 j (nI v)) (by omega) (by omega) (FR_mu hF)
        exact L47 _ 0 μ (Nat.lt_succ_self _) (Nat.zero_le _) (fun _ _ _ => rfl)

set_option maxRecDepth 100000 in
set_option maxHeartbeats 4000000 in
theorem m_guardedAt (l : Launch) (D : va_G) (ad : Nat → Nat) (kI kS kL : ClassId) (μ : Mem) (τ : Tn) (hM : TM μ τ) (hV : tV τ) (hS0 : 0 < tS τ) (p : Nat) (hp : p < tP τ) : MI l D ad kI kS kL yX5_guardedAt cX5_guardedAt 5 (some .int) 1 24 [.ref (ad 30), .int (nI p)] μ (fun r μ2 => μ = μ2 ∧ r = nI (cmS τ p (tS τ))) := by
  refine met_I RX5 rfl (by decide) (lv := [(0, .ref (ad 30)), (1, .int (nI p))]) rfl (Nat.le_of_ble_eq_true rfl) ?_
  intro pp ee ss mm aa bb me cd AA hA0 CC hnm QQ hQ
  have hB := hV.1
  have hP9 : tP τ ≤ 9 := hB.1
  have hS4 : tS τ ≤ 4 := hB.2.1
  have hVc := hV.2.1
  have hS61 : tS τ * 61 ≤ 244 := by omega
  refine y_iconst CC (nI 0) dX5_guardedAt_0 (by decide) ?_
  refine y_istore_n CC [(2, .int (nI 0)), (0, .ref (ad 30)), (1, .int (nI p))] dX5_guardedAt_1 rfl (by decide) rfl ?_
  refine y_iconst CC (nI 0) dX5_guardedAt_2 (by decide) ?_
  refine y_istore_n CC [(3, .int (nI 0)), (2, .int (nI 0)), (0, .ref (ad 30)), (1, .int (nI p))] dX5_guardedAt_3 rfl (by decide) rfl ?_
  have L4 : ∀ (n4 : Nat) (x : Nat), tS τ * 61 - x < n4 → (x ≤ tS τ * 61) → Y pp l ee (rmY 1 24) ss mm aa bb me cd D ad kI kS kL AA 5 0 0 QQ 4 [(3, .int (nI x)), (2, .int (nI (gsN τ p x))), (0, .ref (ad 30)), (1, .int (nI p))] [] μ := by
    intro n4
    induction n4 with
    | zero => intro x hm4; exact absurd hm4 (Nat.not_lt_zero _)
    | succ n4 ih4 =>
      intro x hm4 hx
      refine y_iload_n CC 0 dX5_guardedAt_4 rfl rfl ?_
      refine y_aload_n CC 2 dX5_guardedAt_5 rfl rfl ?_
      refine y_geti CC gl_X5_78 (by omega) rfl (v := nI (tS τ)) hM.2.1 dX5_guardedAt_6 ?_
      refine y_bipush CC (nI 61) dX5_guardedAt_9 (by decide) ?_
      refine y_imul CC dX5_guardedAt_11 (v := nI ((tS τ) * 61)) (pk_mul _ _) ?_
      refine z_icmp_ge CC 56 dX5_guardedAt_12 (by decide) (a := ((x : Nat) : Int)) (b := (((tS τ) * 61 : Nat) : Int)) (nI_toInt (by omega)) (nI_toInt (by omega)) (fun c_2 => ?_) (fun c_2 => ?_)
      · skip
        refine y_lvE (lv2 := [(3, .int (nI x)), (2, .int (nI (gsN τ p (tS τ * 61)))), (0, .ref (ad 30)), (1, .int (nI p))]) (by rw [show x = tS τ * 61 by omega]) ?_
        have hgs_ := gsN_lt (p := p) hS0 hS4 (tS τ * 61)
        refine y_iconst CC (nI 0) dX5_guardedAt_56 (by decide) ?_
        refine y_istore_n CC [(3, .int (nI 0)), (2, .int (nI (gsN τ p (tS τ * 61)))), (0, .ref (ad 30)), (1, .int (nI p))] dX5_guardedAt_57 rfl (by decide) rfl ?_
        refine y_iconst CC (nI 0) dX5_guardedAt_58 (by decide) ?_
        refine y_istore CC [(4, .int (nI 0)), (3, .int (nI 0)), (2, .int (nI (gsN τ p (tS τ * 61)))), (0, .ref (ad 30)), (1, .int (nI p))] dX5_guardedAt_59 (by decide) rfl ?_
        have L61 : ∀ (n61 : Nat) (a : Nat), tS τ - a < n61 → (a ≤ tS τ) → Y pp l ee (rmY 1 24) ss mm aa bb me cd D ad kI kS kL AA 5 0 0 QQ 61 [(4, .int (nI a)), (3, .int (nI (cmS τ p a))), (2, .int (nI (gsN τ p (tS τ * 61)))), (0, .ref (ad 30)), (1, .int (nI p))] [] μ := by
          intro n61
          induction n61 with
          | zero => intro a hm61; exact absurd hm61 (Nat.not_lt_zero _)
          | succ n61 ih61 =>
            intro a hm61 ha
            refine y_iload CC 0 dX5_guardedAt_61 rfl ?_
            refine y_aload_n CC 3 dX5_guardedAt_63 rfl rfl ?_
            refine y_geti CC gl_X5_78 (by omega) rfl (v := nI (tS τ)) hM.2.1 dX5_guardedAt_64 ?_
            refine z_icmp_ge CC 85 dX5_guardedAt_67 (by decide) (a := ((a : Nat) : Int)) (b := ((tS τ : Nat) : Int)) (nI_toInt (by omega)) (nI_toInt (by omega)) (fun c_4 => ?_) (fun c_4 => ?_)
            · skip
              refine y_iload_n CC 1 dX5_guardedAt_85 rfl rfl ?_
              exact y_iret CC hQ dX5_guardedAt_86 (⟨rfl, by rw [show a = tS τ by omega]⟩)
            · skip
              refine y_iload_n CC 1 dX5_guardedAt_70 rfl rfl ?_
              refine y_iload_n CC 2 dX5_guardedAt_71 rfl rfl ?_
              refine y_iload CC 0 dX5_guardedAt_72 rfl ?_
              refine y_ishr CC dX5_guardedAt_74 (v := nI ((gsN τ p (tS τ * 61)) / 2 ^ a)) (i_shr (by omega) (by omega)) ?_
              refine y_iconst CC (nI 1) dX5_guardedAt_75 (by decide) ?_
              refine y_iand CC dX5_guardedAt_76 (v := nI (((gsN τ p (tS τ * 61)) / 2 ^ a) &&& 1)) (i_and _ _) ?_
              refine y_iadd CC dX5_guardedAt_77 (v := nI (cmS τ p (a + 1))) ((nI_add _ _).trans (by rw [cmS, bit_num, gsN_ct (by omega)])) ?_
              refine y_istore_n CC [(3, .int (nI (cmS τ p (a + 1)))), (4, .int (nI a)), (2, .int (nI (gsN τ p (tS τ * 61)))), (0, .ref (ad 30)), (1, .int (nI p))] dX5_guardedAt_78 rfl (by decide) rfl ?_
              refine y_iinc CC 1 (nI (a + 1)) [(4, .int (nI (a + 1))), (3, .int (nI (cmS τ p (a + 1)))), (2, .int (nI (gsN τ p (tS τ * 61)))), (0, .ref (ad 30)), (1, .int (nI p))] dX5_guardedAt_79 rfl (i_inc _) (by decide) rfl ?_
              refine y_goto CC 61 dX5_guardedAt_82 (by decide) ?_
              exact ih61 (a + 1) (by omega) (by omega)
        exact L61 _ 0 (Nat.lt_succ_self _) (Nat.zero_le _)
      · skip
        have hmod_ := Nat.mod_lt x hS0
        have hdiv_ := div_le_of (n := x) (S := tS τ) (M := 60) (by omega) (by omega)
        refine y_iload_n CC 0 dX5_guardedAt_15 rfl rfl ?_
        refine y_aload_n CC 2 dX5_guardedAt_16 rfl rfl ?_
        refine y_geti CC gl_X5_78 (by omega) rfl (v := nI (tS τ)) hM.2.1 dX5_guardedAt_17 ?_
        refine y_irem CC dX5_guardedAt_20 (nI_ne0 (by omega) (by omega)) (v := nI (x % (tS τ))) (i_rem (by omega) (by omega) (by omega)) ?_
        refine y_istore CC [(4, .int (nI (x % (tS τ)))), (3, .int (nI x)), (2, .int (nI (gsN τ p x))), (0, .ref (ad 30)), (1, .int (nI p))] dX5_guardedAt_21 (by decide) rfl ?_
        refine y_iload_n CC 2 dX5_guardedAt_23 rfl rfl ?_
        refine y_aload_n CC 3 dX5_guardedAt_24 rfl rfl ?_
        refine y_iload CC 0 dX5_guardedAt_25 rfl ?_
        refine y_iload_n CC 1 dX5_guardedAt_27 rfl rfl ?_
        refine y_aload_n CC 3 dX5_guardedAt_28 rfl rfl ?_
        refine y_geti CC gl_X5_78 (by omega) rfl (v := nI (tS τ)) hM.2.1 dX5_guardedAt_29 ?_
        refine y_idiv CC dX5_guardedAt_32 (nI_ne0 (by omega) (by omega)) (v := nI (x / (tS τ))) (i_div (by omega) (by omega) (by omega)) ?_
        refine y_callVI (ci := 5) (st := [.int (nI (gsN τ p x))]) CC cl_X5_144 (m_whereAt l D ad kI kS kL μ τ hM hB (by omega) (x % (tS τ)) (x / (tS τ)) (by omega) (by omega)) (by omega) rfl rfl rfl (Nat.le_of_ble_eq_true rfl) ⟨by decide, by decide⟩ ⟨Nat.zero_le _, Nat.zero_le _⟩ dX5_guardedAt_33 (fun r_ μ_ w_6 => ?_)
        obtain ⟨rfl, rfl⟩ := w_6
        have h_pl_5 := pl_lt (τ := τ) (by omega) (x % (tS τ)) (x / (tS τ))
        refine y_iload_n CC 4 dX5_guardedAt_36 rfl rfl ?_
        refine z_icmp_ne CC 47 dX5_guardedAt_37 (by decide) (a := ((pl τ (x % (tS τ)) (x / (tS τ)) : Nat) : Int)) (b := ((p : Nat) : Int)) (nI_toInt (by omega)) (nI_toInt (by omega)) (fun c_7 => ?_) (fun c_7 => ?_)
        · skip
          refine y_iconst CC (nI 0) dX5_guardedAt_47 (by decide) ?_
          refine y_ior CC dX5_guardedAt_48 (v := nI (gsN τ p (x + 1))) ((i_or _ _).trans (by rw [gsN, if_neg (by omega)])) ?_
          refine y_istore_n CC [(2, .int (nI (gsN τ p (x + 1)))), (4, .int (nI (x % (tS τ)))), (3, .int (nI x)), (0, .ref (ad 30)), (1, .int (nI p))] dX5_guardedAt_49 rfl (by decide) rfl ?_
          refine y_iinc CC 2 (nI (x + 1)) [(3, .int (nI (x + 1))), (2, .int (nI (gsN τ p (x + 1)))), (4, .int (nI (x % (tS τ)))), (0, .ref (ad 30)), (1, .int (nI p))] dX5_guardedAt_50 rfl (i_inc _) (by decide) rfl ?_
          refine y_goto CC 4 dX5_guardedAt_53 (by decide) ?_
          refine y_lv [0, 1, 3, 4] rfl ?_
          exact ih4 (x + 1) (by omega) (by omega)
        · skip
          refine y_iconst CC (nI 1) dX5_guardedAt_40 (by decide) ?_
          refine y_iload CC 0 dX5_guardedAt_41 rfl ?_
          refine y_ishl CC dX5_guardedAt_43 (v := nI (2 ^ (x % (tS τ)))) (i_sh1 (by omega)) ?_
          refine y_goto CC 48 dX5_guardedAt_44 (by decide) ?_
          refine y_ior CC dX5_guardedAt_48 (v := nI (gsN τ p (x + 1))) ((i_or _ _).trans (by rw [gsN, if_pos (by omega)])) ?_
          refine y_istore_n CC [(2, .int (nI (gsN τ p (x + 1)))), (4, .int (nI (x % (tS τ)))), (3, .int (nI x)), (0, .ref (ad 30)), (1, .int (nI p))] dX5_guardedAt_49 rfl (by decide) rfl ?_
          refine y_iinc CC 2 (nI (x + 1)) [(3, .int (nI (x + 1))), (2, .int (nI (gsN τ p (x + 1)))), (4, .int (nI (x % (tS τ)))), (0, .ref (ad 30)), (1, .int (nI p))] dX5_guardedAt_50 rfl (i_inc _) (by decide) rfl ?_
          refine y_goto CC 4 dX5_guardedAt_53 (by decide) ?_
          refine y_lv [0, 1, 3, 4] rfl ?_
          exact ih4 (x + 1) (by omega) (by omega)
  exact L4 _ 0 (Nat.lt_succ_self _) (Nat.zero_le _)

set_option maxRecDepth 100000 in
set_option maxHeartbeats 4000000 in
theorem m_guard (l : Launch) (D : va_G) (ad : Nat → Nat) (kI kS kL : ClassId) (μ : Mem) (τ : Tn) (hM : TM μ τ) (hV : tV τ)  : MI l D ad kI kS kL yX5_guard cX5_guard 5 (some .int) 2 48 [.ref (ad 30)] μ (fun r μ2 => μ = μ2 ∧ r = q_guard τ) := by
  refine met_I RX5 rfl (by decide) (lv := [(0, .ref (ad 30))]) rfl (Nat.le_of_ble_eq_true rfl) ?_
  intro pp ee ss mm aa bb me cd AA hA0 CC hnm QQ hQ
  have hB := hV.1
  have hP9 : tP τ ≤ 9 := hB.1
  have hS4 : tS τ ≤ 4 := hB.2.1
  have hVc := hV.2.1
  refine y_aload_n CC 0 dX5_guard_0 rfl rfl ?_
  refine y_geti CC gl_X5_78 (by omega) rfl (v := nI (tS τ)) hM.2.1 dX5_guard_1 ?_
  refine z_if_ne CC 10 dX5_guard_4 (by decide) (a := ((tS τ : Nat) : Int)) (nI_toInt (by omega)) (fun c_1 => ?_) (fun c_1 => ?_)
  · skip
    refine y_bipush CC ((-9)) dX5_guard_10 (by decide) ?_
    refine y_istore_n CC [(1, .int (-9)), (0, .ref (ad 30))] dX5_guard_12 rfl (by decide) rfl ?_
    refine y_iconst CC (nI 0) dX5_guard_13 (by decide) ?_
    refine y_istore_n CC [(2, .int (nI 0)), (1, .int (-9)), (0, .ref (ad 30))] dX5_guard_14 rfl (by decide) rfl ?_
    refine y_iconst CC (nI 0) dX5_guard_15 (by decide) ?_
    refine y_istore_n CC [(3, .int (nI 0)), (2, .int (nI 0)), (1, .int (-9)), (0, .ref (ad 30))] dX5_guard_16 rfl (by decide) rfl ?_
    have L17 : ∀ (n17 : Nat) (p : Nat), tP τ - p < n17 → (p ≤ tP τ) → Y pp l ee (rmY 2 48) ss mm aa bb me cd D ad kI kS kL AA 5 0 0 QQ 17 [(3, .int (nI p)), (2, .int (nI ((gbS τ p).2))), (1, .int (bI τ p)), (0, .ref (ad 30))] [] μ := by
      intro n17
      induction n17 with
      | zero => intro p hm17; exact absurd hm17 (Nat.not_lt_zero _)
      | succ n17 ih17 =>
        intro p hm17 hp
        have hgb0_ := gbS_le τ p
        refine y_iload_n CC 0 dX5_guard_17 rfl rfl ?_
        refine y_aload_n CC 3 dX5_guard_18 rfl rfl ?_
        refine y_geti CC gl_X5_71 (by omega) rfl (v := nI (tP τ)) hM.1 dX5_guard_19 ?_
        refine z_icmp_ge CC 63 dX5_guard_22 (by decide) (a := ((p : Nat) : Int)) (b := ((tP τ : Nat) : Int)) (nI_toInt (by omega)) (nI_toInt (by omega)) (fun c_3 => ?_) (fun c_3 => ?_)
        · skip
          refine y_iload_n CC 2 dX5_guard_63 rfl rfl ?_
          exact y_iret CC hQ dX5_guard_64 (⟨rfl, by unfold q_guard; rw [if_pos (by omega), show p = tP τ by omega]; exact gb_end hV (by omega)⟩)
        · skip
          refine y_aload_n CC 3 dX5_guard_25 rfl rfl ?_
          refine y_iload_n CC 0 dX5_guard_26 rfl rfl ?_
          refine y_callVI (ci := 5) (st := []) CC cl_X5_192 (m_guardedAt l D ad kI kS kL μ τ hM hV (by omega) p (by omega)) (by omega) rfl rfl rfl (Nat.le_of_ble_eq_true rfl) ⟨by decide, by decide⟩ ⟨Nat.zero_le _, Nat.zero_le _⟩ dX5_guard_27 (fun r_ μ_ w_4 => ?_)
          obtain ⟨rfl, rfl⟩ := w_4
          have hcm_ := cmS_le τ p (tS τ)
          have hgb_ := gbS_le τ p
          refine y_istore CC [(4, .int (nI (cmS τ p (tS τ)))), (3, .int (nI p)), (2, .int (nI ((gbS τ p).2))), (1, .int (bI τ p)), (0, .ref (ad 30))] dX5_guard_30 (by decide) rfl ?_
          refine y_iload CC 0 dX5_guard_32 rfl ?_
          refine y_iload_n CC 2 dX5_guard_34 rfl rfl ?_
          refine z_icmp_le CC 42 dX5_guard_35 (by decide) (a := ((cmS τ p (tS τ) : Nat) : Int)) (b := (((gbS τ p).2 : Nat) : Int)) (nI_toInt (by omega)) (nI_toInt (by omega)) (fun c_5 => ?_) (fun c_5 => ?_)
          · skip
            refine y_iload_n CC 3 dX5_guard_42 rfl rfl ?_
            refine y_istore_n CC [(1, .int (bI τ p)), (4, .int (nI (cmS τ p (tS τ)))), (3, .int (nI p)), (2, .int (nI ((gbS τ p).2))), (0, .ref (ad 30))] dX5_guard_43 rfl (by decide) rfl ?_
            refine y_iload CC 1 dX5_guard_44 rfl ?_
            refine y_iload_n CC 3 dX5_guard_46 rfl rfl ?_
            refine z_icmp_le CC 55 dX5_guard_47 (by decide) (a := ((cmS τ p (tS τ) : Nat) : Int)) (b := (((gbS τ p).2 : Nat) : Int)) (nI_toInt (by omega)) (nI_toInt (by omega)) (fun c_6 => ?_) (fun c_6 => ?_)
            · skip
              refine y_iload_n CC 3 dX5_guard_55 rfl rfl ?_
              refine y_istore_n CC [(2, .int (nI ((gbS τ p).2))), (1, .int (bI τ p)), (4, .int (nI (cmS τ p (tS τ)))), (3, .int (nI p)), (0, .ref (ad 30))] dX5_guard_56 rfl (by decide) rfl ?_
              refine y_iinc CC 3 (nI (p + 1)) [(3, .int (nI (p + 1))), (2, .int (nI ((gbS τ p).2))), (1, .int (bI τ p)), (4, .int (nI (cmS τ p (tS τ)))), (0, .ref (ad 30))] dX5_guard_57 rfl (i_inc _) (by decide) rfl ?_
              refine y_goto CC 17 dX5_guard_60 (by decide) ?_
              refine y_lvE (lv2 := [(3, .int (nI (p + 1))), (2, .int (nI ((gbS τ (p + 1)).2))), (1, .int (bI τ (p + 1))), (4, .int (nI (cmS τ p (tS τ)))), (0, .ref (ad 30))]) (by unfold bI; rw [show gbS τ (p + 1) = gbS τ p by rw [gbS, if_neg (by omega)]]) ?_
              refine y_lv [0, 1, 2, 4] rfl ?_
              exact ih17 (p + 1) (by omega) (by omega)
            · skip
              refine y_iload CC 1 dX5_guard_50 rfl ?_
              refine y_goto CC 56 dX5_guard_52 (by decide) ?_
              refine y_istore_n CC [(2, .int (nI (cmS τ p (tS τ)))), (1, .int (bI τ p)), (4, .int (nI (cmS τ p (tS τ)))), (3, .int (nI p)), (0, .ref (ad 30))] dX5_guard_56 rfl (by decide) rfl ?_
              refine y_iinc CC 3 (nI (p + 1)) [(3, .int (nI (p + 1))), (2, .int (nI (cmS τ p (tS τ)))), (1, .int (bI τ p)), (4, .int (nI (cmS τ p (tS τ)))), (0, .ref (ad 30))] dX5_guard_57 rfl (i_inc _) (by decide) rfl ?_
              refine y_goto CC 17 dX5_guard_60 (by decide) ?_
              refine y_lvE (lv2 := [(3, .int (nI (p + 1))), (2, .int (nI ((gbS τ (p + 1)).2))), (1, .int (bI τ (p + 1))), (4, .int (nI (cmS τ p (tS τ)))), (0, .ref (ad 30))]) (by exfalso; omega) ?_
              refine y_lv [0, 1, 2, 4] rfl ?_
              exact ih17 (p + 1) (by omega) (by omega)
          · skip
            refine y_iload_n CC 1 dX5_guard_38 rfl rfl ?_
            refine y_goto CC 43 dX5_guard_39 (by decide) ?_
            refine y_istore_n CC [(1, .int (nI p)), (4, .int (nI (cmS τ p (tS τ)))), (3, .int (nI p)), (2, .int (nI ((gbS τ p).2))), (0, .ref (ad 30))] dX5_guard_43 rfl (by decide) rfl ?_
            refine y_iload CC 1 dX5_guard_44 rfl ?_
            refine y_iload_n CC 3 dX5_guard_46 rfl rfl ?_
            refine z_icmp_le CC 55 dX5_guard_47 (by decide) (a := ((cmS τ p (tS τ) : Nat) : Int)) (b := (((gbS τ p).2 : Nat) : Int)) (nI_toInt (by omega)) (nI_toInt (by omega)) (fun c_7 => ?_) (fun c_7 => ?_)
            · skip
              refine y_iload_n CC 3 dX5_guard_55 rfl rfl ?_
              refine y_istore_n CC [(2, .int (nI ((gbS τ p).2))), (1, .int (nI p)), (4, .int (nI (cmS τ p (tS τ)))), (3, .int (nI p)), (0, .ref (ad 30))] dX5_guard_56 rfl (by decide) rfl ?_
              refine y_iinc CC 3 (nI (p + 1)) [(3, .int (nI (p + 1))), (2, .int (nI ((gbS τ p).2))), (1, .int (nI p)), (4, .int (nI (cmS τ p (tS τ)))), (0, .ref (ad 30))] dX5_guard_57 rfl (i_inc _) (by decide) rfl ?_
              refine y_goto CC 17 dX5_guard_60 (by decide) ?_
              refine y_lvE (lv2 := [(3, .int (nI (p + 1))), (2, .int (nI ((gbS τ (p + 1)).2))), (1, .int (bI τ (p + 1))), (4, .int (nI (cmS τ p (tS τ)))), (0, .ref (ad 30))]) (by exfalso; omega) ?_
              refine y_lv [0, 1, 2, 4] rfl ?_
              exact ih17 (p + 1) (by omega) (by omega)
            · skip
              refine y_iload CC 1 dX5_guard_50 rfl ?_
              refine y_goto CC 56 dX5_guard_52 (by decide) ?_
              refine y_istore_n CC [(2, .int (nI (cmS τ p (tS τ)))), (1, .int (nI p)), (4, .int (nI (cmS τ p (tS τ)))), (3, .int (nI p)), (0, .ref (ad 30))] dX5_guard_56 rfl (by decide) rfl ?_
              refine y_iinc CC 3 (nI (p + 1)) [(3, .int (nI (p + 1))), (2, .int (nI (cmS τ p (tS τ)))), (1, .int (nI p)), (4, .int (nI (cmS τ p (tS τ)))), (0, .ref (ad 30))] dX5_guard_57 rfl (i_inc _) (by decide) rfl ?_
              refine y_goto CC 17 dX5_guard_60 (by decide) ?_
              refine y_lvE (lv2 := [(3, .int (nI (p + 1))), (2, .int (nI ((gbS τ (p + 1)).2))), (1, .int (bI τ (p + 1))), (4, .int (nI (cmS τ p (tS τ)))), (0, .ref (ad 30))]) (by 
                have h_ : gbS τ (p + 1) = (p, cmS τ p (tS τ)) := by rw [gbS, if_pos (by omega)]
                have h2_ : bI τ (p + 1) = nI p := by unfold bI; rw [h_]; exact if_neg (show ¬ cmS τ p (tS τ) = 0 by omega)
                rw [h2_, h_]) ?_
              refine y_lv [0, 1, 2, 4] rfl ?_
              exact ih17 (p + 1) (by omega) (by omega)
    exact L17 _ 0 (Nat.lt_succ_self _) (Nat.zero_le _)
  · skip
    refine y_bipush CC ((-3)) dX5_guard_7 (by decide) ?_
    exact y_iret CC hQ dX5_guard_9 (⟨rfl, by unfold q_guard; rw [if_neg (by omega)]⟩)

set_option maxRecDepth 100000 in
set_option maxHeartbeats 4000000 in
theorem m_areSo (l : Launch) (D : va_G) (ad : Nat → Nat) (kI kS kL : ClassId) (μ : Mem) (τ : Tn) (hM : TM μ τ) (hB : tB τ) (hP : 0 < tP τ) (ρ : Tn) (hR : RM μ ρ) (hrb : rB τ ρ) : MI l D ad kI kS kL yX5_areSo cX5_areSo 3 (some .boolean) 1 24 [.ref (ad 30)] μ (fun r μ2 => μ = μ2 ∧ bo r (soB τ ρ)) := by
  refine met_I RX5 rfl (by decide) (lv := [(0, .ref (ad 30))]) rfl (Nat.le_of_ble_eq_true rfl) ?_
  intro pp ee ss mm aa bb me cd AA hA0 CC hnm QQ hQ
  have hP9 : tP τ ≤ 9 := hB.1
  have hS4 : tS τ ≤ 4 := hB.2.1
  have hR8 := hrb.1
  refine y_iconst CC (nI 1) dX5_areSo_0 (by decide) ?_
  refine y_istore_n CC [(1, .int (nI 1)), (0, .ref (ad 30))] dX5_areSo_1 rfl (by decide) rfl ?_
  refine y_iconst CC (nI 0) dX5_areSo_2 (by decide) ?_
  refine y_istore_n CC [(2, .int (nI 0)), (1, .int (nI 1)), (0, .ref (ad 30))] dX5_areSo_3 rfl (by decide) rfl ?_
  have L4 : ∀ (n4 : Nat) (x : Nat) (fl : Nat), ρ 3 0 - x < n4 → (x ≤ ρ 3 0) → ((fl = 1 ∧ ∀ y, y < x → pl τ (ρ 0 y) (ρ 1 y) = ρ 2 y) ∨ (fl = 0 ∧ soB τ ρ = false)) → Y pp l ee (rmY 1 24) ss mm aa bb me cd D ad kI kS kL AA 3 0 0 QQ 4 [(2, .int (nI x)), (1, .int (nI fl)), (0, .ref (ad 30))] [] μ := by
    intro n4
    induction n4 with
    | zero => intro x fl hm4; exact absurd hm4 (Nat.not_lt_zero _)
    | succ n4 ih4 =>
      intro x fl hm4 hx hfl
      refine y_iload_n CC 0 dX5_areSo_4 rfl rfl ?_
      refine y_aload_n CC 2 dX5_areSo_5 rfl rfl ?_
      refine y_geti CC gl_X5_128 (by omega) rfl (v := nI (ρ 3 0)) hR.1 dX5_areSo_6 ?_
      refine z_icmp_ge CC 53 dX5_areSo_9 (by decide) (a := ((x : Nat) : Int)) (b := ((ρ 3 0 : Nat) : Int)) (nI_toInt (by omega)) (nI_toInt (by omega)) (fun c_2 => ?_) (fun c_2 => ?_)
      · skip
        rcases hfl with ⟨rfl, hfa_⟩ | ⟨rfl, hso_⟩
        · skip
          refine y_iload_n CC 1 dX5_areSo_53 rfl rfl ?_
          exact y_zret CC hQ dX5_areSo_54 (by decide) (⟨rfl, Or.inl ⟨soB_t (fun y hy => hfa_ y (by omega)), rfl⟩⟩)
        · skip
          refine y_iload_n CC 1 dX5_areSo_53 rfl rfl ?_
          exact y_zret CC hQ dX5_areSo_54 (by decide) (⟨rfl, Or.inr ⟨hso_, rfl⟩⟩)
      · skip
        rcases hfl with ⟨rfl, hfa_⟩ | ⟨rfl, hso_⟩
        · skip
          refine y_iload_n CC 1 dX5_areSo_12 rfl rfl ?_
          refine z_if_eqF CC 45 dX5_areSo_13 (by decide) (a := (1 : Int)) (nI_toInt (by decide)) (by decide) ?_
          have hri := hrb.2 x (by omega)
          refine y_aload_n CC 2 dX5_areSo_16 rfl rfl ?_
          refine y_aload_n CC 2 dX5_areSo_17 rfl rfl ?_
          refine y_getr CC gl_X5_40 (by omega) (d := 41) rfl dX5_areSo_18 ?_
          refine y_iload_n CC 0 dX5_areSo_21 rfl rfl ?_
          refine y_ialdN CC (n := 8) (by omega) (by decide) (by omega) (by omega) (v := nI (ρ 0 x)) (hR.2 x (by omega)).1 dX5_areSo_22 ?_
          refine y_aload_n CC 2 dX5_areSo_23 rfl rfl ?_
          refine y_getr CC gl_X5_43 (by omega) (d := 42) rfl dX5_areSo_24 ?_
          refine y_iload_n CC 0 dX5_areSo_27 rfl rfl ?_
          refine y_ialdN CC (n := 8) (by omega) (by decide) (by omega) (by omega) (v := nI (ρ 1 x)) (hR.2 x (by omega)).2.1 dX5_areSo_28 ?_
          refine y_callVI (ci := 5) (st := []) CC cl_X5_144 (m_whereAt l D ad kI kS kL μ τ hM hB hP (ρ 0 x) (ρ 1 x) (by omega) (by omega)) (by omega) rfl rfl rfl (Nat.le_of_ble_eq_true rfl) ⟨by decide, by decide⟩ ⟨Nat.zero_le _, Nat.zero_le _⟩ dX5_areSo_29 (fun r_ μ_ w_4 => ?_)
          obtain ⟨rfl, rfl⟩ := w_4
          have h_pl_3 := pl_lt (τ := τ) hP (ρ 0 x) (ρ 1 x)
          refine y_aload_n CC 2 dX5_areSo_32 rfl rfl ?_
          refine y_getr CC gl_X5_46 (by omega) (d := 43) rfl dX5_areSo_33 ?_
          refine y_iload_n CC 0 dX5_areSo_36 rfl rfl ?_
          refine y_ialdN CC (n := 8) (by omega) (by decide) (by omega) (by omega) (v := nI (ρ 2 x)) (hR.2 x (by omega)).2.2 dX5_areSo_37 ?_
          refine z_icmp_ne CC 45 dX5_areSo_38 (by decide) (a := ((pl τ (ρ 0 x) (ρ 1 x) : Nat) : Int)) (b := ((ρ 2 x : Nat) : Int)) (nI_toInt (by omega)) (nI_toInt (by omega)) (fun c_5 => ?_) (fun c_5 => ?_)
          · skip
            refine y_iconst CC (nI 0) dX5_areSo_45 (by decide) ?_
            refine y_istore_n CC [(1, .int (nI 0)), (2, .int (nI x)), (0, .ref (ad 30))] dX5_areSo_46 rfl (by decide) rfl ?_
            refine y_iinc CC 1 (nI (x + 1)) [(2, .int (nI (x + 1))), (1, .int (nI 0)), (0, .ref (ad 30))] dX5_areSo_47 rfl (i_inc _) (by decide) rfl ?_
            refine y_goto CC 4 dX5_areSo_50 (by decide) ?_
            exact ih4 (x + 1) 0 (by omega) (by omega) (Or.inr ⟨rfl, by first | assumption | exact soB_f (i := x) (by omega) (by omega)⟩)
          · skip
            refine y_iconst CC (nI 1) dX5_areSo_41 (by decide) ?_
            refine y_goto CC 46 dX5_areSo_42 (by decide) ?_
            refine y_istore_n CC [(1, .int (nI 1)), (2, .int (nI x)), (0, .ref (ad 30))] dX5_areSo_46 rfl (by decide) rfl ?_
            refine y_iinc CC 1 (nI (x + 1)) [(2, .int (nI (x + 1))), (1, .int (nI 1)), (0, .ref (ad 30))] dX5_areSo_47 rfl (i_inc _) (by decide) rfl ?_
            refine y_goto CC 4 dX5_areSo_50 (by decide) ?_
            exact ih4 (x + 1) 1 (by omega) (by omega) (Or.inl ⟨rfl, fun y hy => by rcases (show y < x ∨ y = x by omega) with h_ | rfl; exact hfa_ y h_; omega⟩)
        · skip
          refine y_iload_n CC 1 dX5_areSo_12 rfl rfl ?_
          refine z_if_eqT CC 45 dX5_areSo_13 (by decide) (a := (0 : Int)) (nI_toInt (by decide)) (by decide) ?_
          refine y_iconst CC (nI 0) dX5_areSo_45 (by decide) ?_
          refine y_istore_n CC [(1, .int (nI 0)), (2, .int (nI x)), (0, .ref (ad 30))] dX5_areSo_46 rfl (by decide) rfl ?_
          refine y_iinc CC 1 (nI (x + 1)) [(2, .int (nI (x + 1))), (1, .int (nI 0)), (0, .ref (ad 30))] dX5_areSo_47 rfl (i_inc _) (by decide) rfl ?_
          refine y_goto CC 4 dX5_areSo_50 (by decide) ?_
          exact ih4 (x + 1) 0 (by omega) (by omega) (Or.inr ⟨rfl, by first | assumption | exact soB_f (i := x) (by omega) (by omega)⟩)
  exact L4 _ 0 1 (Nat.lt_succ_self _) (Nat.zero_le _) (Or.inl ⟨rfl, fun y h => absurd h (Nat.not_lt_zero y)⟩)

set_option maxRecDepth 100000 in
set_option maxHeartbeats 4000000 in
theorem m_strides (l : Launch) (D : va_G) (ad : Nat → Nat) (kI kS kL : ClassId) (μ : Mem) (τ : Tn) (hM : TM μ τ) (hV : tV τ) (ρ : Tn) (hR : RM μ ρ) (hrb : rB τ ρ) (a : Int32) : MI l D ad kI kS kL yX5_strides cX5_strides 5 (some .int) 2 46 [.ref (ad 30), .int a] μ (fun r μ2 => μ = μ2 ∧ r = q_strides τ ρ a) := by
  refine met_I RX5 rfl (by decide) (lv := [(0, .ref (ad 30)), (1, .int a)]) rfl (Nat.le_of_ble_eq_true rfl) ?_
  intro pp ee ss mm aa bb me cd AA hA0 CC hnm QQ hQ
  have hB := hV.1
  have hP9 : tP τ ≤ 9 := hB.1
  have hS4 : tS τ ≤ 4 := hB.2.1
  have hVc := hV.2.1
  have hR8 := hrb.1
  refine y_aload_n CC 0 dX5_strides_0 rfl rfl ?_
  refine y_iload_n CC 1 dX5_strides_1 rfl rfl ?_
  refine y_callVI (ci := 5) (st := []) CC cl_X5_131 (m_noSleeper l D ad kI kS kL μ τ hM hB a) (by omega) rfl rfl rfl (Nat.le_of_ble_eq_true rfl) ⟨by decide, by decide⟩ ⟨Nat.zero_le _, Nat.zero_le _⟩ dX5_strides_2 (fun r_ μ_ w_2 => ?_)
  rcases w_2 with ⟨rfl, ⟨b_1, rfl⟩ | ⟨b_1, rfl⟩⟩
  · skip
    refine z_if_eqF CC 10 dX5_strides_5 (by decide) (a := (1 : Int)) (nI_toInt (by decide)) (by decide) ?_
    refine y_iconst CC ((-1)) dX5_strides_8 (by decide) ?_
    exact y_iret CC hQ dX5_strides_9 (⟨rfl, by simp [q_strides, b_1]⟩)
  · skip
    obtain ⟨j, hj, rfl⟩ := inB_of b_1 (by omega)
    refine z_if_eqT CC 10 dX5_strides_5 (by decide) (a := (0 : Int)) (nI_toInt (by decide)) (by decide) ?_
    have hkb := hB.2.2.1 j (by omega)
    refine y_aload_n CC 0 dX5_strides_10 rfl rfl ?_
    refine y_getr CC gl_X5_19 (by omega) (d := 34) rfl dX5_strides_11 ?_
    refine y_iload_n CC 1 dX5_strides_14 rfl rfl ?_
    refine y_ialdN CC (n := 4) (by omega) (by decide) (by omega) (by omega) (v := nI (tD τ j)) (hM.2.2.1 j (by omega)).2.2 dX5_strides_15 ?_
    refine y_istore_n CC [(2, .int (nI (tD τ j))), (0, .ref (ad 30)), (1, .int (nI j))] dX5_strides_16 rfl (by decide) rfl ?_
    refine y_iconst CC (nI 0) dX5_strides_17 (by decide) ?_
    refine y_istore_n CC [(3, .int (nI 0)), (2, .int (nI (tD τ j))), (0, .ref (ad 30)), (1, .int (nI j))] dX5_strides_18 rfl (by decide) rfl ?_
    refine y_iconst CC (nI 0) dX5_strides_19 (by decide) ?_
    refine y_istore CC [(4, .int (nI 0)), (3, .int (nI 0)), (2, .int (nI (tD τ j))), (0, .ref (ad 30)), (1, .int (nI j))] dX5_strides_20 (by decide) rfl ?_
    have L22 : ∀ (n22 : Nat) (v : Nat) (ν : Mem), 4 - v < n22 → (v ≤ 4) → (∀ c1 k1, c1 ≠ 34 ∨ k1 ≠ j → ν c1 k1 = μ c1 k1) → Y pp l ee (rmY 2 46) ss mm aa bb me cd D ad kI kS kL AA 5 0 0 QQ 22 [(4, .int (nI v)), (3, .int (nI (bs v (fun v_ => soB (tu τ 3 j v_) ρ)))), (2, .int (nI (tD τ j))), (0, .ref (ad 30)), (1, .int (nI j))] [] ν := by
      intro n22
      induction n22 with
      | zero => intro v ν hm22; exact absurd hm22 (Nat.not_lt_zero _)
      | succ n22 ih22 =>
        intro v ν hm22 hv hF
        refine y_iload CC 0 dX5_strides_22 rfl ?_
        refine y_iconst CC (nI 4) dX5_strides_24 (by decide) ?_
        refine z_icmp_ge CC 60 dX5_strides_25 (by decide) (a := ((v : Nat) : Int)) (b := (4 : Int)) (nI_toInt (by omega)) (nI_toInt (by decide)) (fun c_4 => ?_) (fun c_4 => ?_)
        · skip
          refine y_aload_n CC 3 dX5_strides_60 rfl rfl ?_
          refine y_getr CC gl_X5_19 (by omega) (d := 34) rfl dX5_strides_61 ?_
          refine y_iload_n CC 4 dX5_strides_64 rfl rfl ?_
          refine y_iload_n CC 2 dX5_strides_65 rfl rfl ?_
          refine y_iastN CC (n := 4) (by omega) (by decide) (by omega) (by omega) dX5_strides_66 ?_
          refine y_iload_n CC 1 dX5_strides_67 rfl rfl ?_
          exact y_iret CC hQ dX5_strides_68 (⟨mu_back hF (hM.2.2.1 j (by omega)).2.2, by simp [q_strides, b_1, ix_nI (show j < 2 ^ 31 by omega)]; rw [show v = 4 by omega]⟩)
        · skip
          refine y_aload_n CC 3 dX5_strides_28 rfl rfl ?_
          refine y_getr CC gl_X5_19 (by omega) (d := 34) rfl dX5_strides_29 ?_
          refine y_iload_n CC 4 dX5_strides_32 rfl rfl ?_
          refine y_iload CC 0 dX5_strides_33 rfl ?_
          refine y_iastN CC (n := 4) (by omega) (by decide) (by omega) (by omega) dX5_strides_35 ?_
          have hMs : TM (mu ν 34 j (nI v)) (tu τ 3 j v) := hM.st hF v
          have hBs : tB (tu τ 3 j v) := tB_u hB (Or.inr ⟨Or.inr rfl, by omega⟩)
          have e1_ : tP (tu τ 3 j v) = tP τ := by simp [tu]
          have e2_ : tS (tu τ 3 j v) = tS τ := by simp [tu]
          refine y_iload_n CC 1 dX5_strides_36 rfl rfl ?_
          refine y_aload_n CC 3 dX5_strides_37 rfl rfl ?_
          refine y_callVI (ci := 5) (st := [.int (nI (bs v (fun v_ => soB (tu τ 3 j v_) ρ)))]) CC cl_X5_195 (m_areSo l D ad kI kS kL (mu ν 34 j (nI v)) (tu τ 3 j v) hMs hBs (by omega) ρ (hR.same (by rw [mu_ne _ _ (Or.inl (by decide))]; exact hF _ _ (Or.inl (by decide))) (fun c_ k_ h1_ h2_ => by rw [mu_ne _ _ (Or.inl (by omega))]; exact hF _ _ (Or.inl (by omega)))) (by unfold rB; rw [e1_, e2_]; exact hrb)) (by omega) rfl rfl rfl (Nat.le_of_ble_eq_true rfl) ⟨by decide, by decide⟩ ⟨Nat.zero_le _, Nat.zero_le _⟩ dX5_strides_38 (fun r_ μ_ w_6 => ?_)
          rcases w_6 with ⟨rfl, ⟨b_5, rfl⟩ | ⟨b_5, rfl⟩⟩
          · skip
            refine z_if_eqF CC 51 dX5_strides_41 (by decide) (a := (1 : Int)) (nI_toInt (by decide)) (by decide) ?_
            refine y_iconst CC (nI 1) dX5_strides_44 (by decide) ?_
            refine y_iload CC 0 dX5_strides_45 rfl ?_
            refine y_ishl CC dX5_strides_47 (v := nI (2 ^ v)) (i_sh1 (by omega)) ?_
            refine y_goto CC 52 dX5_strides_48 (by decide) ?_
            refine y_ior CC dX5_strides_52 (v := nI (bs (v + 1) (fun v_ => soB (tu τ 3 j v_) ρ))) ((i_or _ _).trans (by rw [bs, if_pos b_5])) ?_
            refine y_istore_n CC [(3, .int (nI (bs (v + 1) (fun v_ => soB (tu τ 3 j v_) ρ)))), (4, .int (nI v)), (2, .int (nI (tD τ j))), (0, .ref (ad 30)), (1, .int (nI j))] dX5_strides_53 rfl (by decide) rfl ?_
            refine y_iinc CC 1 (nI (v + 1)) [(4, .int (nI (v + 1))), (3, .int (nI (bs (v + 1) (fun v_ => soB (tu τ 3 j v_) ρ)))), (2, .int (nI (tD τ j))), (0, .ref (ad 30)), (1, .int (nI j))] dX5_strides_54 rfl (i_inc _) (by decide) rfl ?_
            refine y_goto CC 22 dX5_strides_57 (by decide) ?_
            exact ih22 (v + 1) (mu ν 34 j (nI v)) (by omega) (by omega) (FR_mu hF)
          · skip
            refine z_if_eqT CC 51 dX5_strides_41 (by decide) (a := (0 : Int)) (nI_toInt (by decide)) (by decide) ?_
            refine y_iconst CC (nI 0) dX5_strides_51 (by decide) ?_
            refine y_ior CC dX5_strides_52 (v := nI (bs (v + 1) (fun v_ => soB (tu τ 3 j v_) ρ))) ((i_or _ _).trans (by rw [bs, if_neg (by rw [b_5]; decide)])) ?_
            refine y_istore_n CC [(3, .int (nI (bs (v + 1) (fun v_ => soB (tu τ 3 j v_) ρ)))), (4, .int (nI v)), (2, .int (nI (tD τ j))), (0, .ref (ad 30)), (1, .int (nI j))] dX5_strides_53 rfl (by decide) rfl ?_
            refine y_iinc CC 1 (nI (v + 1)) [(4, .int (nI (v + 1))), (3, .int (nI (bs (v + 1) (fun v_ => soB (tu τ 3 j v_) ρ)))), (2, .int (nI (tD τ j))), (0, .ref (ad 30)), (1, .int (nI j))] dX5_strides_54 rfl (i_inc _) (by decide) rfl ?_
            refine y_goto CC 22 dX5_strides_57 (by decide) ?_
            exact ih22 (v + 1) (mu ν 34 j (nI v)) (by omega) (by omega) (FR_mu hF)
    exact L22 _ 0 μ (Nat.lt_succ_self _) (Nat.zero_le _) (fun _ _ _ => rfl)

set_option maxRecDepth 100000 in
set_option maxHeartbeats 4000000 in
theorem m_kinds (l : Launch) (D : va_G) (ad : Nat → Nat) (kI kS kL : ClassId) (μ : Mem) (τ : Tn) (hM : TM μ τ) (hV : tV τ) (ρ : Tn) (hR : RM μ ρ) (hrb : rB τ ρ) (a : Int32) : MI l D ad kI kS kL yX5_kinds cX5_kinds 5 (some .int) 2 46 [.ref (ad 30), .int a] μ (fun r μ2 => μ = μ2 ∧ r = q_kinds τ ρ a) := by
  refine met_I RX5 rfl (by decide) (lv := [(0, .ref (ad 30)), (1, .int a)]) rfl (Nat.le_of_ble_eq_true rfl) ?_
  intro pp ee ss mm aa bb me cd AA hA0 CC hnm QQ hQ
  have hB := hV.1
  have hP9 : tP τ ≤ 9 := hB.1
  have hS4 : tS τ ≤ 4 := hB.2.1
  have hVc := hV.2.1
  have hR8 := hrb.1
  refine y_aload_n CC 0 dX5_kinds_0 rfl rfl ?_
  refine y_iload_n CC 1 dX5_kinds_1 rfl rfl ?_
  refine y_callVI (ci := 5) (st := []) CC cl_X5_131 (m_noSleeper l D ad kI kS kL μ τ hM hB a) (by omega) rfl rfl rfl (Nat.le_of_ble_eq_true rfl) ⟨by decide, by decide⟩ ⟨Nat.zero_le _, Nat.zero_le _⟩ dX5_kinds_2 (fun r_ μ_ w_2 => ?_)
  rcases w_2 with ⟨rfl, ⟨b_1, rfl⟩ | ⟨b_1, rfl⟩⟩
  · skip
    refine z_if_eqF CC 10 dX5_kinds_5 (by decide) (a := (1 : Int)) (nI_toInt (by decide)) (by decide) ?_
    refine y_iconst CC ((-1)) dX5_kinds_8 (by decide) ?_
    exact y_iret CC hQ dX5_kinds_9 (⟨rfl, by simp [q_kinds, b_1]⟩)
  · skip
    obtain ⟨j, hj, rfl⟩ := inB_of b_1 (by omega)
    refine z_if_eqT CC 10 dX5_kinds_5 (by decide) (a := (0 : Int)) (nI_toInt (by decide)) (by decide) ?_
    have hkb := hB.2.2.1 j (by omega)
    refine y_aload_n CC 0 dX5_kinds_10 rfl rfl ?_
    refine y_getr CC gl_X5_13 (by omega) (d := 32) rfl dX5_kinds_11 ?_
    refine y_iload_n CC 1 dX5_kinds_14 rfl rfl ?_
    refine y_ialdN CC (n := 4) (by omega) (by decide) (by omega) (by omega) (v := nI (tK τ j)) (hM.2.2.1 j (by omega)).1 dX5_kinds_15 ?_
    refine y_istore_n CC [(2, .int (nI (tK τ j))), (0, .ref (ad 30)), (1, .int (nI j))] dX5_kinds_16 rfl (by decide) rfl ?_
    refine y_iconst CC (nI 0) dX5_kinds_17 (by decide) ?_
    refine y_istore_n CC [(3, .int (nI 0)), (2, .int (nI (tK τ j))), (0, .ref (ad 30)), (1, .int (nI j))] dX5_kinds_18 rfl (by decide) rfl ?_
    refine y_iconst CC (nI 0) dX5_kinds_19 (by decide) ?_
    refine y_istore CC [(4, .int (nI 0)), (3, .int (nI 0)), (2, .int (nI (tK τ j))), (0, .ref (ad 30)), (1, .int (nI j))] dX5_kinds_20 (by decide) rfl ?_
    have L22 : ∀ (n22 : Nat) (v : Nat) (ν : Mem), 3 - v < n22 → (v ≤ 3) → (∀ c1 k1, c1 ≠ 32 ∨ k1 ≠ j → ν c1 k1 = μ c1 k1) → Y pp l ee (rmY 2 46) ss mm aa bb me cd D ad kI kS kL AA 5 0 0 QQ 22 [(4, .int (nI v)), (3, .int (nI (bs v (fun v_ => soB (tu τ 1 j v_) ρ)))), (2, .int (nI (tK τ j))), (0, .ref (ad 30)), (1, .int (nI j))] [] ν := by
      intro n22
      induction n22 with
      | zero => intro v ν hm22; exact absurd hm22 (Nat.not_lt_zero _)
      | succ n22 ih22 =>
        intro v ν hm22 hv hF
        refine y_iload CC 0 dX5_kinds_22 rfl ?_
        refine y_iconst CC (nI 3) dX5_kinds_24 (by decide) ?_
        refine z_icmp_ge CC 60 dX5_kinds_25 (by decide) (a := ((v : Nat) : Int)) (b := (3 : Int)) (nI_toInt (by omega)) (nI_toInt (by decide)) (fun c_4 => ?_) (fun c_4 => ?_)
        · skip
          refine y_aload_n CC 3 dX5_kinds_60 rfl rfl ?_
          refine y_getr CC gl_X5_13 (by omega) (d := 32) rfl dX5_kinds_61 ?_
          refine y_iload_n CC 4 dX5_kinds_64 rfl rfl ?_
          refine y_iload_n CC 2 dX5_kinds_65 rfl rfl ?_
          refine y_iastN CC (n := 4) (by omega) (by decide) (by omega) (by omega) dX5_kinds_66 ?_
          refine y_iload_n CC 1 dX5_kinds_67 rfl rfl ?_
          exact y_iret CC hQ dX5_kinds_68 (⟨mu_back hF (hM.2.2.1 j (by omega)).1, by simp [q_kinds, b_1, ix_nI (show j < 2 ^ 31 by omega)]; rw [show v = 3 by omega]⟩)
        · skip
          refine y_aload_n CC 3 dX5_kinds_28 rfl rfl ?_
          refine y_getr CC gl_X5_13 (by omega) (d := 32) rfl dX5_kinds_29 ?_
          refine y_iload_n CC 4 dX5_kinds_32 rfl rfl ?_
          refine y_iload CC 0 dX5_kinds_33 rfl ?_
          refine y_iastN CC (n := 4) (by omega) (by decide) (by omega) (by omega) dX5_kinds_35 ?_
          have hMs : TM (mu ν 32 j (nI v)) (tu τ 1 j v) := hM.kd hF v
          have hBs : tB (tu τ 1 j v) := tB_u hB (Or.inl ⟨rfl, by omega⟩)
          have e1_ : tP (tu τ 1 j v) = tP τ := by simp [tu]
          have e2_ : tS (tu τ 1 j v) = tS τ := by simp [tu]
          refine y_iload_n CC 1 dX5_kinds_36 rfl rfl ?_
          refine y_aload_n CC 3 dX5_kinds_37 rfl rfl ?_
          refine y_callVI (ci := 5) (st := [.int (nI (bs v (fun v_ => soB (tu τ 1 j v_) ρ)))]) CC cl_X5_195 (m_areSo l D ad kI kS kL (mu ν 32 j (nI v)) (tu τ 1 j v) hMs hBs (by omega) ρ (hR.same (by rw [mu_ne _ _ (Or.inl (by decide))]; exact hF _ _ (Or.inl (by decide))) (fun c_ k_ h1_ h2_ => by rw [mu_ne _ _ (Or.inl (by omega))]; exact hF _ _ (Or.inl (by omega)))) (by unfold rB; rw [e1_, e2_]; exact hrb)) (by omega) rfl rfl rfl (Nat.le_of_ble_eq_true rfl) ⟨by decide, by decide⟩ ⟨Nat.zero_le _, Nat.zero_le _⟩ dX5_kinds_38 (fun r_ μ_ w_6 => ?_)
          rcases w_6 with ⟨rfl, ⟨b_5, rfl⟩ | ⟨b_5, rfl⟩⟩
          · skip
            refine z_if_eqF CC 51 dX5_kinds_41 (by decide) (a := (1 : Int)) (nI_toInt (by decide)) (by decide) ?_
            refine y_iconst CC (nI 1) dX5_kinds_44 (by decide) ?_
            refine y_iload CC 0 dX5_kinds_45 rfl ?_
            refine y_ishl CC dX5_kinds_47 (v := nI (2 ^ v)) (i_sh1 (by omega)) ?_
            refine y_goto CC 52 dX5_kinds_48 (by decide) ?_
            refine y_ior CC dX5_kinds_52 (v := nI (bs (v + 1) (fun v_ => soB (tu τ 1 j v_) ρ))) ((i_or _ _).trans (by rw [bs, if_pos b_5])) ?_
            refine y_istore_n CC [(3, .int (nI (bs (v + 1) (fun v_ => soB (tu τ 1 j v_) ρ)))), (4, .int (nI v)), (2, .int (nI (tK τ j))), (0, .ref (ad 30)), (1, .int (nI j))] dX5_kinds_53 rfl (by decide) rfl ?_
            refine y_iinc CC 1 (nI (v + 1)) [(4, .int (nI (v + 1))), (3, .int (nI (bs (v + 1) (fun v_ => soB (tu τ 1 j v_) ρ)))), (2, .int (nI (tK τ j))), (0, .ref (ad 30)), (1, .int (nI j))] dX5_kinds_54 rfl (i_inc _) (by decide) rfl ?_
            refine y_goto CC 22 dX5_kinds_57 (by decide) ?_
            exact ih22 (v + 1) (mu ν 32 j (nI v)) (by omega) (by omega) (FR_mu hF)
          · skip
            refine z_if_eqT CC 51 dX5_kinds_41 (by decide) (a := (0 : Int)) (nI_toInt (by decide)) (by decide) ?_
            refine y_iconst CC (nI 0) dX5_kinds_51 (by decide) ?_
            refine y_ior CC dX5_kinds_52 (v := nI (bs (v + 1) (fun v_ => soB (tu τ 1 j v_) ρ))) ((i_or _ _).trans (by rw [bs, if_neg (by rw [b_5]; decide)])) ?_
            refine y_istore_n CC [(3, .int (nI (bs (v + 1) (fun v_ => soB (tu τ 1 j v_) ρ)))), (4, .int (nI v)), (2, .int (nI (tK τ j))), (0, .ref (ad 30)), (1, .int (nI j))] dX5_kinds_53 rfl (by decide) rfl ?_
            refine y_iinc CC 1 (nI (v + 1)) [(4, .int (nI (v + 1))), (3, .int (nI (bs (v + 1) (fun v_ => soB (tu τ 1 j v_) ρ)))), (2, .int (nI (tK τ j))), (0, .ref (ad 30)), (1, .int (nI j))] dX5_kinds_54 rfl (i_inc _) (by decide) rfl ?_
            refine y_goto CC 22 dX5_kinds_57 (by decide) ?_
            exact ih22 (v + 1) (mu ν 32 j (nI v)) (by omega) (by omega) (FR_mu hF)
    exact L22 _ 0 μ (Nat.lt_succ_self _) (Nat.zero_le _) (fun _ _ _ => rfl)

set_option maxRecDepth 100000 in
set_option maxHeartbeats 4000000 in
theorem m_starts (l : Launch) (D : va_G) (ad : Nat → Nat) (kI kS kL : ClassId) (μ : Mem) (τ : Tn) (hM : TM μ τ) (hV : tV τ) (ρ : Tn) (hR : RM μ ρ) (hrb : rB τ ρ) (a : Int32) : MI l D ad kI kS kL yX5_starts cX5_starts 5 (some .int) 2 46 [.ref (ad 30), .int a] μ (fun r μ2 => μ = μ2 ∧ r = q_starts τ ρ a) := by
  refine met_I RX5 rfl (by decide) (lv := [(0, .ref (ad 30)), (1, .int a)]) rfl (Nat.le_of_ble_eq_true rfl) ?_
  intro pp ee ss mm aa bb me cd AA hA0 CC hnm QQ hQ
  have hB := hV.1
  have hP9 : tP τ ≤ 9 := hB.1
  have hS4 : tS τ ≤ 4 := hB.2.1
  have hVc := hV.2.1
  have hR8 := hrb.1
  refine y_aload_n CC 0 dX5_starts_0 rfl rfl ?_
  refine y_iload_n CC 1 dX5_starts_1 rfl rfl ?_
  refine y_callVI (ci := 5) (st := []) CC cl_X5_131 (m_noSleeper l D ad kI kS kL μ τ hM hB a) (by omega) rfl rfl rfl (Nat.le_of_ble_eq_true rfl) ⟨by decide, by decide⟩ ⟨Nat.zero_le _, Nat.zero_le _⟩ dX5_starts_2 (fun r_ μ_ w_2 => ?_)
  rcases w_2 with ⟨rfl, ⟨b_1, rfl⟩ | ⟨b_1, rfl⟩⟩
  · skip
    refine z_if_eqF CC 10 dX5_starts_5 (by decide) (a := (1 : Int)) (nI_toInt (by decide)) (by decide) ?_
    refine y_iconst CC ((-1)) dX5_starts_8 (by decide) ?_
    exact y_iret CC hQ dX5_starts_9 (⟨rfl, by simp [q_starts, b_1]⟩)
  · skip
    obtain ⟨j, hj, rfl⟩ := inB_of b_1 (by omega)
    refine z_if_eqT CC 10 dX5_starts_5 (by decide) (a := (0 : Int)) (nI_toInt (by decide)) (by decide) ?_
    have hkb := hB.2.2.1 j (by omega)
    refine y_aload_n CC 0 dX5_starts_10 rfl rfl ?_
    refine y_getr CC gl_X5_16 (by omega) (d := 33) rfl dX5_starts_11 ?_
    refine y_iload_n CC 1 dX5_starts_14 rfl rfl ?_
    refine y_ialdN CC (n := 4) (by omega) (by decide) (by omega) (by omega) (v := nI (tA τ j)) (hM.2.2.1 j (by omega)).2.1 dX5_starts_15 ?_
    refine y_istore_n CC [(2, .int (nI (tA τ j))), (0, .ref (ad 30)), (1, .int (nI j))] dX5_starts_16 rfl (by decide) rfl ?_
    refine y_iconst CC (nI 0) dX5_starts_17 (by decide) ?_
    refine y_istore_n CC [(3, .int (nI 0)), (2, .int (nI (tA τ j))), (0, .ref (ad 30)), (1, .int (nI j))] dX5_starts_18 rfl (by decide) rfl ?_
    refine y_iconst CC (nI 0) dX5_starts_19 (by decide) ?_
    refine y_istore CC [(4, .int (nI 0)), (3, .int (nI 0)), (2, .int (nI (tA τ j))), (0, .ref (ad 30)), (1, .int (nI j))] dX5_starts_20 (by decide) rfl ?_
    have L22 : ∀ (n22 : Nat) (v : Nat) (ν : Mem), tP τ - v < n22 → (v ≤ tP τ) → (∀ c1 k1, c1 ≠ 33 ∨ k1 ≠ j → ν c1 k1 = μ c1 k1) → Y pp l ee (rmY 2 46) ss mm aa bb me cd D ad kI kS kL AA 5 0 0 QQ 22 [(4, .int (nI v)), (3, .int (nI (bs v (fun v_ => soB (tu τ 2 j v_) ρ)))), (2, .int (nI (tA τ j))), (0, .ref (ad 30)), (1, .int (nI j))] [] ν := by
      intro n22
      induction n22 with
      | zero => intro v ν hm22; exact absurd hm22 (Nat.not_lt_zero _)
      | succ n22 ih22 =>
        intro v ν hm22 hv hF
        have hMν1 : ν 30 1 = nI (tP τ) := (hF 30 1 (Or.inl (by decide))).trans hM.1
        refine y_iload CC 0 dX5_starts_22 rfl ?_
        refine y_aload_n CC 3 dX5_starts_24 rfl rfl ?_
        refine y_geti CC gl_X5_71 (by omega) rfl (v := nI (tP τ)) hMν1 dX5_starts_25 ?_
        refine z_icmp_ge CC 63 dX5_starts_28 (by decide) (a := ((v : Nat) : Int)) (b := ((tP τ : Nat) : Int)) (nI_toInt (by omega)) (nI_toInt (by omega)) (fun c_4 => ?_) (fun c_4 => ?_)
        · skip
          refine y_aload_n CC 3 dX5_starts_63 rfl rfl ?_
          refine y_getr CC gl_X5_16 (by omega) (d := 33) rfl dX5_starts_64 ?_
          refine y_iload_n CC 4 dX5_starts_67 rfl rfl ?_
          refine y_iload_n CC 2 dX5_starts_68 rfl rfl ?_
          refine y_iastN CC (n := 4) (by omega) (by decide) (by omega) (by omega) dX5_starts_69 ?_
          refine y_iload_n CC 1 dX5_starts_70 rfl rfl ?_
          exact y_iret CC hQ dX5_starts_71 (⟨mu_back hF (hM.2.2.1 j (by omega)).2.1, by simp [q_starts, b_1, ix_nI (show j < 2 ^ 31 by omega)]; rw [show v = tP τ by omega]⟩)
        · skip
          refine y_aload_n CC 3 dX5_starts_31 rfl rfl ?_
          refine y_getr CC gl_X5_16 (by omega) (d := 33) rfl dX5_starts_32 ?_
          refine y_iload_n CC 4 dX5_starts_35 rfl rfl ?_
          refine y_iload CC 0 dX5_starts_36 rfl ?_
          refine y_iastN CC (n := 4) (by omega) (by decide) (by omega) (by omega) dX5_starts_38 ?_
          have hMs : TM (mu ν 33 j (nI v)) (tu τ 2 j v) := hM.sa hF v
          have hBs : tB (tu τ 2 j v) := tB_u hB (Or.inr ⟨Or.inl rfl, by omega⟩)
          have e1_ : tP (tu τ 2 j v) = tP τ := by simp [tu]
          have e2_ : tS (tu τ 2 j v) = tS τ := by simp [tu]
          refine y_iload_n CC 1 dX5_starts_39 rfl rfl ?_
          refine y_aload_n CC 3 dX5_starts_40 rfl rfl ?_
          refine y_callVI (ci := 5) (st := [.int (nI (bs v (fun v_ => soB (tu τ 2 j v_) ρ)))]) CC cl_X5_195 (m_areSo l D ad kI kS kL (mu ν 33 j (nI v)) (tu τ 2 j v) hMs hBs (by omega) ρ (hR.same (by rw [mu_ne _ _ (Or.inl (by decide))]; exact hF _ _ (Or.inl (by decide))) (fun c_ k_ h1_ h2_ => by rw [mu_ne _ _ (Or.inl (by omega))]; exact hF _ _ (Or.inl (by omega)))) (by unfold rB; rw [e1_, e2_]; exact hrb)) (by omega) rfl rfl rfl (Nat.le_of_ble_eq_true rfl) ⟨by decide, by decide⟩ ⟨Nat.zero_le _, Nat.zero_le _⟩ dX5_starts_41 (fun r_ μ_ w_6 => ?_)
          rcases w_6 with ⟨rfl, ⟨b_5, rfl⟩ | ⟨b_5, rfl⟩⟩
          · skip
            refine z_if_eqF CC 54 dX5_starts_44 (by decide) (a := (1 : Int)) (nI_toInt (by decide)) (by decide) ?_
            refine y_iconst CC (nI 1) dX5_starts_47 (by decide) ?_
            refine y_iload CC 0 dX5_starts_48 rfl ?_
            refine y_ishl CC dX5_starts_50 (v := nI (2 ^ v)) (i_sh1 (by omega)) ?_
            refine y_goto CC 55 dX5_starts_51 (by decide) ?_
            refine y_ior CC dX5_starts_55 (v := nI (bs (v + 1) (fun v_ => soB (tu τ 2 j v_) ρ))) ((i_or _ _).trans (by rw [bs, if_pos b_5])) ?_
            refine y_istore_n CC [(3, .int (nI (bs (v + 1) (fun v_ => soB (tu τ 2 j v_) ρ)))), (4, .int (nI v)), (2, .int (nI (tA τ j))), (0, .ref (ad 30)), (1, .int (nI j))] dX5_starts_56 rfl (by decide) rfl ?_
            refine y_iinc CC 1 (nI (v + 1)) [(4, .int (nI (v + 1))), (3, .int (nI (bs (v + 1) (fun v_ => soB (tu τ 2 j v_) ρ)))), (2, .int (nI (tA τ j))), (0, .ref (ad 30)), (1, .int (nI j))] dX5_starts_57 rfl (i_inc _) (by decide) rfl ?_
            refine y_goto CC 22 dX5_starts_60 (by decide) ?_
            exact ih22 (v + 1) (mu ν 33 j (nI v)) (by omega) (by omega) (FR_mu hF)
          · skip
            refine z_if_eqT CC 54 dX5_starts_44 (by decide) (a := (0 : Int)) (nI_toInt (by decide)) (by decide) ?_
            refine y_iconst CC (nI 0) dX5_starts_54 (by decide) ?_
            refine y_ior CC dX5_starts_55 (v := nI (bs (v + 1) (fun v_ => soB (tu τ 2 j v_) ρ))) ((i_or _ _).trans (by rw [bs, if_neg (by rw [b_5]; decide)])) ?_
            refine y_istore_n CC [(3, .int (nI (bs (v + 1) (fun v_ => soB (tu τ 2 j v_) ρ)))), (4, .int (nI v)), (2, .int (nI (tA τ j))), (0, .ref (ad 30)), (1, .int (nI j))] dX5_starts_56 rfl (by decide) rfl ?_
            refine y_iinc CC 1 (nI (v + 1)) [(4, .int (nI (v + 1))), (3, .int (nI (bs (v + 1) (fun v_ => soB (tu τ 2 j v_) ρ)))), (2, .int (nI (tA τ j))), (0, .ref (ad 30)), (1, .int (nI j))] dX5_starts_57 rfl (i_inc _) (by decide) rfl ?_
            refine y_goto CC 22 dX5_starts_60 (by decide) ?_
            exact ih22 (v + 1) (mu ν 33 j (nI v)) (by omega) (by omega) (FR_mu hF)
    exact L22 _ 0 μ (Nat.lt_succ_self _) (Nat.zero_le _) (fun _ _ _ => rfl)

set_option maxRecDepth 100000 in
set_option maxHeartbeats 4000000 in
theorem m_share (l : Launch) (D : va_G) (ad : Nat → Nat) (kI kS kL : ClassId) (μ : Mem) (u d : Nat) (w0 : Int32) (hu : u ≤ 16) (hd : d ≤ 16) (hd0 : 0 < d) : ML l D ad kI kS kL yX5_share cX5_share 11 (some .long) 0 0 [.long (lN u), .long (lN d), .int w0] μ (fun r μ2 => μ = μ2 ∧ r = lN ((if w0.toInt = 0 then u else d) / Nat.gcd u d)) := by
  refine met_L RX5 rfl (by decide) (lv := [(0, .long (lN u)), (2, .long (lN d)), (4, .int w0)]) rfl (Nat.le_of_ble_eq_true rfl) ?_
  intro pp ee ss mm aa bb me cd AA hA0 CC hnm QQ hQ
  refine y_lload_n CC 0 dX5_share_0 rfl rfl ?_
  refine y_lstore CC [(5, .long (lN u)), (0, .long (lN u)), (2, .long (lN d)), (4, .int w0)] dX5_share_1 (by decide) rfl ?_
  refine y_lload_n CC 2 dX5_share_3 rfl rfl ?_
  refine y_lstore CC [(7, .long (lN d)), (5, .long (lN u)), (0, .long (lN u)), (2, .long (lN d)), (4, .int w0)] dX5_share_4 (by decide) rfl ?_
  have L6 : ∀ (n6 : Nat) (a : Nat) (b : Nat), b < n6 → (a ≤ 16) → (b ≤ 16) → (0 < a ∨ 0 < b) → (Nat.gcd a b = Nat.gcd u d) → Y pp l ee (rmY 0 0) ss mm aa bb me cd D ad kI kS kL AA 11 0 0 QQ 6 [(7, .long (lN b)), (5, .long (lN a)), (0, .long (lN u)), (2, .long (lN d)), (4, .int w0)] [] μ := by
    intro n6
    induction n6 with
    | zero => intro a b hm6; exact absurd hm6 (Nat.not_lt_zero _)
    | succ n6 ih6 =>
      intro a b hm6 ha hb hab0 hg
      refine y_lload CC 0 dX5_share_6 rfl ?_
      refine y_lconst CC 0 dX5_share_8 rfl ?_
      refine y_lcmp CC dX5_share_9 (v := lg_cmp (lN b) 0) rfl ?_
      refine z_if_eq CC 31 dX5_share_10 (by decide) (a := (lg_cmp (lN b) 0).toInt) rfl (fun c_2 => ?_) (fun c_2 => ?_)
      · skip
        rw [lc_eq (a := ((b : Nat) : Int)) (b := (0 : Int)) (pk_lT (by omega)) (by decide)] at c_2
        obtain rfl : b = 0 := by omega
        rw [Nat.gcd_zero_right] at hg
        refine y_iload CC 4 dX5_share_31 rfl ?_
        refine z_if_ne CC 40 dX5_share_33 (by decide) (a := (w0).toInt) rfl (fun c_3 => ?_) (fun c_3 => ?_)
        · skip
          have hw0_ : ¬ w0.toInt = 0 := by omega
          refine y_lload_n CC 3 dX5_share_40 rfl rfl ?_
          refine y_lload CC 1 dX5_share_41 rfl ?_
          refine y_ldiv CC dX5_share_43 (l_ne0 (by omega) (by omega)) (v := lN (d / a)) (pk_lDiv (by omega) (by omega) (by omega)) ?_
          exact y_lret CC hQ dX5_share_44 (⟨rfl, by first | rw [if_pos hw0_, hg] | rw [if_neg hw0_, hg]⟩)
        · skip
          have hw0_ : w0.toInt = 0 := by omega
          refine y_lload_n CC 2 dX5_share_36 rfl rfl ?_
          refine y_goto CC 41 dX5_share_37 (by decide) ?_
          refine y_lload CC 1 dX5_share_41 rfl ?_
          refine y_ldiv CC dX5_share_43 (l_ne0 (by omega) (by omega)) (v := lN (u / a)) (pk_lDiv (by omega) (by omega) (by omega)) ?_
          exact y_lret CC hQ dX5_share_44 (⟨rfl, by first | rw [if_pos hw0_, hg] | rw [if_neg hw0_, hg]⟩)
      · skip
        rw [lc_eq (a := ((b : Nat) : Int)) (b := (0 : Int)) (pk_lT (by omega)) (by decide)] at c_2
        refine y_lload CC 1 dX5_share_13 rfl ?_
        refine y_lload CC 0 dX5_share_15 rfl ?_
        refine y_lrem CC dX5_share_17 (l_ne0 (by omega) (by omega)) (v := lN (a % b)) (pk_lRem (by omega) (by omega) (by omega)) ?_
        refine y_lstore CC [(9, .long (lN (a % b))), (7, .long (lN b)), (5, .long (lN a)), (0, .long (lN u)), (2, .long (lN d)), (4, .int w0)] dX5_share_18 (by decide) rfl ?_
        refine y_lload CC 1 dX5_share_20 rfl ?_
        refine y_lstore CC [(5, .long (lN b)), (9, .long (lN (a % b))), (7, .long (lN b)), (0, .long (lN u)), (2, .long (lN d)), (4, .int w0)] dX5_share_22 (by decide) rfl ?_
        refine y_lload CC 1 dX5_share_24 rfl ?_
        refine y_lstore CC [(7, .long (lN (a % b))), (5, .long (lN b)), (9, .long (lN (a % b))), (0, .long (lN u)), (2, .long (lN d)), (4, .int w0)] dX5_share_26 (by decide) rfl ?_
        refine y_goto CC 6 dX5_share_28 (by decide) ?_
        refine y_lv [0, 1, 3, 4, 5] rfl ?_
        exact ih6 b (a % b) (by have := Nat.mod_lt a (show 0 < b by omega); omega) hb (by have := Nat.mod_lt a (show 0 < b by omega); omega) (Or.inl (by omega)) (by rw [Nat.gcd_comm, ← Nat.gcd_rec, Nat.gcd_comm]; exact hg)
  exact L6 _ u d (Nat.lt_succ_self _) hu hd (Or.inr hd0) rfl
