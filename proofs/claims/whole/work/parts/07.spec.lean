/-! what a town is: rows of whole numbers: 0: places, sleepers; 1 kinds, 2 starts, 3 strides of sleepers; 4 goods of places -/
abbrev Tn : Type := Nat → Nat → Nat
abbrev tP (τ : Tn) : Nat := τ 0 0
abbrev tS (τ : Tn) : Nat := τ 0 1
abbrev tK (τ : Tn) (a : Nat) : Nat := τ 1 a
abbrev tA (τ : Tn) (a : Nat) : Nat := τ 2 a
abbrev tD (τ : Tn) (a : Nat) : Nat := τ 3 a
abbrev tG (τ : Tn) (p : Nat) : Nat := τ 4 p
def tu (τ : Tn) (r i v : Nat) : Tn := fun r' i' => if r' = r ∧ i' = i then v else τ r' i'
theorem tu_at (τ : Tn) (r i v : Nat) : tu τ r i v r i = v := by simp [tu]
theorem tu_r (τ : Tn) {r r' i : Nat} (i' v : Nat) (h : r' ≠ r) : tu τ r i v r' i' = τ r' i' := by simp [tu, h]
theorem tu_i (τ : Tn) {r r' i i' : Nat} (v : Nat) (h : i' ≠ i) : tu τ r i v r' i' = τ r' i' := by simp [tu, h]
/-- what holds of a town that stands (also of one half read) -/
def tB (τ : Tn) : Prop := tP τ ≤ 9 ∧ tS τ ≤ 4 ∧ (∀ a, a < 4 → tK τ a ≤ 2 ∧ tA τ a ≤ 9 ∧ tD τ a ≤ 9) ∧ ∀ p, p < 9 → tG τ p ≤ 9
/-- .. of one that is taken -/
def tV (τ : Tn) : Prop := tB τ ∧ ((tP τ = 0 ∧ tS τ = 0) ∨ (3 ≤ tP τ ∧ 1 ≤ tS τ)) ∧ ∀ a, a < tS τ → tA τ a < tP τ ∧ tD τ a ≤ 3
def gone (k d m : Nat) : Nat := if k = 1 then m * (d + 1) else if k = 2 then (m + 1) / 2 * 2 * (d + 1) else m * d
theorem gone_le {k d m : Nat} (hd : d ≤ 9) (hm : m ≤ 61) : gone k d m ≤ 620 := by
  have h1 : m * (d + 1) ≤ 61 * 10 := Nat.mul_le_mul hm (by omega)
  have h2 : (m + 1) / 2 * 2 * (d + 1) ≤ 62 * 10 := Nat.mul_le_mul (by omega) (by omega)
  have h3 : m * d ≤ 61 * 9 := Nat.mul_le_mul hm hd
  unfold gone
  split
  · omega
  · split <;> omega
/-- where one would be, were he as told -/
def pif (τ : Tn) (k st d m : Nat) : Nat := (st + gone k d m) % tP τ
def pl (τ : Tn) (a m : Nat) : Nat := pif τ (tK τ a) (tA τ a) (tD τ a) m
theorem pif_lt {τ : Tn} (h : 0 < tP τ) (k st d m : Nat) : pif τ k st d m < tP τ := Nat.mod_lt _ h
theorem pl_lt {τ : Tn} (h : 0 < tP τ) (a m : Nat) : pl τ a m < tP τ := pif_lt h _ _ _ _
def after (P p act : Nat) : Nat := if act = 1 then (p + 1) % P else if act = 2 then (p + P - 1) % P else p
theorem after_lt {P p act : Nat} (h : p < P) : after P p act < P := by
  unfold after
  split
  · exact Nat.mod_lt _ (by omega)
  · split
    · exact Nat.mod_lt _ (by omega)
    · exact h
/-- the class's town at cell c -/
def TX (μ : Mem) (c : Nat) (τ : Tn) : Prop := μ c 4 = nI (tP τ) ∧ μ c 3 = nI (tS τ) ∧ (∀ a, a < 4 → μ (4 * c + 18 + a) 0 = nI (tK τ a) ∧ μ (4 * c + 18 + a) 1 = nI (tA τ a) ∧ μ (4 * c + 18 + a) 2 = nI (tD τ a)) ∧ ∀ p, p < 9 → μ (c + 6) p = nI (tG τ p)
/-- the reference's -/
def TM (μ : Mem) (τ : Tn) : Prop := μ 30 1 = nI (tP τ) ∧ μ 30 3 = nI (tS τ) ∧ (∀ a, a < tS τ → μ 32 a = nI (tK τ a) ∧ μ 33 a = nI (tA τ a) ∧ μ 34 a = nI (tD τ a)) ∧ ∀ p, p < tP τ → μ 31 p = nI (tG τ p)
theorem TX.same {μ μ' : Mem} {c : Nat} {τ : Tn} (h : TX μ c τ) (h1 : ∀ k, k ≤ 4 → μ' c k = μ c k) (h2 : ∀ a k, a < 4 → μ' (4 * c + 18 + a) k = μ (4 * c + 18 + a) k) (h3 : ∀ p, μ' (c + 6) p = μ (c + 6) p) : TX μ' c τ :=
  ⟨by rw [h1 4 (by omega)]; exact h.1, by rw [h1 3 (by omega)]; exact h.2.1, fun a ha => by rw [h2 a 0 ha, h2 a 1 ha, h2 a 2 ha]; exact h.2.2.1 a ha, fun p hp => by rw [h3 p]; exact h.2.2.2 p hp⟩
theorem TM.same {μ μ' : Mem} {τ : Tn} (h : TM μ τ) (h1 : μ' 30 1 = μ 30 1) (h2 : μ' 30 3 = μ 30 3) (h3 : ∀ c k, 31 ≤ c → c ≤ 34 → μ' c k = μ c k) : TM μ' τ :=
  ⟨by rw [h1]; exact h.1, by rw [h2]; exact h.2.1, fun a ha => by rw [h3 32 a (by omega) (by omega), h3 33 a (by omega) (by omega), h3 34 a (by omega) (by omega)]; exact h.2.2.1 a ha, fun p hp => by rw [h3 31 p (by omega) (by omega)]; exact h.2.2.2 p hp⟩
