/-! A TEXT, read code by code. A town half read: besides places and sleepers (0 0, 0 1): goods read (0 2), the part (0 3: 0 z, 1 places, 2 break, 3 kind, 4 start, 5 stride, 6 goods, 7 end) -/
def dgN (x : Int32) : Nat := if 48 ≤ x.toInt ∧ x.toInt ≤ 57 then (x.toInt - 48).toNat else 99
def kdN (x : Int32) : Nat := if x.toInt = 115 then 0 else if x.toInt = 109 then 1 else 2
def pZ (τ : Tn) (x : Int32) : Option Tn := if x.toInt = 122 then some (tu τ 0 3 1) else none
def pP (τ : Tn) (x : Int32) : Option Tn := if 3 ≤ dgN x ∧ dgN x ≤ 9 then some (tu (tu τ 0 0 (dgN x)) 0 3 2) else none
def pK1 (τ : Tn) (x : Int32) : Option Tn := if x.toInt = 59 ∧ τ 0 1 < 4 then some (tu (tu τ 0 1 (τ 0 1 + 1)) 0 3 3) else if x.toInt = 47 ∧ 0 < τ 0 1 then some (tu τ 0 3 6) else none
def pK (τ : Tn) (x : Int32) : Option Tn := if x.toInt = 115 ∨ x.toInt = 109 ∨ x.toInt = 114 then some (tu (tu τ 1 (τ 0 1 - 1) (kdN x)) 0 3 4) else none
def pS (τ : Tn) (x : Int32) : Option Tn := if dgN x < τ 0 0 then some (tu (tu τ 2 (τ 0 1 - 1) (dgN x)) 0 3 5) else none
def pD (τ : Tn) (x : Int32) : Option Tn := if dgN x ≤ 3 then some (tu (tu τ 3 (τ 0 1 - 1) (dgN x)) 0 3 2) else none
def pG (τ : Tn) (x : Int32) : Option Tn := if dgN x ≤ 9 then some (tu (tu (tu τ 4 (τ 0 2) (dgN x)) 0 2 (τ 0 2 + 1)) 0 3 (if τ 0 2 + 1 < τ 0 0 then 6 else 7)) else none
def pst (τ : Tn) (x : Int32) : Option Tn := if τ 0 3 = 0 then pZ τ x else if τ 0 3 = 1 then pP τ x else if τ 0 3 = 2 then pK1 τ x else if τ 0 3 = 3 then pK τ x else if τ 0 3 = 4 then pS τ x else if τ 0 3 = 5 then pD τ x else if τ 0 3 = 6 then pG τ x else none
def tz (τ : Tn) : Tn := fun r i => if r = 0 then 0 else τ r i
def pr (τ : Tn) (f : Nat → Int32) : Nat → Option Tn
  | 0 => some (tz τ)
  | k + 1 => match pr τ f k with
    | none => none
    | some t => pst t (f k)
def pcn (τ : Tn) : Nat := if τ 0 3 = 3 ∨ τ 0 3 = 4 ∨ τ 0 3 = 5 then τ 0 1 - 1 else τ 0 1
def pB (τ : Tn) : Prop := tB τ ∧ τ 0 3 ≤ 7 ∧ (3 ≤ τ 0 3 → 1 ≤ τ 0 1) ∧ (2 ≤ τ 0 3 → 3 ≤ τ 0 0) ∧ (τ 0 3 = 6 → τ 0 2 < τ 0 0) ∧ (τ 0 3 ≤ 5 → τ 0 2 = 0) ∧ (τ 0 3 ≤ 1 → τ 0 1 = 0) ∧ (∀ a, a < pcn τ → τ 2 a < τ 0 0 ∧ τ 3 a ≤ 3) ∧ (τ 0 3 = 5 → τ 2 (τ 0 1 - 1) < τ 0 0)
def TXR (μ : Mem) (c : Nat) (τ : Tn) : Prop := TX μ c τ ∧ μ c 5 = nI (τ 0 2) ∧ μ c 6 = nI (τ 0 3)
def TF (c : Nat) (μ ν : Mem) : Prop := ∀ c1 k1, c1 ≠ c → c1 ≠ c + 6 → (c1 < 4 * c + 18 ∨ 4 * c + 22 ≤ c1) → ν c1 k1 = μ c1 k1
theorem TF.rf {c : Nat} {μ : Mem} : TF c μ μ := fun _ _ _ _ _ => rfl
theorem TF.mu {c c2 : Nat} {μ ν : Mem} (h : TF c μ ν) (k : Nat) (v : Int32) (hc : c2 = c ∨ c2 = c + 6 ∨ (4 * c + 18 ≤ c2 ∧ c2 < 4 * c + 22)) : TF c μ (mu ν c2 k v) := fun c1 k1 h1 h2 h3 => by
  rw [mu_ne _ _ (Or.inl (by omega))]
  exact h c1 k1 h1 h2 h3
theorem TF.tr {c : Nat} {μ ν ξ : Mem} (h : TF c μ ν) (h2 : TF c ν ξ) : TF c μ ξ := fun c1 k1 a1 a2 a3 => (h2 c1 k1 a1 a2 a3).trans (h c1 k1 a1 a2 a3)
section TXRS
variable {μ : Mem} {c : Nat} {τ : Tn}
theorem TXR.f3 (h : TXR μ c τ) (hc : 1 ≤ c ∧ c ≤ 2) (v : Nat) : TXR (mu μ c 3 (nI v)) c (tu τ 0 1 v) :=
  ⟨⟨by rw [mu_k _ _ (by decide)]; simpa [tu] using h.1.1, by rw [mu_at]; simp [tu], fun a ha => by
    rw [mu_ne _ _ (Or.inl (by omega)), mu_ne _ _ (Or.inl (by omega)), mu_ne _ _ (Or.inl (by omega))]; simpa [tu] using h.1.2.2.1 a ha, fun p hp => by
    rw [mu_ne _ _ (Or.inl (by omega))]; simpa [tu] using h.1.2.2.2 p hp⟩, by rw [mu_k _ _ (by decide)]; simpa [tu] using h.2.1, by rw [mu_k _ _ (by decide)]; simpa [tu] using h.2.2⟩
theorem TXR.f4 (h : TXR μ c τ) (hc : 1 ≤ c ∧ c ≤ 2) (v : Nat) : TXR (mu μ c 4 (nI v)) c (tu τ 0 0 v) :=
  ⟨⟨by rw [mu_at]; simp [tu], by rw [mu_k _ _ (by decide)]; simpa [tu] using h.1.2.1, fun a ha => by
    rw [mu_ne _ _ (Or.inl (by omega)), mu_ne _ _ (Or.inl (by omega)), mu_ne _ _ (Or.inl (by omega))]; simpa [tu] using h.1.2.2.1 a ha, fun p hp => by
    rw [mu_ne _ _ (Or.inl (by omega))]; simpa [tu] using h.1.2.2.2 p hp⟩, by rw [mu_k _ _ (by decide)]; simpa [tu] using h.2.1, by rw [mu_k _ _ (by decide)]; simpa [tu] using h.2.2⟩
theorem TXR.f5 (h : TXR μ c τ) (hc : 1 ≤ c ∧ c ≤ 2) (v : Nat) : TXR (mu μ c 5 (nI v)) c (tu τ 0 2 v) :=
  ⟨⟨by rw [mu_k _ _ (by decide)]; simpa [tu] using h.1.1, by rw [mu_k _ _ (by decide)]; simpa [tu] using h.1.2.1, fun a ha => by
    rw [mu_ne _ _ (Or.inl (by omega)), mu_ne _ _ (Or.inl (by omega)), mu_ne _ _ (Or.inl (by omega))]; simpa [tu] using h.1.2.2.1 a ha, fun p hp => by
    rw [mu_ne _ _ (Or.inl (by omega))]; simpa [tu] using h.1.2.2.2 p hp⟩, by rw [mu_at]; simp [tu], by rw [mu_k _ _ (by decide)]; simpa [tu] using h.2.2⟩
theorem TXR.f6 (h : TXR μ c τ) (hc : 1 ≤ c ∧ c ≤ 2) (v : Nat) : TXR (mu μ c 6 (nI v)) c (tu τ 0 3 v) :=
  ⟨⟨by rw [mu_k _ _ (by decide)]; simpa [tu] using h.1.1, by rw [mu_k _ _ (by decide)]; simpa [tu] using h.1.2.1, fun a ha => by
    rw [mu_ne _ _ (Or.inl (by omega)), mu_ne _ _ (Or.inl (by omega)), mu_ne _ _ (Or.inl (by omega))]; simpa [tu] using h.1.2.2.1 a ha, fun p hp => by
    rw [mu_ne _ _ (Or.inl (by omega))]; simpa [tu] using h.1.2.2.2 p hp⟩, by rw [mu_k _ _ (by decide)]; simpa [tu] using h.2.1, by rw [mu_at]; simp [tu]⟩
theorem tu_if {τ : Tn} {r i v r' i' : Nat} : tu τ r i v r' i' = if r' = r ∧ i' = i then v else τ r' i' := rfl
theorem mu_if {μ : Mem} {c k : Nat} {v : Int32} {c' k' : Nat} : mu μ c k v c' k' = if c' = c ∧ k' = k then v else μ c' k' := by
  by_cases h : c' = c ∧ k' = k
  · obtain ⟨rfl, rfl⟩ := h; rw [mu_at, if_pos ⟨rfl, rfl⟩]
  · rw [if_neg h]; exact mu_ne _ _ (by omega)
theorem TXR.sl (h : TXR μ c τ) (hc : 1 ≤ c ∧ c ≤ 2) {a : Nat} (ha : a < 4) {k : Nat} (hk : k < 3) (v : Nat) : TXR (mu μ (4 * c + 18 + a) k (nI v)) c (tu τ (k + 1) a v) := by
  refine ⟨⟨?_, ?_, fun b hb => ?_, fun p hp => ?_⟩, ?_, ?_⟩
  · rw [mu_ne _ _ (Or.inl (by omega))]; simpa [tu] using h.1.1
  · rw [mu_ne _ _ (Or.inl (by omega))]; simpa [tu] using h.1.2.1
  · obtain ⟨h1, h2, h3⟩ := h.1.2.2.1 b hb
    by_cases e : b = a
    · subst e
      rcases (show k = 0 ∨ k = 1 ∨ k = 2 by omega) with rfl | rfl | rfl
      · exact ⟨by rw [mu_at]; simp [tu], by rw [mu_k _ _ (by decide)]; simpa [tu] using h2, by rw [mu_k _ _ (by decide)]; simpa [tu] using h3⟩
      · exact ⟨by rw [mu_k _ _ (by decide)]; simpa [tu] using h1, by rw [mu_at]; simp [tu], by rw [mu_k _ _ (by decide)]; simpa [tu] using h3⟩
      · exact ⟨by rw [mu_k _ _ (by decide)]; simpa [tu] using h1, by rw [mu_k _ _ (by decide)]; simpa [tu] using h2, by rw [mu_at]; simp [tu]⟩
    · rw [mu_ne _ _ (Or.inl (by omega)), mu_ne _ _ (Or.inl (by omega)), mu_ne _ _ (Or.inl (by omega))]
      simp only [tK, tA, tD, tu_i _ _ e]
      exact ⟨h1, h2, h3⟩
  · rw [mu_ne _ _ (Or.inl (by omega)), tG, tu_r _ _ _ (by omega)]; exact h.1.2.2.2 p hp
  · rw [mu_ne _ _ (Or.inl (by omega)), tu_r _ _ _ (by omega)]; exact h.2.1
  · rw [mu_ne _ _ (Or.inl (by omega)), tu_r _ _ _ (by omega)]; exact h.2.2
theorem TXR.gd (h : TXR μ c τ) (hc : 1 ≤ c ∧ c ≤ 2) (q : Nat) (v : Nat) : TXR (mu μ (c + 6) q (nI v)) c (tu τ 4 q v) := by
  refine ⟨⟨?_, ?_, fun b hb => ?_, fun p hp => ?_⟩, ?_, ?_⟩
  · rw [mu_ne _ _ (Or.inl (by omega))]; simpa [tu] using h.1.1
  · rw [mu_ne _ _ (Or.inl (by omega))]; simpa [tu] using h.1.2.1
  · rw [mu_ne _ _ (Or.inl (by omega)), mu_ne _ _ (Or.inl (by omega)), mu_ne _ _ (Or.inl (by omega))]; simpa [tu] using h.1.2.2.1 b hb
  · by_cases e : p = q
    · subst e; rw [mu_at, tG, tu_at]
    · rw [mu_k _ _ e, tG, tu_i _ _ e]; exact h.1.2.2.2 p hp
  · rw [mu_ne _ _ (Or.inl (by omega))]; simpa [tu] using h.2.1
  · rw [mu_ne _ _ (Or.inl (by omega))]; simpa [tu] using h.2.2
end TXRS
theorem pB_0 {τ : Tn} (h : tB τ) : pB (tz τ) := by
  refine ⟨⟨by simp [tz], by simp [tz], fun a ha => by simpa [tz] using h.2.2.1 a ha, fun p hp => by simpa [tz] using h.2.2.2 p hp⟩, by simp [tz], by simp [tz], by simp [tz], by simp [tz], by simp [tz], by simp [tz], fun a ha => ?_, by simp [tz]⟩
  simp [pcn, tz] at ha
theorem dgN_le {x : Int32} : dgN x ≤ 9 ∨ dgN x = 99 := by
  unfold dgN
  split
  · left; omega
  · right; rfl
theorem kdN_le (x : Int32) : kdN x ≤ 2 := by unfold kdN; split; omega; split <;> omega
theorem pB_s {τ τ' : Tn} {x : Int32} (h : pB τ) (hs : pst τ x = some τ') : pB τ' := by
  obtain ⟨⟨b1, b2, b3, b4⟩, h2, h3, h4, h5, h6, h7, h8, h9⟩ := h
  unfold pst at hs
  split at hs
  · rename_i hp
    unfold pZ at hs
    split at hs
    · cases hs
      simp only [pB, tB, pcn, tP, tS, tK, tA, tD, tG, tu_if] at *
      simp [hp] at *
      exact ⟨⟨b1, b2, b3, b4⟩, h6, h7, h8⟩
    · cases hs
  · split at hs
    · rename_i _ hp
      unfold pP at hs
      split at hs
      · rename_i hd
        cases hs
        simp only [pB, tB, pcn, tP, tS, tK, tA, tD, tG, tu_if] at *
        simp [hp] at *
        exact ⟨⟨hd.2, b2, b3, b4⟩, hd.1, h6, by rw [h7]; intro a ha; omega⟩
      · cases hs
    · split at hs
      · rename_i _ _ hp
        unfold pK1 at hs
        split at hs
        · rename_i hd
          cases hs
          simp only [pB, tB, pcn, tP, tS, tK, tA, tD, tG, tu_if] at *
          simp [hp] at *
          exact ⟨⟨b1, by omega, b3, b4⟩, h4, h6, h8⟩
        · split at hs
          · rename_i hd
            cases hs
            simp only [pB, tB, pcn, tP, tS, tK, tA, tD, tG, tu_if] at *
            simp [hp] at *
            exact ⟨⟨b1, b2, b3, b4⟩, by omega, h4, by omega, h8⟩
          · cases hs
      · split at hs
        · rename_i _ _ _ hp
          unfold pK at hs
          split at hs
          · rename_i hd
            cases hs
            have hk := kdN_le x
            simp only [pB, tB, pcn, tP, tS, tK, tA, tD, tG, tu_if] at *
            simp [hp] at *
            refine ⟨⟨b1, b2, fun a ha => ⟨?_, (b3 a ha).2⟩, b4⟩, h3, h4, h6, h8⟩
            split
            · exact hk
            · exact (b3 a ha).1
          · cases hs
        · split at hs
          · rename_i _ _ _ _ hp
            unfold pS at hs
            split at hs
            · rename_i hd
              cases hs
              simp only [pB, tB, pcn, tP, tS, tK, tA, tD, tG, tu_if] at *
              simp [hp] at *
              refine ⟨⟨b1, b2, fun a ha => ⟨(b3 a ha).1, ?_, (b3 a ha).2.2⟩, b4⟩, h3, h4, h6, fun a ha => ⟨?_, (h8 a ha).2⟩, hd⟩
              · split
                · omega
                · exact (b3 a ha).2.1
              · rw [if_neg (by omega)]; exact (h8 a ha).1
            · cases hs
          · split at hs
            · rename_i _ _ _ _ _ hp
              unfold pD at hs
              split at hs
              · rename_i hd
                cases hs
                simp only [pB, tB, pcn, tP, tS, tK, tA, tD, tG, tu_if] at *
                simp [hp] at *
                refine ⟨⟨b1, b2, fun a ha => ⟨(b3 a ha).1, (b3 a ha).2.1, ?_⟩, b4⟩, h4, h6, fun a ha => ?_⟩
                · split
                  · omega
                  · exact (b3 a ha).2.2
                · by_cases e : a = τ 0 1 - 1
                  · rw [if_pos e, e]; exact ⟨h9, hd⟩
                  · rw [if_neg e]; exact h8 a (by omega)
              · cases hs
            · split at hs
              · rename_i _ _ _ _ _ _ hp
                unfold pG at hs
                split at hs
                · rename_i hd
                  cases hs
                  have b4' : ∀ p, p < 9 → tG (tu (tu (tu τ 4 (τ 0 2) (dgN x)) 0 2 (τ 0 2 + 1)) 0 3 (if τ 0 2 + 1 < τ 0 0 then 6 else 7)) p ≤ 9 := by
                    intro p hp9
                    simp only [tG, tu_if]
                    simp
                    split
                    · exact hd
                    · exact b4 p hp9
                  by_cases e : τ 0 2 + 1 < τ 0 0
                  · rw [if_pos e] at *
                    simp only [pB, tB, pcn, tP, tS, tK, tA, tD, tu_if] at *
                    simp [hp] at *
                    exact ⟨⟨b1, b2, b3, b4'⟩, h3, h4, e, h8⟩
                  · rw [if_neg e] at *
                    simp only [pB, tB, pcn, tP, tS, tK, tA, tD, tu_if] at *
                    simp [hp] at *
                    exact ⟨⟨b1, b2, b3, b4'⟩, h3, h4, h8⟩
                · cases hs
              · cases hs
theorem pr_B {τ : Tn} (h : tB τ) (f : Nat → Int32) : ∀ (k : Nat) (t : Tn), pr τ f k = some t → pB t
  | 0, t, e => by rw [pr] at e; cases e; exact pB_0 h
  | k + 1, t, e => by
    rw [pr] at e
    cases e2 : pr τ f k with
    | none => rw [e2] at e; cases e
    | some u => rw [e2] at e; exact pB_s (pr_B h f k u e2) e
theorem pV {τ : Tn} (h : pB τ) (h7 : τ 0 3 = 7) : tV τ := by
  refine ⟨h.1, Or.inr ⟨h.2.2.2.1 (by omega), h.2.2.1 (by omega)⟩, fun a ha => ?_⟩
  have := h.2.2.2.2.2.2.2.1 a (by unfold pcn; rw [if_neg (by omega)]; exact ha)
  exact this
/-- the first fault, or none -/
def pz (τ : Tn) (f : Nat → Int32) (n : Nat) : Option Nat := match fs (fun k => (pr τ f (k + 1)).isNone) 0 n with
  | some k => some k
  | none => match pr τ f n with
    | none => some n
    | some t => if t 0 3 = 7 then none else some n
theorem pr_s {τ t : Tn} {f : Nat → Int32} {k : Nat} (h : pr τ f k = some t) : pr τ f (k + 1) = pst t (f k) := by rw [pr, h]
