/-! THE INVARIANT between the calls of the law -/
def JX (μ : Mem) (τ ρ θ : Tn) (ζ : Nat → Nat → Int32) : Prop := TX μ 1 τ ∧ (∃ τ2, TX μ 2 τ2 ∧ tB τ2) ∧ RX μ ρ ∧ SX μ θ ζ
def JM (μ : Mem) (τ ρ θ : Tn) (ζ : Nat → Nat → Int32) : Prop := TM μ τ ∧ RM μ ρ ∧ SM μ θ ζ ∧ μ 30 7 = nI 0
def JB (τ ρ θ : Tn) : Prop := tV τ ∧ rB τ ρ ∧ thB θ
def JE (μ : Mem) : Prop := μ 0 4 = μ 30 29 ∧ μ 0 5 = μ 30 0
def INV (μ : Mem) : Prop := ∃ (τ ρ θ : Tn) (ζ : Nat → Nat → Int32), JX μ τ ρ θ ζ ∧ JM μ τ ρ θ ζ ∧ JB τ ρ θ ∧ JE μ
section JF
variable {μ ν : Mem} {τ ρ θ : Tn} {ζ : Nat → Nat → Int32}
theorem SX.same (h : SX μ θ ζ) (h1 : ∀ c k, 14 ≤ c → c ≤ 21 → ν c k = μ c k) : SX ν θ ζ := fun k hk => (h k hk).same (fun _ => h1 _ _ (by omega) (by omega)) (fun _ => h1 _ _ (by omega) (by omega))
theorem JX.fr (h : JX μ τ ρ θ ζ) (hf : ∀ c k, 1 ≤ c → c ≤ 29 → c ≠ 9 → c ≠ 10 → ν c k = μ c k) : JX ν τ ρ θ ζ := by
  obtain ⟨h1, ⟨τ2, h2, h3⟩, h4, h5⟩ := h
  exact ⟨h1.same (fun _ _ => hf _ _ (by omega) (by omega) (by omega) (by omega)) (fun _ _ _ => hf _ _ (by omega) (by omega) (by omega) (by omega)) (fun _ => hf _ _ (by omega) (by omega) (by omega) (by omega)),
    ⟨τ2, h2.same (fun _ _ => hf _ _ (by omega) (by omega) (by omega) (by omega)) (fun _ _ _ => hf _ _ (by omega) (by omega) (by omega) (by omega)) (fun _ => hf _ _ (by omega) (by omega) (by omega) (by omega)), h3⟩,
    h4.same (hf _ _ (by omega) (by omega) (by omega) (by omega)) (fun _ _ _ _ => hf _ _ (by omega) (by omega) (by omega) (by omega)),
    h5.same (fun _ _ _ _ => hf _ _ (by omega) (by omega) (by omega) (by omega))⟩
theorem JM.fr (h : JM μ τ ρ θ ζ) (hk : ∀ k, k = 1 ∨ k = 3 ∨ k = 7 ∨ k = 21 → ν 30 k = μ 30 k) (hf : ∀ c k, (31 ≤ c ∧ c ≤ 34) ∨ (41 ≤ c ∧ c ≤ 46) → ν c k = μ c k) : JM ν τ ρ θ ζ := by
  obtain ⟨h1, h2, h3, h4⟩ := h
  exact ⟨h1.same (hk 1 (by omega)) (hk 3 (by omega)) (fun c k a b => hf c k (by omega)), h2.same (hk 21 (by omega)) (fun c k a b => hf c k (by omega)), h3.same (fun c k a b => hf c k (by omega)), (hk 7 (by omega)).trans h4⟩
theorem JM.lo (h : JM μ τ ρ θ ζ) (hf : ∀ c k, 30 ≤ c → ν c k = μ c k) : JM ν τ ρ θ ζ := h.fr (fun k _ => hf 30 k (by omega)) (fun c k _ => hf c k (by omega))
theorem JX.hi (h : JX μ τ ρ θ ζ) (hf : ∀ c k, c < 30 → ν c k = μ c k) : JX ν τ ρ θ ζ := h.fr (fun c k _ _ _ _ => hf c k (by omega))
theorem JE.lo {μ1 μ2 : Mem} (h : JE μ) (h4 : μ1 0 4 = μ 0 4) (h5 : μ1 0 5 = μ 0 5) (h4' : μ2 0 4 = μ1 0 4) (h5' : μ2 0 5 = μ1 0 5) (g4 : μ2 30 29 = μ1 30 29) (g5 : μ2 30 0 = μ1 30 0) (f4 : μ1 30 29 = μ 30 29) (f5 : μ1 30 0 = μ 30 0) : JE μ2 := ⟨by rw [h4', h4, g4, f4]; exact h.1, by rw [h5', h5, g5, f5]; exact h.2⟩
/-- calls that change nothing but what is used anew each time -/
theorem inv_fr {μ2 : Mem} (h : INV μ) (hf : ∀ c k, c ≠ 9 → c ≠ 10 → c ≠ 39 → c ≠ 40 → μ2 c k = μ c k) : INV μ2 := by
  obtain ⟨τ, ρ, θ, ζ, h1, h2, h3, h4⟩ := h
  exact ⟨τ, ρ, θ, ζ, h1.fr (fun c k _ _ _ _ => hf c k (by omega) (by omega) (by omega) (by omega)), h2.fr (fun k _ => hf 30 k (by omega) (by omega) (by omega) (by omega)) (fun c k _ => hf c k (by omega) (by omega) (by omega) (by omega)), h3, by rw [JE, hf 0 4 (by omega) (by omega) (by omega) (by omega), hf 30 29 (by omega) (by omega) (by omega) (by omega), hf 0 5 (by omega) (by omega) (by omega) (by omega), hf 30 0 (by omega) (by omega) (by omega) (by omega)]; exact h4⟩
/-- calls that tell a fault -/
theorem inv_flt {μ2 : Mem} {f : Nat} (h : INV μ) (hf : ∀ c k, (c ≠ 0 ∨ k ≠ 5) → (c ≠ 30 ∨ (k ≠ 0 ∧ (k < 16 ∨ 19 < k))) → μ2 c k = μ c k) (h5 : μ2 0 5 = nI f) (h0 : μ2 30 0 = nI f) : INV μ2 := by
  obtain ⟨τ, ρ, θ, ζ, h1, h2, h3, h4⟩ := h
  exact ⟨τ, ρ, θ, ζ, h1.fr (fun c k _ _ _ _ => hf c k (by omega) (by omega)), h2.fr (fun k _ => hf 30 k (by omega) (by omega)) (fun c k _ => hf c k (by omega) (by omega)), h3, by rw [hf 0 4 (by omega) (by omega), hf 30 29 (by omega) (by omega)]; exact h4.1, by rw [h5, h0]⟩
theorem TX.gd {c : Nat} (h : TX μ c τ) (hc : 1 ≤ c ∧ c ≤ 2) (q v : Nat) : TX (mu μ (c + 6) q (nI v)) c (tu τ 4 q v) := by
  refine ⟨?_, ?_, fun b hb => ?_, fun p hp => ?_⟩
  · rw [mu_ne _ _ (Or.inl (by omega))]; simpa [tu] using h.1
  · rw [mu_ne _ _ (Or.inl (by omega))]; simpa [tu] using h.2.1
  · rw [mu_ne _ _ (Or.inl (by omega)), mu_ne _ _ (Or.inl (by omega)), mu_ne _ _ (Or.inl (by omega))]; simpa [tu] using h.2.2.1 b hb
  · by_cases e : p = q
    · subst e; rw [mu_at, tG, tu_at]
    · rw [mu_k _ _ e, tG, tu_i _ _ e]; exact h.2.2.2 p hp
theorem TM.gd (h : TM μ τ) (q v : Nat) : TM (mu μ 31 q (nI v)) (tu τ 4 q v) := by
  refine ⟨?_, ?_, fun b hb => ?_, fun p hp => ?_⟩
  · rw [mu_ne _ _ (Or.inl (by decide))]; simpa [tu] using h.1
  · rw [mu_ne _ _ (Or.inl (by decide))]; simpa [tu] using h.2.1
  · rw [mu_ne _ _ (Or.inl (by decide)), mu_ne _ _ (Or.inl (by decide)), mu_ne _ _ (Or.inl (by decide))]; simpa [tu] using h.2.2.1 b (by simpa [tu] using hb)
  · by_cases e : p = q
    · subst e; rw [mu_at, tG, tu_at]
    · rw [mu_k _ _ e, tG, tu_i _ _ e]; exact h.2.2.2 p (by simpa [tu] using hp)
theorem TX.st (h : TX μ 1 τ) {a : Nat} (ha : a < 4) (v : Nat) : TX (mu μ (4 * 1 + 18 + a) 2 (nI v)) 1 (tu τ 3 a v) := by
  refine ⟨?_, ?_, fun b hb => ?_, fun p hp => ?_⟩
  · rw [mu_ne _ _ (Or.inl (by omega))]; simpa [tu] using h.1
  · rw [mu_ne _ _ (Or.inl (by omega))]; simpa [tu] using h.2.1
  · obtain ⟨h1, h2, h3⟩ := h.2.2.1 b hb
    by_cases e : b = a
    · subst e
      exact ⟨by rw [mu_k _ _ (by decide)]; simpa [tu] using h1, by rw [mu_k _ _ (by decide)]; simpa [tu] using h2, by rw [mu_at]; simp [tu]⟩
    · rw [mu_ne _ _ (Or.inl (by omega)), mu_ne _ _ (Or.inl (by omega)), mu_ne _ _ (Or.inl (by omega))]
      simp only [tK, tA, tD, tu_i _ _ e]
      exact ⟨h1, h2, h3⟩
  · rw [mu_ne _ _ (Or.inl (by omega)), tG, tu_r _ _ _ (by omega)]; exact h.2.2.2 p hp
theorem tV.gd (h : tV τ) {q v : Nat} (hv : v ≤ 9) : tV (tu τ 4 q v) := by
  obtain ⟨⟨b1, b2, b3, b4⟩, h2, h3⟩ := h
  refine ⟨⟨by simpa [tu] using b1, by simpa [tu] using b2, fun a ha => by simpa [tu] using b3 a ha, fun p hp => ?_⟩, by simpa [tu] using h2, fun a ha => by simpa [tu] using h3 a (by simpa [tu] using ha)⟩
  simp only [tG, tu_if]
  split
  · exact hv
  · exact b4 p hp
theorem tV.st (h : tV τ) {a v : Nat} (hv : v ≤ 3) : tV (tu τ 3 a v) := by
  obtain ⟨hb, h2, h3⟩ := h
  refine ⟨tB_u hb (Or.inr ⟨Or.inr rfl, by omega⟩), by simpa [tu] using h2, fun b hb => ?_⟩
  have := h3 b (by simpa [tu] using hb)
  simp only [tA, tD, tP, tu_if] at *
  refine ⟨by simpa using this.1, ?_⟩
  split
  · exact hv
  · exact this.2
theorem rB.keep (h : rB τ ρ) {r i v : Nat} (hr : r ≠ 0) : rB (tu τ r i v) ρ := by
  unfold rB
  rw [show tS (tu τ r i v) = tS τ by rw [tS, tu_r _ _ _ (by omega)], show tP (tu τ r i v) = tP τ by rw [tP, tu_r _ _ _ (by omega)]]
  exact h
/-- a trace goes on alike on both sides -/
theorem inv_tr {μ2 : Mem} {x : Int32} (h : INV μ) (hf : ∀ c k, (c ≠ 0 ∨ k ≠ 4) → (c ≠ 30 ∨ k ≠ 29) → μ2 c k = μ c k) (h5 : μ2 0 4 = x) (h0 : μ2 30 29 = x) : INV μ2 := by
  obtain ⟨τ, ρ, θ, ζ, h1, h2, h3, h4⟩ := h
  exact ⟨τ, ρ, θ, ζ, h1.fr (fun c k _ _ _ _ => hf c k (by omega) (by omega)), h2.fr (fun k _ => hf 30 k (by omega) (by omega)) (fun c k _ => hf c k (by omega) (by omega)), h3, by rw [h5, h0], by rw [hf 0 5 (by omega) (by omega), hf 30 0 (by omega) (by omega)]; exact h4.2⟩
end JF
section JS
variable {μ : Mem} {τ ρ θ : Tn} {ζ : Nat → Nat → Int32}
theorem s_lay {p v : Int32} (hX : JX μ τ ρ θ ζ) (hM : JM μ τ ρ θ ζ) (hB : JB τ ρ θ) (hE : JE μ) {μ1 μ2 : Mem} (e1 : μ1 = if ok_lay τ p v = true then mu μ 7 (ix p) v else μ) (e2 : μ2 = if ok_lay τ p v = true then mu μ1 31 (ix p) v else μ1) : INV μ2 := by
  by_cases ho : ok_lay τ p v = true
  · rw [if_pos ho] at e1 e2
    subst e1 e2
    simp only [ok_lay, Bool.and_eq_true] at ho
    obtain ⟨jv, hjv, rfl⟩ := inB_of ho.2 (by omega)
    refine ⟨tu τ 4 (ix p) jv, ρ, θ, ζ, ⟨?_, ?_, ?_, ?_⟩, ⟨?_, ?_, ?_, ?_⟩, ⟨hB.1.gd (by omega), hB.2.1.keep (by decide), hB.2.2⟩, ?_, ?_⟩
    · exact (hX.1.gd (by omega) (ix p) jv).same (fun _ _ => mu_ne _ _ (Or.inl (by omega))) (fun _ _ _ => mu_ne _ _ (Or.inl (by omega))) (fun _ => mu_ne _ _ (Or.inl (by omega)))
    · obtain ⟨τ2, a, b⟩ := hX.2.1
      exact ⟨τ2, a.same (fun _ _ => by rw [mu_ne _ _ (Or.inl (by omega)), mu_ne _ _ (Or.inl (by omega))]) (fun _ _ _ => by rw [mu_ne _ _ (Or.inl (by omega)), mu_ne _ _ (Or.inl (by omega))]) (fun _ => by rw [mu_ne _ _ (Or.inl (by omega)), mu_ne _ _ (Or.inl (by omega))]), b⟩
    · exact hX.2.2.1.same (by rw [mu_ne _ _ (Or.inl (by omega)), mu_ne _ _ (Or.inl (by omega))]) (fun _ _ _ _ => by rw [mu_ne _ _ (Or.inl (by omega)), mu_ne _ _ (Or.inl (by omega))])
    · exact hX.2.2.2.same (fun _ _ _ _ => by rw [mu_ne _ _ (Or.inl (by omega)), mu_ne _ _ (Or.inl (by omega))])
    · exact TM.gd (hM.1.same (mu_ne _ _ (Or.inl (by omega))) (mu_ne _ _ (Or.inl (by omega))) (fun _ _ _ _ => mu_ne _ _ (Or.inl (by omega)))) (ix p) jv
    · exact hM.2.1.same (by rw [mu_ne _ _ (Or.inl (by omega)), mu_ne _ _ (Or.inl (by omega))]) (fun _ _ _ _ => by rw [mu_ne _ _ (Or.inl (by omega)), mu_ne _ _ (Or.inl (by omega))])
    · exact hM.2.2.1.same (fun _ _ _ _ => by rw [mu_ne _ _ (Or.inl (by omega)), mu_ne _ _ (Or.inl (by omega))])
    · rw [mu_ne _ _ (Or.inl (by omega)), mu_ne _ _ (Or.inl (by omega))]; exact hM.2.2.2
    · rw [mu_ne _ _ (Or.inl (by omega)), mu_ne _ _ (Or.inl (by omega)), mu_ne _ _ (Or.inl (by omega)), mu_ne _ _ (Or.inl (by omega))]; exact hE.1
    · rw [mu_ne _ _ (Or.inl (by omega)), mu_ne _ _ (Or.inl (by omega)), mu_ne _ _ (Or.inl (by omega)), mu_ne _ _ (Or.inl (by omega))]; exact hE.2
  · rw [if_neg ho] at e1 e2
    subst e1 e2
    exact ⟨τ, ρ, θ, ζ, hX, hM, hB, hE⟩
theorem s_stride {a v : Int32} (hX : JX μ τ ρ θ ζ) (hM : JM μ τ ρ θ ζ) (hB : JB τ ρ θ) (hE : JE μ) {μ1 μ2 : Mem} (e1 : μ1 = if ok_stride τ a v = true then mu μ (4 * 1 + 18 + ix a) 2 v else μ) (e2 : μ2 = if ok_stride τ a v = true then mu μ1 34 (ix a) v else μ1) : INV μ2 := by
  by_cases ho : ok_stride τ a v = true
  · rw [if_pos ho] at e1 e2
    subst e1 e2
    simp only [ok_stride, Bool.and_eq_true] at ho
    have hS4 : tS τ ≤ 4 := hB.1.1.2.1
    obtain ⟨jv, hjv, rfl⟩ := inB_of ho.2 (by omega)
    obtain ⟨ja, hja, rfl⟩ := inB_of ho.1 (by omega)
    rw [ix_nI (by omega)]
    refine ⟨tu τ 3 ja jv, ρ, θ, ζ, ⟨?_, ?_, ?_, ?_⟩, ⟨?_, ?_, ?_, ?_⟩, ⟨hB.1.st (by omega), hB.2.1.keep (by decide), hB.2.2⟩, ?_, ?_⟩
    · exact (hX.1.st (a := ja) (by omega) jv).same (fun _ _ => mu_ne _ _ (Or.inl (by omega))) (fun _ _ _ => mu_ne _ _ (Or.inl (by omega))) (fun _ => mu_ne _ _ (Or.inl (by omega)))
    · obtain ⟨τ2, a, b⟩ := hX.2.1
      exact ⟨τ2, a.same (fun _ _ => by rw [mu_ne _ _ (Or.inl (by omega)), mu_ne _ _ (Or.inl (by omega))]) (fun _ _ _ => by rw [mu_ne _ _ (Or.inl (by omega)), mu_ne _ _ (Or.inl (by omega))]) (fun _ => by rw [mu_ne _ _ (Or.inl (by omega)), mu_ne _ _ (Or.inl (by omega))]), b⟩
    · exact hX.2.2.1.same (by rw [mu_ne _ _ (Or.inl (by omega)), mu_ne _ _ (Or.inl (by omega))]) (fun _ _ _ _ => by rw [mu_ne _ _ (Or.inl (by omega)), mu_ne _ _ (Or.inl (by omega))])
    · exact hX.2.2.2.same (fun _ _ _ _ => by rw [mu_ne _ _ (Or.inl (by omega)), mu_ne _ _ (Or.inl (by omega))])
    · exact TM.st (μ := mu μ (4 * 1 + 18 + ja) 2 (nI jv)) (hM.1.same (mu_ne _ _ (Or.inl (by omega))) (mu_ne _ _ (Or.inl (by omega))) (fun _ _ _ _ => mu_ne _ _ (Or.inl (by omega)))) (fun _ _ _ => rfl) jv
    · exact hM.2.1.same (by rw [mu_ne _ _ (Or.inl (by omega)), mu_ne _ _ (Or.inl (by omega))]) (fun _ _ _ _ => by rw [mu_ne _ _ (Or.inl (by omega)), mu_ne _ _ (Or.inl (by omega))])
    · exact hM.2.2.1.same (fun _ _ _ _ => by rw [mu_ne _ _ (Or.inl (by omega)), mu_ne _ _ (Or.inl (by omega))])
    · rw [mu_ne _ _ (Or.inl (by omega)), mu_ne _ _ (Or.inl (by omega))]; exact hM.2.2.2
    · rw [mu_ne _ _ (Or.inl (by omega)), mu_ne _ _ (Or.inl (by omega)), mu_ne _ _ (Or.inl (by omega)), mu_ne _ _ (Or.inl (by omega))]; exact hE.1
    · rw [mu_ne _ _ (Or.inl (by omega)), mu_ne _ _ (Or.inl (by omega)), mu_ne _ _ (Or.inl (by omega)), mu_ne _ _ (Or.inl (by omega))]; exact hE.2
  · rw [if_neg ho] at e1 e2
    subst e1 e2
    exact ⟨τ, ρ, θ, ζ, hX, hM, hB, hE⟩
/-- readings: one more; fewer -/
def rNew (ρ : Tn) (a m p : Nat) : Tn := tu (tu (tu (tu ρ 0 (ρ 3 0) a) 1 (ρ 3 0) m) 2 (ρ 3 0) p) 3 0 (ρ 3 0 + 1)
theorem rN (ρ : Tn) (a m p i : Nat) : rNew ρ a m p 3 0 = ρ 3 0 + 1 ∧ rNew ρ a m p 0 i = (if i = ρ 3 0 then a else ρ 0 i) ∧ rNew ρ a m p 1 i = (if i = ρ 3 0 then m else ρ 1 i) ∧ rNew ρ a m p 2 i = (if i = ρ 3 0 then p else ρ 2 i) := by
  refine ⟨?_, ?_, ?_, ?_⟩ <;> simp [rNew, tu_if]
theorem s_reading {a m p : Int32} (hX : JX μ τ ρ θ ζ) (hM : JM μ τ ρ θ ζ) (hB : JB τ ρ θ) (hE : JE μ) {μ1 μ2 : Mem} (e1 : μ1 = if ok_reading τ ρ a m p = true then mu (mu (mu (mu μ 11 (ρ 3 0) a) 12 (ρ 3 0) m) 13 (ρ 3 0) p) 3 3 (nI (ρ 3 0 + 1)) else μ)
    (e2 : μ2 = if ok_reading τ ρ a m p = true then mu (mu (mu (mu μ1 41 (ρ 3 0) a) 42 (ρ 3 0) m) 43 (ρ 3 0) p) 30 21 (nI (ρ 3 0 + 1)) else μ1) : INV μ2 := by
  by_cases ho : ok_reading τ ρ a m p = true
  · rw [if_pos ho] at e1 e2
    simp only [ok_reading, Bool.and_eq_true, decide_eq_true_eq] at ho
    have hS4 : tS τ ≤ 4 := hB.1.1.2.1
    have hP9 : tP τ ≤ 9 := hB.1.1.1
    obtain ⟨h1, h2, h3, h4⟩ := ho
    obtain ⟨ja, hja, rfl⟩ := inB_of h1 (by omega)
    obtain ⟨jp, hjp, rfl⟩ := inB_of h2 (by omega)
    obtain ⟨jm, hjm, rfl⟩ := inB_of h3 (by omega)
    have hf1 : ∀ c k, c ≠ 11 → c ≠ 12 → c ≠ 13 → (c ≠ 3 ∨ k ≠ 3) → μ1 c k = μ c k := fun c k q1 q2 q3 q4 => by
      rw [e1, mu_ne _ _ q4, mu_ne _ _ (Or.inl q3), mu_ne _ _ (Or.inl q2), mu_ne _ _ (Or.inl q1)]
    have hf2 : ∀ c k, c ≠ 41 → c ≠ 42 → c ≠ 43 → (c ≠ 30 ∨ k ≠ 21) → μ2 c k = μ1 c k := fun c k q1 q2 q3 q4 => by
      rw [e2, mu_ne _ _ q4, mu_ne _ _ (Or.inl q3), mu_ne _ _ (Or.inl q2), mu_ne _ _ (Or.inl q1)]
    have hf : ∀ c k, c ≠ 11 → c ≠ 12 → c ≠ 13 → (c ≠ 3 ∨ k ≠ 3) → c ≠ 41 → c ≠ 42 → c ≠ 43 → (c ≠ 30 ∨ k ≠ 21) → μ2 c k = μ c k := fun c k q1 q2 q3 q4 q5 q6 q7 q8 => (hf2 c k q5 q6 q7 q8).trans (hf1 c k q1 q2 q3 q4)
    refine ⟨τ, rNew ρ ja jm jp, θ, ζ, ⟨?_, ?_, ⟨?_, fun i hi => ?_⟩, ?_⟩, ⟨?_, ⟨?_, fun i hi => ?_⟩, ?_, ?_⟩, ⟨hB.1, ⟨?_, fun i hi => ?_⟩, hB.2.2⟩, ?_, ?_⟩
    · exact hX.1.same (fun _ _ => hf _ _ (by omega) (by omega) (by omega) (by omega) (by omega) (by omega) (by omega) (by omega)) (fun _ _ _ => hf _ _ (by omega) (by omega) (by omega) (by omega) (by omega) (by omega) (by omega) (by omega)) (fun _ => hf _ _ (by omega) (by omega) (by omega) (by omega) (by omega) (by omega) (by omega) (by omega))
    · obtain ⟨τ2, a, b⟩ := hX.2.1
      exact ⟨τ2, a.same (fun _ _ => hf _ _ (by omega) (by omega) (by omega) (by omega) (by omega) (by omega) (by omega) (by omega)) (fun _ _ _ => hf _ _ (by omega) (by omega) (by omega) (by omega) (by omega) (by omega) (by omega) (by omega)) (fun _ => hf _ _ (by omega) (by omega) (by omega) (by omega) (by omega) (by omega) (by omega) (by omega)), b⟩
    · rw [hf2 _ _ (by omega) (by omega) (by omega) (by omega), e1, mu_at, (rN ρ ja jm jp 0).1]
    · obtain ⟨g0, g1, g2⟩ := hX.2.2.1.2 i hi
      obtain ⟨-, r0, r1, r2⟩ := rN ρ ja jm jp i
      rw [hf2 _ _ (by omega) (by omega) (by omega) (by omega), hf2 _ _ (by omega) (by omega) (by omega) (by omega), hf2 _ _ (by omega) (by omega) (by omega) (by omega), r0, r1, r2, e1]
      by_cases e : i = ρ 3 0
      · subst e
        rw [if_pos rfl, if_pos rfl, if_pos rfl]
        exact ⟨by rw [mu_ne _ _ (Or.inl (by omega)), mu_ne _ _ (Or.inl (by omega)), mu_ne _ _ (Or.inl (by omega)), mu_at], by rw [mu_ne _ _ (Or.inl (by omega)), mu_ne _ _ (Or.inl (by omega)), mu_at], by rw [mu_ne _ _ (Or.inl (by omega)), mu_at]⟩
      · rw [if_neg e, if_neg e, if_neg e]
        exact ⟨by rw [mu_ne _ _ (Or.inl (by omega)), mu_ne _ _ (Or.inl (by omega)), mu_ne _ _ (Or.inl (by omega)), mu_k _ _ e]; exact g0, by rw [mu_ne _ _ (Or.inl (by omega)), mu_ne _ _ (Or.inl (by omega)), mu_k _ _ e, mu_ne _ _ (Or.inl (by omega))]; exact g1, by rw [mu_ne _ _ (Or.inl (by omega)), mu_k _ _ e, mu_ne _ _ (Or.inl (by omega)), mu_ne _ _ (Or.inl (by omega))]; exact g2⟩
    · exact hX.2.2.2.same (fun _ _ _ _ => hf _ _ (by omega) (by omega) (by omega) (by omega) (by omega) (by omega) (by omega) (by omega))
    · exact hM.1.same (hf _ _ (by omega) (by omega) (by omega) (by omega) (by omega) (by omega) (by omega) (by omega)) (hf _ _ (by omega) (by omega) (by omega) (by omega) (by omega) (by omega) (by omega) (by omega)) (fun _ _ _ _ => hf _ _ (by omega) (by omega) (by omega) (by omega) (by omega) (by omega) (by omega) (by omega))
    · rw [e2, mu_at, (rN ρ ja jm jp 0).1]
    · rw [(rN ρ ja jm jp 0).1] at hi
      obtain ⟨-, r0, r1, r2⟩ := rN ρ ja jm jp i
      rw [r0, r1, r2, e2]
      by_cases e : i = ρ 3 0
      · subst e
        rw [if_pos rfl, if_pos rfl, if_pos rfl]
        exact ⟨by rw [mu_ne _ _ (Or.inl (by omega)), mu_ne _ _ (Or.inl (by omega)), mu_ne _ _ (Or.inl (by omega)), mu_at], by rw [mu_ne _ _ (Or.inl (by omega)), mu_ne _ _ (Or.inl (by omega)), mu_at], by rw [mu_ne _ _ (Or.inl (by omega)), mu_at]⟩
      · obtain ⟨g0, g1, g2⟩ := hM.2.1.2 i (by omega)
        rw [if_neg e, if_neg e, if_neg e]
        exact ⟨by rw [mu_ne _ _ (Or.inl (by omega)), mu_ne _ _ (Or.inl (by omega)), mu_ne _ _ (Or.inl (by omega)), mu_k _ _ e, hf1 _ _ (by omega) (by omega) (by omega) (by omega)]; exact g0, by rw [mu_ne _ _ (Or.inl (by omega)), mu_ne _ _ (Or.inl (by omega)), mu_k _ _ e, mu_ne _ _ (Or.inl (by omega)), hf1 _ _ (by omega) (by omega) (by omega) (by omega)]; exact g1, by rw [mu_ne _ _ (Or.inl (by omega)), mu_k _ _ e, mu_ne _ _ (Or.inl (by omega)), mu_ne _ _ (Or.inl (by omega)), hf1 _ _ (by omega) (by omega) (by omega) (by omega)]; exact g2⟩
    · exact hM.2.2.1.same (fun _ _ _ _ => hf _ _ (by omega) (by omega) (by omega) (by omega) (by omega) (by omega) (by omega) (by omega))
    · rw [hf _ _ (by omega) (by omega) (by omega) (by omega) (by omega) (by omega) (by omega) (by omega)]; exact hM.2.2.2
    · rw [(rN ρ ja jm jp 0).1]; omega
    · rw [(rN ρ ja jm jp 0).1] at hi
      obtain ⟨-, r0, r1, r2⟩ := rN ρ ja jm jp i
      rw [r0, r1, r2]
      by_cases e : i = ρ 3 0
      · rw [if_pos e, if_pos e, if_pos e]; omega
      · rw [if_neg e, if_neg e, if_neg e]; exact hB.2.1.2 i (by omega)
    · rw [hf _ _ (by omega) (by omega) (by omega) (by omega) (by omega) (by omega) (by omega) (by omega), hf _ _ (by omega) (by omega) (by omega) (by omega) (by omega) (by omega) (by omega) (by omega)]; exact hE.1
    · rw [hf _ _ (by omega) (by omega) (by omega) (by omega) (by omega) (by omega) (by omega) (by omega), hf _ _ (by omega) (by omega) (by omega) (by omega) (by omega) (by omega) (by omega) (by omega)]; exact hE.2
  · rw [if_neg ho] at e1 e2
    subst e1 e2
    exact ⟨τ, ρ, θ, ζ, hX, hM, hB, hE⟩
theorem s_back {k : Int32} (hX : JX μ τ ρ θ ζ) (hM : JM μ τ ρ θ ζ) (hB : JB τ ρ θ) (hE : JE μ) {μ1 μ2 : Mem} (e1 : μ1 = if inB k (ρ 3 0 + 1) = true then mu μ 3 3 (nI (ρ 3 0 - ix k)) else μ) (e2 : μ2 = if inB k (ρ 3 0 + 1) = true then mu μ1 30 21 (nI (ρ 3 0 - ix k)) else μ1) : INV μ2 := by
  by_cases ho : inB k (ρ 3 0 + 1) = true
  · rw [if_pos ho] at e1 e2
    have hf : ∀ c j, (c ≠ 3 ∨ j ≠ 3) → (c ≠ 30 ∨ j ≠ 21) → μ2 c j = μ c j := fun c j q1 q2 => by rw [e2, mu_ne _ _ q2, e1, mu_ne _ _ q1]
    have r3 : ∀ v, tu ρ 3 0 v 3 0 = v := fun v => by simp [tu]
    have rr : ∀ v r i, r ≠ 3 → tu ρ 3 0 v r i = ρ r i := fun v r i h => tu_r _ _ _ h
    refine ⟨τ, tu ρ 3 0 (ρ 3 0 - ix k), θ, ζ, ⟨?_, ?_, ⟨?_, fun i hi => ?_⟩, ?_⟩, ⟨?_, ⟨?_, fun i hi => ?_⟩, ?_, ?_⟩, ⟨hB.1, ⟨?_, fun i hi => ?_⟩, hB.2.2⟩, ?_, ?_⟩
    · exact hX.1.same (fun _ _ => hf _ _ (by omega) (by omega)) (fun _ _ _ => hf _ _ (by omega) (by omega)) (fun _ => hf _ _ (by omega) (by omega))
    · obtain ⟨τ2, a, b⟩ := hX.2.1
      exact ⟨τ2, a.same (fun _ _ => hf _ _ (by omega) (by omega)) (fun _ _ _ => hf _ _ (by omega) (by omega)) (fun _ => hf _ _ (by omega) (by omega)), b⟩
    · rw [e2, mu_ne _ _ (Or.inl (by decide)), e1, mu_at, r3]
    · rw [hf _ _ (by omega) (by omega), hf _ _ (by omega) (by omega), hf _ _ (by omega) (by omega), rr _ _ _ (by decide), rr _ _ _ (by decide), rr _ _ _ (by decide)]; exact hX.2.2.1.2 i hi
    · exact hX.2.2.2.same (fun _ _ _ _ => hf _ _ (by omega) (by omega))
    · exact hM.1.same (hf _ _ (by omega) (by omega)) (hf _ _ (by omega) (by omega)) (fun _ _ _ _ => hf _ _ (by omega) (by omega))
    · rw [e2, mu_at, r3]
    · rw [r3] at hi
      rw [hf _ _ (by omega) (by omega), hf _ _ (by omega) (by omega), hf _ _ (by omega) (by omega), rr _ _ _ (by decide), rr _ _ _ (by decide), rr _ _ _ (by decide)]; exact hM.2.1.2 i (by omega)
    · exact hM.2.2.1.same (fun _ _ _ _ => hf _ _ (by omega) (by omega))
    · rw [hf _ _ (by omega) (by omega)]; exact hM.2.2.2
    · rw [r3]; have := hB.2.1.1; omega
    · rw [r3] at hi
      rw [rr _ _ _ (by decide), rr _ _ _ (by decide), rr _ _ _ (by decide)]; exact hB.2.1.2 i (by omega)
    · rw [hf _ _ (by omega) (by omega), hf _ _ (by omega) (by omega)]; exact hE.1
    · rw [hf _ _ (by omega) (by omega), hf _ _ (by omega) (by omega)]; exact hE.2
  · rw [if_neg ho] at e1 e2
    subst e1 e2
    exact ⟨τ, ρ, θ, ζ, hX, hM, hB, hE⟩
end JS
