def zN (ζ : Nat → Nat → Int32) (k : Nat) (z : Nat → Int32) : Nat → Nat → Int32 := fun c => if c = k then z else ζ c
def tN (θ : Tn) (k ln len : Nat) : Tn := tu (tu θ k 0 ln) k 1 len
theorem tN_a (θ : Tn) (k ln len : Nat) : tN θ k ln len k 0 = ln ∧ tN θ k ln len k 1 = len := by constructor <;> simp [tN, tu]
theorem tN_o (θ : Tn) {k j : Nat} (ln len i : Nat) (h : j ≠ k) : tN θ k ln len j i = θ j i := by simp [tN, tu, h]
theorem zN_a (ζ : Nat → Nat → Int32) (k : Nat) (z : Nat → Int32) : zN ζ k z k = z := by simp [zN]
theorem zN_o (ζ : Nat → Nat → Int32) {k j : Nat} (z : Nat → Int32) (h : j ≠ k) : zN ζ k z j = ζ j := by simp [zN, h]
section JU
variable {μ ν : Mem} {τ ρ θ : Tn} {ζ : Nat → Nat → Int32} {jk ln len : Nat} {z : Nat → Int32}
theorem SX.upd (h : SX μ θ ζ) (hk : jk < 4) (hf : ∀ c k, 14 ≤ c → c ≤ 21 → c ≠ 14 + jk → c ≠ 14 + jk + 4 → ν c k = μ c k) (hn : SQ ν (14 + jk) ln len z) : SX ν (tN θ jk ln len) (zN ζ jk z) := fun j hj => by
  by_cases e : j = jk
  · subst e; rw [(tN_a θ j ln len).1, (tN_a θ j ln len).2, zN_a]; exact hn
  · rw [tN_o _ _ _ _ e, tN_o _ _ _ _ e, zN_o _ _ e]
    exact (h j hj).same (fun _ => hf _ _ (by omega) (by omega) (by omega) (by omega)) (fun _ => hf _ _ (by omega) (by omega) (by omega) (by omega))
theorem SM.upd (h : SM μ θ ζ) (hθ : thB θ) (hk : jk < 4) (h4 : ∀ c k, c = 44 ∨ c = 45 → k ≠ jk → ν c k = μ c k) (h6 : ∀ k, k < 60 * jk ∨ 60 * jk + 60 ≤ k → ν 46 k = μ 46 k)
    (h0 : ln = 0 → ν 44 jk = -1) (h1 : 0 < ln → ν 44 jk = nI len ∧ ν 45 jk = nI (ln - 1)) (hz : ∀ i, i < len → ν 46 (60 * jk + i) = z i) : SM ν (tN θ jk ln len) (zN ζ jk z) := fun j hj => by
  by_cases e : j = jk
  · subst e; rw [(tN_a θ j ln len).1, (tN_a θ j ln len).2, zN_a]; exact ⟨h0, h1, hz⟩
  · rw [tN_o _ _ _ _ e, tN_o _ _ _ _ e, zN_o _ _ e, h4 44 j (Or.inl rfl) e, h4 45 j (Or.inr rfl) e]
    obtain ⟨a, b, c⟩ := h j hj
    have := (hθ j hj).2.1
    exact ⟨a, b, fun i hi => by rw [h6 _ (by omega)]; exact c i hi⟩
theorem thB.upd (hθ : thB θ) (h1 : ln ≤ 3) (h2 : len ≤ 60) (h3 : ln = 0 → len = 0) : thB (tN θ jk ln len) := fun j hj => by
  by_cases e : j = jk
  · subst e; rw [(tN_a θ j ln len).1, (tN_a θ j ln len).2]; exact ⟨h1, h2, h3⟩
  · rw [tN_o _ _ _ _ e, tN_o _ _ _ _ e]; exact hθ j hj
/-- the rest of the invariant, where sheets alone change -/
theorem inv_sh {θ2 : Tn} {ζ2 : Nat → Nat → Int32} (hX : JX μ τ ρ θ ζ) (hM : JM μ τ ρ θ ζ) (hB : JB τ ρ θ) (hE : JE μ) (hf : ∀ c k, (c < 14 ∨ 21 < c) → c ≠ 9 → c ≠ 10 → (c ≠ 0 ∨ k ≠ 5) → (c ≠ 30 ∨ k ≠ 0) → c ≠ 44 → c ≠ 45 → c ≠ 46 → c ≠ 47 → ν c k = μ c k)
    (h5 : ν 0 5 = ν 30 0) (hS : SX ν θ2 ζ2) (hSM : SM ν θ2 ζ2) (hθ : thB θ2) : INV ν := by
  refine ⟨τ, ρ, θ2, ζ2, ⟨?_, ?_, ?_, hS⟩, ⟨?_, ?_, hSM, ?_⟩, ⟨hB.1, hB.2.1, hθ⟩, ?_, h5⟩
  · exact hX.1.same (fun _ _ => hf _ _ (by omega) (by omega) (by omega) (by omega) (by omega) (by omega) (by omega) (by omega) (by omega)) (fun _ _ _ => hf _ _ (by omega) (by omega) (by omega) (by omega) (by omega) (by omega) (by omega) (by omega) (by omega)) (fun _ => hf _ _ (by omega) (by omega) (by omega) (by omega) (by omega) (by omega) (by omega) (by omega) (by omega))
  · obtain ⟨τ2, a, b⟩ := hX.2.1
    exact ⟨τ2, a.same (fun _ _ => hf _ _ (by omega) (by omega) (by omega) (by omega) (by omega) (by omega) (by omega) (by omega) (by omega)) (fun _ _ _ => hf _ _ (by omega) (by omega) (by omega) (by omega) (by omega) (by omega) (by omega) (by omega) (by omega)) (fun _ => hf _ _ (by omega) (by omega) (by omega) (by omega) (by omega) (by omega) (by omega) (by omega) (by omega)), b⟩
  · exact hX.2.2.1.same (hf _ _ (by omega) (by omega) (by omega) (by omega) (by omega) (by omega) (by omega) (by omega) (by omega)) (fun _ _ _ _ => hf _ _ (by omega) (by omega) (by omega) (by omega) (by omega) (by omega) (by omega) (by omega) (by omega))
  · exact hM.1.same (hf _ _ (by omega) (by omega) (by omega) (by omega) (by omega) (by omega) (by omega) (by omega) (by omega)) (hf _ _ (by omega) (by omega) (by omega) (by omega) (by omega) (by omega) (by omega) (by omega) (by omega)) (fun _ _ _ _ => hf _ _ (by omega) (by omega) (by omega) (by omega) (by omega) (by omega) (by omega) (by omega) (by omega))
  · exact hM.2.1.same (hf _ _ (by omega) (by omega) (by omega) (by omega) (by omega) (by omega) (by omega) (by omega) (by omega)) (fun _ _ _ _ => hf _ _ (by omega) (by omega) (by omega) (by omega) (by omega) (by omega) (by omega) (by omega) (by omega))
  · rw [hf _ _ (by omega) (by omega) (by omega) (by omega) (by omega) (by omega) (by omega) (by omega) (by omega)]; exact hM.2.2.2
  · rw [hf 0 4 (by omega) (by omega) (by omega) (by omega) (by omega) (by omega) (by omega) (by omega) (by omega), hf 30 29 (by omega) (by omega) (by omega) (by omega) (by omega) (by omega) (by omega) (by omega) (by omega)]; exact hE.1
theorem s_sheet {k la n : Int32} (hX : JX μ τ ρ θ ζ) (hM : JM μ τ ρ θ ζ) (hB : JB τ ρ θ) (hE : JE μ) {μ1 μ2 : Mem}
    (e1 : (ok_sheet k la n = false → μ1 = mu μ 0 5 (nI (f_sheet k la n))) ∧ (ok_sheet k la n = true → (∀ c1 k1, c1 ≠ 14 + ix k → c1 ≠ 14 + ix k + 4 → μ1 c1 k1 = mu μ 0 5 (nI 0) c1 k1) ∧ (∀ j, j < 60 → μ1 (14 + ix k + 4) j = nI 0) ∧ μ1 (14 + ix k) 1 = la ∧ μ1 (14 + ix k) 2 = n))
    (e2 : (ok_sheet k la n = false → μ2 = mu μ1 30 0 (nI (f_sheet k la n))) ∧ (ok_sheet k la n = true → (∀ c1 k1, (c1 ≠ 44 ∨ k1 ≠ ix k) → (c1 ≠ 45 ∨ k1 ≠ ix k) → (c1 ≠ 46 ∨ k1 < 60 * ix k ∨ 60 * ix k + ix n ≤ k1) → μ2 c1 k1 = mu μ1 30 0 (nI 0) c1 k1) ∧ (∀ j, j < ix n → μ2 46 (60 * ix k + j) = nI 0) ∧ μ2 44 (ix k) = n ∧ μ2 45 (ix k) = la)) : INV μ2 := by
  cases ho : ok_sheet k la n with
  | false =>
    have a1 := e1.1 ho
    have a2 := e2.1 ho
    subst a1
    exact inv_flt (f := f_sheet k la n) ⟨τ, ρ, θ, ζ, hX, hM, hB, hE⟩ (fun c j q1 q2 => by rw [a2, mu_ne _ _ (by omega), mu_ne _ _ q1]) (by rw [a2, mu_ne _ _ (by decide), mu_at]) (by rw [a2, mu_at])
  | true =>
    obtain ⟨f1, z1, l1, n1⟩ := e1.2 ho
    obtain ⟨f2, z2, n2, l2⟩ := e2.2 ho
    simp only [ok_sheet, Bool.and_eq_true] at ho
    obtain ⟨jk, hk, rfl⟩ := inB_of ho.1 (by omega)
    obtain ⟨jl, hl, rfl⟩ := inB_of ho.2.1 (by omega)
    obtain ⟨jn, hn, rfl⟩ := inB_of ho.2.2 (by omega)
    simp only [ix_nI (show jk < 2 ^ 31 by omega), ix_nI (show jn < 2 ^ 31 by omega)] at f1 z1 l1 n1 f2 z2 n2 l2
    have hf : ∀ c j, c ≠ 14 + jk → c ≠ 14 + jk + 4 → (c ≠ 0 ∨ j ≠ 5) → (c ≠ 30 ∨ j ≠ 0) → c ≠ 44 → c ≠ 45 → c ≠ 46 → μ2 c j = μ c j := fun c j q1 q2 q3 q4 q5 q6 q7 => by
      rw [f2 c j (Or.inl q5) (Or.inl q6) (Or.inl q7), mu_ne _ _ q4, f1 c j q1 q2, mu_ne _ _ q3]
    have g1 : ∀ c j, c < 30 → μ2 c j = μ1 c j := fun c j q => by rw [f2 c j (by omega) (by omega) (by omega), mu_ne _ _ (by omega)]
    have hl1 : nI (jl + 1) - 1 = nI jl := (pk_sub (show 1 ≤ jl + 1 by omega)).trans (by rw [Nat.add_sub_cancel])
    refine inv_sh (θ2 := tN θ jk (jl + 1) jn) (ζ2 := zN ζ jk (fun _ => nI 0)) hX hM hB hE (fun c j q1 q2 q3 q4 q5 q6 q7 q8 _ => hf c j (by omega) (by omega) q4 q5 q6 q7 q8) ?_ (hX.2.2.2.upd hk (fun c j q1 q2 q3 q4 => hf c j q3 q4 (by omega) (by omega) (by omega) (by omega) (by omega)) ⟨?_, ?_, by omega, by omega, fun i hi => ?_⟩) (hM.2.2.1.upd hB.2.2 hk (fun c j q1 q2 => ?_) (fun j q => ?_) (fun q => absurd q (by omega)) (fun _ => ⟨n2, ?_⟩) (fun i hi => z2 i hi)) (hB.2.2.upd (by omega) (by omega) (by omega))
    · rw [g1 0 5 (by omega), f1 0 5 (by omega) (by omega), mu_at, f2 30 0 (by omega) (by omega) (by omega), mu_at]
    · rw [g1 _ _ (by omega), l1, hl1]
    · rw [g1 _ _ (by omega), n1]
    · rw [g1 _ _ (by omega), z1 i (by omega)]
    · rcases q1 with rfl | rfl
      · rw [f2 44 j (Or.inr q2) (by omega) (by omega), mu_ne _ _ (by omega), f1 _ _ (by omega) (by omega), mu_ne _ _ (by omega)]
      · rw [f2 45 j (by omega) (Or.inr q2) (by omega), mu_ne _ _ (by omega), f1 _ _ (by omega) (by omega), mu_ne _ _ (by omega)]
    · rw [f2 46 j (by omega) (by omega) (by omega), mu_ne _ _ (by omega), f1 _ _ (by omega) (by omega), mu_ne _ _ (by omega)]
    · rw [l2, Nat.add_sub_cancel]
theorem s_lose {k : Int32} (hX : JX μ τ ρ θ ζ) (hM : JM μ τ ρ θ ζ) (hB : JB τ ρ θ) (hE : JE μ) {μ1 μ2 : Mem} (e1 : μ1 = if inB k 4 = true then mu (mu μ (14 + ix k) 1 (-1)) (14 + ix k) 2 (nI 0) else μ) (e2 : μ2 = if inB k 4 = true then mu μ1 44 (ix k) (-1) else μ1) : INV μ2 := by
  by_cases ho : inB k 4 = true
  · rw [if_pos ho] at e1 e2
    obtain ⟨jk, hk, rfl⟩ := inB_of ho (by omega)
    rw [ix_nI (by omega)] at e1 e2
    have hf : ∀ c j, c ≠ 14 + jk → (c ≠ 44 ∨ j ≠ jk) → μ2 c j = μ c j := fun c j q1 q2 => by rw [e2, mu_ne _ _ q2, e1, mu_ne _ _ (Or.inl q1), mu_ne _ _ (Or.inl q1)]
    refine inv_sh (θ2 := tN θ jk 0 0) (ζ2 := zN ζ jk (fun _ => nI 0)) hX hM hB hE (fun c j q1 q2 q3 q4 q5 q6 q7 q8 _ => hf c j (by omega) (by omega)) ?_ (hX.2.2.2.upd hk (fun c j q1 q2 q3 q4 => hf c j q3 (by omega)) ⟨?_, ?_, by omega, by omega, fun i hi => absurd hi (by omega)⟩) (hM.2.2.1.upd hB.2.2 hk (fun c j q1 q2 => hf c j (by omega) (by omega)) (fun j q => hf _ _ (by omega) (by omega)) (fun _ => ?_) (fun q => absurd q (by omega)) (fun i hi => absurd hi (by omega))) (hB.2.2.upd (by omega) (by omega) (fun _ => rfl))
    · rw [hf 0 5 (by omega) (by omega), hf 30 0 (by omega) (by omega)]; exact hE.2
    · rw [e2, mu_ne _ _ (by omega), e1, mu_k _ _ (by decide), mu_at]; rfl
    · rw [e2, mu_ne _ _ (by omega), e1, mu_at]
    · rw [e2, mu_at]
  · rw [if_neg ho] at e1 e2
    subst e1 e2
    exact ⟨τ, ρ, θ, ζ, hX, hM, hB, hE⟩
theorem s_put {k i v : Int32} (hX : JX μ τ ρ θ ζ) (hM : JM μ τ ρ θ ζ) (hB : JB τ ρ θ) (hE : JE μ) {μ1 μ2 : Mem} (e1 : μ1 = if ok_put θ k i = true then mu (mu μ 0 5 (nI 0)) (14 + ix k + 4) (ix i) (cutI (θ (ix k) 0) v) else mu μ 0 5 (nI (f_put θ k i)))
    (e2 : μ2 = if ok_put θ k i = true then mu (mu μ1 46 (60 * ix k + ix i) (cutI (θ (ix k) 0) v)) 30 0 (nI 0) else mu μ1 30 0 (nI (f_put θ k i))) : INV μ2 := by
  by_cases ho : ok_put θ k i = true
  · rw [if_pos ho] at e1 e2
    simp only [ok_put, Bool.and_eq_true, decide_eq_true_eq] at ho
    obtain ⟨h1, h2, h3⟩ := ho
    obtain ⟨jk, hk, rfl⟩ := inB_of h1 (by omega)
    rw [ix_nI (by omega)] at h2 h3
    obtain ⟨b1, b2, b3⟩ := hB.2.2 jk hk
    obtain ⟨ji, hi, rfl⟩ := inB_of h3 (by omega)
    rw [ix_nI (show jk < 2 ^ 31 by omega), ix_nI (show ji < 2 ^ 31 by omega)] at e1 e2
    have hf : ∀ c j, (c ≠ 14 + jk + 4 ∨ j ≠ ji) → (c ≠ 46 ∨ j ≠ 60 * jk + ji) → (c ≠ 0 ∨ j ≠ 5) → (c ≠ 30 ∨ j ≠ 0) → μ2 c j = μ c j := fun c j q1 q2 q3 q4 => by rw [e2, mu_ne _ _ q4, mu_ne _ _ q2, e1, mu_ne _ _ q1, mu_ne _ _ q3]
    obtain ⟨s1, s2, s3, s4, s5⟩ := hX.2.2.2 jk hk
    obtain ⟨m0, m1, m2⟩ := hM.2.2.1 jk hk
    refine inv_sh (θ2 := tN θ jk (θ jk 0) (θ jk 1)) (ζ2 := zN ζ jk (fun x => if x = ji then cutI (θ jk 0) v else ζ jk x)) hX hM hB hE (fun c j q1 q2 q3 q4 q5 q6 q7 q8 _ => hf c j (by omega) (by omega) q4 q5) ?_ (hX.2.2.2.upd hk (fun c j q1 q2 q3 q4 => hf c j (by omega) (by omega) (by omega) (by omega)) ⟨?_, ?_, s3, s4, fun x hx => ?_⟩) (hM.2.2.1.upd hB.2.2 hk (fun c j q1 q2 => hf c j (by omega) (by omega) (by omega) (by omega)) (fun j q => hf _ _ (by omega) (by omega) (by omega) (by omega)) (fun q => absurd q (by omega)) (fun q => ?_) (fun x hx => ?_)) (hB.2.2.upd b1 b2 b3)
    · rw [e2, mu_at, mu_ne _ _ (by omega), mu_ne _ _ (by omega), e1, mu_ne _ _ (by omega), mu_at]
    · rw [hf _ _ (by omega) (by omega) (by omega) (by omega)]; exact s1
    · rw [hf _ _ (by omega) (by omega) (by omega) (by omega)]; exact s2
    · show _ = if x = ji then cutI (θ jk 0) v else ζ jk x
      by_cases e : x = ji
      · subst e; rw [if_pos rfl, e2, mu_ne _ _ (by omega), mu_ne _ _ (by omega), e1, mu_at]
      · rw [if_neg e, hf _ _ (by omega) (by omega) (by omega) (by omega)]; exact s5 x hx
    · rw [hf _ _ (by omega) (by omega) (by omega) (by omega), hf _ _ (by omega) (by omega) (by omega) (by omega)]; exact m1 q
    · show _ = if x = ji then cutI (θ jk 0) v else ζ jk x
      by_cases e : x = ji
      · subst e; rw [if_pos rfl, e2, mu_ne _ _ (by omega), mu_at]
      · rw [if_neg e, hf _ _ (by omega) (by omega) (by omega) (by omega)]; exact m2 x hx
  · rw [if_neg ho] at e1 e2
    subst e1
    exact inv_flt (f := f_put θ k i) ⟨τ, ρ, θ, ζ, hX, hM, hB, hE⟩ (fun c j q1 q2 => by rw [e2, mu_ne _ _ (by omega), mu_ne _ _ q1]) (by rw [e2, mu_ne _ _ (by decide), mu_at]) (by rw [e2, mu_at])
theorem s_copy {k i o j n : Int32} (hX : JX μ τ ρ θ ζ) (hM : JM μ τ ρ θ ζ) (hB : JB τ ρ θ) (hE : JE μ) {μ1 μ2 : Mem} (e1 : μ1 = if ok_copy θ k i o j n = true then mr (mu μ 0 5 (nI 0)) (14 + ix o + 4) (va_cpy (μ (14 + ix k + 4)) (μ (14 + ix o + 4)) (ix i) (ix j) (ix n)) else mu μ 0 5 (nI (f_copy θ k i o j n)))
    (e2 : (ok_copy θ k i o j n = false → μ2 = mu μ1 30 0 (nI (f_copy θ k i o j n))) ∧ (ok_copy θ k i o j n = true → (∀ c1 k1, c1 ≠ 47 → (c1 ≠ 46 ∨ k1 < 60 * ix o ∨ 60 * ix o + 60 ≤ k1) → μ2 c1 k1 = mu μ1 30 0 (nI 0) c1 k1) ∧ ∀ x, x < θ (ix o) 1 → μ2 46 (60 * ix o + x) = va_cpy (ζ (ix k)) (ζ (ix o)) (ix i) (ix j) (ix n) x)) : INV μ2 := by
  cases ho : ok_copy θ k i o j n with
  | false =>
    have a2 := e2.1 ho
    rw [if_neg (by rw [ho]; decide)] at e1
    subst e1
    exact inv_flt (f := f_copy θ k i o j n) ⟨τ, ρ, θ, ζ, hX, hM, hB, hE⟩ (fun c j q1 q2 => by rw [a2, mu_ne _ _ (by omega), mu_ne _ _ q1]) (by rw [a2, mu_ne _ _ (by decide), mu_at]) (by rw [a2, mu_at])
  | true =>
    rw [if_pos ho] at e1
    obtain ⟨f2, z2⟩ := e2.2 ho
    simp only [ok_copy, Bool.and_eq_true, decide_eq_true_eq] at ho
    obtain ⟨h1, h2, ⟨h3, h4, h5⟩, h6, h7⟩ := ho
    obtain ⟨jk, hk, rfl⟩ := inB_of h1 (by omega)
    obtain ⟨jo, ho, rfl⟩ := inB_of h2 (by omega)
    rw [ix_nI (show jk < 2 ^ 31 by omega)] at *
    rw [ix_nI (show jo < 2 ^ 31 by omega)] at *
    obtain ⟨b1, b2, b3⟩ := hB.2.2 jo ho
    obtain ⟨b4, b5, b6⟩ := hB.2.2 jk hk
    have g6 := of_decide_eq_true h6
    have g7 := of_decide_eq_true h7
    obtain ⟨jn, hn, rfl⟩ := inB_of (x := n) (n := 61) (inB_t (by omega)) (by omega)
    obtain ⟨ji, hi, rfl⟩ := inB_of (x := i) (n := 61) (inB_t (by omega)) (by omega)
    obtain ⟨jj, hj, rfl⟩ := inB_of (x := j) (n := 61) (inB_t (by omega)) (by omega)
    rw [nI_toInt (show ji < 2 ^ 31 by omega), nI_toInt (show jn < 2 ^ 31 by omega)] at g6
    rw [nI_toInt (show jj < 2 ^ 31 by omega), nI_toInt (show jn < 2 ^ 31 by omega)] at g7
    rw [ix_nI (show ji < 2 ^ 31 by omega), ix_nI (show jj < 2 ^ 31 by omega), ix_nI (show jn < 2 ^ 31 by omega)] at e1 z2
    have f1 : ∀ c q, c ≠ 14 + jo + 4 → μ1 c q = mu μ 0 5 (nI 0) c q := fun c q h => by rw [e1, mr_c _ _ h]
    have g1 : ∀ c q, c < 30 → μ2 c q = μ1 c q := fun c q h => by rw [f2 c q (by omega) (by omega), mu_ne _ _ (by omega)]
    have hf : ∀ c q, c ≠ 14 + jo + 4 → c ≠ 46 → c ≠ 47 → (c ≠ 0 ∨ q ≠ 5) → (c ≠ 30 ∨ q ≠ 0) → μ2 c q = μ c q := fun c q q1 q2 q3 q4 q5 => by rw [f2 c q q3 (Or.inl q2), mu_ne _ _ q5, f1 c q q1, mu_ne _ _ q4]
    obtain ⟨s1, s2, s3, s4, s5⟩ := hX.2.2.2 jo ho
    have t5 := (hX.2.2.2 jk hk).2.2.2.2
    obtain ⟨m0, m1, m2⟩ := hM.2.2.1 jo ho
    refine inv_sh (θ2 := tN θ jo (θ jo 0) (θ jo 1)) (ζ2 := zN ζ jo (va_cpy (ζ jk) (ζ jo) ji jj jn)) hX hM hB hE (fun c j q1 q2 q3 q4 q5 q6 q7 q8 q9 => hf c j (by omega) (by omega) (by omega) q4 q5) ?_ (hX.2.2.2.upd ho (fun c j q1 q2 q3 q4 => hf c j q4 (by omega) (by omega) (by omega) (by omega)) ⟨?_, ?_, s3, s4, fun x hx => ?_⟩) (hM.2.2.1.upd hB.2.2 ho (fun c j q1 q2 => hf c j (by omega) (by omega) (by omega) (by omega) (by omega)) (fun q hq => ?_) (fun q => absurd q (by omega)) (fun q => ?_) (fun x hx => z2 x hx)) (hB.2.2.upd b1 b2 b3)
    · rw [g1 0 5 (by omega), f1 0 5 (by omega), mu_at, f2 30 0 (by omega) (by omega), mu_at]
    · rw [hf _ _ (by omega) (by omega) (by omega) (by omega) (by omega)]; exact s1
    · rw [hf _ _ (by omega) (by omega) (by omega) (by omega) (by omega)]; exact s2
    · rw [g1 _ _ (by omega), e1, mr_row]
      by_cases e : jj ≤ x ∧ x < jj + jn
      · rw [pk_cpy_in e.1 e.2, pk_cpy_in e.1 e.2]; exact t5 _ (by omega)
      · rw [pk_cpy_out (by omega), pk_cpy_out (by omega)]; exact s5 x hx
    · rw [f2 46 q (by omega) (by omega), mu_ne _ _ (by omega), f1 _ _ (by omega), mu_ne _ _ (by omega)]
    · rw [hf _ _ (by omega) (by omega) (by omega) (by omega) (by omega), hf _ _ (by omega) (by omega) (by omega) (by omega) (by omega)]; exact m1 q
theorem s_town {k la i n : Int32} (hX : JX μ τ ρ θ ζ) (hM : JM μ τ ρ θ ζ) (hB : JB τ ρ θ) (hE : JE μ) {μ1 μ2 : Mem} (e1 : tT μ μ1 τ θ ζ k la i n) (e2 : tM μ1 μ2 τ θ ζ k la i n) : INV μ2 := by
  obtain ⟨a5, ⟨τ2, a2, a3⟩, af, an, ay⟩ := e1
  obtain ⟨bn, by_⟩ := e2
  cases ho : okT θ ζ k la i n with
  | false =>
    have an := an ho
    have bn := bn ho
    have hlo : ∀ c q, c < 30 → μ2 c q = μ1 c q := fun c q h => by rw [bn c q (by omega) (by omega), mu_ne _ _ (by omega)]
    have hhi : ∀ c q, 30 ≤ c → (c < 35 ∨ 38 < c) → (c ≠ 30 ∨ (q ≠ 0 ∧ (q < 8 ∨ 10 < q))) → μ2 c q = μ c q := fun c q h h2 h3 => by rw [bn c q h2 (by omega), mu_ne _ _ (by omega), an c q (by omega) (by omega) (by omega) (by omega)]
    have hc : ∀ c q, c < 30 → c ≠ 2 → c ≠ 8 → (c < 26 ∨ 29 < c) → (c ≠ 0 ∨ q ≠ 5) → μ2 c q = μ c q := fun c q h h1 h2 h3 h4 => (hlo c q h).trans (an c q h1 h2 h3 h4)
    refine ⟨τ, ρ, θ, ζ, ⟨?_, ⟨τ2, ?_, a3⟩, ?_, ?_⟩, ?_, hB, ?_, ?_⟩
    · exact hX.1.same (fun _ _ => hc _ _ (by omega) (by omega) (by omega) (by omega) (by omega)) (fun _ _ _ => hc _ _ (by omega) (by omega) (by omega) (by omega) (by omega)) (fun _ => hc _ _ (by omega) (by omega) (by omega) (by omega) (by omega))
    · exact a2.same (fun _ _ => hlo _ _ (by omega)) (fun _ _ _ => hlo _ _ (by omega)) (fun _ => hlo _ _ (by omega))
    · exact hX.2.2.1.same (hc _ _ (by omega) (by omega) (by omega) (by omega) (by omega)) (fun _ _ _ _ => hc _ _ (by omega) (by omega) (by omega) (by omega) (by omega))
    · exact hX.2.2.2.same (fun _ _ _ _ => hc _ _ (by omega) (by omega) (by omega) (by omega) (by omega))
    · exact hM.fr (fun q _ => hhi 30 q (by omega) (by omega) (by omega)) (fun c q _ => hhi c q (by omega) (by omega) (by omega))
    · rw [hc 0 4 (by omega) (by omega) (by omega) (by omega) (by omega), hhi 30 29 (by omega) (by omega) (by omega)]; exact hE.1
    · rw [hlo 0 5 (by omega), a5, bn 30 0 (by omega) (by omega), mu_at]
  | true =>
    obtain ⟨c3, t, c4, c5, c6⟩ := ay ho
    obtain ⟨bf, b21, t', d4, -, d6⟩ := by_ ho
    have htt : t = t' := by rw [c4] at d4; exact Option.some.inj d4
    subst htt
    have hpb := pr_B hB.1.1 _ _ t c4
    have htv : tV t := pV hpb c5
    have hfz : f_town θ k la i n = 0 := by
      simp only [okT, Bool.and_eq_true, decide_eq_true_eq] at ho
      exact ho.2.2.1
    have hlo : ∀ c q, c < 30 → μ2 c q = μ1 c q := fun c q h => by rw [bf c q (by omega) (by omega), mu_ne _ _ (by omega)]
    have hc : ∀ c q, c < 30 → c ≠ 1 → c ≠ 7 → (c < 22 ∨ 25 < c) → (c ≠ 3 ∨ q ≠ 3) → c ≠ 2 → c ≠ 8 → (c < 26 ∨ 29 < c) → (c ≠ 0 ∨ q ≠ 5) → μ2 c q = μ c q := fun c q h h1 h2 h3 h4 h5 h6 h7 h8 => (hlo c q h).trans (af c q h1 h2 h3 h4 h5 h6 h7 h8)
    have hhi : ∀ c q, 38 < c → μ2 c q = μ c q := fun c q h => by rw [bf c q (by omega) (by omega), mu_ne _ _ (by omega), af c q (by omega) (by omega) (by omega) (by omega) (by omega) (by omega) (by omega) (by omega)]
    have r3 : tu ρ 3 0 0 3 0 = 0 := by simp [tu]
    have rr : ∀ r q, r ≠ 3 → tu ρ 3 0 0 r q = ρ r q := fun r q h => tu_r _ _ _ h
    refine ⟨t, tu ρ 3 0 0, θ, ζ, ⟨?_, ⟨τ2, ?_, a3⟩, ⟨?_, fun q hq => ?_⟩, ?_⟩, ⟨d6, ⟨?_, fun q hq => ?_⟩, ?_, ?_⟩, ⟨htv, ⟨?_, fun q hq => ?_⟩, hB.2.2⟩, ?_, ?_⟩
    · exact c6.same (fun _ _ => hlo _ _ (by omega)) (fun _ _ _ => hlo _ _ (by omega)) (fun _ => hlo _ _ (by omega))
    · exact a2.same (fun _ _ => hlo _ _ (by omega)) (fun _ _ _ => hlo _ _ (by omega)) (fun _ => hlo _ _ (by omega))
    · rw [hlo _ _ (by omega), c3, r3]
    · rw [hc _ _ (by omega) (by omega) (by omega) (by omega) (by omega) (by omega) (by omega) (by omega) (by omega), hc _ _ (by omega) (by omega) (by omega) (by omega) (by omega) (by omega) (by omega) (by omega) (by omega), hc _ _ (by omega) (by omega) (by omega) (by omega) (by omega) (by omega) (by omega) (by omega) (by omega), rr _ _ (by decide), rr _ _ (by decide), rr _ _ (by decide)]; exact hX.2.2.1.2 q hq
    · exact hX.2.2.2.same (fun _ _ _ _ => hc _ _ (by omega) (by omega) (by omega) (by omega) (by omega) (by omega) (by omega) (by omega) (by omega))
    · rw [b21, r3]
    · rw [r3] at hq; exact absurd hq (Nat.not_lt_zero q)
    · exact hM.2.2.1.same (fun _ _ _ _ => hhi _ _ (by omega))
    · rw [bf 30 7 (by omega) (by omega), mu_ne _ _ (by omega), af 30 7 (by omega) (by omega) (by omega) (by omega) (by omega) (by omega) (by omega) (by omega)]; exact hM.2.2.2
    · rw [r3]; omega
    · rw [r3] at hq; exact absurd hq (Nat.not_lt_zero q)
    · rw [hc 0 4 (by omega) (by omega) (by omega) (by omega) (by omega) (by omega) (by omega) (by omega) (by omega), bf 30 29 (by omega) (by omega), mu_ne _ _ (by omega), af 30 29 (by omega) (by omega) (by omega) (by omega) (by omega) (by omega) (by omega) (by omega)]; exact hE.1
    · rw [hlo 0 5 (by omega), a5, hfz, bf 30 0 (by omega) (by omega), mu_at]
end JU
