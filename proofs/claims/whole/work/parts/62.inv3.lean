section JV
variable {μ μ1 μ2 : Mem} {τ ρ θ : Tn} {ζ : Nat → Nat → Int32}
theorem j_lay {p v : Int32} (e1 : μ1 = if ok_lay τ p v = true then mu μ 7 (ix p) v else μ) : ∀ c k, 30 ≤ c → μ1 c k = μ c k := fun c k h => by
  rw [e1]
  split
  · exact mu_ne _ _ (Or.inl (by omega))
  · rfl
theorem j_stride {a v : Int32} (hB : JB τ ρ θ) (e1 : μ1 = if ok_stride τ a v = true then mu μ (4 * 1 + 18 + ix a) 2 v else μ) : ∀ c k, 30 ≤ c → μ1 c k = μ c k := fun c k h => by
  rw [e1]
  split
  · rename_i ho
    simp only [ok_stride, Bool.and_eq_true] at ho
    have hS4 : tS τ ≤ 4 := hB.1.1.2.1
    obtain ⟨ja, hja, rfl⟩ := inB_of ho.1 (by omega)
    rw [ix_nI (by omega)]
    exact mu_ne _ _ (Or.inl (by omega))
  · rfl
theorem j_reading {a m p : Int32} (e1 : μ1 = if ok_reading τ ρ a m p = true then mu (mu (mu (mu μ 11 (ρ 3 0) a) 12 (ρ 3 0) m) 13 (ρ 3 0) p) 3 3 (nI (ρ 3 0 + 1)) else μ) : ∀ c k, 30 ≤ c → μ1 c k = μ c k := fun c k h => by
  rw [e1]
  split
  · rw [mu_ne _ _ (Or.inl (by omega)), mu_ne _ _ (Or.inl (by omega)), mu_ne _ _ (Or.inl (by omega)), mu_ne _ _ (Or.inl (by omega))]
  · rfl
theorem j_back {k : Int32} {b : Bool} {w : Int32} (e1 : μ1 = if b = true then mu μ 3 3 w else μ) : ∀ c k, 30 ≤ c → μ1 c k = μ c k := fun c k h => by
  rw [e1]
  split
  · exact mu_ne _ _ (Or.inl (by omega))
  · rfl
theorem j_tell {b : Bool} {w : Int32} (e1 : μ1 = if b = true then mu μ 0 4 w else μ) : ∀ c k, 30 ≤ c → μ1 c k = μ c k := fun c k h => by
  rw [e1]
  split
  · exact mu_ne _ _ (Or.inl (by omega))
  · rfl
theorem j_flt {w : Int32} (e1 : μ1 = mu μ 0 5 w) : ∀ c k, 30 ≤ c → μ1 c k = μ c k := fun c k h => by rw [e1]; exact mu_ne _ _ (Or.inl (by omega))
theorem j_sheet {k la n : Int32} (e1 : (ok_sheet k la n = false → μ1 = mu μ 0 5 (nI (f_sheet k la n))) ∧ (ok_sheet k la n = true → (∀ c1 k1, c1 ≠ 14 + ix k → c1 ≠ 14 + ix k + 4 → μ1 c1 k1 = mu μ 0 5 (nI 0) c1 k1) ∧ (∀ j, j < 60 → μ1 (14 + ix k + 4) j = nI 0) ∧ μ1 (14 + ix k) 1 = la ∧ μ1 (14 + ix k) 2 = n)) : ∀ c k, 30 ≤ c → μ1 c k = μ c k := fun c q h => by
  cases ho : ok_sheet k la n with
  | false => rw [e1.1 ho]; exact mu_ne _ _ (Or.inl (by omega))
  | true =>
    have f1 := (e1.2 ho).1
    simp only [ok_sheet, Bool.and_eq_true] at ho
    obtain ⟨jk, hk, rfl⟩ := inB_of ho.1 (by omega)
    rw [ix_nI (by omega)] at f1
    rw [f1 c q (by omega) (by omega)]; exact mu_ne _ _ (Or.inl (by omega))
theorem j_lose {k : Int32} (e1 : μ1 = if inB k 4 = true then mu (mu μ (14 + ix k) 1 (-1)) (14 + ix k) 2 (nI 0) else μ) : ∀ c k, 30 ≤ c → μ1 c k = μ c k := fun c q h => by
  rw [e1]
  split
  · rename_i ho
    obtain ⟨jk, hk, rfl⟩ := inB_of ho (by omega)
    rw [ix_nI (by omega), mu_ne _ _ (Or.inl (by omega)), mu_ne _ _ (Or.inl (by omega))]
  · rfl
theorem j_put {k i v : Int32} (e1 : μ1 = if ok_put θ k i = true then mu (mu μ 0 5 (nI 0)) (14 + ix k + 4) (ix i) (cutI (θ (ix k) 0) v) else mu μ 0 5 (nI (f_put θ k i))) : ∀ c k, 30 ≤ c → μ1 c k = μ c k := fun c q h => by
  rw [e1]
  split
  · rename_i ho
    simp only [ok_put, Bool.and_eq_true] at ho
    obtain ⟨jk, hk, rfl⟩ := inB_of ho.1 (by omega)
    rw [ix_nI (by omega), mu_ne _ _ (Or.inl (by omega)), mu_ne _ _ (Or.inl (by omega))]
  · exact mu_ne _ _ (Or.inl (by omega))
theorem j_copy {k i o j n : Int32} (e1 : μ1 = if ok_copy θ k i o j n = true then mr (mu μ 0 5 (nI 0)) (14 + ix o + 4) (va_cpy (μ (14 + ix k + 4)) (μ (14 + ix o + 4)) (ix i) (ix j) (ix n)) else mu μ 0 5 (nI (f_copy θ k i o j n))) : ∀ c k, 30 ≤ c → μ1 c k = μ c k := fun c q h => by
  rw [e1]
  split
  · rename_i ho
    simp only [ok_copy, Bool.and_eq_true] at ho
    obtain ⟨jo, hk, rfl⟩ := inB_of ho.2.1 (by omega)
    rw [ix_nI (show jo < 2 ^ 31 by omega), mr_c _ _ (by omega)]
    exact mu_ne _ _ (Or.inl (by omega))
  · exact mu_ne _ _ (Or.inl (by omega))
theorem j_town {k la i n : Int32} (e1 : tT μ μ1 τ θ ζ k la i n) : ∀ c k, 30 ≤ c → μ1 c k = μ c k := fun c q h => e1.2.2.1 c q (by omega) (by omega) (by omega) (by omega) (by omega) (by omega) (by omega) (by omega)
theorem s_tell {b : Bool} {F : Int32 → Int32} (hI : INV μ) (hE : JE μ) (e1 : μ1 = if b = true then mu μ 0 4 (F (μ 0 4)) else μ) (e2 : μ2 = if b = true then mu μ1 30 29 (F (μ1 30 29)) else μ1) : INV μ2 := by
  by_cases ho : b = true
  · rw [if_pos ho] at e1 e2
    subst e1
    refine inv_tr (x := F (μ 0 4)) hI (fun c k q1 q2 => by rw [e2, mu_ne _ _ q2, mu_ne _ _ q1]) (by rw [e2, mu_ne _ _ (by decide), mu_at]) ?_
    rw [e2, mu_at, mu_ne _ _ (by decide), hE.1]
  · rw [if_neg ho] at e1 e2
    subst e1 e2
    exact hI
theorem s_flt {f : Nat} (hI : INV μ) (e1 : μ1 = mu μ 0 5 (nI f)) (e2 : μ2 = mu μ1 30 0 (nI f)) : INV μ2 := by
  subst e1
  exact inv_flt (f := f) hI (fun c j q1 q2 => by rw [e2, mu_ne _ _ (by omega), mu_ne _ _ q1]) (by rw [e2, mu_ne _ _ (by decide), mu_at]) (by rw [e2, mu_at])
theorem s_walk {f : Nat} (hI : INV μ) (e1 : μ1 = mu μ 0 5 (nI f)) (e2 : ∀ c1 k1, (c1 ≠ 30 ∨ k1 < 16 ∨ 19 < k1) → μ2 c1 k1 = mu μ1 30 0 (nI f) c1 k1) : INV μ2 := by
  subst e1
  exact inv_flt (f := f) hI (fun c j q1 q2 => by rw [e2 c j (by omega), mu_ne _ _ (by omega), mu_ne _ _ q1]) (by rw [e2 0 5 (by omega), mu_ne _ _ (by decide), mu_at]) (by rw [e2 30 0 (by omega), mu_at])
end JV
