/-! what each call answers -/
def fs (p : Nat → Bool) : Nat → Nat → Option Nat
  | _, 0 => none
  | n, k + 1 => if p n = true then some n else fs p (n + 1) k
theorem fs_t {p : Nat → Bool} {n K : Nat} (h : p n = true) (hn : n < K) : fs p n (K - n) = some n := by
  obtain ⟨k, hk⟩ : ∃ k, K - n = k + 1 := ⟨K - n - 1, by omega⟩
  rw [hk, fs, if_pos h]
theorem fs_f {p : Nat → Bool} {n K : Nat} (h : p n = false) (hn : n < K) : fs p n (K - n) = fs p (n + 1) (K - (n + 1)) := by
  obtain ⟨k, hk⟩ : ∃ k, K - n = k + 1 := ⟨K - n - 1, by omega⟩
  rw [hk, fs, if_neg (by rw [h]; decide), show K - (n + 1) = k by omega]
theorem fs_0 {p : Nat → Bool} {n K : Nat} (hn : n = K) : fs p n (K - n) = none := by
  rw [hn, Nat.sub_self, fs]
def q_ofSleeper (τ : Tn) (a w : Int32) : Int32 := if inB a (tS τ) = true then (if w.toInt = 0 then nI (tK τ (ix a)) else if w.toInt = 1 then nI (tA τ (ix a)) else if w.toInt = 2 then nI (tD τ (ix a)) else -2) else -1
def q_goods (τ : Tn) (p : Int32) : Int32 := if inB p (tP τ) = true then nI (tG τ (ix p)) else -1
def q_lay (τ : Tn) (p v : Int32) : Int32 := if inB p (tP τ) = true then (if inB v 10 = true then nI (tG τ (ix p)) else -2) else -1
def ok_lay (τ : Tn) (p v : Int32) : Bool := inB p (tP τ) && inB v 10
def q_stride (τ : Tn) (a v : Int32) : Int32 := if inB a (tS τ) = true then (if inB v 4 = true then nI (tD τ (ix a)) else -2) else -1
def ok_stride (τ : Tn) (a v : Int32) : Bool := inB a (tS τ) && inB v 4
def q_where (τ : Tn) (a m : Int32) : Int32 := if inB a (tS τ) = true then (if inB m 61 = true then nI (pl τ (ix a) (ix m)) else -2) else -1
def q_taken (τ : Tn) (a m : Int32) : Int32 := if inB a (tS τ) = true then (if inB m 61 = true then nI (tk τ (ix a) ((ix m + 1) * tS τ)) else -2) else -1
def q_free (τ : Tn) (m : Int32) : Int32 := if inB m 61 = true then (if 0 < tP τ then nI (frS τ 15 (ix m)) else -3) else -2
def mtB (τ : Tn) (a b m : Nat) : Bool := decide (pl τ a m = pl τ b m)
def q_meet (τ : Tn) (a b : Int32) : Int32 := if inB a (tS τ) = true then (if inB b (tS τ) = true then (if ix a = ix b then -1 else oI (fs (mtB τ (ix a) (ix b)) 0 61)) else -1) else -1
def dst (v d : Nat) : Nat := (v - d) + (d - v)
def stS (τ : Tn) (a p m : Nat) : Nat → Option Nat
  | 0 => none
  | v + 1 => match stS τ a p m v with
    | none => if pif τ (tK τ a) (tA τ a) v m = p then some v else none
    | some b => if dst v (tD τ a) < dst b (tD τ a) ∧ pif τ (tK τ a) (tA τ a) v m = p then some v else some b
theorem stS_lt {τ : Tn} {a p m : Nat} : ∀ {v b : Nat}, stS τ a p m v = some b → b < v
  | 0, b, h => by cases h
  | v + 1, b, h => by
    rw [stS] at h
    cases e : stS τ a p m v with
    | none =>
      rw [e] at h
      dsimp only at h
      split at h
      · cases h; omega
      · cases h
    | some c =>
      have := stS_lt e
      rw [e] at h
      dsimp only at h
      split at h
      · cases h; omega
      · cases h; omega
theorem stS_n {τ : Tn} {a p m v : Nat} (h : stS τ a p m v = none) : stS τ a p m (v + 1) = if pif τ (tK τ a) (tA τ a) v m = p then some v else none := by rw [stS, h]
theorem stS_s {τ : Tn} {a p m v b : Nat} (h : stS τ a p m v = some b) : stS τ a p m (v + 1) = if dst v (tD τ a) < dst b (tD τ a) ∧ pif τ (tK τ a) (tA τ a) v m = p then some v else some b := by rw [stS, h]
theorem i_abs {v d : Nat} (hv : v < 1000) (hd : d < 1000) : (if 0 ≤ nI v - nI d then nI v - nI d else 0 - (nI v - nI d)) = nI (dst v d) := by
  have h : (nI v - nI d).toInt = (v : Int) - d := pk_sub_toInt (by omega) (by omega)
  by_cases c : d ≤ v
  · rw [if_pos (Int32.le_iff_toInt_le.mpr (by rw [h, Int32.toInt_zero]; omega)), pk_sub c, dst, show d - v = 0 by omega, Nat.add_zero]
  · rw [if_neg (fun q => by have := Int32.le_iff_toInt_le.mp q; rw [h, Int32.toInt_zero] at this; omega)]
    apply Int32.toInt_inj.mp
    rw [Int32.toInt_sub, h, Int32.toInt_zero, nI_toInt (by unfold dst; omega), Int.bmod_eq_of_le] <;> first | omega | (unfold dst; omega)
def q_steer (τ : Tn) (a p m : Int32) : Int32 := if inB a (tS τ) = true then (if inB p (tP τ) = true then (if inB m 61 = true then oI (stS τ (ix a) (ix p) (ix m) 4) else -2) else -1) else -1
def q_guard (τ : Tn) : Int32 := if 0 < tP τ then nI (gbS τ (tP τ)).1 else -3
def q_reading (τ ρ : Tn) (a m p : Int32) : Int32 := if inB a (tS τ) = true then (if inB p (tP τ) = true then (if inB m 61 = true then (if ρ 3 0 = 8 then -4 else nI (ρ 3 0)) else -2) else -1) else -1
def ok_reading (τ ρ : Tn) (a m p : Int32) : Bool := inB a (tS τ) && (inB p (tP τ) && (inB m 61 && decide (ρ 3 0 < 8)))
def q_back (ρ : Tn) (k : Int32) : Int32 := if inB k (ρ 3 0 + 1) = true then nI (ρ 3 0 - ix k) else -2
def q_strides (τ ρ : Tn) (a : Int32) : Int32 := if inB a (tS τ) = true then nI (bs 4 (fun v => soB (tu τ 3 (ix a) v) ρ)) else -1
def q_kinds (τ ρ : Tn) (a : Int32) : Int32 := if inB a (tS τ) = true then nI (bs 3 (fun v => soB (tu τ 1 (ix a) v) ρ)) else -1
def q_starts (τ ρ : Tn) (a : Int32) : Int32 := if inB a (tS τ) = true then nI (bs (tP τ) (fun v => soB (tu τ 2 (ix a) v) ρ)) else -1
def q_many (τ ρ : Tn) (w : Int32) : Int32 := if w.toInt = 0 then nI (tS τ) else if w.toInt = 1 then nI (tP τ) else if w.toInt = 2 then nI (gsm τ (tP τ)) else if w.toInt = 3 then nI (ρ 3 0) else -2
/-- a trace behind a body -/
def lv31 (t b : Int32) : Int32 := nI 31 * t + b
def q_tell (τ : Tn) (a : Int32) : Int32 := if inB a (tS τ) = true then (if tK τ (ix a) = 0 then nI (tD τ (ix a)) else if tK τ (ix a) = 1 then nI (tD τ (ix a) + 100) else nI (tD τ (ix a) + 100 + tD τ (ix a))) else -1
def tr_tell (τ : Tn) (a t : Int32) : Int32 := if tK τ (ix a) = 0 then lv31 t (nI 1) else if tK τ (ix a) = 1 then lv31 (lv31 t (nI 2)) (nI 1) else lv31 (lv31 (lv31 (lv31 t (nI 3)) (nI 2)) (nI 1)) (nI 1)
def q_waken (τ : Tn) (a : Int32) : Int32 := if inB a (tS τ) = true then (if tK τ (ix a) = 2 then nI 90 else a) else -1
def tr_waken (τ : Tn) (a t : Int32) : Int32 := if tK τ (ix a) = 2 then lv31 t (nI 5) else lv31 t (nI 4)
def q_as (τ : Tn) (a k : Int32) : Int32 := if inB a (tS τ) = true then (if inB k 3 = true then (if ix k ≤ tK τ (ix a) then nI 1 else -10 - nI 2) else -2) else -1
def f_as (τ : Tn) (a k : Int32) : Nat := if inB a (tS τ) = true ∧ inB k 3 = true ∧ tK τ (ix a) < ix k then 2 else 0
theorem mu_mu (μ : Mem) (c k : Nat) (v w : Int32) : mu (mu μ c k v) c k w = mu μ c k w := by
  funext c' k'
  by_cases h : c' = c
  · subst h
    rw [mu_row, mu_row, mu_row]
    simp only [upd]
    split <;> rfl
  · rw [mu_c _ _ _ h, mu_c _ _ _ h, mu_c _ _ _ h]
theorem TX.f0 {μ : Mem} {τ : Tn} (h : TX μ 1 τ) (k : Nat) (v : Int32) : TX (mu μ 0 k v) 1 τ := h.same (fun _ _ => mu_ne _ _ (Or.inl (by decide))) (fun _ _ _ => mu_ne _ _ (Or.inl (by omega))) (fun _ => mu_ne _ _ (Or.inl (by decide)))
theorem SX.f0 {μ : Mem} {θ : Tn} {ζ : Nat → Nat → Int32} (h : SX μ θ ζ) (k : Nat) (v : Int32) : SX (mu μ 0 k v) θ ζ := fun j hj => by
  obtain ⟨h1, h2, h3, h4, h5⟩ := h j hj
  exact ⟨by rw [mu_ne _ _ (Or.inl (by omega))]; exact h1, by rw [mu_ne _ _ (Or.inl (by omega))]; exact h2, h3, h4, fun i hi => by rw [mu_ne _ _ (Or.inl (by omega))]; exact h5 i hi⟩
