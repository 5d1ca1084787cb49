/-! the reference's reading of a text, as the same steps -/
def cdF (f : Nat → Int32) (n k : Nat) : Int32 := if k < n then f k else -9
theorem cd_lt {f : Nat → Int32} {n k : Nat} (h : (cdF f n k).toInt ≠ -9) : k < n ∧ cdF f n k = f k := by
  unfold cdF at *
  by_cases hk : k < n
  · exact ⟨hk, if_pos hk⟩
  · rw [if_neg hk] at h; exact absurd (by decide) h
theorem d48 (x : Int32) : (x - nI 48).toInt = x.toInt - 48 ∨ (x - nI 48).toInt = x.toInt - 48 + 4294967296 := by
  have h1 := x.toInt_lt
  have h2 := x.le_toInt
  rw [Int32.toInt_sub, nI_toInt (by decide), Int.bmod_def]
  split <;> omega
theorem dg_in {x : Int32} (h : 48 ≤ x.toInt ∧ x.toInt ≤ 57) : dgN x = (x.toInt - 48).toNat := by unfold dgN; rw [if_pos h]
theorem dg_out {x : Int32} (h : ¬ (48 ≤ x.toInt ∧ x.toInt ≤ 57)) : dgN x = 99 := by unfold dgN; rw [if_neg h]
theorem fig_t {x : Int32} {lo mo : Nat} (hm : mo ≤ 9) (h : (lo : Int) ≤ (x - nI 48).toInt ∧ (x - nI 48).toInt ≤ (mo : Int)) : x - nI 48 = nI (dgN x) ∧ lo ≤ dgN x ∧ dgN x ≤ mo := by
  have h1 := x.toInt_lt
  have h2 := x.le_toInt
  have h3 : 48 ≤ x.toInt ∧ x.toInt ≤ 57 := by rcases d48 x with e | e <;> omega
  have h4 := dg_in h3
  refine ⟨dg_sub h3.1 h3.2, ?_⟩
  rcases d48 x with e | e <;> omega
theorem fig_f {x : Int32} {lo mo : Nat} (hm : mo ≤ 9) (h : (x - nI 48).toInt < (lo : Int) ∨ (mo : Int) < (x - nI 48).toInt) : ¬ (lo ≤ dgN x ∧ dgN x ≤ mo) := by
  have h1 := x.toInt_lt
  have h2 := x.le_toInt
  have h5 := (x - nI 48).toInt_lt
  by_cases h3 : 48 ≤ x.toInt ∧ x.toInt ≤ 57
  · have h4 := dg_in h3
    rcases d48 x with e | e <;> omega
  · have := dg_out h3
    omega
theorem pr_dn {τ t : Tn} {f : Nat → Int32} {k : Nat} (h : pr τ f (k + 1) = some t) : ∃ u, pr τ f k = some u ∧ pst u (f k) = some t := by
  rw [pr] at h
  cases e : pr τ f k with
  | none => rw [e] at h; cases h
  | some u => rw [e] at h; exact ⟨u, rfl, h⟩
theorem pr_fs {τ : Tn} {f : Nat → Int32} {n : Nat} : ∀ (k : Nat) (t : Tn), pr τ f k = some t → k ≤ n → fs (fun x => (pr τ f (x + 1)).isNone) k (n - k) = fs (fun x => (pr τ f (x + 1)).isNone) 0 n
  | 0, _, _, _ => by rw [Nat.sub_zero]
  | k + 1, t, h, hk => by
    obtain ⟨u, hu, -⟩ := pr_dn h
    rw [← fs_f (p := fun x => (pr τ f (x + 1)).isNone) (n := k) (by show (pr τ f (k + 1)).isNone = false; rw [h]; rfl) (by omega)]
    exact pr_fs k u hu (by omega)
theorem stuck {τ t : Tn} {f : Nat → Int32} {n k : Nat} (h : pr τ f k = some t) (hk : k ≤ n) (h7 : t 0 3 ≠ 7) (hs : pst t (cdF f n k) = none) : pz τ f n = some k := by
  by_cases e : k < n
  · rw [cdF, if_pos e] at hs
    exact rd_bad h hs e (pr_fs k t h hk)
  · obtain rfl : k = n := by omega
    rw [rd_end h (pr_fs k t h hk), if_neg h7]
theorem stuck7 {τ t : Tn} {f : Nat → Int32} {n k : Nat} (h : pr τ f k = some t) (hk : k < n) (h7 : t 0 3 = 7) : pz τ f n = some k :=
  rd_bad h (by simp [pst, h7]) hk (pr_fs k t h (by omega))
theorem done7 {τ t : Tn} {f : Nat → Int32} {n : Nat} (h : pr τ f n = some t) (h7 : t 0 3 = 7) : pz τ f n = none := by
  rw [rd_end h (pr_fs n t h (Nat.le_refl n)), if_pos h7]
def sZ (τ : Tn) : Tn := tu (tz τ) 0 3 1
def sP (τ : Tn) (x : Int32) : Tn := tu (tu (sZ τ) 0 0 (dgN x)) 0 3 2
def sA (t : Tn) : Tn := tu (tu t 0 1 (t 0 1 + 1)) 0 3 3
def sB (t : Tn) (x : Int32) : Tn := tu (tu (sA t) 1 (t 0 1) (kdN x)) 0 3 4
def sC (t : Tn) (x y : Int32) : Tn := tu (tu (sB t x) 2 (t 0 1) (dgN y)) 0 3 5
def sD (t : Tn) (x y z : Int32) : Tn := tu (tu (sC t x y) 3 (t 0 1) (dgN z)) 0 3 2
theorem ps0 (τ : Tn) (x : Int32) : pst (tz τ) x = if x.toInt = 122 then some (sZ τ) else none := by simp [pst, tz, pZ, sZ]
theorem ps1 (τ : Tn) (x : Int32) : pst (sZ τ) x = if 3 ≤ dgN x ∧ dgN x ≤ 9 then some (sP τ x) else none := by simp [pst, sZ, tu_if, pP, sP]
theorem ps2 {t : Tn} (h : t 0 3 = 2) (x : Int32) : pst t x = if x.toInt = 59 ∧ t 0 1 < 4 then some (sA t) else if x.toInt = 47 ∧ 0 < t 0 1 then some (tu t 0 3 6) else none := by simp [pst, h, pK1, sA]
theorem ps3 (t : Tn) (x : Int32) : pst (sA t) x = if x.toInt = 115 ∨ x.toInt = 109 ∨ x.toInt = 114 then some (sB t x) else none := by simp [pst, sA, tu_if, pK, sB]
theorem ps4 (t : Tn) (y x : Int32) : pst (sB t y) x = if dgN x < t 0 0 then some (sC t y x) else none := by simp [pst, sB, sA, tu_if, pS, sC]
theorem ps5 (t : Tn) (y z x : Int32) : pst (sC t y z) x = if dgN x ≤ 3 then some (sD t y z x) else none := by simp [pst, sC, sB, sA, tu_if, pD, sD]
theorem ps6 {t : Tn} (h : t 0 3 = 6) (x : Int32) : pst t x = if dgN x ≤ 9 then some (tu (tu (tu t 4 (t 0 2) (dgN x)) 0 2 (t 0 2 + 1)) 0 3 (if t 0 2 + 1 < t 0 0 then 6 else 7)) else none := by simp [pst, h, pG]
/-- what the reference has read -/
def RD (μ : Mem) (t : Tn) (k : Nat) : Prop := μ 30 8 = nI k ∧ μ 30 9 = nI (t 0 0) ∧ μ 30 10 = nI (t 0 1) ∧ (∀ a, a < t 0 1 → μ 36 a = nI (t 1 a) ∧ μ 37 a = nI (t 2 a) ∧ μ 38 a = nI (t 3 a)) ∧ ∀ p, p < t 0 2 → μ 35 p = nI (t 4 p)
def FRT (μ ν : Mem) : Prop := ∀ c1 k1, (c1 < 35 ∨ 38 < c1) → (c1 ≠ 30 ∨ k1 < 8 ∨ 10 < k1) → ν c1 k1 = μ c1 k1
theorem FRT.rf (μ : Mem) : FRT μ μ := fun _ _ _ _ => rfl
theorem FRT.tr {μ ν ξ : Mem} (h : FRT μ ν) (h2 : FRT ν ξ) : FRT μ ξ := fun c k a b => (h2 c k a b).trans (h c k a b)
theorem FRT.mu {μ ν : Mem} (h : FRT μ ν) {c k : Nat} (v : Int32) (hc : (35 ≤ c ∧ c ≤ 38) ∨ (c = 30 ∧ 8 ≤ k ∧ k ≤ 10)) : FRT μ (mu ν c k v) := fun c1 k1 a b => by
  rw [mu_ne _ _ (by omega)]; exact h c1 k1 a b
def stkP (τ : Tn) (f : Nat → Int32) (n : Nat) (μ : Mem) : Prop := ∃ k, k ≤ n ∧ μ 30 8 = nI k ∧ pz τ f n = some k
theorem RD.at (μ : Mem) (t : Tn) (k j : Nat) (h : RD μ t k) : RD (mu μ 30 8 (nI j)) t j :=
  ⟨mu_at _ _ _ _, by rw [mu_k _ _ (by decide)]; exact h.2.1, by rw [mu_k _ _ (by decide)]; exact h.2.2.1, fun a ha => by
    rw [mu_ne _ _ (Or.inl (by decide)), mu_ne _ _ (Or.inl (by decide)), mu_ne _ _ (Or.inl (by decide))]; exact h.2.2.2.1 a ha, fun p hp => by rw [mu_ne _ _ (Or.inl (by decide))]; exact h.2.2.2.2 p hp⟩
/-- a sleeper more -/
theorem RD.sl {μ ν : Mem} {t : Tn} {x y z : Int32} {k k2 kk yy zz : Nat} (h : RD μ t k) (e1 : kk = kdN x) (e2 : yy = dgN y) (e3 : zz = dgN z) (h8 : ν 30 8 = nI k2) (hF : ∀ c1 k1, c1 ≠ 30 ∨ k1 ≠ 8 → ν c1 k1 = μ c1 k1) :
    RD (mu (mu (mu (mu ν 36 (t 0 1) (nI kk)) 37 (t 0 1) (nI yy)) 38 (t 0 1) (nI zz)) 30 10 (nI (t 0 1 + 1))) (sD t x y z) k2 := by
  subst e1 e2 e3
  refine ⟨?_, ?_, ?_, fun a ha => ?_, fun p hp => ?_⟩
  · rw [mu_k _ _ (by decide), mu_ne _ _ (Or.inl (by decide)), mu_ne _ _ (Or.inl (by decide)), mu_ne _ _ (Or.inl (by decide))]; exact h8
  · rw [mu_k _ _ (by decide), mu_ne _ _ (Or.inl (by decide)), mu_ne _ _ (Or.inl (by decide)), mu_ne _ _ (Or.inl (by decide)), hF _ _ (by decide), h.2.1]; simp [sD, sC, sB, sA, tu_if]
  · rw [mu_at]; simp [sD, sC, sB, sA, tu_if]
  · have ha2 : a < t 0 1 + 1 := by simpa [sD, sC, sB, sA, tu_if] using ha
    have e1 : sD t x y z 1 a = if a = t 0 1 then kdN x else t 1 a := by simp [sD, sC, sB, sA, tu_if]
    have e2 : sD t x y z 2 a = if a = t 0 1 then dgN y else t 2 a := by simp [sD, sC, sB, sA, tu_if]
    have e3 : sD t x y z 3 a = if a = t 0 1 then dgN z else t 3 a := by simp [sD, sC, sB, sA, tu_if]
    rw [e1, e2, e3]
    by_cases e : a = t 0 1
    · subst e
      refine ⟨?_, ?_, ?_⟩
      · rw [mu_ne _ _ (Or.inl (by decide)), mu_ne _ _ (Or.inl (by decide)), mu_ne _ _ (Or.inl (by decide)), mu_at, if_pos rfl]
      · rw [mu_ne _ _ (Or.inl (by decide)), mu_ne _ _ (Or.inl (by decide)), mu_at, if_pos rfl]
      · rw [mu_ne _ _ (Or.inl (by decide)), mu_at, if_pos rfl]
    · obtain ⟨q1, q2, q3⟩ := h.2.2.2.1 a (by omega)
      refine ⟨?_, ?_, ?_⟩
      · rw [mu_ne _ _ (Or.inl (by decide)), mu_ne _ _ (Or.inl (by decide)), mu_ne _ _ (Or.inl (by decide)), mu_k _ _ e, if_neg e, hF _ _ (Or.inl (by decide))]; exact q1
      · rw [mu_ne _ _ (Or.inl (by decide)), mu_ne _ _ (Or.inl (by decide)), mu_k _ _ e, mu_ne _ _ (Or.inl (by decide)), if_neg e, hF _ _ (Or.inl (by decide))]; exact q2
      · rw [mu_ne _ _ (Or.inl (by decide)), mu_k _ _ e, mu_ne _ _ (Or.inl (by decide)), mu_ne _ _ (Or.inl (by decide)), if_neg e, hF _ _ (Or.inl (by decide))]; exact q3
  · rw [mu_ne _ _ (Or.inl (by decide)), mu_ne _ _ (Or.inl (by decide)), mu_ne _ _ (Or.inl (by decide)), mu_ne _ _ (Or.inl (by decide)), hF _ _ (Or.inl (by decide))]
    have e1 : sD t x y z 4 p = t 4 p := by simp [sD, sC, sB, sA, tu_if]
    have e2 : p < t 0 2 := by simpa [sD, sC, sB, sA, tu_if] using hp
    rw [e1]; exact h.2.2.2.2 p e2
theorem fl5_8 (ad : Nat → Nat) (r : Nat → Int32) (v : Int32) : (fl ad 5 30 r).set 8 (.int v) = fl ad 5 30 (upd r 8 v) := rfl
theorem fl5_9 (ad : Nat → Nat) (r : Nat → Int32) (v : Int32) : (fl ad 5 30 r).set 9 (.int v) = fl ad 5 30 (upd r 9 v) := rfl
theorem fl5_10 (ad : Nat → Nat) (r : Nat → Int32) (v : Int32) : (fl ad 5 30 r).set 10 (.int v) = fl ad 5 30 (upd r 10 v) := rfl

set_option maxRecDepth 100000 in
set_option maxHeartbeats 4000000 in
theorem m_codeAt (l : Launch) (D : va_G) (ad : Nat → Nat) (kI kS kL : ClassId) (μ : Mem) (f : Nat → Int32) (fr n k : Nat) (hk : μ 30 8 = nI k) (hkn : k ≤ n) (hfr : fr + n ≤ 240) (hz : ∀ x, x < n → μ 46 (fr + x) = f x) : MI l D ad kI kS kL yX5_codeAt cX5_codeAt 3 (some .int) 0 0 [.ref (ad 30), .int (nI fr), .int (nI n)] μ (fun r μ2 => μ = μ2 ∧ r = cdF f n k) := by
  refine met_I RX5 rfl (by decide) (lv := [(0, .ref (ad 30)), (1, .int (nI fr)), (2, .int (nI n))]) rfl (Nat.le_of_ble_eq_true rfl) ?_
  intro pp ee ss mm aa bb me cd AA hA0 CC hnm QQ hQ
  refine y_aload_n CC 0 dX5_codeAt_0 rfl rfl ?_
  refine y_geti CC gl_X5_83 (by omega) rfl (v := nI k) hk dX5_codeAt_1 ?_
  refine y_iload_n CC 2 dX5_codeAt_4 rfl rfl ?_
  refine z_icmp_ge CC 22 dX5_codeAt_5 (by decide) (a := ((k : Nat) : Int)) (b := ((n : Nat) : Int)) (nI_toInt (by omega)) (nI_toInt (by omega)) (fun c_1 => ?_) (fun c_1 => ?_)
  · skip
    refine y_bipush CC ((-9)) dX5_codeAt_22 (by decide) ?_
    exact y_iret CC hQ dX5_codeAt_24 (⟨rfl, by unfold cdF; first | rw [if_pos (by omega)] | rw [if_neg (by omega)]⟩)
  · skip
    refine y_aload_n CC 0 dX5_codeAt_8 rfl rfl ?_
    refine y_getr CC gl_X5_55 (by omega) (d := 46) rfl dX5_codeAt_9 ?_
    refine y_iload_n CC 1 dX5_codeAt_12 rfl rfl ?_
    refine y_aload_n CC 0 dX5_codeAt_13 rfl rfl ?_
    refine y_geti CC gl_X5_83 (by omega) rfl (v := nI k) hk dX5_codeAt_14 ?_
    refine y_iadd CC dX5_codeAt_17 (v := nI (fr + k)) (nI_add _ _) ?_
    refine y_ialdN CC (n := 240) (by omega) (by decide) (by omega) (by omega) (v := f k) (hz k (by omega)) dX5_codeAt_18 ?_
    refine y_goto CC 24 dX5_codeAt_19 (by decide) ?_
    exact y_iret CC hQ dX5_codeAt_24 (⟨rfl, by unfold cdF; first | rw [if_pos (by omega)] | rw [if_neg (by omega)]⟩)

set_option maxRecDepth 100000 in
set_option maxHeartbeats 4000000 in
theorem m_figure (l : Launch) (D : va_G) (ad : Nat → Nat) (kI kS kL : ClassId) (μ : Mem) (f : Nat → Int32) (fr n k : Nat) (hk : μ 30 8 = nI k) (hkn : k ≤ n) (hfr : fr + n ≤ 240) (hz : ∀ x, x < n → μ 46 (fr + x) = f x) (lo mo : Nat) (hlo : lo ≤ 9) (hmo : mo ≤ 9) : MI l D ad kI kS kL yX5_figure cX5_figure 7 (some .int) 1 25 [.ref (ad 30), .int (nI fr), .int (nI n), .int (nI lo), .int (nI mo)] μ (fun r μ2 => ((lo ≤ dgN (cdF f n k) ∧ dgN (cdF f n k) ≤ mo) ∧ r = nI (dgN (cdF f n k)) ∧ μ2 = mu μ 30 8 (nI (k + 1))) ∨ (¬ (lo ≤ dgN (cdF f n k) ∧ dgN (cdF f n k) ≤ mo) ∧ r = -9 ∧ μ = μ2)) := by
  refine met_I RX5 rfl (by decide) (lv := [(0, .ref (ad 30)), (1, .int (nI fr)), (2, .int (nI n)), (3, .int (nI lo)), (4, .int (nI mo))]) rfl (Nat.le_of_ble_eq_true rfl) ?_
  intro pp ee ss mm aa bb me cd AA hA0 CC hnm QQ hQ
  refine y_aload_n CC 0 dX5_figure_0 rfl rfl ?_
  refine y_iload_n CC 1 dX5_figure_1 rfl rfl ?_
  refine y_iload_n CC 2 dX5_figure_2 rfl rfl ?_
  refine y_callVI (ci := 5) (st := []) CC cl_X5_86 (m_codeAt l D ad kI kS kL μ f fr n k hk (by omega) hfr hz) (by omega) rfl rfl rfl (Nat.le_of_ble_eq_true rfl) ⟨by decide, by decide⟩ ⟨Nat.zero_le _, Nat.zero_le _⟩ dX5_figure_3 (fun r_ μ_ w_1 => ?_)
  obtain ⟨rfl, rfl⟩ := w_1
  refine y_bipush CC (nI 48) dX5_figure_6 (by decide) ?_
  refine y_isub CC dX5_figure_8 (v := (cdF f n k) - (nI 48)) rfl ?_
  refine y_istore CC [(5, .int ((cdF f n k) - (nI 48))), (0, .ref (ad 30)), (1, .int (nI fr)), (2, .int (nI n)), (3, .int (nI lo)), (4, .int (nI mo))] dX5_figure_9 (by decide) rfl ?_
  refine y_iload CC 0 dX5_figure_11 rfl ?_
  refine y_i2l CC dX5_figure_13 (v := ((cdF f n k) - (nI 48)).toInt64) rfl ?_
  refine y_iload_n CC 4 dX5_figure_14 rfl rfl ?_
  refine y_i2l CC dX5_figure_15 (v := (nI lo).toInt64) rfl ?_
  refine y_iload CC 5 dX5_figure_16 rfl ?_
  refine y_i2l CC dX5_figure_18 (v := (nI mo).toInt64) rfl ?_
  refine y_callSI (st := []) CC cl_X5_74 (m_in l D ad kI kS kL μ (((cdF f n k) - (nI 48)).toInt64) ((nI lo).toInt64) ((nI mo).toInt64) (((cdF f n k) - (nI 48)).toInt) (((lo : Nat) : Int)) (((mo : Nat) : Int))  ((l_i _).trans rfl) ((l_i _).trans (nI_toInt (by omega))) ((l_i _).trans (nI_toInt (by omega)))) rfl rfl (Nat.le_of_ble_eq_true rfl) ⟨by decide, by decide⟩ ⟨Nat.zero_le _, Nat.zero_le _⟩ dX5_figure_19 (fun r_ μ_ w_3 => ?_)
  rcases w_3 with ⟨rfl, ⟨i_2, rfl⟩ | ⟨i_2, rfl⟩⟩
  · skip
    have hfg_ := fig_t hmo i_2
    refine y_istore CC [(6, .int (nI 1)), (5, .int ((cdF f n k) - (nI 48))), (0, .ref (ad 30)), (1, .int (nI fr)), (2, .int (nI n)), (3, .int (nI lo)), (4, .int (nI mo))] dX5_figure_22 (by decide) rfl ?_
    refine y_aload_n CC 2 dX5_figure_24 rfl rfl ?_
    refine y_dup CC dX5_figure_25 rfl ?_
    refine y_geti CC gl_X5_83 (by omega) rfl (v := nI k) hk dX5_figure_26 ?_
    refine y_iload CC 0 dX5_figure_29 rfl ?_
    refine z_if_eqF CC 38 dX5_figure_31 (by decide) (a := (1 : Int)) (nI_toInt (by decide)) (by decide) ?_
    refine y_iconst CC (nI 1) dX5_figure_34 (by decide) ?_
    refine y_goto CC 39 dX5_figure_35 (by decide) ?_
    refine y_iadd CC dX5_figure_39 (v := nI (k + 1)) (nI_add _ _) ?_
    refine y_puti CC pl_X5_83 (by omega) (fl5_8 _ _ _) (Nat.le_of_ble_eq_true rfl) dX5_figure_40 ?_
    refine y_iload CC 0 dX5_figure_43 rfl ?_
    refine z_if_eqF CC 53 dX5_figure_45 (by decide) (a := (1 : Int)) (nI_toInt (by decide)) (by decide) ?_
    refine y_iload CC 1 dX5_figure_48 rfl ?_
    refine y_goto CC 55 dX5_figure_50 (by decide) ?_
    exact y_iret CC hQ dX5_figure_55 (Or.inl ⟨hfg_.2, hfg_.1, rfl⟩)
  · skip
    have hfg_ := fig_f hmo i_2
    refine y_istore CC [(6, .int (nI 0)), (5, .int ((cdF f n k) - (nI 48))), (0, .ref (ad 30)), (1, .int (nI fr)), (2, .int (nI n)), (3, .int (nI lo)), (4, .int (nI mo))] dX5_figure_22 (by decide) rfl ?_
    refine y_aload_n CC 2 dX5_figure_24 rfl rfl ?_
    refine y_dup CC dX5_figure_25 rfl ?_
    refine y_geti CC gl_X5_83 (by omega) rfl (v := nI k) hk dX5_figure_26 ?_
    refine y_iload CC 0 dX5_figure_29 rfl ?_
    refine z_if_eqT CC 38 dX5_figure_31 (by decide) (a := (0 : Int)) (nI_toInt (by decide)) (by decide) ?_
    refine y_iconst CC (nI 0) dX5_figure_38 (by decide) ?_
    refine y_iadd CC dX5_figure_39 (v := nI k) (nI_add _ _) ?_
    refine y_puti CC pl_X5_83 (by omega) (fl5_8 _ _ _) (Nat.le_of_ble_eq_true rfl) dX5_figure_40 ?_
    refine y_iload CC 0 dX5_figure_43 rfl ?_
    refine z_if_eqT CC 53 dX5_figure_45 (by decide) (a := (0 : Int)) (nI_toInt (by decide)) (by decide) ?_
    refine y_bipush CC ((-9)) dX5_figure_53 (by decide) ?_
    exact y_iret CC hQ dX5_figure_55 (Or.inr ⟨hfg_, rfl, mu_back (fun _ _ _ => rfl) hk⟩)

set_option maxRecDepth 100000 in
set_option maxHeartbeats 4000000 in
theorem m_readsSleeper (l : Launch) (D : va_G) (ad : Nat → Nat) (kI kS kL : ClassId) (μ : Mem) (τ : Tn) (hB : tB τ) (f : Nat → Int32) (fr n k : Nat) (t : Tn) (hkn : k ≤ n) (hn : n ≤ 60) (hfr : fr + n ≤ 240) (hz : ∀ x, x < n → μ 46 (fr + x) = f x) (hpr : pr τ f k = some t) (h3 : t 0 3 = 2) (hRD : RD μ t k) (h59 : t 0 1 = 0 ∨ (cdF f n k).toInt = 59) : MI l D ad kI kS kL yX5_readsSleeper cX5_readsSleeper 6 (some .boolean) 2 51 [.ref (ad 30), .int (nI fr), .int (nI n)] μ (fun r μ2 => (r = nI 1 ∧ ∃ t2, k + 1 + 1 + 1 + 1 ≤ n ∧ pr τ f (k + 1 + 1 + 1 + 1) = some t2 ∧ t2 0 3 = 2 ∧ t2 0 2 = t 0 2 ∧ t2 0 1 = t 0 1 + 1 ∧ RD μ2 t2 (k + 1 + 1 + 1 + 1) ∧ FRT μ μ2) ∨ (r = nI 0 ∧ stkP τ f n μ2 ∧ FRT μ μ2)) := by
  refine met_I RX5 rfl (by decide) (lv := [(0, .ref (ad 30)), (1, .int (nI fr)), (2, .int (nI n))]) rfl (Nat.le_of_ble_eq_true rfl) ?_
  intro pp ee ss mm aa bb me cd AA hA0 CC hnm QQ hQ
  have hpb_ := pr_B hB f k t hpr
  have ht0_ : t 0 0 ≤ 9 := hpb_.1.1
  have ht1_ : t 0 1 ≤ 4 := hpb_.1.2.1
  have ht3_ : 3 ≤ t 0 0 := hpb_.2.2.2.1 (by omega)
  refine y_aload_n CC 0 dX5_readsSleeper_0 rfl rfl ?_
  refine y_geti CC gl_X5_90 (by omega) rfl (v := nI (t 0 1)) (by exact hRD.2.2.1) dX5_readsSleeper_1 ?_
  refine y_iconst CC (nI 4) dX5_readsSleeper_4 (by decide) ?_
  refine z_icmp_eq CC 19 dX5_readsSleeper_5 (by decide) (a := ((t 0 1 : Nat) : Int)) (b := (4 : Int)) (nI_toInt (by omega)) (nI_toInt (by decide)) (fun c_1 => ?_) (fun c_1 => ?_)
  · skip
    refine y_iconst CC (nI 0) dX5_readsSleeper_19 (by decide) ?_
    exact y_zret CC hQ dX5_readsSleeper_20 (by decide) (Or.inr ⟨rfl, ⟨k, by omega, hRD.1, stuck hpr hkn (by omega) (by rw [ps2 h3, if_neg (by omega), if_neg (by omega)])⟩, FRT.rf μ⟩)
  · skip
    refine y_aload_n CC 0 dX5_readsSleeper_8 rfl rfl ?_
    refine y_iload_n CC 1 dX5_readsSleeper_9 rfl rfl ?_
    refine y_iload_n CC 2 dX5_readsSleeper_10 rfl rfl ?_
    refine y_callVI (ci := 5) (st := []) CC cl_X5_86 (m_codeAt l D ad kI kS kL μ f fr n k hRD.1 (by omega) hfr hz) (by omega) rfl rfl rfl (Nat.le_of_ble_eq_true rfl) ⟨by decide, by decide⟩ ⟨Nat.zero_le _, Nat.zero_le _⟩ dX5_readsSleeper_11 (fun r_ μ_ w_2 => ?_)
    obtain ⟨rfl, rfl⟩ := w_2
    refine y_bipush CC (nI 59) dX5_readsSleeper_14 (by decide) ?_
    refine z_icmp_eq CC 21 dX5_readsSleeper_16 (by decide) (a := (cdF f n k).toInt) (b := (59 : Int)) rfl (nI_toInt (by decide)) (fun c_3 => ?_) (fun c_3 => ?_)
    · skip
      have hc0_ := cd_lt (f := f) (n := n) (k := k) (by omega)
      have hc0b_ := hc0_.1
      have hp1_ : pr τ f (k + 1) = some (sA t) := by rw [pr_s hpr, ← hc0_.2, ps2 h3, if_pos ⟨by omega, by omega⟩]
      refine y_aload_n CC 0 dX5_readsSleeper_21 rfl rfl ?_
      refine y_dup CC dX5_readsSleeper_22 rfl ?_
      refine y_geti CC gl_X5_83 (by omega) rfl (v := nI k) hRD.1 dX5_readsSleeper_23 ?_
      refine y_iconst CC (nI 1) dX5_readsSleeper_26 (by decide) ?_
      refine y_iadd CC dX5_readsSleeper_27 (v := nI (k + 1)) (nI_add _ _) ?_
      refine y_puti CC pl_X5_83 (by omega) (fl5_8 _ _ _) (Nat.le_of_ble_eq_true rfl) dX5_readsSleeper_28 ?_
      refine y_aload_n CC 0 dX5_readsSleeper_31 rfl rfl ?_
      refine y_iload_n CC 1 dX5_readsSleeper_32 rfl rfl ?_
      refine y_iload_n CC 2 dX5_readsSleeper_33 rfl rfl ?_
      refine y_callVI (ci := 5) (st := []) CC cl_X5_86 (m_codeAt l D ad kI kS kL (mu μ 30 8 (nI (k + 1))) f fr n (k + 1) (mu_at _ _ _ _) (by omega) hfr (fun x_ hx_ => by rw [mu_ne _ _ (Or.inl (by decide))]; exact hz x_ hx_)) (by omega) rfl rfl rfl (Nat.le_of_ble_eq_true rfl) ⟨by decide, by decide⟩ ⟨Nat.zero_le _, Nat.zero_le _⟩ dX5_readsSleeper_34 (fun r_ μ_ w_4 => ?_)
      obtain ⟨rfl, rfl⟩ := w_4
      refine y_istore_n CC [(3, .int (cdF f n (k + 1))), (0, .ref (ad 30)), (1, .int (nI fr)), (2, .int (nI n))] dX5_readsSleeper_37 rfl (by decide) rfl ?_
      have J58 : ((cdF f n (k + 1)).toInt = 115 ∨ (cdF f n (k + 1)).toInt = 109 ∨ (cdF f n (k + 1)).toInt = 114) → Y pp l ee (rmY 2 51) ss mm aa bb me cd D ad kI kS kL AA 6 0 0 QQ 58 [(3, .int (cdF f n (k + 1))), (0, .ref (ad 30)), (1, .int (nI fr)), (2, .int (nI n))] [] (mu μ 30 8 (nI (k + 1))) := by
        intro hkd_
        have hc1_ := cd_lt (f := f) (n := n) (k := k + 1) (by omega)
        have hc1b_ := hc1_.1
        have hp2_ : pr τ f (k + 1 + 1) = some (sB t (cdF f n (k + 1))) := by rw [pr_s hp1_, ← hc1_.2, ps3, if_pos (by omega)]
        refine y_aload_n CC 1 dX5_readsSleeper_58 rfl rfl ?_
        refine y_dup CC dX5_readsSleeper_59 rfl ?_
        refine y_geti CC gl_X5_83 (by omega) rfl (v := nI (k + 1)) (mu_at _ _ _ _) dX5_readsSleeper_60 ?_
        refine y_iconst CC (nI 1) dX5_readsSleeper_63 (by decide) ?_
        refine y_iadd CC dX5_readsSleeper_64 (v := nI (k + 1 + 1)) (nI_add _ _) ?_
        refine y_puti CC pl_X5_83 (by omega) (fl5_8 _ _ _) (Nat.le_of_ble_eq_true rfl) dX5_readsSleeper_65 ?_
        refine y_aload_n CC 1 dX5_readsSleeper_68 rfl rfl ?_
        refine y_iload_n CC 2 dX5_readsSleeper_69 rfl rfl ?_
        refine y_iload_n CC 3 dX5_readsSleeper_70 rfl rfl ?_
        refine y_iconst CC (nI 0) dX5_readsSleeper_71 (by decide) ?_
        refine y_aload_n CC 1 dX5_readsSleeper_72 rfl rfl ?_
        refine y_geti CC gl_X5_93 (by omega) rfl (v := nI (t 0 0)) (by rw [mu_ne _ _ (by decide)]; rw [mu_ne _ _ (by decide)]; exact hRD.2.1) dX5_readsSleeper_73 ?_
        refine y_iconst CC (nI 1) dX5_readsSleeper_76 (by decide) ?_
        refine y_isub CC dX5_readsSleeper_77 (v := nI ((t 0 0) - 1)) (pk_sub (by omega)) ?_
        refine y_callVI (ci := 5) (st := []) CC cl_X5_96 (m_figure l D ad kI kS kL (mu (mu μ 30 8 (nI (k + 1))) 30 8 (nI (k + 1 + 1))) f fr n (k + 1 + 1) (mu_at _ _ _ _) (by omega) hfr (fun x_ hx_ => by rw [mu_ne _ _ (Or.inl (by decide))]; rw [mu_ne _ _ (Or.inl (by decide))]; exact hz x_ hx_) 0 ((t 0 0) - 1) (by omega) (by omega)) (by omega) rfl rfl rfl (Nat.le_of_ble_eq_true rfl) ⟨by decide, by decide⟩ ⟨Nat.zero_le _, Nat.zero_le _⟩ dX5_readsSleeper_78 (fun r_ μ_ w_7 => ?_)
        rcases w_7 with ⟨g_6, rfl, rfl⟩ | ⟨g_6, rfl, rfl⟩
        · skip
          have hc2_ := cd_lt (f := f) (n := n) (k := k + 1 + 1) (fun q_ => by have := dg_out (x := cdF f n (k + 1 + 1)) (by omega); omega)
          have hc2b_ := hc2_.1
          have hp3_ : pr τ f (k + 1 + 1 + 1) = some (sC t (cdF f n (k + 1)) (cdF f n (k + 1 + 1))) := by rw [pr_s hp2_, ← hc2_.2, ps4, if_pos (by omega)]
          refine y_istore CC [(4, .int (nI (dgN (cdF f n (k + 1 + 1))))), (3, .int (cdF f n (k + 1))), (0, .ref (ad 30)), (1, .int (nI fr)), (2, .int (nI n))] dX5_readsSleeper_81 (by decide) rfl ?_
          refine y_iload CC 0 dX5_readsSleeper_83 rfl ?_
          refine z_if_geT CC 93 dX5_readsSleeper_85 (by decide) (a := ((dgN (cdF f n (k + 1 + 1)) : Nat) : Int)) (nI_toInt (by omega)) (by omega) ?_
          refine y_aload_n CC 2 dX5_readsSleeper_93 rfl rfl ?_
          refine y_iload_n CC 3 dX5_readsSleeper_94 rfl rfl ?_
          refine y_iload_n CC 4 dX5_readsSleeper_95 rfl rfl ?_
          refine y_iconst CC (nI 0) dX5_readsSleeper_96 (by decide) ?_
          refine y_iconst CC (nI 3) dX5_readsSleeper_97 (by decide) ?_
          refine y_callVI (ci := 5) (st := []) CC cl_X5_96 (m_figure l D ad kI kS kL (mu (mu (mu μ 30 8 (nI (k + 1))) 30 8 (nI (k + 1 + 1))) 30 8 (nI (k + 1 + 1 + 1))) f fr n (k + 1 + 1 + 1) (mu_at _ _ _ _) (by omega) hfr (fun x_ hx_ => by rw [mu_ne _ _ (Or.inl (by decide))]; rw [mu_ne _ _ (Or.inl (by decide))]; rw [mu_ne _ _ (Or.inl (by decide))]; exact hz x_ hx_) 0 3 (by omega) (by omega)) (by omega) rfl rfl rfl (Nat.le_of_ble_eq_true rfl) ⟨by decide, by decide⟩ ⟨Nat.zero_le _, Nat.zero_le _⟩ dX5_readsSleeper_98 (fun r_ μ_ w_9 => ?_)
          rcases w_9 with ⟨g_8, rfl, rfl⟩ | ⟨g_8, rfl, rfl⟩
          · skip
            have hc3_ := cd_lt (f := f) (n := n) (k := k + 1 + 1 + 1) (fun q_ => by have := dg_out (x := cdF f n (k + 1 + 1 + 1)) (by omega); omega)
            have hc3b_ := hc3_.1
            have hp4_ : pr τ f (k + 1 + 1 + 1 + 1) = some (sD t (cdF f n (k + 1)) (cdF f n (k + 1 + 1)) (cdF f n (k + 1 + 1 + 1))) := by rw [pr_s hp3_, ← hc3_.2, ps5, if_pos (by omega)]
            refine y_istore CC [(5, .int (nI (dgN (cdF f n (k + 1 + 1 + 1))))), (4, .int (nI (dgN (cdF f n (k + 1 + 1))))), (3, .int (cdF f n (k + 1))), (0, .ref (ad 30)), (1, .int (nI fr)), (2, .int (nI n))] dX5_readsSleeper_101 (by decide) rfl ?_
            refine y_iload CC 0 dX5_readsSleeper_103 rfl ?_
            refine z_if_geT CC 110 dX5_readsSleeper_105 (by decide) (a := ((dgN (cdF f n (k + 1 + 1 + 1)) : Nat) : Int)) (nI_toInt (by omega)) (by omega) ?_
            refine y_aload_n CC 3 dX5_readsSleeper_110 rfl rfl ?_
            refine y_getr CC gl_X5_25 (by omega) (d := 36) rfl dX5_readsSleeper_111 ?_
            refine y_aload_n CC 3 dX5_readsSleeper_114 rfl rfl ?_
            refine y_geti CC gl_X5_90 (by omega) rfl (v := nI (t 0 1)) (by rw [mu_ne _ _ (by omega)]; rw [mu_ne _ _ (by omega)]; rw [mu_ne _ _ (by omega)]; rw [mu_ne _ _ (by omega)]; exact hRD.2.2.1) dX5_readsSleeper_115 ?_
            refine y_iload_n CC 2 dX5_readsSleeper_118 rfl rfl ?_
            refine y_bipush CC (nI 115) dX5_readsSleeper_119 (by decide) ?_
            refine z_icmp_ne CC 128 dX5_readsSleeper_121 (by decide) (a := (cdF f n (k + 1)).toInt) (b := (115 : Int)) rfl (nI_toInt (by decide)) (fun c_10 => ?_) (fun c_10 => ?_)
            · skip
              refine y_iload_n CC 2 dX5_readsSleeper_128 rfl rfl ?_
              refine y_bipush CC (nI 109) dX5_readsSleeper_129 (by decide) ?_
              refine z_icmp_ne CC 138 dX5_readsSleeper_131 (by decide) (a := (cdF f n (k + 1)).toInt) (b := (109 : Int)) rfl (nI_toInt (by decide)) (fun c_11 => ?_) (fun c_11 => ?_)
              · skip
                refine y_iconst CC (nI 2) dX5_readsSleeper_138 (by decide) ?_
                refine y_iastN CC (n := 4) (by omega) (by decide) (by omega) (by omega) dX5_readsSleeper_139 ?_
                refine y_aload_n CC 3 dX5_readsSleeper_140 rfl rfl ?_
                refine y_getr CC gl_X5_28 (by omega) (d := 37) rfl dX5_readsSleeper_141 ?_
                refine y_aload_n CC 3 dX5_readsSleeper_144 rfl rfl ?_
                refine y_geti CC gl_X5_90 (by omega) rfl (v := nI (t 0 1)) (by rw [mu_ne _ _ (by omega)]; rw [mu_ne _ _ (by omega)]; rw [mu_ne _ _ (by omega)]; rw [mu_ne _ _ (by omega)]; rw [mu_ne _ _ (by omega)]; exact hRD.2.2.1) dX5_readsSleeper_145 ?_
                refine y_iload CC 1 dX5_readsSleeper_148 rfl ?_
                refine y_iastN CC (n := 4) (by omega) (by decide) (by omega) (by omega) dX5_readsSleeper_150 ?_
                refine y_aload_n CC 3 dX5_readsSleeper_151 rfl rfl ?_
                refine y_getr CC gl_X5_31 (by omega) (d := 38) rfl dX5_readsSleeper_152 ?_
                refine y_aload_n CC 3 dX5_readsSleeper_155 rfl rfl ?_
                refine y_geti CC gl_X5_90 (by omega) rfl (v := nI (t 0 1)) (by rw [mu_ne _ _ (by omega)]; rw [mu_ne _ _ (by omega)]; rw [mu_ne _ _ (by omega)]; rw [mu_ne _ _ (by omega)]; rw [mu_ne _ _ (by omega)]; rw [mu_ne _ _ (by omega)]; exact hRD.2.2.1) dX5_readsSleeper_156 ?_
                refine y_iload CC 0 dX5_readsSleeper_159 rfl ?_
                refine y_iastN CC (n := 4) (by omega) (by decide) (by omega) (by omega) dX5_readsSleeper_161 ?_
                generalize hν_ : mu (mu (mu (mu (mu (mu (mu μ 30 8 (nI (k + 1))) 30 8 (nI (k + 1 + 1))) 30 8 (nI (k + 1 + 1 + 1))) 30 8 (nI (k + 1 + 1 + 1 + 1))) 36 (t 0 1) (nI 2)) 37 (t 0 1) (nI (dgN (cdF f n (k + 1 + 1))))) 38 (t 0 1) (nI (dgN (cdF f n (k + 1 + 1 + 1)))) = ν_
                refine y_aload_n CC 3 dX5_readsSleeper_162 rfl rfl ?_
                refine y_dup CC dX5_readsSleeper_163 rfl ?_
                refine y_geti CC gl_X5_90 (by omega) rfl (v := nI (t 0 1)) (by subst hν_; rw [mu_ne _ _ (by omega)]; rw [mu_ne _ _ (by omega)]; rw [mu_ne _ _ (by omega)]; rw [mu_ne _ _ (by omega)]; rw [mu_ne _ _ (by omega)]; rw [mu_ne _ _ (by omega)]; rw [mu_ne _ _ (by omega)]; exact hRD.2.2.1) dX5_readsSleeper_164 ?_
                refine y_iconst CC (nI 1) dX5_readsSleeper_167 (by decide) ?_
                refine y_iadd CC dX5_readsSleeper_168 (v := nI ((t 0 1) + 1)) (nI_add _ _) ?_
                generalize hv_ : nI ((t 0 1) + 1) = v_
                refine y_puti CC pl_X5_90 (by omega) (fl5_10 _ _ _) (Nat.le_of_ble_eq_true rfl) dX5_readsSleeper_169 ?_
                refine y_iconst CC (nI 1) dX5_readsSleeper_172 (by decide) ?_
                refine y_zret CC hQ dX5_readsSleeper_173 (by decide) ?_
                subst hν_ hv_
                refine Or.inl ⟨rfl, sD t (cdF f n (k + 1)) (cdF f n (k + 1 + 1)) (cdF f n (k + 1 + 1 + 1)), by omega, hp4_, by simp [sD, sC, sB, sA, tu_if], by simp [sD, sC, sB, sA, tu_if], by simp [sD, sC, sB, sA, tu_if], hRD.sl (by unfold kdN; first | rw [if_pos (by omega)] | rw [if_neg (by omega), if_pos (by omega)] | rw [if_neg (by omega), if_neg (by omega)]) rfl rfl (mu_at _ _ _ _) (fun c1 k1 h_ => by rw [mu_ne _ _ h_, mu_ne _ _ h_, mu_ne _ _ h_, mu_ne _ _ h_]), ?_⟩
                exact ((((((((FRT.rf μ).mu _ (by omega)).mu _ (by omega)).mu _ (by omega)).mu _ (by omega)).mu _ (by omega)).mu _ (by omega)).mu _ (by omega)).mu _ (by omega)
              · skip
                refine y_iconst CC (nI 1) dX5_readsSleeper_134 (by decide) ?_
                refine y_goto CC 139 dX5_readsSleeper_135 (by decide) ?_
                refine y_iastN CC (n := 4) (by omega) (by decide) (by omega) (by omega) dX5_readsSleeper_139 ?_
                refine y_aload_n CC 3 dX5_readsSleeper_140 rfl rfl ?_
                refine y_getr CC gl_X5_28 (by omega) (d := 37) rfl dX5_readsSleeper_141 ?_
                refine y_aload_n CC 3 dX5_readsSleeper_144 rfl rfl ?_
                refine y_geti CC gl_X5_90 (by omega) rfl (v := nI (t 0 1)) (by rw [mu_ne _ _ (by omega)]; rw [mu_ne _ _ (by omega)]; rw [mu_ne _ _ (by omega)]; rw [mu_ne _ _ (by omega)]; rw [mu_ne _ _ (by omega)]; exact hRD.2.2.1) dX5_readsSleeper_145 ?_
                refine y_iload CC 1 dX5_readsSleeper_148 rfl ?_
                refine y_iastN CC (n := 4) (by omega) (by decide) (by omega) (by omega) dX5_readsSleeper_150 ?_
                refine y_aload_n CC 3 dX5_readsSleeper_151 rfl rfl ?_
                refine y_getr CC gl_X5_31 (by omega) (d := 38) rfl dX5_readsSleeper_152 ?_
                refine y_aload_n CC 3 dX5_readsSleeper_155 rfl rfl ?_
                refine y_geti CC gl_X5_90 (by omega) rfl (v := nI (t 0 1)) (by rw [mu_ne _ _ (by omega)]; rw [mu_ne _ _ (by omega)]; rw [mu_ne _ _ (by omega)]; rw [mu_ne _ _ (by omega)]; rw [mu_ne _ _ (by omega)]; rw [mu_ne _ _ (by omega)]; exact hRD.2.2.1) dX5_readsSleeper_156 ?_
                refine y_iload CC 0 dX5_readsSleeper_159 rfl ?_
                refine y_iastN CC (n := 4) (by omega) (by decide) (by omega) (by omega) dX5_readsSleeper_161 ?_
                generalize hν_ : mu (mu (mu (mu (mu (mu (mu μ 30 8 (nI (k + 1))) 30 8 (nI (k + 1 + 1))) 30 8 (nI (k + 1 + 1 + 1))) 30 8 (nI (k + 1 + 1 + 1 + 1))) 36 (t 0 1) (nI 1)) 37 (t 0 1) (nI (dgN (cdF f n (k + 1 + 1))))) 38 (t 0 1) (nI (dgN (cdF f n (k + 1 + 1 + 1)))) = ν_
                refine y_aload_n CC 3 dX5_readsSleeper_162 rfl rfl ?_
                refine y_dup CC dX5_readsSleeper_163 rfl ?_
                refine y_geti CC gl_X5_90 (by omega) rfl (v := nI (t 0 1)) (by subst hν_; rw [mu_ne _ _ (by omega)]; rw [mu_ne _ _ (by omega)]; rw [mu_ne _ _ (by omega)]; rw [mu_ne _ _ (by omega)]; rw [mu_ne _ _ (by omega)]; rw [mu_ne _ _ (by omega)]; rw [mu_ne _ _ (by omega)]; exact hRD.2.2.1) dX5_readsSleeper_164 ?_
                refine y_iconst CC (nI 1) dX5_readsSleeper_167 (by decide) ?_
                refine y_iadd CC dX5_readsSleeper_168 (v := nI ((t 0 1) + 1)) (nI_add _ _) ?_
                generalize hv_ : nI ((t 0 1) + 1) = v_
                refine y_puti CC pl_X5_90 (by omega) (fl5_10 _ _ _) (Nat.le_of_ble_eq_true rfl) dX5_readsSleeper_169 ?_
                refine y_iconst CC (nI 1) dX5_readsSleeper_172 (by decide) ?_
                refine y_zret CC hQ dX5_readsSleeper_173 (by decide) ?_
                subst hν_ hv_
                refine Or.inl ⟨rfl, sD t (cdF f n (k + 1)) (cdF f n (k + 1 + 1)) (cdF f n (k + 1 + 1 + 1)), by omega, hp4_, by simp [sD, sC, sB, sA, tu_if], by simp [sD, sC, sB, sA, tu_if], by simp [sD, sC, sB, sA, tu_if], hRD.sl (by unfold kdN; first | rw [if_pos (by omega)] | rw [if_neg (by omega), if_pos (by omega)] | rw [if_neg (by omega), if_neg (by omega)]) rfl rfl (mu_at _ _ _ _) (fun c1 k1 h_ => by rw [mu_ne _ _ h_, mu_ne _ _ h_, mu_ne _ _ h_, mu_ne _ _ h_]), ?_⟩
                exact ((((((((FRT.rf μ).mu _ (by omega)).mu _ (by omega)).mu _ (by omega)).mu _ (by omega)).mu _ (by omega)).mu _ (by omega)).mu _ (by omega)).mu _ (by omega)
            · skip
              refine y_iconst CC (nI 0) dX5_readsSleeper_124 (by decide) ?_
              refine y_goto CC 139 dX5_readsSleeper_125 (by decide) ?_
              refine y_iastN CC (n := 4) (by omega) (by decide) (by omega) (by omega) dX5_readsSleeper_139 ?_
              refine y_aload_n CC 3 dX5_readsSleeper_140 rfl rfl ?_
              refine y_getr CC gl_X5_28 (by omega) (d := 37) rfl dX5_readsSleeper_141 ?_
              refine y_aload_n CC 3 dX5_readsSleeper_144 rfl rfl ?_
              refine y_geti CC gl_X5_90 (by omega) rfl (v := nI (t 0 1)) (by rw [mu_ne _ _ (by omega)]; rw [mu_ne _ _ (by omega)]; rw [mu_ne _ _ (by omega)]; rw [mu_ne _ _ (by omega)]; rw [mu_ne _ _ (by omega)]; exact hRD.2.2.1) dX5_readsSleeper_145 ?_
              refine y_iload CC 1 dX5_readsSleeper_148 rfl ?_
              refine y_iastN CC (n := 4) (by omega) (by decide) (by omega) (by omega) dX5_readsSleeper_150 ?_
              refine y_aload_n CC 3 dX5_readsSleeper_151 rfl rfl ?_
              refine y_getr CC gl_X5_31 (by omega) (d := 38) rfl dX5_readsSleeper_152 ?_
              refine y_aload_n CC 3 dX5_readsSleeper_155 rfl rfl ?_
              refine y_geti CC gl_X5_90 (by omega) rfl (v := nI (t 0 1)) (by rw [mu_ne _ _ (by omega)]; rw [mu_ne _ _ (by omega)]; rw [mu_ne _ _ (by omega)]; rw [mu_ne _ _ (by omega)]; rw [mu_ne _ _ (by omega)]; rw [mu_ne _ _ (by omega)]; exact hRD.2.2.1) dX5_readsSleeper_156 ?_
              refine y_iload CC 0 dX5_readsSleeper_159 rfl ?_
              refine y_iastN CC (n := 4) (by omega) (by decide) (by omega) (by omega) dX5_readsSleeper_161 ?_
              generalize hν_ : mu (mu (mu (mu (mu (mu (mu μ 30 8 (nI (k + 1))) 30 8 (nI (k + 1 + 1))) 30 8 (nI (k + 1 + 1 + 1))) 30 8 (nI (k + 1 + 1 + 1 + 1))) 36 (t 0 1) (nI 0)) 37 (t 0 1) (nI (dgN (cdF f n (k + 1 + 1))))) 38 (t 0 1) (nI (dgN (cdF f n (k + 1 + 1 + 1)))) = ν_
              refine y_aload_n CC 3 dX5_readsSleeper_162 rfl rfl ?_
              refine y_dup CC dX5_readsSleeper_163 rfl ?_
              refine y_geti CC gl_X5_90 (by omega) rfl (v := nI (t 0 1)) (by subst hν_; rw [mu_ne _ _ (by omega)]; rw [mu_ne _ _ (by omega)]; rw [mu_ne _ _ (by omega)]; rw [mu_ne _ _ (by omega)]; rw [mu_ne _ _ (by omega)]; rw [mu_ne _ _ (by omega)]; rw [mu_ne _ _ (by omega)]; exact hRD.2.2.1) dX5_readsSleeper_164 ?_
              refine y_iconst CC (nI 1) dX5_readsSleeper_167 (by decide) ?_
              refine y_iadd CC dX5_readsSleeper_168 (v := nI ((t 0 1) + 1)) (nI_add _ _) ?_
              generalize hv_ : nI ((t 0 1) + 1) = v_
              refine y_puti CC pl_X5_90 (by omega) (fl5_10 _ _ _) (Nat.le_of_ble_eq_true rfl) dX5_readsSleeper_169 ?_
              refine y_iconst CC (nI 1) dX5_readsSleeper_172 (by decide) ?_
              refine y_zret CC hQ dX5_readsSleeper_173 (by decide) ?_
              subst hν_ hv_
              refine Or.inl ⟨rfl, sD t (cdF f n (k + 1)) (cdF f n (k + 1 + 1)) (cdF f n (k + 1 + 1 + 1)), by omega, hp4_, by simp [sD, sC, sB, sA, tu_if], by simp [sD, sC, sB, sA, tu_if], by simp [sD, sC, sB, sA, tu_if], hRD.sl (by unfold kdN; first | rw [if_pos (by omega)] | rw [if_neg (by omega), if_pos (by omega)] | rw [if_neg (by omega), if_neg (by omega)]) rfl rfl (mu_at _ _ _ _) (fun c1 k1 h_ => by rw [mu_ne _ _ h_, mu_ne _ _ h_, mu_ne _ _ h_, mu_ne _ _ h_]), ?_⟩
              exact ((((((((FRT.rf μ).mu _ (by omega)).mu _ (by omega)).mu _ (by omega)).mu _ (by omega)).mu _ (by omega)).mu _ (by omega)).mu _ (by omega)).mu _ (by omega)
          · skip
            refine y_istore CC [(5, .int (-9)), (4, .int (nI (dgN (cdF f n (k + 1 + 1))))), (3, .int (cdF f n (k + 1))), (0, .ref (ad 30)), (1, .int (nI fr)), (2, .int (nI n))] dX5_readsSleeper_101 (by decide) rfl ?_
            refine y_iload CC 0 dX5_readsSleeper_103 rfl ?_
            refine z_if_geF CC 110 dX5_readsSleeper_105 (by decide) (a := (-9 : Int)) (by decide) (by decide) ?_
            refine y_iconst CC (nI 0) dX5_readsSleeper_108 (by decide) ?_
            exact y_zret CC hQ dX5_readsSleeper_109 (by decide) (Or.inr ⟨rfl, ⟨k + 1 + 1 + 1, by omega, mu_at _ _ _ _, stuck hp3_ (by omega) (by simp [sC, tu_if]) (by rw [ps5, if_neg (by omega)])⟩, (((FRT.rf μ).mu _ (by omega)).mu _ (by omega)).mu _ (by omega)⟩)
        · skip
          refine y_istore CC [(4, .int (-9)), (3, .int (cdF f n (k + 1))), (0, .ref (ad 30)), (1, .int (nI fr)), (2, .int (nI n))] dX5_readsSleeper_81 (by decide) rfl ?_
          refine y_iload CC 0 dX5_readsSleeper_83 rfl ?_
          refine z_if_geF CC 93 dX5_readsSleeper_85 (by decide) (a := (-9 : Int)) (by decide) (by decide) ?_
          refine y_bipush CC ((-9)) dX5_readsSleeper_88 (by decide) ?_
          refine y_goto CC 101 dX5_readsSleeper_90 (by decide) ?_
          refine y_istore CC [(5, .int (-9)), (4, .int (-9)), (3, .int (cdF f n (k + 1))), (0, .ref (ad 30)), (1, .int (nI fr)), (2, .int (nI n))] dX5_readsSleeper_101 (by decide) rfl ?_
          refine y_iload CC 0 dX5_readsSleeper_103 rfl ?_
          refine z_if_geF CC 110 dX5_readsSleeper_105 (by decide) (a := (-9 : Int)) (by decide) (by decide) ?_
          refine y_iconst CC (nI 0) dX5_readsSleeper_108 (by decide) ?_
          exact y_zret CC hQ dX5_readsSleeper_109 (by decide) (Or.inr ⟨rfl, ⟨k + 1 + 1, by omega, mu_at _ _ _ _, stuck hp2_ (by omega) (by simp [sB, tu_if]) (by rw [ps4, if_neg (by omega)])⟩, ((FRT.rf μ).mu _ (by omega)).mu _ (by omega)⟩)
      refine y_iload_n CC 0 dX5_readsSleeper_38 rfl rfl ?_
      refine y_bipush CC (nI 115) dX5_readsSleeper_39 (by decide) ?_
      refine z_icmp_eq CC 58 dX5_readsSleeper_41 (by decide) (a := (cdF f n (k + 1)).toInt) (b := (115 : Int)) rfl (nI_toInt (by decide)) (fun c_12 => ?_) (fun c_12 => ?_)
      · skip
        exact J58 (by omega)
      · skip
        refine y_iload_n CC 0 dX5_readsSleeper_44 rfl rfl ?_
        refine y_bipush CC (nI 109) dX5_readsSleeper_45 (by decide) ?_
        refine z_icmp_eq CC 58 dX5_readsSleeper_47 (by decide) (a := (cdF f n (k + 1)).toInt) (b := (109 : Int)) rfl (nI_toInt (by decide)) (fun c_13 => ?_) (fun c_13 => ?_)
        · skip
          exact J58 (by omega)
        · skip
          refine y_iload_n CC 0 dX5_readsSleeper_50 rfl rfl ?_
          refine y_bipush CC (nI 114) dX5_readsSleeper_51 (by decide) ?_
          refine z_icmp_eq CC 58 dX5_readsSleeper_53 (by decide) (a := (cdF f n (k + 1)).toInt) (b := (114 : Int)) rfl (nI_toInt (by decide)) (fun c_14 => ?_) (fun c_14 => ?_)
          · skip
            exact J58 (by omega)
          · skip
            refine y_iconst CC (nI 0) dX5_readsSleeper_56 (by decide) ?_
            exact y_zret CC hQ dX5_readsSleeper_57 (by decide) (Or.inr ⟨rfl, ⟨k + 1, by omega, mu_at _ _ _ _, stuck hp1_ (by omega) (by simp [sA, tu_if]) (by rw [ps3, if_neg (by omega)])⟩, (FRT.rf μ).mu _ (by omega)⟩)
    · skip
      refine y_iconst CC (nI 0) dX5_readsSleeper_19 (by decide) ?_
      exact y_zret CC hQ dX5_readsSleeper_20 (by decide) (Or.inr ⟨rfl, ⟨k, by omega, hRD.1, stuck hpr hkn (by omega) (by rw [ps2 h3, if_neg (by omega), if_neg (by omega)])⟩, FRT.rf μ⟩)
