/-! odds: the two counts are the same -/
theorem all_ext {n : Nat} {f g : Nat → Bool} (h : ∀ a, a < n → f a = g a) : (List.range n).all f = (List.range n).all g := by
  cases hg : (List.range n).all g with
  | true => exact List.all_eq_true.mpr (fun a ha => by rw [h a (List.mem_range.mp ha)]; exact List.all_eq_true.mp hg a ha)
  | false =>
    cases hf : (List.range n).all f with
    | false => rfl
    | true =>
      have : (List.range n).all g = true := List.all_eq_true.mpr (fun a ha => by rw [← h a (List.mem_range.mp ha)]; exact List.all_eq_true.mp hf a ha)
      rw [hg] at this; cases this
theorem frS_w {τ : Tn} {w v : Nat} (h : ∀ a, a < tS τ → w.testBit a = v.testBit a) (m : Nat) : frS τ w m = frS τ v m := bs_ext (fun p _ => all_ext (fun a ha => by rw [h a ha]))
theorem rcM_w {τ : Tn} {w v f : Nat} (h : ∀ a, a < tS τ → w.testBit a = v.testBit a) : ∀ m, rcM τ w f m = rcM τ v f m
  | 0 => by rw [rcM, rcM, frS_w h]
  | m + 1 => by rw [rcM, rcM, frS_w h, rcM_w h m]
theorem sn_up {R : Nat → Nat} {t m : Nat} : ∀ {k K a : Nat}, sn R t a k = some m → k ≤ K → sn R t a K = some m
  | 0, K, a, h, _ => by cases h
  | k + 1, 0, a, h, hk => absurd hk (by omega)
  | k + 1, K + 1, a, h, hk => by
    rw [sn] at h
    rw [sn]
    split
    · rename_i hb; rw [if_pos hb] at h; exact h
    · rename_i hb; rw [if_neg hb] at h; exact sn_up h (by omega)
theorem sn_dn {R : Nat → Nat} {t m : Nat} : ∀ {K k a : Nat}, sn R t a K = some m → m < a + k → a ≤ m → sn R t a k = some m
  | 0, k, a, h, _, _ => by cases h
  | K + 1, 0, a, h, h1, h2 => absurd h1 (by omega)
  | K + 1, k + 1, a, h, h1, h2 => by
    rw [sn] at h
    rw [sn]
    split
    · rename_i hb; rw [if_pos hb] at h; exact h
    · rename_i hb
      rw [if_neg hb] at h
      have : a + 1 ≤ m := sn_ge h
      exact sn_dn h (by omega) this
where
  sn_ge {R : Nat → Nat} {t m : Nat} : ∀ {K a : Nat}, sn R t a K = some m → a ≤ m
  | 0, a, h => by cases h
  | K + 1, a, h => by
    rw [sn] at h
    split at h
    · cases h; exact Nat.le_refl _
    · have := sn_ge h; omega
theorem sn_none {R : Nat → Nat} {t : Nat} (h : ∀ m, R m = 0) : ∀ (k a : Nat), sn R t a k = none
  | 0, a => rfl
  | k + 1, a => by rw [sn, if_neg (by rw [h a, Nat.zero_testBit]; decide), sn_none h k (a + 1)]
theorem cw_eq {τ : Tn} {f t n w : Nat} (hn : n ≤ 60) : (sn (rcM τ w f) t 0 (n + 1)).isSome = cwB τ f t n w := by
  unfold cwB
  cases hf : (frS τ w 0).testBit f with
  | false => rw [sn_none (rcM_0 hf)]; rfl
  | true =>
    rw [sn_ext (rcM_eq hf) 0 (n + 1), Bool.true_and, soon]
    cases h : sn (rcS τ w f) t 0 61 with
    | none =>
      cases h2 : sn (rcS τ w f) t 0 (n + 1) with
      | none => rfl
      | some m => rw [sn_up h2 (show n + 1 ≤ 61 by omega)] at h; cases h
    | some m =>
      show _ = decide (m ≤ n)
      by_cases hm : m ≤ n
      · rw [sn_dn h (by omega) (Nat.zero_le _), decide_eq_true hm]; rfl
      · rw [decide_eq_false hm]
        cases h2 : sn (rcS τ w f) t 0 (n + 1) with
        | none => rfl
        | some q =>
          have h3 := soon_lt h2
          rw [sn_up h2 (show n + 1 ≤ 61 by omega)] at h
          cases h
          omega
theorem xr_bit : ∀ S, S < 5 → ∀ s, s < 2 ^ S → ∀ a, a < S → (15 ^^^ s).testBit a = (2 ^ S - 1 - s).testBit a := by decide +kernel
theorem cnB_ext {F G : Nat → Bool} : ∀ N, (∀ k, k < N → F k = G k) → cnB F N = cnB G N
  | 0, _ => rfl
  | N + 1, h => by rw [cnB, cnB, h N (by omega), cnB_ext N (fun k hk => h k (by omega))]
theorem cnB_sh (F : Nat → Bool) : ∀ N, cnB F (N + 1) = cnB (fun k => F (k + 1)) N + (if F 0 = true then 1 else 0)
  | 0 => by rw [cnB, cnB, cnB]
  | N + 1 => by rw [cnB, cnB_sh F N, cnB]; omega
theorem cnB_rev : ∀ (N : Nat) (F : Nat → Bool), cnB (fun k => F (N - 1 - k)) N = cnB F N
  | 0, F => rfl
  | N + 1, F => by
    rw [cnB_sh F N, cnB]
    have h := cnB_rev N (fun k => F (k + 1))
    have e : cnB (fun k => F (N + 1 - 1 - k)) N = cnB (fun k => F (k + 1)) N := by
      rw [← h]
      exact cnB_ext N (fun k hk => by show F (N + 1 - 1 - k) = F (N - 1 - k + 1); rw [show N + 1 - 1 - k = N - 1 - k + 1 by omega])
    rw [e, show N + 1 - 1 - N = 0 by omega]
theorem cn_eq {τ : Tn} {f t n : Nat} (hS : tS τ ≤ 4) (hn : n ≤ 60) : cnB (cwM τ f t n) (2 ^ tS τ) = cnB (cwB τ f t n) (2 ^ tS τ) := by
  rw [← cnB_rev (2 ^ tS τ) (cwB τ f t n)]
  refine cnB_ext _ (fun s hs => ?_)
  rw [← cw_eq hn, cwM, sn_ext (rcM_w (xr_bit _ (by omega) s hs)) 0 (n + 1)]
theorem od_eq {τ : Tn} {f t n : Nat} (hS : tS τ ≤ 4) (hn : n ≤ 60) : odS τ f t n = (cnB (cwM τ f t n) (2 ^ tS τ) / Nat.gcd (cnB (cwM τ f t n) (2 ^ tS τ)) (2 ^ tS τ), 2 ^ tS τ / Nat.gcd (cnB (cwM τ f t n) (2 ^ tS τ)) (2 ^ tS τ)) := by
  rw [odS, cn_eq hS hn]
  exact gcd_r hS rfl (cnB_le _ _)
theorem l_a1 : ∀ a, a < 17 → lN a + 1 = lN (a + 1) := by decide +kernel
theorem l_a0 : ∀ a, a < 17 → lN a + 0 = lN a := by decide +kernel
theorem lI_ {x : Nat} (h : x < 2 ^ 31) : (nI x).toInt64 = lN x := by
  apply Int64.toInt_inj.mp
  rw [l_i, nI_toInt h, pk_lT (by omega)]
/-! the reference's sheets -/
def szV (ln len : Nat) : Int32 := if ln = 0 then -1 else nI len
def szZ (ln len : Nat) : Int := if ln = 0 then -1 else len
theorem szV_i {ln len : Nat} (h : len ≤ 60) : (szV ln len).toInt = szZ ln len := by
  unfold szV szZ
  split
  · decide
  · exact nI_toInt (by omega)
theorem szZ_or (ln len : Nat) : (ln = 0 ∧ szZ ln len = -1) ∨ (0 < ln ∧ szZ ln len = len) := by
  unfold szZ
  split
  · exact Or.inl ⟨by assumption, rfl⟩
  · exact Or.inr ⟨by omega, rfl⟩
def thB (θ : Tn) : Prop := ∀ k, k < 4 → θ k 0 ≤ 3 ∧ θ k 1 ≤ 60 ∧ (θ k 0 = 0 → θ k 1 = 0)
theorem SM.sz {μ : Mem} {θ : Tn} {ζ : Nat → Nat → Int32} (h : SM μ θ ζ) {k : Nat} (hk : k < 4) : μ 44 k = szV (θ k 0) (θ k 1) := by
  unfold szV
  split
  · exact (h k hk).1 (by assumption)
  · exact ((h k hk).2.1 (by omega)).1
theorem SM.same {μ ν : Mem} {θ : Tn} {ζ : Nat → Nat → Int32} (h : SM μ θ ζ) (h1 : ∀ c k, 44 ≤ c → c ≤ 46 → ν c k = μ c k) : SM ν θ ζ := fun k hk => by
  obtain ⟨a, b, c⟩ := h k hk
  rw [h1 44 k (by decide) (by decide), h1 45 k (by decide) (by decide)]
  exact ⟨a, b, fun i hi => by rw [h1 46 _ (by decide) (by decide)]; exact c i hi⟩
theorem SM.f0 {μ : Mem} {θ : Tn} {ζ : Nat → Nat → Int32} (h : SM μ θ ζ) (k : Nat) (v : Int32) : SM (mu μ 30 k v) θ ζ := h.same (fun c _ h1 _ => mu_ne _ _ (Or.inl (by omega)))
def ncF (ln len : Nat) (i : Int32) : Nat := if ln = 0 then 1 else if inB i len = true then 0 else 3
theorem nc_or (ln len : Nat) (i : Int32) : (ln = 0 ∧ ncF ln len i = 1) ∨ (0 < ln ∧ inB i len = true ∧ ncF ln len i = 0) ∨ (0 < ln ∧ inB i len = false ∧ ncF ln len i = 3) := by
  unfold ncF
  by_cases h : ln = 0
  · exact Or.inl ⟨h, by rw [if_pos h]⟩
  · cases hb : inB i len with
    | true => exact Or.inr (Or.inl ⟨by omega, rfl, by rw [if_neg h]; rfl⟩)
    | false => exact Or.inr (Or.inr ⟨by omega, rfl, by rw [if_neg h]; rfl⟩)
def cbF (ln len la : Nat) (i n : Int32) : Nat := if farF ln la = 0 then (if n.toInt < 0 then 4 else if focB len i n = true then 0 else 3) else farF ln la

set_option maxRecDepth 100000 in
set_option maxHeartbeats 4000000 in
theorem m_odds (l : Launch) (D : va_G) (ad : Nat → Nat) (kI kS kL : ClassId) (μ : Mem) (τ : Tn) (hM : TM μ τ) (hV : tV τ) (hab : μ 30 7 = nI 0) (f t n w : Int32) : ML l D ad kI kS kL yX5_odds cX5_odds 8 (some .long) 4 96 [.ref (ad 30), .int f, .int t, .int n, .int w] μ (fun r μ2 => μ = μ2 ∧ r = q_odds τ f t n w) := by
  refine met_L RX5 rfl (by decide) (lv := [(0, .ref (ad 30)), (1, .int f), (2, .int t), (3, .int n), (4, .int w)]) rfl (Nat.le_of_ble_eq_true rfl) ?_
  intro pp ee ss mm aa bb me cd AA hA0 CC hnm QQ hQ
  have hB := hV.1
  have hP9 : tP τ ≤ 9 := hB.1
  have hS4 : tS τ ≤ 4 := hB.2.1
  have hVc := hV.2.1
  have hpw : 2 ^ tS τ ≤ 2 ^ 4 := Nat.pow_le_pow_right (by decide) hS4
  refine y_aload_n CC 0 dX5_odds_0 rfl rfl ?_
  refine y_iload_n CC 1 dX5_odds_1 rfl rfl ?_
  refine y_callVI (ci := 5) (st := []) CC cl_X5_134 (m_noPlace l D ad kI kS kL μ τ hM hB f) (by omega) rfl rfl rfl (Nat.le_of_ble_eq_true rfl) ⟨by decide, by decide⟩ ⟨Nat.zero_le _, Nat.zero_le _⟩ dX5_odds_2 (fun r_ μ_ w_2 => ?_)
  rcases w_2 with ⟨rfl, ⟨b_1, rfl⟩ | ⟨b_1, rfl⟩⟩
  · skip
    refine z_if_neT CC 34 dX5_odds_5 (by decide) (a := (1 : Int)) (nI_toInt (by decide)) (by decide) ?_
    refine y_callSL (st := []) CC cl_X5_67 (m_lost l D ad kI kS kL μ ) rfl rfl (Nat.le_of_ble_eq_true rfl) ⟨by decide, by decide⟩ ⟨Nat.zero_le _, Nat.zero_le _⟩ dX5_odds_34 (fun r_ μ_ w_3 => ?_)
    obtain ⟨rfl, rfl⟩ := w_3
    exact y_lret CC hQ dX5_odds_37 (⟨rfl, by simp [q_odds, b_1]⟩)
  · skip
    obtain ⟨jf, hjf, rfl⟩ := inB_of b_1 (by omega)
    refine z_if_neF CC 34 dX5_odds_5 (by decide) (a := (0 : Int)) (nI_toInt (by decide)) (by decide) ?_
    refine y_aload_n CC 0 dX5_odds_8 rfl rfl ?_
    refine y_iload_n CC 2 dX5_odds_9 rfl rfl ?_
    refine y_callVI (ci := 5) (st := []) CC cl_X5_134 (m_noPlace l D ad kI kS kL μ τ hM hB t) (by omega) rfl rfl rfl (Nat.le_of_ble_eq_true rfl) ⟨by decide, by decide⟩ ⟨Nat.zero_le _, Nat.zero_le _⟩ dX5_odds_10 (fun r_ μ_ w_5 => ?_)
    rcases w_5 with ⟨rfl, ⟨b_4, rfl⟩ | ⟨b_4, rfl⟩⟩
    · skip
      refine z_if_neT CC 34 dX5_odds_13 (by decide) (a := (1 : Int)) (nI_toInt (by decide)) (by decide) ?_
      refine y_callSL (st := []) CC cl_X5_67 (m_lost l D ad kI kS kL μ ) rfl rfl (Nat.le_of_ble_eq_true rfl) ⟨by decide, by decide⟩ ⟨Nat.zero_le _, Nat.zero_le _⟩ dX5_odds_34 (fun r_ μ_ w_6 => ?_)
      obtain ⟨rfl, rfl⟩ := w_6
      exact y_lret CC hQ dX5_odds_37 (⟨rfl, by simp [q_odds, b_1, ix_nI (show jf < 2 ^ 31 by omega), b_4]⟩)
    · skip
      obtain ⟨jt, hjt, rfl⟩ := inB_of b_4 (by omega)
      refine z_if_neF CC 34 dX5_odds_13 (by decide) (a := (0 : Int)) (nI_toInt (by decide)) (by decide) ?_
      refine y_iload_n CC 3 dX5_odds_16 rfl rfl ?_
      refine y_callSI (st := []) CC cl_X5_141 (m_noMinute l D ad kI kS kL μ n) rfl rfl (Nat.le_of_ble_eq_true rfl) ⟨by decide, by decide⟩ ⟨Nat.zero_le _, Nat.zero_le _⟩ dX5_odds_17 (fun r_ μ_ w_8 => ?_)
      rcases w_8 with ⟨rfl, ⟨b_7, rfl⟩ | ⟨b_7, rfl⟩⟩
      · skip
        refine z_if_neT CC 34 dX5_odds_20 (by decide) (a := (1 : Int)) (nI_toInt (by decide)) (by decide) ?_
        refine y_callSL (st := []) CC cl_X5_67 (m_lost l D ad kI kS kL μ ) rfl rfl (Nat.le_of_ble_eq_true rfl) ⟨by decide, by decide⟩ ⟨Nat.zero_le _, Nat.zero_le _⟩ dX5_odds_34 (fun r_ μ_ w_9 => ?_)
        obtain ⟨rfl, rfl⟩ := w_9
        exact y_lret CC hQ dX5_odds_37 (⟨rfl, by simp [q_odds, b_1, ix_nI (show jf < 2 ^ 31 by omega), b_4, ix_nI (show jt < 2 ^ 31 by omega), b_7]⟩)
      · skip
        obtain ⟨jn, hjn, rfl⟩ := inB_of b_7 (by omega)
        refine z_if_neF CC 34 dX5_odds_20 (by decide) (a := (0 : Int)) (nI_toInt (by decide)) (by decide) ?_
        refine y_iload CC 4 dX5_odds_23 rfl ?_
        refine y_i2l CC dX5_odds_25 (v := (w).toInt64) rfl ?_
        refine y_lconst CC 0 dX5_odds_26 rfl ?_
        refine y_lconst CC 1 dX5_odds_27 rfl ?_
        refine y_callSI (st := []) CC cl_X5_74 (m_in l D ad kI kS kL μ ((w).toInt64) 0 1 ((w).toInt) ((0 : Int)) ((1 : Int))  ((l_i _).trans rfl) (by decide) (by decide)) rfl rfl (Nat.le_of_ble_eq_true rfl) ⟨by decide, by decide⟩ ⟨Nat.zero_le _, Nat.zero_le _⟩ dX5_odds_28 (fun r_ μ_ w_11 => ?_)
        rcases w_11 with ⟨rfl, ⟨i_10, rfl⟩ | ⟨i_10, rfl⟩⟩
        · skip
          have hv_ : inB w 2 = true := inB_t (by omega)
          refine z_if_neT CC 38 dX5_odds_31 (by decide) (a := (1 : Int)) (nI_toInt (by decide)) (by decide) ?_
          refine y_lconst CC 0 dX5_odds_38 rfl ?_
          refine y_lstore CC [(5, .long 0), (0, .ref (ad 30)), (1, .int (nI jf)), (2, .int (nI jt)), (3, .int (nI jn)), (4, .int w)] dX5_odds_39 (by decide) rfl ?_
          refine y_iconst CC (nI 0) dX5_odds_41 (by decide) ?_
          refine y_istore CC [(7, .int (nI 0)), (5, .long 0), (0, .ref (ad 30)), (1, .int (nI jf)), (2, .int (nI jt)), (3, .int (nI jn)), (4, .int w)] dX5_odds_42 (by decide) rfl ?_
          have L44 : ∀ (n44 : Nat) (s : Nat) (ν : Mem), 2 ^ tS τ - s < n44 → (s ≤ 2 ^ tS τ) → (∀ c1 k1, c1 ≠ 30 ∨ k1 ≠ 7 → ν c1 k1 = μ c1 k1) → Y pp l ee (rmY 4 96) ss mm aa bb me cd D ad kI kS kL AA 8 0 0 QQ 44 [(7, .int (nI s)), (5, .long (lN (cnB (cwM τ jf jt jn) s))), (0, .ref (ad 30)), (1, .int (nI jf)), (2, .int (nI jt)), (3, .int (nI jn)), (4, .int w)] [] ν := by
            intro n44
            induction n44 with
            | zero => intro s ν hm44; exact absurd hm44 (Nat.not_lt_zero _)
            | succ n44 ih44 =>
              intro s ν hm44 hs hF
              have hMν3 : ν 30 3 = nI (tS τ) := (hF 30 3 (Or.inr (by decide))).trans hM.2.1
              refine y_iload CC 0 dX5_odds_44 rfl ?_
              refine y_iconst CC (nI 1) dX5_odds_46 (by decide) ?_
              refine y_aload_n CC 2 dX5_odds_47 rfl rfl ?_
              refine y_geti CC gl_X5_78 (by omega) rfl (v := nI (tS τ)) hMν3 dX5_odds_48 ?_
              refine y_ishl CC dX5_odds_51 (v := nI (2 ^ (tS τ))) (i_sh1 (by omega)) ?_
              refine z_icmp_ge CC 87 dX5_odds_52 (by decide) (a := ((s : Nat) : Int)) (b := ((2 ^ (tS τ) : Nat) : Int)) (nI_toInt (by omega)) (nI_toInt (by omega)) (fun c_13 => ?_) (fun c_13 => ?_)
              · skip
                obtain rfl : s = 2 ^ tS τ := by omega
                have hcl_ := cnB_le (cwM τ jf jt jn) (2 ^ tS τ)
                refine y_aload_n CC 2 dX5_odds_87 rfl rfl ?_
                refine y_iconst CC (nI 0) dX5_odds_88 (by decide) ?_
                refine y_puti CC pl_X5_147 (by omega) rfl (Nat.le_of_ble_eq_true rfl) dX5_odds_89 ?_
                refine y_lload CC 1 dX5_odds_92 rfl ?_
                refine y_lconst CC 1 dX5_odds_94 rfl ?_
                refine y_aload_n CC 2 dX5_odds_95 rfl rfl ?_
                refine y_geti CC gl_X5_78 (by omega) rfl (v := nI (tS τ)) ((mu_k _ _ (by decide)).trans hMν3) dX5_odds_96 ?_
                refine y_lshl CC dX5_odds_99 (v := lN (2 ^ tS τ)) (l_sh1 _ (by omega)) ?_
                refine y_iload CC 6 dX5_odds_100 rfl ?_
                refine y_callSL (st := []) CC cl_X5_199 (m_share l D ad kI kS kL (mu ν 30 7 (nI 0)) (cnB (cwM τ jf jt jn) (2 ^ tS τ)) (2 ^ tS τ) w (by omega) (by omega) (Nat.two_pow_pos _)) rfl rfl (Nat.le_of_ble_eq_true rfl) ⟨by decide, by decide⟩ ⟨Nat.zero_le _, Nat.zero_le _⟩ dX5_odds_102 (fun r_ μ_ w_14 => ?_)
                obtain ⟨rfl, rfl⟩ := w_14
                refine y_lret CC hQ dX5_odds_105 ?_
                refine ⟨mu_back hF hab, ?_⟩
                have hq_ : q_odds τ (nI jf) (nI jt) (nI jn) w = if w.toInt = 0 then (nI (odS τ jf jt jn).1).toInt64 else (nI (odS τ jf jt jn).2).toInt64 := by simp [q_odds, b_1, ix_nI (show jf < 2 ^ 31 by omega), b_4, ix_nI (show jt < 2 ^ 31 by omega), b_7, ix_nI (show jn < 2 ^ 31 by omega), hv_]
                rw [hq_, od_eq hS4 (by omega)]
                have hu_ := Nat.div_le_self (cnB (cwM τ jf jt jn) (2 ^ tS τ)) (Nat.gcd (cnB (cwM τ jf jt jn) (2 ^ tS τ)) (2 ^ tS τ))
                have hd_ := Nat.div_le_self (2 ^ tS τ) (Nat.gcd (cnB (cwM τ jf jt jn) (2 ^ tS τ)) (2 ^ tS τ))
                by_cases hw0_ : w.toInt = 0
                · rw [if_pos hw0_, if_pos hw0_]; exact (lI_ (by omega)).symm
                · rw [if_neg hw0_, if_neg hw0_]; exact (lI_ (by omega)).symm
              · skip
                refine y_aload_n CC 2 dX5_odds_55 rfl rfl ?_
                refine y_iload CC 0 dX5_odds_56 rfl ?_
                refine y_puti CC pl_X5_147 (by omega) rfl (Nat.le_of_ble_eq_true rfl) dX5_odds_58 ?_
                refine y_lload CC 1 dX5_odds_61 rfl ?_
                refine y_aload_n CC 2 dX5_odds_63 rfl rfl ?_
                refine y_iload_n CC 3 dX5_odds_64 rfl rfl ?_
                refine y_iload_n CC 4 dX5_odds_65 rfl rfl ?_
                refine y_iload_n CC 5 dX5_odds_66 rfl rfl ?_
                have hMs : TM (mu ν 30 7 (nI s)) τ := hM.same (by rw [mu_k _ _ (by decide)]; exact hF 30 1 (Or.inr (by decide))) (by rw [mu_k _ _ (by decide)]; exact hF 30 3 (Or.inr (by decide))) (fun c_ k_ h1_ h2_ => by rw [mu_ne _ _ (Or.inl (by omega))]; exact hF c_ k_ (Or.inl (by omega)))
                refine y_callVI (ci := 5) (st := [.long (lN (cnB (cwM τ jf jt jn) s))]) CC cl_X5_184 (m_soonestOf l D ad kI kS kL (mu ν 30 7 (nI s)) τ hMs hB (by omega) (15 ^^^ s) s (mu_at _ _ _ _) (by omega) (ab_w s (by omega)) jf jt jn (by omega) (by omega) (by omega)) (by omega) rfl rfl rfl (Nat.le_of_ble_eq_true rfl) ⟨by decide, by decide⟩ ⟨Nat.zero_le _, Nat.zero_le _⟩ dX5_odds_67 (fun r_ μ_ w_15 => ?_)
                obtain ⟨rfl, rfl⟩ := w_15
                rcases hb_ : sn (rcM τ (15 ^^^ s) jf) jt 0 (jn + 1) with _ | m_
                · skip
                  refine y_top (y := -9) (by first | rfl | (rw [hb_]; rfl)) ?_
                  have hcl_ := cnB_le (cwM τ jf jt jn) s
                  refine z_if_ltT CC 77 dX5_odds_70 (by decide) (a := (-9 : Int)) (by decide) (by decide) ?_
                  refine y_lconst CC 0 dX5_odds_77 rfl ?_
                  refine y_ladd CC dX5_odds_78 (v := lN (cnB (cwM τ jf jt jn) (s + 1))) (by rw [cnB, if_neg (by rw [cwM, hb_]; decide), Nat.add_zero]; exact l_a0 _ (by omega)) ?_
                  refine y_lstore CC [(5, .long (lN (cnB (cwM τ jf jt jn) (s + 1)))), (7, .int (nI s)), (0, .ref (ad 30)), (1, .int (nI jf)), (2, .int (nI jt)), (3, .int (nI jn)), (4, .int w)] dX5_odds_79 (by decide) rfl ?_
                  refine y_iinc CC 1 (nI (s + 1)) [(7, .int (nI (s + 1))), (5, .long (lN (cnB (cwM τ jf jt jn) (s + 1)))), (0, .ref (ad 30)), (1, .int (nI jf)), (2, .int (nI jt)), (3, .int (nI jn)), (4, .int w)] dX5_odds_81 rfl (i_inc _) (by decide) rfl ?_
                  refine y_goto CC 44 dX5_odds_84 (by decide) ?_
                  exact ih44 (s + 1) (mu ν 30 7 (nI s)) (by omega) (by omega) (FR_mu hF)
                · skip
                  have hm_ := soon_lt hb_
                  refine y_top (y := nI m_) (by first | rfl | (rw [hb_]; rfl)) ?_
                  have hcl_ := cnB_le (cwM τ jf jt jn) s
                  refine z_if_ltF CC 77 dX5_odds_70 (by decide) (a := ((m_ : Nat) : Int)) (nI_toInt (by omega)) (by omega) ?_
                  refine y_lconst CC 1 dX5_odds_73 rfl ?_
                  refine y_goto CC 78 dX5_odds_74 (by decide) ?_
                  refine y_ladd CC dX5_odds_78 (v := lN (cnB (cwM τ jf jt jn) (s + 1))) (by rw [cnB, if_pos (by rw [cwM, hb_]; rfl)]; exact l_a1 _ (by omega)) ?_
                  refine y_lstore CC [(5, .long (lN (cnB (cwM τ jf jt jn) (s + 1)))), (7, .int (nI s)), (0, .ref (ad 30)), (1, .int (nI jf)), (2, .int (nI jt)), (3, .int (nI jn)), (4, .int w)] dX5_odds_79 (by decide) rfl ?_
                  refine y_iinc CC 1 (nI (s + 1)) [(7, .int (nI (s + 1))), (5, .long (lN (cnB (cwM τ jf jt jn) (s + 1)))), (0, .ref (ad 30)), (1, .int (nI jf)), (2, .int (nI jt)), (3, .int (nI jn)), (4, .int w)] dX5_odds_81 rfl (i_inc _) (by decide) rfl ?_
                  refine y_goto CC 44 dX5_odds_84 (by decide) ?_
                  exact ih44 (s + 1) (mu ν 30 7 (nI s)) (by omega) (by omega) (FR_mu hF)
          exact L44 _ 0 μ (Nat.lt_succ_self _) (Nat.zero_le _) (fun _ _ _ => rfl)
        · skip
          have hv_ : inB w 2 = false := inB_f (by omega)
          refine z_if_neF CC 38 dX5_odds_31 (by decide) (a := (0 : Int)) (nI_toInt (by decide)) (by decide) ?_
          refine y_callSL (st := []) CC cl_X5_67 (m_lost l D ad kI kS kL μ ) rfl rfl (Nat.le_of_ble_eq_true rfl) ⟨by decide, by decide⟩ ⟨Nat.zero_le _, Nat.zero_le _⟩ dX5_odds_34 (fun r_ μ_ w_16 => ?_)
          obtain ⟨rfl, rfl⟩ := w_16
          exact y_lret CC hQ dX5_odds_37 (⟨rfl, by simp [q_odds, b_1, ix_nI (show jf < 2 ^ 31 by omega), b_4, ix_nI (show jt < 2 ^ 31 by omega), b_7, ix_nI (show jn < 2 ^ 31 by omega), hv_]⟩)
