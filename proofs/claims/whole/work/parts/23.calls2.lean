set_option maxRecDepth 100000 in
set_option maxHeartbeats 4000000 in
theorem x_as (l : Launch) (D : va_G) (ad : Nat → Nat) (kI kS kL : ClassId) (μ : Mem) (τ : Tn) (hT : TX μ 1 τ) (hV : tV τ) (a k : Int32) : MI l D ad kI kS kL yX4_as cX4_as 4 (some .int) 2 42 [.ref (ad 0), .int a, .int k] μ (fun r μ2 => (μ2 = mu μ 0 5 (nI (f_as τ a k))) ∧ r = q_as τ a k) := by
  refine met_I RX4 rfl (by decide) (lv := [(0, .ref (ad 0)), (1, .int a), (2, .int k)]) rfl (Nat.le_of_ble_eq_true rfl) ?_
  intro pp ee ss mm aa bb me cd AA hA0 CC hnm QQ hQ
  have hB := hV.1
  have hP9 : tP τ ≤ 9 := hB.1
  have hS4 : tS τ ≤ 4 := hB.2.1
  have hVc := hV.2.1
  refine y_aload_n CC 0 dX4_as_0 rfl rfl ?_
  refine y_iconst CC (nI 0) dX4_as_1 (by decide) ?_
  refine y_puti CC pl_X4_38 (by omega) rfl (Nat.le_of_ble_eq_true rfl) dX4_as_2 ?_
  have hT0 : TX (mu μ 0 5 (nI 0)) 1 τ := hT.f0 5 _
  refine y_aload_n CC 0 dX4_as_5 rfl rfl ?_
  refine y_getr CC gl_X4_14 (by omega) (d := 1) rfl dX4_as_6 ?_
  refine y_iload_n CC 1 dX4_as_9 rfl rfl ?_
  refine y_callVN (ci := 3) (st := []) CC cl_X4_73 (k_sleeperOrNull l D ad kI kS kL (mu μ 0 5 (nI 0)) 1 (by omega) τ hT0 hB a) (by omega) rfl rfl rfl (Nat.le_of_ble_eq_true rfl) ⟨by decide, by decide⟩ ⟨Nat.zero_le _, Nat.zero_le _⟩ dX4_as_10 (fun r_ μ_ w_2 => ?_)
  rcases w_2 with ⟨rfl, ⟨b_1, rfl⟩ | ⟨b_1, rfl⟩⟩
  · skip
    obtain ⟨j, hj, rfl⟩ := inB_of b_1 (by omega)
    refine y_eq (st2 := [.ref (ad (4 * 1 + 18 + j))]) (by rw [ix_nI (by omega)]; rfl) ?_
    refine y_astore_n CC [(3, .ref (ad (4 * 1 + 18 + j))), (0, .ref (ad 0)), (1, .int (nI j)), (2, .int k)] dX4_as_13 rfl (by decide) rfl ?_
    refine y_aload_n CC 0 dX4_as_14 rfl rfl ?_
    refine y_ifnonnull CC 20 dX4_as_15 (by decide) ?_
    refine y_iload_n CC 3 dX4_as_20 rfl rfl ?_
    refine z_if_lt CC 29 dX4_as_21 (by decide) (a := (k).toInt) rfl (fun c_3 => ?_) (fun c_3 => ?_)
    · skip
      have hv_ : inB k 3 = false := inB_f (by omega)
      refine y_bipush CC ((-2)) dX4_as_29 (by decide) ?_
      exact y_iret CC hQ dX4_as_31 (⟨by simp [f_as, b_1, ix_nI (show j < 2 ^ 31 by omega), hv_, mu_mu], by simp [q_as, b_1, ix_nI (show j < 2 ^ 31 by omega), hv_]⟩)
    · skip
      refine y_iload_n CC 3 dX4_as_24 rfl rfl ?_
      refine y_iconst CC (nI 2) dX4_as_25 (by decide) ?_
      refine z_icmp_le CC 32 dX4_as_26 (by decide) (a := (k).toInt) (b := (2 : Int)) rfl (nI_toInt (by decide)) (fun c_4 => ?_) (fun c_4 => ?_)
      · skip
        have hkb := hB.2.2.1 j (by omega)
        have hv_ : inB k 3 = true := inB_t (by omega)
        obtain ⟨jk, hjk, rfl⟩ := inB_of hv_ (by omega)
        refine y_aload_n CC 0 dX4_as_32 rfl rfl ?_
        refine y_geti CC gl_X4_77 (by omega) rfl (v := nI (tK τ j)) (hT0.2.2.1 j (by omega)).1 dX4_as_33 ?_
        refine y_iload_n CC 3 dX4_as_36 rfl rfl ?_
        refine z_icmp_ge CC 48 dX4_as_37 (by decide) (a := ((tK τ j : Nat) : Int)) (b := ((jk : Nat) : Int)) (nI_toInt (by omega)) (nI_toInt (by omega)) (fun c_5 => ?_) (fun c_5 => ?_)
        · skip
          have hk1_ : jk ≤ tK τ j := by omega
          have hk2_ : ¬ tK τ j < jk := by omega
          refine y_iconst CC (nI 1) dX4_as_48 (by decide) ?_
          exact y_iret CC hQ dX4_as_49 (⟨by simp [f_as, b_1, ix_nI (show j < 2 ^ 31 by omega), hv_, ix_nI (show jk < 2 ^ 31 by omega), hk1_, hk2_, mu_mu], by simp [q_as, b_1, ix_nI (show j < 2 ^ 31 by omega), hv_, ix_nI (show jk < 2 ^ 31 by omega), hk1_, hk2_]⟩)
        · skip
          have hk1_ : ¬ jk ≤ tK τ j := by omega
          have hk2_ : tK τ j < jk := by omega
          refine y_aload_n CC 1 dX4_as_40 rfl rfl ?_
          refine y_iconst CC (nI 2) dX4_as_41 (by decide) ?_
          refine y_callVI (ci := 4) (st := []) CC cl_X4_58 (k_cameTo l D ad kI kS kL (mu μ 0 5 (nI 0)) 2 (by omega)) (by omega) rfl rfl rfl (Nat.le_of_ble_eq_true rfl) ⟨by decide, by decide⟩ ⟨Nat.zero_le _, Nat.zero_le _⟩ dX4_as_42 (fun r_ μ_ w_6 => ?_)
          obtain ⟨rfl, rfl⟩ := w_6
          refine y_goto CC 49 dX4_as_45 (by decide) ?_
          exact y_iret CC hQ dX4_as_49 (⟨by simp [f_as, b_1, ix_nI (show j < 2 ^ 31 by omega), hv_, ix_nI (show jk < 2 ^ 31 by omega), hk1_, hk2_, mu_mu], by simp [q_as, b_1, ix_nI (show j < 2 ^ 31 by omega), hv_, ix_nI (show jk < 2 ^ 31 by omega), hk1_, hk2_]⟩)
      · skip
        have hv_ : inB k 3 = false := inB_f (by omega)
        refine y_bipush CC ((-2)) dX4_as_29 (by decide) ?_
        exact y_iret CC hQ dX4_as_31 (⟨by simp [f_as, b_1, ix_nI (show j < 2 ^ 31 by omega), hv_, mu_mu], by simp [q_as, b_1, ix_nI (show j < 2 ^ 31 by omega), hv_]⟩)
  · skip
    refine y_eq (st2 := [.null]) rfl ?_
    refine y_astore_nN CC [(3, .null), (0, .ref (ad 0)), (1, .int a), (2, .int k)] dX4_as_13 rfl (by decide) rfl ?_
    refine y_aload_nN CC 0 dX4_as_14 rfl rfl ?_
    refine y_ifnonnullN CC 20 dX4_as_15 (by decide) ?_
    refine y_iconst CC ((-1)) dX4_as_18 (by decide) ?_
    exact y_iret CC hQ dX4_as_19 (⟨by simp [f_as, b_1, mu_mu], by simp [q_as, b_1]⟩)

set_option maxRecDepth 100000 in
set_option maxHeartbeats 4000000 in
theorem x_sheet (l : Launch) (D : va_G) (ad : Nat → Nat) (kI kS kL : ClassId) (μ : Mem) (θ : Tn) (ζ : Nat → Nat → Int32) (hS : SX μ θ ζ) (k la n : Int32) : MI l D ad kI kS kL yX4_sheet cX4_sheet 5 (some .int) 2 45 [.ref (ad 0), .int k, .int la, .int n] μ (fun r μ2 => ((ok_sheet k la n = false → μ2 = mu μ 0 5 (nI (f_sheet k la n))) ∧ (ok_sheet k la n = true → (∀ c1 k1, c1 ≠ 14 + ix k → c1 ≠ 14 + ix k + 4 → μ2 c1 k1 = mu μ 0 5 (nI 0) c1 k1) ∧ (∀ j, j < 60 → μ2 (14 + ix k + 4) j = nI 0) ∧ μ2 (14 + ix k) 1 = la ∧ μ2 (14 + ix k) 2 = n)) ∧ r = q_sheet k la n) := by
  refine met_I RX4 rfl (by decide) (lv := [(0, .ref (ad 0)), (1, .int k), (2, .int la), (3, .int n)]) rfl (Nat.le_of_ble_eq_true rfl) ?_
  intro pp ee ss mm aa bb me cd AA hA0 CC hnm QQ hQ
  refine y_aload_n CC 0 dX4_sheet_0 rfl rfl ?_
  refine y_iconst CC (nI 0) dX4_sheet_1 (by decide) ?_
  refine y_puti CC pl_X4_38 (by omega) rfl (Nat.le_of_ble_eq_true rfl) dX4_sheet_2 ?_
  have hS0 : SX (mu μ 0 5 (nI 0)) θ ζ := hS.f0 5 _
  refine y_aload_n CC 0 dX4_sheet_5 rfl rfl ?_
  refine y_iload_n CC 1 dX4_sheet_6 rfl rfl ?_
  refine y_callVN (ci := 4) (st := []) CC cl_X4_42 (k_sheetOrNull l D ad kI kS kL (mu μ 0 5 (nI 0)) k) (by omega) rfl rfl rfl (Nat.le_of_ble_eq_true rfl) ⟨by decide, by decide⟩ ⟨Nat.zero_le _, Nat.zero_le _⟩ dX4_sheet_7 (fun r_ μ_ w_2 => ?_)
  rcases w_2 with ⟨rfl, ⟨b_1, rfl⟩ | ⟨b_1, rfl⟩⟩
  · skip
    obtain ⟨jk, hjk, rfl⟩ := inB_of b_1 (by omega)
    refine y_eq (st2 := [.ref (ad (14 + jk))]) (by rw [ix_nI (by omega)]; rfl) ?_
    have hs_jk := hS0 jk hjk
    have hs3_jk := hs_jk.2.2.1
    have hs4_jk := hs_jk.2.2.2.1
    refine y_astore CC [(4, .ref (ad (14 + jk))), (0, .ref (ad 0)), (1, .int (nI jk)), (2, .int la), (3, .int n)] dX4_sheet_10 (by decide) rfl ?_
    refine y_aload CC 0 dX4_sheet_12 rfl ?_
    refine y_ifnonnull CC 19 dX4_sheet_14 (by decide) ?_
    refine y_iload_n CC 3 dX4_sheet_19 rfl rfl ?_
    refine y_callSI (st := []) CC cl_X4_46 (k_isLane l D ad kI kS kL (mu μ 0 5 (nI 0)) la) rfl rfl (Nat.le_of_ble_eq_true rfl) ⟨by decide, by decide⟩ ⟨Nat.zero_le _, Nat.zero_le _⟩ dX4_sheet_20 (fun r_ μ_ w_4 => ?_)
    rcases w_4 with ⟨rfl, ⟨b_3, rfl⟩ | ⟨b_3, rfl⟩⟩
    · skip
      obtain ⟨jl, hjl, rfl⟩ := inB_of b_3 (by omega)
      refine z_if_eqF CC 32 dX4_sheet_23 (by decide) (a := (1 : Int)) (nI_toInt (by decide)) (by decide) ?_
      refine y_iload_n CC 4 dX4_sheet_26 rfl rfl ?_
      refine y_bipush CC (nI 60) dX4_sheet_27 (by decide) ?_
      refine z_icmp_le CC 35 dX4_sheet_29 (by decide) (a := (n).toInt) (b := (60 : Int)) rfl (nI_toInt (by decide)) (fun c_5 => ?_) (fun c_5 => ?_)
      · skip
        refine y_iload_n CC 4 dX4_sheet_35 rfl rfl ?_
        refine z_if_ge CC 45 dX4_sheet_36 (by decide) (a := (n).toInt) rfl (fun c_6 => ?_) (fun c_6 => ?_)
        · skip
          have hn1_ : n.toInt ≤ 60 := by omega
          have hn2_ : ¬ n.toInt < 0 := by omega
          have hn3_ : inB n 61 = true := inB_t (by omega)
          refine y_aload CC 0 dX4_sheet_45 rfl ?_
          refine y_iload_n CC 3 dX4_sheet_47 rfl rfl ?_
          refine y_iload_n CC 4 dX4_sheet_48 rfl rfl ?_
          refine y_callVV (ci := 1) (st := []) CC cl_X4_176 (k_renew l D ad kI kS kL (mu μ 0 5 (nI 0)) (14 + jk) (by omega) (θ jk 0) (θ jk 1) (ζ jk) hs_jk (nI jl) n) (by omega) rfl rfl rfl (Nat.le_of_ble_eq_true rfl) ⟨by decide, by decide⟩ ⟨Nat.zero_le _, Nat.zero_le _⟩ dX4_sheet_49 (fun μ_ w_7 => ?_)
          have hW_ := w_7
          refine y_iconst CC (nI 1) dX4_sheet_52 (by decide) ?_
          exact y_iret CC hQ dX4_sheet_53 (⟨⟨fun h_ => by simp [ok_sheet, b_1, ix_nI (show jk < 2 ^ 31 by omega), b_3, ix_nI (show jl < 2 ^ 31 by omega), hn3_] at h_, fun _ => by simpa only [ix_nI (show jk < 2 ^ 31 by omega)] using hW_⟩, by simp [q_sheet, b_1, ix_nI (show jk < 2 ^ 31 by omega), b_3, ix_nI (show jl < 2 ^ 31 by omega), hn3_, hn1_, hn2_]⟩)
        · skip
          have hn1_ : n.toInt ≤ 60 := by omega
          have hn3_ : n.toInt < 0 := by omega
          have hn2_ : inB n 61 = false := inB_f (by omega)
          refine y_aload_n CC 1 dX4_sheet_39 rfl rfl ?_
          refine y_iconst CC (nI 4) dX4_sheet_40 (by decide) ?_
          refine y_callVI (ci := 4) (st := []) CC cl_X4_58 (k_cameTo l D ad kI kS kL (mu μ 0 5 (nI 0)) 4 (by omega)) (by omega) rfl rfl rfl (Nat.le_of_ble_eq_true rfl) ⟨by decide, by decide⟩ ⟨Nat.zero_le _, Nat.zero_le _⟩ dX4_sheet_41 (fun r_ μ_ w_8 => ?_)
          obtain ⟨rfl, rfl⟩ := w_8
          exact y_iret CC hQ dX4_sheet_44 (⟨⟨fun _ => by simp [f_sheet, mu_mu, b_1, ix_nI (show jk < 2 ^ 31 by omega), b_3, ix_nI (show jl < 2 ^ 31 by omega), hn1_, hn2_, hn3_], fun h_ => by simp [ok_sheet, b_1, ix_nI (show jk < 2 ^ 31 by omega), b_3, ix_nI (show jl < 2 ^ 31 by omega), hn1_, hn2_, hn3_] at h_⟩, by simp [q_sheet, b_1, ix_nI (show jk < 2 ^ 31 by omega), b_3, ix_nI (show jl < 2 ^ 31 by omega), hn1_, hn2_, hn3_]⟩)
      · skip
        have hn1_ : ¬ n.toInt ≤ 60 := by omega
        have hn3_ : ¬ n.toInt < 0 := by omega
        have hn2_ : inB n 61 = false := inB_f (by omega)
        refine y_bipush CC ((-2)) dX4_sheet_32 (by decide) ?_
        exact y_iret CC hQ dX4_sheet_34 (⟨⟨fun _ => by simp [f_sheet, mu_mu, b_1, ix_nI (show jk < 2 ^ 31 by omega), b_3, ix_nI (show jl < 2 ^ 31 by omega), hn1_, hn2_, hn3_], fun h_ => by simp [ok_sheet, b_1, ix_nI (show jk < 2 ^ 31 by omega), b_3, ix_nI (show jl < 2 ^ 31 by omega), hn1_, hn2_, hn3_] at h_⟩, by simp [q_sheet, b_1, ix_nI (show jk < 2 ^ 31 by omega), b_3, ix_nI (show jl < 2 ^ 31 by omega), hn1_, hn2_, hn3_]⟩)
    · skip
      refine z_if_eqT CC 32 dX4_sheet_23 (by decide) (a := (0 : Int)) (nI_toInt (by decide)) (by decide) ?_
      refine y_bipush CC ((-2)) dX4_sheet_32 (by decide) ?_
      exact y_iret CC hQ dX4_sheet_34 (⟨⟨fun _ => by simp [f_sheet, mu_mu, b_1, ix_nI (show jk < 2 ^ 31 by omega), b_3], fun h_ => by simp [ok_sheet, b_1, ix_nI (show jk < 2 ^ 31 by omega), b_3] at h_⟩, by simp [q_sheet, b_1, ix_nI (show jk < 2 ^ 31 by omega), b_3]⟩)
  · skip
    refine y_eq (st2 := [.null]) rfl ?_
    refine y_astoreN CC [(4, .null), (0, .ref (ad 0)), (1, .int k), (2, .int la), (3, .int n)] dX4_sheet_10 (by decide) rfl ?_
    refine y_aloadN CC 0 dX4_sheet_12 rfl ?_
    refine y_ifnonnullN CC 19 dX4_sheet_14 (by decide) ?_
    refine y_iconst CC ((-1)) dX4_sheet_17 (by decide) ?_
    exact y_iret CC hQ dX4_sheet_18 (⟨⟨fun _ => by simp [f_sheet, mu_mu, b_1], fun h_ => by simp [ok_sheet, b_1] at h_⟩, by simp [q_sheet, b_1]⟩)

set_option maxRecDepth 100000 in
set_option maxHeartbeats 4000000 in
theorem x_lose (l : Launch) (D : va_G) (ad : Nat → Nat) (kI kS kL : ClassId) (μ : Mem) (θ : Tn) (ζ : Nat → Nat → Int32) (hS : SX μ θ ζ) (k : Int32) : MI l D ad kI kS kL yX4_lose cX4_lose 4 (some .int) 1 21 [.ref (ad 0), .int k] μ (fun r μ2 => (μ2 = if inB k 4 = true then mu (mu μ (14 + ix k) 1 (-1)) (14 + ix k) 2 (nI 0) else μ) ∧ r = q_lose θ k) := by
  refine met_I RX4 rfl (by decide) (lv := [(0, .ref (ad 0)), (1, .int k)]) rfl (Nat.le_of_ble_eq_true rfl) ?_
  intro pp ee ss mm aa bb me cd AA hA0 CC hnm QQ hQ
  refine y_aload_n CC 0 dX4_lose_0 rfl rfl ?_
  refine y_iload_n CC 1 dX4_lose_1 rfl rfl ?_
  refine y_callVN (ci := 4) (st := []) CC cl_X4_42 (k_sheetOrNull l D ad kI kS kL μ k) (by omega) rfl rfl rfl (Nat.le_of_ble_eq_true rfl) ⟨by decide, by decide⟩ ⟨Nat.zero_le _, Nat.zero_le _⟩ dX4_lose_2 (fun r_ μ_ w_2 => ?_)
  rcases w_2 with ⟨rfl, ⟨b_1, rfl⟩ | ⟨b_1, rfl⟩⟩
  · skip
    obtain ⟨jk, hjk, rfl⟩ := inB_of b_1 (by omega)
    refine y_eq (st2 := [.ref (ad (14 + jk))]) (by rw [ix_nI (by omega)]; rfl) ?_
    have hs_jk := hS jk hjk
    have hs3_jk := hs_jk.2.2.1
    have hs4_jk := hs_jk.2.2.2.1
    refine y_astore_n CC [(2, .ref (ad (14 + jk))), (0, .ref (ad 0)), (1, .int (nI jk))] dX4_lose_5 rfl (by decide) rfl ?_
    refine y_aload_n CC 0 dX4_lose_6 rfl rfl ?_
    refine y_ifnonnull CC 12 dX4_lose_7 (by decide) ?_
    refine y_aload_n CC 0 dX4_lose_12 rfl rfl ?_
    refine y_callVI (ci := 1) (st := []) CC cl_X4_179 (k_hasNothing l D ad kI kS kL μ (14 + jk) (by omega) (θ jk 0) (θ jk 1) (ζ jk) hs_jk) (by omega) rfl rfl rfl (Nat.le_of_ble_eq_true rfl) ⟨by decide, by decide⟩ ⟨Nat.zero_le _, Nat.zero_le _⟩ dX4_lose_13 (fun r_ μ_ w_4 => ?_)
    rcases w_4 with ⟨rfl, ⟨b_3, rfl⟩ | ⟨b_3, rfl⟩⟩
    · skip
      have hb_b_3 := of_decide_eq_true b_3
      refine z_if_eqF CC 23 dX4_lose_16 (by decide) (a := (1 : Int)) (nI_toInt (by decide)) (by decide) ?_
      refine y_iconst CC (nI 0) dX4_lose_19 (by decide) ?_
      refine y_goto CC 24 dX4_lose_20 (by decide) ?_
      refine y_istore_n CC [(3, .int (nI 0)), (2, .ref (ad (14 + jk))), (0, .ref (ad 0)), (1, .int (nI jk))] dX4_lose_24 rfl (by decide) rfl ?_
      refine y_aload_n CC 1 dX4_lose_25 rfl rfl ?_
      refine y_callVV (ci := 1) (st := []) CC cl_X4_182 (k_drop l D ad kI kS kL μ (14 + jk) (by omega) (θ jk 0) (θ jk 1) (ζ jk) hs_jk) (by omega) rfl rfl rfl (Nat.le_of_ble_eq_true rfl) ⟨by decide, by decide⟩ ⟨Nat.zero_le _, Nat.zero_le _⟩ dX4_lose_26 (fun μ_ w_5 => ?_)
      obtain rfl := w_5
      refine y_iload_n CC 0 dX4_lose_29 rfl rfl ?_
      exact y_iret CC hQ dX4_lose_30 (⟨by simp [b_1, ix_nI (show jk < 2 ^ 31 by omega), b_3, mu_mu], by simp [q_lose, b_1, ix_nI (show jk < 2 ^ 31 by omega), b_3, hb_b_3]⟩)
    · skip
      have hb_b_3 := of_decide_eq_false b_3
      refine z_if_eqT CC 23 dX4_lose_16 (by decide) (a := (0 : Int)) (nI_toInt (by decide)) (by decide) ?_
      refine y_iconst CC (nI 1) dX4_lose_23 (by decide) ?_
      refine y_istore_n CC [(3, .int (nI 1)), (2, .ref (ad (14 + jk))), (0, .ref (ad 0)), (1, .int (nI jk))] dX4_lose_24 rfl (by decide) rfl ?_
      refine y_aload_n CC 1 dX4_lose_25 rfl rfl ?_
      refine y_callVV (ci := 1) (st := []) CC cl_X4_182 (k_drop l D ad kI kS kL μ (14 + jk) (by omega) (θ jk 0) (θ jk 1) (ζ jk) hs_jk) (by omega) rfl rfl rfl (Nat.le_of_ble_eq_true rfl) ⟨by decide, by decide⟩ ⟨Nat.zero_le _, Nat.zero_le _⟩ dX4_lose_26 (fun μ_ w_6 => ?_)
      obtain rfl := w_6
      refine y_iload_n CC 0 dX4_lose_29 rfl rfl ?_
      exact y_iret CC hQ dX4_lose_30 (⟨by simp [b_1, ix_nI (show jk < 2 ^ 31 by omega), b_3, mu_mu], by simp [q_lose, b_1, ix_nI (show jk < 2 ^ 31 by omega), b_3, hb_b_3]⟩)
  · skip
    refine y_eq (st2 := [.null]) rfl ?_
    refine y_astore_nN CC [(2, .null), (0, .ref (ad 0)), (1, .int k)] dX4_lose_5 rfl (by decide) rfl ?_
    refine y_aload_nN CC 0 dX4_lose_6 rfl rfl ?_
    refine y_ifnonnullN CC 12 dX4_lose_7 (by decide) ?_
    refine y_iconst CC ((-1)) dX4_lose_10 (by decide) ?_
    exact y_iret CC hQ dX4_lose_11 (⟨by simp [b_1, mu_mu], by simp [q_lose, b_1]⟩)

set_option maxRecDepth 100000 in
set_option maxHeartbeats 4000000 in
theorem x_put (l : Launch) (D : va_G) (ad : Nat → Nat) (kI kS kL : ClassId) (μ : Mem) (θ : Tn) (ζ : Nat → Nat → Int32) (hS : SX μ θ ζ) (k i v : Int32) : MI l D ad kI kS kL yX4_put cX4_put 5 (some .int) 2 43 [.ref (ad 0), .int k, .int i, .int v] μ (fun r μ2 => (μ2 = if ok_put θ k i = true then mu (mu μ 0 5 (nI 0)) (14 + ix k + 4) (ix i) (cutI (θ (ix k) 0) v) else mu μ 0 5 (nI (f_put θ k i))) ∧ r = q_put θ k i) := by
  refine met_I RX4 rfl (by decide) (lv := [(0, .ref (ad 0)), (1, .int k), (2, .int i), (3, .int v)]) rfl (Nat.le_of_ble_eq_true rfl) ?_
  intro pp ee ss mm aa bb me cd AA hA0 CC hnm QQ hQ
  refine y_aload_n CC 0 dX4_put_0 rfl rfl ?_
  refine y_iconst CC (nI 0) dX4_put_1 (by decide) ?_
  refine y_puti CC pl_X4_38 (by omega) rfl (Nat.le_of_ble_eq_true rfl) dX4_put_2 ?_
  have hS0 : SX (mu μ 0 5 (nI 0)) θ ζ := hS.f0 5 _
  refine y_aload_n CC 0 dX4_put_5 rfl rfl ?_
  refine y_iload_n CC 1 dX4_put_6 rfl rfl ?_
  refine y_callVN (ci := 4) (st := []) CC cl_X4_42 (k_sheetOrNull l D ad kI kS kL (mu μ 0 5 (nI 0)) k) (by omega) rfl rfl rfl (Nat.le_of_ble_eq_true rfl) ⟨by decide, by decide⟩ ⟨Nat.zero_le _, Nat.zero_le _⟩ dX4_put_7 (fun r_ μ_ w_2 => ?_)
  rcases w_2 with ⟨rfl, ⟨b_1, rfl⟩ | ⟨b_1, rfl⟩⟩
  · skip
    obtain ⟨jk, hjk, rfl⟩ := inB_of b_1 (by omega)
    refine y_eq (st2 := [.ref (ad (14 + jk))]) (by rw [ix_nI (by omega)]; rfl) ?_
    have hs_jk := hS0 jk hjk
    have hs3_jk := hs_jk.2.2.1
    have hs4_jk := hs_jk.2.2.2.1
    refine y_astore CC [(4, .ref (ad (14 + jk))), (0, .ref (ad 0)), (1, .int (nI jk)), (2, .int i), (3, .int v)] dX4_put_10 (by decide) rfl ?_
    refine y_aload CC 0 dX4_put_12 rfl ?_
    refine y_ifnonnull CC 19 dX4_put_14 (by decide) ?_
    refine y_aload CC 0 dX4_put_19 rfl ?_
    refine y_callVI (ci := 1) (st := []) CC cl_X4_179 (k_hasNothing l D ad kI kS kL (mu μ 0 5 (nI 0)) (14 + jk) (by omega) (θ jk 0) (θ jk 1) (ζ jk) hs_jk) (by omega) rfl rfl rfl (Nat.le_of_ble_eq_true rfl) ⟨by decide, by decide⟩ ⟨Nat.zero_le _, Nat.zero_le _⟩ dX4_put_21 (fun r_ μ_ w_4 => ?_)
    rcases w_4 with ⟨rfl, ⟨b_3, rfl⟩ | ⟨b_3, rfl⟩⟩
    · skip
      have hb_b_3 := of_decide_eq_true b_3
      refine z_if_eqF CC 33 dX4_put_24 (by decide) (a := (1 : Int)) (nI_toInt (by decide)) (by decide) ?_
      refine y_aload_n CC 1 dX4_put_27 rfl rfl ?_
      refine y_iconst CC (nI 1) dX4_put_28 (by decide) ?_
      refine y_callVI (ci := 4) (st := []) CC cl_X4_58 (k_cameTo l D ad kI kS kL (mu μ 0 5 (nI 0)) 1 (by omega)) (by omega) rfl rfl rfl (Nat.le_of_ble_eq_true rfl) ⟨by decide, by decide⟩ ⟨Nat.zero_le _, Nat.zero_le _⟩ dX4_put_29 (fun r_ μ_ w_5 => ?_)
      obtain ⟨rfl, rfl⟩ := w_5
      exact y_iret CC hQ dX4_put_32 (⟨by simp [ok_put, f_put, b_1, ix_nI (show jk < 2 ^ 31 by omega), b_3, hb_b_3, mu_mu], by simp [q_put, b_1, ix_nI (show jk < 2 ^ 31 by omega), b_3, hb_b_3]⟩)
    · skip
      have hb_b_3 := of_decide_eq_false b_3
      refine z_if_eqT CC 33 dX4_put_24 (by decide) (a := (0 : Int)) (nI_toInt (by decide)) (by decide) ?_
      have hpos_ : 0 < θ jk 0 := by omega
      refine y_aload CC 0 dX4_put_33 rfl ?_
      refine y_iload_n CC 3 dX4_put_35 rfl rfl ?_
      refine y_callVI (ci := 1) (st := []) CC cl_X4_185 (k_hasCell l D ad kI kS kL (mu μ 0 5 (nI 0)) (14 + jk) (by omega) (θ jk 0) (θ jk 1) (ζ jk) hs_jk i) (by omega) rfl rfl rfl (Nat.le_of_ble_eq_true rfl) ⟨by decide, by decide⟩ ⟨Nat.zero_le _, Nat.zero_le _⟩ dX4_put_36 (fun r_ μ_ w_7 => ?_)
      rcases w_7 with ⟨rfl, ⟨b_6, rfl⟩ | ⟨b_6, rfl⟩⟩
      · skip
        obtain ⟨ji, hji, rfl⟩ := inB_of b_6 (by omega)
        refine z_if_neT CC 48 dX4_put_39 (by decide) (a := (1 : Int)) (nI_toInt (by decide)) (by decide) ?_
        refine y_aload CC 0 dX4_put_48 rfl ?_
        refine y_iload_n CC 3 dX4_put_50 rfl rfl ?_
        refine y_iload_n CC 4 dX4_put_51 rfl rfl ?_
        refine y_callVV (ci := 1) (st := []) CC cl_X4_188 (k_set l D ad kI kS kL (mu μ 0 5 (nI 0)) (14 + jk) (by omega) (θ jk 0) (θ jk 1) (ζ jk) hs_jk (nI ji) v) (by omega) rfl rfl rfl (Nat.le_of_ble_eq_true rfl) ⟨by decide, by decide⟩ ⟨Nat.zero_le _, Nat.zero_le _⟩ dX4_put_52 (fun μ_ w_8 => ?_)
        obtain ⟨hset_, -⟩ := w_8
        obtain rfl := hset_ b_6
        refine y_iconst CC (nI 1) dX4_put_55 (by decide) ?_
        exact y_iret CC hQ dX4_put_56 (⟨by simp [ok_put, f_put, b_1, ix_nI (show jk < 2 ^ 31 by omega), b_3, hpos_, b_6, ix_nI (show ji < 2 ^ 31 by omega), hb_b_3, mu_mu], by simp [q_put, b_1, ix_nI (show jk < 2 ^ 31 by omega), b_3, hpos_, b_6, ix_nI (show ji < 2 ^ 31 by omega), hb_b_3]⟩)
      · skip
        refine z_if_neF CC 48 dX4_put_39 (by decide) (a := (0 : Int)) (nI_toInt (by decide)) (by decide) ?_
        refine y_aload_n CC 1 dX4_put_42 rfl rfl ?_
        refine y_iconst CC (nI 3) dX4_put_43 (by decide) ?_
        refine y_callVI (ci := 4) (st := []) CC cl_X4_58 (k_cameTo l D ad kI kS kL (mu μ 0 5 (nI 0)) 3 (by omega)) (by omega) rfl rfl rfl (Nat.le_of_ble_eq_true rfl) ⟨by decide, by decide⟩ ⟨Nat.zero_le _, Nat.zero_le _⟩ dX4_put_44 (fun r_ μ_ w_9 => ?_)
        obtain ⟨rfl, rfl⟩ := w_9
        exact y_iret CC hQ dX4_put_47 (⟨by simp [ok_put, f_put, b_1, ix_nI (show jk < 2 ^ 31 by omega), b_3, hpos_, b_6, hb_b_3, mu_mu], by simp [q_put, b_1, ix_nI (show jk < 2 ^ 31 by omega), b_3, hpos_, b_6, hb_b_3]⟩)
  · skip
    refine y_eq (st2 := [.null]) rfl ?_
    refine y_astoreN CC [(4, .null), (0, .ref (ad 0)), (1, .int k), (2, .int i), (3, .int v)] dX4_put_10 (by decide) rfl ?_
    refine y_aloadN CC 0 dX4_put_12 rfl ?_
    refine y_ifnonnullN CC 19 dX4_put_14 (by decide) ?_
    refine y_iconst CC ((-1)) dX4_put_17 (by decide) ?_
    exact y_iret CC hQ dX4_put_18 (⟨by simp [ok_put, f_put, b_1, mu_mu], by simp [q_put, b_1]⟩)

set_option maxRecDepth 100000 in
set_option maxHeartbeats 4000000 in
theorem x_cell (l : Launch) (D : va_G) (ad : Nat → Nat) (kI kS kL : ClassId) (μ : Mem) (θ : Tn) (ζ : Nat → Nat → Int32) (hS : SX μ θ ζ) (k i la : Int32) : ML l D ad kI kS kL yX4_cell cX4_cell 5 (some .long) 2 42 [.ref (ad 0), .int k, .int i, .int la] μ (fun r μ2 => (μ2 = mu μ 0 5 (nI (f_cell θ k i la))) ∧ r = q_cell θ ζ k i la) := by
  refine met_L RX4 rfl (by decide) (lv := [(0, .ref (ad 0)), (1, .int k), (2, .int i), (3, .int la)]) rfl (Nat.le_of_ble_eq_true rfl) ?_
  intro pp ee ss mm aa bb me cd AA hA0 CC hnm QQ hQ
  refine y_aload_n CC 0 dX4_cell_0 rfl rfl ?_
  refine y_iconst CC (nI 0) dX4_cell_1 (by decide) ?_
  refine y_puti CC pl_X4_38 (by omega) rfl (Nat.le_of_ble_eq_true rfl) dX4_cell_2 ?_
  have hS0 : SX (mu μ 0 5 (nI 0)) θ ζ := hS.f0 5 _
  refine y_aload_n CC 0 dX4_cell_5 rfl rfl ?_
  refine y_iload_n CC 1 dX4_cell_6 rfl rfl ?_
  refine y_callVN (ci := 4) (st := []) CC cl_X4_42 (k_sheetOrNull l D ad kI kS kL (mu μ 0 5 (nI 0)) k) (by omega) rfl rfl rfl (Nat.le_of_ble_eq_true rfl) ⟨by decide, by decide⟩ ⟨Nat.zero_le _, Nat.zero_le _⟩ dX4_cell_7 (fun r_ μ_ w_2 => ?_)
  rcases w_2 with ⟨rfl, ⟨b_1, rfl⟩ | ⟨b_1, rfl⟩⟩
  · skip
    obtain ⟨jk, hjk, rfl⟩ := inB_of b_1 (by omega)
    refine y_eq (st2 := [.ref (ad (14 + jk))]) (by rw [ix_nI (by omega)]; rfl) ?_
    have hs_jk := hS0 jk hjk
    have hs3_jk := hs_jk.2.2.1
    have hs4_jk := hs_jk.2.2.2.1
    refine y_astore CC [(4, .ref (ad (14 + jk))), (0, .ref (ad 0)), (1, .int (nI jk)), (2, .int i), (3, .int la)] dX4_cell_10 (by decide) rfl ?_
    refine y_aload CC 0 dX4_cell_12 rfl ?_
    refine y_ifnull CC 24 dX4_cell_14 (by decide) ?_
    refine y_iload_n CC 4 dX4_cell_17 rfl rfl ?_
    refine y_callSI (st := []) CC cl_X4_46 (k_isLane l D ad kI kS kL (mu μ 0 5 (nI 0)) la) rfl rfl (Nat.le_of_ble_eq_true rfl) ⟨by decide, by decide⟩ ⟨Nat.zero_le _, Nat.zero_le _⟩ dX4_cell_18 (fun r_ μ_ w_4 => ?_)
    rcases w_4 with ⟨rfl, ⟨b_3, rfl⟩ | ⟨b_3, rfl⟩⟩
    · skip
      obtain ⟨jl, hjl, rfl⟩ := inB_of b_3 (by omega)
      refine z_if_neT CC 28 dX4_cell_21 (by decide) (a := (1 : Int)) (nI_toInt (by decide)) (by decide) ?_
      refine y_aload_n CC 1 dX4_cell_28 rfl rfl ?_
      refine y_aload CC 0 dX4_cell_29 rfl ?_
      refine y_iload_n CC 4 dX4_cell_31 rfl rfl ?_
      refine y_callVI (ci := 1) (st := [.ref (ad 0)]) CC cl_X4_50 (k_faultAsRow l D ad kI kS kL (mu μ 0 5 (nI 0)) (14 + jk) (by omega) (θ jk 0) (θ jk 1) (ζ jk) hs_jk jl (by omega)) (by omega) rfl rfl rfl (Nat.le_of_ble_eq_true rfl) ⟨by decide, by decide⟩ ⟨Nat.zero_le _, Nat.zero_le _⟩ dX4_cell_32 (fun r_ μ_ w_5 => ?_)
      obtain ⟨rfl, rfl⟩ := w_5
      have hfar_ : farF (θ jk 0) jl ≤ 2 := by unfold farF; split; omega; split <;> omega
      refine y_puti CC pl_X4_38 (by omega) rfl (Nat.le_of_ble_eq_true rfl) dX4_cell_35 ?_
      have hS1 : SX (mu (mu μ 0 5 (nI 0)) 0 5 (nI (farF (θ jk 0) jl))) θ ζ := hS0.f0 5 _
      have hs1_jk := hS1 jk hjk
      refine y_aload_n CC 1 dX4_cell_38 rfl rfl ?_
      refine y_geti CC gl_X4_38 (by omega) rfl (v := nI (farF (θ jk 0) jl)) (mu_at _ _ _ _) dX4_cell_39 ?_
      refine z_if_ne CC 59 dX4_cell_42 (by decide) (a := ((farF (θ jk 0) jl : Nat) : Int)) (nI_toInt (by omega)) (fun c_6 => ?_) (fun c_6 => ?_)
      · skip
        have hf0_ : ¬ farF (θ jk 0) jl = 0 := by omega
        refine y_aload_n CC 1 dX4_cell_59 rfl rfl ?_
        refine y_geti CC gl_X4_38 (by omega) rfl (v := nI (farF (θ jk 0) jl)) (mu_at _ _ _ _) dX4_cell_60 ?_
        refine z_if_neT CC 76 dX4_cell_63 (by decide) (a := ((farF (θ jk 0) jl : Nat) : Int)) (nI_toInt (by omega)) (by omega) ?_
        refine y_ldc2 CC kl_X4_170 dX4_cell_76 ?_
        exact y_lret CC hQ dX4_cell_79 (⟨by simp [f_cell, b_1, ix_nI (show jk < 2 ^ 31 by omega), b_3, ix_nI (show jl < 2 ^ 31 by omega), hf0_, mu_mu], by simp [q_cell, b_1, ix_nI (show jk < 2 ^ 31 by omega), b_3, ix_nI (show jl < 2 ^ 31 by omega), hf0_]⟩)
      · skip
        have hf0_ : farF (θ jk 0) jl = 0 := by omega
        refine y_aload CC 0 dX4_cell_45 rfl ?_
        refine y_iload_n CC 3 dX4_cell_47 rfl rfl ?_
        refine y_callVI (ci := 1) (st := []) CC cl_X4_185 (k_hasCell l D ad kI kS kL (mu (mu μ 0 5 (nI 0)) 0 5 (nI (farF (θ jk 0) jl))) (14 + jk) (by omega) (θ jk 0) (θ jk 1) (ζ jk) hs1_jk i) (by omega) rfl rfl rfl (Nat.le_of_ble_eq_true rfl) ⟨by decide, by decide⟩ ⟨Nat.zero_le _, Nat.zero_le _⟩ dX4_cell_48 (fun r_ μ_ w_8 => ?_)
        rcases w_8 with ⟨rfl, ⟨b_7, rfl⟩ | ⟨b_7, rfl⟩⟩
        · skip
          obtain ⟨ji, hji, rfl⟩ := inB_of b_7 (by omega)
          refine z_if_neT CC 59 dX4_cell_51 (by decide) (a := (1 : Int)) (nI_toInt (by decide)) (by decide) ?_
          refine y_aload_n CC 1 dX4_cell_59 rfl rfl ?_
          refine y_geti CC gl_X4_38 (by omega) rfl (v := nI (farF (θ jk 0) jl)) (mu_at _ _ _ _) dX4_cell_60 ?_
          refine z_if_neF CC 76 dX4_cell_63 (by decide) (a := ((farF (θ jk 0) jl : Nat) : Int)) (nI_toInt (by omega)) (by omega) ?_
          refine y_aload CC 0 dX4_cell_66 rfl ?_
          refine y_iload_n CC 3 dX4_cell_68 rfl rfl ?_
          refine y_callVI (ci := 1) (st := []) CC cl_X4_129 (k_at l D ad kI kS kL (mu (mu μ 0 5 (nI 0)) 0 5 (nI (farF (θ jk 0) jl))) (14 + jk) (by omega) (θ jk 0) (θ jk 1) (ζ jk) hs1_jk (nI ji)) (by omega) rfl rfl rfl (Nat.le_of_ble_eq_true rfl) ⟨by decide, by decide⟩ ⟨Nat.zero_le _, Nat.zero_le _⟩ dX4_cell_69 (fun r_ μ_ w_9 => ?_)
          obtain ⟨rfl, rfl⟩ := w_9
          refine y_top (y := (ζ jk) ji) (by rw [if_pos (inB_nI (by omega) (by omega)), ix_nI (by omega)]) ?_
          refine y_i2l CC dX4_cell_72 (v := ((ζ jk) ji).toInt64) rfl ?_
          refine y_goto CC 79 dX4_cell_73 (by decide) ?_
          exact y_lret CC hQ dX4_cell_79 (⟨by simp [f_cell, b_1, ix_nI (show jk < 2 ^ 31 by omega), b_3, ix_nI (show jl < 2 ^ 31 by omega), hf0_, b_7, ix_nI (show ji < 2 ^ 31 by omega), mu_mu], by simp [q_cell, b_1, ix_nI (show jk < 2 ^ 31 by omega), b_3, ix_nI (show jl < 2 ^ 31 by omega), hf0_, b_7, ix_nI (show ji < 2 ^ 31 by omega)]⟩)
        · skip
          refine z_if_neF CC 59 dX4_cell_51 (by decide) (a := (0 : Int)) (nI_toInt (by decide)) (by decide) ?_
          refine y_aload_n CC 1 dX4_cell_54 rfl rfl ?_
          refine y_iconst CC (nI 3) dX4_cell_55 (by decide) ?_
          refine y_puti CC pl_X4_38 (by omega) rfl (Nat.le_of_ble_eq_true rfl) dX4_cell_56 ?_
          refine y_aload_n CC 1 dX4_cell_59 rfl rfl ?_
          refine y_geti CC gl_X4_38 (by omega) rfl (v := nI 3) (mu_at _ _ _ _) dX4_cell_60 ?_
          refine z_if_neT CC 76 dX4_cell_63 (by decide) (a := (3 : Int)) (nI_toInt (by decide)) (by decide) ?_
          refine y_ldc2 CC kl_X4_170 dX4_cell_76 ?_
          exact y_lret CC hQ dX4_cell_79 (⟨by simp [f_cell, b_1, ix_nI (show jk < 2 ^ 31 by omega), b_3, ix_nI (show jl < 2 ^ 31 by omega), hf0_, b_7, mu_mu], by simp [q_cell, b_1, ix_nI (show jk < 2 ^ 31 by omega), b_3, ix_nI (show jl < 2 ^ 31 by omega), hf0_, b_7]⟩)
    · skip
      refine z_if_neF CC 28 dX4_cell_21 (by decide) (a := (0 : Int)) (nI_toInt (by decide)) (by decide) ?_
      refine y_ldc2 CC kl_X4_170 dX4_cell_24 ?_
      exact y_lret CC hQ dX4_cell_27 (⟨by simp [f_cell, b_1, ix_nI (show jk < 2 ^ 31 by omega), b_3, mu_mu], by simp [q_cell, b_1, ix_nI (show jk < 2 ^ 31 by omega), b_3]⟩)
  · skip
    refine y_eq (st2 := [.null]) rfl ?_
    refine y_astoreN CC [(4, .null), (0, .ref (ad 0)), (1, .int k), (2, .int i), (3, .int la)] dX4_cell_10 (by decide) rfl ?_
    refine y_aloadN CC 0 dX4_cell_12 rfl ?_
    refine y_ifnullN CC 24 dX4_cell_14 (by decide) ?_
    refine y_ldc2 CC kl_X4_170 dX4_cell_24 ?_
    exact y_lret CC hQ dX4_cell_27 (⟨by simp [f_cell, b_1, mu_mu], by simp [q_cell, b_1]⟩)

set_option maxRecDepth 100000 in
set_option maxHeartbeats 4000000 in
theorem x_copy (l : Launch) (D : va_G) (ad : Nat → Nat) (kI kS kL : ClassId) (μ : Mem) (θ : Tn) (ζ : Nat → Nat → Int32) (hS : SX μ θ ζ) (k i o j n : Int32) : MI l D ad kI kS kL yX4_copy cX4_copy 8 (some .int) 1 60 [.ref (ad 0), .int k, .int i, .int o, .int j, .int n] μ (fun r μ2 => (μ2 = if ok_copy θ k i o j n = true then mr (mu μ 0 5 (nI 0)) (14 + ix o + 4) (va_cpy (μ (14 + ix k + 4)) (μ (14 + ix o + 4)) (ix i) (ix j) (ix n)) else mu μ 0 5 (nI (f_copy θ k i o j n))) ∧ r = q_copy θ k i o j n) := by
  refine met_I RX4 rfl (by decide) (lv := [(0, .ref (ad 0)), (1, .int k), (2, .int i), (3, .int o), (4, .int j), (5, .int n)]) rfl (Nat.le_of_ble_eq_true rfl) ?_
  intro pp ee ss mm aa bb me cd AA hA0 CC hnm QQ hQ
  refine y_aload_n CC 0 dX4_copy_0 rfl rfl ?_
  refine y_iconst CC (nI 0) dX4_copy_1 (by decide) ?_
  refine y_puti CC pl_X4_38 (by omega) rfl (Nat.le_of_ble_eq_true rfl) dX4_copy_2 ?_
  have hS0 : SX (mu μ 0 5 (nI 0)) θ ζ := hS.f0 5 _
  refine y_aload_n CC 0 dX4_copy_5 rfl rfl ?_
  refine y_iload_n CC 1 dX4_copy_6 rfl rfl ?_
  refine y_callVN (ci := 4) (st := []) CC cl_X4_42 (k_sheetOrNull l D ad kI kS kL (mu μ 0 5 (nI 0)) k) (by omega) rfl rfl rfl (Nat.le_of_ble_eq_true rfl) ⟨by decide, by decide⟩ ⟨Nat.zero_le _, Nat.zero_le _⟩ dX4_copy_7 (fun r_ μ_ w_2 => ?_)
  rcases w_2 with ⟨rfl, ⟨b_1, rfl⟩ | ⟨b_1, rfl⟩⟩
  · skip
    obtain ⟨jk, hjk, rfl⟩ := inB_of b_1 (by omega)
    refine y_eq (st2 := [.ref (ad (14 + jk))]) (by rw [ix_nI (by omega)]; rfl) ?_
    have hs_jk := hS0 jk hjk
    have hs3_jk := hs_jk.2.2.1
    have hs4_jk := hs_jk.2.2.2.1
    refine y_astore CC [(6, .ref (ad (14 + jk))), (0, .ref (ad 0)), (1, .int (nI jk)), (2, .int i), (3, .int o), (4, .int j), (5, .int n)] dX4_copy_10 (by decide) rfl ?_
    refine y_aload_n CC 1 dX4_copy_12 rfl rfl ?_
    refine y_iload_n CC 4 dX4_copy_13 rfl rfl ?_
    refine y_callVN (ci := 4) (st := []) CC cl_X4_42 (k_sheetOrNull l D ad kI kS kL (mu μ 0 5 (nI 0)) o) (by omega) rfl rfl rfl (Nat.le_of_ble_eq_true rfl) ⟨by decide, by decide⟩ ⟨Nat.zero_le _, Nat.zero_le _⟩ dX4_copy_14 (fun r_ μ_ w_4 => ?_)
    rcases w_4 with ⟨rfl, ⟨b_3, rfl⟩ | ⟨b_3, rfl⟩⟩
    · skip
      obtain ⟨jo, hjo, rfl⟩ := inB_of b_3 (by omega)
      refine y_eq (st2 := [.ref (ad (14 + jo))]) (by rw [ix_nI (by omega)]; rfl) ?_
      have hs_jo := hS0 jo hjo
      have hs3_jo := hs_jo.2.2.1
      have hs4_jo := hs_jo.2.2.2.1
      refine y_astore CC [(7, .ref (ad (14 + jo))), (6, .ref (ad (14 + jk))), (0, .ref (ad 0)), (1, .int (nI jk)), (2, .int i), (3, .int (nI jo)), (4, .int j), (5, .int n)] dX4_copy_17 (by decide) rfl ?_
      refine y_aload CC 1 dX4_copy_19 rfl ?_
      refine y_ifnull CC 29 dX4_copy_21 (by decide) ?_
      refine y_aload CC 0 dX4_copy_24 rfl ?_
      refine y_ifnonnull CC 31 dX4_copy_26 (by decide) ?_
      refine y_aload CC 1 dX4_copy_31 rfl ?_
      refine y_callVI (ci := 1) (st := []) CC cl_X4_179 (k_hasNothing l D ad kI kS kL (mu μ 0 5 (nI 0)) (14 + jk) (by omega) (θ jk 0) (θ jk 1) (ζ jk) hs_jk) (by omega) rfl rfl rfl (Nat.le_of_ble_eq_true rfl) ⟨by decide, by decide⟩ ⟨Nat.zero_le _, Nat.zero_le _⟩ dX4_copy_33 (fun r_ μ_ w_6 => ?_)
      rcases w_6 with ⟨rfl, ⟨b_5, rfl⟩ | ⟨b_5, rfl⟩⟩
      · skip
        have hb_b_5 := of_decide_eq_true b_5
        refine z_if_neT CC 47 dX4_copy_36 (by decide) (a := (1 : Int)) (nI_toInt (by decide)) (by decide) ?_
        refine y_aload_n CC 2 dX4_copy_47 rfl rfl ?_
        refine y_iconst CC (nI 1) dX4_copy_48 (by decide) ?_
        refine y_callVI (ci := 4) (st := []) CC cl_X4_58 (k_cameTo l D ad kI kS kL (mu μ 0 5 (nI 0)) 1 (by omega)) (by omega) rfl rfl rfl (Nat.le_of_ble_eq_true rfl) ⟨by decide, by decide⟩ ⟨Nat.zero_le _, Nat.zero_le _⟩ dX4_copy_49 (fun r_ μ_ w_7 => ?_)
        obtain ⟨rfl, rfl⟩ := w_7
        exact y_iret CC hQ dX4_copy_52 (⟨by simp [ok_copy, f_copy, b_1, ix_nI (show jk < 2 ^ 31 by omega), b_3, ix_nI (show jo < 2 ^ 31 by omega), b_5, hb_b_5, mu_mu], by simp [q_copy, f_copy, b_1, ix_nI (show jk < 2 ^ 31 by omega), b_3, ix_nI (show jo < 2 ^ 31 by omega), b_5, hb_b_5]⟩)
      · skip
        have hb_b_5 := of_decide_eq_false b_5
        refine z_if_neF CC 47 dX4_copy_36 (by decide) (a := (0 : Int)) (nI_toInt (by decide)) (by decide) ?_
        refine y_aload CC 0 dX4_copy_39 rfl ?_
        refine y_callVI (ci := 1) (st := []) CC cl_X4_179 (k_hasNothing l D ad kI kS kL (mu μ 0 5 (nI 0)) (14 + jo) (by omega) (θ jo 0) (θ jo 1) (ζ jo) hs_jo) (by omega) rfl rfl rfl (Nat.le_of_ble_eq_true rfl) ⟨by decide, by decide⟩ ⟨Nat.zero_le _, Nat.zero_le _⟩ dX4_copy_41 (fun r_ μ_ w_9 => ?_)
        rcases w_9 with ⟨rfl, ⟨b_8, rfl⟩ | ⟨b_8, rfl⟩⟩
        · skip
          have hb_b_8 := of_decide_eq_true b_8
          refine z_if_eqF CC 53 dX4_copy_44 (by decide) (a := (1 : Int)) (nI_toInt (by decide)) (by decide) ?_
          refine y_aload_n CC 2 dX4_copy_47 rfl rfl ?_
          refine y_iconst CC (nI 1) dX4_copy_48 (by decide) ?_
          refine y_callVI (ci := 4) (st := []) CC cl_X4_58 (k_cameTo l D ad kI kS kL (mu μ 0 5 (nI 0)) 1 (by omega)) (by omega) rfl rfl rfl (Nat.le_of_ble_eq_true rfl) ⟨by decide, by decide⟩ ⟨Nat.zero_le _, Nat.zero_le _⟩ dX4_copy_49 (fun r_ μ_ w_10 => ?_)
          obtain ⟨rfl, rfl⟩ := w_10
          exact y_iret CC hQ dX4_copy_52 (⟨by simp [ok_copy, f_copy, b_1, ix_nI (show jk < 2 ^ 31 by omega), b_3, ix_nI (show jo < 2 ^ 31 by omega), b_5, b_8, hb_b_5, hb_b_8, mu_mu], by simp [q_copy, f_copy, b_1, ix_nI (show jk < 2 ^ 31 by omega), b_3, ix_nI (show jo < 2 ^ 31 by omega), b_5, b_8, hb_b_5, hb_b_8]⟩)
        · skip
          have hb_b_8 := of_decide_eq_false b_8
          refine z_if_eqT CC 53 dX4_copy_44 (by decide) (a := (0 : Int)) (nI_toInt (by decide)) (by decide) ?_
          have hp1_ : 0 < θ jk 0 := by omega
          have hp2_ : 0 < θ jo 0 := by omega
          have hp3_ : ¬ θ jk 0 = 0 := by omega
          have hp4_ : ¬ θ jo 0 = 0 := by omega
          refine y_aload CC 1 dX4_copy_53 rfl ?_
          refine y_getiN (ci := 1) (k := 1) CC fw_X1 (by rfl) (by decide) (fun _ h9 => h9) CC.2.2.2.2.2.1.2.1 (by omega) rfl (v := nI (θ jk 0) - 1) hs_jk.1 dX4_copy_55 ?_
          refine y_aload CC 0 dX4_copy_58 rfl ?_
          refine y_getiN (ci := 1) (k := 1) CC fw_X1 (by rfl) (by decide) (fun _ h9 => h9) CC.2.2.2.2.2.1.2.1 (by omega) rfl (v := nI (θ jo 0) - 1) hs_jo.1 dX4_copy_60 ?_
          refine z_icmp_eq CC 72 dX4_copy_63 (by decide) (a := ((θ jk 0 : Nat) : Int) - 1) (b := ((θ jo 0 : Nat) : Int) - 1) (i_pred (by omega)) (i_pred (by omega)) (fun c_11 => ?_) (fun c_11 => ?_)
          · skip
            have heq_ : θ jk 0 = θ jo 0 := by omega
            refine y_aload CC 1 dX4_copy_72 rfl ?_
            refine y_iload_n CC 4 dX4_copy_74 rfl rfl ?_
            refine y_iload CC 7 dX4_copy_75 rfl ?_
            refine y_callVI (ci := 1) (st := []) CC cl_X4_54 (k_faultOfCells l D ad kI kS kL (mu μ 0 5 (nI 0)) (14 + jk) (by omega) (θ jk 0) (θ jk 1) (ζ jk) hs_jk i n) (by omega) rfl rfl rfl (Nat.le_of_ble_eq_true rfl) ⟨by decide, by decide⟩ ⟨Nat.zero_le _, Nat.zero_le _⟩ dX4_copy_77 (fun r_ μ_ w_13 => ?_)
            rcases w_13 with ⟨rfl, ⟨g_12, rfl⟩ | ⟨g_12, rfl⟩⟩
            · skip
              refine z_if_neF CC 95 dX4_copy_80 (by decide) (a := (0 : Int)) (nI_toInt (by decide)) (by decide) ?_
              refine y_aload CC 0 dX4_copy_83 rfl ?_
              refine y_iload CC 6 dX4_copy_85 rfl ?_
              refine y_iload CC 7 dX4_copy_87 rfl ?_
              refine y_callVI (ci := 1) (st := []) CC cl_X4_54 (k_faultOfCells l D ad kI kS kL (mu μ 0 5 (nI 0)) (14 + jo) (by omega) (θ jo 0) (θ jo 1) (ζ jo) hs_jo j n) (by omega) rfl rfl rfl (Nat.le_of_ble_eq_true rfl) ⟨by decide, by decide⟩ ⟨Nat.zero_le _, Nat.zero_le _⟩ dX4_copy_89 (fun r_ μ_ w_15 => ?_)
              rcases w_15 with ⟨rfl, ⟨g_14, rfl⟩ | ⟨g_14, rfl⟩⟩
              · skip
                refine z_if_eqT CC 101 dX4_copy_92 (by decide) (a := (0 : Int)) (nI_toInt (by decide)) (by decide) ?_
                refine y_aload CC 1 dX4_copy_101 rfl ?_
                refine y_getrN (ci := 1) (k := 0) CC fw_X1 (by rfl) (by decide) (fun _ h9 => h9) CC.2.2.2.2.2.1.1 (by omega) (d := ((14 + jk) + 4)) rfl dX4_copy_103 ?_
                refine y_iload_n CC 4 dX4_copy_106 rfl rfl ?_
                refine y_aload CC 0 dX4_copy_107 rfl ?_
                refine y_getrN (ci := 1) (k := 0) CC fw_X1 (by rfl) (by decide) (fun _ h9 => h9) CC.2.2.2.2.2.1.1 (by omega) (d := ((14 + jo) + 4)) rfl dX4_copy_109 ?_
                refine y_iload CC 6 dX4_copy_112 rfl ?_
                refine y_iload CC 7 dX4_copy_114 rfl ?_
                have hg1_ := of_decide_eq_true g_12
                have hg2_ := of_decide_eq_true g_14
                have hi_ : i.toInt = (i.toNatClampNeg : Int) := (Int.toNat_of_nonneg (by omega)).symm
                have hj_ : j.toInt = (j.toNatClampNeg : Int) := (Int.toNat_of_nonneg (by omega)).symm
                have hn_ : n.toInt = (n.toNatClampNeg : Int) := (Int.toNat_of_nonneg (by omega)).symm
                refine y_copyi CC (n0 := 60) (n1 := 60) ac_X4 (by omega) (by unfold alen; rw [if_neg (by omega), if_neg (by omega), if_neg (by omega), if_pos (by omega)]) (by omega) (by unfold alen; rw [if_neg (by omega), if_neg (by omega), if_neg (by omega), if_pos (by omega)]) (fun q_ => by have := Int32.lt_iff_toInt_lt.mp q_; rw [Int32.toInt_zero] at this; omega) (fun q_ => by have := Int32.lt_iff_toInt_lt.mp q_; rw [Int32.toInt_zero] at this; omega) (fun q_ => by have := Int32.lt_iff_toInt_lt.mp q_; rw [Int32.toInt_zero] at this; omega) (by omega) (by omega) (by decide) (by decide) dX4_copy_116 ?_
                refine y_iload CC 7 dX4_copy_119 rfl ?_
                exact y_iret CC hQ dX4_copy_121 (⟨by rw [if_pos (by simp [ok_copy, heq_, b_1, ix_nI (show jk < 2 ^ 31 by omega), b_3, ix_nI (show jo < 2 ^ 31 by omega), b_5, b_8, hp2_, hp4_, g_12, g_14])]; simp only [ix_nI (show jk < 2 ^ 31 by omega), ix_nI (show jo < 2 ^ 31 by omega), mu_c _ _ _ (show 14 + jk + 4 ≠ 0 by omega), mu_c _ _ _ (show 14 + jo + 4 ≠ 0 by omega)]; rfl, by simp [q_copy, f_copy, heq_, b_1, ix_nI (show jk < 2 ^ 31 by omega), b_3, ix_nI (show jo < 2 ^ 31 by omega), b_5, b_8, hp2_, hp4_, g_12, g_14]⟩)
              · skip
                refine z_if_eqF CC 101 dX4_copy_92 (by decide) (a := (3 : Int)) (nI_toInt (by decide)) (by decide) ?_
                refine y_aload_n CC 2 dX4_copy_95 rfl rfl ?_
                refine y_iconst CC (nI 3) dX4_copy_96 (by decide) ?_
                refine y_callVI (ci := 4) (st := []) CC cl_X4_58 (k_cameTo l D ad kI kS kL (mu μ 0 5 (nI 0)) 3 (by omega)) (by omega) rfl rfl rfl (Nat.le_of_ble_eq_true rfl) ⟨by decide, by decide⟩ ⟨Nat.zero_le _, Nat.zero_le _⟩ dX4_copy_97 (fun r_ μ_ w_16 => ?_)
                obtain ⟨rfl, rfl⟩ := w_16
                exact y_iret CC hQ dX4_copy_100 (⟨by simp [ok_copy, f_copy, heq_, b_1, ix_nI (show jk < 2 ^ 31 by omega), b_3, ix_nI (show jo < 2 ^ 31 by omega), b_5, b_8, hp2_, hp4_, g_12, g_14, mu_mu], by simp [q_copy, f_copy, heq_, b_1, ix_nI (show jk < 2 ^ 31 by omega), b_3, ix_nI (show jo < 2 ^ 31 by omega), b_5, b_8, hp2_, hp4_, g_12, g_14]⟩)
            · skip
              refine z_if_neT CC 95 dX4_copy_80 (by decide) (a := (3 : Int)) (nI_toInt (by decide)) (by decide) ?_
              refine y_aload_n CC 2 dX4_copy_95 rfl rfl ?_
              refine y_iconst CC (nI 3) dX4_copy_96 (by decide) ?_
              refine y_callVI (ci := 4) (st := []) CC cl_X4_58 (k_cameTo l D ad kI kS kL (mu μ 0 5 (nI 0)) 3 (by omega)) (by omega) rfl rfl rfl (Nat.le_of_ble_eq_true rfl) ⟨by decide, by decide⟩ ⟨Nat.zero_le _, Nat.zero_le _⟩ dX4_copy_97 (fun r_ μ_ w_17 => ?_)
              obtain ⟨rfl, rfl⟩ := w_17
              exact y_iret CC hQ dX4_copy_100 (⟨by simp [ok_copy, f_copy, heq_, b_1, ix_nI (show jk < 2 ^ 31 by omega), b_3, ix_nI (show jo < 2 ^ 31 by omega), b_5, b_8, hp2_, hp4_, g_12, mu_mu], by simp [q_copy, f_copy, heq_, b_1, ix_nI (show jk < 2 ^ 31 by omega), b_3, ix_nI (show jo < 2 ^ 31 by omega), b_5, b_8, hp2_, hp4_, g_12]⟩)
          · skip
            have hne_ : ¬ θ jk 0 = θ jo 0 := by omega
            refine y_aload_n CC 2 dX4_copy_66 rfl rfl ?_
            refine y_iconst CC (nI 2) dX4_copy_67 (by decide) ?_
            refine y_callVI (ci := 4) (st := []) CC cl_X4_58 (k_cameTo l D ad kI kS kL (mu μ 0 5 (nI 0)) 2 (by omega)) (by omega) rfl rfl rfl (Nat.le_of_ble_eq_true rfl) ⟨by decide, by decide⟩ ⟨Nat.zero_le _, Nat.zero_le _⟩ dX4_copy_68 (fun r_ μ_ w_18 => ?_)
            obtain ⟨rfl, rfl⟩ := w_18
            exact y_iret CC hQ dX4_copy_71 (⟨by simp [ok_copy, f_copy, b_1, ix_nI (show jk < 2 ^ 31 by omega), b_3, ix_nI (show jo < 2 ^ 31 by omega), b_5, b_8, hp1_, hp2_, hp3_, hp4_, hne_, mu_mu], by simp [q_copy, f_copy, b_1, ix_nI (show jk < 2 ^ 31 by omega), b_3, ix_nI (show jo < 2 ^ 31 by omega), b_5, b_8, hp1_, hp2_, hp3_, hp4_, hne_]⟩)
    · skip
      refine y_eq (st2 := [.null]) rfl ?_
      refine y_astoreN CC [(7, .null), (6, .ref (ad (14 + jk))), (0, .ref (ad 0)), (1, .int (nI jk)), (2, .int i), (3, .int o), (4, .int j), (5, .int n)] dX4_copy_17 (by decide) rfl ?_
      refine y_aload CC 1 dX4_copy_19 rfl ?_
      refine y_ifnull CC 29 dX4_copy_21 (by decide) ?_
      refine y_aloadN CC 0 dX4_copy_24 rfl ?_
      refine y_ifnonnullN CC 31 dX4_copy_26 (by decide) ?_
      refine y_iconst CC ((-1)) dX4_copy_29 (by decide) ?_
      exact y_iret CC hQ dX4_copy_30 (⟨by simp [ok_copy, f_copy, b_1, ix_nI (show jk < 2 ^ 31 by omega), b_3, mu_mu], by simp [q_copy, f_copy, b_1, ix_nI (show jk < 2 ^ 31 by omega), b_3]⟩)
  · skip
    refine y_eq (st2 := [.null]) rfl ?_
    refine y_astoreN CC [(6, .null), (0, .ref (ad 0)), (1, .int k), (2, .int i), (3, .int o), (4, .int j), (5, .int n)] dX4_copy_10 (by decide) rfl ?_
    refine y_aload_n CC 1 dX4_copy_12 rfl rfl ?_
    refine y_iload_n CC 4 dX4_copy_13 rfl rfl ?_
    refine y_callVN (ci := 4) (st := []) CC cl_X4_42 (k_sheetOrNull l D ad kI kS kL (mu μ 0 5 (nI 0)) o) (by omega) rfl rfl rfl (Nat.le_of_ble_eq_true rfl) ⟨by decide, by decide⟩ ⟨Nat.zero_le _, Nat.zero_le _⟩ dX4_copy_14 (fun r_ μ_ w_20 => ?_)
    rcases w_20 with ⟨rfl, ⟨b_19, rfl⟩ | ⟨b_19, rfl⟩⟩
    · skip
      obtain ⟨jo, hjo, rfl⟩ := inB_of b_19 (by omega)
      refine y_eq (st2 := [.ref (ad (14 + jo))]) (by rw [ix_nI (by omega)]; rfl) ?_
      have hs_jo := hS0 jo hjo
      have hs3_jo := hs_jo.2.2.1
      have hs4_jo := hs_jo.2.2.2.1
      refine y_astore CC [(7, .ref (ad (14 + jo))), (6, .null), (0, .ref (ad 0)), (1, .int k), (2, .int i), (3, .int (nI jo)), (4, .int j), (5, .int n)] dX4_copy_17 (by decide) rfl ?_
      refine y_aloadN CC 1 dX4_copy_19 rfl ?_
      refine y_ifnullN CC 29 dX4_copy_21 (by decide) ?_
      refine y_iconst CC ((-1)) dX4_copy_29 (by decide) ?_
      exact y_iret CC hQ dX4_copy_30 (⟨by simp [ok_copy, f_copy, b_1, b_19, ix_nI (show jo < 2 ^ 31 by omega), mu_mu], by simp [q_copy, f_copy, b_1, b_19, ix_nI (show jo < 2 ^ 31 by omega)]⟩)
    · skip
      refine y_eq (st2 := [.null]) rfl ?_
      refine y_astoreN CC [(7, .null), (6, .null), (0, .ref (ad 0)), (1, .int k), (2, .int i), (3, .int o), (4, .int j), (5, .int n)] dX4_copy_17 (by decide) rfl ?_
      refine y_aloadN CC 1 dX4_copy_19 rfl ?_
      refine y_ifnullN CC 29 dX4_copy_21 (by decide) ?_
      refine y_iconst CC ((-1)) dX4_copy_29 (by decide) ?_
      exact y_iret CC hQ dX4_copy_30 (⟨by simp [ok_copy, f_copy, b_1, b_19, mu_mu], by simp [q_copy, f_copy, b_1, b_19]⟩)
