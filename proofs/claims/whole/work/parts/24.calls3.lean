set_option maxRecDepth 100000 in
set_option maxHeartbeats 4000000 in
theorem x_soonest (l : Launch) (D : va_G) (ad : Nat → Nat) (kI kS kL : ClassId) (μ : Mem) (τ : Tn) (hT : TX μ 1 τ) (hV : tV τ) (f t k : Int32) : MI l D ad kI kS kL yX4_soonest cX4_soonest 5 (some .int) 6 144 [.ref (ad 0), .int f, .int t, .int k] μ (fun r μ2 => (∀ c1 k1, c1 ≠ 9 → μ2 c1 k1 = μ c1 k1) ∧ r = q_soonest τ f t k) := by
  refine met_I RX4 rfl (by decide) (lv := [(0, .ref (ad 0)), (1, .int f), (2, .int t), (3, .int k)]) rfl (Nat.le_of_ble_eq_true rfl) ?_
  intro pp ee ss mm aa bb me cd AA hA0 CC hnm QQ hQ
  have hB := hV.1
  have hP9 : tP τ ≤ 9 := hB.1
  have hS4 : tS τ ≤ 4 := hB.2.1
  have hVc := hV.2.1
  refine y_aload_n CC 0 dX4_soonest_0 rfl rfl ?_
  refine y_getr CC gl_X4_14 (by omega) (d := 1) rfl dX4_soonest_1 ?_
  refine y_iload_n CC 1 dX4_soonest_4 rfl rfl ?_
  refine y_callVI (ci := 3) (st := []) CC cl_X4_88 (k_hasPlace l D ad kI kS kL μ 1 (by omega) τ hT hB f) (by omega) rfl rfl rfl (Nat.le_of_ble_eq_true rfl) ⟨by decide, by decide⟩ ⟨Nat.zero_le _, Nat.zero_le _⟩ dX4_soonest_5 (fun r_ μ_ w_2 => ?_)
  rcases w_2 with ⟨rfl, ⟨b_1, rfl⟩ | ⟨b_1, rfl⟩⟩
  · skip
    obtain ⟨jf, hjf, rfl⟩ := inB_of b_1 (by omega)
    refine z_if_eqF CC 22 dX4_soonest_8 (by decide) (a := (1 : Int)) (nI_toInt (by decide)) (by decide) ?_
    refine y_aload_n CC 0 dX4_soonest_11 rfl rfl ?_
    refine y_getr CC gl_X4_14 (by omega) (d := 1) rfl dX4_soonest_12 ?_
    refine y_iload_n CC 2 dX4_soonest_15 rfl rfl ?_
    refine y_callVI (ci := 3) (st := []) CC cl_X4_88 (k_hasPlace l D ad kI kS kL μ 1 (by omega) τ hT hB t) (by omega) rfl rfl rfl (Nat.le_of_ble_eq_true rfl) ⟨by decide, by decide⟩ ⟨Nat.zero_le _, Nat.zero_le _⟩ dX4_soonest_16 (fun r_ μ_ w_4 => ?_)
    rcases w_4 with ⟨rfl, ⟨b_3, rfl⟩ | ⟨b_3, rfl⟩⟩
    · skip
      obtain ⟨jt, hjt, rfl⟩ := inB_of b_3 (by omega)
      refine z_if_neT CC 24 dX4_soonest_19 (by decide) (a := (1 : Int)) (nI_toInt (by decide)) (by decide) ?_
      refine y_iload_n CC 3 dX4_soonest_24 rfl rfl ?_
      refine y_iconst CC ((-1)) dX4_soonest_25 (by decide) ?_
      refine z_icmp_lt CC 35 dX4_soonest_26 (by decide) (a := (k).toInt) (b := (-1 : Int)) rfl (by decide) (fun c_5 => ?_) (fun c_5 => ?_)
      · skip
        have hk1_ : ¬ -1 ≤ k.toInt := by omega
        refine y_bipush CC ((-2)) dX4_soonest_35 (by decide) ?_
        exact y_iret CC hQ dX4_soonest_37 (⟨fun _ _ _ => rfl, by simp [q_soonest, b_1, ix_nI (show jf < 2 ^ 31 by omega), b_3, ix_nI (show jt < 2 ^ 31 by omega), hk1_]⟩)
      · skip
        refine y_iload_n CC 3 dX4_soonest_29 rfl rfl ?_
        refine y_bipush CC (nI 60) dX4_soonest_30 (by decide) ?_
        refine z_icmp_lt CC 38 dX4_soonest_32 (by decide) (a := (k).toInt) (b := (60 : Int)) rfl (nI_toInt (by decide)) (fun c_6 => ?_) (fun c_6 => ?_)
        · skip
          have hk1_ : -1 ≤ k.toInt := by omega
          have hk2_ : k.toInt < 60 := by omega
          refine y_aload_n CC 0 dX4_soonest_38 rfl rfl ?_
          refine y_getr CC gl_X4_14 (by omega) (d := 1) rfl dX4_soonest_39 ?_
          refine y_iconst CC (nI 0) dX4_soonest_42 (by decide) ?_
          refine y_bipush CC (nI 15) dX4_soonest_43 (by decide) ?_
          refine y_callVI (ci := 3) (st := []) CC cl_X4_114 (k_freePlaces l D ad kI kS kL μ 1 (by omega) τ hT hB (by omega) 0 15 (by omega) (by omega)) (by omega) rfl rfl rfl (Nat.le_of_ble_eq_true rfl) ⟨by decide, by decide⟩ ⟨Nat.zero_le _, Nat.zero_le _⟩ dX4_soonest_45 (fun r_ μ_ w_8 => ?_)
          obtain ⟨rfl, rfl⟩ := w_8
          have h_fr_7 := set9 (P := tP τ) (by omega) (frS_lt τ 15 0)
          refine y_iload_n CC 1 dX4_soonest_48 rfl rfl ?_
          refine y_callSI (st := []) CC cl_X4_117 (k_isIn l D ad kI kS kL μ (frS τ 15 0) jf (by omega) (by omega)) rfl rfl (Nat.le_of_ble_eq_true rfl) ⟨by decide, by decide⟩ ⟨Nat.zero_le _, Nat.zero_le _⟩ dX4_soonest_49 (fun r_ μ_ w_10 => ?_)
          rcases w_10 with ⟨rfl, ⟨b_9, rfl⟩ | ⟨b_9, rfl⟩⟩
          · skip
            refine z_if_neT CC 58 dX4_soonest_52 (by decide) (a := (1 : Int)) (nI_toInt (by decide)) (by decide) ?_
            refine y_aload_n CC 0 dX4_soonest_58 rfl rfl ?_
            refine y_getr CC gl_X4_14 (by omega) (d := 1) rfl dX4_soonest_59 ?_
            refine y_iload_n CC 1 dX4_soonest_62 rfl rfl ?_
            refine y_iload_n CC 2 dX4_soonest_63 rfl rfl ?_
            refine y_bipush CC (nI 15) dX4_soonest_64 (by decide) ?_
            refine y_callVI (ci := 3) (st := []) CC cl_X4_138 (k_fewestMinutes l D ad kI kS kL μ 1 (by omega) τ hT hB (by omega) jf jt 15 (by omega) (by omega) (by omega)) (by omega) rfl rfl rfl (Nat.le_of_ble_eq_true rfl) ⟨by decide, by decide⟩ ⟨Nat.zero_le _, Nat.zero_le _⟩ dX4_soonest_66 (fun r_ μ_ w_11 => ?_)
            obtain ⟨rfl, rfl⟩ := w_11
            refine y_istore CC [(4, .int (oI (soon τ 15 jf jt))), (0, .ref (ad 0)), (1, .int (nI jf)), (2, .int (nI jt)), (3, .int k)] dX4_soonest_69 (by decide) rfl ?_
            rcases hb_ : soon τ 15 jf jt with _ | n
            · skip
              refine y_lvE (lv2 := [(4, .int (-9)), (0, .ref (ad 0)), (1, .int (nI jf)), (2, .int (nI jt)), (3, .int k)]) (by first | rfl | (rw [hb_]; rfl)) ?_
              refine y_iload_n CC 4 dX4_soonest_71 rfl rfl ?_
              refine y_iconst CC ((-1)) dX4_soonest_72 (by decide) ?_
              refine z_icmp_ne CC 79 dX4_soonest_73 (by decide) (a := (k).toInt) (b := (-1 : Int)) rfl (by decide) (fun c_12 => ?_) (fun c_12 => ?_)
              · skip
                obtain ⟨jk, hjk, rfl⟩ := inB_of (x := k) (n := 60) (inB_t (by omega)) (by omega)
                have hkn_ : ¬ ((jk : Nat) : Int) = -1 := by omega
                refine y_iload_n CC 4 dX4_soonest_79 rfl rfl ?_
                refine y_iload CC 0 dX4_soonest_80 rfl ?_
                refine z_icmp_geT CC 100 dX4_soonest_82 (by decide) (a := ((jk : Nat) : Int)) (b := (-9 : Int)) (nI_toInt (by omega)) (by decide) (by omega) ?_
                refine y_bipush CC ((-9)) dX4_soonest_100 (by decide) ?_
                exact y_iret CC hQ dX4_soonest_102 (⟨fun _ _ _ => rfl, by simp [q_soonest, b_1, ix_nI (show jf < 2 ^ 31 by omega), b_3, ix_nI (show jt < 2 ^ 31 by omega), b_9, hb_, hkn_, nI_toInt (show jk < 2 ^ 31 by omega), ix_nI (show jk < 2 ^ 31 by omega), show (-1 : Int) ≤ ((jk : Nat) : Int) by omega, hjk, show ((jk : Nat) : Int) < 60 by omega]⟩)
              · skip
                have hkm_ : k.toInt = -1 := by omega
                refine y_iload CC 0 dX4_soonest_76 rfl ?_
                exact y_iret CC hQ dX4_soonest_78 (⟨fun _ _ _ => rfl, by simp [q_soonest, b_1, ix_nI (show jf < 2 ^ 31 by omega), b_3, ix_nI (show jt < 2 ^ 31 by omega), hk1_, hk2_, b_9, hb_, hkm_]⟩)
            · skip
              refine y_lvE (lv2 := [(4, .int (nI n)), (0, .ref (ad 0)), (1, .int (nI jf)), (2, .int (nI jt)), (3, .int k)]) (by first | rfl | (rw [hb_]; rfl)) ?_
              have hn_ := soon_61 hb_
              refine y_iload_n CC 4 dX4_soonest_71 rfl rfl ?_
              refine y_iconst CC ((-1)) dX4_soonest_72 (by decide) ?_
              refine z_icmp_ne CC 79 dX4_soonest_73 (by decide) (a := (k).toInt) (b := (-1 : Int)) rfl (by decide) (fun c_13 => ?_) (fun c_13 => ?_)
              · skip
                obtain ⟨jk, hjk, rfl⟩ := inB_of (x := k) (n := 60) (inB_t (by omega)) (by omega)
                have hkn_ : ¬ ((jk : Nat) : Int) = -1 := by omega
                refine y_iload_n CC 4 dX4_soonest_79 rfl rfl ?_
                refine y_iload CC 0 dX4_soonest_80 rfl ?_
                refine z_icmp_ge CC 100 dX4_soonest_82 (by decide) (a := ((jk : Nat) : Int)) (b := ((n : Nat) : Int)) (nI_toInt (by omega)) (nI_toInt (by omega)) (fun c_14 => ?_) (fun c_14 => ?_)
                · skip
                  have hlt_ : ¬ jk < n := by omega
                  refine y_bipush CC ((-9)) dX4_soonest_100 (by decide) ?_
                  exact y_iret CC hQ dX4_soonest_102 (⟨fun _ _ _ => rfl, by simp [q_soonest, b_1, ix_nI (show jf < 2 ^ 31 by omega), b_3, ix_nI (show jt < 2 ^ 31 by omega), b_9, hb_, hkn_, nI_toInt (show jk < 2 ^ 31 by omega), ix_nI (show jk < 2 ^ 31 by omega), show (-1 : Int) ≤ ((jk : Nat) : Int) by omega, hjk, show ((jk : Nat) : Int) < 60 by omega, hlt_]⟩)
                · skip
                  have hlt_ : jk < n := by omega
                  refine y_aload_n CC 1 dX4_soonest_85 rfl rfl ?_
                  refine y_getr CC gl_X4_14 (by omega) (d := 1) rfl dX4_soonest_86 ?_
                  refine y_iload_n CC 2 dX4_soonest_89 rfl rfl ?_
                  refine y_iload_n CC 3 dX4_soonest_90 rfl rfl ?_
                  refine y_iload CC 0 dX4_soonest_91 rfl ?_
                  refine y_iload_n CC 4 dX4_soonest_93 rfl rfl ?_
                  refine y_callVI (ci := 3) (st := []) CC cl_X4_142 (k_actOfSoonest l D ad kI kS kL μ 1 (by omega) τ hT hB (by omega) jf jt n jk (by omega) (by omega) (by omega) (by omega) (way_0 (by omega) b_9 hb_)) (by omega) rfl rfl rfl (Nat.le_of_ble_eq_true rfl) ⟨by decide, by decide⟩ ⟨Nat.zero_le _, Nat.zero_le _⟩ dX4_soonest_94 (fun r_ μ_ w_15 => ?_)
                  obtain ⟨hF_, rfl⟩ := w_15
                  refine y_goto CC 102 dX4_soonest_97 (by decide) ?_
                  exact y_iret CC hQ dX4_soonest_102 (⟨hF_, by simp [q_soonest, b_1, ix_nI (show jf < 2 ^ 31 by omega), b_3, ix_nI (show jt < 2 ^ 31 by omega), b_9, hb_, hkn_, nI_toInt (show jk < 2 ^ 31 by omega), ix_nI (show jk < 2 ^ 31 by omega), show (-1 : Int) ≤ ((jk : Nat) : Int) by omega, hjk, show ((jk : Nat) : Int) < 60 by omega, hlt_]⟩)
              · skip
                have hkm_ : k.toInt = -1 := by omega
                refine y_iload CC 0 dX4_soonest_76 rfl ?_
                exact y_iret CC hQ dX4_soonest_78 (⟨fun _ _ _ => rfl, by simp [q_soonest, b_1, ix_nI (show jf < 2 ^ 31 by omega), b_3, ix_nI (show jt < 2 ^ 31 by omega), hk1_, hk2_, b_9, hb_, hkm_]⟩)
          · skip
            refine z_if_neF CC 58 dX4_soonest_52 (by decide) (a := (0 : Int)) (nI_toInt (by decide)) (by decide) ?_
            refine y_bipush CC ((-3)) dX4_soonest_55 (by decide) ?_
            exact y_iret CC hQ dX4_soonest_57 (⟨fun _ _ _ => rfl, by simp [q_soonest, b_1, ix_nI (show jf < 2 ^ 31 by omega), b_3, ix_nI (show jt < 2 ^ 31 by omega), hk1_, hk2_, b_9]⟩)
        · skip
          have hk1_ : -1 ≤ k.toInt := by omega
          have hk2_ : ¬ k.toInt < 60 := by omega
          refine y_bipush CC ((-2)) dX4_soonest_35 (by decide) ?_
          exact y_iret CC hQ dX4_soonest_37 (⟨fun _ _ _ => rfl, by simp [q_soonest, b_1, ix_nI (show jf < 2 ^ 31 by omega), b_3, ix_nI (show jt < 2 ^ 31 by omega), hk1_, hk2_]⟩)
    · skip
      refine z_if_neF CC 24 dX4_soonest_19 (by decide) (a := (0 : Int)) (nI_toInt (by decide)) (by decide) ?_
      refine y_iconst CC ((-1)) dX4_soonest_22 (by decide) ?_
      exact y_iret CC hQ dX4_soonest_23 (⟨fun _ _ _ => rfl, by simp [q_soonest, b_1, ix_nI (show jf < 2 ^ 31 by omega), b_3]⟩)
  · skip
    refine z_if_eqT CC 22 dX4_soonest_8 (by decide) (a := (0 : Int)) (nI_toInt (by decide)) (by decide) ?_
    refine y_iconst CC ((-1)) dX4_soonest_22 (by decide) ?_
    exact y_iret CC hQ dX4_soonest_23 (⟨fun _ _ _ => rfl, by simp [q_soonest, b_1]⟩)

set_option maxRecDepth 100000 in
set_option maxHeartbeats 4000000 in
theorem k_comesWithin (l : Launch) (D : va_G) (ad : Nat → Nat) (kI kS kL : ClassId) (μ : Mem) (τ : Tn) (hT : TX μ 1 τ) (hV : tV τ) (hP3 : 3 ≤ tP τ) (f t n w : Nat) (hf : f < tP τ) (ht : t < tP τ) (hn : n ≤ 60) (hw : w < 16) : MI l D ad kI kS kL yX4_comesWithin cX4_comesWithin 6 (some .boolean) 5 118 [.ref (ad 0), .int (nI f), .int (nI t), .int (nI n), .int (nI w)] μ (fun r μ2 => μ = μ2 ∧ bo r (cwB τ f t n w)) := by
  refine met_I RX4 rfl (by decide) (lv := [(0, .ref (ad 0)), (1, .int (nI f)), (2, .int (nI t)), (3, .int (nI n)), (4, .int (nI w))]) rfl (Nat.le_of_ble_eq_true rfl) ?_
  intro pp ee ss mm aa bb me cd AA hA0 CC hnm QQ hQ
  have hB := hV.1
  have hP9 : tP τ ≤ 9 := hB.1
  have hS4 : tS τ ≤ 4 := hB.2.1
  have hVc := hV.2.1
  refine y_aload_n CC 0 dX4_comesWithin_0 rfl rfl ?_
  refine y_getr CC gl_X4_14 (by omega) (d := 1) rfl dX4_comesWithin_1 ?_
  refine y_iconst CC (nI 0) dX4_comesWithin_4 (by decide) ?_
  refine y_iload CC 4 dX4_comesWithin_5 rfl ?_
  refine y_callVI (ci := 3) (st := []) CC cl_X4_114 (k_freePlaces l D ad kI kS kL μ 1 (by omega) τ hT hB hP3 0 w (by omega) (by omega)) (by omega) rfl rfl rfl (Nat.le_of_ble_eq_true rfl) ⟨by decide, by decide⟩ ⟨Nat.zero_le _, Nat.zero_le _⟩ dX4_comesWithin_7 (fun r_ μ_ w_2 => ?_)
  obtain ⟨rfl, rfl⟩ := w_2
  have h_fr_1 := set9 (P := tP τ) (by omega) (frS_lt τ w 0)
  refine y_iload_n CC 1 dX4_comesWithin_10 rfl rfl ?_
  refine y_callSI (st := []) CC cl_X4_117 (k_isIn l D ad kI kS kL μ (frS τ w 0) f (by omega) (by omega)) rfl rfl (Nat.le_of_ble_eq_true rfl) ⟨by decide, by decide⟩ ⟨Nat.zero_le _, Nat.zero_le _⟩ dX4_comesWithin_11 (fun r_ μ_ w_4 => ?_)
  rcases w_4 with ⟨rfl, ⟨b_3, rfl⟩ | ⟨b_3, rfl⟩⟩
  · skip
    refine z_if_neT CC 19 dX4_comesWithin_14 (by decide) (a := (1 : Int)) (nI_toInt (by decide)) (by decide) ?_
    refine y_aload_n CC 0 dX4_comesWithin_19 rfl rfl ?_
    refine y_getr CC gl_X4_14 (by omega) (d := 1) rfl dX4_comesWithin_20 ?_
    refine y_iload_n CC 1 dX4_comesWithin_23 rfl rfl ?_
    refine y_iload_n CC 2 dX4_comesWithin_24 rfl rfl ?_
    refine y_iload CC 4 dX4_comesWithin_25 rfl ?_
    refine y_callVI (ci := 3) (st := []) CC cl_X4_138 (k_fewestMinutes l D ad kI kS kL μ 1 (by omega) τ hT hB hP3 f t w (by omega) (by omega) (by omega)) (by omega) rfl rfl rfl (Nat.le_of_ble_eq_true rfl) ⟨by decide, by decide⟩ ⟨Nat.zero_le _, Nat.zero_le _⟩ dX4_comesWithin_27 (fun r_ μ_ w_5 => ?_)
    obtain ⟨rfl, rfl⟩ := w_5
    refine y_istore CC [(5, .int (oI (soon τ w f t))), (0, .ref (ad 0)), (1, .int (nI f)), (2, .int (nI t)), (3, .int (nI n)), (4, .int (nI w))] dX4_comesWithin_30 (by decide) rfl ?_
    rcases hb_ : soon τ w f t with _ | m
    · skip
      refine y_lvE (lv2 := [(5, .int (-9)), (0, .ref (ad 0)), (1, .int (nI f)), (2, .int (nI t)), (3, .int (nI n)), (4, .int (nI w))]) (by first | rfl | (rw [hb_]; rfl)) ?_
      refine y_iload CC 0 dX4_comesWithin_32 rfl ?_
      refine y_bipush CC ((-9)) dX4_comesWithin_34 (by decide) ?_
      refine z_icmp_eqT CC 49 dX4_comesWithin_36 (by decide) (a := (-9 : Int)) (b := (-9 : Int)) (by decide) (by decide) (by decide) ?_
      refine y_iconst CC (nI 0) dX4_comesWithin_49 (by decide) ?_
      exact y_zret CC hQ dX4_comesWithin_50 (by decide) (⟨rfl, Or.inr ⟨by simp [cwB, b_3, hb_], rfl⟩⟩)
    · skip
      refine y_lvE (lv2 := [(5, .int (nI m)), (0, .ref (ad 0)), (1, .int (nI f)), (2, .int (nI t)), (3, .int (nI n)), (4, .int (nI w))]) (by first | rfl | (rw [hb_]; rfl)) ?_
      have hm_ := soon_61 hb_
      refine y_iload CC 0 dX4_comesWithin_32 rfl ?_
      refine y_bipush CC ((-9)) dX4_comesWithin_34 (by decide) ?_
      refine z_icmp_eqF CC 49 dX4_comesWithin_36 (by decide) (a := ((m : Nat) : Int)) (b := (-9 : Int)) (nI_toInt (by omega)) (by decide) (by omega) ?_
      refine y_iload CC 0 dX4_comesWithin_39 rfl ?_
      refine y_iload_n CC 4 dX4_comesWithin_41 rfl rfl ?_
      refine z_icmp_gt CC 49 dX4_comesWithin_42 (by decide) (a := ((m : Nat) : Int)) (b := ((n : Nat) : Int)) (nI_toInt (by omega)) (nI_toInt (by omega)) (fun c_6 => ?_) (fun c_6 => ?_)
      · skip
        have hle_ : ¬ m ≤ n := by omega
        refine y_iconst CC (nI 0) dX4_comesWithin_49 (by decide) ?_
        exact y_zret CC hQ dX4_comesWithin_50 (by decide) (⟨rfl, Or.inr ⟨by simp [cwB, b_3, hb_, hle_], rfl⟩⟩)
      · skip
        have hle_ : m ≤ n := by omega
        refine y_iconst CC (nI 1) dX4_comesWithin_45 (by decide) ?_
        refine y_goto CC 50 dX4_comesWithin_46 (by decide) ?_
        exact y_zret CC hQ dX4_comesWithin_50 (by decide) (⟨rfl, Or.inl ⟨by simp [cwB, b_3, hb_, hle_], rfl⟩⟩)
  · skip
    refine z_if_neF CC 19 dX4_comesWithin_14 (by decide) (a := (0 : Int)) (nI_toInt (by decide)) (by decide) ?_
    refine y_iconst CC (nI 0) dX4_comesWithin_17 (by decide) ?_
    exact y_zret CC hQ dX4_comesWithin_18 (by decide) (⟨rfl, Or.inr ⟨by simp [cwB, b_3], rfl⟩⟩)

set_option maxRecDepth 100000 in
set_option maxHeartbeats 4000000 in
theorem x_odds (l : Launch) (D : va_G) (ad : Nat → Nat) (kI kS kL : ClassId) (μ : Mem) (τ : Tn) (hT : TX μ 1 τ) (hV : tV τ) (f t n w0 : Int32) : ML l D ad kI kS kL yX4_odds cX4_odds 8 (some .long) 6 143 [.ref (ad 0), .int f, .int t, .int n, .int w0] μ (fun r μ2 => μ = μ2 ∧ r = q_odds τ f t n w0) := by
  refine met_L RX4 rfl (by decide) (lv := [(0, .ref (ad 0)), (1, .int f), (2, .int t), (3, .int n), (4, .int w0)]) rfl (Nat.le_of_ble_eq_true rfl) ?_
  intro pp ee ss mm aa bb me cd AA hA0 CC hnm QQ hQ
  have hB := hV.1
  have hP9 : tP τ ≤ 9 := hB.1
  have hS4 : tS τ ≤ 4 := hB.2.1
  have hVc := hV.2.1
  have hS16 : 2 ^ tS τ ≤ 16 := show 2 ^ tS τ ≤ 2 ^ 4 from Nat.pow_le_pow_right (by decide) hB.2.1
  refine y_aload_n CC 0 dX4_odds_0 rfl rfl ?_
  refine y_getr CC gl_X4_14 (by omega) (d := 1) rfl dX4_odds_1 ?_
  refine y_iload_n CC 1 dX4_odds_4 rfl rfl ?_
  refine y_callVI (ci := 3) (st := []) CC cl_X4_88 (k_hasPlace l D ad kI kS kL μ 1 (by omega) τ hT hB f) (by omega) rfl rfl rfl (Nat.le_of_ble_eq_true rfl) ⟨by decide, by decide⟩ ⟨Nat.zero_le _, Nat.zero_le _⟩ dX4_odds_5 (fun r_ μ_ w_2 => ?_)
  rcases w_2 with ⟨rfl, ⟨b_1, rfl⟩ | ⟨b_1, rfl⟩⟩
  · skip
    obtain ⟨jf, hjf, rfl⟩ := inB_of b_1 (by omega)
    refine z_if_eqF CC 22 dX4_odds_8 (by decide) (a := (1 : Int)) (nI_toInt (by decide)) (by decide) ?_
    refine y_aload_n CC 0 dX4_odds_11 rfl rfl ?_
    refine y_getr CC gl_X4_14 (by omega) (d := 1) rfl dX4_odds_12 ?_
    refine y_iload_n CC 2 dX4_odds_15 rfl rfl ?_
    refine y_callVI (ci := 3) (st := []) CC cl_X4_88 (k_hasPlace l D ad kI kS kL μ 1 (by omega) τ hT hB t) (by omega) rfl rfl rfl (Nat.le_of_ble_eq_true rfl) ⟨by decide, by decide⟩ ⟨Nat.zero_le _, Nat.zero_le _⟩ dX4_odds_16 (fun r_ μ_ w_4 => ?_)
    rcases w_4 with ⟨rfl, ⟨b_3, rfl⟩ | ⟨b_3, rfl⟩⟩
    · skip
      obtain ⟨jt, hjt, rfl⟩ := inB_of b_3 (by omega)
      refine z_if_neT CC 26 dX4_odds_19 (by decide) (a := (1 : Int)) (nI_toInt (by decide)) (by decide) ?_
      refine y_iload_n CC 3 dX4_odds_26 rfl rfl ?_
      refine y_callSI (st := []) CC cl_X4_101 (k_isMinute l D ad kI kS kL μ n) rfl rfl (Nat.le_of_ble_eq_true rfl) ⟨by decide, by decide⟩ ⟨Nat.zero_le _, Nat.zero_le _⟩ dX4_odds_27 (fun r_ μ_ w_6 => ?_)
      rcases w_6 with ⟨rfl, ⟨b_5, rfl⟩ | ⟨b_5, rfl⟩⟩
      · skip
        obtain ⟨jn, hjn, rfl⟩ := inB_of b_5 (by omega)
        refine z_if_eqF CC 44 dX4_odds_30 (by decide) (a := (1 : Int)) (nI_toInt (by decide)) (by decide) ?_
        refine y_iload CC 4 dX4_odds_33 rfl ?_
        refine z_if_lt CC 44 dX4_odds_35 (by decide) (a := (w0).toInt) rfl (fun c_7 => ?_) (fun c_7 => ?_)
        · skip
          have hw_ : inB w0 2 = false := inB_f (by omega)
          refine y_ldc2 CC kl_X4_170 dX4_odds_44 ?_
          exact y_lret CC hQ dX4_odds_47 (⟨rfl, by simp [q_odds, b_1, ix_nI (show jf < 2 ^ 31 by omega), b_3, ix_nI (show jt < 2 ^ 31 by omega), b_5, ix_nI (show jn < 2 ^ 31 by omega), hw_]⟩)
        · skip
          refine y_iload CC 4 dX4_odds_38 rfl ?_
          refine y_iconst CC (nI 1) dX4_odds_40 (by decide) ?_
          refine z_icmp_le CC 48 dX4_odds_41 (by decide) (a := (w0).toInt) (b := (1 : Int)) rfl (nI_toInt (by decide)) (fun c_8 => ?_) (fun c_8 => ?_)
          · skip
            have hw_ : inB w0 2 = true := inB_t (by omega)
            refine y_iconst CC (nI 0) dX4_odds_48 (by decide) ?_
            refine y_istore CC [(5, .int (nI 0)), (0, .ref (ad 0)), (1, .int (nI jf)), (2, .int (nI jt)), (3, .int (nI jn)), (4, .int w0)] dX4_odds_49 (by decide) rfl ?_
            refine y_iconst CC (nI 1) dX4_odds_51 (by decide) ?_
            refine y_aload_n CC 1 dX4_odds_52 rfl rfl ?_
            refine y_getr CC gl_X4_14 (by omega) (d := 1) rfl dX4_odds_53 ?_
            refine y_callVI (ci := 3) (st := [.int (nI 1)]) CC cl_X4_69 (k_sleeperCount l D ad kI kS kL μ 1 (by omega) τ hT hB) (by omega) rfl rfl rfl (Nat.le_of_ble_eq_true rfl) ⟨by decide, by decide⟩ ⟨Nat.zero_le _, Nat.zero_le _⟩ dX4_odds_56 (fun r_ μ_ w_9 => ?_)
            obtain ⟨rfl, rfl⟩ := w_9
            refine y_ishl CC dX4_odds_59 (v := nI (2 ^ (tS τ))) ((i_shl (by omega) (by rw [Nat.one_mul]; omega)).trans (by rw [Nat.one_mul])) ?_
            refine y_istore CC [(6, .int (nI (2 ^ (tS τ)))), (5, .int (nI 0)), (0, .ref (ad 0)), (1, .int (nI jf)), (2, .int (nI jt)), (3, .int (nI jn)), (4, .int w0)] dX4_odds_60 (by decide) rfl ?_
            refine y_iconst CC (nI 0) dX4_odds_62 (by decide) ?_
            refine y_istore CC [(7, .int (nI 0)), (6, .int (nI (2 ^ (tS τ)))), (5, .int (nI 0)), (0, .ref (ad 0)), (1, .int (nI jf)), (2, .int (nI jt)), (3, .int (nI jn)), (4, .int w0)] dX4_odds_63 (by decide) rfl ?_
            have L65 : ∀ (n65 : Nat) (w : Nat), 2 ^ tS τ - w < n65 → (w ≤ 2 ^ tS τ) → Y pp l ee (rmY 6 143) ss mm aa bb me cd D ad kI kS kL AA 8 0 0 QQ 65 [(7, .int (nI w)), (6, .int (nI (2 ^ (tS τ)))), (5, .int (nI (cnB (cwB τ jf jt jn) w))), (0, .ref (ad 0)), (1, .int (nI jf)), (2, .int (nI jt)), (3, .int (nI jn)), (4, .int w0)] [] μ := by
              intro n65
              induction n65 with
              | zero => intro w hm65; exact absurd hm65 (Nat.not_lt_zero _)
              | succ n65 ih65 =>
                intro w hm65 hwl
                have hcn := cnB_le (cwB τ jf jt jn) w
                refine y_iload CC 0 dX4_odds_65 rfl ?_
                refine y_iload CC 1 dX4_odds_67 rfl ?_
                refine z_icmp_ge CC 93 dX4_odds_69 (by decide) (a := ((w : Nat) : Int)) (b := ((2 ^ (tS τ) : Nat) : Int)) (nI_toInt (by omega)) (nI_toInt (by omega)) (fun c_11 => ?_) (fun c_11 => ?_)
                · skip
                  have L93 : ∀ (n93 : Nat) (u : Nat) (d : Nat) (e : Nat), d < n93 → (u ≤ 16) → (d ≤ 16 ∧ 1 ≤ d ∧ d ≤ 2 ^ e) → (rdS e (u, d) = odS τ jf jt jn) → Y pp l ee (rmY 6 143) ss mm aa bb me cd D ad kI kS kL AA 8 0 0 QQ 93 [(6, .int (nI d)), (5, .int (nI u)), (0, .ref (ad 0)), (1, .int (nI jf)), (2, .int (nI jt)), (3, .int (nI jn)), (4, .int w0)] [] μ := by
                    intro n93
                    induction n93 with
                    | zero => intro u d e hm93; exact absurd hm93 (Nat.not_lt_zero _)
                    | succ n93 ih93 =>
                      intro u d e hm93 hu hd hr
                      refine y_iload CC 0 dX4_odds_93 rfl ?_
                      refine y_iconst CC (nI 1) dX4_odds_95 (by decide) ?_
                      refine z_icmp_le CC 121 dX4_odds_96 (by decide) (a := ((d : Nat) : Int)) (b := (1 : Int)) (nI_toInt (by omega)) (nI_toInt (by decide)) (fun c_13 => ?_) (fun c_13 => ?_)
                      · skip
                        have hodd_ : odS τ jf jt jn = (u, d) := by
                          rw [← hr]
                          cases e with
                          | zero => rfl
                          | succ e => rw [rdS, if_neg (fun q_ => by have h1_ : 1 < d := q_.1; have h2_ : u % 2 = 0 := q_.2; omega)]
                        refine y_iload CC 6 dX4_odds_121 rfl ?_
                        refine z_if_ne CC 132 dX4_odds_123 (by decide) (a := (w0).toInt) rfl (fun c_14 => ?_) (fun c_14 => ?_)
                        · skip
                          have hw0_ : ¬ w0.toInt = 0 := by omega
                          refine y_iload CC 0 dX4_odds_132 rfl ?_
                          refine y_i2l CC dX4_odds_134 (v := (nI d).toInt64) rfl ?_
                          exact y_lret CC hQ dX4_odds_135 (⟨rfl, by simp [q_odds, hodd_, b_1, ix_nI (show jf < 2 ^ 31 by omega), b_3, ix_nI (show jt < 2 ^ 31 by omega), b_5, ix_nI (show jn < 2 ^ 31 by omega), hw_, hw0_]⟩)
                        · skip
                          have hw0_ : w0.toInt = 0 := by omega
                          refine y_iload CC 1 dX4_odds_126 rfl ?_
                          refine y_i2l CC dX4_odds_128 (v := (nI u).toInt64) rfl ?_
                          refine y_goto CC 135 dX4_odds_129 (by decide) ?_
                          exact y_lret CC hQ dX4_odds_135 (⟨rfl, by simp [q_odds, hodd_, b_1, ix_nI (show jf < 2 ^ 31 by omega), b_3, ix_nI (show jt < 2 ^ 31 by omega), b_5, ix_nI (show jn < 2 ^ 31 by omega), hw_, hw0_]⟩)
                      · skip
                        refine y_iload CC 1 dX4_odds_99 rfl ?_
                        refine y_iconst CC (nI 2) dX4_odds_101 (by decide) ?_
                        refine y_irem CC dX4_odds_102 (by decide) (v := nI (u % 2)) (i_rem (by omega) (by omega) (by omega)) ?_
                        refine z_if_ne CC 121 dX4_odds_103 (by decide) (a := ((u % 2 : Nat) : Int)) (nI_toInt (by omega)) (fun c_15 => ?_) (fun c_15 => ?_)
                        · skip
                          have hodd_ : odS τ jf jt jn = (u, d) := by
                            rw [← hr]
                            cases e with
                            | zero => rfl
                            | succ e => rw [rdS, if_neg (fun q_ => by have h1_ : 1 < d := q_.1; have h2_ : u % 2 = 0 := q_.2; omega)]
                          refine y_iload CC 6 dX4_odds_121 rfl ?_
                          refine z_if_ne CC 132 dX4_odds_123 (by decide) (a := (w0).toInt) rfl (fun c_16 => ?_) (fun c_16 => ?_)
                          · skip
                            have hw0_ : ¬ w0.toInt = 0 := by omega
                            refine y_iload CC 0 dX4_odds_132 rfl ?_
                            refine y_i2l CC dX4_odds_134 (v := (nI d).toInt64) rfl ?_
                            exact y_lret CC hQ dX4_odds_135 (⟨rfl, by simp [q_odds, hodd_, b_1, ix_nI (show jf < 2 ^ 31 by omega), b_3, ix_nI (show jt < 2 ^ 31 by omega), b_5, ix_nI (show jn < 2 ^ 31 by omega), hw_, hw0_]⟩)
                          · skip
                            have hw0_ : w0.toInt = 0 := by omega
                            refine y_iload CC 1 dX4_odds_126 rfl ?_
                            refine y_i2l CC dX4_odds_128 (v := (nI u).toInt64) rfl ?_
                            refine y_goto CC 135 dX4_odds_129 (by decide) ?_
                            exact y_lret CC hQ dX4_odds_135 (⟨rfl, by simp [q_odds, hodd_, b_1, ix_nI (show jf < 2 ^ 31 by omega), b_3, ix_nI (show jt < 2 ^ 31 by omega), b_5, ix_nI (show jn < 2 ^ 31 by omega), hw_, hw0_]⟩)
                        · skip
                          have he_ : d / 2 ≤ 2 ^ (e - 1) ∧ rdS (e - 1) (u / 2, d / 2) = odS τ jf jt jn := by
                            cases e with
                            | zero => exfalso; have := hd.2.2; omega
                            | succ e => refine ⟨?_, ?_⟩; have := hd.2.2; rw [Nat.pow_succ] at this; rw [Nat.add_sub_cancel]; omega; rw [Nat.add_sub_cancel, ← hr, rdS, if_pos ⟨by show 1 < d; omega, by show u % 2 = 0; omega⟩]
                          refine y_iload CC 1 dX4_odds_106 rfl ?_
                          refine y_iconst CC (nI 2) dX4_odds_108 (by decide) ?_
                          refine y_idiv CC dX4_odds_109 (by decide) (v := nI (u / 2)) (i_div (by omega) (by omega) (by omega)) ?_
                          refine y_istore CC [(5, .int (nI (u / 2))), (6, .int (nI d)), (0, .ref (ad 0)), (1, .int (nI jf)), (2, .int (nI jt)), (3, .int (nI jn)), (4, .int w0)] dX4_odds_110 (by decide) rfl ?_
                          refine y_iload CC 1 dX4_odds_112 rfl ?_
                          refine y_iconst CC (nI 2) dX4_odds_114 (by decide) ?_
                          refine y_idiv CC dX4_odds_115 (by decide) (v := nI (d / 2)) (i_div (by omega) (by omega) (by omega)) ?_
                          refine y_istore CC [(6, .int (nI (d / 2))), (5, .int (nI (u / 2))), (0, .ref (ad 0)), (1, .int (nI jf)), (2, .int (nI jt)), (3, .int (nI jn)), (4, .int w0)] dX4_odds_116 (by decide) rfl ?_
                          refine y_goto CC 93 dX4_odds_118 (by decide) ?_
                          exact ih93 (u / 2) (d / 2) (e - 1) (by omega) (by omega) (⟨by omega, by omega, he_.1⟩) he_.2
                  refine y_lv [1, 2, 3, 4, 5, 6, 7] rfl ?_
                  exact L93 _ (cnB (cwB τ jf jt jn) w) (2 ^ tS τ) 5 (Nat.lt_succ_self _) (by omega) (⟨hS16, Nat.one_le_two_pow, by omega⟩) (by rw [show w = 2 ^ tS τ by omega]; rfl)
                · skip
                  refine y_aload_n CC 3 dX4_odds_72 rfl rfl ?_
                  refine y_iload_n CC 4 dX4_odds_73 rfl rfl ?_
                  refine y_iload_n CC 5 dX4_odds_74 rfl rfl ?_
                  refine y_iload_n CC 6 dX4_odds_75 rfl rfl ?_
                  refine y_iload CC 0 dX4_odds_76 rfl ?_
                  refine y_callVI (ci := 4) (st := []) CC cl_X4_172 (k_comesWithin l D ad kI kS kL μ τ hT hV (by omega) jf jt jn w (by omega) (by omega) (by omega) (by omega)) (by omega) rfl rfl rfl (Nat.le_of_ble_eq_true rfl) ⟨by decide, by decide⟩ ⟨Nat.zero_le _, Nat.zero_le _⟩ dX4_odds_78 (fun r_ μ_ w_18 => ?_)
                  rcases w_18 with ⟨rfl, ⟨b_17, rfl⟩ | ⟨b_17, rfl⟩⟩
                  · skip
                    refine z_if_eqF CC 87 dX4_odds_81 (by decide) (a := (1 : Int)) (nI_toInt (by decide)) (by decide) ?_
                    refine y_iinc CC 2 (nI (cnB (cwB τ jf jt jn) (w + 1))) [(5, .int (nI (cnB (cwB τ jf jt jn) (w + 1)))), (7, .int (nI w)), (6, .int (nI (2 ^ (tS τ)))), (0, .ref (ad 0)), (1, .int (nI jf)), (2, .int (nI jt)), (3, .int (nI jn)), (4, .int w0)] dX4_odds_84 rfl ((i_inc _).trans (by rw [cnB, if_pos b_17])) (by decide) rfl ?_
                    refine y_iinc CC 1 (nI (w + 1)) [(7, .int (nI (w + 1))), (5, .int (nI (cnB (cwB τ jf jt jn) (w + 1)))), (6, .int (nI (2 ^ (tS τ)))), (0, .ref (ad 0)), (1, .int (nI jf)), (2, .int (nI jt)), (3, .int (nI jn)), (4, .int w0)] dX4_odds_87 rfl (i_inc _) (by decide) rfl ?_
                    refine y_goto CC 65 dX4_odds_90 (by decide) ?_
                    refine y_lv [0, 2, 1, 3, 4, 5, 6, 7] rfl ?_
                    exact ih65 (w + 1) (by omega) (by omega)
                  · skip
                    refine z_if_eqT CC 87 dX4_odds_81 (by decide) (a := (0 : Int)) (nI_toInt (by decide)) (by decide) ?_
                    refine y_lvE (lv2 := [(7, .int (nI w)), (6, .int (nI (2 ^ (tS τ)))), (5, .int (nI (cnB (cwB τ jf jt jn) (w + 1)))), (0, .ref (ad 0)), (1, .int (nI jf)), (2, .int (nI jt)), (3, .int (nI jn)), (4, .int w0)]) (by rw [cnB, if_neg (by rw [b_17]; decide), Nat.add_zero]) ?_
                    refine y_iinc CC 0 (nI (w + 1)) [(7, .int (nI (w + 1))), (6, .int (nI (2 ^ (tS τ)))), (5, .int (nI (cnB (cwB τ jf jt jn) (w + 1)))), (0, .ref (ad 0)), (1, .int (nI jf)), (2, .int (nI jt)), (3, .int (nI jn)), (4, .int w0)] dX4_odds_87 rfl (i_inc _) (by decide) rfl ?_
                    refine y_goto CC 65 dX4_odds_90 (by decide) ?_
                    exact ih65 (w + 1) (by omega) (by omega)
            exact L65 _ 0 (Nat.lt_succ_self _) (Nat.zero_le _)
          · skip
            have hw_ : inB w0 2 = false := inB_f (by omega)
            refine y_ldc2 CC kl_X4_170 dX4_odds_44 ?_
            exact y_lret CC hQ dX4_odds_47 (⟨rfl, by simp [q_odds, b_1, ix_nI (show jf < 2 ^ 31 by omega), b_3, ix_nI (show jt < 2 ^ 31 by omega), b_5, ix_nI (show jn < 2 ^ 31 by omega), hw_]⟩)
      · skip
        refine z_if_eqT CC 44 dX4_odds_30 (by decide) (a := (0 : Int)) (nI_toInt (by decide)) (by decide) ?_
        refine y_ldc2 CC kl_X4_170 dX4_odds_44 ?_
        exact y_lret CC hQ dX4_odds_47 (⟨rfl, by simp [q_odds, b_1, ix_nI (show jf < 2 ^ 31 by omega), b_3, ix_nI (show jt < 2 ^ 31 by omega), b_5]⟩)
    · skip
      refine z_if_neF CC 26 dX4_odds_19 (by decide) (a := (0 : Int)) (nI_toInt (by decide)) (by decide) ?_
      refine y_ldc2 CC kl_X4_170 dX4_odds_22 ?_
      exact y_lret CC hQ dX4_odds_25 (⟨rfl, by simp [q_odds, b_1, ix_nI (show jf < 2 ^ 31 by omega), b_3]⟩)
  · skip
    refine z_if_eqT CC 22 dX4_odds_8 (by decide) (a := (0 : Int)) (nI_toInt (by decide)) (by decide) ?_
    refine y_ldc2 CC kl_X4_170 dX4_odds_22 ?_
    exact y_lret CC hQ dX4_odds_25 (⟨rfl, by simp [q_odds, b_1]⟩)

set_option maxRecDepth 100000 in
set_option maxHeartbeats 4000000 in
theorem k_areActs (l : Launch) (D : va_G) (ad : Nat → Nat) (kI kS kL : ClassId) (μ : Mem) (q : Nat) (hq : isO 1 q) (ln len : Nat) (z : Nat → Int32) (hQ1 : SQ μ q ln len z) (i n : Nat) (hin : i + n ≤ len) : MI l D ad kI kS kL yX4_areActs cX4_areActs 5 (some .boolean) 2 42 [.ref (ad q), .int (nI i), .int (nI n)] μ (fun r μ2 => μ = μ2 ∧ bo r (actB z i n)) := by
  refine met_I RX4 rfl (by decide) (lv := [(0, .ref (ad q)), (1, .int (nI i)), (2, .int (nI n))]) rfl (Nat.le_of_ble_eq_true rfl) ?_
  intro pp ee ss mm aa bb me cd AA hA0 CC hnm QQ hQ
  have hlen := hQ1.2.2.2.1
  have hln := hQ1.2.2.1
  refine y_iconst CC (nI 0) dX4_areActs_0 (by decide) ?_
  refine y_istore_n CC [(3, .int (nI 0)), (0, .ref (ad q)), (1, .int (nI i)), (2, .int (nI n))] dX4_areActs_1 rfl (by decide) rfl ?_
  have L2 : ∀ (n2 : Nat) (x : Nat), n - x < n2 → (x ≤ n) → (∀ y, y < x → inB (z (i + y)) 3 = true) → Y pp l ee (rmY 2 42) ss mm aa bb me cd D ad kI kS kL AA 5 0 0 QQ 2 [(3, .int (nI x)), (0, .ref (ad q)), (1, .int (nI i)), (2, .int (nI n))] [] μ := by
    intro n2
    induction n2 with
    | zero => intro x hm2; exact absurd hm2 (Nat.not_lt_zero _)
    | succ n2 ih2 =>
      intro x hm2 hxn hx
      refine y_iload_n CC 0 dX4_areActs_2 rfl rfl ?_
      refine y_iload_n CC 3 dX4_areActs_3 rfl rfl ?_
      refine z_icmp_ge CC 41 dX4_areActs_4 (by decide) (a := ((x : Nat) : Int)) (b := ((n : Nat) : Int)) (nI_toInt (by omega)) (nI_toInt (by omega)) (fun c_2 => ?_) (fun c_2 => ?_)
      · skip
        refine y_iconst CC (nI 1) dX4_areActs_41 (by decide) ?_
        exact y_zret CC hQ dX4_areActs_42 (by decide) (⟨rfl, Or.inl ⟨actB_t (fun x_ h_ => hx x_ (by omega)), rfl⟩⟩)
      · skip
        refine y_aload_n CC 1 dX4_areActs_7 rfl rfl ?_
        refine y_iload_n CC 2 dX4_areActs_8 rfl rfl ?_
        refine y_iload_n CC 0 dX4_areActs_9 rfl rfl ?_
        refine y_iadd CC dX4_areActs_10 (v := nI (i + x)) (nI_add _ _) ?_
        refine y_callVI (ci := 1) (st := []) CC cl_X4_129 (k_at l D ad kI kS kL μ q hq ln len z hQ1 (nI (i + x))) hq rfl rfl rfl (Nat.le_of_ble_eq_true rfl) ⟨by decide, by decide⟩ ⟨Nat.zero_le _, Nat.zero_le _⟩ dX4_areActs_11 (fun r_ μ_ w_3 => ?_)
        obtain ⟨rfl, rfl⟩ := w_3
        refine y_top (y := z (i + x)) (by rw [if_pos (inB_nI (by omega) (by omega)), ix_nI (by omega)]) ?_
        refine y_istore CC [(4, .int (z (i + x))), (3, .int (nI x)), (0, .ref (ad q)), (1, .int (nI i)), (2, .int (nI n))] dX4_areActs_14 (by decide) rfl ?_
        refine y_iload CC 0 dX4_areActs_16 rfl ?_
        refine z_if_eq CC 35 dX4_areActs_18 (by decide) (a := (z (i + x)).toInt) rfl (fun c_4 => ?_) (fun c_4 => ?_)
        · skip
          refine y_iinc CC 1 (nI (x + 1)) [(3, .int (nI (x + 1))), (4, .int (z (i + x))), (0, .ref (ad q)), (1, .int (nI i)), (2, .int (nI n))] dX4_areActs_35 rfl (i_inc _) (by decide) rfl ?_
          refine y_goto CC 2 dX4_areActs_38 (by decide) ?_
          refine y_lv [0, 2, 3, 4] rfl ?_
          exact ih2 (x + 1) (by omega) (by omega) (fun y h => by rcases (show y < x ∨ y = x by omega) with h2 | rfl; exact hx y h2; exact inB_t (by omega))
        · skip
          refine y_iload CC 0 dX4_areActs_21 rfl ?_
          refine y_iconst CC (nI 1) dX4_areActs_23 (by decide) ?_
          refine z_icmp_eq CC 35 dX4_areActs_24 (by decide) (a := (z (i + x)).toInt) (b := (1 : Int)) rfl (nI_toInt (by decide)) (fun c_5 => ?_) (fun c_5 => ?_)
          · skip
            refine y_iinc CC 1 (nI (x + 1)) [(3, .int (nI (x + 1))), (4, .int (z (i + x))), (0, .ref (ad q)), (1, .int (nI i)), (2, .int (nI n))] dX4_areActs_35 rfl (i_inc _) (by decide) rfl ?_
            refine y_goto CC 2 dX4_areActs_38 (by decide) ?_
            refine y_lv [0, 2, 3, 4] rfl ?_
            exact ih2 (x + 1) (by omega) (by omega) (fun y h => by rcases (show y < x ∨ y = x by omega) with h2 | rfl; exact hx y h2; exact inB_t (by omega))
          · skip
            refine y_iload CC 0 dX4_areActs_27 rfl ?_
            refine y_iconst CC (nI 2) dX4_areActs_29 (by decide) ?_
            refine z_icmp_eq CC 35 dX4_areActs_30 (by decide) (a := (z (i + x)).toInt) (b := (2 : Int)) rfl (nI_toInt (by decide)) (fun c_6 => ?_) (fun c_6 => ?_)
            · skip
              refine y_iinc CC 1 (nI (x + 1)) [(3, .int (nI (x + 1))), (4, .int (z (i + x))), (0, .ref (ad q)), (1, .int (nI i)), (2, .int (nI n))] dX4_areActs_35 rfl (i_inc _) (by decide) rfl ?_
              refine y_goto CC 2 dX4_areActs_38 (by decide) ?_
              refine y_lv [0, 2, 3, 4] rfl ?_
              exact ih2 (x + 1) (by omega) (by omega) (fun y h => by rcases (show y < x ∨ y = x by omega) with h2 | rfl; exact hx y h2; exact inB_t (by omega))
            · skip
              refine y_iconst CC (nI 0) dX4_areActs_33 (by decide) ?_
              exact y_zret CC hQ dX4_areActs_34 (by decide) (⟨rfl, Or.inr ⟨actB_f (x := x) (by omega) (inB_f (by omega)), rfl⟩⟩)
  exact L2 _ 0 (Nat.lt_succ_self _) (Nat.zero_le _) (fun y h => absurd h (Nat.not_lt_zero y))

set_option maxRecDepth 100000 in
set_option maxHeartbeats 4000000 in
theorem k_tellOfWalk (l : Launch) (D : va_G) (ad : Nat → Nat) (kI kS kL : ClassId) (μ : Mem) (τ : Tn) (hT : TX μ 1 τ) (hV : tV τ) (hP3 : 3 ≤ tP τ) (p q : Nat) (hp : p < tP τ) (hq : isO 1 q) (ln len : Nat) (z : Nat → Int32) (hQ1 : SQ μ q ln len z) (i n w : Nat) (hin : i + n ≤ len) (hn : n ≤ 40) (hw : w ≤ 3) (hact : actB z i n = true) : MI l D ad kI kS kL yX4_tellOfWalk cX4_tellOfWalk 11 (some .int) 4 93 [.ref (ad 0), .int (nI p), .ref (ad q), .int (nI i), .int (nI n), .int (nI w)] μ (fun r μ2 => μ = μ2 ∧ r = q_wk τ z i p n w) := by
  refine met_I RX4 rfl (by decide) (lv := [(0, .ref (ad 0)), (1, .int (nI p)), (2, .ref (ad q)), (3, .int (nI i)), (4, .int (nI n)), (5, .int (nI w))]) rfl (Nat.le_of_ble_eq_true rfl) ?_
  intro pp ee ss mm aa bb me cd AA hA0 CC hnm QQ hQ
  have hB := hV.1
  have hP9 : tP τ ≤ 9 := hB.1
  have hS4 : tS τ ≤ 4 := hB.2.1
  have hVc := hV.2.1
  have hlen := hQ1.2.2.2.1
  have hln := hQ1.2.2.1
  refine y_iload_n CC 1 dX4_tellOfWalk_0 rfl rfl ?_
  refine y_istore CC [(6, .int (nI p)), (0, .ref (ad 0)), (1, .int (nI p)), (2, .ref (ad q)), (3, .int (nI i)), (4, .int (nI n)), (5, .int (nI w))] dX4_tellOfWalk_1 (by decide) rfl ?_
  refine y_iload_n CC 2 dX4_tellOfWalk_3 rfl rfl ?_
  refine y_callSI (st := []) CC cl_X4_132 (k_bit l D ad kI kS kL μ p (by omega)) rfl rfl (Nat.le_of_ble_eq_true rfl) ⟨by decide, by decide⟩ ⟨Nat.zero_le _, Nat.zero_le _⟩ dX4_tellOfWalk_4 (fun r_ μ_ w_1 => ?_)
  obtain ⟨rfl, rfl⟩ := w_1
  refine y_istore CC [(7, .int (nI (2 ^ p))), (6, .int (nI p)), (0, .ref (ad 0)), (1, .int (nI p)), (2, .ref (ad q)), (3, .int (nI i)), (4, .int (nI n)), (5, .int (nI w))] dX4_tellOfWalk_7 (by decide) rfl ?_
  refine y_iconst CC (nI 0) dX4_tellOfWalk_9 (by decide) ?_
  refine y_istore CC [(8, .int (nI 0)), (7, .int (nI (2 ^ p))), (6, .int (nI p)), (0, .ref (ad 0)), (1, .int (nI p)), (2, .ref (ad q)), (3, .int (nI i)), (4, .int (nI n)), (5, .int (nI w))] dX4_tellOfWalk_10 (by decide) rfl ?_
  refine y_iconst CC (nI 0) dX4_tellOfWalk_12 (by decide) ?_
  refine y_istore CC [(9, .int (nI 0)), (8, .int (nI 0)), (7, .int (nI (2 ^ p))), (6, .int (nI p)), (0, .ref (ad 0)), (1, .int (nI p)), (2, .ref (ad q)), (3, .int (nI i)), (4, .int (nI n)), (5, .int (nI w))] dX4_tellOfWalk_13 (by decide) rfl ?_
  have L15 : ∀ (n15 : Nat) (x : Nat), n - x < n15 → (x ≤ n) → (fs (wkB τ z i p) x (n - x) = fs (wkB τ z i p) 0 n) → Y pp l ee (rmY 4 93) ss mm aa bb me cd D ad kI kS kL AA 11 0 0 QQ 15 [(9, .int (nI x)), (8, .int (nI (wkS z i x))), (7, .int (nI (wkN τ z i p x))), (6, .int (nI (wkP τ z i p x))), (0, .ref (ad 0)), (1, .int (nI p)), (2, .ref (ad q)), (3, .int (nI i)), (4, .int (nI n)), (5, .int (nI w))] [] μ := by
    intro n15
    induction n15 with
    | zero => intro x hm15; exact absurd hm15 (Nat.not_lt_zero _)
    | succ n15 ih15 =>
      intro x hm15 hx hs
      have hlt_ := wkP_lt (τ := τ) (ζ := z) (i := i) hp x
      have hlt2_ := wkP_lt (τ := τ) (ζ := z) (i := i) hp (x + 1)
      have hsl_ := wkS_le (ζ := z) (i := i) x
      have hN9_ := set9 hP9 (wkN_lt (τ := τ) (ζ := z) (i := i) hp x)
      refine y_iload CC 0 dX4_tellOfWalk_15 rfl ?_
      refine y_iload CC 8 dX4_tellOfWalk_17 rfl ?_
      refine z_icmp_ge CC 114 dX4_tellOfWalk_19 (by decide) (a := ((x : Nat) : Int)) (b := ((n : Nat) : Int)) (nI_toInt (by omega)) (nI_toInt (by omega)) (fun c_3 => ?_) (fun c_3 => ?_)
      · skip
        have hfs_ : fs (wkB τ z i p) 0 n = none := by rw [← hs]; exact fs_0 (by omega)
        obtain rfl : x = n := by omega
        refine y_iload CC 9 dX4_tellOfWalk_114 rfl ?_
        rcases (show w = 0 ∨ w = 1 ∨ w = 2 ∨ w = 3 by omega) with rfl | rfl | rfl | rfl
        · skip
          refine y_tableIn CC (off := 28) 144 dX4_tellOfWalk_116 (by decide) (by decide) (by decide +kernel) (by decide) ?_
          refine y_iload CC 3 dX4_tellOfWalk_144 rfl ?_
          exact y_iret CC hQ dX4_tellOfWalk_146 (⟨rfl, by simp [q_wk, hfs_]⟩)
        · skip
          refine y_tableIn CC (off := 31) 147 dX4_tellOfWalk_116 (by decide) (by decide) (by decide +kernel) (by decide) ?_
          refine y_bipush CC ((-9)) dX4_tellOfWalk_147 (by decide) ?_
          exact y_iret CC hQ dX4_tellOfWalk_149 (⟨rfl, by simp [q_wk, hfs_]⟩)
        · skip
          refine y_tableIn CC (off := 34) 150 dX4_tellOfWalk_116 (by decide) (by decide) (by decide +kernel) (by decide) ?_
          refine y_iload CC 2 dX4_tellOfWalk_150 rfl ?_
          exact y_iret CC hQ dX4_tellOfWalk_152 (⟨rfl, by simp [q_wk, hfs_]⟩)
        · skip
          refine y_tableOut CC 153 dX4_tellOfWalk_116 (by decide) (by decide) ?_
          refine y_iload CC 1 dX4_tellOfWalk_153 rfl ?_
          exact y_iret CC hQ dX4_tellOfWalk_155 (⟨rfl, by simp [q_wk, hfs_]⟩)
      · skip
        refine y_aload_n CC 6 dX4_tellOfWalk_22 rfl rfl ?_
        refine y_iload_n CC 7 dX4_tellOfWalk_23 rfl rfl ?_
        refine y_iload CC 0 dX4_tellOfWalk_24 rfl ?_
        refine y_iadd CC dX4_tellOfWalk_26 (v := nI (i + x)) (nI_add _ _) ?_
        refine y_callVI (ci := 1) (st := []) CC cl_X4_129 (k_at l D ad kI kS kL μ q hq ln len z hQ1 (nI (i + x))) hq rfl rfl rfl (Nat.le_of_ble_eq_true rfl) ⟨by decide, by decide⟩ ⟨Nat.zero_le _, Nat.zero_le _⟩ dX4_tellOfWalk_27 (fun r_ μ_ w_4 => ?_)
        obtain ⟨rfl, rfl⟩ := w_4
        refine y_top (y := z (i + x)) (by rw [if_pos (inB_nI (by omega) (by omega)), ix_nI (by omega)]) ?_
        obtain ⟨ac, hac, hza⟩ := inB_of (actB_at (x := x) (by omega) hact) (by omega)
        refine y_top hza ?_
        have hixa : ix (z (i + x)) = ac := by rw [hza]; exact ix_nI (by omega)
        refine y_istore CC [(10, .int (nI ac)), (9, .int (nI x)), (8, .int (nI (wkS z i x))), (7, .int (nI (wkN τ z i p x))), (6, .int (nI (wkP τ z i p x))), (0, .ref (ad 0)), (1, .int (nI p)), (2, .ref (ad q)), (3, .int (nI i)), (4, .int (nI n)), (5, .int (nI w))] dX4_tellOfWalk_30 (by decide) rfl ?_
        refine y_aload_n CC 5 dX4_tellOfWalk_32 rfl rfl ?_
        refine y_getr CC gl_X4_14 (by omega) (d := 1) rfl dX4_tellOfWalk_33 ?_
        refine y_iload CC 4 dX4_tellOfWalk_36 rfl ?_
        refine y_iload CC 0 dX4_tellOfWalk_38 rfl ?_
        refine y_callVI (ci := 3) (st := []) CC cl_X4_135 (k_placeAfter l D ad kI kS kL μ 1 (by omega) τ hT hB (wkP τ z i p x) ac (by omega) (by omega)) (by omega) rfl rfl rfl (Nat.le_of_ble_eq_true rfl) ⟨by decide, by decide⟩ ⟨Nat.zero_le _, Nat.zero_le _⟩ dX4_tellOfWalk_40 (fun r_ μ_ w_5 => ?_)
        obtain ⟨rfl, rfl⟩ := w_5
        refine y_top (y := nI (wkP τ z i p (x + 1))) (by rw [wkP, hixa]) ?_
        refine y_istore CC [(6, .int (nI (wkP τ z i p (x + 1)))), (10, .int (nI ac)), (9, .int (nI x)), (8, .int (nI (wkS z i x))), (7, .int (nI (wkN τ z i p x))), (0, .ref (ad 0)), (1, .int (nI p)), (2, .ref (ad q)), (3, .int (nI i)), (4, .int (nI n)), (5, .int (nI w))] dX4_tellOfWalk_43 (by decide) rfl ?_
        refine y_aload_n CC 5 dX4_tellOfWalk_45 rfl rfl ?_
        refine y_getr CC gl_X4_14 (by omega) (d := 1) rfl dX4_tellOfWalk_46 ?_
        refine y_iload CC 2 dX4_tellOfWalk_49 rfl ?_
        refine y_iconst CC (nI 1) dX4_tellOfWalk_51 (by decide) ?_
        refine y_iadd CC dX4_tellOfWalk_52 (v := nI (x + 1)) (nI_add _ _) ?_
        refine y_bipush CC (nI 15) dX4_tellOfWalk_53 (by decide) ?_
        refine y_callVI (ci := 3) (st := []) CC cl_X4_114 (k_freePlaces l D ad kI kS kL μ 1 (by omega) τ hT hB hP3 (x + 1) 15 (by omega) (by omega)) (by omega) rfl rfl rfl (Nat.le_of_ble_eq_true rfl) ⟨by decide, by decide⟩ ⟨Nat.zero_le _, Nat.zero_le _⟩ dX4_tellOfWalk_55 (fun r_ μ_ w_7 => ?_)
        obtain ⟨rfl, rfl⟩ := w_7
        have h_fr_6 := set9 (P := tP τ) (by omega) (frS_lt τ 15 (x + 1))
        refine y_iload CC 0 dX4_tellOfWalk_58 rfl ?_
        refine y_callSI (st := []) CC cl_X4_117 (k_isIn l D ad kI kS kL μ (frS τ 15 (x + 1)) (wkP τ z i p (x + 1)) (by omega) (by omega)) rfl rfl (Nat.le_of_ble_eq_true rfl) ⟨by decide, by decide⟩ ⟨Nat.zero_le _, Nat.zero_le _⟩ dX4_tellOfWalk_60 (fun r_ μ_ w_9 => ?_)
        rcases w_9 with ⟨rfl, ⟨b_8, rfl⟩ | ⟨b_8, rfl⟩⟩
        · skip
          have hwb_ : wkB τ z i p x = false := by unfold wkB; rw [b_8]; rfl
          refine z_if_neT CC 83 dX4_tellOfWalk_63 (by decide) (a := (1 : Int)) (nI_toInt (by decide)) (by decide) ?_
          refine y_iload CC 4 dX4_tellOfWalk_83 rfl ?_
          refine y_iload CC 0 dX4_tellOfWalk_85 rfl ?_
          refine y_callSI (st := [.int (nI (wkN τ z i p x))]) CC cl_X4_132 (k_bit l D ad kI kS kL μ (wkP τ z i p (x + 1)) (by omega)) rfl rfl (Nat.le_of_ble_eq_true rfl) ⟨by decide, by decide⟩ ⟨Nat.zero_le _, Nat.zero_le _⟩ dX4_tellOfWalk_87 (fun r_ μ_ w_10 => ?_)
          obtain ⟨rfl, rfl⟩ := w_10
          refine y_ior CC dX4_tellOfWalk_90 (v := nI (wkN τ z i p (x + 1))) (i_or _ _) ?_
          refine y_istore CC [(7, .int (nI (wkN τ z i p (x + 1)))), (6, .int (nI (wkP τ z i p (x + 1)))), (10, .int (nI ac)), (9, .int (nI x)), (8, .int (nI (wkS z i x))), (0, .ref (ad 0)), (1, .int (nI p)), (2, .ref (ad q)), (3, .int (nI i)), (4, .int (nI n)), (5, .int (nI w))] dX4_tellOfWalk_91 (by decide) rfl ?_
          refine y_iload CC 4 dX4_tellOfWalk_93 rfl ?_
          refine y_iload CC 2 dX4_tellOfWalk_95 rfl ?_
          refine z_if_ne CC 104 dX4_tellOfWalk_97 (by decide) (a := ((ac : Nat) : Int)) (nI_toInt (by omega)) (fun c_11 => ?_) (fun c_11 => ?_)
          · skip
            refine y_iconst CC (nI 0) dX4_tellOfWalk_104 (by decide) ?_
            refine y_iadd CC dX4_tellOfWalk_105 (v := nI (wkS z i (x + 1))) ((nI_add _ _).trans (by rw [wkS, if_neg (by rw [hixa]; omega), Nat.add_zero])) ?_
            refine y_istore CC [(8, .int (nI (wkS z i (x + 1)))), (7, .int (nI (wkN τ z i p (x + 1)))), (6, .int (nI (wkP τ z i p (x + 1)))), (10, .int (nI ac)), (9, .int (nI x)), (0, .ref (ad 0)), (1, .int (nI p)), (2, .ref (ad q)), (3, .int (nI i)), (4, .int (nI n)), (5, .int (nI w))] dX4_tellOfWalk_106 (by decide) rfl ?_
            refine y_iinc CC 4 (nI (x + 1)) [(9, .int (nI (x + 1))), (8, .int (nI (wkS z i (x + 1)))), (7, .int (nI (wkN τ z i p (x + 1)))), (6, .int (nI (wkP τ z i p (x + 1)))), (10, .int (nI ac)), (0, .ref (ad 0)), (1, .int (nI p)), (2, .ref (ad q)), (3, .int (nI i)), (4, .int (nI n)), (5, .int (nI w))] dX4_tellOfWalk_108 rfl (i_inc _) (by decide) rfl ?_
            refine y_goto CC 15 dX4_tellOfWalk_111 (by decide) ?_
            refine y_lv [0, 1, 2, 3, 5, 6, 7, 8, 9, 10] rfl ?_
            exact ih15 (x + 1) (by omega) (by omega) (by rw [← fs_f hwb_ (by omega)]; exact hs)
          · skip
            refine y_iconst CC (nI 1) dX4_tellOfWalk_100 (by decide) ?_
            refine y_goto CC 105 dX4_tellOfWalk_101 (by decide) ?_
            refine y_iadd CC dX4_tellOfWalk_105 (v := nI (wkS z i (x + 1))) ((nI_add _ _).trans (by rw [wkS, if_pos (by rw [hixa]; omega)])) ?_
            refine y_istore CC [(8, .int (nI (wkS z i (x + 1)))), (7, .int (nI (wkN τ z i p (x + 1)))), (6, .int (nI (wkP τ z i p (x + 1)))), (10, .int (nI ac)), (9, .int (nI x)), (0, .ref (ad 0)), (1, .int (nI p)), (2, .ref (ad q)), (3, .int (nI i)), (4, .int (nI n)), (5, .int (nI w))] dX4_tellOfWalk_106 (by decide) rfl ?_
            refine y_iinc CC 4 (nI (x + 1)) [(9, .int (nI (x + 1))), (8, .int (nI (wkS z i (x + 1)))), (7, .int (nI (wkN τ z i p (x + 1)))), (6, .int (nI (wkP τ z i p (x + 1)))), (10, .int (nI ac)), (0, .ref (ad 0)), (1, .int (nI p)), (2, .ref (ad q)), (3, .int (nI i)), (4, .int (nI n)), (5, .int (nI w))] dX4_tellOfWalk_108 rfl (i_inc _) (by decide) rfl ?_
            refine y_goto CC 15 dX4_tellOfWalk_111 (by decide) ?_
            refine y_lv [0, 1, 2, 3, 5, 6, 7, 8, 9, 10] rfl ?_
            exact ih15 (x + 1) (by omega) (by omega) (by rw [← fs_f hwb_ (by omega)]; exact hs)
        · skip
          have hwb_ : wkB τ z i p x = true := by unfold wkB; rw [b_8]; rfl
          have hfs_ : fs (wkB τ z i p) 0 n = some x := by rw [← hs]; exact fs_t hwb_ (by omega)
          refine z_if_neF CC 83 dX4_tellOfWalk_63 (by decide) (a := (0 : Int)) (nI_toInt (by decide)) (by decide) ?_
          refine y_iload CC 10 dX4_tellOfWalk_66 rfl ?_
          refine y_iconst CC (nI 1) dX4_tellOfWalk_68 (by decide) ?_
          refine z_icmp_ne CC 77 dX4_tellOfWalk_69 (by decide) (a := ((w : Nat) : Int)) (b := (1 : Int)) (nI_toInt (by omega)) (nI_toInt (by decide)) (fun c_12 => ?_) (fun c_12 => ?_)
          · skip
            have hw1_ : ¬ w = 1 := by omega
            refine y_bipush CC ((-100)) dX4_tellOfWalk_77 (by decide) ?_
            refine y_iload CC 2 dX4_tellOfWalk_79 rfl ?_
            refine y_isub CC dX4_tellOfWalk_81 (v := -100 - nI x) (by rfl) ?_
            exact y_iret CC hQ dX4_tellOfWalk_82 (⟨rfl, by simp [q_wk, hfs_, b_8, hw1_]⟩)
          · skip
            have hw1_ : w = 1 := by omega
            refine y_iload CC 2 dX4_tellOfWalk_72 rfl ?_
            refine y_goto CC 82 dX4_tellOfWalk_74 (by decide) ?_
            exact y_iret CC hQ dX4_tellOfWalk_82 (⟨rfl, by simp [q_wk, hfs_, b_8, hw1_]⟩)
  exact L15 _ 0 (Nat.lt_succ_self _) (Nat.zero_le _) (by rw [Nat.sub_zero])

set_option maxRecDepth 100000 in
set_option maxHeartbeats 4000000 in
theorem x_walk (l : Launch) (D : va_G) (ad : Nat → Nat) (kI kS kL : ClassId) (μ : Mem) (τ : Tn) (hT : TX μ 1 τ) (hV : tV τ) (θ : Tn) (ζ : Nat → Nat → Int32) (hS : SX μ θ ζ) (p k la i n w : Int32) : MI l D ad kI kS kL yX4_walk cX4_walk 9 (some .int) 5 123 [.ref (ad 0), .int p, .int k, .int la, .int i, .int n, .int w] μ (fun r μ2 => μ2 = mu μ 0 5 (nI (f_walk τ θ ζ p k la i n w)) ∧ r = q_walk τ θ ζ p k la i n w) := by
  refine met_I RX4 rfl (by decide) (lv := [(0, .ref (ad 0)), (1, .int p), (2, .int k), (3, .int la), (4, .int i), (5, .int n), (6, .int w)]) rfl (Nat.le_of_ble_eq_true rfl) ?_
  intro pp ee ss mm aa bb me cd AA hA0 CC hnm QQ hQ
  have hB := hV.1
  have hP9 : tP τ ≤ 9 := hB.1
  have hS4 : tS τ ≤ 4 := hB.2.1
  have hVc := hV.2.1
  refine y_aload_n CC 0 dX4_walk_0 rfl rfl ?_
  refine y_iconst CC (nI 0) dX4_walk_1 (by decide) ?_
  refine y_puti CC pl_X4_38 (by omega) rfl (Nat.le_of_ble_eq_true rfl) dX4_walk_2 ?_
  have hT0 : TX (mu μ 0 5 (nI 0)) 1 τ := hT.f0 5 _
  have hS0 : SX (mu μ 0 5 (nI 0)) θ ζ := hS.f0 5 _
  refine y_aload_n CC 0 dX4_walk_5 rfl rfl ?_
  refine y_iload_n CC 2 dX4_walk_6 rfl rfl ?_
  refine y_callVN (ci := 4) (st := []) CC cl_X4_42 (k_sheetOrNull l D ad kI kS kL (mu μ 0 5 (nI 0)) k) (by omega) rfl rfl rfl (Nat.le_of_ble_eq_true rfl) ⟨by decide, by decide⟩ ⟨Nat.zero_le _, Nat.zero_le _⟩ dX4_walk_7 (fun r_ μ_ w_2 => ?_)
  rcases w_2 with ⟨rfl, ⟨b_1, rfl⟩ | ⟨b_1, rfl⟩⟩
  · skip
    obtain ⟨jk, hjk, rfl⟩ := inB_of b_1 (by omega)
    refine y_eq (st2 := [.ref (ad (14 + jk))]) (by rw [ix_nI (by omega)]; rfl) ?_
    have hs_jk := hS0 jk hjk
    have hs3_jk := hs_jk.2.2.1
    have hs4_jk := hs_jk.2.2.2.1
    refine y_astore CC [(7, .ref (ad (14 + jk))), (0, .ref (ad 0)), (1, .int p), (2, .int (nI jk)), (3, .int la), (4, .int i), (5, .int n), (6, .int w)] dX4_walk_10 (by decide) rfl ?_
    refine y_aload_n CC 1 dX4_walk_12 rfl rfl ?_
    refine y_getr CC gl_X4_14 (by omega) (d := 1) rfl dX4_walk_13 ?_
    refine y_iload_n CC 2 dX4_walk_16 rfl rfl ?_
    refine y_callVI (ci := 3) (st := []) CC cl_X4_88 (k_hasPlace l D ad kI kS kL (mu μ 0 5 (nI 0)) 1 (by omega) τ hT0 hB p) (by omega) rfl rfl rfl (Nat.le_of_ble_eq_true rfl) ⟨by decide, by decide⟩ ⟨Nat.zero_le _, Nat.zero_le _⟩ dX4_walk_17 (fun r_ μ_ w_4 => ?_)
    rcases w_4 with ⟨rfl, ⟨b_3, rfl⟩ | ⟨b_3, rfl⟩⟩
    · skip
      obtain ⟨jp, hjp, rfl⟩ := inB_of b_3 (by omega)
      refine z_if_eqF CC 28 dX4_walk_20 (by decide) (a := (1 : Int)) (nI_toInt (by decide)) (by decide) ?_
      refine y_aload CC 0 dX4_walk_23 rfl ?_
      refine y_ifnonnull CC 30 dX4_walk_25 (by decide) ?_
      refine y_iload_n CC 4 dX4_walk_30 rfl rfl ?_
      refine y_callSI (st := []) CC cl_X4_46 (k_isLane l D ad kI kS kL (mu μ 0 5 (nI 0)) la) rfl rfl (Nat.le_of_ble_eq_true rfl) ⟨by decide, by decide⟩ ⟨Nat.zero_le _, Nat.zero_le _⟩ dX4_walk_31 (fun r_ μ_ w_6 => ?_)
      rcases w_6 with ⟨rfl, ⟨b_5, rfl⟩ | ⟨b_5, rfl⟩⟩
      · skip
        obtain ⟨jl, hjl, rfl⟩ := inB_of b_5 (by omega)
        refine z_if_eqF CC 60 dX4_walk_34 (by decide) (a := (1 : Int)) (nI_toInt (by decide)) (by decide) ?_
        refine y_iload CC 6 dX4_walk_37 rfl ?_
        refine z_if_lt CC 60 dX4_walk_39 (by decide) (a := (n).toInt) rfl (fun c_7 => ?_) (fun c_7 => ?_)
        · skip
          have ho_ : inB n 41 = false := inB_f (by omega)
          refine y_bipush CC ((-2)) dX4_walk_60 (by decide) ?_
          exact y_iret CC hQ dX4_walk_62 (⟨by simp [f_walk, mu_mu, b_1, ix_nI (show jk < 2 ^ 31 by omega), b_3, ix_nI (show jp < 2 ^ 31 by omega), b_5, ix_nI (show jl < 2 ^ 31 by omega), ho_], by simp [q_walk, f_walk, b_1, ix_nI (show jk < 2 ^ 31 by omega), b_3, ix_nI (show jp < 2 ^ 31 by omega), b_5, ix_nI (show jl < 2 ^ 31 by omega), ho_]⟩)
        · skip
          refine y_iload CC 6 dX4_walk_42 rfl ?_
          refine y_bipush CC (nI 40) dX4_walk_44 (by decide) ?_
          refine z_icmp_gt CC 60 dX4_walk_46 (by decide) (a := (n).toInt) (b := (40 : Int)) rfl (nI_toInt (by decide)) (fun c_8 => ?_) (fun c_8 => ?_)
          · skip
            have ho_ : inB n 41 = false := inB_f (by omega)
            refine y_bipush CC ((-2)) dX4_walk_60 (by decide) ?_
            exact y_iret CC hQ dX4_walk_62 (⟨by simp [f_walk, mu_mu, b_1, ix_nI (show jk < 2 ^ 31 by omega), b_3, ix_nI (show jp < 2 ^ 31 by omega), b_5, ix_nI (show jl < 2 ^ 31 by omega), ho_], by simp [q_walk, f_walk, b_1, ix_nI (show jk < 2 ^ 31 by omega), b_3, ix_nI (show jp < 2 ^ 31 by omega), b_5, ix_nI (show jl < 2 ^ 31 by omega), ho_]⟩)
          · skip
            refine y_iload CC 7 dX4_walk_49 rfl ?_
            refine z_if_lt CC 60 dX4_walk_51 (by decide) (a := (w).toInt) rfl (fun c_9 => ?_) (fun c_9 => ?_)
            · skip
              have ho_ : inB w 4 = false := inB_f (by omega)
              have ho2_ : inB n 41 = true := inB_t (by omega)
              refine y_bipush CC ((-2)) dX4_walk_60 (by decide) ?_
              exact y_iret CC hQ dX4_walk_62 (⟨by simp [f_walk, mu_mu, b_1, ix_nI (show jk < 2 ^ 31 by omega), b_3, ix_nI (show jp < 2 ^ 31 by omega), b_5, ix_nI (show jl < 2 ^ 31 by omega), ho_, ho2_], by simp [q_walk, f_walk, b_1, ix_nI (show jk < 2 ^ 31 by omega), b_3, ix_nI (show jp < 2 ^ 31 by omega), b_5, ix_nI (show jl < 2 ^ 31 by omega), ho_, ho2_]⟩)
            · skip
              refine y_iload CC 7 dX4_walk_54 rfl ?_
              refine y_iconst CC (nI 3) dX4_walk_56 (by decide) ?_
              refine z_icmp_le CC 63 dX4_walk_57 (by decide) (a := (w).toInt) (b := (3 : Int)) rfl (nI_toInt (by decide)) (fun c_10 => ?_) (fun c_10 => ?_)
              · skip
                have ho_ : inB w 4 = true := inB_t (by omega)
                have ho2_ : inB n 41 = true := inB_t (by omega)
                obtain ⟨jn, hjn, rfl⟩ := inB_of ho2_ (by omega)
                obtain ⟨jw, hjw, rfl⟩ := inB_of ho_ (by omega)
                refine y_aload_n CC 1 dX4_walk_63 rfl rfl ?_
                refine y_getr CC gl_X4_14 (by omega) (d := 1) rfl dX4_walk_64 ?_
                refine y_iconst CC (nI 0) dX4_walk_67 (by decide) ?_
                refine y_bipush CC (nI 15) dX4_walk_68 (by decide) ?_
                refine y_callVI (ci := 3) (st := []) CC cl_X4_114 (k_freePlaces l D ad kI kS kL (mu μ 0 5 (nI 0)) 1 (by omega) τ hT0 hB (by omega) 0 15 (by omega) (by omega)) (by omega) rfl rfl rfl (Nat.le_of_ble_eq_true rfl) ⟨by decide, by decide⟩ ⟨Nat.zero_le _, Nat.zero_le _⟩ dX4_walk_70 (fun r_ μ_ w_12 => ?_)
                obtain ⟨rfl, rfl⟩ := w_12
                have h_fr_11 := set9 (P := tP τ) (by omega) (frS_lt τ 15 0)
                refine y_iload_n CC 2 dX4_walk_73 rfl rfl ?_
                refine y_callSI (st := []) CC cl_X4_117 (k_isIn l D ad kI kS kL (mu μ 0 5 (nI 0)) (frS τ 15 0) jp (by omega) (by omega)) rfl rfl (Nat.le_of_ble_eq_true rfl) ⟨by decide, by decide⟩ ⟨Nat.zero_le _, Nat.zero_le _⟩ dX4_walk_74 (fun r_ μ_ w_14 => ?_)
                rcases w_14 with ⟨rfl, ⟨b_13, rfl⟩ | ⟨b_13, rfl⟩⟩
                · skip
                  refine z_if_neT CC 83 dX4_walk_77 (by decide) (a := (1 : Int)) (nI_toInt (by decide)) (by decide) ?_
                  refine y_aload CC 0 dX4_walk_83 rfl ?_
                  refine y_iload_n CC 4 dX4_walk_85 rfl rfl ?_
                  refine y_callVI (ci := 1) (st := []) CC cl_X4_50 (k_faultAsRow l D ad kI kS kL (mu μ 0 5 (nI 0)) (14 + jk) (by omega) (θ jk 0) (θ jk 1) (ζ jk) hs_jk jl (by omega)) (by omega) rfl rfl rfl (Nat.le_of_ble_eq_true rfl) ⟨by decide, by decide⟩ ⟨Nat.zero_le _, Nat.zero_le _⟩ dX4_walk_86 (fun r_ μ_ w_15 => ?_)
                  obtain ⟨rfl, rfl⟩ := w_15
                  have hfar_ : farF (θ jk 0) jl ≤ 2 := by unfold farF; split; omega; split <;> omega
                  refine y_istore CC [(8, .int (nI (farF (θ jk 0) jl))), (7, .ref (ad (14 + jk))), (0, .ref (ad 0)), (1, .int (nI jp)), (2, .int (nI jk)), (3, .int (nI jl)), (4, .int i), (5, .int (nI jn)), (6, .int (nI jw))] dX4_walk_89 (by decide) rfl ?_
                  refine y_iload CC 0 dX4_walk_91 rfl ?_
                  refine z_if_ne CC 107 dX4_walk_93 (by decide) (a := ((farF (θ jk 0) jl : Nat) : Int)) (nI_toInt (by omega)) (fun c_16 => ?_) (fun c_16 => ?_)
                  · skip
                    have hf0_ : ¬ farF (θ jk 0) jl = 0 := by omega
                    refine y_iload CC 0 dX4_walk_107 rfl ?_
                    refine z_if_eqF CC 119 dX4_walk_109 (by decide) (a := ((farF (θ jk 0) jl : Nat) : Int)) (nI_toInt (by omega)) (by omega) ?_
                    refine y_aload_n CC 2 dX4_walk_112 rfl rfl ?_
                    refine y_iload CC 0 dX4_walk_113 rfl ?_
                    refine y_callVI (ci := 4) (st := []) CC cl_X4_58 (k_cameTo l D ad kI kS kL (mu μ 0 5 (nI 0)) (farF (θ jk 0) jl) (by omega)) (by omega) rfl rfl rfl (Nat.le_of_ble_eq_true rfl) ⟨by decide, by decide⟩ ⟨Nat.zero_le _, Nat.zero_le _⟩ dX4_walk_115 (fun r_ μ_ w_17 => ?_)
                    obtain ⟨rfl, rfl⟩ := w_17
                    exact y_iret CC hQ dX4_walk_118 (⟨by simp [f_walk, mu_mu, b_1, ix_nI (show jk < 2 ^ 31 by omega), b_3, ix_nI (show jp < 2 ^ 31 by omega), b_5, ix_nI (show jl < 2 ^ 31 by omega), ho_, ho2_, ix_nI (show jn < 2 ^ 31 by omega), ix_nI (show jw < 2 ^ 31 by omega), b_13, hf0_], by simp [q_walk, f_walk, b_1, ix_nI (show jk < 2 ^ 31 by omega), b_3, ix_nI (show jp < 2 ^ 31 by omega), b_5, ix_nI (show jl < 2 ^ 31 by omega), ho_, ho2_, ix_nI (show jn < 2 ^ 31 by omega), ix_nI (show jw < 2 ^ 31 by omega), b_13, hf0_]⟩)
                  · skip
                    have hf0_ : farF (θ jk 0) jl = 0 := by omega
                    refine y_aload CC 1 dX4_walk_96 rfl ?_
                    refine y_iload CC 6 dX4_walk_98 rfl ?_
                    refine y_iload CC 7 dX4_walk_100 rfl ?_
                    refine y_callVI (ci := 1) (st := []) CC cl_X4_54 (k_faultOfCells l D ad kI kS kL (mu μ 0 5 (nI 0)) (14 + jk) (by omega) (θ jk 0) (θ jk 1) (ζ jk) hs_jk i (nI jn)) (by omega) rfl rfl rfl (Nat.le_of_ble_eq_true rfl) ⟨by decide, by decide⟩ ⟨Nat.zero_le _, Nat.zero_le _⟩ dX4_walk_102 (fun r_ μ_ w_19 => ?_)
                    rcases w_19 with ⟨rfl, ⟨g_18, rfl⟩ | ⟨g_18, rfl⟩⟩
                    · skip
                      refine y_istore CC [(8, .int (nI 0)), (7, .ref (ad (14 + jk))), (0, .ref (ad 0)), (1, .int (nI jp)), (2, .int (nI jk)), (3, .int (nI jl)), (4, .int i), (5, .int (nI jn)), (6, .int (nI jw))] dX4_walk_105 (by decide) rfl ?_
                      refine y_iload CC 0 dX4_walk_107 rfl ?_
                      refine z_if_eqT CC 119 dX4_walk_109 (by decide) (a := (0 : Int)) (nI_toInt (by decide)) (by decide) ?_
                      have hg_ := of_decide_eq_true g_18
                      rw [nI_toInt (by omega)] at hg_
                      obtain ⟨ji, hji, rfl⟩ := inB_of (x := i) (n := 61) (inB_t (by omega)) (by omega)
                      rw [nI_toInt (by omega)] at hg_
                      refine y_aload CC 1 dX4_walk_119 rfl ?_
                      refine y_iload CC 6 dX4_walk_121 rfl ?_
                      refine y_iload CC 7 dX4_walk_123 rfl ?_
                      refine y_callSI (st := []) CC cl_X4_121 (k_areActs l D ad kI kS kL (mu μ 0 5 (nI 0)) (14 + jk) (by omega) (θ jk 0) (θ jk 1) (ζ jk) hs_jk ji jn (by omega)) rfl rfl (Nat.le_of_ble_eq_true rfl) ⟨by decide, by decide⟩ ⟨Nat.zero_le _, Nat.zero_le _⟩ dX4_walk_125 (fun r_ μ_ w_21 => ?_)
                      rcases w_21 with ⟨rfl, ⟨b_20, rfl⟩ | ⟨b_20, rfl⟩⟩
                      · skip
                        refine z_if_eqF CC 147 dX4_walk_128 (by decide) (a := (1 : Int)) (nI_toInt (by decide)) (by decide) ?_
                        refine y_aload_n CC 2 dX4_walk_131 rfl rfl ?_
                        refine y_iload_n CC 3 dX4_walk_132 rfl rfl ?_
                        refine y_aload CC 1 dX4_walk_133 rfl ?_
                        refine y_iload CC 6 dX4_walk_135 rfl ?_
                        refine y_iload CC 7 dX4_walk_137 rfl ?_
                        refine y_iload CC 8 dX4_walk_139 rfl ?_
                        refine y_callVI (ci := 4) (st := []) CC cl_X4_125 (k_tellOfWalk l D ad kI kS kL (mu μ 0 5 (nI 0)) τ hT0 hV (by omega) jp (14 + jk) (by omega) (by omega) (θ jk 0) (θ jk 1) (ζ jk) hs_jk ji jn jw (by omega) (by omega) (by omega) b_20) (by omega) rfl rfl rfl (Nat.le_of_ble_eq_true rfl) ⟨by decide, by decide⟩ ⟨Nat.zero_le _, Nat.zero_le _⟩ dX4_walk_141 (fun r_ μ_ w_22 => ?_)
                        obtain ⟨rfl, rfl⟩ := w_22
                        refine y_goto CC 149 dX4_walk_144 (by decide) ?_
                        exact y_iret CC hQ dX4_walk_149 (⟨by simp [f_walk, mu_mu, b_1, ix_nI (show jk < 2 ^ 31 by omega), b_3, ix_nI (show jp < 2 ^ 31 by omega), b_5, ix_nI (show jl < 2 ^ 31 by omega), ho_, ho2_, ix_nI (show jn < 2 ^ 31 by omega), ix_nI (show jw < 2 ^ 31 by omega), b_13, hf0_, g_18, ix_nI (show ji < 2 ^ 31 by omega), b_20], by simp [q_walk, f_walk, b_1, ix_nI (show jk < 2 ^ 31 by omega), b_3, ix_nI (show jp < 2 ^ 31 by omega), b_5, ix_nI (show jl < 2 ^ 31 by omega), ho_, ho2_, ix_nI (show jn < 2 ^ 31 by omega), ix_nI (show jw < 2 ^ 31 by omega), b_13, hf0_, g_18, ix_nI (show ji < 2 ^ 31 by omega), b_20]⟩)
                      · skip
                        refine z_if_eqT CC 147 dX4_walk_128 (by decide) (a := (0 : Int)) (nI_toInt (by decide)) (by decide) ?_
                        refine y_bipush CC ((-2)) dX4_walk_147 (by decide) ?_
                        exact y_iret CC hQ dX4_walk_149 (⟨by simp [f_walk, mu_mu, b_1, ix_nI (show jk < 2 ^ 31 by omega), b_3, ix_nI (show jp < 2 ^ 31 by omega), b_5, ix_nI (show jl < 2 ^ 31 by omega), ho_, ho2_, ix_nI (show jn < 2 ^ 31 by omega), ix_nI (show jw < 2 ^ 31 by omega), b_13, hf0_, g_18, ix_nI (show ji < 2 ^ 31 by omega), b_20], by simp [q_walk, f_walk, b_1, ix_nI (show jk < 2 ^ 31 by omega), b_3, ix_nI (show jp < 2 ^ 31 by omega), b_5, ix_nI (show jl < 2 ^ 31 by omega), ho_, ho2_, ix_nI (show jn < 2 ^ 31 by omega), ix_nI (show jw < 2 ^ 31 by omega), b_13, hf0_, g_18, ix_nI (show ji < 2 ^ 31 by omega), b_20]⟩)
                    · skip
                      refine y_istore CC [(8, .int (nI 3)), (7, .ref (ad (14 + jk))), (0, .ref (ad 0)), (1, .int (nI jp)), (2, .int (nI jk)), (3, .int (nI jl)), (4, .int i), (5, .int (nI jn)), (6, .int (nI jw))] dX4_walk_105 (by decide) rfl ?_
                      refine y_iload CC 0 dX4_walk_107 rfl ?_
                      refine z_if_eqF CC 119 dX4_walk_109 (by decide) (a := (3 : Int)) (nI_toInt (by decide)) (by decide) ?_
                      refine y_aload_n CC 2 dX4_walk_112 rfl rfl ?_
                      refine y_iload CC 0 dX4_walk_113 rfl ?_
                      refine y_callVI (ci := 4) (st := []) CC cl_X4_58 (k_cameTo l D ad kI kS kL (mu μ 0 5 (nI 0)) 3 (by omega)) (by omega) rfl rfl rfl (Nat.le_of_ble_eq_true rfl) ⟨by decide, by decide⟩ ⟨Nat.zero_le _, Nat.zero_le _⟩ dX4_walk_115 (fun r_ μ_ w_23 => ?_)
                      obtain ⟨rfl, rfl⟩ := w_23
                      exact y_iret CC hQ dX4_walk_118 (⟨by simp [f_walk, mu_mu, b_1, ix_nI (show jk < 2 ^ 31 by omega), b_3, ix_nI (show jp < 2 ^ 31 by omega), b_5, ix_nI (show jl < 2 ^ 31 by omega), ho_, ho2_, ix_nI (show jn < 2 ^ 31 by omega), ix_nI (show jw < 2 ^ 31 by omega), b_13, hf0_, g_18], by simp [q_walk, f_walk, b_1, ix_nI (show jk < 2 ^ 31 by omega), b_3, ix_nI (show jp < 2 ^ 31 by omega), b_5, ix_nI (show jl < 2 ^ 31 by omega), ho_, ho2_, ix_nI (show jn < 2 ^ 31 by omega), ix_nI (show jw < 2 ^ 31 by omega), b_13, hf0_, g_18]⟩)
                · skip
                  refine z_if_neF CC 83 dX4_walk_77 (by decide) (a := (0 : Int)) (nI_toInt (by decide)) (by decide) ?_
                  refine y_bipush CC ((-3)) dX4_walk_80 (by decide) ?_
                  exact y_iret CC hQ dX4_walk_82 (⟨by simp [f_walk, mu_mu, b_1, ix_nI (show jk < 2 ^ 31 by omega), b_3, ix_nI (show jp < 2 ^ 31 by omega), b_5, ix_nI (show jl < 2 ^ 31 by omega), ho_, ho2_, ix_nI (show jn < 2 ^ 31 by omega), ix_nI (show jw < 2 ^ 31 by omega), b_13], by simp [q_walk, f_walk, b_1, ix_nI (show jk < 2 ^ 31 by omega), b_3, ix_nI (show jp < 2 ^ 31 by omega), b_5, ix_nI (show jl < 2 ^ 31 by omega), ho_, ho2_, ix_nI (show jn < 2 ^ 31 by omega), ix_nI (show jw < 2 ^ 31 by omega), b_13]⟩)
              · skip
                have ho_ : inB w 4 = false := inB_f (by omega)
                have ho2_ : inB n 41 = true := inB_t (by omega)
                refine y_bipush CC ((-2)) dX4_walk_60 (by decide) ?_
                exact y_iret CC hQ dX4_walk_62 (⟨by simp [f_walk, mu_mu, b_1, ix_nI (show jk < 2 ^ 31 by omega), b_3, ix_nI (show jp < 2 ^ 31 by omega), b_5, ix_nI (show jl < 2 ^ 31 by omega), ho_, ho2_], by simp [q_walk, f_walk, b_1, ix_nI (show jk < 2 ^ 31 by omega), b_3, ix_nI (show jp < 2 ^ 31 by omega), b_5, ix_nI (show jl < 2 ^ 31 by omega), ho_, ho2_]⟩)
      · skip
        refine z_if_eqT CC 60 dX4_walk_34 (by decide) (a := (0 : Int)) (nI_toInt (by decide)) (by decide) ?_
        refine y_bipush CC ((-2)) dX4_walk_60 (by decide) ?_
        exact y_iret CC hQ dX4_walk_62 (⟨by simp [f_walk, mu_mu, b_1, ix_nI (show jk < 2 ^ 31 by omega), b_3, ix_nI (show jp < 2 ^ 31 by omega), b_5], by simp [q_walk, f_walk, b_1, ix_nI (show jk < 2 ^ 31 by omega), b_3, ix_nI (show jp < 2 ^ 31 by omega), b_5]⟩)
    · skip
      refine z_if_eqT CC 28 dX4_walk_20 (by decide) (a := (0 : Int)) (nI_toInt (by decide)) (by decide) ?_
      refine y_iconst CC ((-1)) dX4_walk_28 (by decide) ?_
      exact y_iret CC hQ dX4_walk_29 (⟨by simp [f_walk, mu_mu, b_1, ix_nI (show jk < 2 ^ 31 by omega), b_3], by simp [q_walk, f_walk, b_1, ix_nI (show jk < 2 ^ 31 by omega), b_3]⟩)
  · skip
    refine y_eq (st2 := [.null]) rfl ?_
    refine y_astoreN CC [(7, .null), (0, .ref (ad 0)), (1, .int p), (2, .int k), (3, .int la), (4, .int i), (5, .int n), (6, .int w)] dX4_walk_10 (by decide) rfl ?_
    refine y_aload_n CC 1 dX4_walk_12 rfl rfl ?_
    refine y_getr CC gl_X4_14 (by omega) (d := 1) rfl dX4_walk_13 ?_
    refine y_iload_n CC 2 dX4_walk_16 rfl rfl ?_
    refine y_callVI (ci := 3) (st := []) CC cl_X4_88 (k_hasPlace l D ad kI kS kL (mu μ 0 5 (nI 0)) 1 (by omega) τ hT0 hB p) (by omega) rfl rfl rfl (Nat.le_of_ble_eq_true rfl) ⟨by decide, by decide⟩ ⟨Nat.zero_le _, Nat.zero_le _⟩ dX4_walk_17 (fun r_ μ_ w_25 => ?_)
    rcases w_25 with ⟨rfl, ⟨b_24, rfl⟩ | ⟨b_24, rfl⟩⟩
    · skip
      obtain ⟨jp, hjp, rfl⟩ := inB_of b_24 (by omega)
      refine z_if_eqF CC 28 dX4_walk_20 (by decide) (a := (1 : Int)) (nI_toInt (by decide)) (by decide) ?_
      refine y_aloadN CC 0 dX4_walk_23 rfl ?_
      refine y_ifnonnullN CC 30 dX4_walk_25 (by decide) ?_
      refine y_iconst CC ((-1)) dX4_walk_28 (by decide) ?_
      exact y_iret CC hQ dX4_walk_29 (⟨by simp [f_walk, mu_mu, b_1, b_24, ix_nI (show jp < 2 ^ 31 by omega)], by simp [q_walk, f_walk, b_1, b_24, ix_nI (show jp < 2 ^ 31 by omega)]⟩)
    · skip
      refine z_if_eqT CC 28 dX4_walk_20 (by decide) (a := (0 : Int)) (nI_toInt (by decide)) (by decide) ?_
      refine y_iconst CC ((-1)) dX4_walk_28 (by decide) ?_
      exact y_iret CC hQ dX4_walk_29 (⟨by simp [f_walk, mu_mu, b_1, b_24], by simp [q_walk, f_walk, b_1, b_24]⟩)
