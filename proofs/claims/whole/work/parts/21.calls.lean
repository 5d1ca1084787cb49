set_option maxRecDepth 100000 in
set_option maxHeartbeats 4000000 in
theorem x_ofSleeper (l : Launch) (D : va_G) (ad : Nat → Nat) (kI kS kL : ClassId) (μ : Mem) (τ : Tn) (hT : TX μ 1 τ) (hV : tV τ) (a w : Int32) : MI l D ad kI kS kL yX4_ofSleeper cX4_ofSleeper 4 (some .int) 2 42 [.ref (ad 0), .int a, .int w] μ (fun r μ2 => μ = μ2 ∧ r = q_ofSleeper τ a w) := by
  refine met_I RX4 rfl (by decide) (lv := [(0, .ref (ad 0)), (1, .int a), (2, .int w)]) rfl (Nat.le_of_ble_eq_true rfl) ?_
  intro pp ee ss mm aa bb me cd AA hA0 CC hnm QQ hQ
  have hB := hV.1
  have hP9 : tP τ ≤ 9 := hB.1
  have hS4 : tS τ ≤ 4 := hB.2.1
  have hVc := hV.2.1
  refine y_aload_n CC 0 dX4_ofSleeper_0 rfl rfl ?_
  refine y_getr CC gl_X4_14 (by omega) (d := 1) rfl dX4_ofSleeper_1 ?_
  refine y_iload_n CC 1 dX4_ofSleeper_4 rfl rfl ?_
  refine y_callVN (ci := 3) (st := []) CC cl_X4_73 (k_sleeperOrNull l D ad kI kS kL μ 1 (by omega) τ hT hB a) (by omega) rfl rfl rfl (Nat.le_of_ble_eq_true rfl) ⟨by decide, by decide⟩ ⟨Nat.zero_le _, Nat.zero_le _⟩ dX4_ofSleeper_5 (fun r_ μ_ w_3 => ?_)
  rcases w_3 with ⟨rfl, ⟨b_1, rfl⟩ | ⟨b_1, rfl⟩⟩
  · skip
    obtain ⟨j_2, hj_2, rfl⟩ := inB_of b_1 (by omega)
    refine y_eq (st2 := [.ref (ad (4 * 1 + 18 + j_2))]) (by rw [ix_nI (by omega)]; rfl) ?_
    refine y_astore_n CC [(3, .ref (ad (4 * 1 + 18 + j_2))), (0, .ref (ad 0)), (1, .int (nI j_2)), (2, .int w)] dX4_ofSleeper_8 rfl (by decide) rfl ?_
    refine y_aload_n CC 0 dX4_ofSleeper_9 rfl rfl ?_
    refine y_ifnonnull CC 15 dX4_ofSleeper_10 (by decide) ?_
    refine y_iload_n CC 3 dX4_ofSleeper_15 rfl rfl ?_
    rcases (show (w).toInt = 0 ∨ (w).toInt = 1 ∨ (w).toInt = 2 ∨ ((w).toInt < 0 ∨ 2 < (w).toInt) by omega) with sw_4 | sw_4 | sw_4 | sw_4
    · skip
      refine y_tableIn CC (off := 28) 44 dX4_ofSleeper_16 (by omega) (by omega) (by rw [sw_4]; rfl) (by decide) ?_
      refine y_aload_n CC 0 dX4_ofSleeper_44 rfl rfl ?_
      refine y_geti CC gl_X4_77 (by omega) rfl (v := nI (tK τ j_2)) (hT.2.2.1 j_2 (by omega)).1 dX4_ofSleeper_45 ?_
      exact y_iret CC hQ dX4_ofSleeper_48 (⟨rfl, by simp [q_ofSleeper, b_1, ix_nI (show j_2 < 2 ^ 31 by omega), sw_4]⟩)
    · skip
      refine y_tableIn CC (off := 33) 49 dX4_ofSleeper_16 (by omega) (by omega) (by rw [sw_4]; rfl) (by decide) ?_
      refine y_aload_n CC 0 dX4_ofSleeper_49 rfl rfl ?_
      refine y_geti CC gl_X4_82 (by omega) rfl (v := nI (tA τ j_2)) (hT.2.2.1 j_2 (by omega)).2.1 dX4_ofSleeper_50 ?_
      exact y_iret CC hQ dX4_ofSleeper_53 (⟨rfl, by simp [q_ofSleeper, b_1, ix_nI (show j_2 < 2 ^ 31 by omega), sw_4]⟩)
    · skip
      refine y_tableIn CC (off := 38) 54 dX4_ofSleeper_16 (by omega) (by omega) (by rw [sw_4]; rfl) (by decide) ?_
      refine y_aload_n CC 0 dX4_ofSleeper_54 rfl rfl ?_
      refine y_geti CC gl_X4_85 (by omega) rfl (v := nI (tD τ j_2)) (hT.2.2.1 j_2 (by omega)).2.2 dX4_ofSleeper_55 ?_
      exact y_iret CC hQ dX4_ofSleeper_58 (⟨rfl, by simp [q_ofSleeper, b_1, ix_nI (show j_2 < 2 ^ 31 by omega), sw_4]⟩)
    · skip
      refine y_tableOut CC 59 dX4_ofSleeper_16 sw_4 (by decide) ?_
      refine y_bipush CC ((-2)) dX4_ofSleeper_59 (by decide) ?_
      exact y_iret CC hQ dX4_ofSleeper_61 (⟨rfl, by unfold q_ofSleeper; rw [if_pos b_1, if_neg (by omega), if_neg (by omega), if_neg (by omega)]⟩)
  · skip
    refine y_eq (st2 := [.null]) rfl ?_
    refine y_astore_nN CC [(3, .null), (0, .ref (ad 0)), (1, .int a), (2, .int w)] dX4_ofSleeper_8 rfl (by decide) rfl ?_
    refine y_aload_nN CC 0 dX4_ofSleeper_9 rfl rfl ?_
    refine y_ifnonnullN CC 15 dX4_ofSleeper_10 (by decide) ?_
    refine y_iconst CC ((-1)) dX4_ofSleeper_13 (by decide) ?_
    exact y_iret CC hQ dX4_ofSleeper_14 (⟨rfl, by simp [q_ofSleeper, b_1]⟩)

set_option maxRecDepth 100000 in
set_option maxHeartbeats 4000000 in
theorem x_goods (l : Launch) (D : va_G) (ad : Nat → Nat) (kI kS kL : ClassId) (μ : Mem) (τ : Tn) (hT : TX μ 1 τ) (hV : tV τ) (p : Int32) : MI l D ad kI kS kL yX4_goods cX4_goods 2 (some .int) 2 42 [.ref (ad 0), .int p] μ (fun r μ2 => μ = μ2 ∧ r = q_goods τ p) := by
  refine met_I RX4 rfl (by decide) (lv := [(0, .ref (ad 0)), (1, .int p)]) rfl (Nat.le_of_ble_eq_true rfl) ?_
  intro pp ee ss mm aa bb me cd AA hA0 CC hnm QQ hQ
  have hB := hV.1
  have hP9 : tP τ ≤ 9 := hB.1
  have hS4 : tS τ ≤ 4 := hB.2.1
  have hVc := hV.2.1
  refine y_aload_n CC 0 dX4_goods_0 rfl rfl ?_
  refine y_getr CC gl_X4_14 (by omega) (d := 1) rfl dX4_goods_1 ?_
  refine y_iload_n CC 1 dX4_goods_4 rfl rfl ?_
  refine y_callVI (ci := 3) (st := []) CC cl_X4_88 (k_hasPlace l D ad kI kS kL μ 1 (by omega) τ hT hB p) (by omega) rfl rfl rfl (Nat.le_of_ble_eq_true rfl) ⟨by decide, by decide⟩ ⟨Nat.zero_le _, Nat.zero_le _⟩ dX4_goods_5 (fun r_ μ_ w_3 => ?_)
  rcases w_3 with ⟨rfl, ⟨b_1, rfl⟩ | ⟨b_1, rfl⟩⟩
  · skip
    obtain ⟨j_2, hj_2, rfl⟩ := inB_of b_1 (by omega)
    refine z_if_eqF CC 22 dX4_goods_8 (by decide) (a := (1 : Int)) (nI_toInt (by decide)) (by decide) ?_
    refine y_aload_n CC 0 dX4_goods_11 rfl rfl ?_
    refine y_getr CC gl_X4_14 (by omega) (d := 1) rfl dX4_goods_12 ?_
    refine y_iload_n CC 1 dX4_goods_15 rfl rfl ?_
    refine y_callVI (ci := 3) (st := []) CC cl_X4_91 (k_goodsAt l D ad kI kS kL μ 1 (by omega) τ hT hB (nI j_2)) (by omega) rfl rfl rfl (Nat.le_of_ble_eq_true rfl) ⟨by decide, by decide⟩ ⟨Nat.zero_le _, Nat.zero_le _⟩ dX4_goods_16 (fun r_ μ_ w_4 => ?_)
    obtain ⟨rfl, rfl⟩ := w_4
    refine y_top (y := nI (tG τ j_2)) (by rw [if_pos (inB_nI (by omega) (by omega)), ix_nI (by omega)]) ?_
    refine y_goto CC 23 dX4_goods_19 (by decide) ?_
    exact y_iret CC hQ dX4_goods_23 (⟨rfl, by simp [q_goods, b_1, ix_nI (show j_2 < 2 ^ 31 by omega)]⟩)
  · skip
    refine z_if_eqT CC 22 dX4_goods_8 (by decide) (a := (0 : Int)) (nI_toInt (by decide)) (by decide) ?_
    refine y_iconst CC ((-1)) dX4_goods_22 (by decide) ?_
    exact y_iret CC hQ dX4_goods_23 (⟨rfl, by simp [q_goods, b_1]⟩)

set_option maxRecDepth 100000 in
set_option maxHeartbeats 4000000 in
theorem x_lay (l : Launch) (D : va_G) (ad : Nat → Nat) (kI kS kL : ClassId) (μ : Mem) (τ : Tn) (hT : TX μ 1 τ) (hV : tV τ) (p v : Int32) : MI l D ad kI kS kL yX4_lay cX4_lay 4 (some .int) 2 43 [.ref (ad 0), .int p, .int v] μ (fun r μ2 => (μ2 = if ok_lay τ p v = true then mu μ 7 (ix p) v else μ) ∧ r = q_lay τ p v) := by
  refine met_I RX4 rfl (by decide) (lv := [(0, .ref (ad 0)), (1, .int p), (2, .int v)]) rfl (Nat.le_of_ble_eq_true rfl) ?_
  intro pp ee ss mm aa bb me cd AA hA0 CC hnm QQ hQ
  have hB := hV.1
  have hP9 : tP τ ≤ 9 := hB.1
  have hS4 : tS τ ≤ 4 := hB.2.1
  have hVc := hV.2.1
  refine y_aload_n CC 0 dX4_lay_0 rfl rfl ?_
  refine y_getr CC gl_X4_14 (by omega) (d := 1) rfl dX4_lay_1 ?_
  refine y_iload_n CC 1 dX4_lay_4 rfl rfl ?_
  refine y_callVI (ci := 3) (st := []) CC cl_X4_88 (k_hasPlace l D ad kI kS kL μ 1 (by omega) τ hT hB p) (by omega) rfl rfl rfl (Nat.le_of_ble_eq_true rfl) ⟨by decide, by decide⟩ ⟨Nat.zero_le _, Nat.zero_le _⟩ dX4_lay_5 (fun r_ μ_ w_3 => ?_)
  rcases w_3 with ⟨rfl, ⟨b_1, rfl⟩ | ⟨b_1, rfl⟩⟩
  · skip
    obtain ⟨j_2, hj_2, rfl⟩ := inB_of b_1 (by omega)
    refine z_if_neT CC 13 dX4_lay_8 (by decide) (a := (1 : Int)) (nI_toInt (by decide)) (by decide) ?_
    refine y_iload_n CC 2 dX4_lay_13 rfl rfl ?_
    refine z_if_lt CC 23 dX4_lay_14 (by decide) (a := (v).toInt) rfl (fun c_4 => ?_) (fun c_4 => ?_)
    · skip
      have hv_ : inB v 10 = false := inB_f (by omega)
      refine y_bipush CC ((-2)) dX4_lay_23 (by decide) ?_
      exact y_iret CC hQ dX4_lay_25 (⟨by simp [ok_lay, b_1, ix_nI (show j_2 < 2 ^ 31 by omega), hv_], by simp [q_lay, b_1, ix_nI (show j_2 < 2 ^ 31 by omega), hv_]⟩)
    · skip
      refine y_iload_n CC 2 dX4_lay_17 rfl rfl ?_
      refine y_bipush CC (nI 9) dX4_lay_18 (by decide) ?_
      refine z_icmp_le CC 26 dX4_lay_20 (by decide) (a := (v).toInt) (b := (9 : Int)) rfl (nI_toInt (by decide)) (fun c_5 => ?_) (fun c_5 => ?_)
      · skip
        have hv_ : inB v 10 = true := inB_t (by omega)
        refine y_aload_n CC 0 dX4_lay_26 rfl rfl ?_
        refine y_getr CC gl_X4_14 (by omega) (d := 1) rfl dX4_lay_27 ?_
        refine y_iload_n CC 1 dX4_lay_30 rfl rfl ?_
        refine y_callVI (ci := 3) (st := []) CC cl_X4_91 (k_goodsAt l D ad kI kS kL μ 1 (by omega) τ hT hB (nI j_2)) (by omega) rfl rfl rfl (Nat.le_of_ble_eq_true rfl) ⟨by decide, by decide⟩ ⟨Nat.zero_le _, Nat.zero_le _⟩ dX4_lay_31 (fun r_ μ_ w_6 => ?_)
        obtain ⟨rfl, rfl⟩ := w_6
        refine y_top (y := nI (tG τ j_2)) (by rw [if_pos (inB_nI (by omega) (by omega)), ix_nI (by omega)]) ?_
        refine y_istore_n CC [(3, .int (nI (tG τ j_2))), (0, .ref (ad 0)), (1, .int (nI j_2)), (2, .int v)] dX4_lay_34 rfl (by decide) rfl ?_
        refine y_aload_n CC 1 dX4_lay_35 rfl rfl ?_
        refine y_getr CC gl_X4_14 (by omega) (d := 1) rfl dX4_lay_36 ?_
        refine y_iload_n CC 2 dX4_lay_39 rfl rfl ?_
        refine y_iload_n CC 3 dX4_lay_40 rfl rfl ?_
        refine y_callVV (ci := 3) (st := []) CC cl_X4_94 (k_setGoods l D ad kI kS kL μ 1 (by omega) τ hT hB (nI j_2) v) (by omega) rfl rfl rfl (Nat.le_of_ble_eq_true rfl) ⟨by decide, by decide⟩ ⟨Nat.zero_le _, Nat.zero_le _⟩ dX4_lay_41 (fun μ_ w_7 => ?_)
        obtain rfl := w_7
        refine y_mem (if_pos (by assumption)) ?_
        refine y_iload_n CC 0 dX4_lay_44 rfl rfl ?_
        exact y_iret CC hQ dX4_lay_45 (⟨by simp [ok_lay, b_1, ix_nI (show j_2 < 2 ^ 31 by omega), hv_], by simp [q_lay, b_1, ix_nI (show j_2 < 2 ^ 31 by omega), hv_]⟩)
      · skip
        have hv_ : inB v 10 = false := inB_f (by omega)
        refine y_bipush CC ((-2)) dX4_lay_23 (by decide) ?_
        exact y_iret CC hQ dX4_lay_25 (⟨by simp [ok_lay, b_1, ix_nI (show j_2 < 2 ^ 31 by omega), hv_], by simp [q_lay, b_1, ix_nI (show j_2 < 2 ^ 31 by omega), hv_]⟩)
  · skip
    refine z_if_neF CC 13 dX4_lay_8 (by decide) (a := (0 : Int)) (nI_toInt (by decide)) (by decide) ?_
    refine y_iconst CC ((-1)) dX4_lay_11 (by decide) ?_
    exact y_iret CC hQ dX4_lay_12 (⟨by simp [ok_lay, b_1], by simp [q_lay, b_1]⟩)

set_option maxRecDepth 100000 in
set_option maxHeartbeats 4000000 in
theorem x_stride (l : Launch) (D : va_G) (ad : Nat → Nat) (kI kS kL : ClassId) (μ : Mem) (τ : Tn) (hT : TX μ 1 τ) (hV : tV τ) (a v : Int32) : MI l D ad kI kS kL yX4_stride cX4_stride 5 (some .int) 2 42 [.ref (ad 0), .int a, .int v] μ (fun r μ2 => (μ2 = if ok_stride τ a v = true then mu μ (4 * 1 + 18 + ix a) 2 v else μ) ∧ r = q_stride τ a v) := by
  refine met_I RX4 rfl (by decide) (lv := [(0, .ref (ad 0)), (1, .int a), (2, .int v)]) rfl (Nat.le_of_ble_eq_true rfl) ?_
  intro pp ee ss mm aa bb me cd AA hA0 CC hnm QQ hQ
  have hB := hV.1
  have hP9 : tP τ ≤ 9 := hB.1
  have hS4 : tS τ ≤ 4 := hB.2.1
  have hVc := hV.2.1
  refine y_aload_n CC 0 dX4_stride_0 rfl rfl ?_
  refine y_getr CC gl_X4_14 (by omega) (d := 1) rfl dX4_stride_1 ?_
  refine y_iload_n CC 1 dX4_stride_4 rfl rfl ?_
  refine y_callVN (ci := 3) (st := []) CC cl_X4_73 (k_sleeperOrNull l D ad kI kS kL μ 1 (by omega) τ hT hB a) (by omega) rfl rfl rfl (Nat.le_of_ble_eq_true rfl) ⟨by decide, by decide⟩ ⟨Nat.zero_le _, Nat.zero_le _⟩ dX4_stride_5 (fun r_ μ_ w_3 => ?_)
  rcases w_3 with ⟨rfl, ⟨b_1, rfl⟩ | ⟨b_1, rfl⟩⟩
  · skip
    obtain ⟨j_2, hj_2, rfl⟩ := inB_of b_1 (by omega)
    refine y_eq (st2 := [.ref (ad (4 * 1 + 18 + j_2))]) (by rw [ix_nI (by omega)]; rfl) ?_
    refine y_astore_n CC [(3, .ref (ad (4 * 1 + 18 + j_2))), (0, .ref (ad 0)), (1, .int (nI j_2)), (2, .int v)] dX4_stride_8 rfl (by decide) rfl ?_
    refine y_aload_n CC 0 dX4_stride_9 rfl rfl ?_
    refine y_ifnonnull CC 15 dX4_stride_10 (by decide) ?_
    refine y_iload_n CC 3 dX4_stride_15 rfl rfl ?_
    refine z_if_lt CC 24 dX4_stride_16 (by decide) (a := (v).toInt) rfl (fun c_4 => ?_) (fun c_4 => ?_)
    · skip
      have hv_ : inB v 4 = false := inB_f (by omega)
      refine y_bipush CC ((-2)) dX4_stride_24 (by decide) ?_
      exact y_iret CC hQ dX4_stride_26 (⟨by simp [ok_stride, b_1, ix_nI (show j_2 < 2 ^ 31 by omega), hv_], by simp [q_stride, b_1, ix_nI (show j_2 < 2 ^ 31 by omega), hv_]⟩)
    · skip
      refine y_iload_n CC 3 dX4_stride_19 rfl rfl ?_
      refine y_iconst CC (nI 3) dX4_stride_20 (by decide) ?_
      refine z_icmp_le CC 27 dX4_stride_21 (by decide) (a := (v).toInt) (b := (3 : Int)) rfl (nI_toInt (by decide)) (fun c_5 => ?_) (fun c_5 => ?_)
      · skip
        have hv_ : inB v 4 = true := inB_t (by omega)
        refine y_aload_n CC 0 dX4_stride_27 rfl rfl ?_
        refine y_geti CC gl_X4_85 (by omega) rfl (v := nI (tD τ j_2)) (hT.2.2.1 j_2 (by omega)).2.2 dX4_stride_28 ?_
        refine y_istore CC [(4, .int (nI (tD τ j_2))), (3, .ref (ad (4 * 1 + 18 + j_2))), (0, .ref (ad 0)), (1, .int (nI j_2)), (2, .int v)] dX4_stride_31 (by decide) rfl ?_
        refine y_aload_n CC 1 dX4_stride_33 rfl rfl ?_
        refine y_iload_n CC 4 dX4_stride_34 rfl rfl ?_
        refine y_puti CC pl_X4_85 (by omega) rfl (Nat.le_of_ble_eq_true rfl) dX4_stride_35 ?_
        refine y_iload CC 0 dX4_stride_38 rfl ?_
        exact y_iret CC hQ dX4_stride_40 (⟨by simp [ok_stride, b_1, ix_nI (show j_2 < 2 ^ 31 by omega), hv_], by simp [q_stride, b_1, ix_nI (show j_2 < 2 ^ 31 by omega), hv_]⟩)
      · skip
        have hv_ : inB v 4 = false := inB_f (by omega)
        refine y_bipush CC ((-2)) dX4_stride_24 (by decide) ?_
        exact y_iret CC hQ dX4_stride_26 (⟨by simp [ok_stride, b_1, ix_nI (show j_2 < 2 ^ 31 by omega), hv_], by simp [q_stride, b_1, ix_nI (show j_2 < 2 ^ 31 by omega), hv_]⟩)
  · skip
    refine y_eq (st2 := [.null]) rfl ?_
    refine y_astore_nN CC [(3, .null), (0, .ref (ad 0)), (1, .int a), (2, .int v)] dX4_stride_8 rfl (by decide) rfl ?_
    refine y_aload_nN CC 0 dX4_stride_9 rfl rfl ?_
    refine y_ifnonnullN CC 15 dX4_stride_10 (by decide) ?_
    refine y_iconst CC ((-1)) dX4_stride_13 (by decide) ?_
    exact y_iret CC hQ dX4_stride_14 (⟨by simp [ok_stride, b_1], by simp [q_stride, b_1]⟩)

set_option maxRecDepth 100000 in
set_option maxHeartbeats 4000000 in
theorem x_where (l : Launch) (D : va_G) (ad : Nat → Nat) (kI kS kL : ClassId) (μ : Mem) (τ : Tn) (hT : TX μ 1 τ) (hV : tV τ) (a m : Int32) : MI l D ad kI kS kL yX4_where cX4_where 3 (some .int) 3 69 [.ref (ad 0), .int a, .int m] μ (fun r μ2 => μ = μ2 ∧ r = q_where τ a m) := by
  refine met_I RX4 rfl (by decide) (lv := [(0, .ref (ad 0)), (1, .int a), (2, .int m)]) rfl (Nat.le_of_ble_eq_true rfl) ?_
  intro pp ee ss mm aa bb me cd AA hA0 CC hnm QQ hQ
  have hB := hV.1
  have hP9 : tP τ ≤ 9 := hB.1
  have hS4 : tS τ ≤ 4 := hB.2.1
  have hVc := hV.2.1
  refine y_aload_n CC 0 dX4_where_0 rfl rfl ?_
  refine y_getr CC gl_X4_14 (by omega) (d := 1) rfl dX4_where_1 ?_
  refine y_iload_n CC 1 dX4_where_4 rfl rfl ?_
  refine y_callVI (ci := 3) (st := []) CC cl_X4_98 (k_hasSleeper l D ad kI kS kL μ 1 (by omega) τ hT hB a) (by omega) rfl rfl rfl (Nat.le_of_ble_eq_true rfl) ⟨by decide, by decide⟩ ⟨Nat.zero_le _, Nat.zero_le _⟩ dX4_where_5 (fun r_ μ_ w_3 => ?_)
  rcases w_3 with ⟨rfl, ⟨b_1, rfl⟩ | ⟨b_1, rfl⟩⟩
  · skip
    obtain ⟨j_2, hj_2, rfl⟩ := inB_of b_1 (by omega)
    refine z_if_neT CC 13 dX4_where_8 (by decide) (a := (1 : Int)) (nI_toInt (by decide)) (by decide) ?_
    refine y_iload_n CC 2 dX4_where_13 rfl rfl ?_
    refine y_callSI (st := []) CC cl_X4_101 (k_isMinute l D ad kI kS kL μ m) rfl rfl (Nat.le_of_ble_eq_true rfl) ⟨by decide, by decide⟩ ⟨Nat.zero_le _, Nat.zero_le _⟩ dX4_where_14 (fun r_ μ_ w_6 => ?_)
    rcases w_6 with ⟨rfl, ⟨b_4, rfl⟩ | ⟨b_4, rfl⟩⟩
    · skip
      obtain ⟨m_5, hm_5, rfl⟩ := inB_of b_4 (by omega)
      refine z_if_eqF CC 32 dX4_where_17 (by decide) (a := (1 : Int)) (nI_toInt (by decide)) (by decide) ?_
      refine y_aload_n CC 0 dX4_where_20 rfl rfl ?_
      refine y_getr CC gl_X4_14 (by omega) (d := 1) rfl dX4_where_21 ?_
      refine y_iload_n CC 1 dX4_where_24 rfl rfl ?_
      refine y_iload_n CC 2 dX4_where_25 rfl rfl ?_
      refine y_callVI (ci := 3) (st := []) CC cl_X4_104 (k_placeOf l D ad kI kS kL μ 1 (by omega) τ hT hB (by omega) j_2 m_5 (by omega) (by omega)) (by omega) rfl rfl rfl (Nat.le_of_ble_eq_true rfl) ⟨by decide, by decide⟩ ⟨Nat.zero_le _, Nat.zero_le _⟩ dX4_where_26 (fun r_ μ_ w_8 => ?_)
      obtain ⟨rfl, rfl⟩ := w_8
      have h_pl_7 := pl_lt (τ := τ) (by omega) j_2 m_5
      refine y_goto CC 34 dX4_where_29 (by decide) ?_
      exact y_iret CC hQ dX4_where_34 (⟨rfl, by simp [q_where, b_1, ix_nI (show j_2 < 2 ^ 31 by omega), b_4, ix_nI (show m_5 < 2 ^ 31 by omega)]⟩)
    · skip
      refine z_if_eqT CC 32 dX4_where_17 (by decide) (a := (0 : Int)) (nI_toInt (by decide)) (by decide) ?_
      refine y_bipush CC ((-2)) dX4_where_32 (by decide) ?_
      exact y_iret CC hQ dX4_where_34 (⟨rfl, by simp [q_where, b_1, ix_nI (show j_2 < 2 ^ 31 by omega), b_4]⟩)
  · skip
    refine z_if_neF CC 13 dX4_where_8 (by decide) (a := (0 : Int)) (nI_toInt (by decide)) (by decide) ?_
    refine y_iconst CC ((-1)) dX4_where_11 (by decide) ?_
    exact y_iret CC hQ dX4_where_12 (⟨rfl, by simp [q_where, b_1]⟩)

set_option maxRecDepth 100000 in
set_option maxHeartbeats 4000000 in
theorem x_taken (l : Launch) (D : va_G) (ad : Nat → Nat) (kI kS kL : ClassId) (μ : Mem) (τ : Tn) (hT : TX μ 1 τ) (hV : tV τ) (a m : Int32) : MI l D ad kI kS kL yX4_taken cX4_taken 3 (some .int) 4 96 [.ref (ad 0), .int a, .int m] μ (fun r μ2 => μ = μ2 ∧ r = q_taken τ a m) := by
  refine met_I RX4 rfl (by decide) (lv := [(0, .ref (ad 0)), (1, .int a), (2, .int m)]) rfl (Nat.le_of_ble_eq_true rfl) ?_
  intro pp ee ss mm aa bb me cd AA hA0 CC hnm QQ hQ
  have hB := hV.1
  have hP9 : tP τ ≤ 9 := hB.1
  have hS4 : tS τ ≤ 4 := hB.2.1
  have hVc := hV.2.1
  refine y_aload_n CC 0 dX4_taken_0 rfl rfl ?_
  refine y_getr CC gl_X4_14 (by omega) (d := 1) rfl dX4_taken_1 ?_
  refine y_iload_n CC 1 dX4_taken_4 rfl rfl ?_
  refine y_callVI (ci := 3) (st := []) CC cl_X4_98 (k_hasSleeper l D ad kI kS kL μ 1 (by omega) τ hT hB a) (by omega) rfl rfl rfl (Nat.le_of_ble_eq_true rfl) ⟨by decide, by decide⟩ ⟨Nat.zero_le _, Nat.zero_le _⟩ dX4_taken_5 (fun r_ μ_ w_3 => ?_)
  rcases w_3 with ⟨rfl, ⟨b_1, rfl⟩ | ⟨b_1, rfl⟩⟩
  · skip
    obtain ⟨j_2, hj_2, rfl⟩ := inB_of b_1 (by omega)
    refine z_if_neT CC 13 dX4_taken_8 (by decide) (a := (1 : Int)) (nI_toInt (by decide)) (by decide) ?_
    refine y_iload_n CC 2 dX4_taken_13 rfl rfl ?_
    refine y_callSI (st := []) CC cl_X4_101 (k_isMinute l D ad kI kS kL μ m) rfl rfl (Nat.le_of_ble_eq_true rfl) ⟨by decide, by decide⟩ ⟨Nat.zero_le _, Nat.zero_le _⟩ dX4_taken_14 (fun r_ μ_ w_6 => ?_)
    rcases w_6 with ⟨rfl, ⟨b_4, rfl⟩ | ⟨b_4, rfl⟩⟩
    · skip
      obtain ⟨m_5, hm_5, rfl⟩ := inB_of b_4 (by omega)
      refine z_if_eqF CC 32 dX4_taken_17 (by decide) (a := (1 : Int)) (nI_toInt (by decide)) (by decide) ?_
      refine y_aload_n CC 0 dX4_taken_20 rfl rfl ?_
      refine y_getr CC gl_X4_14 (by omega) (d := 1) rfl dX4_taken_21 ?_
      refine y_iload_n CC 1 dX4_taken_24 rfl rfl ?_
      refine y_iload_n CC 2 dX4_taken_25 rfl rfl ?_
      refine y_callVI (ci := 3) (st := []) CC cl_X4_107 (k_goodsTakenBy l D ad kI kS kL μ 1 (by omega) τ hT hB (by omega) j_2 m_5 (by omega) (by omega)) (by omega) rfl rfl rfl (Nat.le_of_ble_eq_true rfl) ⟨by decide, by decide⟩ ⟨Nat.zero_le _, Nat.zero_le _⟩ dX4_taken_26 (fun r_ μ_ w_7 => ?_)
      obtain ⟨rfl, rfl⟩ := w_7
      refine y_goto CC 34 dX4_taken_29 (by decide) ?_
      exact y_iret CC hQ dX4_taken_34 (⟨rfl, by simp [q_taken, b_1, ix_nI (show j_2 < 2 ^ 31 by omega), b_4, ix_nI (show m_5 < 2 ^ 31 by omega)]⟩)
    · skip
      refine z_if_eqT CC 32 dX4_taken_17 (by decide) (a := (0 : Int)) (nI_toInt (by decide)) (by decide) ?_
      refine y_bipush CC ((-2)) dX4_taken_32 (by decide) ?_
      exact y_iret CC hQ dX4_taken_34 (⟨rfl, by simp [q_taken, b_1, ix_nI (show j_2 < 2 ^ 31 by omega), b_4]⟩)
  · skip
    refine z_if_neF CC 13 dX4_taken_8 (by decide) (a := (0 : Int)) (nI_toInt (by decide)) (by decide) ?_
    refine y_iconst CC ((-1)) dX4_taken_11 (by decide) ?_
    exact y_iret CC hQ dX4_taken_12 (⟨rfl, by simp [q_taken, b_1]⟩)

set_option maxRecDepth 100000 in
set_option maxHeartbeats 4000000 in
theorem x_free (l : Launch) (D : va_G) (ad : Nat → Nat) (kI kS kL : ClassId) (μ : Mem) (τ : Tn) (hT : TX μ 1 τ) (hV : tV τ) (m : Int32) : MI l D ad kI kS kL yX4_free cX4_free 2 (some .int) 4 93 [.ref (ad 0), .int m] μ (fun r μ2 => μ = μ2 ∧ r = q_free τ m) := by
  refine met_I RX4 rfl (by decide) (lv := [(0, .ref (ad 0)), (1, .int m)]) rfl (Nat.le_of_ble_eq_true rfl) ?_
  intro pp ee ss mm aa bb me cd AA hA0 CC hnm QQ hQ
  have hB := hV.1
  have hP9 : tP τ ≤ 9 := hB.1
  have hS4 : tS τ ≤ 4 := hB.2.1
  have hVc := hV.2.1
  refine y_iload_n CC 1 dX4_free_0 rfl rfl ?_
  refine y_callSI (st := []) CC cl_X4_101 (k_isMinute l D ad kI kS kL μ m) rfl rfl (Nat.le_of_ble_eq_true rfl) ⟨by decide, by decide⟩ ⟨Nat.zero_le _, Nat.zero_le _⟩ dX4_free_1 (fun r_ μ_ w_3 => ?_)
  rcases w_3 with ⟨rfl, ⟨b_1, rfl⟩ | ⟨b_1, rfl⟩⟩
  · skip
    obtain ⟨m_2, hm_2, rfl⟩ := inB_of b_1 (by omega)
    refine z_if_neT CC 10 dX4_free_4 (by decide) (a := (1 : Int)) (nI_toInt (by decide)) (by decide) ?_
    refine y_aload_n CC 0 dX4_free_10 rfl rfl ?_
    refine y_getr CC gl_X4_14 (by omega) (d := 1) rfl dX4_free_11 ?_
    refine y_callVI (ci := 3) (st := []) CC cl_X4_110 (k_isThere l D ad kI kS kL μ 1 (by omega) τ hT hB) (by omega) rfl rfl rfl (Nat.le_of_ble_eq_true rfl) ⟨by decide, by decide⟩ ⟨Nat.zero_le _, Nat.zero_le _⟩ dX4_free_14 (fun r_ μ_ w_5 => ?_)
    rcases w_5 with ⟨rfl, ⟨b_4, rfl⟩ | ⟨b_4, rfl⟩⟩
    · skip
      have hb_b_4 := of_decide_eq_true b_4
      refine z_if_eqF CC 33 dX4_free_17 (by decide) (a := (1 : Int)) (nI_toInt (by decide)) (by decide) ?_
      refine y_aload_n CC 0 dX4_free_20 rfl rfl ?_
      refine y_getr CC gl_X4_14 (by omega) (d := 1) rfl dX4_free_21 ?_
      refine y_iload_n CC 1 dX4_free_24 rfl rfl ?_
      refine y_bipush CC (nI 15) dX4_free_25 (by decide) ?_
      refine y_callVI (ci := 3) (st := []) CC cl_X4_114 (k_freePlaces l D ad kI kS kL μ 1 (by omega) τ hT hB (by omega) m_2 15 (by omega) (by omega)) (by omega) rfl rfl rfl (Nat.le_of_ble_eq_true rfl) ⟨by decide, by decide⟩ ⟨Nat.zero_le _, Nat.zero_le _⟩ dX4_free_27 (fun r_ μ_ w_7 => ?_)
      obtain ⟨rfl, rfl⟩ := w_7
      have h_fr_6 := set9 (P := tP τ) (by omega) (frS_lt τ 15 m_2)
      refine y_goto CC 35 dX4_free_30 (by decide) ?_
      exact y_iret CC hQ dX4_free_35 (⟨rfl, by simp [q_free, b_1, ix_nI (show m_2 < 2 ^ 31 by omega), b_4, hb_b_4]⟩)
    · skip
      have hb_b_4 := of_decide_eq_false b_4
      refine z_if_eqT CC 33 dX4_free_17 (by decide) (a := (0 : Int)) (nI_toInt (by decide)) (by decide) ?_
      refine y_bipush CC ((-3)) dX4_free_33 (by decide) ?_
      exact y_iret CC hQ dX4_free_35 (⟨rfl, by simp [q_free, b_1, ix_nI (show m_2 < 2 ^ 31 by omega), b_4, hb_b_4]⟩)
  · skip
    refine z_if_neF CC 10 dX4_free_4 (by decide) (a := (0 : Int)) (nI_toInt (by decide)) (by decide) ?_
    refine y_bipush CC ((-2)) dX4_free_7 (by decide) ?_
    exact y_iret CC hQ dX4_free_9 (⟨rfl, by simp [q_free, b_1]⟩)

set_option maxRecDepth 100000 in
set_option maxHeartbeats 4000000 in
theorem x_meet (l : Launch) (D : va_G) (ad : Nat → Nat) (kI kS kL : ClassId) (μ : Mem) (τ : Tn) (hT : TX μ 1 τ) (hV : tV τ) (a b : Int32) : MI l D ad kI kS kL yX4_meet cX4_meet 4 (some .int) 3 69 [.ref (ad 0), .int a, .int b] μ (fun r μ2 => μ = μ2 ∧ r = q_meet τ a b) := by
  refine met_I RX4 rfl (by decide) (lv := [(0, .ref (ad 0)), (1, .int a), (2, .int b)]) rfl (Nat.le_of_ble_eq_true rfl) ?_
  intro pp ee ss mm aa bb me cd AA hA0 CC hnm QQ hQ
  have hB := hV.1
  have hP9 : tP τ ≤ 9 := hB.1
  have hS4 : tS τ ≤ 4 := hB.2.1
  have hVc := hV.2.1
  refine y_aload_n CC 0 dX4_meet_0 rfl rfl ?_
  refine y_getr CC gl_X4_14 (by omega) (d := 1) rfl dX4_meet_1 ?_
  refine y_iload_n CC 1 dX4_meet_4 rfl rfl ?_
  refine y_callVI (ci := 3) (st := []) CC cl_X4_98 (k_hasSleeper l D ad kI kS kL μ 1 (by omega) τ hT hB a) (by omega) rfl rfl rfl (Nat.le_of_ble_eq_true rfl) ⟨by decide, by decide⟩ ⟨Nat.zero_le _, Nat.zero_le _⟩ dX4_meet_5 (fun r_ μ_ w_2 => ?_)
  rcases w_2 with ⟨rfl, ⟨b_1, rfl⟩ | ⟨b_1, rfl⟩⟩
  · skip
    obtain ⟨ja, hja, rfl⟩ := inB_of b_1 (by omega)
    refine z_if_eqF CC 27 dX4_meet_8 (by decide) (a := (1 : Int)) (nI_toInt (by decide)) (by decide) ?_
    refine y_aload_n CC 0 dX4_meet_11 rfl rfl ?_
    refine y_getr CC gl_X4_14 (by omega) (d := 1) rfl dX4_meet_12 ?_
    refine y_iload_n CC 2 dX4_meet_15 rfl rfl ?_
    refine y_callVI (ci := 3) (st := []) CC cl_X4_98 (k_hasSleeper l D ad kI kS kL μ 1 (by omega) τ hT hB b) (by omega) rfl rfl rfl (Nat.le_of_ble_eq_true rfl) ⟨by decide, by decide⟩ ⟨Nat.zero_le _, Nat.zero_le _⟩ dX4_meet_16 (fun r_ μ_ w_4 => ?_)
    rcases w_4 with ⟨rfl, ⟨b_3, rfl⟩ | ⟨b_3, rfl⟩⟩
    · skip
      obtain ⟨jb, hjb, rfl⟩ := inB_of b_3 (by omega)
      refine z_if_eqF CC 27 dX4_meet_19 (by decide) (a := (1 : Int)) (nI_toInt (by decide)) (by decide) ?_
      refine y_iload_n CC 1 dX4_meet_22 rfl rfl ?_
      refine y_iload_n CC 2 dX4_meet_23 rfl rfl ?_
      refine z_icmp_ne CC 29 dX4_meet_24 (by decide) (a := ((ja : Nat) : Int)) (b := ((jb : Nat) : Int)) (nI_toInt (by omega)) (nI_toInt (by omega)) (fun c_5 => ?_) (fun c_5 => ?_)
      · skip
        have hne_ : ¬ ja = jb := by omega
        refine y_iconst CC (nI 0) dX4_meet_29 (by decide) ?_
        refine y_istore_n CC [(3, .int (nI 0)), (0, .ref (ad 0)), (1, .int (nI ja)), (2, .int (nI jb))] dX4_meet_30 rfl (by decide) rfl ?_
        have L31 : ∀ (n31 : Nat) (m : Nat), 61 - m < n31 → (m ≤ 61) → (fs (mtB τ ja jb) m (61 - m) = fs (mtB τ ja jb) 0 61) → Y pp l ee (rmY 3 69) ss mm aa bb me cd D ad kI kS kL AA 4 0 0 QQ 31 [(3, .int (nI m)), (0, .ref (ad 0)), (1, .int (nI ja)), (2, .int (nI jb))] [] μ := by
          intro n31
          induction n31 with
          | zero => intro m hm31; exact absurd hm31 (Nat.not_lt_zero _)
          | succ n31 ih31 =>
            intro m hm31 hm hs
            refine y_iload_n CC 0 dX4_meet_31 rfl rfl ?_
            refine y_bipush CC (nI 60) dX4_meet_32 (by decide) ?_
            refine z_icmp_gt CC 66 dX4_meet_34 (by decide) (a := ((m : Nat) : Int)) (b := (60 : Int)) (nI_toInt (by omega)) (nI_toInt (by decide)) (fun c_7 => ?_) (fun c_7 => ?_)
            · skip
              refine y_bipush CC ((-9)) dX4_meet_66 (by decide) ?_
              exact y_iret CC hQ dX4_meet_68 (⟨rfl, by simp [q_meet, b_1, ix_nI (show ja < 2 ^ 31 by omega), b_3, ix_nI (show jb < 2 ^ 31 by omega), hne_]; rw [← hs, fs_0 (by omega)]; rfl⟩)
            · skip
              refine y_aload_n CC 1 dX4_meet_37 rfl rfl ?_
              refine y_getr CC gl_X4_14 (by omega) (d := 1) rfl dX4_meet_38 ?_
              refine y_iload_n CC 2 dX4_meet_41 rfl rfl ?_
              refine y_iload_n CC 0 dX4_meet_42 rfl rfl ?_
              refine y_callVI (ci := 3) (st := []) CC cl_X4_104 (k_placeOf l D ad kI kS kL μ 1 (by omega) τ hT hB (by omega) ja m (by omega) (by omega)) (by omega) rfl rfl rfl (Nat.le_of_ble_eq_true rfl) ⟨by decide, by decide⟩ ⟨Nat.zero_le _, Nat.zero_le _⟩ dX4_meet_43 (fun r_ μ_ w_9 => ?_)
              obtain ⟨rfl, rfl⟩ := w_9
              have h_pl_8 := pl_lt (τ := τ) (by omega) ja m
              refine y_aload_n CC 1 dX4_meet_46 rfl rfl ?_
              refine y_getr CC gl_X4_14 (by omega) (d := 1) rfl dX4_meet_47 ?_
              refine y_iload_n CC 3 dX4_meet_50 rfl rfl ?_
              refine y_iload_n CC 0 dX4_meet_51 rfl rfl ?_
              refine y_callVI (ci := 3) (st := [.int (nI (pl τ ja m))]) CC cl_X4_104 (k_placeOf l D ad kI kS kL μ 1 (by omega) τ hT hB (by omega) jb m (by omega) (by omega)) (by omega) rfl rfl rfl (Nat.le_of_ble_eq_true rfl) ⟨by decide, by decide⟩ ⟨Nat.zero_le _, Nat.zero_le _⟩ dX4_meet_52 (fun r_ μ_ w_11 => ?_)
              obtain ⟨rfl, rfl⟩ := w_11
              have h_pl_10 := pl_lt (τ := τ) (by omega) jb m
              refine z_icmp_ne CC 60 dX4_meet_55 (by decide) (a := ((pl τ ja m : Nat) : Int)) (b := ((pl τ jb m : Nat) : Int)) (nI_toInt (by omega)) (nI_toInt (by omega)) (fun c_12 => ?_) (fun c_12 => ?_)
              · skip
                refine y_iinc CC 0 (nI (m + 1)) [(3, .int (nI (m + 1))), (0, .ref (ad 0)), (1, .int (nI ja)), (2, .int (nI jb))] dX4_meet_60 rfl (i_inc _) (by decide) rfl ?_
                refine y_goto CC 31 dX4_meet_63 (by decide) ?_
                exact ih31 (m + 1) (by omega) (by omega) (by rw [← fs_f (decide_eq_false (by omega)) (by omega)]; exact hs)
              · skip
                refine y_iload_n CC 0 dX4_meet_58 rfl rfl ?_
                exact y_iret CC hQ dX4_meet_59 (⟨rfl, by simp [q_meet, b_1, ix_nI (show ja < 2 ^ 31 by omega), b_3, ix_nI (show jb < 2 ^ 31 by omega), hne_]; rw [← hs, fs_t (decide_eq_true (by omega)) (by omega)]; rfl⟩)
        exact L31 _ 0 (Nat.lt_succ_self _) (Nat.zero_le _) rfl
      · skip
        have heq_ : ja = jb := by omega
        refine y_iconst CC ((-1)) dX4_meet_27 (by decide) ?_
        exact y_iret CC hQ dX4_meet_28 (⟨rfl, by simp [q_meet, b_1, ix_nI (show ja < 2 ^ 31 by omega), b_3, ix_nI (show jb < 2 ^ 31 by omega), heq_]⟩)
    · skip
      refine z_if_eqT CC 27 dX4_meet_19 (by decide) (a := (0 : Int)) (nI_toInt (by decide)) (by decide) ?_
      refine y_iconst CC ((-1)) dX4_meet_27 (by decide) ?_
      exact y_iret CC hQ dX4_meet_28 (⟨rfl, by simp [q_meet, b_1, ix_nI (show ja < 2 ^ 31 by omega), b_3]⟩)
  · skip
    refine z_if_eqT CC 27 dX4_meet_8 (by decide) (a := (0 : Int)) (nI_toInt (by decide)) (by decide) ?_
    refine y_iconst CC ((-1)) dX4_meet_27 (by decide) ?_
    exact y_iret CC hQ dX4_meet_28 (⟨rfl, by simp [q_meet, b_1]⟩)

set_option maxRecDepth 100000 in
set_option maxHeartbeats 4000000 in
theorem x_steer (l : Launch) (D : va_G) (ad : Nat → Nat) (kI kS kL : ClassId) (μ : Mem) (τ : Tn) (hT : TX μ 1 τ) (hV : tV τ) (a p m : Int32) : MI l D ad kI kS kL yX4_steer cX4_steer 8 (some .int) 2 46 [.ref (ad 0), .int a, .int p, .int m] μ (fun r μ2 => μ = μ2 ∧ r = q_steer τ a p m) := by
  refine met_I RX4 rfl (by decide) (lv := [(0, .ref (ad 0)), (1, .int a), (2, .int p), (3, .int m)]) rfl (Nat.le_of_ble_eq_true rfl) ?_
  intro pp ee ss mm aa bb me cd AA hA0 CC hnm QQ hQ
  have hB := hV.1
  have hP9 : tP τ ≤ 9 := hB.1
  have hS4 : tS τ ≤ 4 := hB.2.1
  have hVc := hV.2.1
  refine y_aload_n CC 0 dX4_steer_0 rfl rfl ?_
  refine y_getr CC gl_X4_14 (by omega) (d := 1) rfl dX4_steer_1 ?_
  refine y_iload_n CC 1 dX4_steer_4 rfl rfl ?_
  refine y_callVN (ci := 3) (st := []) CC cl_X4_73 (k_sleeperOrNull l D ad kI kS kL μ 1 (by omega) τ hT hB a) (by omega) rfl rfl rfl (Nat.le_of_ble_eq_true rfl) ⟨by decide, by decide⟩ ⟨Nat.zero_le _, Nat.zero_le _⟩ dX4_steer_5 (fun r_ μ_ w_2 => ?_)
  rcases w_2 with ⟨rfl, ⟨b_1, rfl⟩ | ⟨b_1, rfl⟩⟩
  · skip
    obtain ⟨j, hj, rfl⟩ := inB_of b_1 (by omega)
    refine y_eq (st2 := [.ref (ad (4 * 1 + 18 + j))]) (by rw [ix_nI (by omega)]; rfl) ?_
    refine y_astore CC [(4, .ref (ad (4 * 1 + 18 + j))), (0, .ref (ad 0)), (1, .int (nI j)), (2, .int p), (3, .int m)] dX4_steer_8 (by decide) rfl ?_
    refine y_aload CC 0 dX4_steer_10 rfl ?_
    refine y_ifnull CC 26 dX4_steer_12 (by decide) ?_
    refine y_aload_n CC 1 dX4_steer_15 rfl rfl ?_
    refine y_getr CC gl_X4_14 (by omega) (d := 1) rfl dX4_steer_16 ?_
    refine y_iload_n CC 3 dX4_steer_19 rfl rfl ?_
    refine y_callVI (ci := 3) (st := []) CC cl_X4_88 (k_hasPlace l D ad kI kS kL μ 1 (by omega) τ hT hB p) (by omega) rfl rfl rfl (Nat.le_of_ble_eq_true rfl) ⟨by decide, by decide⟩ ⟨Nat.zero_le _, Nat.zero_le _⟩ dX4_steer_20 (fun r_ μ_ w_4 => ?_)
    rcases w_4 with ⟨rfl, ⟨b_3, rfl⟩ | ⟨b_3, rfl⟩⟩
    · skip
      obtain ⟨jp, hjp, rfl⟩ := inB_of b_3 (by omega)
      refine z_if_neT CC 28 dX4_steer_23 (by decide) (a := (1 : Int)) (nI_toInt (by decide)) (by decide) ?_
      refine y_iload_n CC 4 dX4_steer_28 rfl rfl ?_
      refine y_callSI (st := []) CC cl_X4_101 (k_isMinute l D ad kI kS kL μ m) rfl rfl (Nat.le_of_ble_eq_true rfl) ⟨by decide, by decide⟩ ⟨Nat.zero_le _, Nat.zero_le _⟩ dX4_steer_29 (fun r_ μ_ w_6 => ?_)
      rcases w_6 with ⟨rfl, ⟨b_5, rfl⟩ | ⟨b_5, rfl⟩⟩
      · skip
        obtain ⟨jm, hjm, rfl⟩ := inB_of b_5 (by omega)
        refine z_if_neT CC 38 dX4_steer_32 (by decide) (a := (1 : Int)) (nI_toInt (by decide)) (by decide) ?_
        have hkb := hB.2.2.1 j (by omega)
        refine y_bipush CC ((-9)) dX4_steer_38 (by decide) ?_
        refine y_istore CC [(5, .int (-9)), (4, .ref (ad (4 * 1 + 18 + j))), (0, .ref (ad 0)), (1, .int (nI j)), (2, .int (nI jp)), (3, .int (nI jm))] dX4_steer_40 (by decide) rfl ?_
        refine y_iconst CC (nI 0) dX4_steer_42 (by decide) ?_
        refine y_istore CC [(6, .int (nI 0)), (5, .int (-9)), (4, .ref (ad (4 * 1 + 18 + j))), (0, .ref (ad 0)), (1, .int (nI j)), (2, .int (nI jp)), (3, .int (nI jm))] dX4_steer_43 (by decide) rfl ?_
        have L45 : ∀ (n45 : Nat) (v : Nat), 4 - v < n45 → (v ≤ 4) → Y pp l ee (rmY 2 46) ss mm aa bb me cd D ad kI kS kL AA 8 0 0 QQ 45 [(6, .int (nI v)), (5, .int (oI (stS τ j jp jm v))), (4, .ref (ad (4 * 1 + 18 + j))), (0, .ref (ad 0)), (1, .int (nI j)), (2, .int (nI jp)), (3, .int (nI jm))] [] μ := by
          intro n45
          induction n45 with
          | zero => intro v hm45; exact absurd hm45 (Nat.not_lt_zero _)
          | succ n45 ih45 =>
            intro v hm45 hv
            refine y_iload CC 0 dX4_steer_45 rfl ?_
            refine y_iconst CC (nI 3) dX4_steer_47 (by decide) ?_
            refine z_icmp_gt CC 129 dX4_steer_48 (by decide) (a := ((v : Nat) : Int)) (b := (3 : Int)) (nI_toInt (by omega)) (nI_toInt (by decide)) (fun c_8 => ?_) (fun c_8 => ?_)
            · skip
              refine y_iload CC 1 dX4_steer_129 rfl ?_
              exact y_iret CC hQ dX4_steer_131 (⟨rfl, by simp [q_steer, b_1, ix_nI (show j < 2 ^ 31 by omega), b_3, ix_nI (show jp < 2 ^ 31 by omega), b_5, ix_nI (show jm < 2 ^ 31 by omega)]; rw [show v = 4 by omega]⟩)
            · skip
              rcases hb_ : stS τ j jp jm v with _ | b
              · skip
                refine y_lvE (lv2 := [(6, .int (nI v)), (5, .int (-9)), (4, .ref (ad (4 * 1 + 18 + j))), (0, .ref (ad 0)), (1, .int (nI j)), (2, .int (nI jp)), (3, .int (nI jm))]) (by first | rfl | (rw [hb_]; rfl)) ?_
                refine y_iload CC 1 dX4_steer_51 rfl ?_
                refine y_bipush CC ((-9)) dX4_steer_53 (by decide) ?_
                refine z_icmp_eqT CC 83 dX4_steer_55 (by decide) (a := (-9 : Int)) (b := (-9 : Int)) (by decide) (by decide) (by decide) ?_
                refine y_iconst CC (nI 1) dX4_steer_83 (by decide) ?_
                refine y_goto CC 88 dX4_steer_84 (by decide) ?_
                refine y_istore CC [(7, .int (nI 1)), (6, .int (nI v)), (5, .int (-9)), (4, .ref (ad (4 * 1 + 18 + j))), (0, .ref (ad 0)), (1, .int (nI j)), (2, .int (nI jp)), (3, .int (nI jm))] dX4_steer_88 (by decide) rfl ?_
                refine y_iload CC 0 dX4_steer_90 rfl ?_
                refine z_if_eqF CC 123 dX4_steer_92 (by decide) (a := (1 : Int)) (nI_toInt (by decide)) (by decide) ?_
                refine y_aload_n CC 4 dX4_steer_95 rfl rfl ?_
                refine y_getr CC gl_X4_14 (by omega) (d := 1) rfl dX4_steer_96 ?_
                refine y_aload CC 3 dX4_steer_99 rfl ?_
                refine y_geti CC gl_X4_77 (by omega) rfl (v := nI (tK τ j)) (hT.2.2.1 j (by omega)).1 dX4_steer_101 ?_
                refine y_aload CC 3 dX4_steer_104 rfl ?_
                refine y_geti CC gl_X4_82 (by omega) rfl (v := nI (tA τ j)) (hT.2.2.1 j (by omega)).2.1 dX4_steer_106 ?_
                refine y_iload CC 1 dX4_steer_109 rfl ?_
                refine y_iload_n CC 7 dX4_steer_111 rfl rfl ?_
                refine y_callVI (ci := 3) (st := []) CC cl_X4_151 (k_placeIf l D ad kI kS kL μ 1 (by omega) τ hT hB (by omega) (tK τ j) (tA τ j) v jm (by omega) (by omega) (by omega) (by omega)) (by omega) rfl rfl rfl (Nat.le_of_ble_eq_true rfl) ⟨by decide, by decide⟩ ⟨Nat.zero_le _, Nat.zero_le _⟩ dX4_steer_112 (fun r_ μ_ w_9 => ?_)
                obtain ⟨rfl, rfl⟩ := w_9
                have hlt_ := pif_lt (show 0 < tP τ by omega) (tK τ j) (tA τ j) v jm
                refine y_iload_n CC 6 dX4_steer_115 rfl rfl ?_
                refine z_icmp_ne CC 123 dX4_steer_116 (by decide) (a := ((pif τ (tK τ j) (tA τ j) v jm : Nat) : Int)) (b := ((jp : Nat) : Int)) (nI_toInt (by omega)) (nI_toInt (by omega)) (fun c_10 => ?_) (fun c_10 => ?_)
                · skip
                  refine y_iinc CC 1 (nI (v + 1)) [(6, .int (nI (v + 1))), (7, .int (nI 1)), (5, .int (-9)), (4, .ref (ad (4 * 1 + 18 + j))), (0, .ref (ad 0)), (1, .int (nI j)), (2, .int (nI jp)), (3, .int (nI jm))] dX4_steer_123 rfl (i_inc _) (by decide) rfl ?_
                  refine y_goto CC 45 dX4_steer_126 (by decide) ?_
                  refine y_lvE (lv2 := [(6, .int (nI (v + 1))), (7, .int (nI 1)), (5, .int (oI (stS τ j jp jm (v + 1)))), (4, .ref (ad (4 * 1 + 18 + j))), (0, .ref (ad 0)), (1, .int (nI j)), (2, .int (nI jp)), (3, .int (nI jm))]) (by rw [stS_n hb_, if_neg (by omega)]; rfl) ?_
                  refine y_lv [0, 2, 3, 4, 5, 6, 7] rfl ?_
                  exact ih45 (v + 1) (by omega) (by omega)
                · skip
                  refine y_iload CC 1 dX4_steer_119 rfl ?_
                  refine y_istore CC [(5, .int (nI v)), (7, .int (nI 1)), (6, .int (nI v)), (4, .ref (ad (4 * 1 + 18 + j))), (0, .ref (ad 0)), (1, .int (nI j)), (2, .int (nI jp)), (3, .int (nI jm))] dX4_steer_121 (by decide) rfl ?_
                  refine y_iinc CC 2 (nI (v + 1)) [(6, .int (nI (v + 1))), (5, .int (nI v)), (7, .int (nI 1)), (4, .ref (ad (4 * 1 + 18 + j))), (0, .ref (ad 0)), (1, .int (nI j)), (2, .int (nI jp)), (3, .int (nI jm))] dX4_steer_123 rfl (i_inc _) (by decide) rfl ?_
                  refine y_goto CC 45 dX4_steer_126 (by decide) ?_
                  refine y_lvE (lv2 := [(6, .int (nI (v + 1))), (5, .int (oI (stS τ j jp jm (v + 1)))), (7, .int (nI 1)), (4, .ref (ad (4 * 1 + 18 + j))), (0, .ref (ad 0)), (1, .int (nI j)), (2, .int (nI jp)), (3, .int (nI jm))]) (by rw [stS_n hb_, if_pos (by omega)]; rfl) ?_
                  refine y_lv [0, 1, 3, 4, 5, 6, 7] rfl ?_
                  exact ih45 (v + 1) (by omega) (by omega)
              · skip
                refine y_lvE (lv2 := [(6, .int (nI v)), (5, .int (nI b)), (4, .ref (ad (4 * 1 + 18 + j))), (0, .ref (ad 0)), (1, .int (nI j)), (2, .int (nI jp)), (3, .int (nI jm))]) (by first | rfl | (rw [hb_]; rfl)) ?_
                have hbv := stS_lt hb_
                refine y_iload CC 1 dX4_steer_51 rfl ?_
                refine y_bipush CC ((-9)) dX4_steer_53 (by decide) ?_
                refine z_icmp_eq CC 83 dX4_steer_55 (by decide) (a := ((b : Nat) : Int)) (b := (-9 : Int)) (nI_toInt (by omega)) (by decide) (fun c_11 => ?_) (fun c_11 => ?_)
                · skip
                  exfalso; omega
                · skip
                  refine y_iload CC 0 dX4_steer_58 rfl ?_
                  refine y_aload CC 2 dX4_steer_60 rfl ?_
                  refine y_geti CC gl_X4_85 (by omega) rfl (v := nI (tD τ j)) (hT.2.2.1 j (by omega)).2.2 dX4_steer_62 ?_
                  refine y_isub CC dX4_steer_65 (v := nI v - nI (tD τ j)) (by rfl) ?_
                  refine y_mabs CC mm_X4_146 (by decide) (Nat.le_of_ble_eq_true rfl) ⟨Nat.zero_le _, Nat.zero_le _⟩ (v := nI (dst v (tD τ j))) (i_abs (by omega) (by omega)) dX4_steer_66 ?_
                  have hd1 : dst v (tD τ j) ≤ 20 := by unfold dst; omega
                  refine y_iload CC 1 dX4_steer_69 rfl ?_
                  refine y_aload CC 2 dX4_steer_71 rfl ?_
                  refine y_geti CC gl_X4_85 (by omega) rfl (v := nI (tD τ j)) (hT.2.2.1 j (by omega)).2.2 dX4_steer_73 ?_
                  refine y_isub CC dX4_steer_76 (v := nI b - nI (tD τ j)) (by rfl) ?_
                  refine y_mabs CC mm_X4_146 (by decide) (Nat.le_of_ble_eq_true rfl) ⟨Nat.zero_le _, Nat.zero_le _⟩ (v := nI (dst b (tD τ j))) (i_abs (by omega) (by omega)) dX4_steer_77 ?_
                  have hd2 : dst b (tD τ j) ≤ 20 := by unfold dst; omega
                  refine z_icmp_ge CC 87 dX4_steer_80 (by decide) (a := ((dst v (tD τ j) : Nat) : Int)) (b := ((dst b (tD τ j) : Nat) : Int)) (nI_toInt (by omega)) (nI_toInt (by omega)) (fun c_12 => ?_) (fun c_12 => ?_)
                  · skip
                    refine y_iconst CC (nI 0) dX4_steer_87 (by decide) ?_
                    refine y_istore CC [(7, .int (nI 0)), (6, .int (nI v)), (5, .int (nI b)), (4, .ref (ad (4 * 1 + 18 + j))), (0, .ref (ad 0)), (1, .int (nI j)), (2, .int (nI jp)), (3, .int (nI jm))] dX4_steer_88 (by decide) rfl ?_
                    refine y_iload CC 0 dX4_steer_90 rfl ?_
                    refine z_if_eqT CC 123 dX4_steer_92 (by decide) (a := (0 : Int)) (nI_toInt (by decide)) (by decide) ?_
                    refine y_iinc CC 1 (nI (v + 1)) [(6, .int (nI (v + 1))), (7, .int (nI 0)), (5, .int (nI b)), (4, .ref (ad (4 * 1 + 18 + j))), (0, .ref (ad 0)), (1, .int (nI j)), (2, .int (nI jp)), (3, .int (nI jm))] dX4_steer_123 rfl (i_inc _) (by decide) rfl ?_
                    refine y_goto CC 45 dX4_steer_126 (by decide) ?_
                    refine y_lvE (lv2 := [(6, .int (nI (v + 1))), (7, .int (nI 0)), (5, .int (oI (stS τ j jp jm (v + 1)))), (4, .ref (ad (4 * 1 + 18 + j))), (0, .ref (ad 0)), (1, .int (nI j)), (2, .int (nI jp)), (3, .int (nI jm))]) (by rw [stS_s hb_, if_neg (fun q_ => by omega)]; rfl) ?_
                    refine y_lv [0, 2, 3, 4, 5, 6, 7] rfl ?_
                    exact ih45 (v + 1) (by omega) (by omega)
                  · skip
                    refine y_iconst CC (nI 1) dX4_steer_83 (by decide) ?_
                    refine y_goto CC 88 dX4_steer_84 (by decide) ?_
                    refine y_istore CC [(7, .int (nI 1)), (6, .int (nI v)), (5, .int (nI b)), (4, .ref (ad (4 * 1 + 18 + j))), (0, .ref (ad 0)), (1, .int (nI j)), (2, .int (nI jp)), (3, .int (nI jm))] dX4_steer_88 (by decide) rfl ?_
                    refine y_iload CC 0 dX4_steer_90 rfl ?_
                    refine z_if_eqF CC 123 dX4_steer_92 (by decide) (a := (1 : Int)) (nI_toInt (by decide)) (by decide) ?_
                    refine y_aload_n CC 4 dX4_steer_95 rfl rfl ?_
                    refine y_getr CC gl_X4_14 (by omega) (d := 1) rfl dX4_steer_96 ?_
                    refine y_aload CC 3 dX4_steer_99 rfl ?_
                    refine y_geti CC gl_X4_77 (by omega) rfl (v := nI (tK τ j)) (hT.2.2.1 j (by omega)).1 dX4_steer_101 ?_
                    refine y_aload CC 3 dX4_steer_104 rfl ?_
                    refine y_geti CC gl_X4_82 (by omega) rfl (v := nI (tA τ j)) (hT.2.2.1 j (by omega)).2.1 dX4_steer_106 ?_
                    refine y_iload CC 1 dX4_steer_109 rfl ?_
                    refine y_iload_n CC 7 dX4_steer_111 rfl rfl ?_
                    refine y_callVI (ci := 3) (st := []) CC cl_X4_151 (k_placeIf l D ad kI kS kL μ 1 (by omega) τ hT hB (by omega) (tK τ j) (tA τ j) v jm (by omega) (by omega) (by omega) (by omega)) (by omega) rfl rfl rfl (Nat.le_of_ble_eq_true rfl) ⟨by decide, by decide⟩ ⟨Nat.zero_le _, Nat.zero_le _⟩ dX4_steer_112 (fun r_ μ_ w_13 => ?_)
                    obtain ⟨rfl, rfl⟩ := w_13
                    have hlt_ := pif_lt (show 0 < tP τ by omega) (tK τ j) (tA τ j) v jm
                    refine y_iload_n CC 6 dX4_steer_115 rfl rfl ?_
                    refine z_icmp_ne CC 123 dX4_steer_116 (by decide) (a := ((pif τ (tK τ j) (tA τ j) v jm : Nat) : Int)) (b := ((jp : Nat) : Int)) (nI_toInt (by omega)) (nI_toInt (by omega)) (fun c_14 => ?_) (fun c_14 => ?_)
                    · skip
                      refine y_iinc CC 1 (nI (v + 1)) [(6, .int (nI (v + 1))), (7, .int (nI 1)), (5, .int (nI b)), (4, .ref (ad (4 * 1 + 18 + j))), (0, .ref (ad 0)), (1, .int (nI j)), (2, .int (nI jp)), (3, .int (nI jm))] dX4_steer_123 rfl (i_inc _) (by decide) rfl ?_
                      refine y_goto CC 45 dX4_steer_126 (by decide) ?_
                      refine y_lvE (lv2 := [(6, .int (nI (v + 1))), (7, .int (nI 1)), (5, .int (oI (stS τ j jp jm (v + 1)))), (4, .ref (ad (4 * 1 + 18 + j))), (0, .ref (ad 0)), (1, .int (nI j)), (2, .int (nI jp)), (3, .int (nI jm))]) (by rw [stS_s hb_, if_neg (fun q_ => by omega)]; rfl) ?_
                      refine y_lv [0, 2, 3, 4, 5, 6, 7] rfl ?_
                      exact ih45 (v + 1) (by omega) (by omega)
                    · skip
                      refine y_iload CC 1 dX4_steer_119 rfl ?_
                      refine y_istore CC [(5, .int (nI v)), (7, .int (nI 1)), (6, .int (nI v)), (4, .ref (ad (4 * 1 + 18 + j))), (0, .ref (ad 0)), (1, .int (nI j)), (2, .int (nI jp)), (3, .int (nI jm))] dX4_steer_121 (by decide) rfl ?_
                      refine y_iinc CC 2 (nI (v + 1)) [(6, .int (nI (v + 1))), (5, .int (nI v)), (7, .int (nI 1)), (4, .ref (ad (4 * 1 + 18 + j))), (0, .ref (ad 0)), (1, .int (nI j)), (2, .int (nI jp)), (3, .int (nI jm))] dX4_steer_123 rfl (i_inc _) (by decide) rfl ?_
                      refine y_goto CC 45 dX4_steer_126 (by decide) ?_
                      refine y_lvE (lv2 := [(6, .int (nI (v + 1))), (5, .int (oI (stS τ j jp jm (v + 1)))), (7, .int (nI 1)), (4, .ref (ad (4 * 1 + 18 + j))), (0, .ref (ad 0)), (1, .int (nI j)), (2, .int (nI jp)), (3, .int (nI jm))]) (by rw [stS_s hb_, if_pos ⟨by omega, by omega⟩]; rfl) ?_
                      refine y_lv [0, 1, 3, 4, 5, 6, 7] rfl ?_
                      exact ih45 (v + 1) (by omega) (by omega)
        exact L45 _ 0 (Nat.lt_succ_self _) (Nat.zero_le _)
      · skip
        refine z_if_neF CC 38 dX4_steer_32 (by decide) (a := (0 : Int)) (nI_toInt (by decide)) (by decide) ?_
        refine y_bipush CC ((-2)) dX4_steer_35 (by decide) ?_
        exact y_iret CC hQ dX4_steer_37 (⟨rfl, by simp [q_steer, b_1, ix_nI (show j < 2 ^ 31 by omega), b_3, ix_nI (show jp < 2 ^ 31 by omega), b_5]⟩)
    · skip
      refine z_if_neF CC 28 dX4_steer_23 (by decide) (a := (0 : Int)) (nI_toInt (by decide)) (by decide) ?_
      refine y_iconst CC ((-1)) dX4_steer_26 (by decide) ?_
      exact y_iret CC hQ dX4_steer_27 (⟨rfl, by simp [q_steer, b_1, ix_nI (show j < 2 ^ 31 by omega), b_3]⟩)
  · skip
    refine y_eq (st2 := [.null]) rfl ?_
    refine y_astoreN CC [(4, .null), (0, .ref (ad 0)), (1, .int a), (2, .int p), (3, .int m)] dX4_steer_8 (by decide) rfl ?_
    refine y_aloadN CC 0 dX4_steer_10 rfl ?_
    refine y_ifnullN CC 26 dX4_steer_12 (by decide) ?_
    refine y_iconst CC ((-1)) dX4_steer_26 (by decide) ?_
    exact y_iret CC hQ dX4_steer_27 (⟨rfl, by simp [q_steer, b_1]⟩)

set_option maxRecDepth 100000 in
set_option maxHeartbeats 4000000 in
theorem x_guard (l : Launch) (D : va_G) (ad : Nat → Nat) (kI kS kL : ClassId) (μ : Mem) (τ : Tn) (hT : TX μ 1 τ) (hV : tV τ)  : MI l D ad kI kS kL yX4_guard cX4_guard 1 (some .int) 5 117 [.ref (ad 0)] μ (fun r μ2 => μ = μ2 ∧ r = q_guard τ) := by
  refine met_I RX4 rfl (by decide) (lv := [(0, .ref (ad 0))]) rfl (Nat.le_of_ble_eq_true rfl) ?_
  intro pp ee ss mm aa bb me cd AA hA0 CC hnm QQ hQ
  have hB := hV.1
  have hP9 : tP τ ≤ 9 := hB.1
  have hS4 : tS τ ≤ 4 := hB.2.1
  have hVc := hV.2.1
  refine y_aload_n CC 0 dX4_guard_0 rfl rfl ?_
  refine y_getr CC gl_X4_14 (by omega) (d := 1) rfl dX4_guard_1 ?_
  refine y_callVI (ci := 3) (st := []) CC cl_X4_110 (k_isThere l D ad kI kS kL μ 1 (by omega) τ hT hB) (by omega) rfl rfl rfl (Nat.le_of_ble_eq_true rfl) ⟨by decide, by decide⟩ ⟨Nat.zero_le _, Nat.zero_le _⟩ dX4_guard_4 (fun r_ μ_ w_2 => ?_)
  rcases w_2 with ⟨rfl, ⟨b_1, rfl⟩ | ⟨b_1, rfl⟩⟩
  · skip
    have hb_b_1 := of_decide_eq_true b_1
    refine z_if_eqF CC 20 dX4_guard_7 (by decide) (a := (1 : Int)) (nI_toInt (by decide)) (by decide) ?_
    refine y_aload_n CC 0 dX4_guard_10 rfl rfl ?_
    refine y_getr CC gl_X4_14 (by omega) (d := 1) rfl dX4_guard_11 ?_
    refine y_callVI (ci := 3) (st := []) CC cl_X4_154 (k_placeWhereMostCome l D ad kI kS kL μ 1 (by omega) τ hT hB (by omega)) (by omega) rfl rfl rfl (Nat.le_of_ble_eq_true rfl) ⟨by decide, by decide⟩ ⟨Nat.zero_le _, Nat.zero_le _⟩ dX4_guard_14 (fun r_ μ_ w_3 => ?_)
    obtain ⟨rfl, rfl⟩ := w_3
    refine y_goto CC 22 dX4_guard_17 (by decide) ?_
    exact y_iret CC hQ dX4_guard_22 (⟨rfl, by simp [q_guard, b_1, hb_b_1]⟩)
  · skip
    have hb_b_1 := of_decide_eq_false b_1
    refine z_if_eqT CC 20 dX4_guard_7 (by decide) (a := (0 : Int)) (nI_toInt (by decide)) (by decide) ?_
    refine y_bipush CC ((-3)) dX4_guard_20 (by decide) ?_
    exact y_iret CC hQ dX4_guard_22 (⟨rfl, by simp [q_guard, b_1, hb_b_1]⟩)

set_option maxRecDepth 100000 in
set_option maxHeartbeats 4000000 in
theorem x_reading (l : Launch) (D : va_G) (ad : Nat → Nat) (kI kS kL : ClassId) (μ : Mem) (τ : Tn) (hT : TX μ 1 τ) (hV : tV τ) (ρ : Tn) (hR : RX μ ρ) (hrb : rB τ ρ) (a m p : Int32) : MI l D ad kI kS kL yX4_reading cX4_reading 4 (some .int) 1 23 [.ref (ad 0), .int a, .int m, .int p] μ (fun r μ2 => (μ2 = if ok_reading τ ρ a m p = true then mu (mu (mu (mu μ 11 (ρ 3 0) a) 12 (ρ 3 0) m) 13 (ρ 3 0) p) 3 3 (nI (ρ 3 0 + 1)) else μ) ∧ r = q_reading τ ρ a m p) := by
  refine met_I RX4 rfl (by decide) (lv := [(0, .ref (ad 0)), (1, .int a), (2, .int m), (3, .int p)]) rfl (Nat.le_of_ble_eq_true rfl) ?_
  intro pp ee ss mm aa bb me cd AA hA0 CC hnm QQ hQ
  have hB := hV.1
  have hP9 : tP τ ≤ 9 := hB.1
  have hS4 : tS τ ≤ 4 := hB.2.1
  have hVc := hV.2.1
  have hR8 := hrb.1
  refine y_aload_n CC 0 dX4_reading_0 rfl rfl ?_
  refine y_getr CC gl_X4_14 (by omega) (d := 1) rfl dX4_reading_1 ?_
  refine y_iload_n CC 1 dX4_reading_4 rfl rfl ?_
  refine y_callVI (ci := 3) (st := []) CC cl_X4_98 (k_hasSleeper l D ad kI kS kL μ 1 (by omega) τ hT hB a) (by omega) rfl rfl rfl (Nat.le_of_ble_eq_true rfl) ⟨by decide, by decide⟩ ⟨Nat.zero_le _, Nat.zero_le _⟩ dX4_reading_5 (fun r_ μ_ w_3 => ?_)
  rcases w_3 with ⟨rfl, ⟨b_1, rfl⟩ | ⟨b_1, rfl⟩⟩
  · skip
    obtain ⟨j_2, hj_2, rfl⟩ := inB_of b_1 (by omega)
    refine z_if_eqF CC 22 dX4_reading_8 (by decide) (a := (1 : Int)) (nI_toInt (by decide)) (by decide) ?_
    refine y_aload_n CC 0 dX4_reading_11 rfl rfl ?_
    refine y_getr CC gl_X4_14 (by omega) (d := 1) rfl dX4_reading_12 ?_
    refine y_iload_n CC 3 dX4_reading_15 rfl rfl ?_
    refine y_callVI (ci := 3) (st := []) CC cl_X4_88 (k_hasPlace l D ad kI kS kL μ 1 (by omega) τ hT hB p) (by omega) rfl rfl rfl (Nat.le_of_ble_eq_true rfl) ⟨by decide, by decide⟩ ⟨Nat.zero_le _, Nat.zero_le _⟩ dX4_reading_16 (fun r_ μ_ w_6 => ?_)
    rcases w_6 with ⟨rfl, ⟨b_4, rfl⟩ | ⟨b_4, rfl⟩⟩
    · skip
      obtain ⟨j_5, hj_5, rfl⟩ := inB_of b_4 (by omega)
      refine z_if_neT CC 24 dX4_reading_19 (by decide) (a := (1 : Int)) (nI_toInt (by decide)) (by decide) ?_
      refine y_iload_n CC 2 dX4_reading_24 rfl rfl ?_
      refine y_callSI (st := []) CC cl_X4_101 (k_isMinute l D ad kI kS kL μ m) rfl rfl (Nat.le_of_ble_eq_true rfl) ⟨by decide, by decide⟩ ⟨Nat.zero_le _, Nat.zero_le _⟩ dX4_reading_25 (fun r_ μ_ w_9 => ?_)
      rcases w_9 with ⟨rfl, ⟨b_7, rfl⟩ | ⟨b_7, rfl⟩⟩
      · skip
        obtain ⟨m_8, hm_8, rfl⟩ := inB_of b_7 (by omega)
        refine z_if_neT CC 34 dX4_reading_28 (by decide) (a := (1 : Int)) (nI_toInt (by decide)) (by decide) ?_
        refine y_aload_n CC 0 dX4_reading_34 rfl rfl ?_
        refine y_getr CC gl_X4_24 (by omega) (d := 3) rfl dX4_reading_35 ?_
        refine y_iload_n CC 1 dX4_reading_38 rfl rfl ?_
        refine y_iload_n CC 2 dX4_reading_39 rfl rfl ?_
        refine y_iload_n CC 3 dX4_reading_40 rfl rfl ?_
        refine y_callVI (ci := 0) (st := []) CC cl_X4_157 (k_add l D ad kI kS kL μ ρ hR hR8 j_2 m_8 j_5) (by omega) rfl rfl rfl (Nat.le_of_ble_eq_true rfl) ⟨by decide, by decide⟩ ⟨Nat.zero_le _, Nat.zero_le _⟩ dX4_reading_41 (fun r_ μ_ w_10 => ?_)
        rcases w_10 with ⟨h8, rfl, rfl⟩ | ⟨h8, rfl, rfl⟩
        · skip
          exact y_iret CC hQ dX4_reading_44 (⟨by simp [ok_reading, b_1, ix_nI (show j_2 < 2 ^ 31 by omega), b_4, ix_nI (show j_5 < 2 ^ 31 by omega), b_7, ix_nI (show m_8 < 2 ^ 31 by omega), h8], by simp [q_reading, b_1, ix_nI (show j_2 < 2 ^ 31 by omega), b_4, ix_nI (show j_5 < 2 ^ 31 by omega), b_7, ix_nI (show m_8 < 2 ^ 31 by omega), h8]⟩)
        · skip
          exact y_iret CC hQ dX4_reading_44 (⟨by simp [ok_reading, b_1, ix_nI (show j_2 < 2 ^ 31 by omega), b_4, ix_nI (show j_5 < 2 ^ 31 by omega), b_7, ix_nI (show m_8 < 2 ^ 31 by omega), h8, show ¬ ρ 3 0 = 8 by omega], by simp [q_reading, b_1, ix_nI (show j_2 < 2 ^ 31 by omega), b_4, ix_nI (show j_5 < 2 ^ 31 by omega), b_7, ix_nI (show m_8 < 2 ^ 31 by omega), h8, show ¬ ρ 3 0 = 8 by omega]⟩)
      · skip
        refine z_if_neF CC 34 dX4_reading_28 (by decide) (a := (0 : Int)) (nI_toInt (by decide)) (by decide) ?_
        refine y_bipush CC ((-2)) dX4_reading_31 (by decide) ?_
        exact y_iret CC hQ dX4_reading_33 (⟨by simp [ok_reading, b_1, ix_nI (show j_2 < 2 ^ 31 by omega), b_4, ix_nI (show j_5 < 2 ^ 31 by omega), b_7], by simp [q_reading, b_1, ix_nI (show j_2 < 2 ^ 31 by omega), b_4, ix_nI (show j_5 < 2 ^ 31 by omega), b_7]⟩)
    · skip
      refine z_if_neF CC 24 dX4_reading_19 (by decide) (a := (0 : Int)) (nI_toInt (by decide)) (by decide) ?_
      refine y_iconst CC ((-1)) dX4_reading_22 (by decide) ?_
      exact y_iret CC hQ dX4_reading_23 (⟨by simp [ok_reading, b_1, ix_nI (show j_2 < 2 ^ 31 by omega), b_4], by simp [q_reading, b_1, ix_nI (show j_2 < 2 ^ 31 by omega), b_4]⟩)
  · skip
    refine z_if_eqT CC 22 dX4_reading_8 (by decide) (a := (0 : Int)) (nI_toInt (by decide)) (by decide) ?_
    refine y_iconst CC ((-1)) dX4_reading_22 (by decide) ?_
    exact y_iret CC hQ dX4_reading_23 (⟨by simp [ok_reading, b_1], by simp [q_reading, b_1]⟩)

set_option maxRecDepth 100000 in
set_option maxHeartbeats 4000000 in
theorem x_back (l : Launch) (D : va_G) (ad : Nat → Nat) (kI kS kL : ClassId) (μ : Mem) (τ : Tn) (hT : TX μ 1 τ) (hV : tV τ) (ρ : Tn) (hR : RX μ ρ) (hrb : rB τ ρ) (k : Int32) : MI l D ad kI kS kL yX4_back cX4_back 2 (some .int) 1 21 [.ref (ad 0), .int k] μ (fun r μ2 => (μ2 = if inB k (ρ 3 0 + 1) = true then mu μ 3 3 (nI (ρ 3 0 - ix k)) else μ) ∧ r = q_back ρ k) := by
  refine met_I RX4 rfl (by decide) (lv := [(0, .ref (ad 0)), (1, .int k)]) rfl (Nat.le_of_ble_eq_true rfl) ?_
  intro pp ee ss mm aa bb me cd AA hA0 CC hnm QQ hQ
  have hB := hV.1
  have hP9 : tP τ ≤ 9 := hB.1
  have hS4 : tS τ ≤ 4 := hB.2.1
  have hVc := hV.2.1
  have hR8 := hrb.1
  refine y_iload_n CC 1 dX4_back_0 rfl rfl ?_
  refine z_if_lt CC 15 dX4_back_1 (by decide) (a := (k).toInt) rfl (fun c_1 => ?_) (fun c_1 => ?_)
  · skip
    have hk_ : inB k (ρ 3 0 + 1) = false := inB_f (by omega)
    refine y_bipush CC ((-2)) dX4_back_15 (by decide) ?_
    exact y_iret CC hQ dX4_back_17 (⟨by simp [hk_], by simp [q_back, hk_]⟩)
  · skip
    refine y_iload_n CC 1 dX4_back_4 rfl rfl ?_
    refine y_aload_n CC 0 dX4_back_5 rfl rfl ?_
    refine y_getr CC gl_X4_24 (by omega) (d := 3) rfl dX4_back_6 ?_
    refine y_callVI (ci := 0) (st := [.int k]) CC cl_X4_160 (k_howMany l D ad kI kS kL μ ρ hR (by omega)) (by omega) rfl rfl rfl (Nat.le_of_ble_eq_true rfl) ⟨by decide, by decide⟩ ⟨Nat.zero_le _, Nat.zero_le _⟩ dX4_back_9 (fun r_ μ_ w_2 => ?_)
    obtain ⟨rfl, rfl⟩ := w_2
    refine z_icmp_le CC 18 dX4_back_12 (by decide) (a := (k).toInt) (b := ((ρ 3 0 : Nat) : Int)) rfl (nI_toInt (by omega)) (fun c_3 => ?_) (fun c_3 => ?_)
    · skip
      obtain ⟨j, hj, rfl⟩ := inB_of (x := k) (n := ρ 3 0 + 1) (inB_t (by omega)) (by omega)
      have hk_ : inB (nI j) (ρ 3 0 + 1) = true := inB_nI hj (by omega)
      refine y_aload_n CC 0 dX4_back_18 rfl rfl ?_
      refine y_getr CC gl_X4_24 (by omega) (d := 3) rfl dX4_back_19 ?_
      refine y_aload_n CC 0 dX4_back_22 rfl rfl ?_
      refine y_getr CC gl_X4_24 (by omega) (d := 3) rfl dX4_back_23 ?_
      refine y_callVI (ci := 0) (st := [.ref (ad 3)]) CC cl_X4_160 (k_howMany l D ad kI kS kL μ ρ hR (by omega)) (by omega) rfl rfl rfl (Nat.le_of_ble_eq_true rfl) ⟨by decide, by decide⟩ ⟨Nat.zero_le _, Nat.zero_le _⟩ dX4_back_26 (fun r_ μ_ w_4 => ?_)
      obtain ⟨rfl, rfl⟩ := w_4
      refine y_iload_n CC 1 dX4_back_29 rfl rfl ?_
      refine y_isub CC dX4_back_30 (v := nI ((ρ 3 0) - j)) (pk_sub (by omega)) ?_
      refine y_callVV (ci := 0) (st := []) CC cl_X4_65 (k_keepFirst l D ad kI kS kL μ ρ hR (by omega) ((ρ 3 0) - j)) (by omega) rfl rfl rfl (Nat.le_of_ble_eq_true rfl) ⟨by decide, by decide⟩ ⟨Nat.zero_le _, Nat.zero_le _⟩ dX4_back_31 (fun μ_ w_5 => ?_)
      obtain rfl := w_5
      refine y_aload_n CC 0 dX4_back_34 rfl rfl ?_
      refine y_getr CC gl_X4_24 (by omega) (d := 3) rfl dX4_back_35 ?_
      refine y_callVI (ci := 0) (st := []) CC cl_X4_160 (k_howMany l D ad kI kS kL (mu μ 3 3 (nI ((ρ 3 0) - j))) (tu ρ 3 0 (ρ 3 0 - j)) ⟨mu_at _ _ _ _, fun i hi => by rw [mu_ne _ _ (Or.inl (by decide)), mu_ne _ _ (Or.inl (by decide)), mu_ne _ _ (Or.inl (by decide))]; exact hR.2 i hi⟩ (by rw [tu_at]; omega)) (by omega) rfl rfl rfl (Nat.le_of_ble_eq_true rfl) ⟨by decide, by decide⟩ ⟨Nat.zero_le _, Nat.zero_le _⟩ dX4_back_38 (fun r_ μ_ w_6 => ?_)
      obtain ⟨rfl, rfl⟩ := w_6
      rw [tu_at]
      exact y_iret CC hQ dX4_back_41 (⟨by simp [hk_, ix_nI (show j < 2 ^ 31 by omega)], by simp [q_back, hk_, ix_nI (show j < 2 ^ 31 by omega)]⟩)
    · skip
      have hk_ : inB k (ρ 3 0 + 1) = false := inB_f (by omega)
      refine y_bipush CC ((-2)) dX4_back_15 (by decide) ?_
      exact y_iret CC hQ dX4_back_17 (⟨by simp [hk_], by simp [q_back, hk_]⟩)

set_option maxRecDepth 100000 in
set_option maxHeartbeats 4000000 in
theorem x_strides (l : Launch) (D : va_G) (ad : Nat → Nat) (kI kS kL : ClassId) (μ : Mem) (τ : Tn) (hT : TX μ 1 τ) (hV : tV τ) (ρ : Tn) (hR : RX μ ρ) (hrb : rB τ ρ) (a : Int32) : MI l D ad kI kS kL yX4_strides cX4_strides 5 (some .int) 4 96 [.ref (ad 0), .int a] μ (fun r μ2 => μ = μ2 ∧ r = q_strides τ ρ a) := by
  refine met_I RX4 rfl (by decide) (lv := [(0, .ref (ad 0)), (1, .int a)]) rfl (Nat.le_of_ble_eq_true rfl) ?_
  intro pp ee ss mm aa bb me cd AA hA0 CC hnm QQ hQ
  have hB := hV.1
  have hP9 : tP τ ≤ 9 := hB.1
  have hS4 : tS τ ≤ 4 := hB.2.1
  have hVc := hV.2.1
  have hR8 := hrb.1
  refine y_aload_n CC 0 dX4_strides_0 rfl rfl ?_
  refine y_getr CC gl_X4_14 (by omega) (d := 1) rfl dX4_strides_1 ?_
  refine y_iload_n CC 1 dX4_strides_4 rfl rfl ?_
  refine y_callVN (ci := 3) (st := []) CC cl_X4_73 (k_sleeperOrNull l D ad kI kS kL μ 1 (by omega) τ hT hB a) (by omega) rfl rfl rfl (Nat.le_of_ble_eq_true rfl) ⟨by decide, by decide⟩ ⟨Nat.zero_le _, Nat.zero_le _⟩ dX4_strides_5 (fun r_ μ_ w_2 => ?_)
  rcases w_2 with ⟨rfl, ⟨b_1, rfl⟩ | ⟨b_1, rfl⟩⟩
  · skip
    obtain ⟨j, hj, rfl⟩ := inB_of b_1 (by omega)
    refine y_eq (st2 := [.ref (ad (4 * 1 + 18 + j))]) (by rw [ix_nI (by omega)]; rfl) ?_
    refine y_astore_n CC [(2, .ref (ad (4 * 1 + 18 + j))), (0, .ref (ad 0)), (1, .int (nI j))] dX4_strides_8 rfl (by decide) rfl ?_
    refine y_aload_n CC 0 dX4_strides_9 rfl rfl ?_
    refine y_ifnonnull CC 15 dX4_strides_10 (by decide) ?_
    have hkb := hB.2.2.1 j (by omega)
    refine y_iconst CC (nI 0) dX4_strides_15 (by decide) ?_
    refine y_istore_n CC [(3, .int (nI 0)), (2, .ref (ad (4 * 1 + 18 + j))), (0, .ref (ad 0)), (1, .int (nI j))] dX4_strides_16 rfl (by decide) rfl ?_
    refine y_iconst CC (nI 0) dX4_strides_17 (by decide) ?_
    refine y_istore CC [(4, .int (nI 0)), (3, .int (nI 0)), (2, .ref (ad (4 * 1 + 18 + j))), (0, .ref (ad 0)), (1, .int (nI j))] dX4_strides_18 (by decide) rfl ?_
    have L20 : ∀ (n20 : Nat) (v : Nat), 4 - v < n20 → (v ≤ 4) → Y pp l ee (rmY 4 96) ss mm aa bb me cd D ad kI kS kL AA 5 0 0 QQ 20 [(4, .int (nI v)), (3, .int (nI (bs v (fun v_ => soB (tu τ 3 j v_) ρ)))), (2, .ref (ad (4 * 1 + 18 + j))), (0, .ref (ad 0)), (1, .int (nI j))] [] μ := by
      intro n20
      induction n20 with
      | zero => intro v hm20; exact absurd hm20 (Nat.not_lt_zero _)
      | succ n20 ih20 =>
        intro v hm20 hv
        refine y_iload CC 0 dX4_strides_20 rfl ?_
        refine y_iconst CC (nI 3) dX4_strides_22 (by decide) ?_
        refine z_icmp_gt CC 65 dX4_strides_23 (by decide) (a := ((v : Nat) : Int)) (b := (3 : Int)) (nI_toInt (by omega)) (nI_toInt (by decide)) (fun c_4 => ?_) (fun c_4 => ?_)
        · skip
          refine y_iload_n CC 1 dX4_strides_65 rfl rfl ?_
          exact y_iret CC hQ dX4_strides_66 (⟨rfl, by simp [q_strides, b_1, ix_nI (show j < 2 ^ 31 by omega)]; rw [show v = 4 by omega]⟩)
        · skip
          refine y_aload_n CC 3 dX4_strides_26 rfl rfl ?_
          refine y_getr CC gl_X4_24 (by omega) (d := 3) rfl dX4_strides_27 ?_
          refine y_aload_n CC 3 dX4_strides_30 rfl rfl ?_
          refine y_getr CC gl_X4_14 (by omega) (d := 1) rfl dX4_strides_31 ?_
          refine y_iload_n CC 4 dX4_strides_34 rfl rfl ?_
          refine y_aload_n CC 2 dX4_strides_35 rfl rfl ?_
          refine y_geti CC gl_X4_77 (by omega) rfl (v := nI (tK τ j)) (hT.2.2.1 j (by omega)).1 dX4_strides_36 ?_
          refine y_aload_n CC 2 dX4_strides_39 rfl rfl ?_
          refine y_geti CC gl_X4_82 (by omega) rfl (v := nI (tA τ j)) (hT.2.2.1 j (by omega)).2.1 dX4_strides_40 ?_
          refine y_iload CC 0 dX4_strides_43 rfl ?_
          refine y_callVI (ci := 0) (st := []) CC cl_X4_163 (k_areSo l D ad kI kS kL μ ρ hR (by omega) 1 (by omega) τ hT hB (by omega) hrb (tu τ 3 j v) j (tK τ j) (tA τ j) v (by omega) (by omega) (by omega) (by omega) (fun m_ => by simp [pl, pif, tu]) (fun b_ m_ h_ => by simp [pl, pif, tu, h_])) (by omega) rfl rfl rfl (Nat.le_of_ble_eq_true rfl) ⟨by decide, by decide⟩ ⟨Nat.zero_le _, Nat.zero_le _⟩ dX4_strides_45 (fun r_ μ_ w_6 => ?_)
          rcases w_6 with ⟨rfl, ⟨b_5, rfl⟩ | ⟨b_5, rfl⟩⟩
          · skip
            refine z_if_eqF CC 59 dX4_strides_48 (by decide) (a := (1 : Int)) (nI_toInt (by decide)) (by decide) ?_
            refine y_iload_n CC 1 dX4_strides_51 rfl rfl ?_
            refine y_iload CC 0 dX4_strides_52 rfl ?_
            refine y_callSI (st := [.int (nI (bs v (fun v_ => soB (tu τ 3 j v_) ρ)))]) CC cl_X4_132 (k_bit l D ad kI kS kL μ v (by omega)) rfl rfl (Nat.le_of_ble_eq_true rfl) ⟨by decide, by decide⟩ ⟨Nat.zero_le _, Nat.zero_le _⟩ dX4_strides_54 (fun r_ μ_ w_7 => ?_)
            obtain ⟨rfl, rfl⟩ := w_7
            refine y_ior CC dX4_strides_57 (v := nI (bs (v + 1) (fun v_ => soB (tu τ 3 j v_) ρ))) ((i_or _ _).trans (by rw [bs, if_pos b_5])) ?_
            refine y_istore_n CC [(3, .int (nI (bs (v + 1) (fun v_ => soB (tu τ 3 j v_) ρ)))), (4, .int (nI v)), (2, .ref (ad (4 * 1 + 18 + j))), (0, .ref (ad 0)), (1, .int (nI j))] dX4_strides_58 rfl (by decide) rfl ?_
            refine y_iinc CC 1 (nI (v + 1)) [(4, .int (nI (v + 1))), (3, .int (nI (bs (v + 1) (fun v_ => soB (tu τ 3 j v_) ρ)))), (2, .ref (ad (4 * 1 + 18 + j))), (0, .ref (ad 0)), (1, .int (nI j))] dX4_strides_59 rfl (i_inc _) (by decide) rfl ?_
            refine y_goto CC 20 dX4_strides_62 (by decide) ?_
            exact ih20 (v + 1) (by omega) (by omega)
          · skip
            refine z_if_eqT CC 59 dX4_strides_48 (by decide) (a := (0 : Int)) (nI_toInt (by decide)) (by decide) ?_
            refine y_lvE (lv2 := [(4, .int (nI v)), (3, .int (nI (bs (v + 1) (fun v_ => soB (tu τ 3 j v_) ρ)))), (2, .ref (ad (4 * 1 + 18 + j))), (0, .ref (ad 0)), (1, .int (nI j))]) (by rw [bs, if_neg (by rw [b_5]; decide), Nat.or_zero]) ?_
            refine y_iinc CC 0 (nI (v + 1)) [(4, .int (nI (v + 1))), (3, .int (nI (bs (v + 1) (fun v_ => soB (tu τ 3 j v_) ρ)))), (2, .ref (ad (4 * 1 + 18 + j))), (0, .ref (ad 0)), (1, .int (nI j))] dX4_strides_59 rfl (i_inc _) (by decide) rfl ?_
            refine y_goto CC 20 dX4_strides_62 (by decide) ?_
            exact ih20 (v + 1) (by omega) (by omega)
    exact L20 _ 0 (Nat.lt_succ_self _) (Nat.zero_le _)
  · skip
    refine y_eq (st2 := [.null]) rfl ?_
    refine y_astore_nN CC [(2, .null), (0, .ref (ad 0)), (1, .int a)] dX4_strides_8 rfl (by decide) rfl ?_
    refine y_aload_nN CC 0 dX4_strides_9 rfl rfl ?_
    refine y_ifnonnullN CC 15 dX4_strides_10 (by decide) ?_
    refine y_iconst CC ((-1)) dX4_strides_13 (by decide) ?_
    exact y_iret CC hQ dX4_strides_14 (⟨rfl, by simp [q_strides, b_1]⟩)

set_option maxRecDepth 100000 in
set_option maxHeartbeats 4000000 in
theorem x_kinds (l : Launch) (D : va_G) (ad : Nat → Nat) (kI kS kL : ClassId) (μ : Mem) (τ : Tn) (hT : TX μ 1 τ) (hV : tV τ) (ρ : Tn) (hR : RX μ ρ) (hrb : rB τ ρ) (a : Int32) : MI l D ad kI kS kL yX4_kinds cX4_kinds 5 (some .int) 4 96 [.ref (ad 0), .int a] μ (fun r μ2 => μ = μ2 ∧ r = q_kinds τ ρ a) := by
  refine met_I RX4 rfl (by decide) (lv := [(0, .ref (ad 0)), (1, .int a)]) rfl (Nat.le_of_ble_eq_true rfl) ?_
  intro pp ee ss mm aa bb me cd AA hA0 CC hnm QQ hQ
  have hB := hV.1
  have hP9 : tP τ ≤ 9 := hB.1
  have hS4 : tS τ ≤ 4 := hB.2.1
  have hVc := hV.2.1
  have hR8 := hrb.1
  refine y_aload_n CC 0 dX4_kinds_0 rfl rfl ?_
  refine y_getr CC gl_X4_14 (by omega) (d := 1) rfl dX4_kinds_1 ?_
  refine y_iload_n CC 1 dX4_kinds_4 rfl rfl ?_
  refine y_callVN (ci := 3) (st := []) CC cl_X4_73 (k_sleeperOrNull l D ad kI kS kL μ 1 (by omega) τ hT hB a) (by omega) rfl rfl rfl (Nat.le_of_ble_eq_true rfl) ⟨by decide, by decide⟩ ⟨Nat.zero_le _, Nat.zero_le _⟩ dX4_kinds_5 (fun r_ μ_ w_2 => ?_)
  rcases w_2 with ⟨rfl, ⟨b_1, rfl⟩ | ⟨b_1, rfl⟩⟩
  · skip
    obtain ⟨j, hj, rfl⟩ := inB_of b_1 (by omega)
    refine y_eq (st2 := [.ref (ad (4 * 1 + 18 + j))]) (by rw [ix_nI (by omega)]; rfl) ?_
    refine y_astore_n CC [(2, .ref (ad (4 * 1 + 18 + j))), (0, .ref (ad 0)), (1, .int (nI j))] dX4_kinds_8 rfl (by decide) rfl ?_
    refine y_aload_n CC 0 dX4_kinds_9 rfl rfl ?_
    refine y_ifnonnull CC 15 dX4_kinds_10 (by decide) ?_
    have hkb := hB.2.2.1 j (by omega)
    refine y_iconst CC (nI 0) dX4_kinds_15 (by decide) ?_
    refine y_istore_n CC [(3, .int (nI 0)), (2, .ref (ad (4 * 1 + 18 + j))), (0, .ref (ad 0)), (1, .int (nI j))] dX4_kinds_16 rfl (by decide) rfl ?_
    refine y_iconst CC (nI 0) dX4_kinds_17 (by decide) ?_
    refine y_istore CC [(4, .int (nI 0)), (3, .int (nI 0)), (2, .ref (ad (4 * 1 + 18 + j))), (0, .ref (ad 0)), (1, .int (nI j))] dX4_kinds_18 (by decide) rfl ?_
    have L20 : ∀ (n20 : Nat) (v : Nat), 3 - v < n20 → (v ≤ 3) → Y pp l ee (rmY 4 96) ss mm aa bb me cd D ad kI kS kL AA 5 0 0 QQ 20 [(4, .int (nI v)), (3, .int (nI (bs v (fun v_ => soB (tu τ 1 j v_) ρ)))), (2, .ref (ad (4 * 1 + 18 + j))), (0, .ref (ad 0)), (1, .int (nI j))] [] μ := by
      intro n20
      induction n20 with
      | zero => intro v hm20; exact absurd hm20 (Nat.not_lt_zero _)
      | succ n20 ih20 =>
        intro v hm20 hv
        refine y_iload CC 0 dX4_kinds_20 rfl ?_
        refine y_iconst CC (nI 2) dX4_kinds_22 (by decide) ?_
        refine z_icmp_gt CC 65 dX4_kinds_23 (by decide) (a := ((v : Nat) : Int)) (b := (2 : Int)) (nI_toInt (by omega)) (nI_toInt (by decide)) (fun c_4 => ?_) (fun c_4 => ?_)
        · skip
          refine y_iload_n CC 1 dX4_kinds_65 rfl rfl ?_
          exact y_iret CC hQ dX4_kinds_66 (⟨rfl, by simp [q_kinds, b_1, ix_nI (show j < 2 ^ 31 by omega)]; rw [show v = 3 by omega]⟩)
        · skip
          refine y_aload_n CC 3 dX4_kinds_26 rfl rfl ?_
          refine y_getr CC gl_X4_24 (by omega) (d := 3) rfl dX4_kinds_27 ?_
          refine y_aload_n CC 3 dX4_kinds_30 rfl rfl ?_
          refine y_getr CC gl_X4_14 (by omega) (d := 1) rfl dX4_kinds_31 ?_
          refine y_iload_n CC 4 dX4_kinds_34 rfl rfl ?_
          refine y_iload CC 0 dX4_kinds_35 rfl ?_
          refine y_aload_n CC 2 dX4_kinds_37 rfl rfl ?_
          refine y_geti CC gl_X4_82 (by omega) rfl (v := nI (tA τ j)) (hT.2.2.1 j (by omega)).2.1 dX4_kinds_38 ?_
          refine y_aload_n CC 2 dX4_kinds_41 rfl rfl ?_
          refine y_geti CC gl_X4_85 (by omega) rfl (v := nI (tD τ j)) (hT.2.2.1 j (by omega)).2.2 dX4_kinds_42 ?_
          refine y_callVI (ci := 0) (st := []) CC cl_X4_163 (k_areSo l D ad kI kS kL μ ρ hR (by omega) 1 (by omega) τ hT hB (by omega) hrb (tu τ 1 j v) j v (tA τ j) (tD τ j) (by omega) (by omega) (by omega) (by omega) (fun m_ => by simp [pl, pif, tu]) (fun b_ m_ h_ => by simp [pl, pif, tu, h_])) (by omega) rfl rfl rfl (Nat.le_of_ble_eq_true rfl) ⟨by decide, by decide⟩ ⟨Nat.zero_le _, Nat.zero_le _⟩ dX4_kinds_45 (fun r_ μ_ w_6 => ?_)
          rcases w_6 with ⟨rfl, ⟨b_5, rfl⟩ | ⟨b_5, rfl⟩⟩
          · skip
            refine z_if_eqF CC 59 dX4_kinds_48 (by decide) (a := (1 : Int)) (nI_toInt (by decide)) (by decide) ?_
            refine y_iload_n CC 1 dX4_kinds_51 rfl rfl ?_
            refine y_iload CC 0 dX4_kinds_52 rfl ?_
            refine y_callSI (st := [.int (nI (bs v (fun v_ => soB (tu τ 1 j v_) ρ)))]) CC cl_X4_132 (k_bit l D ad kI kS kL μ v (by omega)) rfl rfl (Nat.le_of_ble_eq_true rfl) ⟨by decide, by decide⟩ ⟨Nat.zero_le _, Nat.zero_le _⟩ dX4_kinds_54 (fun r_ μ_ w_7 => ?_)
            obtain ⟨rfl, rfl⟩ := w_7
            refine y_ior CC dX4_kinds_57 (v := nI (bs (v + 1) (fun v_ => soB (tu τ 1 j v_) ρ))) ((i_or _ _).trans (by rw [bs, if_pos b_5])) ?_
            refine y_istore_n CC [(3, .int (nI (bs (v + 1) (fun v_ => soB (tu τ 1 j v_) ρ)))), (4, .int (nI v)), (2, .ref (ad (4 * 1 + 18 + j))), (0, .ref (ad 0)), (1, .int (nI j))] dX4_kinds_58 rfl (by decide) rfl ?_
            refine y_iinc CC 1 (nI (v + 1)) [(4, .int (nI (v + 1))), (3, .int (nI (bs (v + 1) (fun v_ => soB (tu τ 1 j v_) ρ)))), (2, .ref (ad (4 * 1 + 18 + j))), (0, .ref (ad 0)), (1, .int (nI j))] dX4_kinds_59 rfl (i_inc _) (by decide) rfl ?_
            refine y_goto CC 20 dX4_kinds_62 (by decide) ?_
            exact ih20 (v + 1) (by omega) (by omega)
          · skip
            refine z_if_eqT CC 59 dX4_kinds_48 (by decide) (a := (0 : Int)) (nI_toInt (by decide)) (by decide) ?_
            refine y_lvE (lv2 := [(4, .int (nI v)), (3, .int (nI (bs (v + 1) (fun v_ => soB (tu τ 1 j v_) ρ)))), (2, .ref (ad (4 * 1 + 18 + j))), (0, .ref (ad 0)), (1, .int (nI j))]) (by rw [bs, if_neg (by rw [b_5]; decide), Nat.or_zero]) ?_
            refine y_iinc CC 0 (nI (v + 1)) [(4, .int (nI (v + 1))), (3, .int (nI (bs (v + 1) (fun v_ => soB (tu τ 1 j v_) ρ)))), (2, .ref (ad (4 * 1 + 18 + j))), (0, .ref (ad 0)), (1, .int (nI j))] dX4_kinds_59 rfl (i_inc _) (by decide) rfl ?_
            refine y_goto CC 20 dX4_kinds_62 (by decide) ?_
            exact ih20 (v + 1) (by omega) (by omega)
    exact L20 _ 0 (Nat.lt_succ_self _) (Nat.zero_le _)
  · skip
    refine y_eq (st2 := [.null]) rfl ?_
    refine y_astore_nN CC [(2, .null), (0, .ref (ad 0)), (1, .int a)] dX4_kinds_8 rfl (by decide) rfl ?_
    refine y_aload_nN CC 0 dX4_kinds_9 rfl rfl ?_
    refine y_ifnonnullN CC 15 dX4_kinds_10 (by decide) ?_
    refine y_iconst CC ((-1)) dX4_kinds_13 (by decide) ?_
    exact y_iret CC hQ dX4_kinds_14 (⟨rfl, by simp [q_kinds, b_1]⟩)

set_option maxRecDepth 100000 in
set_option maxHeartbeats 4000000 in
theorem x_starts (l : Launch) (D : va_G) (ad : Nat → Nat) (kI kS kL : ClassId) (μ : Mem) (τ : Tn) (hT : TX μ 1 τ) (hV : tV τ) (ρ : Tn) (hR : RX μ ρ) (hrb : rB τ ρ) (a : Int32) : MI l D ad kI kS kL yX4_starts cX4_starts 5 (some .int) 4 96 [.ref (ad 0), .int a] μ (fun r μ2 => μ = μ2 ∧ r = q_starts τ ρ a) := by
  refine met_I RX4 rfl (by decide) (lv := [(0, .ref (ad 0)), (1, .int a)]) rfl (Nat.le_of_ble_eq_true rfl) ?_
  intro pp ee ss mm aa bb me cd AA hA0 CC hnm QQ hQ
  have hB := hV.1
  have hP9 : tP τ ≤ 9 := hB.1
  have hS4 : tS τ ≤ 4 := hB.2.1
  have hVc := hV.2.1
  have hR8 := hrb.1
  refine y_aload_n CC 0 dX4_starts_0 rfl rfl ?_
  refine y_getr CC gl_X4_14 (by omega) (d := 1) rfl dX4_starts_1 ?_
  refine y_iload_n CC 1 dX4_starts_4 rfl rfl ?_
  refine y_callVN (ci := 3) (st := []) CC cl_X4_73 (k_sleeperOrNull l D ad kI kS kL μ 1 (by omega) τ hT hB a) (by omega) rfl rfl rfl (Nat.le_of_ble_eq_true rfl) ⟨by decide, by decide⟩ ⟨Nat.zero_le _, Nat.zero_le _⟩ dX4_starts_5 (fun r_ μ_ w_2 => ?_)
  rcases w_2 with ⟨rfl, ⟨b_1, rfl⟩ | ⟨b_1, rfl⟩⟩
  · skip
    obtain ⟨j, hj, rfl⟩ := inB_of b_1 (by omega)
    refine y_eq (st2 := [.ref (ad (4 * 1 + 18 + j))]) (by rw [ix_nI (by omega)]; rfl) ?_
    refine y_astore_n CC [(2, .ref (ad (4 * 1 + 18 + j))), (0, .ref (ad 0)), (1, .int (nI j))] dX4_starts_8 rfl (by decide) rfl ?_
    refine y_aload_n CC 0 dX4_starts_9 rfl rfl ?_
    refine y_ifnonnull CC 15 dX4_starts_10 (by decide) ?_
    have hkb := hB.2.2.1 j (by omega)
    refine y_iconst CC (nI 0) dX4_starts_15 (by decide) ?_
    refine y_istore_n CC [(3, .int (nI 0)), (2, .ref (ad (4 * 1 + 18 + j))), (0, .ref (ad 0)), (1, .int (nI j))] dX4_starts_16 rfl (by decide) rfl ?_
    refine y_iconst CC (nI 0) dX4_starts_17 (by decide) ?_
    refine y_istore CC [(4, .int (nI 0)), (3, .int (nI 0)), (2, .ref (ad (4 * 1 + 18 + j))), (0, .ref (ad 0)), (1, .int (nI j))] dX4_starts_18 (by decide) rfl ?_
    have L20 : ∀ (n20 : Nat) (v : Nat), tP τ - v < n20 → (v ≤ tP τ) → Y pp l ee (rmY 4 96) ss mm aa bb me cd D ad kI kS kL AA 5 0 0 QQ 20 [(4, .int (nI v)), (3, .int (nI (bs v (fun v_ => soB (tu τ 2 j v_) ρ)))), (2, .ref (ad (4 * 1 + 18 + j))), (0, .ref (ad 0)), (1, .int (nI j))] [] μ := by
      intro n20
      induction n20 with
      | zero => intro v hm20; exact absurd hm20 (Nat.not_lt_zero _)
      | succ n20 ih20 =>
        intro v hm20 hv
        refine y_iload CC 0 dX4_starts_20 rfl ?_
        refine y_aload_n CC 3 dX4_starts_22 rfl rfl ?_
        refine y_getr CC gl_X4_14 (by omega) (d := 1) rfl dX4_starts_23 ?_
        refine y_callVI (ci := 3) (st := [.int (nI v)]) CC cl_X4_167 (k_placeCount l D ad kI kS kL μ 1 (by omega) τ hT hB) (by omega) rfl rfl rfl (Nat.le_of_ble_eq_true rfl) ⟨by decide, by decide⟩ ⟨Nat.zero_le _, Nat.zero_le _⟩ dX4_starts_26 (fun r_ μ_ w_4 => ?_)
        obtain ⟨rfl, rfl⟩ := w_4
        refine z_icmp_ge CC 71 dX4_starts_29 (by decide) (a := ((v : Nat) : Int)) (b := ((tP τ : Nat) : Int)) (nI_toInt (by omega)) (nI_toInt (by omega)) (fun c_5 => ?_) (fun c_5 => ?_)
        · skip
          refine y_iload_n CC 1 dX4_starts_71 rfl rfl ?_
          exact y_iret CC hQ dX4_starts_72 (⟨rfl, by simp [q_starts, b_1, ix_nI (show j < 2 ^ 31 by omega)]; rw [show v = tP τ by omega]⟩)
        · skip
          refine y_aload_n CC 3 dX4_starts_32 rfl rfl ?_
          refine y_getr CC gl_X4_24 (by omega) (d := 3) rfl dX4_starts_33 ?_
          refine y_aload_n CC 3 dX4_starts_36 rfl rfl ?_
          refine y_getr CC gl_X4_14 (by omega) (d := 1) rfl dX4_starts_37 ?_
          refine y_iload_n CC 4 dX4_starts_40 rfl rfl ?_
          refine y_aload_n CC 2 dX4_starts_41 rfl rfl ?_
          refine y_geti CC gl_X4_77 (by omega) rfl (v := nI (tK τ j)) (hT.2.2.1 j (by omega)).1 dX4_starts_42 ?_
          refine y_iload CC 0 dX4_starts_45 rfl ?_
          refine y_aload_n CC 2 dX4_starts_47 rfl rfl ?_
          refine y_geti CC gl_X4_85 (by omega) rfl (v := nI (tD τ j)) (hT.2.2.1 j (by omega)).2.2 dX4_starts_48 ?_
          refine y_callVI (ci := 0) (st := []) CC cl_X4_163 (k_areSo l D ad kI kS kL μ ρ hR (by omega) 1 (by omega) τ hT hB (by omega) hrb (tu τ 2 j v) j (tK τ j) v (tD τ j) (by omega) (by omega) (by omega) (by omega) (fun m_ => by simp [pl, pif, tu]) (fun b_ m_ h_ => by simp [pl, pif, tu, h_])) (by omega) rfl rfl rfl (Nat.le_of_ble_eq_true rfl) ⟨by decide, by decide⟩ ⟨Nat.zero_le _, Nat.zero_le _⟩ dX4_starts_51 (fun r_ μ_ w_7 => ?_)
          rcases w_7 with ⟨rfl, ⟨b_6, rfl⟩ | ⟨b_6, rfl⟩⟩
          · skip
            refine z_if_eqF CC 65 dX4_starts_54 (by decide) (a := (1 : Int)) (nI_toInt (by decide)) (by decide) ?_
            refine y_iload_n CC 1 dX4_starts_57 rfl rfl ?_
            refine y_iload CC 0 dX4_starts_58 rfl ?_
            refine y_callSI (st := [.int (nI (bs v (fun v_ => soB (tu τ 2 j v_) ρ)))]) CC cl_X4_132 (k_bit l D ad kI kS kL μ v (by omega)) rfl rfl (Nat.le_of_ble_eq_true rfl) ⟨by decide, by decide⟩ ⟨Nat.zero_le _, Nat.zero_le _⟩ dX4_starts_60 (fun r_ μ_ w_8 => ?_)
            obtain ⟨rfl, rfl⟩ := w_8
            refine y_ior CC dX4_starts_63 (v := nI (bs (v + 1) (fun v_ => soB (tu τ 2 j v_) ρ))) ((i_or _ _).trans (by rw [bs, if_pos b_6])) ?_
            refine y_istore_n CC [(3, .int (nI (bs (v + 1) (fun v_ => soB (tu τ 2 j v_) ρ)))), (4, .int (nI v)), (2, .ref (ad (4 * 1 + 18 + j))), (0, .ref (ad 0)), (1, .int (nI j))] dX4_starts_64 rfl (by decide) rfl ?_
            refine y_iinc CC 1 (nI (v + 1)) [(4, .int (nI (v + 1))), (3, .int (nI (bs (v + 1) (fun v_ => soB (tu τ 2 j v_) ρ)))), (2, .ref (ad (4 * 1 + 18 + j))), (0, .ref (ad 0)), (1, .int (nI j))] dX4_starts_65 rfl (i_inc _) (by decide) rfl ?_
            refine y_goto CC 20 dX4_starts_68 (by decide) ?_
            exact ih20 (v + 1) (by omega) (by omega)
          · skip
            refine z_if_eqT CC 65 dX4_starts_54 (by decide) (a := (0 : Int)) (nI_toInt (by decide)) (by decide) ?_
            refine y_lvE (lv2 := [(4, .int (nI v)), (3, .int (nI (bs (v + 1) (fun v_ => soB (tu τ 2 j v_) ρ)))), (2, .ref (ad (4 * 1 + 18 + j))), (0, .ref (ad 0)), (1, .int (nI j))]) (by rw [bs, if_neg (by rw [b_6]; decide), Nat.or_zero]) ?_
            refine y_iinc CC 0 (nI (v + 1)) [(4, .int (nI (v + 1))), (3, .int (nI (bs (v + 1) (fun v_ => soB (tu τ 2 j v_) ρ)))), (2, .ref (ad (4 * 1 + 18 + j))), (0, .ref (ad 0)), (1, .int (nI j))] dX4_starts_65 rfl (i_inc _) (by decide) rfl ?_
            refine y_goto CC 20 dX4_starts_68 (by decide) ?_
            exact ih20 (v + 1) (by omega) (by omega)
    exact L20 _ 0 (Nat.lt_succ_self _) (Nat.zero_le _)
  · skip
    refine y_eq (st2 := [.null]) rfl ?_
    refine y_astore_nN CC [(2, .null), (0, .ref (ad 0)), (1, .int a)] dX4_starts_8 rfl (by decide) rfl ?_
    refine y_aload_nN CC 0 dX4_starts_9 rfl rfl ?_
    refine y_ifnonnullN CC 15 dX4_starts_10 (by decide) ?_
    refine y_iconst CC ((-1)) dX4_starts_13 (by decide) ?_
    exact y_iret CC hQ dX4_starts_14 (⟨rfl, by simp [q_starts, b_1]⟩)

set_option maxRecDepth 100000 in
set_option maxHeartbeats 4000000 in
theorem x_many (l : Launch) (D : va_G) (ad : Nat → Nat) (kI kS kL : ClassId) (μ : Mem) (τ : Tn) (hT : TX μ 1 τ) (hV : tV τ) (ρ : Tn) (hR : RX μ ρ) (hrb : rB τ ρ) (w : Int32) : MI l D ad kI kS kL yX4_many cX4_many 2 (some .int) 3 64 [.ref (ad 0), .int w] μ (fun r μ2 => μ = μ2 ∧ r = q_many τ ρ w) := by
  refine met_I RX4 rfl (by decide) (lv := [(0, .ref (ad 0)), (1, .int w)]) rfl (Nat.le_of_ble_eq_true rfl) ?_
  intro pp ee ss mm aa bb me cd AA hA0 CC hnm QQ hQ
  have hB := hV.1
  have hP9 : tP τ ≤ 9 := hB.1
  have hS4 : tS τ ≤ 4 := hB.2.1
  have hVc := hV.2.1
  have hR8 := hrb.1
  refine y_iload_n CC 1 dX4_many_0 rfl rfl ?_
  rcases (show (w).toInt = 0 ∨ (w).toInt = 1 ∨ (w).toInt = 2 ∨ (w).toInt = 3 ∨ ((w).toInt < 0 ∨ 3 < (w).toInt) by omega) with sw_1 | sw_1 | sw_1 | sw_1 | sw_1
  · skip
    refine y_tableIn CC (off := 31) 32 dX4_many_1 (by omega) (by omega) (by rw [sw_1]; rfl) (by decide) ?_
    refine y_aload_n CC 0 dX4_many_32 rfl rfl ?_
    refine y_getr CC gl_X4_14 (by omega) (d := 1) rfl dX4_many_33 ?_
    refine y_callVI (ci := 3) (st := []) CC cl_X4_69 (k_sleeperCount l D ad kI kS kL μ 1 (by omega) τ hT hB) (by omega) rfl rfl rfl (Nat.le_of_ble_eq_true rfl) ⟨by decide, by decide⟩ ⟨Nat.zero_le _, Nat.zero_le _⟩ dX4_many_36 (fun r_ μ_ w_2 => ?_)
    obtain ⟨rfl, rfl⟩ := w_2
    exact y_iret CC hQ dX4_many_39 (⟨rfl, by simp [q_many, sw_1]⟩)
  · skip
    refine y_tableIn CC (off := 39) 40 dX4_many_1 (by omega) (by omega) (by rw [sw_1]; rfl) (by decide) ?_
    refine y_aload_n CC 0 dX4_many_40 rfl rfl ?_
    refine y_getr CC gl_X4_14 (by omega) (d := 1) rfl dX4_many_41 ?_
    refine y_callVI (ci := 3) (st := []) CC cl_X4_167 (k_placeCount l D ad kI kS kL μ 1 (by omega) τ hT hB) (by omega) rfl rfl rfl (Nat.le_of_ble_eq_true rfl) ⟨by decide, by decide⟩ ⟨Nat.zero_le _, Nat.zero_le _⟩ dX4_many_44 (fun r_ μ_ w_3 => ?_)
    obtain ⟨rfl, rfl⟩ := w_3
    exact y_iret CC hQ dX4_many_47 (⟨rfl, by simp [q_many, sw_1]⟩)
  · skip
    refine y_tableIn CC (off := 47) 48 dX4_many_1 (by omega) (by omega) (by rw [sw_1]; rfl) (by decide) ?_
    refine y_aload_n CC 0 dX4_many_48 rfl rfl ?_
    refine y_getr CC gl_X4_14 (by omega) (d := 1) rfl dX4_many_49 ?_
    refine y_callVI (ci := 3) (st := []) CC cl_X4_220 (k_goodsOfAll l D ad kI kS kL μ 1 (by omega) τ hT hB) (by omega) rfl rfl rfl (Nat.le_of_ble_eq_true rfl) ⟨by decide, by decide⟩ ⟨Nat.zero_le _, Nat.zero_le _⟩ dX4_many_52 (fun r_ μ_ w_4 => ?_)
    obtain ⟨rfl, rfl⟩ := w_4
    exact y_iret CC hQ dX4_many_55 (⟨rfl, by simp [q_many, sw_1]⟩)
  · skip
    refine y_tableIn CC (off := 55) 56 dX4_many_1 (by omega) (by omega) (by rw [sw_1]; rfl) (by decide) ?_
    refine y_aload_n CC 0 dX4_many_56 rfl rfl ?_
    refine y_getr CC gl_X4_24 (by omega) (d := 3) rfl dX4_many_57 ?_
    refine y_callVI (ci := 0) (st := []) CC cl_X4_160 (k_howMany l D ad kI kS kL μ ρ hR (by omega)) (by omega) rfl rfl rfl (Nat.le_of_ble_eq_true rfl) ⟨by decide, by decide⟩ ⟨Nat.zero_le _, Nat.zero_le _⟩ dX4_many_60 (fun r_ μ_ w_5 => ?_)
    obtain ⟨rfl, rfl⟩ := w_5
    exact y_iret CC hQ dX4_many_63 (⟨rfl, by simp [q_many, sw_1]⟩)
  · skip
    refine y_tableOut CC 64 dX4_many_1 sw_1 (by decide) ?_
    refine y_bipush CC ((-2)) dX4_many_64 (by decide) ?_
    exact y_iret CC hQ dX4_many_66 (⟨rfl, by unfold q_many; rw [if_neg (by omega), if_neg (by omega), if_neg (by omega), if_neg (by omega)]⟩)

set_option maxRecDepth 100000 in
set_option maxHeartbeats 4000000 in
theorem x_trace (l : Launch) (D : va_G) (ad : Nat → Nat) (kI kS kL : ClassId) (μ : Mem)  : MI l D ad kI kS kL yX4_trace cX4_trace 1 (some .int) 0 0 [.ref (ad 0)] μ (fun r μ2 => μ = μ2 ∧ r = μ 0 4) := by
  refine met_I RX4 rfl (by decide) (lv := [(0, .ref (ad 0))]) rfl (Nat.le_of_ble_eq_true rfl) ?_
  intro pp ee ss mm aa bb me cd AA hA0 CC hnm QQ hQ
  refine y_aload_n CC 0 dX4_trace_0 rfl rfl ?_
  refine y_geti CC gl_X4_34 (by omega) rfl (v := μ 0 4) rfl dX4_trace_1 ?_
  exact y_iret CC hQ dX4_trace_4 (⟨rfl, rfl⟩)

set_option maxRecDepth 100000 in
set_option maxHeartbeats 4000000 in
theorem x_fault (l : Launch) (D : va_G) (ad : Nat → Nat) (kI kS kL : ClassId) (μ : Mem)  : MI l D ad kI kS kL yX4_fault cX4_fault 1 (some .int) 0 0 [.ref (ad 0)] μ (fun r μ2 => μ = μ2 ∧ r = μ 0 5) := by
  refine met_I RX4 rfl (by decide) (lv := [(0, .ref (ad 0))]) rfl (Nat.le_of_ble_eq_true rfl) ?_
  intro pp ee ss mm aa bb me cd AA hA0 CC hnm QQ hQ
  refine y_aload_n CC 0 dX4_fault_0 rfl rfl ?_
  refine y_geti CC gl_X4_38 (by omega) rfl (v := μ 0 5) rfl dX4_fault_1 ?_
  exact y_iret CC hQ dX4_fault_4 (⟨rfl, rfl⟩)

set_option maxRecDepth 100000 in
set_option maxHeartbeats 4000000 in
theorem k_leave (l : Launch) (D : va_G) (ad : Nat → Nat) (kI kS kL : ClassId) (μ : Mem) (b : Int32) : MV l D ad kI kS kL yX4_leave cX4_leave 2 none 0 0 [.ref (ad 0), .int b] μ (fun μ2 => μ2 = mu μ 0 4 (lv31 (μ 0 4) b)) := by
  refine met_V RX4 rfl (by decide) (lv := [(0, .ref (ad 0)), (1, .int b)]) rfl (Nat.le_of_ble_eq_true rfl) ?_
  intro pp ee ss mm aa bb me cd AA hA0 CC hnm QQ hQ
  refine y_aload_n CC 0 dX4_leave_0 rfl rfl ?_
  refine y_bipush CC (nI 31) dX4_leave_1 (by decide) ?_
  refine y_aload_n CC 0 dX4_leave_3 rfl rfl ?_
  refine y_geti CC gl_X4_34 (by omega) rfl (v := μ 0 4) rfl dX4_leave_4 ?_
  refine y_imul CC dX4_leave_7 (v := (nI 31) * (μ 0 4)) rfl ?_
  refine y_iload_n CC 1 dX4_leave_8 rfl rfl ?_
  refine y_iadd CC dX4_leave_9 (v := ((nI 31) * (μ 0 4)) + b) rfl ?_
  refine y_puti CC pl_X4_34 (by omega) rfl (Nat.le_of_ble_eq_true rfl) dX4_leave_10 ?_
  exact y_vret CC hQ dX4_leave_13 rfl

set_option maxRecDepth 100000 in
set_option maxHeartbeats 4000000 in
theorem k_cameTo (l : Launch) (D : va_G) (ad : Nat → Nat) (kI kS kL : ClassId) (μ : Mem) (f : Nat) (hf : f ≤ 4) : MI l D ad kI kS kL yX4_cameTo cX4_cameTo 2 (some .int) 0 0 [.ref (ad 0), .int (nI f)] μ (fun r μ2 => μ2 = mu μ 0 5 (nI f) ∧ r = -10 - nI f) := by
  refine met_I RX4 rfl (by decide) (lv := [(0, .ref (ad 0)), (1, .int (nI f))]) rfl (Nat.le_of_ble_eq_true rfl) ?_
  intro pp ee ss mm aa bb me cd AA hA0 CC hnm QQ hQ
  refine y_aload_n CC 0 dX4_cameTo_0 rfl rfl ?_
  refine y_iload_n CC 1 dX4_cameTo_1 rfl rfl ?_
  refine y_puti CC pl_X4_38 (by omega) rfl (Nat.le_of_ble_eq_true rfl) dX4_cameTo_2 ?_
  refine y_bipush CC ((-10)) dX4_cameTo_5 (by decide) ?_
  refine y_iload_n CC 1 dX4_cameTo_7 rfl rfl ?_
  refine y_isub CC dX4_cameTo_8 (v := (-10) - (nI f)) rfl ?_
  exact y_iret CC hQ dX4_cameTo_9 (⟨rfl, rfl⟩)

set_option maxRecDepth 100000 in
set_option maxHeartbeats 4000000 in
theorem k_sleeperBody (l : Launch) (D : va_G) (ad : Nat → Nat) (kI kS kL : ClassId) (μ : Mem) (q : Nat) (hq : isO 2 q) (d : Nat) (hd : μ q 2 = nI d) : MI l D ad kI kS kL yX4_sleeperBody cX4_sleeperBody 2 (some .int) 1 21 [.ref (ad 0), .ref (ad q)] μ (fun r μ2 => μ2 = mu μ 0 4 (lv31 (μ 0 4) (nI 1)) ∧ r = nI (d)) := by
  refine met_I RX4 rfl (by decide) (lv := [(0, .ref (ad 0)), (1, .ref (ad q))]) rfl (Nat.le_of_ble_eq_true rfl) ?_
  intro pp ee ss mm aa bb me cd AA hA0 CC hnm QQ hQ
  have hq0 : 22 ≤ q := by omega
  refine y_aload_n CC 0 dX4_sleeperBody_0 rfl rfl ?_
  refine y_iconst CC (nI 1) dX4_sleeperBody_1 (by decide) ?_
  refine y_callVV (ci := 4) (st := []) CC cl_X4_223 (k_leave l D ad kI kS kL μ (nI 1)) (by omega) rfl rfl rfl (Nat.le_of_ble_eq_true rfl) ⟨by decide, by decide⟩ ⟨Nat.zero_le _, Nat.zero_le _⟩ dX4_sleeperBody_2 (fun μ_ w_1 => ?_)
  obtain rfl := w_1
  refine y_aload_n CC 1 dX4_sleeperBody_5 rfl rfl ?_
  refine y_geti CC gl_X4_85 hq rfl (v := nI d) (by first | exact hd | (rw [mu_ne _ _ (Or.inl (by omega))]; exact hd)) dX4_sleeperBody_6 ?_
  exact y_iret CC hQ dX4_sleeperBody_9 (⟨by simp only [mu_at, mu_mu], rfl⟩)

set_option maxRecDepth 100000 in
set_option maxHeartbeats 4000000 in
theorem k_moonstruckBody (l : Launch) (D : va_G) (ad : Nat → Nat) (kI kS kL : ClassId) (μ : Mem) (q : Nat) (hq : isO 2 q) (d : Nat) (hd : μ q 2 = nI d) : MI l D ad kI kS kL yX4_moonstruckBody cX4_moonstruckBody 2 (some .int) 2 42 [.ref (ad 0), .ref (ad q)] μ (fun r μ2 => μ2 = mu μ 0 4 (lv31 (lv31 (μ 0 4) (nI 2)) (nI 1)) ∧ r = nI (d + 100)) := by
  refine met_I RX4 rfl (by decide) (lv := [(0, .ref (ad 0)), (1, .ref (ad q))]) rfl (Nat.le_of_ble_eq_true rfl) ?_
  intro pp ee ss mm aa bb me cd AA hA0 CC hnm QQ hQ
  have hq0 : 22 ≤ q := by omega
  refine y_aload_n CC 0 dX4_moonstruckBody_0 rfl rfl ?_
  refine y_iconst CC (nI 2) dX4_moonstruckBody_1 (by decide) ?_
  refine y_callVV (ci := 4) (st := []) CC cl_X4_223 (k_leave l D ad kI kS kL μ (nI 2)) (by omega) rfl rfl rfl (Nat.le_of_ble_eq_true rfl) ⟨by decide, by decide⟩ ⟨Nat.zero_le _, Nat.zero_le _⟩ dX4_moonstruckBody_2 (fun μ_ w_1 => ?_)
  obtain rfl := w_1
  refine y_aload_n CC 0 dX4_moonstruckBody_5 rfl rfl ?_
  refine y_aload_n CC 1 dX4_moonstruckBody_6 rfl rfl ?_
  refine y_callVI (ci := 4) (st := []) CC cl_X4_211 (k_sleeperBody l D ad kI kS kL (mu μ 0 4 (lv31 (μ 0 4) (nI 2))) q (by omega) d (by first | exact hd | (rw [mu_ne _ _ (Or.inl (by omega))]; exact hd) | (rw [mu_ne _ _ (Or.inl (by omega)), mu_ne _ _ (Or.inl (by omega))]; exact hd))) (by omega) rfl rfl rfl (Nat.le_of_ble_eq_true rfl) ⟨by decide, by decide⟩ ⟨Nat.zero_le _, Nat.zero_le _⟩ dX4_moonstruckBody_7 (fun r_ μ_ w_2 => ?_)
  obtain ⟨rfl, rfl⟩ := w_2
  refine y_bipush CC (nI 100) dX4_moonstruckBody_10 (by decide) ?_
  refine y_iadd CC dX4_moonstruckBody_12 (v := nI (d + 100)) (nI_add _ _) ?_
  exact y_iret CC hQ dX4_moonstruckBody_13 (⟨by simp only [mu_at, mu_mu], rfl⟩)

set_option maxRecDepth 100000 in
set_option maxHeartbeats 4000000 in
theorem k_restlessBody (l : Launch) (D : va_G) (ad : Nat → Nat) (kI kS kL : ClassId) (μ : Mem) (q : Nat) (hq : isO 2 q) (d : Nat) (hd : μ q 2 = nI d) : MI l D ad kI kS kL yX4_restlessBody cX4_restlessBody 3 (some .int) 3 63 [.ref (ad 0), .ref (ad q)] μ (fun r μ2 => μ2 = mu μ 0 4 (lv31 (lv31 (lv31 (lv31 (μ 0 4) (nI 3)) (nI 2)) (nI 1)) (nI 1)) ∧ r = nI (d + 100 + d)) := by
  refine met_I RX4 rfl (by decide) (lv := [(0, .ref (ad 0)), (1, .ref (ad q))]) rfl (Nat.le_of_ble_eq_true rfl) ?_
  intro pp ee ss mm aa bb me cd AA hA0 CC hnm QQ hQ
  have hq0 : 22 ≤ q := by omega
  refine y_aload_n CC 0 dX4_restlessBody_0 rfl rfl ?_
  refine y_iconst CC (nI 3) dX4_restlessBody_1 (by decide) ?_
  refine y_callVV (ci := 4) (st := []) CC cl_X4_223 (k_leave l D ad kI kS kL μ (nI 3)) (by omega) rfl rfl rfl (Nat.le_of_ble_eq_true rfl) ⟨by decide, by decide⟩ ⟨Nat.zero_le _, Nat.zero_le _⟩ dX4_restlessBody_2 (fun μ_ w_1 => ?_)
  obtain rfl := w_1
  refine y_aload_n CC 0 dX4_restlessBody_5 rfl rfl ?_
  refine y_aload_n CC 1 dX4_restlessBody_6 rfl rfl ?_
  refine y_callVI (ci := 4) (st := []) CC cl_X4_204 (k_moonstruckBody l D ad kI kS kL (mu μ 0 4 (lv31 (μ 0 4) (nI 3))) q (by omega) d (by first | exact hd | (rw [mu_ne _ _ (Or.inl (by omega))]; exact hd) | (rw [mu_ne _ _ (Or.inl (by omega)), mu_ne _ _ (Or.inl (by omega))]; exact hd))) (by omega) rfl rfl rfl (Nat.le_of_ble_eq_true rfl) ⟨by decide, by decide⟩ ⟨Nat.zero_le _, Nat.zero_le _⟩ dX4_restlessBody_7 (fun r_ μ_ w_2 => ?_)
  obtain ⟨rfl, rfl⟩ := w_2
  refine y_istore_n CC [(2, .int (nI (d + 100))), (0, .ref (ad 0)), (1, .ref (ad q))] dX4_restlessBody_10 rfl (by decide) rfl ?_
  refine y_iload_n CC 0 dX4_restlessBody_11 rfl rfl ?_
  refine y_aload_n CC 1 dX4_restlessBody_12 rfl rfl ?_
  refine y_aload_n CC 2 dX4_restlessBody_13 rfl rfl ?_
  refine y_callVI (ci := 4) (st := [.int (nI (d + 100))]) CC cl_X4_211 (k_sleeperBody l D ad kI kS kL (mu (mu μ 0 4 (lv31 (μ 0 4) (nI 3))) 0 4 (lv31 (lv31 ((mu μ 0 4 (lv31 (μ 0 4) (nI 3))) 0 4) (nI 2)) (nI 1))) q (by omega) d (by first | exact hd | (rw [mu_ne _ _ (Or.inl (by omega))]; exact hd) | (rw [mu_ne _ _ (Or.inl (by omega)), mu_ne _ _ (Or.inl (by omega))]; exact hd))) (by omega) rfl rfl rfl (Nat.le_of_ble_eq_true rfl) ⟨by decide, by decide⟩ ⟨Nat.zero_le _, Nat.zero_le _⟩ dX4_restlessBody_14 (fun r_ μ_ w_3 => ?_)
  obtain ⟨rfl, rfl⟩ := w_3
  refine y_iadd CC dX4_restlessBody_17 (v := nI ((d + 100) + d)) (nI_add _ _) ?_
  exact y_iret CC hQ dX4_restlessBody_18 (⟨by simp only [mu_at, mu_mu], rfl⟩)

set_option maxRecDepth 100000 in
set_option maxHeartbeats 4000000 in
theorem k_lentWakening (l : Launch) (D : va_G) (ad : Nat → Nat) (kI kS kL : ClassId) (μ : Mem) (x : Int32) : MI l D ad kI kS kL yX4_lentWakening cX4_lentWakening 2 (some .int) 1 21 [.ref (ad 0), .int x] μ (fun r μ2 => μ2 = mu μ 0 4 (lv31 (μ 0 4) (nI 4)) ∧ r = x) := by
  refine met_I RX4 rfl (by decide) (lv := [(0, .ref (ad 0)), (1, .int x)]) rfl (Nat.le_of_ble_eq_true rfl) ?_
  intro pp ee ss mm aa bb me cd AA hA0 CC hnm QQ hQ
  refine y_aload_n CC 0 dX4_lentWakening_0 rfl rfl ?_
  refine y_iconst CC (nI 4) dX4_lentWakening_1 (by decide) ?_
  refine y_callVV (ci := 4) (st := []) CC cl_X4_223 (k_leave l D ad kI kS kL μ (nI 4)) (by omega) rfl rfl rfl (Nat.le_of_ble_eq_true rfl) ⟨by decide, by decide⟩ ⟨Nat.zero_le _, Nat.zero_le _⟩ dX4_lentWakening_2 (fun μ_ w_1 => ?_)
  obtain rfl := w_1
  refine y_iload_n CC 1 dX4_lentWakening_5 rfl rfl ?_
  exact y_iret CC hQ dX4_lentWakening_6 (⟨rfl, rfl⟩)

set_option maxRecDepth 100000 in
set_option maxHeartbeats 4000000 in
theorem k_ownWakening (l : Launch) (D : va_G) (ad : Nat → Nat) (kI kS kL : ClassId) (μ : Mem)  : MI l D ad kI kS kL yX4_ownWakening cX4_ownWakening 1 (some .int) 1 21 [.ref (ad 0)] μ (fun r μ2 => μ2 = mu μ 0 4 (lv31 (μ 0 4) (nI 5)) ∧ r = nI 90) := by
  refine met_I RX4 rfl (by decide) (lv := [(0, .ref (ad 0))]) rfl (Nat.le_of_ble_eq_true rfl) ?_
  intro pp ee ss mm aa bb me cd AA hA0 CC hnm QQ hQ
  refine y_aload_n CC 0 dX4_ownWakening_0 rfl rfl ?_
  refine y_iconst CC (nI 5) dX4_ownWakening_1 (by decide) ?_
  refine y_callVV (ci := 4) (st := []) CC cl_X4_223 (k_leave l D ad kI kS kL μ (nI 5)) (by omega) rfl rfl rfl (Nat.le_of_ble_eq_true rfl) ⟨by decide, by decide⟩ ⟨Nat.zero_le _, Nat.zero_le _⟩ dX4_ownWakening_2 (fun μ_ w_1 => ?_)
  obtain rfl := w_1
  refine y_bipush CC (nI 90) dX4_ownWakening_5 (by decide) ?_
  exact y_iret CC hQ dX4_ownWakening_7 (⟨rfl, rfl⟩)

set_option maxRecDepth 100000 in
set_option maxHeartbeats 4000000 in
theorem x_tell (l : Launch) (D : va_G) (ad : Nat → Nat) (kI kS kL : ClassId) (μ : Mem) (τ : Tn) (hT : TX μ 1 τ) (hV : tV τ) (a : Int32) : MI l D ad kI kS kL yX4_tell cX4_tell 3 (some .int) 4 85 [.ref (ad 0), .int a] μ (fun r μ2 => (μ2 = if inB a (tS τ) = true then mu μ 0 4 (tr_tell τ a (μ 0 4)) else μ) ∧ r = q_tell τ a) := by
  refine met_I RX4 rfl (by decide) (lv := [(0, .ref (ad 0)), (1, .int a)]) rfl (Nat.le_of_ble_eq_true rfl) ?_
  intro pp ee ss mm aa bb me cd AA hA0 CC hnm QQ hQ
  have hB := hV.1
  have hP9 : tP τ ≤ 9 := hB.1
  have hS4 : tS τ ≤ 4 := hB.2.1
  have hVc := hV.2.1
  refine y_aload_n CC 0 dX4_tell_0 rfl rfl ?_
  refine y_getr CC gl_X4_14 (by omega) (d := 1) rfl dX4_tell_1 ?_
  refine y_iload_n CC 1 dX4_tell_4 rfl rfl ?_
  refine y_callVN (ci := 3) (st := []) CC cl_X4_73 (k_sleeperOrNull l D ad kI kS kL μ 1 (by omega) τ hT hB a) (by omega) rfl rfl rfl (Nat.le_of_ble_eq_true rfl) ⟨by decide, by decide⟩ ⟨Nat.zero_le _, Nat.zero_le _⟩ dX4_tell_5 (fun r_ μ_ w_2 => ?_)
  rcases w_2 with ⟨rfl, ⟨b_1, rfl⟩ | ⟨b_1, rfl⟩⟩
  · skip
    obtain ⟨j, hj, rfl⟩ := inB_of b_1 (by omega)
    refine y_eq (st2 := [.ref (ad (4 * 1 + 18 + j))]) (by rw [ix_nI (by omega)]; rfl) ?_
    refine y_astore_n CC [(2, .ref (ad (4 * 1 + 18 + j))), (0, .ref (ad 0)), (1, .int (nI j))] dX4_tell_8 rfl (by decide) rfl ?_
    refine y_aload_n CC 0 dX4_tell_9 rfl rfl ?_
    refine y_ifnonnull CC 15 dX4_tell_10 (by decide) ?_
    have hkb := hB.2.2.1 j (by omega)
    refine y_aload_n CC 0 dX4_tell_15 rfl rfl ?_
    refine y_geti CC gl_X4_77 (by omega) rfl (v := nI (tK τ j)) (hT.2.2.1 j (by omega)).1 dX4_tell_16 ?_
    have hd : μ (4 * 1 + 18 + j) 2 = nI (tD τ j) := (hT.2.2.1 j (by omega)).2.2
    rcases (show tK τ j = 0 ∨ tK τ j = 1 ∨ tK τ j = 2 by omega) with hk_ | hk_ | hk_
    · skip
      refine y_top (y := nI 0) (by rw [hk_]) ?_
      refine y_lookup CC (off := 37) 56 dX4_tell_19 (by decide) (by decide +kernel) (by decide) ?_
      refine y_aload_n CC 1 dX4_tell_56 rfl rfl ?_
      refine y_aload_n CC 0 dX4_tell_57 rfl rfl ?_
      refine y_callVI (ci := 4) (st := []) CC cl_X4_211 (k_sleeperBody l D ad kI kS kL μ (4 * 1 + 18 + j) (by omega) (tD τ j) (by first | exact hd | (rw [mu_ne _ _ (Or.inl (by omega))]; exact hd) | (rw [mu_ne _ _ (Or.inl (by omega)), mu_ne _ _ (Or.inl (by omega))]; exact hd))) (by omega) rfl rfl rfl (Nat.le_of_ble_eq_true rfl) ⟨by decide, by decide⟩ ⟨Nat.zero_le _, Nat.zero_le _⟩ dX4_tell_58 (fun r_ μ_ w_3 => ?_)
      obtain ⟨rfl, rfl⟩ := w_3
      exact y_iret CC hQ dX4_tell_61 (⟨by simp [tr_tell, b_1, ix_nI (show j < 2 ^ 31 by omega), hk_], by simp [q_tell, b_1, ix_nI (show j < 2 ^ 31 by omega), hk_]⟩)
    · skip
      refine y_top (y := nI 1) (by rw [hk_]) ?_
      refine y_lookup CC (off := 25) 44 dX4_tell_19 (by decide) (by decide +kernel) (by decide) ?_
      refine y_aload_n CC 1 dX4_tell_44 rfl rfl ?_
      refine y_aload_n CC 0 dX4_tell_45 rfl rfl ?_
      refine y_callVI (ci := 4) (st := []) CC cl_X4_204 (k_moonstruckBody l D ad kI kS kL μ (4 * 1 + 18 + j) (by omega) (tD τ j) (by first | exact hd | (rw [mu_ne _ _ (Or.inl (by omega))]; exact hd) | (rw [mu_ne _ _ (Or.inl (by omega)), mu_ne _ _ (Or.inl (by omega))]; exact hd))) (by omega) rfl rfl rfl (Nat.le_of_ble_eq_true rfl) ⟨by decide, by decide⟩ ⟨Nat.zero_le _, Nat.zero_le _⟩ dX4_tell_46 (fun r_ μ_ w_4 => ?_)
      obtain ⟨rfl, rfl⟩ := w_4
      exact y_iret CC hQ dX4_tell_49 (⟨by simp [tr_tell, b_1, ix_nI (show j < 2 ^ 31 by omega), hk_], by simp [q_tell, b_1, ix_nI (show j < 2 ^ 31 by omega), hk_]⟩)
    · skip
      refine y_top (y := nI 2) (by rw [hk_]) ?_
      refine y_lookup CC (off := 31) 50 dX4_tell_19 (by decide) (by decide +kernel) (by decide) ?_
      refine y_aload_n CC 1 dX4_tell_50 rfl rfl ?_
      refine y_aload_n CC 0 dX4_tell_51 rfl rfl ?_
      refine y_callVI (ci := 4) (st := []) CC cl_X4_208 (k_restlessBody l D ad kI kS kL μ (4 * 1 + 18 + j) (by omega) (tD τ j) (by first | exact hd | (rw [mu_ne _ _ (Or.inl (by omega))]; exact hd) | (rw [mu_ne _ _ (Or.inl (by omega)), mu_ne _ _ (Or.inl (by omega))]; exact hd))) (by omega) rfl rfl rfl (Nat.le_of_ble_eq_true rfl) ⟨by decide, by decide⟩ ⟨Nat.zero_le _, Nat.zero_le _⟩ dX4_tell_52 (fun r_ μ_ w_5 => ?_)
      obtain ⟨rfl, rfl⟩ := w_5
      exact y_iret CC hQ dX4_tell_55 (⟨by simp [tr_tell, b_1, ix_nI (show j < 2 ^ 31 by omega), hk_], by simp [q_tell, b_1, ix_nI (show j < 2 ^ 31 by omega), hk_]⟩)
  · skip
    refine y_eq (st2 := [.null]) rfl ?_
    refine y_astore_nN CC [(2, .null), (0, .ref (ad 0)), (1, .int a)] dX4_tell_8 rfl (by decide) rfl ?_
    refine y_aload_nN CC 0 dX4_tell_9 rfl rfl ?_
    refine y_ifnonnullN CC 15 dX4_tell_10 (by decide) ?_
    refine y_iconst CC ((-1)) dX4_tell_13 (by decide) ?_
    exact y_iret CC hQ dX4_tell_14 (⟨by simp [tr_tell, b_1], by simp [q_tell, b_1]⟩)

set_option maxRecDepth 100000 in
set_option maxHeartbeats 4000000 in
theorem x_waken (l : Launch) (D : va_G) (ad : Nat → Nat) (kI kS kL : ClassId) (μ : Mem) (τ : Tn) (hT : TX μ 1 τ) (hV : tV τ) (a : Int32) : MI l D ad kI kS kL yX4_waken cX4_waken 3 (some .int) 2 42 [.ref (ad 0), .int a] μ (fun r μ2 => (μ2 = if inB a (tS τ) = true then mu μ 0 4 (tr_waken τ a (μ 0 4)) else μ) ∧ r = q_waken τ a) := by
  refine met_I RX4 rfl (by decide) (lv := [(0, .ref (ad 0)), (1, .int a)]) rfl (Nat.le_of_ble_eq_true rfl) ?_
  intro pp ee ss mm aa bb me cd AA hA0 CC hnm QQ hQ
  have hB := hV.1
  have hP9 : tP τ ≤ 9 := hB.1
  have hS4 : tS τ ≤ 4 := hB.2.1
  have hVc := hV.2.1
  refine y_aload_n CC 0 dX4_waken_0 rfl rfl ?_
  refine y_getr CC gl_X4_14 (by omega) (d := 1) rfl dX4_waken_1 ?_
  refine y_iload_n CC 1 dX4_waken_4 rfl rfl ?_
  refine y_callVN (ci := 3) (st := []) CC cl_X4_73 (k_sleeperOrNull l D ad kI kS kL μ 1 (by omega) τ hT hB a) (by omega) rfl rfl rfl (Nat.le_of_ble_eq_true rfl) ⟨by decide, by decide⟩ ⟨Nat.zero_le _, Nat.zero_le _⟩ dX4_waken_5 (fun r_ μ_ w_2 => ?_)
  rcases w_2 with ⟨rfl, ⟨b_1, rfl⟩ | ⟨b_1, rfl⟩⟩
  · skip
    obtain ⟨j, hj, rfl⟩ := inB_of b_1 (by omega)
    refine y_eq (st2 := [.ref (ad (4 * 1 + 18 + j))]) (by rw [ix_nI (by omega)]; rfl) ?_
    refine y_astore_n CC [(2, .ref (ad (4 * 1 + 18 + j))), (0, .ref (ad 0)), (1, .int (nI j))] dX4_waken_8 rfl (by decide) rfl ?_
    refine y_aload_n CC 0 dX4_waken_9 rfl rfl ?_
    refine y_ifnonnull CC 15 dX4_waken_10 (by decide) ?_
    have hkb := hB.2.2.1 j (by omega)
    refine y_aload_n CC 0 dX4_waken_15 rfl rfl ?_
    refine y_geti CC gl_X4_77 (by omega) rfl (v := nI (tK τ j)) (hT.2.2.1 j (by omega)).1 dX4_waken_16 ?_
    refine y_iconst CC (nI 2) dX4_waken_19 (by decide) ?_
    refine z_icmp_ne CC 30 dX4_waken_20 (by decide) (a := ((tK τ j : Nat) : Int)) (b := (2 : Int)) (nI_toInt (by omega)) (nI_toInt (by decide)) (fun c_3 => ?_) (fun c_3 => ?_)
    · skip
      have hk_ : ¬ tK τ j = 2 := by omega
      refine y_aload_n CC 1 dX4_waken_30 rfl rfl ?_
      refine y_iload_n CC 2 dX4_waken_31 rfl rfl ?_
      refine y_callVI (ci := 4) (st := []) CC cl_X4_217 (k_lentWakening l D ad kI kS kL μ (nI j)) (by omega) rfl rfl rfl (Nat.le_of_ble_eq_true rfl) ⟨by decide, by decide⟩ ⟨Nat.zero_le _, Nat.zero_le _⟩ dX4_waken_32 (fun r_ μ_ w_4 => ?_)
      obtain ⟨rfl, rfl⟩ := w_4
      exact y_iret CC hQ dX4_waken_35 (⟨by simp [tr_waken, b_1, ix_nI (show j < 2 ^ 31 by omega), hk_], by simp [q_waken, b_1, ix_nI (show j < 2 ^ 31 by omega), hk_]⟩)
    · skip
      have hk_ : tK τ j = 2 := by omega
      refine y_aload_n CC 1 dX4_waken_23 rfl rfl ?_
      refine y_callVI (ci := 4) (st := []) CC cl_X4_214 (k_ownWakening l D ad kI kS kL μ ) (by omega) rfl rfl rfl (Nat.le_of_ble_eq_true rfl) ⟨by decide, by decide⟩ ⟨Nat.zero_le _, Nat.zero_le _⟩ dX4_waken_24 (fun r_ μ_ w_5 => ?_)
      obtain ⟨rfl, rfl⟩ := w_5
      refine y_goto CC 35 dX4_waken_27 (by decide) ?_
      exact y_iret CC hQ dX4_waken_35 (⟨by simp [tr_waken, b_1, ix_nI (show j < 2 ^ 31 by omega), hk_], by simp [q_waken, b_1, ix_nI (show j < 2 ^ 31 by omega), hk_]⟩)
  · skip
    refine y_eq (st2 := [.null]) rfl ?_
    refine y_astore_nN CC [(2, .null), (0, .ref (ad 0)), (1, .int a)] dX4_waken_8 rfl (by decide) rfl ?_
    refine y_aload_nN CC 0 dX4_waken_9 rfl rfl ?_
    refine y_ifnonnullN CC 15 dX4_waken_10 (by decide) ?_
    refine y_iconst CC ((-1)) dX4_waken_13 (by decide) ?_
    exact y_iret CC hQ dX4_waken_14 (⟨by simp [tr_waken, b_1], by simp [q_waken, b_1]⟩)
