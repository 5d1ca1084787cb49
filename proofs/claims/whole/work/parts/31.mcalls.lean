set_option maxRecDepth 100000 in
set_option maxHeartbeats 4000000 in
theorem m_ofSleeper (l : Launch) (D : va_G) (ad : Nat → Nat) (kI kS kL : ClassId) (μ : Mem) (τ : Tn) (hM : TM μ τ) (hV : tV τ) (a w : Int32) : MI l D ad kI kS kL yX5_ofSleeper cX5_ofSleeper 3 (some .int) 2 46 [.ref (ad 30), .int a, .int w] μ (fun r μ2 => μ = μ2 ∧ r = q_ofSleeper τ a w) := by
  refine met_I RX5 rfl (by decide) (lv := [(0, .ref (ad 30)), (1, .int a), (2, .int w)]) rfl (Nat.le_of_ble_eq_true rfl) ?_
  intro pp ee ss mm aa bb me cd AA hA0 CC hnm QQ hQ
  have hB := hV.1
  have hP9 : tP τ ≤ 9 := hB.1
  have hS4 : tS τ ≤ 4 := hB.2.1
  have hVc := hV.2.1
  refine y_aload_n CC 0 dX5_ofSleeper_0 rfl rfl ?_
  refine y_iload_n CC 1 dX5_ofSleeper_1 rfl rfl ?_
  refine y_callVI (ci := 5) (st := []) CC cl_X5_131 (m_noSleeper l D ad kI kS kL μ τ hM hB a) (by omega) rfl rfl rfl (Nat.le_of_ble_eq_true rfl) ⟨by decide, by decide⟩ ⟨Nat.zero_le _, Nat.zero_le _⟩ dX5_ofSleeper_2 (fun r_ μ_ w_2 => ?_)
  rcases w_2 with ⟨rfl, ⟨b_1, rfl⟩ | ⟨b_1, rfl⟩⟩
  · skip
    refine z_if_eqF CC 10 dX5_ofSleeper_5 (by decide) (a := (1 : Int)) (nI_toInt (by decide)) (by decide) ?_
    refine y_iconst CC ((-1)) dX5_ofSleeper_8 (by decide) ?_
    exact y_iret CC hQ dX5_ofSleeper_9 (⟨rfl, by simp [q_ofSleeper, b_1]⟩)
  · skip
    obtain ⟨j, hj, rfl⟩ := inB_of b_1 (by omega)
    refine z_if_eqT CC 10 dX5_ofSleeper_5 (by decide) (a := (0 : Int)) (nI_toInt (by decide)) (by decide) ?_
    refine y_iload_n CC 2 dX5_ofSleeper_10 rfl rfl ?_
    refine z_if_ne CC 23 dX5_ofSleeper_11 (by decide) (a := (w).toInt) rfl (fun c_3 => ?_) (fun c_3 => ?_)
    · skip
      refine y_iload_n CC 2 dX5_ofSleeper_23 rfl rfl ?_
      refine y_iconst CC (nI 1) dX5_ofSleeper_24 (by decide) ?_
      refine z_icmp_ne CC 37 dX5_ofSleeper_25 (by decide) (a := (w).toInt) (b := (1 : Int)) rfl (nI_toInt (by decide)) (fun c_4 => ?_) (fun c_4 => ?_)
      · skip
        refine y_iload_n CC 2 dX5_ofSleeper_37 rfl rfl ?_
        refine y_iconst CC (nI 2) dX5_ofSleeper_38 (by decide) ?_
        refine z_icmp_ne CC 51 dX5_ofSleeper_39 (by decide) (a := (w).toInt) (b := (2 : Int)) rfl (nI_toInt (by decide)) (fun c_5 => ?_) (fun c_5 => ?_)
        · skip
          refine y_bipush CC ((-2)) dX5_ofSleeper_51 (by decide) ?_
          exact y_iret CC hQ dX5_ofSleeper_53 (⟨rfl, by unfold q_ofSleeper; rw [if_pos b_1, ix_nI (show j < 2 ^ 31 by omega)]; first | rw [if_pos (by omega)] | rw [if_neg (by omega), if_pos (by omega)] | rw [if_neg (by omega), if_neg (by omega), if_pos (by omega)] | rw [if_neg (by omega), if_neg (by omega), if_neg (by omega)]⟩)
        · skip
          refine y_aload_n CC 0 dX5_ofSleeper_42 rfl rfl ?_
          refine y_getr CC gl_X5_19 (by omega) (d := 34) rfl dX5_ofSleeper_43 ?_
          refine y_iload_n CC 1 dX5_ofSleeper_46 rfl rfl ?_
          refine y_ialdN CC (n := 4) (by omega) (by decide) (by omega) (by omega) (v := nI (tD τ j)) (hM.2.2.1 j (by omega)).2.2 dX5_ofSleeper_47 ?_
          refine y_goto CC 53 dX5_ofSleeper_48 (by decide) ?_
          exact y_iret CC hQ dX5_ofSleeper_53 (⟨rfl, by unfold q_ofSleeper; rw [if_pos b_1, ix_nI (show j < 2 ^ 31 by omega)]; first | rw [if_pos (by omega)] | rw [if_neg (by omega), if_pos (by omega)] | rw [if_neg (by omega), if_neg (by omega), if_pos (by omega)] | rw [if_neg (by omega), if_neg (by omega), if_neg (by omega)]⟩)
      · skip
        refine y_aload_n CC 0 dX5_ofSleeper_28 rfl rfl ?_
        refine y_getr CC gl_X5_16 (by omega) (d := 33) rfl dX5_ofSleeper_29 ?_
        refine y_iload_n CC 1 dX5_ofSleeper_32 rfl rfl ?_
        refine y_ialdN CC (n := 4) (by omega) (by decide) (by omega) (by omega) (v := nI (tA τ j)) (hM.2.2.1 j (by omega)).2.1 dX5_ofSleeper_33 ?_
        refine y_goto CC 53 dX5_ofSleeper_34 (by decide) ?_
        exact y_iret CC hQ dX5_ofSleeper_53 (⟨rfl, by unfold q_ofSleeper; rw [if_pos b_1, ix_nI (show j < 2 ^ 31 by omega)]; first | rw [if_pos (by omega)] | rw [if_neg (by omega), if_pos (by omega)] | rw [if_neg (by omega), if_neg (by omega), if_pos (by omega)] | rw [if_neg (by omega), if_neg (by omega), if_neg (by omega)]⟩)
    · skip
      refine y_aload_n CC 0 dX5_ofSleeper_14 rfl rfl ?_
      refine y_getr CC gl_X5_13 (by omega) (d := 32) rfl dX5_ofSleeper_15 ?_
      refine y_iload_n CC 1 dX5_ofSleeper_18 rfl rfl ?_
      refine y_ialdN CC (n := 4) (by omega) (by decide) (by omega) (by omega) (v := nI (tK τ j)) (hM.2.2.1 j (by omega)).1 dX5_ofSleeper_19 ?_
      refine y_goto CC 53 dX5_ofSleeper_20 (by decide) ?_
      exact y_iret CC hQ dX5_ofSleeper_53 (⟨rfl, by unfold q_ofSleeper; rw [if_pos b_1, ix_nI (show j < 2 ^ 31 by omega)]; first | rw [if_pos (by omega)] | rw [if_neg (by omega), if_pos (by omega)] | rw [if_neg (by omega), if_neg (by omega), if_pos (by omega)] | rw [if_neg (by omega), if_neg (by omega), if_neg (by omega)]⟩)

set_option maxRecDepth 100000 in
set_option maxHeartbeats 4000000 in
theorem m_goods (l : Launch) (D : va_G) (ad : Nat → Nat) (kI kS kL : ClassId) (μ : Mem) (τ : Tn) (hM : TM μ τ) (hV : tV τ) (p : Int32) : MI l D ad kI kS kL yX5_goods cX5_goods 2 (some .int) 2 46 [.ref (ad 30), .int p] μ (fun r μ2 => μ = μ2 ∧ r = q_goods τ p) := by
  refine met_I RX5 rfl (by decide) (lv := [(0, .ref (ad 30)), (1, .int p)]) rfl (Nat.le_of_ble_eq_true rfl) ?_
  intro pp ee ss mm aa bb me cd AA hA0 CC hnm QQ hQ
  have hB := hV.1
  have hP9 : tP τ ≤ 9 := hB.1
  have hS4 : tS τ ≤ 4 := hB.2.1
  have hVc := hV.2.1
  refine y_aload_n CC 0 dX5_goods_0 rfl rfl ?_
  refine y_iload_n CC 1 dX5_goods_1 rfl rfl ?_
  refine y_callVI (ci := 5) (st := []) CC cl_X5_134 (m_noPlace l D ad kI kS kL μ τ hM hB p) (by omega) rfl rfl rfl (Nat.le_of_ble_eq_true rfl) ⟨by decide, by decide⟩ ⟨Nat.zero_le _, Nat.zero_le _⟩ dX5_goods_2 (fun r_ μ_ w_2 => ?_)
  rcases w_2 with ⟨rfl, ⟨b_1, rfl⟩ | ⟨b_1, rfl⟩⟩
  · skip
    refine z_if_eqF CC 12 dX5_goods_5 (by decide) (a := (1 : Int)) (nI_toInt (by decide)) (by decide) ?_
    refine y_iconst CC ((-1)) dX5_goods_8 (by decide) ?_
    refine y_goto CC 18 dX5_goods_9 (by decide) ?_
    exact y_iret CC hQ dX5_goods_18 (⟨rfl, by simp [q_goods, b_1]⟩)
  · skip
    obtain ⟨jp, hjp, rfl⟩ := inB_of b_1 (by omega)
    refine z_if_eqT CC 12 dX5_goods_5 (by decide) (a := (0 : Int)) (nI_toInt (by decide)) (by decide) ?_
    refine y_aload_n CC 0 dX5_goods_12 rfl rfl ?_
    refine y_getr CC gl_X5_7 (by omega) (d := 31) rfl dX5_goods_13 ?_
    refine y_iload_n CC 1 dX5_goods_16 rfl rfl ?_
    refine y_ialdN CC (n := 9) (by omega) (by decide) (by omega) (by omega) (v := nI (tG τ jp)) (hM.2.2.2 jp (by omega)) dX5_goods_17 ?_
    exact y_iret CC hQ dX5_goods_18 (⟨rfl, by simp [q_goods, b_1, ix_nI (show jp < 2 ^ 31 by omega)]⟩)

set_option maxRecDepth 100000 in
set_option maxHeartbeats 4000000 in
theorem m_lay (l : Launch) (D : va_G) (ad : Nat → Nat) (kI kS kL : ClassId) (μ : Mem) (τ : Tn) (hM : TM μ τ) (hV : tV τ) (p v : Int32) : MI l D ad kI kS kL yX5_lay cX5_lay 4 (some .int) 2 46 [.ref (ad 30), .int p, .int v] μ (fun r μ2 => (μ2 = if ok_lay τ p v = true then mu μ 31 (ix p) v else μ) ∧ r = q_lay τ p v) := by
  refine met_I RX5 rfl (by decide) (lv := [(0, .ref (ad 30)), (1, .int p), (2, .int v)]) rfl (Nat.le_of_ble_eq_true rfl) ?_
  intro pp ee ss mm aa bb me cd AA hA0 CC hnm QQ hQ
  have hB := hV.1
  have hP9 : tP τ ≤ 9 := hB.1
  have hS4 : tS τ ≤ 4 := hB.2.1
  have hVc := hV.2.1
  refine y_aload_n CC 0 dX5_lay_0 rfl rfl ?_
  refine y_iload_n CC 1 dX5_lay_1 rfl rfl ?_
  refine y_callVI (ci := 5) (st := []) CC cl_X5_134 (m_noPlace l D ad kI kS kL μ τ hM hB p) (by omega) rfl rfl rfl (Nat.le_of_ble_eq_true rfl) ⟨by decide, by decide⟩ ⟨Nat.zero_le _, Nat.zero_le _⟩ dX5_lay_2 (fun r_ μ_ w_2 => ?_)
  rcases w_2 with ⟨rfl, ⟨b_1, rfl⟩ | ⟨b_1, rfl⟩⟩
  · skip
    refine z_if_eqF CC 10 dX5_lay_5 (by decide) (a := (1 : Int)) (nI_toInt (by decide)) (by decide) ?_
    refine y_iconst CC ((-1)) dX5_lay_8 (by decide) ?_
    exact y_iret CC hQ dX5_lay_9 (⟨by simp [ok_lay, b_1], by simp [q_lay, b_1]⟩)
  · skip
    obtain ⟨jp, hjp, rfl⟩ := inB_of b_1 (by omega)
    refine z_if_eqT CC 10 dX5_lay_5 (by decide) (a := (0 : Int)) (nI_toInt (by decide)) (by decide) ?_
    refine y_iload_n CC 2 dX5_lay_10 rfl rfl ?_
    refine y_i2l CC dX5_lay_11 (v := (v).toInt64) rfl ?_
    refine y_lconst CC 0 dX5_lay_12 rfl ?_
    refine y_ldc2 CC kl_X5_137 dX5_lay_13 ?_
    refine y_callSI (st := []) CC cl_X5_74 (m_in l D ad kI kS kL μ ((v).toInt64) 0 (9) ((v).toInt) ((0 : Int)) ((9 : Int))  ((l_i _).trans rfl) (by decide) (by decide)) rfl rfl (Nat.le_of_ble_eq_true rfl) ⟨by decide, by decide⟩ ⟨Nat.zero_le _, Nat.zero_le _⟩ dX5_lay_16 (fun r_ μ_ w_4 => ?_)
    rcases w_4 with ⟨rfl, ⟨i_3, rfl⟩ | ⟨i_3, rfl⟩⟩
    · skip
      have hv_ : inB v 10 = true := inB_t (by omega)
      refine z_if_neT CC 25 dX5_lay_19 (by decide) (a := (1 : Int)) (nI_toInt (by decide)) (by decide) ?_
      refine y_aload_n CC 0 dX5_lay_25 rfl rfl ?_
      refine y_getr CC gl_X5_7 (by omega) (d := 31) rfl dX5_lay_26 ?_
      refine y_iload_n CC 1 dX5_lay_29 rfl rfl ?_
      refine y_ialdN CC (n := 9) (by omega) (by decide) (by omega) (by omega) (v := nI (tG τ jp)) (hM.2.2.2 jp (by omega)) dX5_lay_30 ?_
      refine y_istore_n CC [(3, .int (nI (tG τ jp))), (0, .ref (ad 30)), (1, .int (nI jp)), (2, .int v)] dX5_lay_31 rfl (by decide) rfl ?_
      refine y_aload_n CC 1 dX5_lay_32 rfl rfl ?_
      refine y_getr CC gl_X5_7 (by omega) (d := 31) rfl dX5_lay_33 ?_
      refine y_iload_n CC 2 dX5_lay_36 rfl rfl ?_
      refine y_iload_n CC 3 dX5_lay_37 rfl rfl ?_
      refine y_iastN CC (n := 9) (by omega) (by decide) (by omega) (by omega) dX5_lay_38 ?_
      refine y_iload_n CC 0 dX5_lay_39 rfl rfl ?_
      exact y_iret CC hQ dX5_lay_40 (⟨by simp [ok_lay, b_1, ix_nI (show jp < 2 ^ 31 by omega), hv_], by simp [q_lay, b_1, ix_nI (show jp < 2 ^ 31 by omega), hv_]⟩)
    · skip
      have hv_ : inB v 10 = false := inB_f (by omega)
      refine z_if_neF CC 25 dX5_lay_19 (by decide) (a := (0 : Int)) (nI_toInt (by decide)) (by decide) ?_
      refine y_bipush CC ((-2)) dX5_lay_22 (by decide) ?_
      exact y_iret CC hQ dX5_lay_24 (⟨by simp [ok_lay, b_1, ix_nI (show jp < 2 ^ 31 by omega), hv_], by simp [q_lay, b_1, ix_nI (show jp < 2 ^ 31 by omega), hv_]⟩)

set_option maxRecDepth 100000 in
set_option maxHeartbeats 4000000 in
theorem m_stride (l : Launch) (D : va_G) (ad : Nat → Nat) (kI kS kL : ClassId) (μ : Mem) (τ : Tn) (hM : TM μ τ) (hV : tV τ) (a v : Int32) : MI l D ad kI kS kL yX5_stride cX5_stride 4 (some .int) 2 46 [.ref (ad 30), .int a, .int v] μ (fun r μ2 => (μ2 = if ok_stride τ a v = true then mu μ 34 (ix a) v else μ) ∧ r = q_stride τ a v) := by
  refine met_I RX5 rfl (by decide) (lv := [(0, .ref (ad 30)), (1, .int a), (2, .int v)]) rfl (Nat.le_of_ble_eq_true rfl) ?_
  intro pp ee ss mm aa bb me cd AA hA0 CC hnm QQ hQ
  have hB := hV.1
  have hP9 : tP τ ≤ 9 := hB.1
  have hS4 : tS τ ≤ 4 := hB.2.1
  have hVc := hV.2.1
  refine y_aload_n CC 0 dX5_stride_0 rfl rfl ?_
  refine y_iload_n CC 1 dX5_stride_1 rfl rfl ?_
  refine y_callVI (ci := 5) (st := []) CC cl_X5_131 (m_noSleeper l D ad kI kS kL μ τ hM hB a) (by omega) rfl rfl rfl (Nat.le_of_ble_eq_true rfl) ⟨by decide, by decide⟩ ⟨Nat.zero_le _, Nat.zero_le _⟩ dX5_stride_2 (fun r_ μ_ w_2 => ?_)
  rcases w_2 with ⟨rfl, ⟨b_1, rfl⟩ | ⟨b_1, rfl⟩⟩
  · skip
    refine z_if_eqF CC 10 dX5_stride_5 (by decide) (a := (1 : Int)) (nI_toInt (by decide)) (by decide) ?_
    refine y_iconst CC ((-1)) dX5_stride_8 (by decide) ?_
    exact y_iret CC hQ dX5_stride_9 (⟨by simp [ok_stride, b_1], by simp [q_stride, b_1]⟩)
  · skip
    obtain ⟨j, hj, rfl⟩ := inB_of b_1 (by omega)
    refine z_if_eqT CC 10 dX5_stride_5 (by decide) (a := (0 : Int)) (nI_toInt (by decide)) (by decide) ?_
    refine y_iload_n CC 2 dX5_stride_10 rfl rfl ?_
    refine y_i2l CC dX5_stride_11 (v := (v).toInt64) rfl ?_
    refine y_lconst CC 0 dX5_stride_12 rfl ?_
    refine y_ldc2 CC kl_X5_139 dX5_stride_13 ?_
    refine y_callSI (st := []) CC cl_X5_74 (m_in l D ad kI kS kL μ ((v).toInt64) 0 (3) ((v).toInt) ((0 : Int)) ((3 : Int))  ((l_i _).trans rfl) (by decide) (by decide)) rfl rfl (Nat.le_of_ble_eq_true rfl) ⟨by decide, by decide⟩ ⟨Nat.zero_le _, Nat.zero_le _⟩ dX5_stride_16 (fun r_ μ_ w_4 => ?_)
    rcases w_4 with ⟨rfl, ⟨i_3, rfl⟩ | ⟨i_3, rfl⟩⟩
    · skip
      have hv_ : inB v 4 = true := inB_t (by omega)
      refine z_if_neT CC 25 dX5_stride_19 (by decide) (a := (1 : Int)) (nI_toInt (by decide)) (by decide) ?_
      refine y_aload_n CC 0 dX5_stride_25 rfl rfl ?_
      refine y_getr CC gl_X5_19 (by omega) (d := 34) rfl dX5_stride_26 ?_
      refine y_iload_n CC 1 dX5_stride_29 rfl rfl ?_
      refine y_ialdN CC (n := 4) (by omega) (by decide) (by omega) (by omega) (v := nI (tD τ j)) (hM.2.2.1 j (by omega)).2.2 dX5_stride_30 ?_
      refine y_istore_n CC [(3, .int (nI (tD τ j))), (0, .ref (ad 30)), (1, .int (nI j)), (2, .int v)] dX5_stride_31 rfl (by decide) rfl ?_
      refine y_aload_n CC 1 dX5_stride_32 rfl rfl ?_
      refine y_getr CC gl_X5_19 (by omega) (d := 34) rfl dX5_stride_33 ?_
      refine y_iload_n CC 2 dX5_stride_36 rfl rfl ?_
      refine y_iload_n CC 3 dX5_stride_37 rfl rfl ?_
      refine y_iastN CC (n := 4) (by omega) (by decide) (by omega) (by omega) dX5_stride_38 ?_
      refine y_iload_n CC 0 dX5_stride_39 rfl rfl ?_
      exact y_iret CC hQ dX5_stride_40 (⟨by simp [ok_stride, b_1, ix_nI (show j < 2 ^ 31 by omega), hv_], by simp [q_stride, b_1, ix_nI (show j < 2 ^ 31 by omega), hv_]⟩)
    · skip
      have hv_ : inB v 4 = false := inB_f (by omega)
      refine z_if_neF CC 25 dX5_stride_19 (by decide) (a := (0 : Int)) (nI_toInt (by decide)) (by decide) ?_
      refine y_bipush CC ((-2)) dX5_stride_22 (by decide) ?_
      exact y_iret CC hQ dX5_stride_24 (⟨by simp [ok_stride, b_1, ix_nI (show j < 2 ^ 31 by omega), hv_], by simp [q_stride, b_1, ix_nI (show j < 2 ^ 31 by omega), hv_]⟩)

set_option maxRecDepth 100000 in
set_option maxHeartbeats 4000000 in
theorem m_where (l : Launch) (D : va_G) (ad : Nat → Nat) (kI kS kL : ClassId) (μ : Mem) (τ : Tn) (hM : TM μ τ) (hV : tV τ) (a m : Int32) : MI l D ad kI kS kL yX5_where cX5_where 3 (some .int) 2 46 [.ref (ad 30), .int a, .int m] μ (fun r μ2 => μ = μ2 ∧ r = q_where τ a m) := by
  refine met_I RX5 rfl (by decide) (lv := [(0, .ref (ad 30)), (1, .int a), (2, .int m)]) rfl (Nat.le_of_ble_eq_true rfl) ?_
  intro pp ee ss mm aa bb me cd AA hA0 CC hnm QQ hQ
  have hB := hV.1
  have hP9 : tP τ ≤ 9 := hB.1
  have hS4 : tS τ ≤ 4 := hB.2.1
  have hVc := hV.2.1
  refine y_aload_n CC 0 dX5_where_0 rfl rfl ?_
  refine y_iload_n CC 1 dX5_where_1 rfl rfl ?_
  refine y_callVI (ci := 5) (st := []) CC cl_X5_131 (m_noSleeper l D ad kI kS kL μ τ hM hB a) (by omega) rfl rfl rfl (Nat.le_of_ble_eq_true rfl) ⟨by decide, by decide⟩ ⟨Nat.zero_le _, Nat.zero_le _⟩ dX5_where_2 (fun r_ μ_ w_2 => ?_)
  rcases w_2 with ⟨rfl, ⟨b_1, rfl⟩ | ⟨b_1, rfl⟩⟩
  · skip
    refine z_if_eqF CC 10 dX5_where_5 (by decide) (a := (1 : Int)) (nI_toInt (by decide)) (by decide) ?_
    refine y_iconst CC ((-1)) dX5_where_8 (by decide) ?_
    exact y_iret CC hQ dX5_where_9 (⟨rfl, by simp [q_where, b_1]⟩)
  · skip
    obtain ⟨j, hj, rfl⟩ := inB_of b_1 (by omega)
    refine z_if_eqT CC 10 dX5_where_5 (by decide) (a := (0 : Int)) (nI_toInt (by decide)) (by decide) ?_
    refine y_iload_n CC 2 dX5_where_10 rfl rfl ?_
    refine y_callSI (st := []) CC cl_X5_141 (m_noMinute l D ad kI kS kL μ m) rfl rfl (Nat.le_of_ble_eq_true rfl) ⟨by decide, by decide⟩ ⟨Nat.zero_le _, Nat.zero_le _⟩ dX5_where_11 (fun r_ μ_ w_4 => ?_)
    rcases w_4 with ⟨rfl, ⟨b_3, rfl⟩ | ⟨b_3, rfl⟩⟩
    · skip
      refine z_if_eqF CC 22 dX5_where_14 (by decide) (a := (1 : Int)) (nI_toInt (by decide)) (by decide) ?_
      refine y_bipush CC ((-2)) dX5_where_17 (by decide) ?_
      refine y_goto CC 28 dX5_where_19 (by decide) ?_
      exact y_iret CC hQ dX5_where_28 (⟨rfl, by simp [q_where, b_1, ix_nI (show j < 2 ^ 31 by omega), b_3]⟩)
    · skip
      obtain ⟨jm, hjm, rfl⟩ := inB_of b_3 (by omega)
      refine z_if_eqT CC 22 dX5_where_14 (by decide) (a := (0 : Int)) (nI_toInt (by decide)) (by decide) ?_
      refine y_aload_n CC 0 dX5_where_22 rfl rfl ?_
      refine y_iload_n CC 1 dX5_where_23 rfl rfl ?_
      refine y_iload_n CC 2 dX5_where_24 rfl rfl ?_
      refine y_callVI (ci := 5) (st := []) CC cl_X5_144 (m_whereAt l D ad kI kS kL μ τ hM hB (by omega) j jm (by omega) (by omega)) (by omega) rfl rfl rfl (Nat.le_of_ble_eq_true rfl) ⟨by decide, by decide⟩ ⟨Nat.zero_le _, Nat.zero_le _⟩ dX5_where_25 (fun r_ μ_ w_6 => ?_)
      obtain ⟨rfl, rfl⟩ := w_6
      have h_pl_5 := pl_lt (τ := τ) (by omega) j jm
      exact y_iret CC hQ dX5_where_28 (⟨rfl, by simp [q_where, b_1, ix_nI (show j < 2 ^ 31 by omega), b_3, ix_nI (show jm < 2 ^ 31 by omega)]⟩)

set_option maxRecDepth 100000 in
set_option maxHeartbeats 4000000 in
theorem m_meet (l : Launch) (D : va_G) (ad : Nat → Nat) (kI kS kL : ClassId) (μ : Mem) (τ : Tn) (hM : TM μ τ) (hV : tV τ) (a b : Int32) : MI l D ad kI kS kL yX5_meet cX5_meet 4 (some .int) 2 46 [.ref (ad 30), .int a, .int b] μ (fun r μ2 => μ = μ2 ∧ r = q_meet τ a b) := by
  refine met_I RX5 rfl (by decide) (lv := [(0, .ref (ad 30)), (1, .int a), (2, .int b)]) rfl (Nat.le_of_ble_eq_true rfl) ?_
  intro pp ee ss mm aa bb me cd AA hA0 CC hnm QQ hQ
  have hB := hV.1
  have hP9 : tP τ ≤ 9 := hB.1
  have hS4 : tS τ ≤ 4 := hB.2.1
  have hVc := hV.2.1
  refine y_aload_n CC 0 dX5_meet_0 rfl rfl ?_
  refine y_iload_n CC 1 dX5_meet_1 rfl rfl ?_
  refine y_callVI (ci := 5) (st := []) CC cl_X5_131 (m_noSleeper l D ad kI kS kL μ τ hM hB a) (by omega) rfl rfl rfl (Nat.le_of_ble_eq_true rfl) ⟨by decide, by decide⟩ ⟨Nat.zero_le _, Nat.zero_le _⟩ dX5_meet_2 (fun r_ μ_ w_2 => ?_)
  rcases w_2 with ⟨rfl, ⟨b_1, rfl⟩ | ⟨b_1, rfl⟩⟩
  · skip
    refine z_if_neT CC 21 dX5_meet_5 (by decide) (a := (1 : Int)) (nI_toInt (by decide)) (by decide) ?_
    refine y_iconst CC ((-1)) dX5_meet_21 (by decide) ?_
    exact y_iret CC hQ dX5_meet_22 (⟨rfl, by simp [q_meet, b_1]⟩)
  · skip
    obtain ⟨ja, hja, rfl⟩ := inB_of b_1 (by omega)
    refine z_if_neF CC 21 dX5_meet_5 (by decide) (a := (0 : Int)) (nI_toInt (by decide)) (by decide) ?_
    refine y_aload_n CC 0 dX5_meet_8 rfl rfl ?_
    refine y_iload_n CC 2 dX5_meet_9 rfl rfl ?_
    refine y_callVI (ci := 5) (st := []) CC cl_X5_131 (m_noSleeper l D ad kI kS kL μ τ hM hB b) (by omega) rfl rfl rfl (Nat.le_of_ble_eq_true rfl) ⟨by decide, by decide⟩ ⟨Nat.zero_le _, Nat.zero_le _⟩ dX5_meet_10 (fun r_ μ_ w_4 => ?_)
    rcases w_4 with ⟨rfl, ⟨b_3, rfl⟩ | ⟨b_3, rfl⟩⟩
    · skip
      refine z_if_neT CC 21 dX5_meet_13 (by decide) (a := (1 : Int)) (nI_toInt (by decide)) (by decide) ?_
      refine y_iconst CC ((-1)) dX5_meet_21 (by decide) ?_
      exact y_iret CC hQ dX5_meet_22 (⟨rfl, by simp [q_meet, b_1, ix_nI (show ja < 2 ^ 31 by omega), b_3]⟩)
    · skip
      obtain ⟨jb, hjb, rfl⟩ := inB_of b_3 (by omega)
      refine z_if_neF CC 21 dX5_meet_13 (by decide) (a := (0 : Int)) (nI_toInt (by decide)) (by decide) ?_
      refine y_iload_n CC 1 dX5_meet_16 rfl rfl ?_
      refine y_iload_n CC 2 dX5_meet_17 rfl rfl ?_
      refine z_icmp_ne CC 23 dX5_meet_18 (by decide) (a := ((ja : Nat) : Int)) (b := ((jb : Nat) : Int)) (nI_toInt (by omega)) (nI_toInt (by omega)) (fun c_5 => ?_) (fun c_5 => ?_)
      · skip
        have hne_ : ¬ ja = jb := by omega
        refine y_iconst CC (nI 0) dX5_meet_23 (by decide) ?_
        refine y_istore_n CC [(3, .int (nI 0)), (0, .ref (ad 30)), (1, .int (nI ja)), (2, .int (nI jb))] dX5_meet_24 rfl (by decide) rfl ?_
        have L25 : ∀ (n25 : Nat) (m : Nat), 61 - m < n25 → (m ≤ 61) → (fs (mtB τ ja jb) m (61 - m) = fs (mtB τ ja jb) 0 61) → Y pp l ee (rmY 2 46) ss mm aa bb me cd D ad kI kS kL AA 4 0 0 QQ 25 [(3, .int (nI m)), (0, .ref (ad 30)), (1, .int (nI ja)), (2, .int (nI jb))] [] μ := by
          intro n25
          induction n25 with
          | zero => intro m hm25; exact absurd hm25 (Nat.not_lt_zero _)
          | succ n25 ih25 =>
            intro m hm25 hm hs
            refine y_iload_n CC 0 dX5_meet_25 rfl rfl ?_
            refine y_bipush CC (nI 60) dX5_meet_26 (by decide) ?_
            refine z_icmp_gt CC 54 dX5_meet_28 (by decide) (a := ((m : Nat) : Int)) (b := (60 : Int)) (nI_toInt (by omega)) (nI_toInt (by decide)) (fun c_7 => ?_) (fun c_7 => ?_)
            · skip
              refine y_bipush CC ((-9)) dX5_meet_54 (by decide) ?_
              exact y_iret CC hQ dX5_meet_56 (⟨rfl, by simp [q_meet, b_1, ix_nI (show ja < 2 ^ 31 by omega), b_3, ix_nI (show jb < 2 ^ 31 by omega), hne_]; rw [← hs, fs_0 (by omega)]; rfl⟩)
            · skip
              refine y_aload_n CC 1 dX5_meet_31 rfl rfl ?_
              refine y_iload_n CC 2 dX5_meet_32 rfl rfl ?_
              refine y_iload_n CC 0 dX5_meet_33 rfl rfl ?_
              refine y_callVI (ci := 5) (st := []) CC cl_X5_144 (m_whereAt l D ad kI kS kL μ τ hM hB (by omega) ja m (by omega) (by omega)) (by omega) rfl rfl rfl (Nat.le_of_ble_eq_true rfl) ⟨by decide, by decide⟩ ⟨Nat.zero_le _, Nat.zero_le _⟩ dX5_meet_34 (fun r_ μ_ w_9 => ?_)
              obtain ⟨rfl, rfl⟩ := w_9
              have h_pl_8 := pl_lt (τ := τ) (by omega) ja m
              refine y_aload_n CC 1 dX5_meet_37 rfl rfl ?_
              refine y_iload_n CC 3 dX5_meet_38 rfl rfl ?_
              refine y_iload_n CC 0 dX5_meet_39 rfl rfl ?_
              refine y_callVI (ci := 5) (st := [.int (nI (pl τ ja m))]) CC cl_X5_144 (m_whereAt l D ad kI kS kL μ τ hM hB (by omega) jb m (by omega) (by omega)) (by omega) rfl rfl rfl (Nat.le_of_ble_eq_true rfl) ⟨by decide, by decide⟩ ⟨Nat.zero_le _, Nat.zero_le _⟩ dX5_meet_40 (fun r_ μ_ w_11 => ?_)
              obtain ⟨rfl, rfl⟩ := w_11
              have h_pl_10 := pl_lt (τ := τ) (by omega) jb m
              refine z_icmp_ne CC 48 dX5_meet_43 (by decide) (a := ((pl τ ja m : Nat) : Int)) (b := ((pl τ jb m : Nat) : Int)) (nI_toInt (by omega)) (nI_toInt (by omega)) (fun c_12 => ?_) (fun c_12 => ?_)
              · skip
                refine y_iinc CC 0 (nI (m + 1)) [(3, .int (nI (m + 1))), (0, .ref (ad 30)), (1, .int (nI ja)), (2, .int (nI jb))] dX5_meet_48 rfl (i_inc _) (by decide) rfl ?_
                refine y_goto CC 25 dX5_meet_51 (by decide) ?_
                exact ih25 (m + 1) (by omega) (by omega) (by rw [← fs_f (decide_eq_false (by omega)) (by omega)]; exact hs)
              · skip
                refine y_iload_n CC 0 dX5_meet_46 rfl rfl ?_
                exact y_iret CC hQ dX5_meet_47 (⟨rfl, by simp [q_meet, b_1, ix_nI (show ja < 2 ^ 31 by omega), b_3, ix_nI (show jb < 2 ^ 31 by omega), hne_]; rw [← hs, fs_t (decide_eq_true (by omega)) (by omega)]; rfl⟩)
        exact L25 _ 0 (Nat.lt_succ_self _) (Nat.zero_le _) rfl
      · skip
        have heq_ : ja = jb := by omega
        refine y_iconst CC ((-1)) dX5_meet_21 (by decide) ?_
        exact y_iret CC hQ dX5_meet_22 (⟨rfl, by simp [q_meet, b_1, ix_nI (show ja < 2 ^ 31 by omega), b_3, ix_nI (show jb < 2 ^ 31 by omega), heq_]⟩)

set_option maxRecDepth 100000 in
set_option maxHeartbeats 4000000 in
theorem m_reading (l : Launch) (D : va_G) (ad : Nat → Nat) (kI kS kL : ClassId) (μ : Mem) (τ : Tn) (hM : TM μ τ) (hV : tV τ) (ρ : Tn) (hR : RM μ ρ) (hrb : rB τ ρ) (a m p : Int32) : MI l D ad kI kS kL yX5_reading cX5_reading 4 (some .int) 2 46 [.ref (ad 30), .int a, .int m, .int p] μ (fun r μ2 => (μ2 = if ok_reading τ ρ a m p = true then mu (mu (mu (mu μ 41 (ρ 3 0) a) 42 (ρ 3 0) m) 43 (ρ 3 0) p) 30 21 (nI (ρ 3 0 + 1)) else μ) ∧ r = q_reading τ ρ a m p) := by
  refine met_I RX5 rfl (by decide) (lv := [(0, .ref (ad 30)), (1, .int a), (2, .int m), (3, .int p)]) rfl (Nat.le_of_ble_eq_true rfl) ?_
  intro pp ee ss mm aa bb me cd AA hA0 CC hnm QQ hQ
  have hB := hV.1
  have hP9 : tP τ ≤ 9 := hB.1
  have hS4 : tS τ ≤ 4 := hB.2.1
  have hVc := hV.2.1
  have hR8 := hrb.1
  refine y_aload_n CC 0 dX5_reading_0 rfl rfl ?_
  refine y_iload_n CC 1 dX5_reading_1 rfl rfl ?_
  refine y_callVI (ci := 5) (st := []) CC cl_X5_131 (m_noSleeper l D ad kI kS kL μ τ hM hB a) (by omega) rfl rfl rfl (Nat.le_of_ble_eq_true rfl) ⟨by decide, by decide⟩ ⟨Nat.zero_le _, Nat.zero_le _⟩ dX5_reading_2 (fun r_ μ_ w_2 => ?_)
  rcases w_2 with ⟨rfl, ⟨b_1, rfl⟩ | ⟨b_1, rfl⟩⟩
  · skip
    refine z_if_neT CC 16 dX5_reading_5 (by decide) (a := (1 : Int)) (nI_toInt (by decide)) (by decide) ?_
    refine y_iconst CC ((-1)) dX5_reading_16 (by decide) ?_
    exact y_iret CC hQ dX5_reading_17 (⟨by simp [ok_reading, b_1], by simp [q_reading, b_1]⟩)
  · skip
    obtain ⟨j, hj, rfl⟩ := inB_of b_1 (by omega)
    refine z_if_neF CC 16 dX5_reading_5 (by decide) (a := (0 : Int)) (nI_toInt (by decide)) (by decide) ?_
    refine y_aload_n CC 0 dX5_reading_8 rfl rfl ?_
    refine y_iload_n CC 3 dX5_reading_9 rfl rfl ?_
    refine y_callVI (ci := 5) (st := []) CC cl_X5_134 (m_noPlace l D ad kI kS kL μ τ hM hB p) (by omega) rfl rfl rfl (Nat.le_of_ble_eq_true rfl) ⟨by decide, by decide⟩ ⟨Nat.zero_le _, Nat.zero_le _⟩ dX5_reading_10 (fun r_ μ_ w_4 => ?_)
    rcases w_4 with ⟨rfl, ⟨b_3, rfl⟩ | ⟨b_3, rfl⟩⟩
    · skip
      refine z_if_eqF CC 18 dX5_reading_13 (by decide) (a := (1 : Int)) (nI_toInt (by decide)) (by decide) ?_
      refine y_iconst CC ((-1)) dX5_reading_16 (by decide) ?_
      exact y_iret CC hQ dX5_reading_17 (⟨by simp [ok_reading, b_1, ix_nI (show j < 2 ^ 31 by omega), b_3], by simp [q_reading, b_1, ix_nI (show j < 2 ^ 31 by omega), b_3]⟩)
    · skip
      obtain ⟨jp, hjp, rfl⟩ := inB_of b_3 (by omega)
      refine z_if_eqT CC 18 dX5_reading_13 (by decide) (a := (0 : Int)) (nI_toInt (by decide)) (by decide) ?_
      refine y_iload_n CC 2 dX5_reading_18 rfl rfl ?_
      refine y_callSI (st := []) CC cl_X5_141 (m_noMinute l D ad kI kS kL μ m) rfl rfl (Nat.le_of_ble_eq_true rfl) ⟨by decide, by decide⟩ ⟨Nat.zero_le _, Nat.zero_le _⟩ dX5_reading_19 (fun r_ μ_ w_6 => ?_)
      rcases w_6 with ⟨rfl, ⟨b_5, rfl⟩ | ⟨b_5, rfl⟩⟩
      · skip
        refine z_if_eqF CC 28 dX5_reading_22 (by decide) (a := (1 : Int)) (nI_toInt (by decide)) (by decide) ?_
        refine y_bipush CC ((-2)) dX5_reading_25 (by decide) ?_
        exact y_iret CC hQ dX5_reading_27 (⟨by simp [ok_reading, b_1, ix_nI (show j < 2 ^ 31 by omega), b_3, ix_nI (show jp < 2 ^ 31 by omega), b_5], by simp [q_reading, b_1, ix_nI (show j < 2 ^ 31 by omega), b_3, ix_nI (show jp < 2 ^ 31 by omega), b_5]⟩)
      · skip
        obtain ⟨jm, hjm, rfl⟩ := inB_of b_5 (by omega)
        refine z_if_eqT CC 28 dX5_reading_22 (by decide) (a := (0 : Int)) (nI_toInt (by decide)) (by decide) ?_
        refine y_aload_n CC 0 dX5_reading_28 rfl rfl ?_
        refine y_geti CC gl_X5_128 (by omega) rfl (v := nI (ρ 3 0)) hR.1 dX5_reading_29 ?_
        refine y_bipush CC (nI 8) dX5_reading_32 (by decide) ?_
        refine z_icmp_ne CC 40 dX5_reading_34 (by decide) (a := ((ρ 3 0 : Nat) : Int)) (b := (8 : Int)) (nI_toInt (by omega)) (nI_toInt (by decide)) (fun c_7 => ?_) (fun c_7 => ?_)
        · skip
          have h8_ : ¬ ρ 3 0 = 8 := by omega
          have h9_ : ρ 3 0 < 8 := by omega
          refine y_aload_n CC 0 dX5_reading_40 rfl rfl ?_
          refine y_getr CC gl_X5_40 (by omega) (d := 41) rfl dX5_reading_41 ?_
          refine y_aload_n CC 0 dX5_reading_44 rfl rfl ?_
          refine y_geti CC gl_X5_128 (by omega) rfl (v := nI (ρ 3 0)) hR.1 dX5_reading_45 ?_
          refine y_iload_n CC 1 dX5_reading_48 rfl rfl ?_
          refine y_iastN CC (n := 8) (by omega) (by decide) (by omega) (by omega) dX5_reading_49 ?_
          refine y_aload_n CC 0 dX5_reading_50 rfl rfl ?_
          refine y_getr CC gl_X5_43 (by omega) (d := 42) rfl dX5_reading_51 ?_
          refine y_aload_n CC 0 dX5_reading_54 rfl rfl ?_
          refine y_geti CC gl_X5_128 (by omega) rfl (v := nI (ρ 3 0)) (by rw [mu_ne _ _ (Or.inl (by decide))]; exact hR.1) dX5_reading_55 ?_
          refine y_iload_n CC 2 dX5_reading_58 rfl rfl ?_
          refine y_iastN CC (n := 8) (by omega) (by decide) (by omega) (by omega) dX5_reading_59 ?_
          refine y_aload_n CC 0 dX5_reading_60 rfl rfl ?_
          refine y_getr CC gl_X5_46 (by omega) (d := 43) rfl dX5_reading_61 ?_
          refine y_aload_n CC 0 dX5_reading_64 rfl rfl ?_
          refine y_geti CC gl_X5_128 (by omega) rfl (v := nI (ρ 3 0)) (by rw [mu_ne _ _ (Or.inl (by decide))]; rw [mu_ne _ _ (Or.inl (by decide))]; exact hR.1) dX5_reading_65 ?_
          refine y_iload_n CC 3 dX5_reading_68 rfl rfl ?_
          refine y_iastN CC (n := 8) (by omega) (by decide) (by omega) (by omega) dX5_reading_69 ?_
          refine y_aload_n CC 0 dX5_reading_70 rfl rfl ?_
          refine y_dup CC dX5_reading_71 rfl ?_
          refine y_geti CC gl_X5_128 (by omega) rfl (v := nI (ρ 3 0)) (by rw [mu_ne _ _ (Or.inl (by decide))]; rw [mu_ne _ _ (Or.inl (by decide))]; rw [mu_ne _ _ (Or.inl (by decide))]; exact hR.1) dX5_reading_72 ?_
          refine y_iconst CC (nI 1) dX5_reading_75 (by decide) ?_
          refine y_iadd CC dX5_reading_76 (v := nI ((ρ 3 0) + 1)) (nI_add _ _) ?_
          refine y_puti CC pl_X5_128 (by omega) rfl (Nat.le_of_ble_eq_true rfl) dX5_reading_77 ?_
          refine y_aload_n CC 0 dX5_reading_80 rfl rfl ?_
          refine y_geti CC gl_X5_128 (by omega) rfl (v := nI (ρ 3 0 + 1)) (mu_at _ _ _ _) dX5_reading_81 ?_
          refine y_iconst CC (nI 1) dX5_reading_84 (by decide) ?_
          refine y_isub CC dX5_reading_85 (v := nI (ρ 3 0)) ((pk_sub (by omega)).trans (by rw [Nat.add_sub_cancel])) ?_
          exact y_iret CC hQ dX5_reading_86 (⟨by simp [ok_reading, b_1, ix_nI (show j < 2 ^ 31 by omega), b_3, ix_nI (show jp < 2 ^ 31 by omega), b_5, ix_nI (show jm < 2 ^ 31 by omega), h8_, h9_], by simp [q_reading, b_1, ix_nI (show j < 2 ^ 31 by omega), b_3, ix_nI (show jp < 2 ^ 31 by omega), b_5, ix_nI (show jm < 2 ^ 31 by omega), h8_, h9_]⟩)
        · skip
          have h8_ : ρ 3 0 = 8 := by omega
          refine y_bipush CC ((-4)) dX5_reading_37 (by decide) ?_
          exact y_iret CC hQ dX5_reading_39 (⟨by simp [ok_reading, b_1, ix_nI (show j < 2 ^ 31 by omega), b_3, ix_nI (show jp < 2 ^ 31 by omega), b_5, ix_nI (show jm < 2 ^ 31 by omega), h8_], by simp [q_reading, b_1, ix_nI (show j < 2 ^ 31 by omega), b_3, ix_nI (show jp < 2 ^ 31 by omega), b_5, ix_nI (show jm < 2 ^ 31 by omega), h8_]⟩)

set_option maxRecDepth 100000 in
set_option maxHeartbeats 4000000 in
theorem m_back (l : Launch) (D : va_G) (ad : Nat → Nat) (kI kS kL : ClassId) (μ : Mem) (τ : Tn) (hM : TM μ τ) (hV : tV τ) (ρ : Tn) (hR : RM μ ρ) (hrb : rB τ ρ) (k : Int32) : MI l D ad kI kS kL yX5_back cX5_back 2 (some .int) 1 25 [.ref (ad 30), .int k] μ (fun r μ2 => (μ2 = if inB k (ρ 3 0 + 1) = true then mu μ 30 21 (nI (ρ 3 0 - ix k)) else μ) ∧ r = q_back ρ k) := by
  refine met_I RX5 rfl (by decide) (lv := [(0, .ref (ad 30)), (1, .int k)]) rfl (Nat.le_of_ble_eq_true rfl) ?_
  intro pp ee ss mm aa bb me cd AA hA0 CC hnm QQ hQ
  have hB := hV.1
  have hP9 : tP τ ≤ 9 := hB.1
  have hS4 : tS τ ≤ 4 := hB.2.1
  have hVc := hV.2.1
  have hR8 := hrb.1
  refine y_iload_n CC 1 dX5_back_0 rfl rfl ?_
  refine y_i2l CC dX5_back_1 (v := (k).toInt64) rfl ?_
  refine y_lconst CC 0 dX5_back_2 rfl ?_
  refine y_aload_n CC 0 dX5_back_3 rfl rfl ?_
  refine y_geti CC gl_X5_128 (by omega) rfl (v := nI (ρ 3 0)) hR.1 dX5_back_4 ?_
  refine y_i2l CC dX5_back_7 (v := (nI (ρ 3 0)).toInt64) rfl ?_
  refine y_callSI (st := []) CC cl_X5_74 (m_in l D ad kI kS kL μ ((k).toInt64) 0 ((nI (ρ 3 0)).toInt64) ((k).toInt) ((0 : Int)) (((ρ 3 0 : Nat) : Int))  ((l_i _).trans rfl) (by decide) ((l_i _).trans (nI_toInt (by omega)))) rfl rfl (Nat.le_of_ble_eq_true rfl) ⟨by decide, by decide⟩ ⟨Nat.zero_le _, Nat.zero_le _⟩ dX5_back_8 (fun r_ μ_ w_2 => ?_)
  rcases w_2 with ⟨rfl, ⟨i_1, rfl⟩ | ⟨i_1, rfl⟩⟩
  · skip
    refine z_if_neT CC 17 dX5_back_11 (by decide) (a := (1 : Int)) (nI_toInt (by decide)) (by decide) ?_
    obtain ⟨j, hj, rfl⟩ := inB_of (x := k) (n := ρ 3 0 + 1) (inB_t (by omega)) (by omega)
    have hk_ : inB (nI j) (ρ 3 0 + 1) = true := inB_nI hj (by omega)
    refine y_aload_n CC 0 dX5_back_17 rfl rfl ?_
    refine y_dup CC dX5_back_18 rfl ?_
    refine y_geti CC gl_X5_128 (by omega) rfl (v := nI (ρ 3 0)) hR.1 dX5_back_19 ?_
    refine y_iload_n CC 1 dX5_back_22 rfl rfl ?_
    refine y_isub CC dX5_back_23 (v := nI ((ρ 3 0) - j)) (pk_sub (by omega)) ?_
    refine y_puti CC pl_X5_128 (by omega) rfl (Nat.le_of_ble_eq_true rfl) dX5_back_24 ?_
    refine y_aload_n CC 0 dX5_back_27 rfl rfl ?_
    refine y_geti CC gl_X5_128 (by omega) rfl (v := nI (ρ 3 0 - j)) (mu_at _ _ _ _) dX5_back_28 ?_
    exact y_iret CC hQ dX5_back_31 (⟨by simp [hk_, ix_nI (show j < 2 ^ 31 by omega)], by simp [q_back, hk_, ix_nI (show j < 2 ^ 31 by omega)]⟩)
  · skip
    refine z_if_neF CC 17 dX5_back_11 (by decide) (a := (0 : Int)) (nI_toInt (by decide)) (by decide) ?_
    have hk_ : inB k (ρ 3 0 + 1) = false := inB_f (by omega)
    refine y_bipush CC ((-2)) dX5_back_14 (by decide) ?_
    exact y_iret CC hQ dX5_back_16 (⟨by simp [hk_], by simp [q_back, hk_]⟩)

set_option maxRecDepth 100000 in
set_option maxHeartbeats 4000000 in
theorem m_many (l : Launch) (D : va_G) (ad : Nat → Nat) (kI kS kL : ClassId) (μ : Mem) (τ : Tn) (hM : TM μ τ) (hV : tV τ) (ρ : Tn) (hR : RM μ ρ) (hrb : rB τ ρ) (w : Int32) : MI l D ad kI kS kL yX5_many cX5_many 2 (some .int) 1 22 [.ref (ad 30), .int w] μ (fun r μ2 => μ = μ2 ∧ r = q_many τ ρ w) := by
  refine met_I RX5 rfl (by decide) (lv := [(0, .ref (ad 30)), (1, .int w)]) rfl (Nat.le_of_ble_eq_true rfl) ?_
  intro pp ee ss mm aa bb me cd AA hA0 CC hnm QQ hQ
  have hB := hV.1
  have hP9 : tP τ ≤ 9 := hB.1
  have hS4 : tS τ ≤ 4 := hB.2.1
  have hVc := hV.2.1
  have hR8 := hrb.1
  refine y_iload_n CC 1 dX5_many_0 rfl rfl ?_
  rcases (show (w).toInt = 0 ∨ (w).toInt = 1 ∨ (w).toInt = 2 ∨ (w).toInt = 3 ∨ ((w).toInt < 0 ∨ 3 < (w).toInt) by omega) with sw_1 | sw_1 | sw_1 | sw_1 | sw_1
  · skip
    refine y_tableIn CC (off := 31) 32 dX5_many_1 (by omega) (by omega) (by rw [sw_1]; rfl) (by decide) ?_
    refine y_aload_n CC 0 dX5_many_32 rfl rfl ?_
    refine y_geti CC gl_X5_78 (by omega) rfl (v := nI (tS τ)) hM.2.1 dX5_many_33 ?_
    exact y_iret CC hQ dX5_many_36 (⟨rfl, by simp [q_many, sw_1]⟩)
  · skip
    refine y_tableIn CC (off := 36) 37 dX5_many_1 (by omega) (by omega) (by rw [sw_1]; rfl) (by decide) ?_
    refine y_aload_n CC 0 dX5_many_37 rfl rfl ?_
    refine y_geti CC gl_X5_71 (by omega) rfl (v := nI (tP τ)) hM.1 dX5_many_38 ?_
    exact y_iret CC hQ dX5_many_41 (⟨rfl, by simp [q_many, sw_1]⟩)
  · skip
    refine y_tableIn CC (off := 41) 42 dX5_many_1 (by omega) (by omega) (by rw [sw_1]; rfl) (by decide) ?_
    refine y_aload_n CC 0 dX5_many_42 rfl rfl ?_
    refine y_callVI (ci := 5) (st := []) CC cl_X5_217 (m_goodsNow l D ad kI kS kL μ τ hM hB) (by omega) rfl rfl rfl (Nat.le_of_ble_eq_true rfl) ⟨by decide, by decide⟩ ⟨Nat.zero_le _, Nat.zero_le _⟩ dX5_many_43 (fun r_ μ_ w_2 => ?_)
    obtain ⟨rfl, rfl⟩ := w_2
    exact y_iret CC hQ dX5_many_46 (⟨rfl, by simp [q_many, sw_1]⟩)
  · skip
    refine y_tableIn CC (off := 46) 47 dX5_many_1 (by omega) (by omega) (by rw [sw_1]; rfl) (by decide) ?_
    refine y_aload_n CC 0 dX5_many_47 rfl rfl ?_
    refine y_geti CC gl_X5_128 (by omega) rfl (v := nI (ρ 3 0)) hR.1 dX5_many_48 ?_
    exact y_iret CC hQ dX5_many_51 (⟨rfl, by simp [q_many, sw_1]⟩)
  · skip
    refine y_tableOut CC 52 dX5_many_1 sw_1 (by decide) ?_
    refine y_bipush CC ((-2)) dX5_many_52 (by decide) ?_
    exact y_iret CC hQ dX5_many_54 (⟨rfl, by unfold q_many; rw [if_neg (by omega), if_neg (by omega), if_neg (by omega), if_neg (by omega)]⟩)

set_option maxRecDepth 100000 in
set_option maxHeartbeats 4000000 in
theorem m_tell (l : Launch) (D : va_G) (ad : Nat → Nat) (kI kS kL : ClassId) (μ : Mem) (τ : Tn) (hM : TM μ τ) (hV : tV τ) (a : Int32) : MI l D ad kI kS kL yX5_tell cX5_tell 4 (some .int) 2 46 [.ref (ad 30), .int a] μ (fun r μ2 => (μ2 = if inB a (tS τ) = true then mu μ 30 29 (tr_tell τ a (μ 30 29)) else μ) ∧ r = q_tell τ a) := by
  refine met_I RX5 rfl (by decide) (lv := [(0, .ref (ad 30)), (1, .int a)]) rfl (Nat.le_of_ble_eq_true rfl) ?_
  intro pp ee ss mm aa bb me cd AA hA0 CC hnm QQ hQ
  have hB := hV.1
  have hP9 : tP τ ≤ 9 := hB.1
  have hS4 : tS τ ≤ 4 := hB.2.1
  have hVc := hV.2.1
  refine y_aload_n CC 0 dX5_tell_0 rfl rfl ?_
  refine y_iload_n CC 1 dX5_tell_1 rfl rfl ?_
  refine y_callVI (ci := 5) (st := []) CC cl_X5_131 (m_noSleeper l D ad kI kS kL μ τ hM hB a) (by omega) rfl rfl rfl (Nat.le_of_ble_eq_true rfl) ⟨by decide, by decide⟩ ⟨Nat.zero_le _, Nat.zero_le _⟩ dX5_tell_2 (fun r_ μ_ w_2 => ?_)
  rcases w_2 with ⟨rfl, ⟨b_1, rfl⟩ | ⟨b_1, rfl⟩⟩
  · skip
    refine z_if_eqF CC 10 dX5_tell_5 (by decide) (a := (1 : Int)) (nI_toInt (by decide)) (by decide) ?_
    refine y_iconst CC ((-1)) dX5_tell_8 (by decide) ?_
    exact y_iret CC hQ dX5_tell_9 (⟨by simp [tr_tell, mu_mu, mu_at, b_1], by simp [q_tell, b_1]⟩)
  · skip
    obtain ⟨j, hj, rfl⟩ := inB_of b_1 (by omega)
    refine z_if_eqT CC 10 dX5_tell_5 (by decide) (a := (0 : Int)) (nI_toInt (by decide)) (by decide) ?_
    have hkb := hB.2.2.1 j (by omega)
    rcases (show tK τ j = 0 ∨ tK τ j = 1 ∨ tK τ j = 2 by omega) with hk_ | hk_ | hk_
    · skip
      refine y_aload_n CC 0 dX5_tell_10 rfl rfl ?_
      refine y_getr CC gl_X5_13 (by omega) (d := 32) rfl dX5_tell_11 ?_
      refine y_iload_n CC 1 dX5_tell_14 rfl rfl ?_
      refine y_ialdN CC (n := 4) (by omega) (by decide) (by omega) (by omega) (v := nI 0) (by rw [(hM.2.2.1 j (by omega)).1, hk_]) dX5_tell_15 ?_
      refine y_istore_n CC [(2, .int (nI 0)), (0, .ref (ad 30)), (1, .int (nI j))] dX5_tell_16 rfl (by decide) rfl ?_
      refine y_iload_n CC 0 dX5_tell_17 rfl rfl ?_
      refine y_iconst CC (nI 2) dX5_tell_18 (by decide) ?_
      refine z_icmp_neT CC 27 dX5_tell_19 (by decide) (a := (0 : Int)) (b := (2 : Int)) (nI_toInt (by decide)) (nI_toInt (by decide)) (by decide) ?_
      refine y_iload_n CC 0 dX5_tell_27 rfl rfl ?_
      refine z_if_leT CC 36 dX5_tell_28 (by decide) (a := (0 : Int)) (nI_toInt (by decide)) (by decide) ?_
      refine y_aload_n CC 1 dX5_tell_36 rfl rfl ?_
      refine y_iconst CC (nI 1) dX5_tell_37 (by decide) ?_
      refine y_callVV (ci := 5) (st := []) CC cl_X5_213 (m_traced l D ad kI kS kL μ (nI 1)) (by omega) rfl rfl rfl (Nat.le_of_ble_eq_true rfl) ⟨by decide, by decide⟩ ⟨Nat.zero_le _, Nat.zero_le _⟩ dX5_tell_38 (fun μ_ w_3 => ?_)
      obtain rfl := w_3
      refine y_iload_n CC 0 dX5_tell_41 rfl rfl ?_
      refine y_iconst CC (nI 2) dX5_tell_42 (by decide) ?_
      refine z_icmp_neT CC 51 dX5_tell_43 (by decide) (a := (0 : Int)) (b := (2 : Int)) (nI_toInt (by decide)) (nI_toInt (by decide)) (by decide) ?_
      refine y_aload_n CC 1 dX5_tell_51 rfl rfl ?_
      refine y_getr CC gl_X5_19 (by omega) (d := 34) rfl dX5_tell_52 ?_
      refine y_iload_n CC 2 dX5_tell_55 rfl rfl ?_
      refine y_ialdN CC (n := 4) (by omega) (by decide) (by omega) (by omega) (v := nI (tD τ j)) (by simp only [mu_ne _ _ (Or.inl (show 34 ≠ 30 by decide))]; exact (hM.2.2.1 j (by omega)).2.2) dX5_tell_56 ?_
      refine y_istore_n CC [(3, .int (nI (tD τ j))), (2, .int (nI 0)), (0, .ref (ad 30)), (1, .int (nI j))] dX5_tell_57 rfl (by decide) rfl ?_
      refine y_iload_n CC 1 dX5_tell_58 rfl rfl ?_
      refine z_if_neF CC 66 dX5_tell_59 (by decide) (a := (0 : Int)) (nI_toInt (by decide)) (by decide) ?_
      refine y_iload_n CC 0 dX5_tell_62 rfl rfl ?_
      refine y_goto CC 84 dX5_tell_63 (by decide) ?_
      exact y_iret CC hQ dX5_tell_84 (⟨by simp [tr_tell, mu_mu, mu_at, b_1, ix_nI (show j < 2 ^ 31 by omega), hk_], by simp [q_tell, b_1, ix_nI (show j < 2 ^ 31 by omega), hk_]⟩)
    · skip
      refine y_aload_n CC 0 dX5_tell_10 rfl rfl ?_
      refine y_getr CC gl_X5_13 (by omega) (d := 32) rfl dX5_tell_11 ?_
      refine y_iload_n CC 1 dX5_tell_14 rfl rfl ?_
      refine y_ialdN CC (n := 4) (by omega) (by decide) (by omega) (by omega) (v := nI 1) (by rw [(hM.2.2.1 j (by omega)).1, hk_]) dX5_tell_15 ?_
      refine y_istore_n CC [(2, .int (nI 1)), (0, .ref (ad 30)), (1, .int (nI j))] dX5_tell_16 rfl (by decide) rfl ?_
      refine y_iload_n CC 0 dX5_tell_17 rfl rfl ?_
      refine y_iconst CC (nI 2) dX5_tell_18 (by decide) ?_
      refine z_icmp_neT CC 27 dX5_tell_19 (by decide) (a := (1 : Int)) (b := (2 : Int)) (nI_toInt (by decide)) (nI_toInt (by decide)) (by decide) ?_
      refine y_iload_n CC 0 dX5_tell_27 rfl rfl ?_
      refine z_if_leF CC 36 dX5_tell_28 (by decide) (a := (1 : Int)) (nI_toInt (by decide)) (by decide) ?_
      refine y_aload_n CC 1 dX5_tell_31 rfl rfl ?_
      refine y_iconst CC (nI 2) dX5_tell_32 (by decide) ?_
      refine y_callVV (ci := 5) (st := []) CC cl_X5_213 (m_traced l D ad kI kS kL μ (nI 2)) (by omega) rfl rfl rfl (Nat.le_of_ble_eq_true rfl) ⟨by decide, by decide⟩ ⟨Nat.zero_le _, Nat.zero_le _⟩ dX5_tell_33 (fun μ_ w_4 => ?_)
      obtain rfl := w_4
      refine y_aload_n CC 1 dX5_tell_36 rfl rfl ?_
      refine y_iconst CC (nI 1) dX5_tell_37 (by decide) ?_
      refine y_callVV (ci := 5) (st := []) CC cl_X5_213 (m_traced l D ad kI kS kL (mu μ 30 29 (lv31 (μ 30 29) (nI 2))) (nI 1)) (by omega) rfl rfl rfl (Nat.le_of_ble_eq_true rfl) ⟨by decide, by decide⟩ ⟨Nat.zero_le _, Nat.zero_le _⟩ dX5_tell_38 (fun μ_ w_5 => ?_)
      obtain rfl := w_5
      refine y_iload_n CC 0 dX5_tell_41 rfl rfl ?_
      refine y_iconst CC (nI 2) dX5_tell_42 (by decide) ?_
      refine z_icmp_neT CC 51 dX5_tell_43 (by decide) (a := (1 : Int)) (b := (2 : Int)) (nI_toInt (by decide)) (nI_toInt (by decide)) (by decide) ?_
      refine y_aload_n CC 1 dX5_tell_51 rfl rfl ?_
      refine y_getr CC gl_X5_19 (by omega) (d := 34) rfl dX5_tell_52 ?_
      refine y_iload_n CC 2 dX5_tell_55 rfl rfl ?_
      refine y_ialdN CC (n := 4) (by omega) (by decide) (by omega) (by omega) (v := nI (tD τ j)) (by simp only [mu_ne _ _ (Or.inl (show 34 ≠ 30 by decide))]; exact (hM.2.2.1 j (by omega)).2.2) dX5_tell_56 ?_
      refine y_istore_n CC [(3, .int (nI (tD τ j))), (2, .int (nI 1)), (0, .ref (ad 30)), (1, .int (nI j))] dX5_tell_57 rfl (by decide) rfl ?_
      refine y_iload_n CC 1 dX5_tell_58 rfl rfl ?_
      refine z_if_neT CC 66 dX5_tell_59 (by decide) (a := (1 : Int)) (nI_toInt (by decide)) (by decide) ?_
      refine y_iload_n CC 1 dX5_tell_66 rfl rfl ?_
      refine y_iconst CC (nI 1) dX5_tell_67 (by decide) ?_
      refine z_icmp_neF CC 78 dX5_tell_68 (by decide) (a := (1 : Int)) (b := (1 : Int)) (nI_toInt (by decide)) (nI_toInt (by decide)) (by decide) ?_
      refine y_iload_n CC 0 dX5_tell_71 rfl rfl ?_
      refine y_bipush CC (nI 100) dX5_tell_72 (by decide) ?_
      refine y_iadd CC dX5_tell_74 (v := nI ((tD τ j) + 100)) (nI_add _ _) ?_
      refine y_goto CC 84 dX5_tell_75 (by decide) ?_
      exact y_iret CC hQ dX5_tell_84 (⟨by simp [tr_tell, mu_mu, mu_at, b_1, ix_nI (show j < 2 ^ 31 by omega), hk_], by simp [q_tell, b_1, ix_nI (show j < 2 ^ 31 by omega), hk_]⟩)
    · skip
      refine y_aload_n CC 0 dX5_tell_10 rfl rfl ?_
      refine y_getr CC gl_X5_13 (by omega) (d := 32) rfl dX5_tell_11 ?_
      refine y_iload_n CC 1 dX5_tell_14 rfl rfl ?_
      refine y_ialdN CC (n := 4) (by omega) (by decide) (by omega) (by omega) (v := nI 2) (by rw [(hM.2.2.1 j (by omega)).1, hk_]) dX5_tell_15 ?_
      refine y_istore_n CC [(2, .int (nI 2)), (0, .ref (ad 30)), (1, .int (nI j))] dX5_tell_16 rfl (by decide) rfl ?_
      refine y_iload_n CC 0 dX5_tell_17 rfl rfl ?_
      refine y_iconst CC (nI 2) dX5_tell_18 (by decide) ?_
      refine z_icmp_neF CC 27 dX5_tell_19 (by decide) (a := (2 : Int)) (b := (2 : Int)) (nI_toInt (by decide)) (nI_toInt (by decide)) (by decide) ?_
      refine y_aload_n CC 1 dX5_tell_22 rfl rfl ?_
      refine y_iconst CC (nI 3) dX5_tell_23 (by decide) ?_
      refine y_callVV (ci := 5) (st := []) CC cl_X5_213 (m_traced l D ad kI kS kL μ (nI 3)) (by omega) rfl rfl rfl (Nat.le_of_ble_eq_true rfl) ⟨by decide, by decide⟩ ⟨Nat.zero_le _, Nat.zero_le _⟩ dX5_tell_24 (fun μ_ w_6 => ?_)
      obtain rfl := w_6
      refine y_iload_n CC 0 dX5_tell_27 rfl rfl ?_
      refine z_if_leF CC 36 dX5_tell_28 (by decide) (a := (2 : Int)) (nI_toInt (by decide)) (by decide) ?_
      refine y_aload_n CC 1 dX5_tell_31 rfl rfl ?_
      refine y_iconst CC (nI 2) dX5_tell_32 (by decide) ?_
      refine y_callVV (ci := 5) (st := []) CC cl_X5_213 (m_traced l D ad kI kS kL (mu μ 30 29 (lv31 (μ 30 29) (nI 3))) (nI 2)) (by omega) rfl rfl rfl (Nat.le_of_ble_eq_true rfl) ⟨by decide, by decide⟩ ⟨Nat.zero_le _, Nat.zero_le _⟩ dX5_tell_33 (fun μ_ w_7 => ?_)
      obtain rfl := w_7
      refine y_aload_n CC 1 dX5_tell_36 rfl rfl ?_
      refine y_iconst CC (nI 1) dX5_tell_37 (by decide) ?_
      refine y_callVV (ci := 5) (st := []) CC cl_X5_213 (m_traced l D ad kI kS kL (mu (mu μ 30 29 (lv31 (μ 30 29) (nI 3))) 30 29 (lv31 ((mu μ 30 29 (lv31 (μ 30 29) (nI 3))) 30 29) (nI 2))) (nI 1)) (by omega) rfl rfl rfl (Nat.le_of_ble_eq_true rfl) ⟨by decide, by decide⟩ ⟨Nat.zero_le _, Nat.zero_le _⟩ dX5_tell_38 (fun μ_ w_8 => ?_)
      obtain rfl := w_8
      refine y_iload_n CC 0 dX5_tell_41 rfl rfl ?_
      refine y_iconst CC (nI 2) dX5_tell_42 (by decide) ?_
      refine z_icmp_neF CC 51 dX5_tell_43 (by decide) (a := (2 : Int)) (b := (2 : Int)) (nI_toInt (by decide)) (nI_toInt (by decide)) (by decide) ?_
      refine y_aload_n CC 1 dX5_tell_46 rfl rfl ?_
      refine y_iconst CC (nI 1) dX5_tell_47 (by decide) ?_
      refine y_callVV (ci := 5) (st := []) CC cl_X5_213 (m_traced l D ad kI kS kL (mu (mu (mu μ 30 29 (lv31 (μ 30 29) (nI 3))) 30 29 (lv31 ((mu μ 30 29 (lv31 (μ 30 29) (nI 3))) 30 29) (nI 2))) 30 29 (lv31 ((mu (mu μ 30 29 (lv31 (μ 30 29) (nI 3))) 30 29 (lv31 ((mu μ 30 29 (lv31 (μ 30 29) (nI 3))) 30 29) (nI 2))) 30 29) (nI 1))) (nI 1)) (by omega) rfl rfl rfl (Nat.le_of_ble_eq_true rfl) ⟨by decide, by decide⟩ ⟨Nat.zero_le _, Nat.zero_le _⟩ dX5_tell_48 (fun μ_ w_9 => ?_)
      obtain rfl := w_9
      refine y_aload_n CC 1 dX5_tell_51 rfl rfl ?_
      refine y_getr CC gl_X5_19 (by omega) (d := 34) rfl dX5_tell_52 ?_
      refine y_iload_n CC 2 dX5_tell_55 rfl rfl ?_
      refine y_ialdN CC (n := 4) (by omega) (by decide) (by omega) (by omega) (v := nI (tD τ j)) (by simp only [mu_ne _ _ (Or.inl (show 34 ≠ 30 by decide))]; exact (hM.2.2.1 j (by omega)).2.2) dX5_tell_56 ?_
      refine y_istore_n CC [(3, .int (nI (tD τ j))), (2, .int (nI 2)), (0, .ref (ad 30)), (1, .int (nI j))] dX5_tell_57 rfl (by decide) rfl ?_
      refine y_iload_n CC 1 dX5_tell_58 rfl rfl ?_
      refine z_if_neT CC 66 dX5_tell_59 (by decide) (a := (2 : Int)) (nI_toInt (by decide)) (by decide) ?_
      refine y_iload_n CC 1 dX5_tell_66 rfl rfl ?_
      refine y_iconst CC (nI 1) dX5_tell_67 (by decide) ?_
      refine z_icmp_neT CC 78 dX5_tell_68 (by decide) (a := (2 : Int)) (b := (1 : Int)) (nI_toInt (by decide)) (nI_toInt (by decide)) (by decide) ?_
      refine y_iconst CC (nI 2) dX5_tell_78 (by decide) ?_
      refine y_iload_n CC 0 dX5_tell_79 rfl rfl ?_
      refine y_imul CC dX5_tell_80 (v := nI (tD τ j + tD τ j)) ((pk_mul _ _).trans (by rw [Nat.two_mul])) ?_
      refine y_bipush CC (nI 100) dX5_tell_81 (by decide) ?_
      refine y_iadd CC dX5_tell_83 (v := nI (tD τ j + 100 + tD τ j)) ((nI_add _ _).trans (congrArg nI (by omega))) ?_
      exact y_iret CC hQ dX5_tell_84 (⟨by simp [tr_tell, mu_mu, mu_at, b_1, ix_nI (show j < 2 ^ 31 by omega), hk_], by simp [q_tell, b_1, ix_nI (show j < 2 ^ 31 by omega), hk_]⟩)

set_option maxRecDepth 100000 in
set_option maxHeartbeats 4000000 in
theorem m_waken (l : Launch) (D : va_G) (ad : Nat → Nat) (kI kS kL : ClassId) (μ : Mem) (τ : Tn) (hM : TM μ τ) (hV : tV τ) (a : Int32) : MI l D ad kI kS kL yX5_waken cX5_waken 2 (some .int) 2 46 [.ref (ad 30), .int a] μ (fun r μ2 => (μ2 = if inB a (tS τ) = true then mu μ 30 29 (tr_waken τ a (μ 30 29)) else μ) ∧ r = q_waken τ a) := by
  refine met_I RX5 rfl (by decide) (lv := [(0, .ref (ad 30)), (1, .int a)]) rfl (Nat.le_of_ble_eq_true rfl) ?_
  intro pp ee ss mm aa bb me cd AA hA0 CC hnm QQ hQ
  have hB := hV.1
  have hP9 : tP τ ≤ 9 := hB.1
  have hS4 : tS τ ≤ 4 := hB.2.1
  have hVc := hV.2.1
  refine y_aload_n CC 0 dX5_waken_0 rfl rfl ?_
  refine y_iload_n CC 1 dX5_waken_1 rfl rfl ?_
  refine y_callVI (ci := 5) (st := []) CC cl_X5_131 (m_noSleeper l D ad kI kS kL μ τ hM hB a) (by omega) rfl rfl rfl (Nat.le_of_ble_eq_true rfl) ⟨by decide, by decide⟩ ⟨Nat.zero_le _, Nat.zero_le _⟩ dX5_waken_2 (fun r_ μ_ w_2 => ?_)
  rcases w_2 with ⟨rfl, ⟨b_1, rfl⟩ | ⟨b_1, rfl⟩⟩
  · skip
    refine z_if_eqF CC 10 dX5_waken_5 (by decide) (a := (1 : Int)) (nI_toInt (by decide)) (by decide) ?_
    refine y_iconst CC ((-1)) dX5_waken_8 (by decide) ?_
    exact y_iret CC hQ dX5_waken_9 (⟨by simp [tr_waken, mu_mu, mu_at, b_1], by simp [q_waken, b_1]⟩)
  · skip
    obtain ⟨j, hj, rfl⟩ := inB_of b_1 (by omega)
    refine z_if_eqT CC 10 dX5_waken_5 (by decide) (a := (0 : Int)) (nI_toInt (by decide)) (by decide) ?_
    have hkb := hB.2.2.1 j (by omega)
    rcases (show tK τ j = 0 ∨ tK τ j = 1 ∨ tK τ j = 2 by omega) with hk_ | hk_ | hk_
    · skip
      refine y_aload_n CC 0 dX5_waken_10 rfl rfl ?_
      refine y_aload_n CC 0 dX5_waken_11 rfl rfl ?_
      refine y_getr CC gl_X5_13 (by omega) (d := 32) rfl dX5_waken_12 ?_
      refine y_iload_n CC 1 dX5_waken_15 rfl rfl ?_
      refine y_ialdN CC (n := 4) (by omega) (by decide) (by omega) (by omega) (v := nI 0) (by rw [(hM.2.2.1 j (by omega)).1, hk_]) dX5_waken_16 ?_
      refine y_iconst CC (nI 2) dX5_waken_17 (by decide) ?_
      refine z_icmp_neT CC 25 dX5_waken_18 (by decide) (a := (0 : Int)) (b := (2 : Int)) (nI_toInt (by decide)) (nI_toInt (by decide)) (by decide) ?_
      refine y_iconst CC (nI 4) dX5_waken_25 (by decide) ?_
      refine y_callVV (ci := 5) (st := []) CC cl_X5_213 (m_traced l D ad kI kS kL μ (nI 4)) (by omega) rfl rfl rfl (Nat.le_of_ble_eq_true rfl) ⟨by decide, by decide⟩ ⟨Nat.zero_le _, Nat.zero_le _⟩ dX5_waken_26 (fun μ_ w_3 => ?_)
      obtain rfl := w_3
      refine y_aload_n CC 0 dX5_waken_29 rfl rfl ?_
      refine y_getr CC gl_X5_13 (by omega) (d := 32) rfl dX5_waken_30 ?_
      refine y_iload_n CC 1 dX5_waken_33 rfl rfl ?_
      refine y_ialdN CC (n := 4) (by omega) (by decide) (by omega) (by omega) (v := nI 0) (by rw [mu_ne _ _ (Or.inl (by decide)), (hM.2.2.1 j (by omega)).1, hk_]) dX5_waken_34 ?_
      refine y_iconst CC (nI 2) dX5_waken_35 (by decide) ?_
      refine z_icmp_neT CC 44 dX5_waken_36 (by decide) (a := (0 : Int)) (b := (2 : Int)) (nI_toInt (by decide)) (nI_toInt (by decide)) (by decide) ?_
      refine y_iload_n CC 1 dX5_waken_44 rfl rfl ?_
      exact y_iret CC hQ dX5_waken_45 (⟨by simp [tr_waken, mu_mu, mu_at, b_1, ix_nI (show j < 2 ^ 31 by omega), hk_], by simp [q_waken, b_1, ix_nI (show j < 2 ^ 31 by omega), hk_]⟩)
    · skip
      refine y_aload_n CC 0 dX5_waken_10 rfl rfl ?_
      refine y_aload_n CC 0 dX5_waken_11 rfl rfl ?_
      refine y_getr CC gl_X5_13 (by omega) (d := 32) rfl dX5_waken_12 ?_
      refine y_iload_n CC 1 dX5_waken_15 rfl rfl ?_
      refine y_ialdN CC (n := 4) (by omega) (by decide) (by omega) (by omega) (v := nI 1) (by rw [(hM.2.2.1 j (by omega)).1, hk_]) dX5_waken_16 ?_
      refine y_iconst CC (nI 2) dX5_waken_17 (by decide) ?_
      refine z_icmp_neT CC 25 dX5_waken_18 (by decide) (a := (1 : Int)) (b := (2 : Int)) (nI_toInt (by decide)) (nI_toInt (by decide)) (by decide) ?_
      refine y_iconst CC (nI 4) dX5_waken_25 (by decide) ?_
      refine y_callVV (ci := 5) (st := []) CC cl_X5_213 (m_traced l D ad kI kS kL μ (nI 4)) (by omega) rfl rfl rfl (Nat.le_of_ble_eq_true rfl) ⟨by decide, by decide⟩ ⟨Nat.zero_le _, Nat.zero_le _⟩ dX5_waken_26 (fun μ_ w_4 => ?_)
      obtain rfl := w_4
      refine y_aload_n CC 0 dX5_waken_29 rfl rfl ?_
      refine y_getr CC gl_X5_13 (by omega) (d := 32) rfl dX5_waken_30 ?_
      refine y_iload_n CC 1 dX5_waken_33 rfl rfl ?_
      refine y_ialdN CC (n := 4) (by omega) (by decide) (by omega) (by omega) (v := nI 1) (by rw [mu_ne _ _ (Or.inl (by decide)), (hM.2.2.1 j (by omega)).1, hk_]) dX5_waken_34 ?_
      refine y_iconst CC (nI 2) dX5_waken_35 (by decide) ?_
      refine z_icmp_neT CC 44 dX5_waken_36 (by decide) (a := (1 : Int)) (b := (2 : Int)) (nI_toInt (by decide)) (nI_toInt (by decide)) (by decide) ?_
      refine y_iload_n CC 1 dX5_waken_44 rfl rfl ?_
      exact y_iret CC hQ dX5_waken_45 (⟨by simp [tr_waken, mu_mu, mu_at, b_1, ix_nI (show j < 2 ^ 31 by omega), hk_], by simp [q_waken, b_1, ix_nI (show j < 2 ^ 31 by omega), hk_]⟩)
    · skip
      refine y_aload_n CC 0 dX5_waken_10 rfl rfl ?_
      refine y_aload_n CC 0 dX5_waken_11 rfl rfl ?_
      refine y_getr CC gl_X5_13 (by omega) (d := 32) rfl dX5_waken_12 ?_
      refine y_iload_n CC 1 dX5_waken_15 rfl rfl ?_
      refine y_ialdN CC (n := 4) (by omega) (by decide) (by omega) (by omega) (v := nI 2) (by rw [(hM.2.2.1 j (by omega)).1, hk_]) dX5_waken_16 ?_
      refine y_iconst CC (nI 2) dX5_waken_17 (by decide) ?_
      refine z_icmp_neF CC 25 dX5_waken_18 (by decide) (a := (2 : Int)) (b := (2 : Int)) (nI_toInt (by decide)) (nI_toInt (by decide)) (by decide) ?_
      refine y_iconst CC (nI 5) dX5_waken_21 (by decide) ?_
      refine y_goto CC 26 dX5_waken_22 (by decide) ?_
      refine y_callVV (ci := 5) (st := []) CC cl_X5_213 (m_traced l D ad kI kS kL μ (nI 5)) (by omega) rfl rfl rfl (Nat.le_of_ble_eq_true rfl) ⟨by decide, by decide⟩ ⟨Nat.zero_le _, Nat.zero_le _⟩ dX5_waken_26 (fun μ_ w_5 => ?_)
      obtain rfl := w_5
      refine y_aload_n CC 0 dX5_waken_29 rfl rfl ?_
      refine y_getr CC gl_X5_13 (by omega) (d := 32) rfl dX5_waken_30 ?_
      refine y_iload_n CC 1 dX5_waken_33 rfl rfl ?_
      refine y_ialdN CC (n := 4) (by omega) (by decide) (by omega) (by omega) (v := nI 2) (by rw [mu_ne _ _ (Or.inl (by decide)), (hM.2.2.1 j (by omega)).1, hk_]) dX5_waken_34 ?_
      refine y_iconst CC (nI 2) dX5_waken_35 (by decide) ?_
      refine z_icmp_neF CC 44 dX5_waken_36 (by decide) (a := (2 : Int)) (b := (2 : Int)) (nI_toInt (by decide)) (nI_toInt (by decide)) (by decide) ?_
      refine y_bipush CC (nI 90) dX5_waken_39 (by decide) ?_
      refine y_goto CC 45 dX5_waken_41 (by decide) ?_
      exact y_iret CC hQ dX5_waken_45 (⟨by simp [tr_waken, mu_mu, mu_at, b_1, ix_nI (show j < 2 ^ 31 by omega), hk_], by simp [q_waken, b_1, ix_nI (show j < 2 ^ 31 by omega), hk_]⟩)

set_option maxRecDepth 100000 in
set_option maxHeartbeats 4000000 in
theorem m_as (l : Launch) (D : va_G) (ad : Nat → Nat) (kI kS kL : ClassId) (μ : Mem) (τ : Tn) (hM : TM μ τ) (hV : tV τ) (a k : Int32) : MI l D ad kI kS kL yX5_as cX5_as 3 (some .int) 2 46 [.ref (ad 30), .int a, .int k] μ (fun r μ2 => (μ2 = mu μ 30 0 (nI (f_as τ a k))) ∧ r = q_as τ a k) := by
  refine met_I RX5 rfl (by decide) (lv := [(0, .ref (ad 30)), (1, .int a), (2, .int k)]) rfl (Nat.le_of_ble_eq_true rfl) ?_
  intro pp ee ss mm aa bb me cd AA hA0 CC hnm QQ hQ
  have hB := hV.1
  have hP9 : tP τ ≤ 9 := hB.1
  have hS4 : tS τ ≤ 4 := hB.2.1
  have hVc := hV.2.1
  refine y_aload_n CC 0 dX5_as_0 rfl rfl ?_
  refine y_iload_n CC 1 dX5_as_1 rfl rfl ?_
  refine y_callVI (ci := 5) (st := []) CC cl_X5_131 (m_noSleeper l D ad kI kS kL μ τ hM hB a) (by omega) rfl rfl rfl (Nat.le_of_ble_eq_true rfl) ⟨by decide, by decide⟩ ⟨Nat.zero_le _, Nat.zero_le _⟩ dX5_as_2 (fun r_ μ_ w_2 => ?_)
  rcases w_2 with ⟨rfl, ⟨b_1, rfl⟩ | ⟨b_1, rfl⟩⟩
  · skip
    refine z_if_eqF CC 14 dX5_as_5 (by decide) (a := (1 : Int)) (nI_toInt (by decide)) (by decide) ?_
    refine y_aload_n CC 0 dX5_as_8 rfl rfl ?_
    refine y_iconst CC ((-1)) dX5_as_9 (by decide) ?_
    refine y_callVI (ci := 5) (st := []) CC cl_X5_116 (m_refused l D ad kI kS kL μ (-1)) (by omega) rfl rfl rfl (Nat.le_of_ble_eq_true rfl) ⟨by decide, by decide⟩ ⟨Nat.zero_le _, Nat.zero_le _⟩ dX5_as_10 (fun r_ μ_ w_3 => ?_)
    obtain ⟨rfl, rfl⟩ := w_3
    exact y_iret CC hQ dX5_as_13 (⟨by simp [f_as, mu_mu, b_1], by simp [q_as, b_1]⟩)
  · skip
    obtain ⟨j, hj, rfl⟩ := inB_of b_1 (by omega)
    refine z_if_eqT CC 14 dX5_as_5 (by decide) (a := (0 : Int)) (nI_toInt (by decide)) (by decide) ?_
    refine y_iload_n CC 2 dX5_as_14 rfl rfl ?_
    refine y_i2l CC dX5_as_15 (v := (k).toInt64) rfl ?_
    refine y_lconst CC 0 dX5_as_16 rfl ?_
    refine y_ldc2 CC kl_X5_119 dX5_as_17 ?_
    refine y_callSI (st := []) CC cl_X5_74 (m_in l D ad kI kS kL μ ((k).toInt64) 0 (2) ((k).toInt) ((0 : Int)) ((2 : Int))  ((l_i _).trans rfl) (by decide) (by decide)) rfl rfl (Nat.le_of_ble_eq_true rfl) ⟨by decide, by decide⟩ ⟨Nat.zero_le _, Nat.zero_le _⟩ dX5_as_20 (fun r_ μ_ w_5 => ?_)
    rcases w_5 with ⟨rfl, ⟨i_4, rfl⟩ | ⟨i_4, rfl⟩⟩
    · skip
      have hv_ : inB k 3 = true := inB_t (by omega)
      refine z_if_neT CC 33 dX5_as_23 (by decide) (a := (1 : Int)) (nI_toInt (by decide)) (by decide) ?_
      have hkb := hB.2.2.1 j (by omega)
      obtain ⟨jk, hjk, rfl⟩ := inB_of hv_ (by omega)
      refine y_aload_n CC 0 dX5_as_33 rfl rfl ?_
      refine y_getr CC gl_X5_13 (by omega) (d := 32) rfl dX5_as_34 ?_
      refine y_iload_n CC 1 dX5_as_37 rfl rfl ?_
      refine y_ialdN CC (n := 4) (by omega) (by decide) (by omega) (by omega) (v := nI (tK τ j)) (hM.2.2.1 j (by omega)).1 dX5_as_38 ?_
      refine y_iload_n CC 2 dX5_as_39 rfl rfl ?_
      refine z_icmp_lt CC 51 dX5_as_40 (by decide) (a := ((tK τ j : Nat) : Int)) (b := ((jk : Nat) : Int)) (nI_toInt (by omega)) (nI_toInt (by omega)) (fun c_6 => ?_) (fun c_6 => ?_)
      · skip
        have hk1_ : ¬ jk ≤ tK τ j := by omega
        have hk2_ : tK τ j < jk := by omega
        refine y_aload_n CC 0 dX5_as_51 rfl rfl ?_
        refine y_iconst CC (nI 2) dX5_as_52 (by decide) ?_
        refine y_callVI (ci := 5) (st := []) CC cl_X5_104 (m_failed l D ad kI kS kL μ 2) (by omega) rfl rfl rfl (Nat.le_of_ble_eq_true rfl) ⟨by decide, by decide⟩ ⟨Nat.zero_le _, Nat.zero_le _⟩ dX5_as_53 (fun r_ μ_ w_7 => ?_)
        obtain ⟨rfl, rfl⟩ := w_7
        exact y_iret CC hQ dX5_as_56 (⟨by simp [f_as, mu_mu, b_1, ix_nI (show j < 2 ^ 31 by omega), hv_, ix_nI (show jk < 2 ^ 31 by omega), hk1_, hk2_], by simp [q_as, b_1, ix_nI (show j < 2 ^ 31 by omega), hv_, ix_nI (show jk < 2 ^ 31 by omega), hk1_, hk2_]⟩)
      · skip
        have hk1_ : jk ≤ tK τ j := by omega
        have hk2_ : ¬ tK τ j < jk := by omega
        refine y_aload_n CC 0 dX5_as_43 rfl rfl ?_
        refine y_iconst CC (nI 1) dX5_as_44 (by decide) ?_
        refine y_callVI (ci := 5) (st := []) CC cl_X5_116 (m_refused l D ad kI kS kL μ (nI 1)) (by omega) rfl rfl rfl (Nat.le_of_ble_eq_true rfl) ⟨by decide, by decide⟩ ⟨Nat.zero_le _, Nat.zero_le _⟩ dX5_as_45 (fun r_ μ_ w_8 => ?_)
        obtain ⟨rfl, rfl⟩ := w_8
        refine y_goto CC 56 dX5_as_48 (by decide) ?_
        exact y_iret CC hQ dX5_as_56 (⟨by simp [f_as, mu_mu, b_1, ix_nI (show j < 2 ^ 31 by omega), hv_, ix_nI (show jk < 2 ^ 31 by omega), hk1_, hk2_], by simp [q_as, b_1, ix_nI (show j < 2 ^ 31 by omega), hv_, ix_nI (show jk < 2 ^ 31 by omega), hk1_, hk2_]⟩)
    · skip
      have hv_ : inB k 3 = false := inB_f (by omega)
      refine z_if_neF CC 33 dX5_as_23 (by decide) (a := (0 : Int)) (nI_toInt (by decide)) (by decide) ?_
      refine y_aload_n CC 0 dX5_as_26 rfl rfl ?_
      refine y_bipush CC ((-2)) dX5_as_27 (by decide) ?_
      refine y_callVI (ci := 5) (st := []) CC cl_X5_116 (m_refused l D ad kI kS kL μ (-2)) (by omega) rfl rfl rfl (Nat.le_of_ble_eq_true rfl) ⟨by decide, by decide⟩ ⟨Nat.zero_le _, Nat.zero_le _⟩ dX5_as_29 (fun r_ μ_ w_9 => ?_)
      obtain ⟨rfl, rfl⟩ := w_9
      exact y_iret CC hQ dX5_as_32 (⟨by simp [f_as, mu_mu, b_1, ix_nI (show j < 2 ^ 31 by omega), hv_], by simp [q_as, b_1, ix_nI (show j < 2 ^ 31 by omega), hv_]⟩)
