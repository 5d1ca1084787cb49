theorem tb_and {x k : Nat} : x &&& 2 ^ k = if x.testBit k then 2 ^ k else 0 := by
  apply Nat.eq_of_testBit_eq
  intro i
  rw [Nat.testBit_and, Nat.testBit_two_pow]
  by_cases h : k = i
  · subst h
    cases hb : x.testBit k <;> simp
  · cases hb : x.testBit k <;> simp [h]
theorem and_bit {x k : Nat} (hk : k < 32) : ((x &&& 2 ^ k : Nat) : Int) = 0 ↔ x.testBit k = false := by
  rw [tb_and]
  have h2 : 2 ^ k ≠ 0 := Nat.pos_iff_ne_zero.mp (Nat.two_pow_pos k)
  cases hb : x.testBit k
  · simp
  · rw [if_pos rfl]; exact ⟨fun h => absurd (Int.ofNat_eq_zero.mp h) h2, fun h => by cases h⟩
theorem and_lt {x k : Nat} (hx : x < 2 ^ 31) : x &&& 2 ^ k < 2 ^ 31 := Nat.lt_of_le_of_lt Nat.and_le_left hx

set_option maxRecDepth 100000 in
set_option maxHeartbeats 4000000 in
theorem k_bit (l : Launch) (D : va_G) (ad : Nat → Nat) (kI kS kL : ClassId) (μ : Mem) (k : Nat) (hk : k < 32) : MI l D ad kI kS kL yX4_bit cX4_bit 1 (some .int) 0 0 [.int (nI k)] μ (fun r μ2 => μ = μ2 ∧ r = nI (2 ^ k)) := by
  refine met_I RX4 rfl (by decide) (lv := [(0, .int (nI k))]) rfl (Nat.le_of_ble_eq_true rfl) ?_
  intro pp ee ss mm aa bb me cd AA hA0 CC hnm QQ hQ
  refine y_iload_n CC 0 dX4_bit_0 rfl rfl ?_
  refine z_if_lt CC 16 dX4_bit_1 (by decide) (a := ((k : Nat) : Int)) (nI_toInt (by omega)) (fun c_1 => ?_) (fun c_1 => ?_)
  · skip
    exfalso; omega
  · skip
    refine y_iload_n CC 0 dX4_bit_4 rfl rfl ?_
    refine y_bipush CC (nI 32) dX4_bit_5 (by decide) ?_
    refine z_icmp_ge CC 16 dX4_bit_7 (by decide) (a := ((k : Nat) : Int)) (b := (32 : Int)) (nI_toInt (by omega)) (nI_toInt (by decide)) (fun c_2 => ?_) (fun c_2 => ?_)
    · skip
      exfalso; omega
    · skip
      refine y_iconst CC (nI 1) dX4_bit_10 (by decide) ?_
      refine y_iload_n CC 0 dX4_bit_11 rfl rfl ?_
      refine y_ishl CC dX4_bit_12 (v := nI (2 ^ k)) ((i_shl hk (by rw [Nat.one_mul]; exact Nat.pow_lt_pow_right (by decide) hk)).trans (by rw [Nat.one_mul])) ?_
      refine y_goto CC 17 dX4_bit_13 (by decide) ?_
      exact y_iret CC hQ dX4_bit_17 (⟨rfl, rfl⟩)

set_option maxRecDepth 100000 in
set_option maxHeartbeats 4000000 in
theorem k_isIn (l : Launch) (D : va_G) (ad : Nat → Nat) (kI kS kL : ClassId) (μ : Mem) (x k : Nat) (hx : x < 2 ^ 31) (hk : k < 32) : MI l D ad kI kS kL yX4_isIn cX4_isIn 2 (some .boolean) 1 20 [.int (nI x), .int (nI k)] μ (fun r μ2 => μ = μ2 ∧ bo r (x.testBit k)) := by
  refine met_I RX4 rfl (by decide) (lv := [(0, .int (nI x)), (1, .int (nI k))]) rfl (Nat.le_of_ble_eq_true rfl) ?_
  intro pp ee ss mm aa bb me cd AA hA0 CC hnm QQ hQ
  refine y_iload_n CC 0 dX4_isIn_0 rfl rfl ?_
  refine y_iload_n CC 1 dX4_isIn_1 rfl rfl ?_
  refine y_callSI (st := [.int (nI x)]) CC cl_X4_132 (k_bit l D ad kI kS kL μ k (by omega)) rfl rfl (Nat.le_of_ble_eq_true rfl) ⟨by decide, by decide⟩ ⟨Nat.zero_le _, Nat.zero_le _⟩ dX4_isIn_2 (fun r_ μ_ w_1 => ?_)
  obtain ⟨rfl, rfl⟩ := w_1
  refine y_iand CC dX4_isIn_5 (v := nI (x &&& (2 ^ k))) (i_and _ _) ?_
  have hl_ := and_lt (k := k) hx
  refine z_if_eq CC 13 dX4_isIn_6 (by decide) (a := ((x &&& (2 ^ k) : Nat) : Int)) (nI_toInt (by omega)) (fun c_2 => ?_) (fun c_2 => ?_)
  · skip
    refine y_iconst CC (nI 0) dX4_isIn_13 (by decide) ?_
    exact y_zret CC hQ dX4_isIn_14 (by decide) (⟨rfl, Or.inr ⟨(and_bit hk).mp c_2, rfl⟩⟩)
  · skip
    refine y_iconst CC (nI 1) dX4_isIn_9 (by decide) ?_
    refine y_goto CC 14 dX4_isIn_10 (by decide) ?_
    exact y_zret CC hQ dX4_isIn_14 (by decide) (⟨rfl, Or.inl ⟨by cases hb : x.testBit k with | true => rfl | false => exact absurd ((and_bit hk).mpr hb) c_2, rfl⟩⟩)

set_option maxRecDepth 100000 in
set_option maxHeartbeats 4000000 in
theorem k_isLane (l : Launch) (D : va_G) (ad : Nat → Nat) (kI kS kL : ClassId) (μ : Mem) (x : Int32) : MI l D ad kI kS kL yX4_isLane cX4_isLane 1 (some .boolean) 0 0 [.int x] μ (fun r μ2 => μ = μ2 ∧ bo r (inB x 3)) := by
  refine met_I RX4 rfl (by decide) (lv := [(0, .int x)]) rfl (Nat.le_of_ble_eq_true rfl) ?_
  intro pp ee ss mm aa bb me cd AA hA0 CC hnm QQ hQ
  refine y_iload_n CC 0 dX4_isLane_0 rfl rfl ?_
  refine z_if_lt CC 13 dX4_isLane_1 (by decide) (a := (x).toInt) rfl (fun c_1 => ?_) (fun c_1 => ?_)
  · skip
    refine y_iconst CC (nI 0) dX4_isLane_13 (by decide) ?_
    exact y_zret CC hQ dX4_isLane_14 (by decide) (⟨rfl, Or.inr ⟨inB_f (by omega), rfl⟩⟩)
  · skip
    refine y_iload_n CC 0 dX4_isLane_4 rfl rfl ?_
    refine y_iconst CC (nI 2) dX4_isLane_5 (by decide) ?_
    refine z_icmp_gt CC 13 dX4_isLane_6 (by decide) (a := (x).toInt) (b := (2 : Int)) rfl (nI_toInt (by decide)) (fun c_2 => ?_) (fun c_2 => ?_)
    · skip
      refine y_iconst CC (nI 0) dX4_isLane_13 (by decide) ?_
      exact y_zret CC hQ dX4_isLane_14 (by decide) (⟨rfl, Or.inr ⟨inB_f (by omega), rfl⟩⟩)
    · skip
      refine y_iconst CC (nI 1) dX4_isLane_9 (by decide) ?_
      refine y_goto CC 14 dX4_isLane_10 (by decide) ?_
      exact y_zret CC hQ dX4_isLane_14 (by decide) (⟨rfl, Or.inl ⟨inB_t (by omega), rfl⟩⟩)

set_option maxRecDepth 100000 in
set_option maxHeartbeats 4000000 in
theorem k_isMinute (l : Launch) (D : va_G) (ad : Nat → Nat) (kI kS kL : ClassId) (μ : Mem) (x : Int32) : MI l D ad kI kS kL yX4_isMinute cX4_isMinute 1 (some .boolean) 0 0 [.int x] μ (fun r μ2 => μ = μ2 ∧ bo r (inB x 61)) := by
  refine met_I RX4 rfl (by decide) (lv := [(0, .int x)]) rfl (Nat.le_of_ble_eq_true rfl) ?_
  intro pp ee ss mm aa bb me cd AA hA0 CC hnm QQ hQ
  refine y_iload_n CC 0 dX4_isMinute_0 rfl rfl ?_
  refine z_if_lt CC 14 dX4_isMinute_1 (by decide) (a := (x).toInt) rfl (fun c_1 => ?_) (fun c_1 => ?_)
  · skip
    refine y_iconst CC (nI 0) dX4_isMinute_14 (by decide) ?_
    exact y_zret CC hQ dX4_isMinute_15 (by decide) (⟨rfl, Or.inr ⟨inB_f (by omega), rfl⟩⟩)
  · skip
    refine y_iload_n CC 0 dX4_isMinute_4 rfl rfl ?_
    refine y_bipush CC (nI 60) dX4_isMinute_5 (by decide) ?_
    refine z_icmp_gt CC 14 dX4_isMinute_7 (by decide) (a := (x).toInt) (b := (60 : Int)) rfl (nI_toInt (by decide)) (fun c_2 => ?_) (fun c_2 => ?_)
    · skip
      refine y_iconst CC (nI 0) dX4_isMinute_14 (by decide) ?_
      exact y_zret CC hQ dX4_isMinute_15 (by decide) (⟨rfl, Or.inr ⟨inB_f (by omega), rfl⟩⟩)
    · skip
      refine y_iconst CC (nI 1) dX4_isMinute_10 (by decide) ?_
      refine y_goto CC 15 dX4_isMinute_11 (by decide) ?_
      exact y_zret CC hQ dX4_isMinute_15 (by decide) (⟨rfl, Or.inl ⟨inB_t (by omega), rfl⟩⟩)

set_option maxRecDepth 100000 in
set_option maxHeartbeats 4000000 in
theorem k_sheetOrNull (l : Launch) (D : va_G) (ad : Nat → Nat) (kI kS kL : ClassId) (μ : Mem) (x : Int32) : MN l D ad kI kS kL yX4_sheetOrNull cX4_sheetOrNull 2 (some (.object "SleepRoads$Sheet")) 0 0 [.ref (ad 0), .int x] μ (fun r μ2 => μ = μ2 ∧ ((inB x 4 = true ∧ r = some (ad (14 + ix x))) ∨ (inB x 4 = false ∧ r = none))) := by
  refine met_N RX4 rfl (by decide) (lv := [(0, .ref (ad 0)), (1, .int x)]) rfl (Nat.le_of_ble_eq_true rfl) ?_
  intro pp ee ss mm aa bb me cd AA hA0 CC hnm QQ hQ
  refine y_iload_n CC 1 dX4_sheetOrNull_0 rfl rfl ?_
  refine z_if_lt CC 22 dX4_sheetOrNull_1 (by decide) (a := (x).toInt) rfl (fun c_1 => ?_) (fun c_1 => ?_)
  · skip
    refine y_null CC dX4_sheetOrNull_22 ?_
    exact y_aretN CC hQ dX4_sheetOrNull_23 (⟨rfl, Or.inr ⟨inB_f (by omega), rfl⟩⟩)
  · skip
    refine y_iload_n CC 1 dX4_sheetOrNull_4 rfl rfl ?_
    refine y_aload_n CC 0 dX4_sheetOrNull_5 rfl rfl ?_
    refine y_getr CC gl_X4_30 (by omega) (d := 4) rfl dX4_sheetOrNull_6 ?_
    refine y_alenS CC dX4_sheetOrNull_9 ?_
    refine z_icmp_ge CC 22 dX4_sheetOrNull_10 (by decide) (a := (x).toInt) (b := (4 : Int)) rfl (nI_toInt (by decide)) (fun c_2 => ?_) (fun c_2 => ?_)
    · skip
      refine y_null CC dX4_sheetOrNull_22 ?_
      exact y_aretN CC hQ dX4_sheetOrNull_23 (⟨rfl, Or.inr ⟨inB_f (by omega), rfl⟩⟩)
    · skip
      refine y_aload_n CC 0 dX4_sheetOrNull_13 rfl rfl ?_
      refine y_getr CC gl_X4_30 (by omega) (d := 4) rfl dX4_sheetOrNull_14 ?_
      refine y_iload_n CC 1 dX4_sheetOrNull_17 rfl rfl ?_
      obtain ⟨j, hj, rfl⟩ := inB_of (x := x) (n := 4) (inB_t (by omega)) (by omega)
      refine y_aaldS CC (j := j) (by omega) dX4_sheetOrNull_18 ?_
      refine y_goto CC 23 dX4_sheetOrNull_19 (by decide) ?_
      exact y_aret CC hQ dX4_sheetOrNull_23 (⟨rfl, Or.inl ⟨inB_nI hj (by decide), by rw [ix_nI (by omega)]⟩⟩)

set_option maxRecDepth 100000 in
set_option maxHeartbeats 4000000 in
theorem k_gone (l : Launch) (D : va_G) (ad : Nat → Nat) (kI kS kL : ClassId) (μ : Mem) (k d m : Nat) (hk : k ≤ 2) (hd : d ≤ 9) (hm : m ≤ 61) : MI l D ad kI kS kL yX2_gone cX2_gone 3 (some .int) 0 0 [.int (nI k), .int (nI d), .int (nI m)] μ (fun r μ2 => μ = μ2 ∧ r = nI (gone k d m)) := by
  refine met_I RX2 rfl (by decide) (lv := [(0, .int (nI k)), (1, .int (nI d)), (2, .int (nI m))]) rfl (Nat.le_of_ble_eq_true rfl) ?_
  intro pp ee ss mm aa bb me cd AA hA0 CC hnm QQ hQ
  refine y_iload_n CC 0 dX2_gone_0 rfl rfl ?_
  rcases (show k = 0 ∨ k = 1 ∨ k = 2 by omega) with rfl | rfl | rfl
  · skip
    refine y_lookup CC (off := 45) 46 dX2_gone_1 (by decide) (by decide +kernel) (by decide) ?_
    refine y_iload_n CC 2 dX2_gone_46 rfl rfl ?_
    refine y_iload_n CC 1 dX2_gone_47 rfl rfl ?_
    refine y_imul CC dX2_gone_48 (v := nI (m * d)) (pk_mul _ _) ?_
    exact y_iret CC hQ dX2_gone_49 (⟨rfl, by first | rfl | simp [gone]⟩)
  · skip
    refine y_lookup CC (off := 27) 28 dX2_gone_1 (by decide) (by decide +kernel) (by decide) ?_
    refine y_iload_n CC 2 dX2_gone_28 rfl rfl ?_
    refine y_iload_n CC 1 dX2_gone_29 rfl rfl ?_
    refine y_iconst CC (nI 1) dX2_gone_30 (by decide) ?_
    refine y_iadd CC dX2_gone_31 (v := nI (d + 1)) (nI_add _ _) ?_
    refine y_imul CC dX2_gone_32 (v := nI (m * (d + 1))) (pk_mul _ _) ?_
    exact y_iret CC hQ dX2_gone_33 (⟨rfl, by first | rfl | simp [gone]⟩)
  · skip
    refine y_lookup CC (off := 33) 34 dX2_gone_1 (by decide) (by decide +kernel) (by decide) ?_
    refine y_iload_n CC 2 dX2_gone_34 rfl rfl ?_
    refine y_iconst CC (nI 1) dX2_gone_35 (by decide) ?_
    refine y_iadd CC dX2_gone_36 (v := nI (m + 1)) (nI_add _ _) ?_
    refine y_iconst CC (nI 2) dX2_gone_37 (by decide) ?_
    refine y_idiv CC dX2_gone_38 (by decide) (v := nI ((m + 1) / 2)) (i_div (by omega) (by omega) (by omega)) ?_
    refine y_iconst CC (nI 2) dX2_gone_39 (by decide) ?_
    refine y_imul CC dX2_gone_40 (v := nI (((m + 1) / 2) * 2)) (pk_mul _ _) ?_
    refine y_iload_n CC 1 dX2_gone_41 rfl rfl ?_
    refine y_iconst CC (nI 1) dX2_gone_42 (by decide) ?_
    refine y_iadd CC dX2_gone_43 (v := nI (d + 1)) (nI_add _ _) ?_
    refine y_imul CC dX2_gone_44 (v := nI ((((m + 1) / 2) * 2) * (d + 1))) (pk_mul _ _) ?_
    exact y_iret CC hQ dX2_gone_45 (⟨rfl, by first | rfl | simp [gone]⟩)
