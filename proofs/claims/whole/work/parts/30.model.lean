def bn (r : Int32) (b : Bool) : Prop := (b = false ∧ r = nI 1) ∨ (b = true ∧ r = nI 0)
section LC
variable {x y : Int64} {a b : Int}
theorem lc_lt (hx : x.toInt = a) (hy : y.toInt = b) : (lg_cmp x y).toInt < 0 ↔ a < b := by rw [l_cmp hx hy]; split <;> (try split) <;> omega
theorem lc_ge (hx : x.toInt = a) (hy : y.toInt = b) : 0 ≤ (lg_cmp x y).toInt ↔ b ≤ a := by rw [l_cmp hx hy]; split <;> (try split) <;> omega
theorem lc_gt (hx : x.toInt = a) (hy : y.toInt = b) : 0 < (lg_cmp x y).toInt ↔ b < a := by rw [l_cmp hx hy]; split <;> (try split) <;> omega
theorem lc_le (hx : x.toInt = a) (hy : y.toInt = b) : (lg_cmp x y).toInt ≤ 0 ↔ a ≤ b := by rw [l_cmp hx hy]; split <;> (try split) <;> omega
theorem lc_eq (hx : x.toInt = a) (hy : y.toInt = b) : (lg_cmp x y).toInt = 0 ↔ a = b := by rw [l_cmp hx hy]; split <;> (try split) <;> omega
end LC
theorem bit_div {x k : Nat} : (((x / 2 ^ k) &&& 1 : Nat) : Int) = 1 ↔ x.testBit k = true := by
  rw [Nat.and_one_is_mod, Nat.testBit_eq_decide_div_mod_eq, decide_eq_true_iff]
  omega
theorem wh_eq {τ : Tn} {a m : Nat} (hk : tK τ a ≤ 2) : (tK τ a = 0 → (tA τ a + tD τ a * m) % tP τ = pl τ a m) ∧ (tK τ a = 1 → (tA τ a + (tD τ a + 1) * m) % tP τ = pl τ a m) ∧ (tK τ a = 2 → (tA τ a + (2 * (tD τ a + 1)) * ((m + 1) / 2)) % tP τ = pl τ a m) := by
  refine ⟨fun h => ?_, fun h => ?_, fun h => ?_⟩
  · unfold pl pif gone; rw [if_neg (by omega), if_neg (by omega), Nat.mul_comm]
  · unfold pl pif gone; rw [if_pos h, Nat.mul_comm]
  · unfold pl pif gone; rw [if_neg (by omega), if_pos h, Nat.mul_comm (2 * (tD τ a + 1)), Nat.mul_assoc]
theorem gone_2 {d m : Nat} (hd : d ≤ 9) (hm : m ≤ 61) : d * m ≤ 620 ∧ (d + 1) * m ≤ 620 ∧ (2 * (d + 1)) * ((m + 1) / 2) ≤ 620 :=
  ⟨Nat.le_trans (Nat.mul_le_mul hd hm) (by decide), Nat.le_trans (Nat.mul_le_mul (show d + 1 ≤ 10 by omega) hm) (by decide), Nat.le_trans (Nat.mul_le_mul (show 2 * (d + 1) ≤ 20 by omega) (show (m + 1) / 2 ≤ 31 by omega)) (by decide)⟩

set_option maxRecDepth 100000 in
set_option maxHeartbeats 4000000 in
theorem m_in (l : Launch) (D : va_G) (ad : Nat → Nat) (kI kS kL : ClassId) (μ : Mem) (x y z : Int64) (a b c : Int) (hx : x.toInt = a) (hy : y.toInt = b) (hz : z.toInt = c) : MI l D ad kI kS kL yX5_in cX5_in 6 (some .boolean) 0 0 [.long x, .long y, .long z] μ (fun r μ2 => μ = μ2 ∧ (((b ≤ a ∧ a ≤ c) ∧ r = nI 1) ∨ ((a < b ∨ c < a) ∧ r = nI 0))) := by
  refine met_I RX5 rfl (by decide) (lv := [(0, .long x), (2, .long y), (4, .long z)]) rfl (Nat.le_of_ble_eq_true rfl) ?_
  intro pp ee ss mm aa bb me cd AA hA0 CC hnm QQ hQ
  refine y_lload_n CC 0 dX5_in_0 rfl rfl ?_
  refine y_lload_n CC 1 dX5_in_1 rfl rfl ?_
  refine y_lcmp CC dX5_in_2 (v := lg_cmp x y) rfl ?_
  refine z_if_lt CC 17 dX5_in_3 (by decide) (a := (lg_cmp x y).toInt) rfl (fun c_1 => ?_) (fun c_1 => ?_)
  · skip
    rw [lc_lt (a := a) (b := b) hx hy] at c_1
    refine y_iconst CC (nI 0) dX5_in_17 (by decide) ?_
    exact y_zret CC hQ dX5_in_18 (by decide) (⟨rfl, Or.inr ⟨by omega, rfl⟩⟩)
  · skip
    rw [lc_ge (a := a) (b := b) hx hy] at c_1
    refine y_lload_n CC 0 dX5_in_6 rfl rfl ?_
    refine y_lload CC 2 dX5_in_7 rfl ?_
    refine y_lcmp CC dX5_in_9 (v := lg_cmp x z) rfl ?_
    refine z_if_gt CC 17 dX5_in_10 (by decide) (a := (lg_cmp x z).toInt) rfl (fun c_2 => ?_) (fun c_2 => ?_)
    · skip
      rw [lc_gt (a := a) (b := c) hx hz] at c_2
      refine y_iconst CC (nI 0) dX5_in_17 (by decide) ?_
      exact y_zret CC hQ dX5_in_18 (by decide) (⟨rfl, Or.inr ⟨by omega, rfl⟩⟩)
    · skip
      rw [lc_le (a := a) (b := c) hx hz] at c_2
      refine y_iconst CC (nI 1) dX5_in_13 (by decide) ?_
      refine y_goto CC 18 dX5_in_14 (by decide) ?_
      exact y_zret CC hQ dX5_in_18 (by decide) (⟨rfl, Or.inl ⟨by omega, rfl⟩⟩)

set_option maxRecDepth 100000 in
set_option maxHeartbeats 4000000 in
theorem m_lost (l : Launch) (D : va_G) (ad : Nat → Nat) (kI kS kL : ClassId) (μ : Mem)  : ML l D ad kI kS kL yX5_lost cX5_lost 0 (some .long) 0 0 [] μ (fun r μ2 => μ = μ2 ∧ r = lostL) := by
  refine met_L RX5 rfl (by decide) (lv := []) rfl (Nat.le_of_ble_eq_true rfl) ?_
  intro pp ee ss mm aa bb me cd AA hA0 CC hnm QQ hQ
  refine y_ldc2 CC kl_X5_61 dX5_lost_0 ?_
  exact y_lret CC hQ dX5_lost_3 (⟨rfl, rfl⟩)

set_option maxRecDepth 100000 in
set_option maxHeartbeats 4000000 in
theorem m_isIn (l : Launch) (D : va_G) (ad : Nat → Nat) (kI kS kL : ClassId) (μ : Mem) (x k : Nat) (hx : x < 2 ^ 31) (hk : k < 32) : MI l D ad kI kS kL yX5_isIn cX5_isIn 2 (some .boolean) 0 0 [.int (nI x), .int (nI k)] μ (fun r μ2 => μ = μ2 ∧ bo r (x.testBit k)) := by
  refine met_I RX5 rfl (by decide) (lv := [(0, .int (nI x)), (1, .int (nI k))]) rfl (Nat.le_of_ble_eq_true rfl) ?_
  intro pp ee ss mm aa bb me cd AA hA0 CC hnm QQ hQ
  refine y_iload_n CC 0 dX5_isIn_0 rfl rfl ?_
  refine y_iload_n CC 1 dX5_isIn_1 rfl rfl ?_
  refine y_ishr CC dX5_isIn_2 (v := nI (x / 2 ^ k)) (i_shr (by omega) (by omega)) ?_
  refine y_iconst CC (nI 1) dX5_isIn_3 (by decide) ?_
  refine y_iand CC dX5_isIn_4 (v := nI ((x / 2 ^ k) &&& 1)) (i_and _ _) ?_
  have hl_ : x / 2 ^ k &&& 1 ≤ 1 := Nat.and_le_right
  refine y_iconst CC (nI 1) dX5_isIn_5 (by decide) ?_
  refine z_icmp_ne CC 13 dX5_isIn_6 (by decide) (a := (((x / 2 ^ k) &&& 1 : Nat) : Int)) (b := (1 : Int)) (nI_toInt (by omega)) (nI_toInt (by decide)) (fun c_1 => ?_) (fun c_1 => ?_)
  · skip
    refine y_iconst CC (nI 0) dX5_isIn_13 (by decide) ?_
    exact y_zret CC hQ dX5_isIn_14 (by decide) (⟨rfl, Or.inr ⟨by cases hb : x.testBit k with | false => rfl | true => exact absurd (bit_div.mpr hb) c_1, rfl⟩⟩)
  · skip
    refine y_iconst CC (nI 1) dX5_isIn_9 (by decide) ?_
    refine y_goto CC 14 dX5_isIn_10 (by decide) ?_
    exact y_zret CC hQ dX5_isIn_14 (by decide) (⟨rfl, Or.inl ⟨(bit_div.mp c_1), rfl⟩⟩)

set_option maxRecDepth 100000 in
set_option maxHeartbeats 4000000 in
theorem m_refused (l : Launch) (D : va_G) (ad : Nat → Nat) (kI kS kL : ClassId) (μ : Mem) (x : Int32) : MI l D ad kI kS kL yX5_refused cX5_refused 2 (some .int) 0 0 [.ref (ad 30), .int x] μ (fun r μ2 => μ2 = mu μ 30 0 (nI 0) ∧ r = x) := by
  refine met_I RX5 rfl (by decide) (lv := [(0, .ref (ad 30)), (1, .int x)]) rfl (Nat.le_of_ble_eq_true rfl) ?_
  intro pp ee ss mm aa bb me cd AA hA0 CC hnm QQ hQ
  refine y_aload_n CC 0 dX5_refused_0 rfl rfl ?_
  refine y_iconst CC (nI 0) dX5_refused_1 (by decide) ?_
  refine y_puti CC pl_X5_63 (by omega) rfl (Nat.le_of_ble_eq_true rfl) dX5_refused_2 ?_
  refine y_iload_n CC 1 dX5_refused_5 rfl rfl ?_
  exact y_iret CC hQ dX5_refused_6 (⟨rfl, rfl⟩)

set_option maxRecDepth 100000 in
set_option maxHeartbeats 4000000 in
theorem m_failed (l : Launch) (D : va_G) (ad : Nat → Nat) (kI kS kL : ClassId) (μ : Mem) (f : Nat) : MI l D ad kI kS kL yX5_failed cX5_failed 2 (some .int) 0 0 [.ref (ad 30), .int (nI f)] μ (fun r μ2 => μ2 = mu μ 30 0 (nI f) ∧ r = -10 - nI f) := by
  refine met_I RX5 rfl (by decide) (lv := [(0, .ref (ad 30)), (1, .int (nI f))]) rfl (Nat.le_of_ble_eq_true rfl) ?_
  intro pp ee ss mm aa bb me cd AA hA0 CC hnm QQ hQ
  refine y_aload_n CC 0 dX5_failed_0 rfl rfl ?_
  refine y_iload_n CC 1 dX5_failed_1 rfl rfl ?_
  refine y_puti CC pl_X5_63 (by omega) rfl (Nat.le_of_ble_eq_true rfl) dX5_failed_2 ?_
  refine y_bipush CC ((-10)) dX5_failed_5 (by decide) ?_
  refine y_iload_n CC 1 dX5_failed_7 rfl rfl ?_
  refine y_isub CC dX5_failed_8 (v := (-10) - (nI f)) rfl ?_
  exact y_iret CC hQ dX5_failed_9 (⟨rfl, rfl⟩)

set_option maxRecDepth 100000 in
set_option maxHeartbeats 4000000 in
theorem m_failedLong (l : Launch) (D : va_G) (ad : Nat → Nat) (kI kS kL : ClassId) (μ : Mem) (f : Nat) : ML l D ad kI kS kL yX5_failedLong cX5_failedLong 2 (some .long) 1 19 [.ref (ad 30), .int (nI f)] μ (fun r μ2 => μ2 = mu μ 30 0 (nI f) ∧ r = lostL) := by
  refine met_L RX5 rfl (by decide) (lv := [(0, .ref (ad 30)), (1, .int (nI f))]) rfl (Nat.le_of_ble_eq_true rfl) ?_
  intro pp ee ss mm aa bb me cd AA hA0 CC hnm QQ hQ
  refine y_aload_n CC 0 dX5_failedLong_0 rfl rfl ?_
  refine y_iload_n CC 1 dX5_failedLong_1 rfl rfl ?_
  refine y_puti CC pl_X5_63 (by omega) rfl (Nat.le_of_ble_eq_true rfl) dX5_failedLong_2 ?_
  refine y_callSL (st := []) CC cl_X5_67 (m_lost l D ad kI kS kL (mu μ 30 0 (nI f)) ) rfl rfl (Nat.le_of_ble_eq_true rfl) ⟨by decide, by decide⟩ ⟨Nat.zero_le _, Nat.zero_le _⟩ dX5_failedLong_5 (fun r_ μ_ w_1 => ?_)
  obtain ⟨rfl, rfl⟩ := w_1
  exact y_lret CC hQ dX5_failedLong_8 (⟨rfl, rfl⟩)

set_option maxRecDepth 100000 in
set_option maxHeartbeats 4000000 in
theorem m_noPlace (l : Launch) (D : va_G) (ad : Nat → Nat) (kI kS kL : ClassId) (μ : Mem) (τ : Tn) (hM : TM μ τ) (hB : tB τ) (x : Int32) : MI l D ad kI kS kL yX5_noPlace cX5_noPlace 2 (some .boolean) 1 25 [.ref (ad 30), .int x] μ (fun r μ2 => μ = μ2 ∧ bn r (inB x (tP τ))) := by
  refine met_I RX5 rfl (by decide) (lv := [(0, .ref (ad 30)), (1, .int x)]) rfl (Nat.le_of_ble_eq_true rfl) ?_
  intro pp ee ss mm aa bb me cd AA hA0 CC hnm QQ hQ
  have hP9 : tP τ ≤ 9 := hB.1
  have hS4 : tS τ ≤ 4 := hB.2.1
  refine y_iload_n CC 1 dX5_noPlace_0 rfl rfl ?_
  refine y_i2l CC dX5_noPlace_1 (v := (x).toInt64) rfl ?_
  refine y_lconst CC 0 dX5_noPlace_2 rfl ?_
  refine y_aload_n CC 0 dX5_noPlace_3 rfl rfl ?_
  refine y_geti CC gl_X5_71 (by omega) rfl (v := nI (tP τ)) hM.1 dX5_noPlace_4 ?_
  refine y_i2l CC dX5_noPlace_7 (v := (nI (tP τ)).toInt64) rfl ?_
  refine y_lconst CC 1 dX5_noPlace_8 rfl ?_
  refine y_lsub CC dX5_noPlace_9 (v := (((nI (tP τ)).toInt64) - 1)) rfl ?_
  refine y_callSI (st := []) CC cl_X5_74 (m_in l D ad kI kS kL μ ((x).toInt64) 0 (((nI (tP τ)).toInt64) - 1) ((x).toInt) ((0 : Int)) (((tP τ : Nat) : Int) - (1 : Int))  ((l_i _).trans rfl) (by decide) (l_sub ((l_i _).trans (nI_toInt (by omega))) (by decide) (by omega))) rfl rfl (Nat.le_of_ble_eq_true rfl) ⟨by decide, by decide⟩ ⟨Nat.zero_le _, Nat.zero_le _⟩ dX5_noPlace_10 (fun r_ μ_ w_2 => ?_)
  rcases w_2 with ⟨rfl, ⟨i_1, rfl⟩ | ⟨i_1, rfl⟩⟩
  · skip
    refine z_if_neT CC 20 dX5_noPlace_13 (by decide) (a := (1 : Int)) (nI_toInt (by decide)) (by decide) ?_
    refine y_iconst CC (nI 0) dX5_noPlace_20 (by decide) ?_
    exact y_zret CC hQ dX5_noPlace_21 (by decide) (⟨rfl, Or.inr ⟨inB_t (by omega), rfl⟩⟩)
  · skip
    refine z_if_neF CC 20 dX5_noPlace_13 (by decide) (a := (0 : Int)) (nI_toInt (by decide)) (by decide) ?_
    refine y_iconst CC (nI 1) dX5_noPlace_16 (by decide) ?_
    refine y_goto CC 21 dX5_noPlace_17 (by decide) ?_
    exact y_zret CC hQ dX5_noPlace_21 (by decide) (⟨rfl, Or.inl ⟨inB_f (by omega), rfl⟩⟩)

set_option maxRecDepth 100000 in
set_option maxHeartbeats 4000000 in
theorem m_noSleeper (l : Launch) (D : va_G) (ad : Nat → Nat) (kI kS kL : ClassId) (μ : Mem) (τ : Tn) (hM : TM μ τ) (hB : tB τ) (x : Int32) : MI l D ad kI kS kL yX5_noSleeper cX5_noSleeper 2 (some .boolean) 1 25 [.ref (ad 30), .int x] μ (fun r μ2 => μ = μ2 ∧ bn r (inB x (tS τ))) := by
  refine met_I RX5 rfl (by decide) (lv := [(0, .ref (ad 30)), (1, .int x)]) rfl (Nat.le_of_ble_eq_true rfl) ?_
  intro pp ee ss mm aa bb me cd AA hA0 CC hnm QQ hQ
  have hP9 : tP τ ≤ 9 := hB.1
  have hS4 : tS τ ≤ 4 := hB.2.1
  refine y_iload_n CC 1 dX5_noSleeper_0 rfl rfl ?_
  refine y_i2l CC dX5_noSleeper_1 (v := (x).toInt64) rfl ?_
  refine y_lconst CC 0 dX5_noSleeper_2 rfl ?_
  refine y_aload_n CC 0 dX5_noSleeper_3 rfl rfl ?_
  refine y_geti CC gl_X5_78 (by omega) rfl (v := nI (tS τ)) hM.2.1 dX5_noSleeper_4 ?_
  refine y_i2l CC dX5_noSleeper_7 (v := (nI (tS τ)).toInt64) rfl ?_
  refine y_lconst CC 1 dX5_noSleeper_8 rfl ?_
  refine y_lsub CC dX5_noSleeper_9 (v := (((nI (tS τ)).toInt64) - 1)) rfl ?_
  refine y_callSI (st := []) CC cl_X5_74 (m_in l D ad kI kS kL μ ((x).toInt64) 0 (((nI (tS τ)).toInt64) - 1) ((x).toInt) ((0 : Int)) (((tS τ : Nat) : Int) - (1 : Int))  ((l_i _).trans rfl) (by decide) (l_sub ((l_i _).trans (nI_toInt (by omega))) (by decide) (by omega))) rfl rfl (Nat.le_of_ble_eq_true rfl) ⟨by decide, by decide⟩ ⟨Nat.zero_le _, Nat.zero_le _⟩ dX5_noSleeper_10 (fun r_ μ_ w_2 => ?_)
  rcases w_2 with ⟨rfl, ⟨i_1, rfl⟩ | ⟨i_1, rfl⟩⟩
  · skip
    refine z_if_neT CC 20 dX5_noSleeper_13 (by decide) (a := (1 : Int)) (nI_toInt (by decide)) (by decide) ?_
    refine y_iconst CC (nI 0) dX5_noSleeper_20 (by decide) ?_
    exact y_zret CC hQ dX5_noSleeper_21 (by decide) (⟨rfl, Or.inr ⟨inB_t (by omega), rfl⟩⟩)
  · skip
    refine z_if_neF CC 20 dX5_noSleeper_13 (by decide) (a := (0 : Int)) (nI_toInt (by decide)) (by decide) ?_
    refine y_iconst CC (nI 1) dX5_noSleeper_16 (by decide) ?_
    refine y_goto CC 21 dX5_noSleeper_17 (by decide) ?_
    exact y_zret CC hQ dX5_noSleeper_21 (by decide) (⟨rfl, Or.inl ⟨inB_f (by omega), rfl⟩⟩)

set_option maxRecDepth 100000 in
set_option maxHeartbeats 4000000 in
theorem m_noMinute (l : Launch) (D : va_G) (ad : Nat → Nat) (kI kS kL : ClassId) (μ : Mem) (x : Int32) : MI l D ad kI kS kL yX5_noMinute cX5_noMinute 1 (some .boolean) 1 25 [.int x] μ (fun r μ2 => μ = μ2 ∧ bn r (inB x 61)) := by
  refine met_I RX5 rfl (by decide) (lv := [(0, .int x)]) rfl (Nat.le_of_ble_eq_true rfl) ?_
  intro pp ee ss mm aa bb me cd AA hA0 CC hnm QQ hQ
  refine y_iload_n CC 0 dX5_noMinute_0 rfl rfl ?_
  refine y_i2l CC dX5_noMinute_1 (v := (x).toInt64) rfl ?_
  refine y_lconst CC 0 dX5_noMinute_2 rfl ?_
  refine y_ldc2 CC kl_X5_81 dX5_noMinute_3 ?_
  refine y_callSI (st := []) CC cl_X5_74 (m_in l D ad kI kS kL μ ((x).toInt64) 0 (60) ((x).toInt) ((0 : Int)) ((60 : Int))  ((l_i _).trans rfl) (by decide) (by decide)) rfl rfl (Nat.le_of_ble_eq_true rfl) ⟨by decide, by decide⟩ ⟨Nat.zero_le _, Nat.zero_le _⟩ dX5_noMinute_6 (fun r_ μ_ w_2 => ?_)
  rcases w_2 with ⟨rfl, ⟨i_1, rfl⟩ | ⟨i_1, rfl⟩⟩
  · skip
    refine z_if_neT CC 16 dX5_noMinute_9 (by decide) (a := (1 : Int)) (nI_toInt (by decide)) (by decide) ?_
    refine y_iconst CC (nI 0) dX5_noMinute_16 (by decide) ?_
    exact y_zret CC hQ dX5_noMinute_17 (by decide) (⟨rfl, Or.inr ⟨inB_t (by omega), rfl⟩⟩)
  · skip
    refine z_if_neF CC 16 dX5_noMinute_9 (by decide) (a := (0 : Int)) (nI_toInt (by decide)) (by decide) ?_
    refine y_iconst CC (nI 1) dX5_noMinute_12 (by decide) ?_
    refine y_goto CC 17 dX5_noMinute_13 (by decide) ?_
    exact y_zret CC hQ dX5_noMinute_17 (by decide) (⟨rfl, Or.inl ⟨inB_f (by omega), rfl⟩⟩)

set_option maxRecDepth 100000 in
set_option maxHeartbeats 4000000 in
theorem m_noSheet (l : Launch) (D : va_G) (ad : Nat → Nat) (kI kS kL : ClassId) (μ : Mem) (x : Int32) : MI l D ad kI kS kL yX5_noSheet cX5_noSheet 1 (some .boolean) 1 25 [.int x] μ (fun r μ2 => μ = μ2 ∧ bn r (inB x 4)) := by
  refine met_I RX5 rfl (by decide) (lv := [(0, .int x)]) rfl (Nat.le_of_ble_eq_true rfl) ?_
  intro pp ee ss mm aa bb me cd AA hA0 CC hnm QQ hQ
  refine y_iload_n CC 0 dX5_noSheet_0 rfl rfl ?_
  refine y_i2l CC dX5_noSheet_1 (v := (x).toInt64) rfl ?_
  refine y_lconst CC 0 dX5_noSheet_2 rfl ?_
  refine y_ldc2 CC kl_X5_139 dX5_noSheet_3 ?_
  refine y_callSI (st := []) CC cl_X5_74 (m_in l D ad kI kS kL μ ((x).toInt64) 0 (3) ((x).toInt) ((0 : Int)) ((3 : Int))  ((l_i _).trans rfl) (by decide) (by decide)) rfl rfl (Nat.le_of_ble_eq_true rfl) ⟨by decide, by decide⟩ ⟨Nat.zero_le _, Nat.zero_le _⟩ dX5_noSheet_6 (fun r_ μ_ w_2 => ?_)
  rcases w_2 with ⟨rfl, ⟨i_1, rfl⟩ | ⟨i_1, rfl⟩⟩
  · skip
    refine z_if_neT CC 16 dX5_noSheet_9 (by decide) (a := (1 : Int)) (nI_toInt (by decide)) (by decide) ?_
    refine y_iconst CC (nI 0) dX5_noSheet_16 (by decide) ?_
    exact y_zret CC hQ dX5_noSheet_17 (by decide) (⟨rfl, Or.inr ⟨inB_t (by omega), rfl⟩⟩)
  · skip
    refine z_if_neF CC 16 dX5_noSheet_9 (by decide) (a := (0 : Int)) (nI_toInt (by decide)) (by decide) ?_
    refine y_iconst CC (nI 1) dX5_noSheet_12 (by decide) ?_
    refine y_goto CC 17 dX5_noSheet_13 (by decide) ?_
    exact y_zret CC hQ dX5_noSheet_17 (by decide) (⟨rfl, Or.inl ⟨inB_f (by omega), rfl⟩⟩)

set_option maxRecDepth 100000 in
set_option maxHeartbeats 4000000 in
theorem m_whereAt (l : Launch) (D : va_G) (ad : Nat → Nat) (kI kS kL : ClassId) (μ : Mem) (τ : Tn) (hM : TM μ τ) (hB : tB τ) (hP : 0 < tP τ) (a m : Nat) (ha : a < tS τ) (hm : m ≤ 61) : MI l D ad kI kS kL yX5_whereAt cX5_whereAt 5 (some .int) 0 0 [.ref (ad 30), .int (nI a), .int (nI m)] μ (fun r μ2 => μ = μ2 ∧ r = nI (pl τ a m)) := by
  refine met_I RX5 rfl (by decide) (lv := [(0, .ref (ad 30)), (1, .int (nI a)), (2, .int (nI m))]) rfl (Nat.le_of_ble_eq_true rfl) ?_
  intro pp ee ss mm aa bb me cd AA hA0 CC hnm QQ hQ
  have hP9 : tP τ ≤ 9 := hB.1
  have hS4 : tS τ ≤ 4 := hB.2.1
  have hkb := hB.2.2.1 a (by omega)
  have hw_ := wh_eq (m := m) hkb.1
  have hg_ := gone_2 hkb.2.2 hm
  refine y_aload_n CC 0 dX5_whereAt_0 rfl rfl ?_
  refine y_getr CC gl_X5_19 (by omega) (d := 34) rfl dX5_whereAt_1 ?_
  refine y_iload_n CC 1 dX5_whereAt_4 rfl rfl ?_
  refine y_ialdN CC (n := 4) (by omega) (by decide) (by omega) (by omega) (v := nI (tD τ a)) (hM.2.2.1 a (by omega)).2.2 dX5_whereAt_5 ?_
  refine y_istore_n CC [(3, .int (nI (tD τ a))), (0, .ref (ad 30)), (1, .int (nI a)), (2, .int (nI m))] dX5_whereAt_6 rfl (by decide) rfl ?_
  refine y_iload_n CC 3 dX5_whereAt_7 rfl rfl ?_
  refine y_istore CC [(4, .int (nI m)), (3, .int (nI (tD τ a))), (0, .ref (ad 30)), (1, .int (nI a)), (2, .int (nI m))] dX5_whereAt_8 (by decide) rfl ?_
  refine y_aload_n CC 2 dX5_whereAt_10 rfl rfl ?_
  refine y_getr CC gl_X5_13 (by omega) (d := 32) rfl dX5_whereAt_11 ?_
  refine y_iload_n CC 3 dX5_whereAt_14 rfl rfl ?_
  refine y_ialdN CC (n := 4) (by omega) (by decide) (by omega) (by omega) (v := nI (tK τ a)) (hM.2.2.1 a (by omega)).1 dX5_whereAt_15 ?_
  refine y_iconst CC (nI 1) dX5_whereAt_16 (by decide) ?_
  refine z_icmp_ne CC 24 dX5_whereAt_17 (by decide) (a := ((tK τ a : Nat) : Int)) (b := (1 : Int)) (nI_toInt (by omega)) (nI_toInt (by decide)) (fun c_1 => ?_) (fun c_1 => ?_)
  · skip
    refine y_aload_n CC 2 dX5_whereAt_24 rfl rfl ?_
    refine y_getr CC gl_X5_13 (by omega) (d := 32) rfl dX5_whereAt_25 ?_
    refine y_iload_n CC 3 dX5_whereAt_28 rfl rfl ?_
    refine y_ialdN CC (n := 4) (by omega) (by decide) (by omega) (by omega) (v := nI (tK τ a)) (hM.2.2.1 a (by omega)).1 dX5_whereAt_29 ?_
    refine y_iconst CC (nI 2) dX5_whereAt_30 (by decide) ?_
    refine z_icmp_ne CC 47 dX5_whereAt_31 (by decide) (a := ((tK τ a : Nat) : Int)) (b := (2 : Int)) (nI_toInt (by omega)) (nI_toInt (by decide)) (fun c_2 => ?_) (fun c_2 => ?_)
    · skip
      refine y_aload_n CC 2 dX5_whereAt_47 rfl rfl ?_
      refine y_getr CC gl_X5_16 (by omega) (d := 33) rfl dX5_whereAt_48 ?_
      refine y_iload_n CC 3 dX5_whereAt_51 rfl rfl ?_
      refine y_ialdN CC (n := 4) (by omega) (by decide) (by omega) (by omega) (v := nI (tA τ a)) (hM.2.2.1 a (by omega)).2.1 dX5_whereAt_52 ?_
      refine y_iload_n CC 1 dX5_whereAt_53 rfl rfl ?_
      refine y_iload CC 0 dX5_whereAt_54 rfl ?_
      refine y_imul CC dX5_whereAt_56 (v := nI ((tD τ a) * m)) (pk_mul _ _) ?_
      refine y_iadd CC dX5_whereAt_57 (v := nI ((tA τ a) + ((tD τ a) * m))) (nI_add _ _) ?_
      refine y_aload_n CC 2 dX5_whereAt_58 rfl rfl ?_
      refine y_geti CC gl_X5_71 (by omega) rfl (v := nI (tP τ)) hM.1 dX5_whereAt_59 ?_
      refine y_irem CC dX5_whereAt_62 (nI_ne0 (by omega) (by omega)) (v := nI (((tA τ a) + ((tD τ a) * m)) % (tP τ))) (i_rem (by omega) (by omega) (by omega)) ?_
      exact y_iret CC hQ dX5_whereAt_63 (⟨rfl, congrArg nI (hw_.1 (by omega))⟩)
    · skip
      refine y_iconst CC (nI 2) dX5_whereAt_34 (by decide) ?_
      refine y_iload_n CC 1 dX5_whereAt_35 rfl rfl ?_
      refine y_iconst CC (nI 1) dX5_whereAt_36 (by decide) ?_
      refine y_iadd CC dX5_whereAt_37 (v := nI ((tD τ a) + 1)) (nI_add _ _) ?_
      refine y_imul CC dX5_whereAt_38 (v := nI (2 * ((tD τ a) + 1))) (pk_mul _ _) ?_
      refine y_istore_n CC [(3, .int (nI (2 * ((tD τ a) + 1)))), (4, .int (nI m)), (0, .ref (ad 30)), (1, .int (nI a)), (2, .int (nI m))] dX5_whereAt_39 rfl (by decide) rfl ?_
      refine y_iload_n CC 4 dX5_whereAt_40 rfl rfl ?_
      refine y_iconst CC (nI 1) dX5_whereAt_41 (by decide) ?_
      refine y_iadd CC dX5_whereAt_42 (v := nI (m + 1)) (nI_add _ _) ?_
      refine y_iconst CC (nI 2) dX5_whereAt_43 (by decide) ?_
      refine y_idiv CC dX5_whereAt_44 (by decide) (v := nI ((m + 1) / 2)) (i_div (by omega) (by omega) (by omega)) ?_
      refine y_istore CC [(4, .int (nI ((m + 1) / 2))), (3, .int (nI (2 * ((tD τ a) + 1)))), (0, .ref (ad 30)), (1, .int (nI a)), (2, .int (nI m))] dX5_whereAt_45 (by decide) rfl ?_
      refine y_aload_n CC 2 dX5_whereAt_47 rfl rfl ?_
      refine y_getr CC gl_X5_16 (by omega) (d := 33) rfl dX5_whereAt_48 ?_
      refine y_iload_n CC 3 dX5_whereAt_51 rfl rfl ?_
      refine y_ialdN CC (n := 4) (by omega) (by decide) (by omega) (by omega) (v := nI (tA τ a)) (hM.2.2.1 a (by omega)).2.1 dX5_whereAt_52 ?_
      refine y_iload_n CC 1 dX5_whereAt_53 rfl rfl ?_
      refine y_iload CC 0 dX5_whereAt_54 rfl ?_
      refine y_imul CC dX5_whereAt_56 (v := nI ((2 * ((tD τ a) + 1)) * ((m + 1) / 2))) (pk_mul _ _) ?_
      refine y_iadd CC dX5_whereAt_57 (v := nI ((tA τ a) + ((2 * ((tD τ a) + 1)) * ((m + 1) / 2)))) (nI_add _ _) ?_
      refine y_aload_n CC 2 dX5_whereAt_58 rfl rfl ?_
      refine y_geti CC gl_X5_71 (by omega) rfl (v := nI (tP τ)) hM.1 dX5_whereAt_59 ?_
      refine y_irem CC dX5_whereAt_62 (nI_ne0 (by omega) (by omega)) (v := nI (((tA τ a) + ((2 * ((tD τ a) + 1)) * ((m + 1) / 2))) % (tP τ))) (i_rem (by omega) (by omega) (by omega)) ?_
      exact y_iret CC hQ dX5_whereAt_63 (⟨rfl, congrArg nI (hw_.2.2 (by omega))⟩)
  · skip
    refine y_iload_n CC 1 dX5_whereAt_20 rfl rfl ?_
    refine y_iconst CC (nI 1) dX5_whereAt_21 (by decide) ?_
    refine y_iadd CC dX5_whereAt_22 (v := nI ((tD τ a) + 1)) (nI_add _ _) ?_
    refine y_istore_n CC [(3, .int (nI ((tD τ a) + 1))), (4, .int (nI m)), (0, .ref (ad 30)), (1, .int (nI a)), (2, .int (nI m))] dX5_whereAt_23 rfl (by decide) rfl ?_
    refine y_aload_n CC 2 dX5_whereAt_24 rfl rfl ?_
    refine y_getr CC gl_X5_13 (by omega) (d := 32) rfl dX5_whereAt_25 ?_
    refine y_iload_n CC 3 dX5_whereAt_28 rfl rfl ?_
    refine y_ialdN CC (n := 4) (by omega) (by decide) (by omega) (by omega) (v := nI (tK τ a)) (hM.2.2.1 a (by omega)).1 dX5_whereAt_29 ?_
    refine y_iconst CC (nI 2) dX5_whereAt_30 (by decide) ?_
    refine z_icmp_neT CC 47 dX5_whereAt_31 (by decide) (a := ((tK τ a : Nat) : Int)) (b := (2 : Int)) (nI_toInt (by omega)) (nI_toInt (by decide)) (by omega) ?_
    refine y_aload_n CC 2 dX5_whereAt_47 rfl rfl ?_
    refine y_getr CC gl_X5_16 (by omega) (d := 33) rfl dX5_whereAt_48 ?_
    refine y_iload_n CC 3 dX5_whereAt_51 rfl rfl ?_
    refine y_ialdN CC (n := 4) (by omega) (by decide) (by omega) (by omega) (v := nI (tA τ a)) (hM.2.2.1 a (by omega)).2.1 dX5_whereAt_52 ?_
    refine y_iload_n CC 0 dX5_whereAt_53 rfl rfl ?_
    refine y_iload CC 1 dX5_whereAt_54 rfl ?_
    refine y_imul CC dX5_whereAt_56 (v := nI (((tD τ a) + 1) * m)) (pk_mul _ _) ?_
    refine y_iadd CC dX5_whereAt_57 (v := nI ((tA τ a) + (((tD τ a) + 1) * m))) (nI_add _ _) ?_
    refine y_aload_n CC 2 dX5_whereAt_58 rfl rfl ?_
    refine y_geti CC gl_X5_71 (by omega) rfl (v := nI (tP τ)) hM.1 dX5_whereAt_59 ?_
    refine y_irem CC dX5_whereAt_62 (nI_ne0 (by omega) (by omega)) (v := nI (((tA τ a) + (((tD τ a) + 1) * m)) % (tP τ))) (i_rem (by omega) (by omega) (by omega)) ?_
    exact y_iret CC hQ dX5_whereAt_63 (⟨rfl, congrArg nI (hw_.2.1 (by omega))⟩)

set_option maxRecDepth 100000 in
set_option maxHeartbeats 4000000 in
theorem m_behind (l : Launch) (D : va_G) (ad : Nat → Nat) (kI kS kL : ClassId) (μ : Mem) (τ : Tn) (hM : TM μ τ) (hB : tB τ) (p act : Nat) (hp : p < tP τ) (hact : act ≤ 2) : MI l D ad kI kS kL yX5_behind cX5_behind 3 (some .int) 0 0 [.ref (ad 30), .int (nI p), .int (nI act)] μ (fun r μ2 => μ = μ2 ∧ r = nI (after (tP τ) p act)) := by
  refine met_I RX5 rfl (by decide) (lv := [(0, .ref (ad 30)), (1, .int (nI p)), (2, .int (nI act))]) rfl (Nat.le_of_ble_eq_true rfl) ?_
  intro pp ee ss mm aa bb me cd AA hA0 CC hnm QQ hQ
  have hP9 : tP τ ≤ 9 := hB.1
  have hS4 : tS τ ≤ 4 := hB.2.1
  refine y_iload_n CC 2 dX5_behind_0 rfl rfl ?_
  refine z_if_ne CC 8 dX5_behind_1 (by decide) (a := ((act : Nat) : Int)) (nI_toInt (by omega)) (fun c_1 => ?_) (fun c_1 => ?_)
  · skip
    refine y_iload_n CC 2 dX5_behind_8 rfl rfl ?_
    refine y_iconst CC (nI 1) dX5_behind_9 (by decide) ?_
    refine z_icmp_ne CC 24 dX5_behind_10 (by decide) (a := ((act : Nat) : Int)) (b := (1 : Int)) (nI_toInt (by omega)) (nI_toInt (by decide)) (fun c_2 => ?_) (fun c_2 => ?_)
    · skip
      refine y_iload_n CC 1 dX5_behind_24 rfl rfl ?_
      refine y_aload_n CC 0 dX5_behind_25 rfl rfl ?_
      refine y_geti CC gl_X5_71 (by omega) rfl (v := nI (tP τ)) hM.1 dX5_behind_26 ?_
      refine y_iadd CC dX5_behind_29 (v := nI (p + (tP τ))) (nI_add _ _) ?_
      refine y_iconst CC (nI 1) dX5_behind_30 (by decide) ?_
      refine y_isub CC dX5_behind_31 (v := nI ((p + (tP τ)) - 1)) (pk_sub (by omega)) ?_
      refine y_aload_n CC 0 dX5_behind_32 rfl rfl ?_
      refine y_geti CC gl_X5_71 (by omega) rfl (v := nI (tP τ)) hM.1 dX5_behind_33 ?_
      refine y_irem CC dX5_behind_36 (nI_ne0 (by omega) (by omega)) (v := nI (((p + (tP τ)) - 1) % (tP τ))) (i_rem (by omega) (by omega) (by omega)) ?_
      exact y_iret CC hQ dX5_behind_37 (⟨rfl, congrArg nI (by unfold after; first | rw [if_pos (by omega)] | rw [if_neg (by omega), if_pos (by omega)] | rw [if_neg (by omega), if_neg (by omega)])⟩)
    · skip
      refine y_iload_n CC 1 dX5_behind_13 rfl rfl ?_
      refine y_iconst CC (nI 1) dX5_behind_14 (by decide) ?_
      refine y_iadd CC dX5_behind_15 (v := nI (p + 1)) (nI_add _ _) ?_
      refine y_aload_n CC 0 dX5_behind_16 rfl rfl ?_
      refine y_geti CC gl_X5_71 (by omega) rfl (v := nI (tP τ)) hM.1 dX5_behind_17 ?_
      refine y_irem CC dX5_behind_20 (nI_ne0 (by omega) (by omega)) (v := nI ((p + 1) % (tP τ))) (i_rem (by omega) (by omega) (by omega)) ?_
      refine y_goto CC 37 dX5_behind_21 (by decide) ?_
      exact y_iret CC hQ dX5_behind_37 (⟨rfl, congrArg nI (by unfold after; first | rw [if_pos (by omega)] | rw [if_neg (by omega), if_pos (by omega)] | rw [if_neg (by omega), if_neg (by omega)])⟩)
  · skip
    refine y_iload_n CC 1 dX5_behind_4 rfl rfl ?_
    refine y_goto CC 37 dX5_behind_5 (by decide) ?_
    exact y_iret CC hQ dX5_behind_37 (⟨rfl, congrArg nI (by unfold after; first | rw [if_pos (by omega)] | rw [if_neg (by omega), if_pos (by omega)] | rw [if_neg (by omega), if_neg (by omega)])⟩)

set_option maxRecDepth 100000 in
set_option maxHeartbeats 4000000 in
theorem m_goodsNow (l : Launch) (D : va_G) (ad : Nat → Nat) (kI kS kL : ClassId) (μ : Mem) (τ : Tn) (hM : TM μ τ) (hB : tB τ)  : MI l D ad kI kS kL yX5_goodsNow cX5_goodsNow 3 (some .int) 0 0 [.ref (ad 30)] μ (fun r μ2 => μ = μ2 ∧ r = nI (gsm τ (tP τ))) := by
  refine met_I RX5 rfl (by decide) (lv := [(0, .ref (ad 30))]) rfl (Nat.le_of_ble_eq_true rfl) ?_
  intro pp ee ss mm aa bb me cd AA hA0 CC hnm QQ hQ
  have hP9 : tP τ ≤ 9 := hB.1
  have hS4 : tS τ ≤ 4 := hB.2.1
  refine y_iconst CC (nI 0) dX5_goodsNow_0 (by decide) ?_
  refine y_istore_n CC [(1, .int (nI 0)), (0, .ref (ad 30))] dX5_goodsNow_1 rfl (by decide) rfl ?_
  refine y_iconst CC (nI 0) dX5_goodsNow_2 (by decide) ?_
  refine y_istore_n CC [(2, .int (nI 0)), (1, .int (nI 0)), (0, .ref (ad 30))] dX5_goodsNow_3 rfl (by decide) rfl ?_
  have L4 : ∀ (n4 : Nat) (i : Nat), tP τ - i < n4 → (i ≤ tP τ) → Y pp l ee (rmY 0 0) ss mm aa bb me cd D ad kI kS kL AA 3 0 0 QQ 4 [(2, .int (nI i)), (1, .int (nI (gsm τ i))), (0, .ref (ad 30))] [] μ := by
    intro n4
    induction n4 with
    | zero => intro i hm4; exact absurd hm4 (Nat.not_lt_zero _)
    | succ n4 ih4 =>
      intro i hm4 hi
      refine y_iload_n CC 0 dX5_goodsNow_4 rfl rfl ?_
      refine y_aload_n CC 2 dX5_goodsNow_5 rfl rfl ?_
      refine y_geti CC gl_X5_71 (by omega) rfl (v := nI (tP τ)) hM.1 dX5_goodsNow_6 ?_
      refine z_icmp_ge CC 27 dX5_goodsNow_9 (by decide) (a := ((i : Nat) : Int)) (b := ((tP τ : Nat) : Int)) (nI_toInt (by omega)) (nI_toInt (by omega)) (fun c_2 => ?_) (fun c_2 => ?_)
      · skip
        refine y_iload_n CC 1 dX5_goodsNow_27 rfl rfl ?_
        exact y_iret CC hQ dX5_goodsNow_28 (⟨rfl, by rw [show i = tP τ by omega]⟩)
      · skip
        refine y_iload_n CC 1 dX5_goodsNow_12 rfl rfl ?_
        refine y_aload_n CC 2 dX5_goodsNow_13 rfl rfl ?_
        refine y_getr CC gl_X5_7 (by omega) (d := 31) rfl dX5_goodsNow_14 ?_
        refine y_iload_n CC 0 dX5_goodsNow_17 rfl rfl ?_
        refine y_ialdN CC (n := 9) (by omega) (by decide) (by omega) (by omega) (v := nI (tG τ i)) (hM.2.2.2 i (by omega)) dX5_goodsNow_18 ?_
        refine y_iadd CC dX5_goodsNow_19 (v := nI ((gsm τ i) + (tG τ i))) (nI_add _ _) ?_
        refine y_istore_n CC [(1, .int (nI ((gsm τ i) + (tG τ i)))), (2, .int (nI i)), (0, .ref (ad 30))] dX5_goodsNow_20 rfl (by decide) rfl ?_
        refine y_iinc CC 1 (nI (i + 1)) [(2, .int (nI (i + 1))), (1, .int (nI ((gsm τ i) + (tG τ i)))), (0, .ref (ad 30))] dX5_goodsNow_21 rfl (i_inc _) (by decide) rfl ?_
        refine y_goto CC 4 dX5_goodsNow_24 (by decide) ?_
        exact ih4 (i + 1) (by omega) (by omega)
  exact L4 _ 0 (Nat.lt_succ_self _) (Nat.zero_le _)

set_option maxRecDepth 100000 in
set_option maxHeartbeats 4000000 in
theorem m_isBeyond (l : Launch) (D : va_G) (ad : Nat → Nat) (kI kS kL : ClassId) (μ : Mem) (i : Int32) (n : Int64) (b : Int) (hn : n.toInt = b) (hb : -2147483648 ≤ b ∧ b < 2147483648) (len : Nat) (hlen : len ≤ 60) : MI l D ad kI kS kL yX5_isBeyond cX5_isBeyond 4 (some .boolean) 0 0 [.int i, .long n, .int (nI len)] μ (fun r μ2 => μ = μ2 ∧ (((i.toInt < 0 ∨ b < 0 ∨ (len : Int) < i.toInt + b) ∧ r = nI 1) ∨ ((0 ≤ i.toInt ∧ 0 ≤ b ∧ i.toInt + b ≤ (len : Int)) ∧ r = nI 0))) := by
  refine met_I RX5 rfl (by decide) (lv := [(0, .int i), (1, .long n), (3, .int (nI len))]) rfl (Nat.le_of_ble_eq_true rfl) ?_
  intro pp ee ss mm aa bb me cd AA hA0 CC hnm QQ hQ
  have hib := i.toInt_lt
  have hib2 := i.le_toInt
  refine y_iload_n CC 0 dX5_isBeyond_0 rfl rfl ?_
  refine z_if_lt CC 20 dX5_isBeyond_1 (by decide) (a := (i).toInt) rfl (fun c_1 => ?_) (fun c_1 => ?_)
  · skip
    refine y_iconst CC (nI 1) dX5_isBeyond_20 (by decide) ?_
    refine y_goto CC 25 dX5_isBeyond_21 (by decide) ?_
    exact y_zret CC hQ dX5_isBeyond_25 (by decide) (⟨rfl, Or.inl ⟨by omega, rfl⟩⟩)
  · skip
    refine y_lload_n CC 1 dX5_isBeyond_4 rfl rfl ?_
    refine y_lconst CC 0 dX5_isBeyond_5 rfl ?_
    refine y_lcmp CC dX5_isBeyond_6 (v := lg_cmp n 0) rfl ?_
    refine z_if_lt CC 20 dX5_isBeyond_7 (by decide) (a := (lg_cmp n 0).toInt) rfl (fun c_2 => ?_) (fun c_2 => ?_)
    · skip
      rw [lc_lt (a := b) (b := (0 : Int)) hn (by decide)] at c_2
      refine y_iconst CC (nI 1) dX5_isBeyond_20 (by decide) ?_
      refine y_goto CC 25 dX5_isBeyond_21 (by decide) ?_
      exact y_zret CC hQ dX5_isBeyond_25 (by decide) (⟨rfl, Or.inl ⟨by omega, rfl⟩⟩)
    · skip
      rw [lc_ge (a := b) (b := (0 : Int)) hn (by decide)] at c_2
      refine y_iload_n CC 0 dX5_isBeyond_10 rfl rfl ?_
      refine y_i2l CC dX5_isBeyond_11 (v := (i).toInt64) rfl ?_
      refine y_lload_n CC 1 dX5_isBeyond_12 rfl rfl ?_
      refine y_ladd CC dX5_isBeyond_13 (v := (((i).toInt64) + n)) rfl ?_
      refine y_iload_n CC 2 dX5_isBeyond_14 rfl rfl ?_
      refine y_i2l CC dX5_isBeyond_15 (v := (nI len).toInt64) rfl ?_
      refine y_lcmp CC dX5_isBeyond_16 (v := lg_cmp (((i).toInt64) + n) ((nI len).toInt64)) rfl ?_
      refine z_if_le CC 24 dX5_isBeyond_17 (by decide) (a := (lg_cmp (((i).toInt64) + n) ((nI len).toInt64)).toInt) rfl (fun c_3 => ?_) (fun c_3 => ?_)
      · skip
        rw [lc_le (a := ((i).toInt) + b) (b := ((len : Nat) : Int)) (l_add ((l_i _).trans rfl) hn (by omega)) ((l_i _).trans (nI_toInt (by omega)))] at c_3
        refine y_iconst CC (nI 0) dX5_isBeyond_24 (by decide) ?_
        exact y_zret CC hQ dX5_isBeyond_25 (by decide) (⟨rfl, Or.inr ⟨by omega, rfl⟩⟩)
      · skip
        rw [lc_gt (a := ((i).toInt) + b) (b := ((len : Nat) : Int)) (l_add ((l_i _).trans rfl) hn (by omega)) ((l_i _).trans (nI_toInt (by omega)))] at c_3
        refine y_iconst CC (nI 1) dX5_isBeyond_20 (by decide) ?_
        refine y_goto CC 25 dX5_isBeyond_21 (by decide) ?_
        exact y_zret CC hQ dX5_isBeyond_25 (by decide) (⟨rfl, Or.inl ⟨by omega, rfl⟩⟩)

set_option maxRecDepth 100000 in
set_option maxHeartbeats 4000000 in
theorem m_traced (l : Launch) (D : va_G) (ad : Nat → Nat) (kI kS kL : ClassId) (μ : Mem) (b : Int32) : MV l D ad kI kS kL yX5_traced cX5_traced 2 none 0 0 [.ref (ad 30), .int b] μ (fun μ2 => μ2 = mu μ 30 29 (lv31 (μ 30 29) b)) := by
  refine met_V RX5 rfl (by decide) (lv := [(0, .ref (ad 30)), (1, .int b)]) rfl (Nat.le_of_ble_eq_true rfl) ?_
  intro pp ee ss mm aa bb me cd AA hA0 CC hnm QQ hQ
  refine y_aload_n CC 0 dX5_traced_0 rfl rfl ?_
  refine y_bipush CC (nI 31) dX5_traced_1 (by decide) ?_
  refine y_aload_n CC 0 dX5_traced_3 rfl rfl ?_
  refine y_geti CC gl_X5_210 (by omega) rfl (v := μ 30 29) rfl dX5_traced_4 ?_
  refine y_imul CC dX5_traced_7 (v := (nI 31) * (μ 30 29)) rfl ?_
  refine y_iload_n CC 1 dX5_traced_8 rfl rfl ?_
  refine y_iadd CC dX5_traced_9 (v := ((nI 31) * (μ 30 29)) + b) rfl ?_
  refine y_puti CC pl_X5_210 (by omega) rfl (Nat.le_of_ble_eq_true rfl) dX5_traced_10 ?_
  exact y_vret CC hQ dX5_traced_13 rfl

set_option maxRecDepth 100000 in
set_option maxHeartbeats 4000000 in
theorem m_trace (l : Launch) (D : va_G) (ad : Nat → Nat) (kI kS kL : ClassId) (μ : Mem)  : MI l D ad kI kS kL yX5_trace cX5_trace 1 (some .int) 0 0 [.ref (ad 30)] μ (fun r μ2 => μ = μ2 ∧ r = μ 30 29) := by
  refine met_I RX5 rfl (by decide) (lv := [(0, .ref (ad 30))]) rfl (Nat.le_of_ble_eq_true rfl) ?_
  intro pp ee ss mm aa bb me cd AA hA0 CC hnm QQ hQ
  refine y_aload_n CC 0 dX5_trace_0 rfl rfl ?_
  refine y_geti CC gl_X5_210 (by omega) rfl (v := μ 30 29) rfl dX5_trace_1 ?_
  exact y_iret CC hQ dX5_trace_4 (⟨rfl, rfl⟩)

set_option maxRecDepth 100000 in
set_option maxHeartbeats 4000000 in
theorem m_fault (l : Launch) (D : va_G) (ad : Nat → Nat) (kI kS kL : ClassId) (μ : Mem)  : MI l D ad kI kS kL yX5_fault cX5_fault 1 (some .int) 0 0 [.ref (ad 30)] μ (fun r μ2 => μ = μ2 ∧ r = μ 30 0) := by
  refine met_I RX5 rfl (by decide) (lv := [(0, .ref (ad 30))]) rfl (Nat.le_of_ble_eq_true rfl) ?_
  intro pp ee ss mm aa bb me cd AA hA0 CC hnm QQ hQ
  refine y_aload_n CC 0 dX5_fault_0 rfl rfl ?_
  refine y_geti CC gl_X5_63 (by omega) rfl (v := μ 30 0) rfl dX5_fault_1 ?_
  exact y_iret CC hQ dX5_fault_4 (⟨rfl, rfl⟩)
