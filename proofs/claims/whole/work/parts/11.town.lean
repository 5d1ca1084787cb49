def gsm (τ : Tn) : Nat → Nat
  | 0 => 0
  | k + 1 => gsm τ k + tG τ k

set_option maxRecDepth 100000 in
set_option maxHeartbeats 4000000 in
theorem k_hasPlace (l : Launch) (D : va_G) (ad : Nat → Nat) (kI kS kL : ClassId) (μ : Mem) (c : Nat) (hc : isO 3 c) (τ : Tn) (hT : TX μ c τ) (hB : tB τ) (x : Int32) : MI l D ad kI kS kL yX3_hasPlace cX3_hasPlace 2 (some .boolean) 0 0 [.ref (ad c), .int x] μ (fun r μ2 => μ = μ2 ∧ bo r (inB x (tP τ))) := by
  refine met_I RX3 rfl (by decide) (lv := [(0, .ref (ad c)), (1, .int x)]) rfl (Nat.le_of_ble_eq_true rfl) ?_
  intro pp ee ss mm aa bb me cd AA hA0 CC hnm QQ hQ
  have hP9 : tP τ ≤ 9 := hB.1
  have hS4 : tS τ ≤ 4 := hB.2.1
  have hc2 : 1 ≤ c ∧ c ≤ 2 := by omega
  refine y_iload_n CC 1 dX3_hasPlace_0 rfl rfl ?_
  refine z_if_lt CC 25 dX3_hasPlace_1 (by decide) (a := (x).toInt) rfl (fun c_1 => ?_) (fun c_1 => ?_)
  · skip
    refine y_iconst CC (nI 0) dX3_hasPlace_25 (by decide) ?_
    exact y_zret CC hQ dX3_hasPlace_26 (by decide) (⟨rfl, Or.inr ⟨inB_f (by omega), rfl⟩⟩)
  · skip
    refine y_iload_n CC 1 dX3_hasPlace_4 rfl rfl ?_
    refine y_aload_n CC 0 dX3_hasPlace_5 rfl rfl ?_
    refine y_geti CC gl_X3_28 hc rfl (v := nI (tP τ)) hT.1 dX3_hasPlace_6 ?_
    refine z_icmp_ge CC 25 dX3_hasPlace_9 (by decide) (a := (x).toInt) (b := ((tP τ : Nat) : Int)) rfl (nI_toInt (by omega)) (fun c_2 => ?_) (fun c_2 => ?_)
    · skip
      refine y_iconst CC (nI 0) dX3_hasPlace_25 (by decide) ?_
      exact y_zret CC hQ dX3_hasPlace_26 (by decide) (⟨rfl, Or.inr ⟨inB_f (by omega), rfl⟩⟩)
    · skip
      refine y_iload_n CC 1 dX3_hasPlace_12 rfl rfl ?_
      refine y_aload_n CC 0 dX3_hasPlace_13 rfl rfl ?_
      refine y_getr CC gl_X3_17 hc (d := (c + 6)) rfl dX3_hasPlace_14 ?_
      refine y_alen CC (n := 9) (by omega) (by unfold alen; rw [if_pos (by omega)]) dX3_hasPlace_17 ?_
      refine z_icmp_ge CC 25 dX3_hasPlace_18 (by decide) (a := (x).toInt) (b := (9 : Int)) rfl (nI_toInt (by decide)) (fun c_3 => ?_) (fun c_3 => ?_)
      · skip
        refine y_iconst CC (nI 0) dX3_hasPlace_25 (by decide) ?_
        exact y_zret CC hQ dX3_hasPlace_26 (by decide) (⟨rfl, Or.inr ⟨inB_f (by omega), rfl⟩⟩)
      · skip
        refine y_iconst CC (nI 1) dX3_hasPlace_21 (by decide) ?_
        refine y_goto CC 26 dX3_hasPlace_22 (by decide) ?_
        exact y_zret CC hQ dX3_hasPlace_26 (by decide) (⟨rfl, Or.inl ⟨inB_t (by omega), rfl⟩⟩)

set_option maxRecDepth 100000 in
set_option maxHeartbeats 4000000 in
theorem k_hasSleeper (l : Launch) (D : va_G) (ad : Nat → Nat) (kI kS kL : ClassId) (μ : Mem) (c : Nat) (hc : isO 3 c) (τ : Tn) (hT : TX μ c τ) (hB : tB τ) (x : Int32) : MI l D ad kI kS kL yX3_hasSleeper cX3_hasSleeper 2 (some .boolean) 0 0 [.ref (ad c), .int x] μ (fun r μ2 => μ = μ2 ∧ bo r (inB x (tS τ))) := by
  refine met_I RX3 rfl (by decide) (lv := [(0, .ref (ad c)), (1, .int x)]) rfl (Nat.le_of_ble_eq_true rfl) ?_
  intro pp ee ss mm aa bb me cd AA hA0 CC hnm QQ hQ
  have hP9 : tP τ ≤ 9 := hB.1
  have hS4 : tS τ ≤ 4 := hB.2.1
  have hc2 : 1 ≤ c ∧ c ≤ 2 := by omega
  refine y_iload_n CC 1 dX3_hasSleeper_0 rfl rfl ?_
  refine z_if_lt CC 25 dX3_hasSleeper_1 (by decide) (a := (x).toInt) rfl (fun c_1 => ?_) (fun c_1 => ?_)
  · skip
    refine y_iconst CC (nI 0) dX3_hasSleeper_25 (by decide) ?_
    exact y_zret CC hQ dX3_hasSleeper_26 (by decide) (⟨rfl, Or.inr ⟨inB_f (by omega), rfl⟩⟩)
  · skip
    refine y_iload_n CC 1 dX3_hasSleeper_4 rfl rfl ?_
    refine y_aload_n CC 0 dX3_hasSleeper_5 rfl rfl ?_
    refine y_geti CC gl_X3_24 hc rfl (v := nI (tS τ)) hT.2.1 dX3_hasSleeper_6 ?_
    refine z_icmp_ge CC 25 dX3_hasSleeper_9 (by decide) (a := (x).toInt) (b := ((tS τ : Nat) : Int)) rfl (nI_toInt (by omega)) (fun c_2 => ?_) (fun c_2 => ?_)
    · skip
      refine y_iconst CC (nI 0) dX3_hasSleeper_25 (by decide) ?_
      exact y_zret CC hQ dX3_hasSleeper_26 (by decide) (⟨rfl, Or.inr ⟨inB_f (by omega), rfl⟩⟩)
    · skip
      refine y_iload_n CC 1 dX3_hasSleeper_12 rfl rfl ?_
      refine y_aload_n CC 0 dX3_hasSleeper_13 rfl rfl ?_
      refine y_getr CC gl_X3_11 hc (d := (c + 4)) rfl dX3_hasSleeper_14 ?_
      refine y_alenL CC (by omega) dX3_hasSleeper_17 ?_
      refine z_icmp_ge CC 25 dX3_hasSleeper_18 (by decide) (a := (x).toInt) (b := (4 : Int)) rfl (nI_toInt (by decide)) (fun c_3 => ?_) (fun c_3 => ?_)
      · skip
        refine y_iconst CC (nI 0) dX3_hasSleeper_25 (by decide) ?_
        exact y_zret CC hQ dX3_hasSleeper_26 (by decide) (⟨rfl, Or.inr ⟨inB_f (by omega), rfl⟩⟩)
      · skip
        refine y_iconst CC (nI 1) dX3_hasSleeper_21 (by decide) ?_
        refine y_goto CC 26 dX3_hasSleeper_22 (by decide) ?_
        exact y_zret CC hQ dX3_hasSleeper_26 (by decide) (⟨rfl, Or.inl ⟨inB_t (by omega), rfl⟩⟩)

set_option maxRecDepth 100000 in
set_option maxHeartbeats 4000000 in
theorem k_sleeperOrNull (l : Launch) (D : va_G) (ad : Nat → Nat) (kI kS kL : ClassId) (μ : Mem) (c : Nat) (hc : isO 3 c) (τ : Tn) (hT : TX μ c τ) (hB : tB τ) (x : Int32) : MN l D ad kI kS kL yX3_sleeperOrNull cX3_sleeperOrNull 2 (some (.object "SleepRoads$Sleeper")) 1 21 [.ref (ad c), .int x] μ (fun r μ2 => μ = μ2 ∧ ((inB x (tS τ) = true ∧ r = some (ad (4 * c + 18 + ix x))) ∨ (inB x (tS τ) = false ∧ r = none))) := by
  refine met_N RX3 rfl (by decide) (lv := [(0, .ref (ad c)), (1, .int x)]) rfl (Nat.le_of_ble_eq_true rfl) ?_
  intro pp ee ss mm aa bb me cd AA hA0 CC hnm QQ hQ
  have hP9 : tP τ ≤ 9 := hB.1
  have hS4 : tS τ ≤ 4 := hB.2.1
  have hc2 : 1 ≤ c ∧ c ≤ 2 := by omega
  refine y_aload_n CC 0 dX3_sleeperOrNull_0 rfl rfl ?_
  refine y_iload_n CC 1 dX3_sleeperOrNull_1 rfl rfl ?_
  refine y_callVI (st := []) CC cl_X3_92 (k_hasSleeper l D ad kI kS kL μ c hc τ hT hB x) hc rfl rfl rfl (Nat.le_of_ble_eq_true rfl) ⟨by decide, by decide⟩ ⟨Nat.zero_le _, Nat.zero_le _⟩ dX3_sleeperOrNull_2 (fun r_ μ_ w_2 => ?_)
  rcases w_2 with ⟨rfl, ⟨b_1, rfl⟩ | ⟨b_1, rfl⟩⟩
  · skip
    obtain ⟨j, hj, rfl⟩ := inB_of b_1 (by omega)
    refine z_if_eqF CC 17 dX3_sleeperOrNull_5 (by decide) (a := (1 : Int)) (nI_toInt (by decide)) (by decide) ?_
    refine y_aload_n CC 0 dX3_sleeperOrNull_8 rfl rfl ?_
    refine y_getr CC gl_X3_11 hc (d := (c + 4)) rfl dX3_sleeperOrNull_9 ?_
    refine y_iload_n CC 1 dX3_sleeperOrNull_12 rfl rfl ?_
    refine y_aaldL CC (c := (c + 4)) (j := j) (by omega) (by omega) dX3_sleeperOrNull_13 ?_
    refine y_eq (st2 := [.ref (ad (4 * c + 18 + j))]) (by rw [show 4 * ((c + 4) - 4) + 18 + j = (4 * c + 18 + j) by omega]) ?_
    refine y_goto CC 18 dX3_sleeperOrNull_14 (by decide) ?_
    exact y_aret CC hQ dX3_sleeperOrNull_18 (⟨rfl, Or.inl ⟨b_1, by rw [ix_nI (by omega)]⟩⟩)
  · skip
    refine z_if_eqT CC 17 dX3_sleeperOrNull_5 (by decide) (a := (0 : Int)) (nI_toInt (by decide)) (by decide) ?_
    refine y_null CC dX3_sleeperOrNull_17 ?_
    exact y_aretN CC hQ dX3_sleeperOrNull_18 (⟨rfl, Or.inr ⟨b_1, rfl⟩⟩)

set_option maxRecDepth 100000 in
set_option maxHeartbeats 4000000 in
theorem k_goodsAt (l : Launch) (D : va_G) (ad : Nat → Nat) (kI kS kL : ClassId) (μ : Mem) (c : Nat) (hc : isO 3 c) (τ : Tn) (hT : TX μ c τ) (hB : tB τ) (x : Int32) : MI l D ad kI kS kL yX3_goodsAt cX3_goodsAt 2 (some .int) 1 21 [.ref (ad c), .int x] μ (fun r μ2 => μ = μ2 ∧ r = if inB x (tP τ) = true then nI (tG τ (ix x)) else nI 0) := by
  refine met_I RX3 rfl (by decide) (lv := [(0, .ref (ad c)), (1, .int x)]) rfl (Nat.le_of_ble_eq_true rfl) ?_
  intro pp ee ss mm aa bb me cd AA hA0 CC hnm QQ hQ
  have hP9 : tP τ ≤ 9 := hB.1
  have hS4 : tS τ ≤ 4 := hB.2.1
  have hc2 : 1 ≤ c ∧ c ≤ 2 := by omega
  refine y_aload_n CC 0 dX3_goodsAt_0 rfl rfl ?_
  refine y_iload_n CC 1 dX3_goodsAt_1 rfl rfl ?_
  refine y_callVI (st := []) CC cl_X3_79 (k_hasPlace l D ad kI kS kL μ c hc τ hT hB x) hc rfl rfl rfl (Nat.le_of_ble_eq_true rfl) ⟨by decide, by decide⟩ ⟨Nat.zero_le _, Nat.zero_le _⟩ dX3_goodsAt_2 (fun r_ μ_ w_2 => ?_)
  rcases w_2 with ⟨rfl, ⟨b_1, rfl⟩ | ⟨b_1, rfl⟩⟩
  · skip
    obtain ⟨j, hj, rfl⟩ := inB_of b_1 (by omega)
    refine z_if_eqF CC 17 dX3_goodsAt_5 (by decide) (a := (1 : Int)) (nI_toInt (by decide)) (by decide) ?_
    refine y_aload_n CC 0 dX3_goodsAt_8 rfl rfl ?_
    refine y_getr CC gl_X3_17 hc (d := (c + 6)) rfl dX3_goodsAt_9 ?_
    refine y_iload_n CC 1 dX3_goodsAt_12 rfl rfl ?_
    refine y_ialdN CC (n := 9) (by omega) (by unfold alen; rw [if_pos (by omega)]) (by omega) (by omega) (v := nI (tG τ j)) (hT.2.2.2 j (by omega)) dX3_goodsAt_13 ?_
    refine y_goto CC 18 dX3_goodsAt_14 (by decide) ?_
    exact y_iret CC hQ dX3_goodsAt_18 (⟨rfl, by rw [if_pos b_1, ix_nI (by omega)]⟩)
  · skip
    refine z_if_eqT CC 17 dX3_goodsAt_5 (by decide) (a := (0 : Int)) (nI_toInt (by decide)) (by decide) ?_
    refine y_iconst CC (nI 0) dX3_goodsAt_17 (by decide) ?_
    exact y_iret CC hQ dX3_goodsAt_18 (⟨rfl, by rw [b_1]; rfl⟩)

set_option maxRecDepth 100000 in
set_option maxHeartbeats 4000000 in
theorem k_setGoods (l : Launch) (D : va_G) (ad : Nat → Nat) (kI kS kL : ClassId) (μ : Mem) (c : Nat) (hc : isO 3 c) (τ : Tn) (hT : TX μ c τ) (hB : tB τ) (x v : Int32) : MV l D ad kI kS kL yX3_setGoods cX3_setGoods 3 none 1 21 [.ref (ad c), .int x, .int v] μ (fun μ2 => μ2 = if inB x (tP τ) = true then mu μ (c + 6) (ix x) v else μ) := by
  refine met_V RX3 rfl (by decide) (lv := [(0, .ref (ad c)), (1, .int x), (2, .int v)]) rfl (Nat.le_of_ble_eq_true rfl) ?_
  intro pp ee ss mm aa bb me cd AA hA0 CC hnm QQ hQ
  have hP9 : tP τ ≤ 9 := hB.1
  have hS4 : tS τ ≤ 4 := hB.2.1
  have hc2 : 1 ≤ c ∧ c ≤ 2 := by omega
  refine y_aload_n CC 0 dX3_setGoods_0 rfl rfl ?_
  refine y_iload_n CC 1 dX3_setGoods_1 rfl rfl ?_
  refine y_callVI (st := []) CC cl_X3_79 (k_hasPlace l D ad kI kS kL μ c hc τ hT hB x) hc rfl rfl rfl (Nat.le_of_ble_eq_true rfl) ⟨by decide, by decide⟩ ⟨Nat.zero_le _, Nat.zero_le _⟩ dX3_setGoods_2 (fun r_ μ_ w_2 => ?_)
  rcases w_2 with ⟨rfl, ⟨b_1, rfl⟩ | ⟨b_1, rfl⟩⟩
  · skip
    obtain ⟨j, hj, rfl⟩ := inB_of b_1 (by omega)
    refine z_if_eqF CC 15 dX3_setGoods_5 (by decide) (a := (1 : Int)) (nI_toInt (by decide)) (by decide) ?_
    refine y_aload_n CC 0 dX3_setGoods_8 rfl rfl ?_
    refine y_getr CC gl_X3_17 hc (d := (c + 6)) rfl dX3_setGoods_9 ?_
    refine y_iload_n CC 1 dX3_setGoods_12 rfl rfl ?_
    refine y_iload_n CC 2 dX3_setGoods_13 rfl rfl ?_
    refine y_iastN CC (n := 9) (by omega) (by unfold alen; rw [if_pos (by omega)]) (by omega) (by omega) dX3_setGoods_14 ?_
    exact y_vret CC hQ dX3_setGoods_15 (by rw [if_pos b_1, ix_nI (by omega)])
  · skip
    refine z_if_eqT CC 15 dX3_setGoods_5 (by decide) (a := (0 : Int)) (nI_toInt (by decide)) (by decide) ?_
    exact y_vret CC hQ dX3_setGoods_15 (by rw [b_1]; rfl)

set_option maxRecDepth 100000 in
set_option maxHeartbeats 4000000 in
theorem k_isThere (l : Launch) (D : va_G) (ad : Nat → Nat) (kI kS kL : ClassId) (μ : Mem) (c : Nat) (hc : isO 3 c) (τ : Tn) (hT : TX μ c τ) (hB : tB τ) : MI l D ad kI kS kL yX3_isThere cX3_isThere 1 (some .boolean) 0 0 [.ref (ad c)] μ (fun r μ2 => μ = μ2 ∧ bo r (decide (0 < tP τ))) := by
  refine met_I RX3 rfl (by decide) (lv := [(0, .ref (ad c))]) rfl (Nat.le_of_ble_eq_true rfl) ?_
  intro pp ee ss mm aa bb me cd AA hA0 CC hnm QQ hQ
  have hP9 : tP τ ≤ 9 := hB.1
  have hS4 : tS τ ≤ 4 := hB.2.1
  have hc2 : 1 ≤ c ∧ c ≤ 2 := by omega
  refine y_aload_n CC 0 dX3_isThere_0 rfl rfl ?_
  refine y_geti CC gl_X3_28 hc rfl (v := nI (tP τ)) hT.1 dX3_isThere_1 ?_
  refine z_if_le CC 11 dX3_isThere_4 (by decide) (a := ((tP τ : Nat) : Int)) (nI_toInt (by omega)) (fun c_1 => ?_) (fun c_1 => ?_)
  · skip
    refine y_iconst CC (nI 0) dX3_isThere_11 (by decide) ?_
    exact y_zret CC hQ dX3_isThere_12 (by decide) (⟨rfl, Or.inr ⟨decide_eq_false (by omega), rfl⟩⟩)
  · skip
    refine y_iconst CC (nI 1) dX3_isThere_7 (by decide) ?_
    refine y_goto CC 12 dX3_isThere_8 (by decide) ?_
    exact y_zret CC hQ dX3_isThere_12 (by decide) (⟨rfl, Or.inl ⟨decide_eq_true (by omega), rfl⟩⟩)

set_option maxRecDepth 100000 in
set_option maxHeartbeats 4000000 in
theorem k_placeCount (l : Launch) (D : va_G) (ad : Nat → Nat) (kI kS kL : ClassId) (μ : Mem) (c : Nat) (hc : isO 3 c) (τ : Tn) (hT : TX μ c τ) (hB : tB τ) : MI l D ad kI kS kL yX3_placeCount cX3_placeCount 1 (some .int) 0 0 [.ref (ad c)] μ (fun r μ2 => μ = μ2 ∧ r = nI (tP τ)) := by
  refine met_I RX3 rfl (by decide) (lv := [(0, .ref (ad c))]) rfl (Nat.le_of_ble_eq_true rfl) ?_
  intro pp ee ss mm aa bb me cd AA hA0 CC hnm QQ hQ
  have hP9 : tP τ ≤ 9 := hB.1
  have hS4 : tS τ ≤ 4 := hB.2.1
  have hc2 : 1 ≤ c ∧ c ≤ 2 := by omega
  refine y_aload_n CC 0 dX3_placeCount_0 rfl rfl ?_
  refine y_geti CC gl_X3_28 hc rfl (v := nI (tP τ)) hT.1 dX3_placeCount_1 ?_
  exact y_iret CC hQ dX3_placeCount_4 (⟨rfl, rfl⟩)

set_option maxRecDepth 100000 in
set_option maxHeartbeats 4000000 in
theorem k_sleeperCount (l : Launch) (D : va_G) (ad : Nat → Nat) (kI kS kL : ClassId) (μ : Mem) (c : Nat) (hc : isO 3 c) (τ : Tn) (hT : TX μ c τ) (hB : tB τ) : MI l D ad kI kS kL yX3_sleeperCount cX3_sleeperCount 1 (some .int) 0 0 [.ref (ad c)] μ (fun r μ2 => μ = μ2 ∧ r = nI (tS τ)) := by
  refine met_I RX3 rfl (by decide) (lv := [(0, .ref (ad c))]) rfl (Nat.le_of_ble_eq_true rfl) ?_
  intro pp ee ss mm aa bb me cd AA hA0 CC hnm QQ hQ
  have hP9 : tP τ ≤ 9 := hB.1
  have hS4 : tS τ ≤ 4 := hB.2.1
  have hc2 : 1 ≤ c ∧ c ≤ 2 := by omega
  refine y_aload_n CC 0 dX3_sleeperCount_0 rfl rfl ?_
  refine y_geti CC gl_X3_24 hc rfl (v := nI (tS τ)) hT.2.1 dX3_sleeperCount_1 ?_
  exact y_iret CC hQ dX3_sleeperCount_4 (⟨rfl, rfl⟩)

set_option maxRecDepth 100000 in
set_option maxHeartbeats 4000000 in
theorem k_placeIf (l : Launch) (D : va_G) (ad : Nat → Nat) (kI kS kL : ClassId) (μ : Mem) (c : Nat) (hc : isO 3 c) (τ : Tn) (hT : TX μ c τ) (hB : tB τ) (hP : 0 < tP τ) (k st d m : Nat) (hk : k ≤ 2) (hst : st ≤ 9) (hd : d ≤ 9) (hm : m ≤ 61) : MI l D ad kI kS kL yX3_placeIf cX3_placeIf 5 (some .int) 1 22 [.ref (ad c), .int (nI k), .int (nI st), .int (nI d), .int (nI m)] μ (fun r μ2 => μ = μ2 ∧ r = nI (pif τ k st d m)) := by
  refine met_I RX3 rfl (by decide) (lv := [(0, .ref (ad c)), (1, .int (nI k)), (2, .int (nI st)), (3, .int (nI d)), (4, .int (nI m))]) rfl (Nat.le_of_ble_eq_true rfl) ?_
  intro pp ee ss mm aa bb me cd AA hA0 CC hnm QQ hQ
  have hP9 : tP τ ≤ 9 := hB.1
  have hS4 : tS τ ≤ 4 := hB.2.1
  have hc2 : 1 ≤ c ∧ c ≤ 2 := by omega
  have hg := gone_le (k := k) hd hm
  refine y_aload_n CC 0 dX3_placeIf_0 rfl rfl ?_
  refine y_geti CC gl_X3_28 hc rfl (v := nI (tP τ)) hT.1 dX3_placeIf_1 ?_
  refine z_if_leF CC 24 dX3_placeIf_4 (by decide) (a := ((tP τ : Nat) : Int)) (nI_toInt (by omega)) (by omega) ?_
  refine y_iload_n CC 2 dX3_placeIf_7 rfl rfl ?_
  refine y_iload_n CC 1 dX3_placeIf_8 rfl rfl ?_
  refine y_iload_n CC 3 dX3_placeIf_9 rfl rfl ?_
  refine y_iload CC 4 dX3_placeIf_10 rfl ?_
  refine y_callSI (st := [.int (nI st)]) CC cl_X3_98 (k_gone l D ad kI kS kL μ k d m (by omega) (by omega) (by omega)) rfl rfl (Nat.le_of_ble_eq_true rfl) ⟨by decide, by decide⟩ ⟨Nat.zero_le _, Nat.zero_le _⟩ dX3_placeIf_12 (fun r_ μ_ w_1 => ?_)
  obtain ⟨rfl, rfl⟩ := w_1
  refine y_iadd CC dX3_placeIf_15 (v := nI (st + (gone k d m))) (nI_add _ _) ?_
  refine y_aload_n CC 0 dX3_placeIf_16 rfl rfl ?_
  refine y_geti CC gl_X3_28 hc rfl (v := nI (tP τ)) hT.1 dX3_placeIf_17 ?_
  refine y_irem CC dX3_placeIf_20 (nI_ne0 (by omega) (by omega)) (v := nI ((st + (gone k d m)) % (tP τ))) (i_rem (by omega) (by omega) (by omega)) ?_
  refine y_goto CC 25 dX3_placeIf_21 (by decide) ?_
  exact y_iret CC hQ dX3_placeIf_25 (⟨rfl, rfl⟩)

set_option maxRecDepth 100000 in
set_option maxHeartbeats 4000000 in
theorem k_placeOf (l : Launch) (D : va_G) (ad : Nat → Nat) (kI kS kL : ClassId) (μ : Mem) (c : Nat) (hc : isO 3 c) (τ : Tn) (hT : TX μ c τ) (hB : tB τ) (hP : 0 < tP τ) (a m : Nat) (ha : a < tS τ) (hm : m ≤ 61) : MI l D ad kI kS kL yX3_placeOf cX3_placeOf 4 (some .int) 2 46 [.ref (ad c), .int (nI a), .int (nI m)] μ (fun r μ2 => μ = μ2 ∧ r = nI (pl τ a m)) := by
  refine met_I RX3 rfl (by decide) (lv := [(0, .ref (ad c)), (1, .int (nI a)), (2, .int (nI m))]) rfl (Nat.le_of_ble_eq_true rfl) ?_
  intro pp ee ss mm aa bb me cd AA hA0 CC hnm QQ hQ
  have hP9 : tP τ ≤ 9 := hB.1
  have hS4 : tS τ ≤ 4 := hB.2.1
  have hc2 : 1 ≤ c ∧ c ≤ 2 := by omega
  have hkb := hB.2.2.1 a (by omega)
  refine y_aload_n CC 0 dX3_placeOf_0 rfl rfl ?_
  refine y_iload_n CC 1 dX3_placeOf_1 rfl rfl ?_
  refine y_callVN (st := []) CC cl_X3_72 (k_sleeperOrNull l D ad kI kS kL μ c hc τ hT hB (nI a)) hc rfl rfl rfl (Nat.le_of_ble_eq_true rfl) ⟨by decide, by decide⟩ ⟨Nat.zero_le _, Nat.zero_le _⟩ dX3_placeOf_2 (fun r_ μ_ w_2 => ?_)
  rcases w_2 with ⟨rfl, ⟨b_1, rfl⟩ | ⟨b_1, rfl⟩⟩
  · skip
    have hb_b_1 := inB_iff.mp b_1
    rw [nI_toInt (by omega)] at hb_b_1
    refine y_eq (st2 := [.ref (ad (4 * c + 18 + a))]) (by rw [ix_nI (by omega)]; rfl) ?_
    refine y_astore_n CC [(3, .ref (ad (4 * c + 18 + a))), (0, .ref (ad c)), (1, .int (nI a)), (2, .int (nI m))] dX3_placeOf_5 rfl (by decide) rfl ?_
    refine y_aload_n CC 0 dX3_placeOf_6 rfl rfl ?_
    refine y_ifnonnull CC 14 dX3_placeOf_7 (by decide) ?_
    refine y_aload_n CC 1 dX3_placeOf_14 rfl rfl ?_
    refine y_aload_n CC 0 dX3_placeOf_15 rfl rfl ?_
    refine y_geti CC gl_X3_76 (by omega) rfl (v := nI (tK τ a)) (hT.2.2.1 a (by omega)).1 dX3_placeOf_16 ?_
    refine y_aload_n CC 0 dX3_placeOf_19 rfl rfl ?_
    refine y_geti CC gl_X3_82 (by omega) rfl (v := nI (tA τ a)) (hT.2.2.1 a (by omega)).2.1 dX3_placeOf_20 ?_
    refine y_aload_n CC 0 dX3_placeOf_23 rfl rfl ?_
    refine y_geti CC gl_X3_85 (by omega) rfl (v := nI (tD τ a)) (hT.2.2.1 a (by omega)).2.2 dX3_placeOf_24 ?_
    refine y_iload_n CC 3 dX3_placeOf_27 rfl rfl ?_
    refine y_callVI (st := []) CC cl_X3_102 (k_placeIf l D ad kI kS kL μ c hc τ hT hB hP (tK τ a) (tA τ a) (tD τ a) m (by omega) (by omega) (by omega) (by omega)) hc rfl rfl rfl (Nat.le_of_ble_eq_true rfl) ⟨by decide, by decide⟩ ⟨Nat.zero_le _, Nat.zero_le _⟩ dX3_placeOf_28 (fun r_ μ_ w_3 => ?_)
    obtain ⟨rfl, rfl⟩ := w_3
    exact y_iret CC hQ dX3_placeOf_31 (⟨rfl, rfl⟩)
  · skip
    exfalso; rw [inB_nI (by omega) (by omega)] at b_1; cases b_1

set_option maxRecDepth 100000 in
set_option maxHeartbeats 4000000 in
theorem k_placeAfter (l : Launch) (D : va_G) (ad : Nat → Nat) (kI kS kL : ClassId) (μ : Mem) (c : Nat) (hc : isO 3 c) (τ : Tn) (hT : TX μ c τ) (hB : tB τ) (p act : Nat) (hp : p < tP τ) (hact : act ≤ 2) : MI l D ad kI kS kL yX3_placeAfter cX3_placeAfter 3 (some .int) 0 0 [.ref (ad c), .int (nI p), .int (nI act)] μ (fun r μ2 => μ = μ2 ∧ r = nI (after (tP τ) p act)) := by
  refine met_I RX3 rfl (by decide) (lv := [(0, .ref (ad c)), (1, .int (nI p)), (2, .int (nI act))]) rfl (Nat.le_of_ble_eq_true rfl) ?_
  intro pp ee ss mm aa bb me cd AA hA0 CC hnm QQ hQ
  have hP9 : tP τ ≤ 9 := hB.1
  have hS4 : tS τ ≤ 4 := hB.2.1
  have hc2 : 1 ≤ c ∧ c ≤ 2 := by omega
  refine y_aload_n CC 0 dX3_placeAfter_0 rfl rfl ?_
  refine y_geti CC gl_X3_28 hc rfl (v := nI (tP τ)) hT.1 dX3_placeAfter_1 ?_
  refine z_if_gtT CC 9 dX3_placeAfter_4 (by decide) (a := ((tP τ : Nat) : Int)) (nI_toInt (by omega)) (by omega) ?_
  refine y_iload_n CC 2 dX3_placeAfter_9 rfl rfl ?_
  rcases (show act = 0 ∨ act = 1 ∨ act = 2 by omega) with rfl | rfl | rfl
  · skip
    refine y_lookup CC (off := 49) 59 dX3_placeAfter_10 (by decide) (by decide +kernel) (by decide) ?_
    refine y_iload_n CC 1 dX3_placeAfter_59 rfl rfl ?_
    exact y_iret CC hQ dX3_placeAfter_60 (⟨rfl, rfl⟩)
  · skip
    refine y_lookup CC (off := 26) 36 dX3_placeAfter_10 (by decide) (by decide +kernel) (by decide) ?_
    refine y_iload_n CC 1 dX3_placeAfter_36 rfl rfl ?_
    refine y_iconst CC (nI 1) dX3_placeAfter_37 (by decide) ?_
    refine y_iadd CC dX3_placeAfter_38 (v := nI (p + 1)) (nI_add _ _) ?_
    refine y_aload_n CC 0 dX3_placeAfter_39 rfl rfl ?_
    refine y_geti CC gl_X3_28 hc rfl (v := nI (tP τ)) hT.1 dX3_placeAfter_40 ?_
    refine y_irem CC dX3_placeAfter_43 (nI_ne0 (by omega) (by omega)) (v := nI ((p + 1) % (tP τ))) (i_rem (by omega) (by omega) (by omega)) ?_
    exact y_iret CC hQ dX3_placeAfter_44 (⟨rfl, rfl⟩)
  · skip
    refine y_lookup CC (off := 35) 45 dX3_placeAfter_10 (by decide) (by decide +kernel) (by decide) ?_
    refine y_iload_n CC 1 dX3_placeAfter_45 rfl rfl ?_
    refine y_aload_n CC 0 dX3_placeAfter_46 rfl rfl ?_
    refine y_geti CC gl_X3_28 hc rfl (v := nI (tP τ)) hT.1 dX3_placeAfter_47 ?_
    refine y_iadd CC dX3_placeAfter_50 (v := nI (p + (tP τ))) (nI_add _ _) ?_
    refine y_iconst CC (nI 1) dX3_placeAfter_51 (by decide) ?_
    refine y_isub CC dX3_placeAfter_52 (v := nI ((p + (tP τ)) - 1)) (pk_sub (by omega)) ?_
    refine y_aload_n CC 0 dX3_placeAfter_53 rfl rfl ?_
    refine y_geti CC gl_X3_28 hc rfl (v := nI (tP τ)) hT.1 dX3_placeAfter_54 ?_
    refine y_irem CC dX3_placeAfter_57 (nI_ne0 (by omega) (by omega)) (v := nI (((p + (tP τ)) - 1) % (tP τ))) (i_rem (by omega) (by omega) (by omega)) ?_
    exact y_iret CC hQ dX3_placeAfter_58 (⟨rfl, rfl⟩)

set_option maxRecDepth 100000 in
set_option maxHeartbeats 4000000 in
theorem k_goodsOfAll (l : Launch) (D : va_G) (ad : Nat → Nat) (kI kS kL : ClassId) (μ : Mem) (c : Nat) (hc : isO 3 c) (τ : Tn) (hT : TX μ c τ) (hB : tB τ) : MI l D ad kI kS kL yX3_goodsOfAll cX3_goodsOfAll 3 (some .int) 2 42 [.ref (ad c)] μ (fun r μ2 => μ = μ2 ∧ r = nI (gsm τ (tP τ))) := by
  refine met_I RX3 rfl (by decide) (lv := [(0, .ref (ad c))]) rfl (Nat.le_of_ble_eq_true rfl) ?_
  intro pp ee ss mm aa bb me cd AA hA0 CC hnm QQ hQ
  have hP9 : tP τ ≤ 9 := hB.1
  have hS4 : tS τ ≤ 4 := hB.2.1
  have hc2 : 1 ≤ c ∧ c ≤ 2 := by omega
  refine y_iconst CC (nI 0) dX3_goodsOfAll_0 (by decide) ?_
  refine y_istore_n CC [(1, .int (nI 0)), (0, .ref (ad c))] dX3_goodsOfAll_1 rfl (by decide) rfl ?_
  refine y_iconst CC (nI 0) dX3_goodsOfAll_2 (by decide) ?_
  refine y_istore_n CC [(2, .int (nI 0)), (1, .int (nI 0)), (0, .ref (ad c))] dX3_goodsOfAll_3 rfl (by decide) rfl ?_
  have L4 : ∀ (n4 : Nat) (i : Nat), tP τ - i < n4 → (i ≤ tP τ) → Y pp l ee (rmY 2 42) ss mm aa bb me cd D ad kI kS kL AA 3 0 0 QQ 4 [(2, .int (nI i)), (1, .int (nI (gsm τ i))), (0, .ref (ad c))] [] μ := by
    intro n4
    induction n4 with
    | zero => intro i hm4; exact absurd hm4 (Nat.not_lt_zero _)
    | succ n4 ih4 =>
      intro i hm4 hi
      refine y_iload_n CC 0 dX3_goodsOfAll_4 rfl rfl ?_
      refine y_aload_n CC 2 dX3_goodsOfAll_5 rfl rfl ?_
      refine y_geti CC gl_X3_28 hc rfl (v := nI (tP τ)) hT.1 dX3_goodsOfAll_6 ?_
      refine z_icmp_ge CC 26 dX3_goodsOfAll_9 (by decide) (a := ((i : Nat) : Int)) (b := ((tP τ : Nat) : Int)) (nI_toInt (by omega)) (nI_toInt (by omega)) (fun c_2 => ?_) (fun c_2 => ?_)
      · skip
        refine y_iload_n CC 1 dX3_goodsOfAll_26 rfl rfl ?_
        exact y_iret CC hQ dX3_goodsOfAll_27 (⟨rfl, by rw [show i = tP τ by omega]⟩)
      · skip
        refine y_iload_n CC 1 dX3_goodsOfAll_12 rfl rfl ?_
        refine y_aload_n CC 2 dX3_goodsOfAll_13 rfl rfl ?_
        refine y_iload_n CC 0 dX3_goodsOfAll_14 rfl rfl ?_
        refine y_callVI (st := [.int (nI (gsm τ i))]) CC cl_X3_95 (k_goodsAt l D ad kI kS kL μ c hc τ hT hB (nI i)) hc rfl rfl rfl (Nat.le_of_ble_eq_true rfl) ⟨by decide, by decide⟩ ⟨Nat.zero_le _, Nat.zero_le _⟩ dX3_goodsOfAll_15 (fun r_ μ_ w_3 => ?_)
        obtain ⟨rfl, rfl⟩ := w_3
        refine y_top (y := nI (tG τ i)) (by rw [if_pos (inB_nI (by omega) (by omega)), ix_nI (by omega)]) ?_
        refine y_iadd CC dX3_goodsOfAll_18 (v := nI ((gsm τ i) + (tG τ i))) (nI_add _ _) ?_
        refine y_istore_n CC [(1, .int (nI ((gsm τ i) + (tG τ i)))), (2, .int (nI i)), (0, .ref (ad c))] dX3_goodsOfAll_19 rfl (by decide) rfl ?_
        refine y_iinc CC 1 (nI (i + 1)) [(2, .int (nI (i + 1))), (1, .int (nI ((gsm τ i) + (tG τ i)))), (0, .ref (ad c))] dX3_goodsOfAll_20 rfl (i_inc _) (by decide) rfl ?_
        refine y_goto CC 4 dX3_goodsOfAll_23 (by decide) ?_
        exact ih4 (i + 1) (by omega) (by omega)
  exact L4 _ 0 (Nat.lt_succ_self _) (Nat.zero_le _)
