theorem i_min {x y : Nat} (hx : x < 2 ^ 31) (hy : y < 2 ^ 31) : (if nI y < nI x then nI y else nI x) = nI (min x y) := by
  by_cases h : y < x
  · rw [if_pos ((nI_ltI hy hx).mpr h), Nat.min_eq_right (by omega)]
  · rw [if_neg (fun q => h ((nI_ltI hy hx).mp q)), Nat.min_eq_left (by omega)]
theorem i_pred {k : Nat} (h : k < 2 ^ 31) : (nI k - 1).toInt = (k : Int) - 1 := by
  rw [show (1 : Int32) = nI 1 from rfl]
  cases k with
  | zero => decide
  | succ k => rw [show nI (k + 1) - nI 1 = nI k from nI_pred k, nI_toInt (by omega)]; omega

set_option maxRecDepth 100000 in
set_option maxHeartbeats 4000000 in
theorem k_firstActInto (l : Launch) (D : va_G) (ad : Nat → Nat) (kI kS kL : ClassId) (μ : Mem) (c : Nat) (hc : isO 3 c) (τ : Tn) (hT : TX μ c τ) (hB : tB τ) (x p : Nat) (hx : x < 2 ^ 31) (hp : p < tP τ) : MI l D ad kI kS kL yX3_firstActInto cX3_firstActInto 4 (some .int) 2 41 [.ref (ad c), .int (nI x), .int (nI p)] μ (fun r μ2 => μ = μ2 ∧ r = oI (faS (tP τ) x p)) := by
  refine met_I RX3 rfl (by decide) (lv := [(0, .ref (ad c)), (1, .int (nI x)), (2, .int (nI p))]) rfl (Nat.le_of_ble_eq_true rfl) ?_
  intro pp ee ss mm aa bb me cd AA hA0 CC hnm QQ hQ
  have hP9 : tP τ ≤ 9 := hB.1
  have hS4 : tS τ ≤ 4 := hB.2.1
  have hc2 : 1 ≤ c ∧ c ≤ 2 := by omega
  have hl0 := after_lt (act := 0) hp
  have hl1 := after_lt (act := 1) hp
  have hl2 := after_lt (act := 2) hp
  refine y_iconst CC (nI 0) dX3_firstActInto_0 (by decide) ?_
  refine y_istore_n CC [(3, .int (nI 0)), (0, .ref (ad c)), (1, .int (nI x)), (2, .int (nI p))] dX3_firstActInto_1 rfl (by decide) rfl ?_
  refine y_iload_n CC 0 dX3_firstActInto_2 rfl rfl ?_
  refine y_iconst CC (nI 2) dX3_firstActInto_3 (by decide) ?_
  refine z_icmp_gtF CC 28 dX3_firstActInto_4 (by decide) (a := (0 : Int)) (b := (2 : Int)) (nI_toInt (by decide)) (nI_toInt (by decide)) (by decide) ?_
  refine y_iload_n CC 2 dX3_firstActInto_7 rfl rfl ?_
  refine y_aload_n CC 1 dX3_firstActInto_8 rfl rfl ?_
  refine y_iload_n CC 3 dX3_firstActInto_9 rfl rfl ?_
  refine y_iload_n CC 0 dX3_firstActInto_10 rfl rfl ?_
  refine y_callVI (st := [.int (nI x)]) CC cl_X3_133 (k_placeAfter l D ad kI kS kL μ c hc τ hT hB p 0 (by omega) (by omega)) hc rfl rfl rfl (Nat.le_of_ble_eq_true rfl) ⟨by decide, by decide⟩ ⟨Nat.zero_le _, Nat.zero_le _⟩ dX3_firstActInto_11 (fun r_ μ_ w_1 => ?_)
  obtain ⟨rfl, rfl⟩ := w_1
  refine y_callTI (st := []) CC CC.2.2.2.2.2.1.2.2.2.2.2.1 cl_X3_110 (k_isIn l D ad kI kS kL μ x (after (tP τ) p 0) (by omega) (by omega)) rfl rfl (Nat.le_of_ble_eq_true rfl) ⟨by decide, by decide⟩ ⟨Nat.zero_le _, Nat.zero_le _⟩ dX3_firstActInto_14 (fun r_ μ_ w_3 => ?_)
  rcases w_3 with ⟨rfl, ⟨b_2, rfl⟩ | ⟨b_2, rfl⟩⟩
  · skip
    refine z_if_eqF CC 22 dX3_firstActInto_17 (by decide) (a := (1 : Int)) (nI_toInt (by decide)) (by decide) ?_
    refine y_iload_n CC 0 dX3_firstActInto_20 rfl rfl ?_
    exact y_iret CC hQ dX3_firstActInto_21 (⟨rfl, by unfold faS; rw [if_pos b_2]; rfl⟩)
  · skip
    refine z_if_eqT CC 22 dX3_firstActInto_17 (by decide) (a := (0 : Int)) (nI_toInt (by decide)) (by decide) ?_
    refine y_iinc CC 0 (nI 1) [(3, .int (nI 1)), (0, .ref (ad c)), (1, .int (nI x)), (2, .int (nI p))] dX3_firstActInto_22 rfl (i_inc _) (by decide) rfl ?_
    refine y_goto CC 2 dX3_firstActInto_25 (by decide) ?_
    refine y_iload_n CC 0 dX3_firstActInto_2 rfl rfl ?_
    refine y_iconst CC (nI 2) dX3_firstActInto_3 (by decide) ?_
    refine z_icmp_gtF CC 28 dX3_firstActInto_4 (by decide) (a := (1 : Int)) (b := (2 : Int)) (nI_toInt (by decide)) (nI_toInt (by decide)) (by decide) ?_
    refine y_iload_n CC 2 dX3_firstActInto_7 rfl rfl ?_
    refine y_aload_n CC 1 dX3_firstActInto_8 rfl rfl ?_
    refine y_iload_n CC 3 dX3_firstActInto_9 rfl rfl ?_
    refine y_iload_n CC 0 dX3_firstActInto_10 rfl rfl ?_
    refine y_callVI (st := [.int (nI x)]) CC cl_X3_133 (k_placeAfter l D ad kI kS kL μ c hc τ hT hB p 1 (by omega) (by omega)) hc rfl rfl rfl (Nat.le_of_ble_eq_true rfl) ⟨by decide, by decide⟩ ⟨Nat.zero_le _, Nat.zero_le _⟩ dX3_firstActInto_11 (fun r_ μ_ w_4 => ?_)
    obtain ⟨rfl, rfl⟩ := w_4
    refine y_callTI (st := []) CC CC.2.2.2.2.2.1.2.2.2.2.2.1 cl_X3_110 (k_isIn l D ad kI kS kL μ x (after (tP τ) p 1) (by omega) (by omega)) rfl rfl (Nat.le_of_ble_eq_true rfl) ⟨by decide, by decide⟩ ⟨Nat.zero_le _, Nat.zero_le _⟩ dX3_firstActInto_14 (fun r_ μ_ w_6 => ?_)
    rcases w_6 with ⟨rfl, ⟨b_5, rfl⟩ | ⟨b_5, rfl⟩⟩
    · skip
      refine z_if_eqF CC 22 dX3_firstActInto_17 (by decide) (a := (1 : Int)) (nI_toInt (by decide)) (by decide) ?_
      refine y_iload_n CC 0 dX3_firstActInto_20 rfl rfl ?_
      exact y_iret CC hQ dX3_firstActInto_21 (⟨rfl, by unfold faS; rw [if_neg (by rw [b_2]; decide), if_pos b_5]; rfl⟩)
    · skip
      refine z_if_eqT CC 22 dX3_firstActInto_17 (by decide) (a := (0 : Int)) (nI_toInt (by decide)) (by decide) ?_
      refine y_iinc CC 0 (nI 2) [(3, .int (nI 2)), (0, .ref (ad c)), (1, .int (nI x)), (2, .int (nI p))] dX3_firstActInto_22 rfl (i_inc _) (by decide) rfl ?_
      refine y_goto CC 2 dX3_firstActInto_25 (by decide) ?_
      refine y_iload_n CC 0 dX3_firstActInto_2 rfl rfl ?_
      refine y_iconst CC (nI 2) dX3_firstActInto_3 (by decide) ?_
      refine z_icmp_gtF CC 28 dX3_firstActInto_4 (by decide) (a := (2 : Int)) (b := (2 : Int)) (nI_toInt (by decide)) (nI_toInt (by decide)) (by decide) ?_
      refine y_iload_n CC 2 dX3_firstActInto_7 rfl rfl ?_
      refine y_aload_n CC 1 dX3_firstActInto_8 rfl rfl ?_
      refine y_iload_n CC 3 dX3_firstActInto_9 rfl rfl ?_
      refine y_iload_n CC 0 dX3_firstActInto_10 rfl rfl ?_
      refine y_callVI (st := [.int (nI x)]) CC cl_X3_133 (k_placeAfter l D ad kI kS kL μ c hc τ hT hB p 2 (by omega) (by omega)) hc rfl rfl rfl (Nat.le_of_ble_eq_true rfl) ⟨by decide, by decide⟩ ⟨Nat.zero_le _, Nat.zero_le _⟩ dX3_firstActInto_11 (fun r_ μ_ w_7 => ?_)
      obtain ⟨rfl, rfl⟩ := w_7
      refine y_callTI (st := []) CC CC.2.2.2.2.2.1.2.2.2.2.2.1 cl_X3_110 (k_isIn l D ad kI kS kL μ x (after (tP τ) p 2) (by omega) (by omega)) rfl rfl (Nat.le_of_ble_eq_true rfl) ⟨by decide, by decide⟩ ⟨Nat.zero_le _, Nat.zero_le _⟩ dX3_firstActInto_14 (fun r_ μ_ w_9 => ?_)
      rcases w_9 with ⟨rfl, ⟨b_8, rfl⟩ | ⟨b_8, rfl⟩⟩
      · skip
        refine z_if_eqF CC 22 dX3_firstActInto_17 (by decide) (a := (1 : Int)) (nI_toInt (by decide)) (by decide) ?_
        refine y_iload_n CC 0 dX3_firstActInto_20 rfl rfl ?_
        exact y_iret CC hQ dX3_firstActInto_21 (⟨rfl, by unfold faS; rw [if_neg (by rw [b_2]; decide), if_neg (by rw [b_5]; decide), if_pos b_8]; rfl⟩)
      · skip
        refine z_if_eqT CC 22 dX3_firstActInto_17 (by decide) (a := (0 : Int)) (nI_toInt (by decide)) (by decide) ?_
        refine y_iinc CC 0 (nI 3) [(3, .int (nI 3)), (0, .ref (ad c)), (1, .int (nI x)), (2, .int (nI p))] dX3_firstActInto_22 rfl (i_inc _) (by decide) rfl ?_
        refine y_goto CC 2 dX3_firstActInto_25 (by decide) ?_
        refine y_iload_n CC 0 dX3_firstActInto_2 rfl rfl ?_
        refine y_iconst CC (nI 2) dX3_firstActInto_3 (by decide) ?_
        refine z_icmp_gtT CC 28 dX3_firstActInto_4 (by decide) (a := (3 : Int)) (b := (2 : Int)) (nI_toInt (by decide)) (nI_toInt (by decide)) (by decide) ?_
        refine y_bipush CC ((-9)) dX3_firstActInto_28 (by decide) ?_
        exact y_iret CC hQ dX3_firstActInto_30 (⟨rfl, by unfold faS; rw [if_neg (by rw [b_2]; decide), if_neg (by rw [b_5]; decide), if_neg (by rw [b_8]; decide)]; rfl⟩)

set_option maxRecDepth 100000 in
set_option maxHeartbeats 4000000 in
theorem k_findTheWay (l : Launch) (D : va_G) (ad : Nat → Nat) (kI kS kL : ClassId) (μ : Mem) (c : Nat) (hc : isO 3 c) (τ : Tn) (hT : TX μ c τ) (hB : tB τ) (hP3 : 3 ≤ tP τ) (t n : Nat) (ht : t < tP τ) (hn : n ≤ 60) : MV l D ad kI kS kL yX3_findTheWay cX3_findTheWay 5 none 4 93 [.ref (ad c), .int (nI t), .int (nI n)] μ (fun μ2 => (∀ c1 k1, c1 ≠ c + 8 → μ2 c1 k1 = μ c1 k1) ∧ ∀ m, m ≤ n → μ2 (c + 8) m = nI (bwS τ t n m)) := by
  refine met_V RX3 rfl (by decide) (lv := [(0, .ref (ad c)), (1, .int (nI t)), (2, .int (nI n))]) rfl (Nat.le_of_ble_eq_true rfl) ?_
  intro pp ee ss mm aa bb me cd AA hA0 CC hnm QQ hQ
  have hP9 : tP τ ≤ 9 := hB.1
  have hS4 : tS τ ≤ 4 := hB.2.1
  have hc2 : 1 ≤ c ∧ c ≤ 2 := by omega
  refine y_iload_n CC 1 dX3_findTheWay_0 rfl rfl ?_
  refine y_callTI (st := []) CC CC.2.2.2.2.2.1.2.2.2.2.2.2 cl_X3_114 (k_bit l D ad kI kS kL μ t (by omega)) rfl rfl (Nat.le_of_ble_eq_true rfl) ⟨by decide, by decide⟩ ⟨Nat.zero_le _, Nat.zero_le _⟩ dX3_findTheWay_1 (fun r_ μ_ w_1 => ?_)
  obtain ⟨rfl, rfl⟩ := w_1
  refine y_istore_n CC [(3, .int (nI (2 ^ t))), (0, .ref (ad c)), (1, .int (nI t)), (2, .int (nI n))] dX3_findTheWay_4 rfl (by decide) rfl ?_
  refine y_iload_n CC 3 dX3_findTheWay_5 rfl rfl ?_
  refine y_aload_n CC 1 dX3_findTheWay_6 rfl rfl ?_
  refine y_getr CC gl_X3_21 hc (d := (c + 8)) rfl dX3_findTheWay_7 ?_
  refine y_alen CC (n := 61) (by omega) (by unfold alen; rw [if_neg (by omega), if_pos (by omega)]) dX3_findTheWay_10 ?_
  refine y_iconst CC (nI 1) dX3_findTheWay_11 (by decide) ?_
  refine y_isub CC dX3_findTheWay_12 (v := nI 60) (pk_sub (by omega)) ?_
  refine y_mmin CC mm_X3_136 (by decide) (by decide) ⟨Nat.zero_le _, Nat.zero_le _⟩ (v := nI (min n 60)) (i_min (by omega) (by omega)) dX3_findTheWay_13 ?_
  refine y_istore CC [(4, .int (nI (min n 60))), (3, .int (nI (2 ^ t))), (0, .ref (ad c)), (1, .int (nI t)), (2, .int (nI n))] dX3_findTheWay_16 (by decide) rfl ?_
  have L18 : ∀ (n18 : Nat) (j : Nat) (ν : Mem), n + 1 - j < n18 → (j ≤ n + 1) → (∀ c1 k1, c1 ≠ c + 8 → ν c1 k1 = μ c1 k1) → (∀ m, n + 1 ≤ m + j → m ≤ n → ν (c + 8) m = nI (bwS τ t n m)) → Y pp l ee (rmY 4 93) ss mm aa bb me cd D ad kI kS kL AA 5 0 0 QQ 18 [(4, .int (nI (n + 1 - j) - 1)), (3, .int (nI (bj τ t n j))), (0, .ref (ad c)), (1, .int (nI t)), (2, .int (nI n))] [] ν := by
    intro n18
    induction n18 with
    | zero => intro j ν hm18; exact absurd hm18 (Nat.not_lt_zero _)
    | succ n18 ih18 =>
      intro j ν hm18 hj hF hW
      have hT2 : TX ν c τ := hT.same (fun k _ => hF c k (by omega)) (fun a k _ => hF _ k (by omega)) (fun p => hF _ p (by omega))
      have hbj := set9 hP9 (bj_lt (n := n) ht j)
      refine y_iload CC 0 dX3_findTheWay_18 rfl ?_
      refine z_if_lt CC 58 dX3_findTheWay_20 (by decide) (a := ((n + 1 - j : Nat) : Int) - 1) (i_pred (by omega)) (fun c_3 => ?_) (fun c_3 => ?_)
      · skip
        exact y_vret CC hQ dX3_findTheWay_58 (⟨hF, fun m h => hW m (by omega) h⟩)
      · skip
        refine y_lvE (lv2 := [(4, .int (nI (n - j))), (3, .int (nI (bj τ t n j))), (0, .ref (ad c)), (1, .int (nI t)), (2, .int (nI n))]) (by rw [show n + 1 - j = (n - j) + 1 by omega, nI_pred]) ?_
        refine y_aload_n CC 2 dX3_findTheWay_23 rfl rfl ?_
        refine y_getr CC gl_X3_21 hc (d := (c + 8)) rfl dX3_findTheWay_24 ?_
        refine y_iload CC 0 dX3_findTheWay_27 rfl ?_
        refine y_iload_n CC 1 dX3_findTheWay_29 rfl rfl ?_
        refine y_aload_n CC 2 dX3_findTheWay_30 rfl rfl ?_
        refine y_iload CC 0 dX3_findTheWay_31 rfl ?_
        refine y_bipush CC (nI 15) dX3_findTheWay_33 (by decide) ?_
        refine y_callVI (st := [.int (nI (bj τ t n j)), .int (nI (n - j)), .ref (ad (c + 8))]) CC cl_X3_124 (k_freePlaces l D ad kI kS kL ν c hc τ hT2 hB hP3 (n - j) 15 (by omega) (by omega)) hc rfl rfl rfl (Nat.le_of_ble_eq_true rfl) ⟨by decide, by decide⟩ ⟨Nat.zero_le _, Nat.zero_le _⟩ dX3_findTheWay_35 (fun r_ μ_ w_5 => ?_)
        obtain ⟨rfl, rfl⟩ := w_5
        have h_fr_4 := set9 (P := tP τ) (by omega) (frS_lt τ 15 (n - j))
        refine y_iand CC dX3_findTheWay_38 (v := nI (bj τ t n j &&& frS τ 15 (n - j))) (i_and _ _) ?_
        refine y_iastN CC (n := 61) (by omega) (by unfold alen; rw [if_neg (by omega), if_pos (by omega)]) (by omega) (by omega) dX3_findTheWay_39 ?_
        have hT3 : TX (mu ν (c + 8) (n - j) (nI (bj τ t n j &&& frS τ 15 (n - j)))) c τ := hT2.same (fun k _ => mu_ne _ _ (Or.inl (by omega))) (fun a k _ => mu_ne _ _ (Or.inl (by omega))) (fun p => mu_ne _ _ (Or.inl (by omega)))
        have hs_ : bj τ t n j &&& frS τ 15 (n - j) < 2 ^ tP τ := Nat.lt_of_le_of_lt Nat.and_le_right (frS_lt _ _ _)
        refine y_aload_n CC 2 dX3_findTheWay_40 rfl rfl ?_
        refine y_aload_n CC 2 dX3_findTheWay_41 rfl rfl ?_
        refine y_getr CC gl_X3_21 hc (d := (c + 8)) rfl dX3_findTheWay_42 ?_
        refine y_iload CC 0 dX3_findTheWay_45 rfl ?_
        refine y_ialdN CC (n := 61) (by omega) (by unfold alen; rw [if_neg (by omega), if_pos (by omega)]) (by omega) (by omega) (v := nI (bj τ t n j &&& frS τ 15 (n - j))) (mu_at _ _ _ _) dX3_findTheWay_47 ?_
        refine y_callVI (st := []) CC cl_X3_121 (k_withNeighbours l D ad kI kS kL (mu ν (c + 8) (n - j) (nI (bj τ t n j &&& frS τ 15 (n - j)))) c hc τ hT3 hB hP3 (bj τ t n j &&& frS τ 15 (n - j)) hs_) hc rfl rfl rfl (Nat.le_of_ble_eq_true rfl) ⟨by decide, by decide⟩ ⟨Nat.zero_le _, Nat.zero_le _⟩ dX3_findTheWay_48 (fun r_ μ_ w_6 => ?_)
        obtain ⟨rfl, rfl⟩ := w_6
        refine y_istore_n CC [(3, .int (nI (nbS (tP τ) (bj τ t n j &&& frS τ 15 (n - j))))), (4, .int (nI (n - j))), (0, .ref (ad c)), (1, .int (nI t)), (2, .int (nI n))] dX3_findTheWay_51 rfl (by decide) rfl ?_
        refine y_iinc CC 1 (nI (n + 1 - (j + 1)) - 1) [(4, .int (nI (n + 1 - (j + 1)) - 1)), (3, .int (nI (nbS (tP τ) (bj τ t n j &&& frS τ 15 (n - j))))), (0, .ref (ad c)), (1, .int (nI t)), (2, .int (nI n))] dX3_findTheWay_52 rfl (by rw [show n + 1 - (j + 1) = n - j by omega, Int32.sub_eq_add_neg]; rfl) (by decide) rfl ?_
        refine y_goto CC 18 dX3_findTheWay_55 (by decide) ?_
        exact ih18 (j + 1) (mu ν (c + 8) (n - j) (nI (bj τ t n j &&& frS τ 15 (n - j)))) (by omega) (by omega) (fun c1 k1 h => by rw [mu_ne _ _ (Or.inl h)]; exact hF c1 k1 h) (fun m h1 h2 => by rcases (show m = n - j ∨ n + 1 ≤ m + j by omega) with rfl | h; rw [mu_at, bwS_j (by omega)]; rw [mu_k _ _ (by omega)]; exact hW m h h2)
  refine y_lvE (lv2 := [(4, .int (nI (n + 1 - 0) - 1)), (3, .int (nI (2 ^ t))), (0, .ref (ad c)), (1, .int (nI t)), (2, .int (nI n))]) (by rw [show min n 60 = n by omega, show n + 1 - 0 = n + 1 by omega, nI_pred]) ?_
  exact L18 _ 0 μ (Nat.lt_succ_self _) (Nat.zero_le _) (fun _ _ _ => rfl) (fun m h1 h2 => absurd h1 (by omega))

set_option maxRecDepth 100000 in
set_option maxHeartbeats 4000000 in
theorem k_actOfSoonest (l : Launch) (D : va_G) (ad : Nat → Nat) (kI kS kL : ClassId) (μ : Mem) (c : Nat) (hc : isO 3 c) (τ : Tn) (hT : TX μ c τ) (hB : tB τ) (hP3 : 3 ≤ tP τ) (f t n k : Nat) (hf : f < tP τ) (ht : t < tP τ) (hn : n ≤ 60) (hk : k < n) (hw : (bwS τ t n 0).testBit f = true) : MI l D ad kI kS kL yX3_actOfSoonest cX3_actOfSoonest 8 (some .int) 5 117 [.ref (ad c), .int (nI f), .int (nI t), .int (nI n), .int (nI k)] μ (fun r μ2 => (∀ c1 k1, c1 ≠ c + 8 → μ2 c1 k1 = μ c1 k1) ∧ r = nI (actS τ t n f k)) := by
  refine met_I RX3 rfl (by decide) (lv := [(0, .ref (ad c)), (1, .int (nI f)), (2, .int (nI t)), (3, .int (nI n)), (4, .int (nI k))]) rfl (Nat.le_of_ble_eq_true rfl) ?_
  intro pp ee ss mm aa bb me cd AA hA0 CC hnm QQ hQ
  have hP9 : tP τ ≤ 9 := hB.1
  have hS4 : tS τ ≤ 4 := hB.2.1
  have hc2 : 1 ≤ c ∧ c ≤ 2 := by omega
  refine y_aload_n CC 0 dX3_actOfSoonest_0 rfl rfl ?_
  refine y_iload_n CC 2 dX3_actOfSoonest_1 rfl rfl ?_
  refine y_iload_n CC 3 dX3_actOfSoonest_2 rfl rfl ?_
  refine y_callVV (st := []) CC cl_X3_127 (k_findTheWay l D ad kI kS kL μ c hc τ hT hB hP3 t n ht hn) hc rfl rfl rfl (Nat.le_of_ble_eq_true rfl) ⟨by decide, by decide⟩ ⟨Nat.zero_le _, Nat.zero_le _⟩ dX3_actOfSoonest_3 (fun μ_ w_2 => ?_)
  obtain ⟨hF, hW⟩ := w_2
  have hT2 : TX μ_ c τ := hT.same (fun k _ => hF c k (by omega)) (fun a k _ => hF _ k (by omega)) (fun p => hF _ p (by omega))
  refine y_iload_n CC 1 dX3_actOfSoonest_6 rfl rfl ?_
  refine y_istore CC [(5, .int (nI f)), (0, .ref (ad c)), (1, .int (nI f)), (2, .int (nI t)), (3, .int (nI n)), (4, .int (nI k))] dX3_actOfSoonest_7 (by decide) rfl ?_
  refine y_bipush CC ((-9)) dX3_actOfSoonest_9 (by decide) ?_
  refine y_istore CC [(6, .int (-9)), (5, .int (nI f)), (0, .ref (ad c)), (1, .int (nI f)), (2, .int (nI t)), (3, .int (nI n)), (4, .int (nI k))] dX3_actOfSoonest_11 (by decide) rfl ?_
  refine y_iconst CC (nI 1) dX3_actOfSoonest_13 (by decide) ?_
  refine y_istore CC [(7, .int (nI 1)), (6, .int (-9)), (5, .int (nI f)), (0, .ref (ad c)), (1, .int (nI f)), (2, .int (nI t)), (3, .int (nI n)), (4, .int (nI k))] dX3_actOfSoonest_14 (by decide) rfl ?_
  have L16 : ∀ (n16 : Nat) (x : Nat) (av : Int32), k + 1 - x < n16 → (x ≤ k + 1) → (posS τ t n f x < tP τ) → ((bwS τ t n x).testBit (posS τ t n f x) = true) → (0 < x → av = nI (actS τ t n f (x - 1))) → Y pp l ee (rmY 5 117) ss mm aa bb me cd D ad kI kS kL AA 8 0 0 QQ 16 [(7, .int (nI (x + 1))), (6, .int av), (5, .int (nI (posS τ t n f x))), (0, .ref (ad c)), (1, .int (nI f)), (2, .int (nI t)), (3, .int (nI n)), (4, .int (nI k))] [] μ_ := by
    intro n16
    induction n16 with
    | zero => intro x av hm16; exact absurd hm16 (Nat.not_lt_zero _)
    | succ n16 ih16 =>
      intro x av hm16 hx hp hin hav
      refine y_iload CC 0 dX3_actOfSoonest_16 rfl ?_
      refine y_iload CC 7 dX3_actOfSoonest_18 rfl ?_
      refine y_iconst CC (nI 1) dX3_actOfSoonest_20 (by decide) ?_
      refine y_iadd CC dX3_actOfSoonest_21 (v := nI (k + 1)) (nI_add _ _) ?_
      refine z_icmp_gt CC 66 dX3_actOfSoonest_22 (by decide) (a := ((x + 1 : Nat) : Int)) (b := ((k + 1 : Nat) : Int)) (nI_toInt (by omega)) (nI_toInt (by omega)) (fun c_4 => ?_) (fun c_4 => ?_)
      · skip
        refine y_iload CC 1 dX3_actOfSoonest_66 rfl ?_
        exact y_iret CC hQ dX3_actOfSoonest_68 (⟨hF, hav (by omega) ▸ by rw [show x - 1 = k by omega]⟩)
      · skip
        refine y_iload CC 0 dX3_actOfSoonest_25 rfl ?_
        refine y_aload_n CC 3 dX3_actOfSoonest_27 rfl rfl ?_
        refine y_getr CC gl_X3_21 hc (d := (c + 8)) rfl dX3_actOfSoonest_28 ?_
        refine y_alen CC (n := 61) (by omega) (by unfold alen; rw [if_neg (by omega), if_pos (by omega)]) dX3_actOfSoonest_31 ?_
        refine z_icmp_ge CC 66 dX3_actOfSoonest_32 (by decide) (a := ((x + 1 : Nat) : Int)) (b := (61 : Int)) (nI_toInt (by omega)) (nI_toInt (by decide)) (fun c_5 => ?_) (fun c_5 => ?_)
        · skip
          exfalso; omega
        · skip
          have hb9 := set9 hP9 (bwS_lt (τ := τ) (t := t) (n := n) (x + 1))
          have hst := way_step hp (by omega) hin
          refine y_aload_n CC 3 dX3_actOfSoonest_35 rfl rfl ?_
          refine y_aload_n CC 3 dX3_actOfSoonest_36 rfl rfl ?_
          refine y_getr CC gl_X3_21 hc (d := (c + 8)) rfl dX3_actOfSoonest_37 ?_
          refine y_iload CC 0 dX3_actOfSoonest_40 rfl ?_
          refine y_ialdN CC (n := 61) (by omega) (by unfold alen; rw [if_neg (by omega), if_pos (by omega)]) (by omega) (by omega) (v := nI (bwS τ t n (x + 1))) (hW (x + 1) (by omega)) dX3_actOfSoonest_42 ?_
          refine y_iload CC 2 dX3_actOfSoonest_43 rfl ?_
          refine y_callVI (st := []) CC cl_X3_130 (k_firstActInto l D ad kI kS kL μ_ c hc τ hT2 hB (bwS τ t n (x + 1)) (posS τ t n f x) (by omega) hp) hc rfl rfl rfl (Nat.le_of_ble_eq_true rfl) ⟨by decide, by decide⟩ ⟨Nat.zero_le _, Nat.zero_le _⟩ dX3_actOfSoonest_45 (fun r_ μ_ w_6 => ?_)
          obtain ⟨rfl, rfl⟩ := w_6
          refine y_top (y := nI (actS τ t n f x)) (by rw [hst.2.1]; rfl) ?_
          have ha2 := hst.1
          refine y_istore CC [(6, .int (nI (actS τ t n f x))), (7, .int (nI (x + 1))), (5, .int (nI (posS τ t n f x))), (0, .ref (ad c)), (1, .int (nI f)), (2, .int (nI t)), (3, .int (nI n)), (4, .int (nI k))] dX3_actOfSoonest_48 (by decide) rfl ?_
          refine y_aload_n CC 3 dX3_actOfSoonest_50 rfl rfl ?_
          refine y_iload CC 2 dX3_actOfSoonest_51 rfl ?_
          refine y_iload CC 0 dX3_actOfSoonest_53 rfl ?_
          refine y_callVI (st := []) CC cl_X3_133 (k_placeAfter l D ad kI kS kL μ_ c hc τ hT2 hB (posS τ t n f x) (actS τ t n f x) (by omega) (by omega)) hc rfl rfl rfl (Nat.le_of_ble_eq_true rfl) ⟨by decide, by decide⟩ ⟨Nat.zero_le _, Nat.zero_le _⟩ dX3_actOfSoonest_55 (fun r_ μ_ w_7 => ?_)
          obtain ⟨rfl, rfl⟩ := w_7
          refine y_istore CC [(5, .int (nI (after (tP τ) (posS τ t n f x) (actS τ t n f x)))), (6, .int (nI (actS τ t n f x))), (7, .int (nI (x + 1))), (0, .ref (ad c)), (1, .int (nI f)), (2, .int (nI t)), (3, .int (nI n)), (4, .int (nI k))] dX3_actOfSoonest_58 (by decide) rfl ?_
          refine y_iinc CC 2 (nI ((x + 1) + 1)) [(7, .int (nI ((x + 1) + 1))), (5, .int (nI (after (tP τ) (posS τ t n f x) (actS τ t n f x)))), (6, .int (nI (actS τ t n f x))), (0, .ref (ad c)), (1, .int (nI f)), (2, .int (nI t)), (3, .int (nI n)), (4, .int (nI k))] dX3_actOfSoonest_60 rfl (i_inc _) (by decide) rfl ?_
          refine y_goto CC 16 dX3_actOfSoonest_63 (by decide) ?_
          refine y_lv [0, 2, 1, 3, 4, 5, 6, 7] rfl ?_
          exact ih16 (x + 1) (nI (actS τ t n f x)) (by omega) (by omega) (after_lt hp) hst.2.2 (fun _ => rfl)
  exact L16 _ 0 (-9) (Nat.lt_succ_self _) (Nat.zero_le _) hf hw (fun h => absurd h (Nat.lt_irrefl 0))
