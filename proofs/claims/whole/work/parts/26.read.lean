theorem dg_sub {x : Int32} (h1 : 48 ≤ x.toInt) (h2 : x.toInt ≤ 57) : x - nI 48 = nI (dgN x) := by
  apply Int32.toInt_inj.mp
  have e : dgN x = (x.toInt - 48).toNat := by unfold dgN; rw [if_pos ⟨h1, h2⟩]
  rw [Int32.toInt_sub, nI_toInt (by decide), nI_toInt (by omega), Int.bmod_eq_of_le] <;> omega
theorem tz_X {μ : Mem} {c : Nat} {τ : Tn} (h : TX μ c τ) (hc : 1 ≤ c ∧ c ≤ 2) : TXR (mu (mu (mu (mu μ c 3 (nI 0)) c 4 (nI 0)) c 5 (nI 0)) c 6 (nI 0)) c (tz τ) := by
  refine ⟨⟨?_, ?_, fun a ha => ?_, fun p hp => ?_⟩, ?_, ?_⟩
  · rw [mu_k _ _ (by decide), mu_k _ _ (by decide), mu_at]; rfl
  · rw [mu_k _ _ (by decide), mu_k _ _ (by decide), mu_k _ _ (by decide), mu_at]; rfl
  · simp only [mu_ne _ _ (Or.inl (show 4 * c + 18 + a ≠ c by omega))]
    exact h.2.2.1 a ha
  · simp only [mu_ne _ _ (Or.inl (show c + 6 ≠ c by omega))]
    exact h.2.2.2 p hp
  · rw [mu_k _ _ (by decide), mu_at]; rfl
  · rw [mu_at]; rfl
theorem rd_bad {τ t : Tn} {f : Nat → Int32} {k n : Nat} (ht : pr τ f k = some t) (hs : pst t (f k) = none) (hk : k < n) (hr : fs (fun x => (pr τ f (x + 1)).isNone) k (n - k) = fs (fun x => (pr τ f (x + 1)).isNone) 0 n) : pz τ f n = some k := by
  unfold pz
  rw [← hr, fs_t (by show (pr τ f (k + 1)).isNone = true; rw [pr_s ht, hs]; rfl) hk]
theorem rd_end {τ t : Tn} {f : Nat → Int32} {n : Nat} (ht : pr τ f n = some t) (hr : fs (fun x => (pr τ f (x + 1)).isNone) n (n - n) = fs (fun x => (pr τ f (x + 1)).isNone) 0 n) : pz τ f n = if t 0 3 = 7 then none else some n := by
  unfold pz
  rw [← hr, fs_0 rfl, ht]

set_option maxRecDepth 100000 in
set_option maxHeartbeats 4000000 in
theorem k_digit (l : Launch) (D : va_G) (ad : Nat → Nat) (kI kS kL : ClassId) (μ : Mem) (x : Int32) : MI l D ad kI kS kL yX3_digit cX3_digit 1 (some .int) 0 0 [.int x] μ (fun r μ2 => μ = μ2 ∧ ((dgN x ≤ 9 ∧ r = nI (dgN x)) ∨ (dgN x = 99 ∧ r = -9))) := by
  refine met_I RX3 rfl (by decide) (lv := [(0, .int x)]) rfl (Nat.le_of_ble_eq_true rfl) ?_
  intro pp ee ss mm aa bb me cd AA hA0 CC hnm QQ hQ
  refine y_iload_n CC 0 dX3_digit_0 rfl rfl ?_
  refine y_bipush CC (nI 48) dX3_digit_1 (by decide) ?_
  refine z_icmp_lt CC 19 dX3_digit_3 (by decide) (a := (x).toInt) (b := (48 : Int)) rfl (nI_toInt (by decide)) (fun c_1 => ?_) (fun c_1 => ?_)
  · skip
    refine y_bipush CC ((-9)) dX3_digit_19 (by decide) ?_
    exact y_iret CC hQ dX3_digit_21 (⟨rfl, Or.inr ⟨by unfold dgN; rw [if_neg (by omega)], rfl⟩⟩)
  · skip
    refine y_iload_n CC 0 dX3_digit_6 rfl rfl ?_
    refine y_bipush CC (nI 57) dX3_digit_7 (by decide) ?_
    refine z_icmp_gt CC 19 dX3_digit_9 (by decide) (a := (x).toInt) (b := (57 : Int)) rfl (nI_toInt (by decide)) (fun c_2 => ?_) (fun c_2 => ?_)
    · skip
      refine y_bipush CC ((-9)) dX3_digit_19 (by decide) ?_
      exact y_iret CC hQ dX3_digit_21 (⟨rfl, Or.inr ⟨by unfold dgN; rw [if_neg (by omega)], rfl⟩⟩)
    · skip
      refine y_iload_n CC 0 dX3_digit_12 rfl rfl ?_
      refine y_bipush CC (nI 48) dX3_digit_13 (by decide) ?_
      refine y_isub CC dX3_digit_15 (v := nI (dgN x)) (dg_sub (by omega) (by omega)) ?_
      refine y_goto CC 21 dX3_digit_16 (by decide) ?_
      exact y_iret CC hQ dX3_digit_21 (⟨rfl, Or.inl ⟨by unfold dgN; rw [if_pos (by omega)]; omega, rfl⟩⟩)

set_option maxRecDepth 100000 in
set_option maxHeartbeats 4000000 in
theorem k_readZ (l : Launch) (D : va_G) (ad : Nat → Nat) (kI kS kL : ClassId) (μ : Mem) (c : Nat) (hc : isO 3 c) (τ : Tn) (hX : TXR μ c τ) (hpb : pB τ) (x : Int32) : MI l D ad kI kS kL yX3_readZ cX3_readZ 2 (some .boolean) 0 0 [.ref (ad c), .int x] μ (fun r μ2 => (∃ τ2, pZ τ x = some τ2 ∧ r = nI 1 ∧ TXR μ2 c τ2 ∧ TF c μ μ2) ∨ (pZ τ x = none ∧ r = nI 0 ∧ μ = μ2)) := by
  refine met_I RX3 rfl (by decide) (lv := [(0, .ref (ad c)), (1, .int x)]) rfl (Nat.le_of_ble_eq_true rfl) ?_
  intro pp ee ss mm aa bb me cd AA hA0 CC hnm QQ hQ
  have e1_ : tS τ = τ 0 1 := rfl
  have e2_ : tP τ = τ 0 0 := rfl
  have hT := hX.1
  have hB := hpb.1
  have hP9 : tP τ ≤ 9 := hB.1
  have hS4 : tS τ ≤ 4 := hB.2.1
  have hc2 : 1 ≤ c ∧ c ≤ 2 := by omega
  obtain ⟨-, hp7_, hq1_, hq2_, hq3_, hq4_, hq5_, -, -⟩ := hpb
  refine y_iload_n CC 1 dX3_readZ_0 rfl rfl ?_
  refine y_bipush CC (nI 122) dX3_readZ_1 (by decide) ?_
  refine z_icmp_eq CC 8 dX3_readZ_3 (by decide) (a := (x).toInt) (b := (122 : Int)) rfl (nI_toInt (by decide)) (fun c_1 => ?_) (fun c_1 => ?_)
  · skip
    refine y_aload_n CC 0 dX3_readZ_8 rfl rfl ?_
    refine y_iconst CC (nI 1) dX3_readZ_9 (by decide) ?_
    refine y_puti CC pl_X3_34 hc rfl (Nat.le_of_ble_eq_true rfl) dX3_readZ_10 ?_
    refine y_iconst CC (nI 1) dX3_readZ_13 (by decide) ?_
    exact y_zret CC hQ dX3_readZ_14 (by decide) (Or.inl ⟨_, if_pos (by omega), rfl, hX.f6 hc2 1, TF.rf.mu _ _ (by omega)⟩)
  · skip
    refine y_iconst CC (nI 0) dX3_readZ_6 (by decide) ?_
    exact y_zret CC hQ dX3_readZ_7 (by decide) (Or.inr ⟨if_neg (by omega), rfl, rfl⟩)

set_option maxRecDepth 100000 in
set_option maxHeartbeats 4000000 in
theorem k_readPlaces (l : Launch) (D : va_G) (ad : Nat → Nat) (kI kS kL : ClassId) (μ : Mem) (c : Nat) (hc : isO 3 c) (τ : Tn) (hX : TXR μ c τ) (hpb : pB τ) (x : Int32) : MI l D ad kI kS kL yX3_readPlaces cX3_readPlaces 3 (some .boolean) 1 20 [.ref (ad c), .int x] μ (fun r μ2 => (∃ τ2, pP τ x = some τ2 ∧ r = nI 1 ∧ TXR μ2 c τ2 ∧ TF c μ μ2) ∨ (pP τ x = none ∧ r = nI 0 ∧ μ = μ2)) := by
  refine met_I RX3 rfl (by decide) (lv := [(0, .ref (ad c)), (1, .int x)]) rfl (Nat.le_of_ble_eq_true rfl) ?_
  intro pp ee ss mm aa bb me cd AA hA0 CC hnm QQ hQ
  have e1_ : tS τ = τ 0 1 := rfl
  have e2_ : tP τ = τ 0 0 := rfl
  have hT := hX.1
  have hB := hpb.1
  have hP9 : tP τ ≤ 9 := hB.1
  have hS4 : tS τ ≤ 4 := hB.2.1
  have hc2 : 1 ≤ c ∧ c ≤ 2 := by omega
  obtain ⟨-, hp7_, hq1_, hq2_, hq3_, hq4_, hq5_, -, -⟩ := hpb
  refine y_iload_n CC 1 dX3_readPlaces_0 rfl rfl ?_
  refine y_callSI (st := []) CC cl_X3_69 (k_digit l D ad kI kS kL μ x) rfl rfl (Nat.le_of_ble_eq_true rfl) ⟨by decide, by decide⟩ ⟨Nat.zero_le _, Nat.zero_le _⟩ dX3_readPlaces_1 (fun r_ μ_ w_2 => ?_)
  rcases w_2 with ⟨rfl, ⟨hd_, rfl⟩ | ⟨hd_, rfl⟩⟩
  · skip
    refine y_istore_n CC [(2, .int (nI (dgN x))), (0, .ref (ad c)), (1, .int x)] dX3_readPlaces_4 rfl (by decide) rfl ?_
    refine y_iload_n CC 0 dX3_readPlaces_5 rfl rfl ?_
    refine y_iconst CC (nI 3) dX3_readPlaces_6 (by decide) ?_
    refine z_icmp_ge CC 12 dX3_readPlaces_7 (by decide) (a := ((dgN x : Nat) : Int)) (b := (3 : Int)) (nI_toInt (by omega)) (nI_toInt (by decide)) (fun c_3 => ?_) (fun c_3 => ?_)
    · skip
      refine y_aload_n CC 1 dX3_readPlaces_12 rfl rfl ?_
      refine y_iload_n CC 0 dX3_readPlaces_13 rfl rfl ?_
      refine y_puti CC pl_X3_28 hc rfl (Nat.le_of_ble_eq_true rfl) dX3_readPlaces_14 ?_
      refine y_aload_n CC 1 dX3_readPlaces_17 rfl rfl ?_
      refine y_iconst CC (nI 2) dX3_readPlaces_18 (by decide) ?_
      refine y_puti CC pl_X3_34 hc rfl (Nat.le_of_ble_eq_true rfl) dX3_readPlaces_19 ?_
      refine y_iconst CC (nI 1) dX3_readPlaces_22 (by decide) ?_
      exact y_zret CC hQ dX3_readPlaces_23 (by decide) (Or.inl ⟨_, if_pos (by omega), rfl, (hX.f4 hc2 _).f6 hc2 2, (TF.rf.mu _ _ (by omega)).mu _ _ (by omega)⟩)
    · skip
      refine y_iconst CC (nI 0) dX3_readPlaces_10 (by decide) ?_
      exact y_zret CC hQ dX3_readPlaces_11 (by decide) (Or.inr ⟨if_neg (by omega), rfl, rfl⟩)
  · skip
    refine y_istore_n CC [(2, .int (-9)), (0, .ref (ad c)), (1, .int x)] dX3_readPlaces_4 rfl (by decide) rfl ?_
    refine y_iload_n CC 0 dX3_readPlaces_5 rfl rfl ?_
    refine y_iconst CC (nI 3) dX3_readPlaces_6 (by decide) ?_
    refine z_icmp_geF CC 12 dX3_readPlaces_7 (by decide) (a := (-9 : Int)) (b := (3 : Int)) (by decide) (nI_toInt (by decide)) (by decide) ?_
    refine y_iconst CC (nI 0) dX3_readPlaces_10 (by decide) ?_
    exact y_zret CC hQ dX3_readPlaces_11 (by decide) (Or.inr ⟨if_neg (by omega), rfl, rfl⟩)

set_option maxRecDepth 100000 in
set_option maxHeartbeats 4000000 in
theorem k_readBreak (l : Launch) (D : va_G) (ad : Nat → Nat) (kI kS kL : ClassId) (μ : Mem) (c : Nat) (hc : isO 3 c) (τ : Tn) (hX : TXR μ c τ) (hpb : pB τ) (x : Int32) : MI l D ad kI kS kL yX3_readBreak cX3_readBreak 2 (some .boolean) 0 0 [.ref (ad c), .int x] μ (fun r μ2 => (∃ τ2, pK1 τ x = some τ2 ∧ r = nI 1 ∧ TXR μ2 c τ2 ∧ TF c μ μ2) ∨ (pK1 τ x = none ∧ r = nI 0 ∧ μ = μ2)) := by
  refine met_I RX3 rfl (by decide) (lv := [(0, .ref (ad c)), (1, .int x)]) rfl (Nat.le_of_ble_eq_true rfl) ?_
  intro pp ee ss mm aa bb me cd AA hA0 CC hnm QQ hQ
  have e1_ : tS τ = τ 0 1 := rfl
  have e2_ : tP τ = τ 0 0 := rfl
  have hT := hX.1
  have hB := hpb.1
  have hP9 : tP τ ≤ 9 := hB.1
  have hS4 : tS τ ≤ 4 := hB.2.1
  have hc2 : 1 ≤ c ∧ c ≤ 2 := by omega
  obtain ⟨-, hp7_, hq1_, hq2_, hq3_, hq4_, hq5_, -, -⟩ := hpb
  refine y_iload_n CC 1 dX3_readBreak_0 rfl rfl ?_
  refine y_bipush CC (nI 59) dX3_readBreak_1 (by decide) ?_
  refine z_icmp_ne CC 35 dX3_readBreak_3 (by decide) (a := (x).toInt) (b := (59 : Int)) rfl (nI_toInt (by decide)) (fun c_1 => ?_) (fun c_1 => ?_)
  · skip
    refine y_iload_n CC 1 dX3_readBreak_35 rfl rfl ?_
    refine y_bipush CC (nI 47) dX3_readBreak_36 (by decide) ?_
    refine z_icmp_ne CC 56 dX3_readBreak_38 (by decide) (a := (x).toInt) (b := (47 : Int)) rfl (nI_toInt (by decide)) (fun c_2 => ?_) (fun c_2 => ?_)
    · skip
      refine y_iconst CC (nI 0) dX3_readBreak_56 (by decide) ?_
      exact y_zret CC hQ dX3_readBreak_57 (by decide) (Or.inr ⟨(if_neg (by omega)).trans (if_neg (by omega)), rfl, rfl⟩)
    · skip
      refine y_aload_n CC 0 dX3_readBreak_41 rfl rfl ?_
      refine y_geti CC gl_X3_24 hc rfl (v := nI (tS τ)) hT.2.1 dX3_readBreak_42 ?_
      refine z_if_le CC 56 dX3_readBreak_45 (by decide) (a := ((tS τ : Nat) : Int)) (nI_toInt (by omega)) (fun c_3 => ?_) (fun c_3 => ?_)
      · skip
        refine y_iconst CC (nI 0) dX3_readBreak_56 (by decide) ?_
        exact y_zret CC hQ dX3_readBreak_57 (by decide) (Or.inr ⟨(if_neg (by omega)).trans (if_neg (by omega)), rfl, rfl⟩)
      · skip
        refine y_aload_n CC 0 dX3_readBreak_48 rfl rfl ?_
        refine y_bipush CC (nI 6) dX3_readBreak_49 (by decide) ?_
        refine y_puti CC pl_X3_34 hc rfl (Nat.le_of_ble_eq_true rfl) dX3_readBreak_51 ?_
        refine y_iconst CC (nI 1) dX3_readBreak_54 (by decide) ?_
        exact y_zret CC hQ dX3_readBreak_55 (by decide) (Or.inl ⟨_, (if_neg (by omega)).trans (if_pos (by omega)), rfl, hX.f6 hc2 6, (by first | exact (TF.rf.mu _ _ (by omega)).mu _ _ (by omega) | exact TF.rf.mu _ _ (by omega))⟩)
  · skip
    refine y_aload_n CC 0 dX3_readBreak_6 rfl rfl ?_
    refine y_geti CC gl_X3_24 hc rfl (v := nI (tS τ)) hT.2.1 dX3_readBreak_7 ?_
    refine y_aload_n CC 0 dX3_readBreak_10 rfl rfl ?_
    refine y_getr CC gl_X3_11 hc (d := (c + 4)) rfl dX3_readBreak_11 ?_
    refine y_alenL CC (by omega) dX3_readBreak_14 ?_
    refine z_icmp_ge CC 35 dX3_readBreak_15 (by decide) (a := ((tS τ : Nat) : Int)) (b := (4 : Int)) (nI_toInt (by omega)) (nI_toInt (by decide)) (fun c_4 => ?_) (fun c_4 => ?_)
    · skip
      refine y_iload_n CC 1 dX3_readBreak_35 rfl rfl ?_
      refine y_bipush CC (nI 47) dX3_readBreak_36 (by decide) ?_
      refine z_icmp_ne CC 56 dX3_readBreak_38 (by decide) (a := (x).toInt) (b := (47 : Int)) rfl (nI_toInt (by decide)) (fun c_5 => ?_) (fun c_5 => ?_)
      · skip
        refine y_iconst CC (nI 0) dX3_readBreak_56 (by decide) ?_
        exact y_zret CC hQ dX3_readBreak_57 (by decide) (Or.inr ⟨(if_neg (by omega)).trans (if_neg (by omega)), rfl, rfl⟩)
      · skip
        refine y_aload_n CC 0 dX3_readBreak_41 rfl rfl ?_
        refine y_geti CC gl_X3_24 hc rfl (v := nI (tS τ)) hT.2.1 dX3_readBreak_42 ?_
        refine z_if_le CC 56 dX3_readBreak_45 (by decide) (a := ((tS τ : Nat) : Int)) (nI_toInt (by omega)) (fun c_6 => ?_) (fun c_6 => ?_)
        · skip
          refine y_iconst CC (nI 0) dX3_readBreak_56 (by decide) ?_
          exact y_zret CC hQ dX3_readBreak_57 (by decide) (Or.inr ⟨(if_neg (by omega)).trans (if_neg (by omega)), rfl, rfl⟩)
        · skip
          refine y_aload_n CC 0 dX3_readBreak_48 rfl rfl ?_
          refine y_bipush CC (nI 6) dX3_readBreak_49 (by decide) ?_
          refine y_puti CC pl_X3_34 hc rfl (Nat.le_of_ble_eq_true rfl) dX3_readBreak_51 ?_
          refine y_iconst CC (nI 1) dX3_readBreak_54 (by decide) ?_
          exact y_zret CC hQ dX3_readBreak_55 (by decide) (Or.inl ⟨_, (if_neg (by omega)).trans (if_pos (by omega)), rfl, hX.f6 hc2 6, (by first | exact (TF.rf.mu _ _ (by omega)).mu _ _ (by omega) | exact TF.rf.mu _ _ (by omega))⟩)
    · skip
      refine y_aload_n CC 0 dX3_readBreak_18 rfl rfl ?_
      refine y_dup CC dX3_readBreak_19 rfl ?_
      refine y_geti CC gl_X3_24 hc rfl (v := nI (tS τ)) hT.2.1 dX3_readBreak_20 ?_
      refine y_iconst CC (nI 1) dX3_readBreak_23 (by decide) ?_
      refine y_iadd CC dX3_readBreak_24 (v := nI ((tS τ) + 1)) (nI_add _ _) ?_
      refine y_puti CC pl_X3_24 hc rfl (Nat.le_of_ble_eq_true rfl) dX3_readBreak_25 ?_
      refine y_aload_n CC 0 dX3_readBreak_28 rfl rfl ?_
      refine y_iconst CC (nI 3) dX3_readBreak_29 (by decide) ?_
      refine y_puti CC pl_X3_34 hc rfl (Nat.le_of_ble_eq_true rfl) dX3_readBreak_30 ?_
      refine y_iconst CC (nI 1) dX3_readBreak_33 (by decide) ?_
      exact y_zret CC hQ dX3_readBreak_34 (by decide) (Or.inl ⟨_, if_pos (by omega), rfl, (hX.f3 hc2 _).f6 hc2 3, (by first | exact (TF.rf.mu _ _ (by omega)).mu _ _ (by omega) | exact TF.rf.mu _ _ (by omega))⟩)

set_option maxRecDepth 100000 in
set_option maxHeartbeats 4000000 in
theorem k_readKind (l : Launch) (D : va_G) (ad : Nat → Nat) (kI kS kL : ClassId) (μ : Mem) (c : Nat) (hc : isO 3 c) (τ : Tn) (hX : TXR μ c τ) (hpb : pB τ) (hpt : τ 0 3 = 3) (x : Int32) : MI l D ad kI kS kL yX3_readKind cX3_readKind 4 (some .boolean) 2 42 [.ref (ad c), .int x] μ (fun r μ2 => (∃ τ2, pK τ x = some τ2 ∧ r = nI 1 ∧ TXR μ2 c τ2 ∧ TF c μ μ2) ∨ (pK τ x = none ∧ r = nI 0 ∧ μ = μ2)) := by
  refine met_I RX3 rfl (by decide) (lv := [(0, .ref (ad c)), (1, .int x)]) rfl (Nat.le_of_ble_eq_true rfl) ?_
  intro pp ee ss mm aa bb me cd AA hA0 CC hnm QQ hQ
  have e1_ : tS τ = τ 0 1 := rfl
  have e2_ : tP τ = τ 0 0 := rfl
  have hT := hX.1
  have hB := hpb.1
  have hP9 : tP τ ≤ 9 := hB.1
  have hS4 : tS τ ≤ 4 := hB.2.1
  have hc2 : 1 ≤ c ∧ c ≤ 2 := by omega
  obtain ⟨-, hp7_, hq1_, hq2_, hq3_, hq4_, hq5_, -, -⟩ := hpb
  refine y_iload_n CC 1 dX3_readKind_0 rfl rfl ?_
  refine y_bipush CC (nI 115) dX3_readKind_1 (by decide) ?_
  refine z_icmp_ne CC 10 dX3_readKind_3 (by decide) (a := (x).toInt) (b := (115 : Int)) rfl (nI_toInt (by decide)) (fun c_1 => ?_) (fun c_1 => ?_)
  · skip
    refine y_iload_n CC 1 dX3_readKind_10 rfl rfl ?_
    refine y_bipush CC (nI 109) dX3_readKind_11 (by decide) ?_
    refine z_icmp_ne CC 20 dX3_readKind_13 (by decide) (a := (x).toInt) (b := (109 : Int)) rfl (nI_toInt (by decide)) (fun c_2 => ?_) (fun c_2 => ?_)
    · skip
      refine y_iload_n CC 1 dX3_readKind_20 rfl rfl ?_
      refine y_bipush CC (nI 114) dX3_readKind_21 (by decide) ?_
      refine z_icmp_ne CC 30 dX3_readKind_23 (by decide) (a := (x).toInt) (b := (114 : Int)) rfl (nI_toInt (by decide)) (fun c_3 => ?_) (fun c_3 => ?_)
      · skip
        refine y_bipush CC ((-9)) dX3_readKind_30 (by decide) ?_
        refine y_istore_n CC [(2, .int (-9)), (0, .ref (ad c)), (1, .int x)] dX3_readKind_32 rfl (by decide) rfl ?_
        refine y_aload_n CC 1 dX3_readKind_33 rfl rfl ?_
        refine y_aload_n CC 1 dX3_readKind_34 rfl rfl ?_
        refine y_geti CC gl_X3_24 hc rfl (v := nI (tS τ)) hT.2.1 dX3_readKind_35 ?_
        refine y_iconst CC (nI 1) dX3_readKind_38 (by decide) ?_
        refine y_isub CC dX3_readKind_39 (v := nI ((tS τ) - 1)) (pk_sub (by omega)) ?_
        refine y_callVN (ci := 3) (st := []) CC cl_X3_72 (k_sleeperOrNull l D ad kI kS kL μ c hc τ hT hB (nI ((tS τ) - 1))) hc rfl rfl rfl (Nat.le_of_ble_eq_true rfl) ⟨by decide, by decide⟩ ⟨Nat.zero_le _, Nat.zero_le _⟩ dX3_readKind_40 (fun r_ μ_ w_5 => ?_)
        rcases w_5 with ⟨rfl, ⟨b_4, rfl⟩ | ⟨b_4, rfl⟩⟩
        · skip
          have hb_b_4 := inB_iff.mp b_4
          rw [nI_toInt (by omega)] at hb_b_4
          refine y_eq (st2 := [.ref (ad (4 * c + 18 + ((tS τ) - 1)))]) (by rw [ix_nI (by omega)]; rfl) ?_
          refine y_astore_n CC [(3, .ref (ad (4 * c + 18 + ((tS τ) - 1)))), (2, .int (-9)), (0, .ref (ad c)), (1, .int x)] dX3_readKind_43 rfl (by decide) rfl ?_
          refine y_iload_n CC 1 dX3_readKind_44 rfl rfl ?_
          refine y_bipush CC ((-9)) dX3_readKind_45 (by decide) ?_
          refine z_icmp_eqT CC 54 dX3_readKind_47 (by decide) (a := (-9 : Int)) (b := (-9 : Int)) (by decide) (by decide) (by decide) ?_
          refine y_iconst CC (nI 0) dX3_readKind_54 (by decide) ?_
          exact y_zret CC hQ dX3_readKind_55 (by decide) (Or.inr ⟨if_neg (by omega), rfl, rfl⟩)
        · skip
          exfalso; rw [inB_nI (by omega) (by omega)] at b_4; cases b_4
      · skip
        refine y_iconst CC (nI 2) dX3_readKind_26 (by decide) ?_
        refine y_goto CC 32 dX3_readKind_27 (by decide) ?_
        refine y_istore_n CC [(2, .int (nI 2)), (0, .ref (ad c)), (1, .int x)] dX3_readKind_32 rfl (by decide) rfl ?_
        refine y_lvE (lv2 := [(2, .int (nI (kdN x))), (0, .ref (ad c)), (1, .int x)]) (by rw [show kdN x = 2 from by unfold kdN; first | rw [if_pos (by omega)] | rw [if_neg (by omega), if_pos (by omega)] | rw [if_neg (by omega), if_neg (by omega)]]) ?_
        have hkd_ := kdN_le x
        refine y_aload_n CC 1 dX3_readKind_33 rfl rfl ?_
        refine y_aload_n CC 1 dX3_readKind_34 rfl rfl ?_
        refine y_geti CC gl_X3_24 hc rfl (v := nI (tS τ)) hT.2.1 dX3_readKind_35 ?_
        refine y_iconst CC (nI 1) dX3_readKind_38 (by decide) ?_
        refine y_isub CC dX3_readKind_39 (v := nI ((tS τ) - 1)) (pk_sub (by omega)) ?_
        refine y_callVN (ci := 3) (st := []) CC cl_X3_72 (k_sleeperOrNull l D ad kI kS kL μ c hc τ hT hB (nI ((tS τ) - 1))) hc rfl rfl rfl (Nat.le_of_ble_eq_true rfl) ⟨by decide, by decide⟩ ⟨Nat.zero_le _, Nat.zero_le _⟩ dX3_readKind_40 (fun r_ μ_ w_7 => ?_)
        rcases w_7 with ⟨rfl, ⟨b_6, rfl⟩ | ⟨b_6, rfl⟩⟩
        · skip
          have hb_b_6 := inB_iff.mp b_6
          rw [nI_toInt (by omega)] at hb_b_6
          refine y_eq (st2 := [.ref (ad (4 * c + 18 + ((tS τ) - 1)))]) (by rw [ix_nI (by omega)]; rfl) ?_
          refine y_astore_n CC [(3, .ref (ad (4 * c + 18 + ((tS τ) - 1)))), (2, .int (nI (kdN x))), (0, .ref (ad c)), (1, .int x)] dX3_readKind_43 rfl (by decide) rfl ?_
          refine y_iload_n CC 1 dX3_readKind_44 rfl rfl ?_
          refine y_bipush CC ((-9)) dX3_readKind_45 (by decide) ?_
          refine z_icmp_eqF CC 54 dX3_readKind_47 (by decide) (a := ((kdN x : Nat) : Int)) (b := (-9 : Int)) (nI_toInt (by omega)) (by decide) (by omega) ?_
          refine y_aload_n CC 0 dX3_readKind_50 rfl rfl ?_
          refine y_ifnonnull CC 56 dX3_readKind_51 (by decide) ?_
          refine y_aload_n CC 0 dX3_readKind_56 rfl rfl ?_
          refine y_iload_n CC 1 dX3_readKind_57 rfl rfl ?_
          refine y_puti CC pl_X3_76 (by omega) rfl (Nat.le_of_ble_eq_true rfl) dX3_readKind_58 ?_
          refine y_aload_n CC 2 dX3_readKind_61 rfl rfl ?_
          refine y_iconst CC (nI 4) dX3_readKind_62 (by decide) ?_
          refine y_puti CC pl_X3_34 hc rfl (Nat.le_of_ble_eq_true rfl) dX3_readKind_63 ?_
          refine y_iconst CC (nI 1) dX3_readKind_66 (by decide) ?_
          exact y_zret CC hQ dX3_readKind_67 (by decide) (Or.inl ⟨_, if_pos (by omega), rfl, (hX.sl hc2 (a := tS τ - 1) (by omega) (k := 0) (by decide) _).f6 hc2 4, (TF.rf.mu _ _ (by omega)).mu _ _ (by omega)⟩)
        · skip
          exfalso; rw [inB_nI (by omega) (by omega)] at b_6; cases b_6
    · skip
      refine y_iconst CC (nI 1) dX3_readKind_16 (by decide) ?_
      refine y_goto CC 32 dX3_readKind_17 (by decide) ?_
      refine y_istore_n CC [(2, .int (nI 1)), (0, .ref (ad c)), (1, .int x)] dX3_readKind_32 rfl (by decide) rfl ?_
      refine y_lvE (lv2 := [(2, .int (nI (kdN x))), (0, .ref (ad c)), (1, .int x)]) (by rw [show kdN x = 1 from by unfold kdN; first | rw [if_pos (by omega)] | rw [if_neg (by omega), if_pos (by omega)] | rw [if_neg (by omega), if_neg (by omega)]]) ?_
      have hkd_ := kdN_le x
      refine y_aload_n CC 1 dX3_readKind_33 rfl rfl ?_
      refine y_aload_n CC 1 dX3_readKind_34 rfl rfl ?_
      refine y_geti CC gl_X3_24 hc rfl (v := nI (tS τ)) hT.2.1 dX3_readKind_35 ?_
      refine y_iconst CC (nI 1) dX3_readKind_38 (by decide) ?_
      refine y_isub CC dX3_readKind_39 (v := nI ((tS τ) - 1)) (pk_sub (by omega)) ?_
      refine y_callVN (ci := 3) (st := []) CC cl_X3_72 (k_sleeperOrNull l D ad kI kS kL μ c hc τ hT hB (nI ((tS τ) - 1))) hc rfl rfl rfl (Nat.le_of_ble_eq_true rfl) ⟨by decide, by decide⟩ ⟨Nat.zero_le _, Nat.zero_le _⟩ dX3_readKind_40 (fun r_ μ_ w_9 => ?_)
      rcases w_9 with ⟨rfl, ⟨b_8, rfl⟩ | ⟨b_8, rfl⟩⟩
      · skip
        have hb_b_8 := inB_iff.mp b_8
        rw [nI_toInt (by omega)] at hb_b_8
        refine y_eq (st2 := [.ref (ad (4 * c + 18 + ((tS τ) - 1)))]) (by rw [ix_nI (by omega)]; rfl) ?_
        refine y_astore_n CC [(3, .ref (ad (4 * c + 18 + ((tS τ) - 1)))), (2, .int (nI (kdN x))), (0, .ref (ad c)), (1, .int x)] dX3_readKind_43 rfl (by decide) rfl ?_
        refine y_iload_n CC 1 dX3_readKind_44 rfl rfl ?_
        refine y_bipush CC ((-9)) dX3_readKind_45 (by decide) ?_
        refine z_icmp_eqF CC 54 dX3_readKind_47 (by decide) (a := ((kdN x : Nat) : Int)) (b := (-9 : Int)) (nI_toInt (by omega)) (by decide) (by omega) ?_
        refine y_aload_n CC 0 dX3_readKind_50 rfl rfl ?_
        refine y_ifnonnull CC 56 dX3_readKind_51 (by decide) ?_
        refine y_aload_n CC 0 dX3_readKind_56 rfl rfl ?_
        refine y_iload_n CC 1 dX3_readKind_57 rfl rfl ?_
        refine y_puti CC pl_X3_76 (by omega) rfl (Nat.le_of_ble_eq_true rfl) dX3_readKind_58 ?_
        refine y_aload_n CC 2 dX3_readKind_61 rfl rfl ?_
        refine y_iconst CC (nI 4) dX3_readKind_62 (by decide) ?_
        refine y_puti CC pl_X3_34 hc rfl (Nat.le_of_ble_eq_true rfl) dX3_readKind_63 ?_
        refine y_iconst CC (nI 1) dX3_readKind_66 (by decide) ?_
        exact y_zret CC hQ dX3_readKind_67 (by decide) (Or.inl ⟨_, if_pos (by omega), rfl, (hX.sl hc2 (a := tS τ - 1) (by omega) (k := 0) (by decide) _).f6 hc2 4, (TF.rf.mu _ _ (by omega)).mu _ _ (by omega)⟩)
      · skip
        exfalso; rw [inB_nI (by omega) (by omega)] at b_8; cases b_8
  · skip
    refine y_iconst CC (nI 0) dX3_readKind_6 (by decide) ?_
    refine y_goto CC 32 dX3_readKind_7 (by decide) ?_
    refine y_istore_n CC [(2, .int (nI 0)), (0, .ref (ad c)), (1, .int x)] dX3_readKind_32 rfl (by decide) rfl ?_
    refine y_lvE (lv2 := [(2, .int (nI (kdN x))), (0, .ref (ad c)), (1, .int x)]) (by rw [show kdN x = 0 from by unfold kdN; first | rw [if_pos (by omega)] | rw [if_neg (by omega), if_pos (by omega)] | rw [if_neg (by omega), if_neg (by omega)]]) ?_
    have hkd_ := kdN_le x
    refine y_aload_n CC 1 dX3_readKind_33 rfl rfl ?_
    refine y_aload_n CC 1 dX3_readKind_34 rfl rfl ?_
    refine y_geti CC gl_X3_24 hc rfl (v := nI (tS τ)) hT.2.1 dX3_readKind_35 ?_
    refine y_iconst CC (nI 1) dX3_readKind_38 (by decide) ?_
    refine y_isub CC dX3_readKind_39 (v := nI ((tS τ) - 1)) (pk_sub (by omega)) ?_
    refine y_callVN (ci := 3) (st := []) CC cl_X3_72 (k_sleeperOrNull l D ad kI kS kL μ c hc τ hT hB (nI ((tS τ) - 1))) hc rfl rfl rfl (Nat.le_of_ble_eq_true rfl) ⟨by decide, by decide⟩ ⟨Nat.zero_le _, Nat.zero_le _⟩ dX3_readKind_40 (fun r_ μ_ w_11 => ?_)
    rcases w_11 with ⟨rfl, ⟨b_10, rfl⟩ | ⟨b_10, rfl⟩⟩
    · skip
      have hb_b_10 := inB_iff.mp b_10
      rw [nI_toInt (by omega)] at hb_b_10
      refine y_eq (st2 := [.ref (ad (4 * c + 18 + ((tS τ) - 1)))]) (by rw [ix_nI (by omega)]; rfl) ?_
      refine y_astore_n CC [(3, .ref (ad (4 * c + 18 + ((tS τ) - 1)))), (2, .int (nI (kdN x))), (0, .ref (ad c)), (1, .int x)] dX3_readKind_43 rfl (by decide) rfl ?_
      refine y_iload_n CC 1 dX3_readKind_44 rfl rfl ?_
      refine y_bipush CC ((-9)) dX3_readKind_45 (by decide) ?_
      refine z_icmp_eqF CC 54 dX3_readKind_47 (by decide) (a := ((kdN x : Nat) : Int)) (b := (-9 : Int)) (nI_toInt (by omega)) (by decide) (by omega) ?_
      refine y_aload_n CC 0 dX3_readKind_50 rfl rfl ?_
      refine y_ifnonnull CC 56 dX3_readKind_51 (by decide) ?_
      refine y_aload_n CC 0 dX3_readKind_56 rfl rfl ?_
      refine y_iload_n CC 1 dX3_readKind_57 rfl rfl ?_
      refine y_puti CC pl_X3_76 (by omega) rfl (Nat.le_of_ble_eq_true rfl) dX3_readKind_58 ?_
      refine y_aload_n CC 2 dX3_readKind_61 rfl rfl ?_
      refine y_iconst CC (nI 4) dX3_readKind_62 (by decide) ?_
      refine y_puti CC pl_X3_34 hc rfl (Nat.le_of_ble_eq_true rfl) dX3_readKind_63 ?_
      refine y_iconst CC (nI 1) dX3_readKind_66 (by decide) ?_
      exact y_zret CC hQ dX3_readKind_67 (by decide) (Or.inl ⟨_, if_pos (by omega), rfl, (hX.sl hc2 (a := tS τ - 1) (by omega) (k := 0) (by decide) _).f6 hc2 4, (TF.rf.mu _ _ (by omega)).mu _ _ (by omega)⟩)
    · skip
      exfalso; rw [inB_nI (by omega) (by omega)] at b_10; cases b_10

set_option maxRecDepth 100000 in
set_option maxHeartbeats 4000000 in
theorem k_readStart (l : Launch) (D : va_G) (ad : Nat → Nat) (kI kS kL : ClassId) (μ : Mem) (c : Nat) (hc : isO 3 c) (τ : Tn) (hX : TXR μ c τ) (hpb : pB τ) (hpt : τ 0 3 = 4) (x : Int32) : MI l D ad kI kS kL yX3_readStart cX3_readStart 4 (some .boolean) 2 42 [.ref (ad c), .int x] μ (fun r μ2 => (∃ τ2, pS τ x = some τ2 ∧ r = nI 1 ∧ TXR μ2 c τ2 ∧ TF c μ μ2) ∨ (pS τ x = none ∧ r = nI 0 ∧ μ = μ2)) := by
  refine met_I RX3 rfl (by decide) (lv := [(0, .ref (ad c)), (1, .int x)]) rfl (Nat.le_of_ble_eq_true rfl) ?_
  intro pp ee ss mm aa bb me cd AA hA0 CC hnm QQ hQ
  have e1_ : tS τ = τ 0 1 := rfl
  have e2_ : tP τ = τ 0 0 := rfl
  have hT := hX.1
  have hB := hpb.1
  have hP9 : tP τ ≤ 9 := hB.1
  have hS4 : tS τ ≤ 4 := hB.2.1
  have hc2 : 1 ≤ c ∧ c ≤ 2 := by omega
  obtain ⟨-, hp7_, hq1_, hq2_, hq3_, hq4_, hq5_, -, -⟩ := hpb
  refine y_iload_n CC 1 dX3_readStart_0 rfl rfl ?_
  refine y_callSI (st := []) CC cl_X3_69 (k_digit l D ad kI kS kL μ x) rfl rfl (Nat.le_of_ble_eq_true rfl) ⟨by decide, by decide⟩ ⟨Nat.zero_le _, Nat.zero_le _⟩ dX3_readStart_1 (fun r_ μ_ w_2 => ?_)
  rcases w_2 with ⟨rfl, ⟨hd_, rfl⟩ | ⟨hd_, rfl⟩⟩
  · skip
    refine y_istore_n CC [(2, .int (nI (dgN x))), (0, .ref (ad c)), (1, .int x)] dX3_readStart_4 rfl (by decide) rfl ?_
    refine y_aload_n CC 1 dX3_readStart_5 rfl rfl ?_
    refine y_aload_n CC 1 dX3_readStart_6 rfl rfl ?_
    refine y_geti CC gl_X3_24 hc rfl (v := nI (tS τ)) hT.2.1 dX3_readStart_7 ?_
    refine y_iconst CC (nI 1) dX3_readStart_10 (by decide) ?_
    refine y_isub CC dX3_readStart_11 (v := nI ((tS τ) - 1)) (pk_sub (by omega)) ?_
    refine y_callVN (ci := 3) (st := []) CC cl_X3_72 (k_sleeperOrNull l D ad kI kS kL μ c hc τ hT hB (nI ((tS τ) - 1))) hc rfl rfl rfl (Nat.le_of_ble_eq_true rfl) ⟨by decide, by decide⟩ ⟨Nat.zero_le _, Nat.zero_le _⟩ dX3_readStart_12 (fun r_ μ_ w_4 => ?_)
    rcases w_4 with ⟨rfl, ⟨b_3, rfl⟩ | ⟨b_3, rfl⟩⟩
    · skip
      have hb_b_3 := inB_iff.mp b_3
      rw [nI_toInt (by omega)] at hb_b_3
      refine y_eq (st2 := [.ref (ad (4 * c + 18 + ((tS τ) - 1)))]) (by rw [ix_nI (by omega)]; rfl) ?_
      refine y_astore_n CC [(3, .ref (ad (4 * c + 18 + ((tS τ) - 1)))), (2, .int (nI (dgN x))), (0, .ref (ad c)), (1, .int x)] dX3_readStart_15 rfl (by decide) rfl ?_
      refine y_aload_n CC 2 dX3_readStart_16 rfl rfl ?_
      refine y_iload_n CC 1 dX3_readStart_17 rfl rfl ?_
      refine y_callVI (ci := 3) (st := []) CC cl_X3_79 (k_hasPlace l D ad kI kS kL μ c hc τ hT hB (nI (dgN x))) hc rfl rfl rfl (Nat.le_of_ble_eq_true rfl) ⟨by decide, by decide⟩ ⟨Nat.zero_le _, Nat.zero_le _⟩ dX3_readStart_18 (fun r_ μ_ w_6 => ?_)
      rcases w_6 with ⟨rfl, ⟨b_5, rfl⟩ | ⟨b_5, rfl⟩⟩
      · skip
        have hb_b_5 := inB_iff.mp b_5
        rw [nI_toInt (by omega)] at hb_b_5
        refine z_if_eqF CC 28 dX3_readStart_21 (by decide) (a := (1 : Int)) (nI_toInt (by decide)) (by decide) ?_
        refine y_aload_n CC 0 dX3_readStart_24 rfl rfl ?_
        refine y_ifnonnull CC 30 dX3_readStart_25 (by decide) ?_
        refine y_aload_n CC 0 dX3_readStart_30 rfl rfl ?_
        refine y_iload_n CC 1 dX3_readStart_31 rfl rfl ?_
        refine y_puti CC pl_X3_82 (by omega) rfl (Nat.le_of_ble_eq_true rfl) dX3_readStart_32 ?_
        refine y_aload_n CC 2 dX3_readStart_35 rfl rfl ?_
        refine y_iconst CC (nI 5) dX3_readStart_36 (by decide) ?_
        refine y_puti CC pl_X3_34 hc rfl (Nat.le_of_ble_eq_true rfl) dX3_readStart_37 ?_
        refine y_iconst CC (nI 1) dX3_readStart_40 (by decide) ?_
        exact y_zret CC hQ dX3_readStart_41 (by decide) (Or.inl ⟨_, if_pos (by omega), rfl, (hX.sl hc2 (a := tS τ - 1) (by omega) (k := 1) (by decide) _).f6 hc2 5, (TF.rf.mu _ _ (by omega)).mu _ _ (by omega)⟩)
      · skip
        have hb_b_5 := inB_n b_5
        rw [nI_toInt (by omega)] at hb_b_5
        refine z_if_eqT CC 28 dX3_readStart_21 (by decide) (a := (0 : Int)) (nI_toInt (by decide)) (by decide) ?_
        refine y_iconst CC (nI 0) dX3_readStart_28 (by decide) ?_
        exact y_zret CC hQ dX3_readStart_29 (by decide) (Or.inr ⟨if_neg (by omega), rfl, rfl⟩)
    · skip
      exfalso; rw [inB_nI (by omega) (by omega)] at b_3; cases b_3
  · skip
    refine y_istore_n CC [(2, .int (-9)), (0, .ref (ad c)), (1, .int x)] dX3_readStart_4 rfl (by decide) rfl ?_
    refine y_aload_n CC 1 dX3_readStart_5 rfl rfl ?_
    refine y_aload_n CC 1 dX3_readStart_6 rfl rfl ?_
    refine y_geti CC gl_X3_24 hc rfl (v := nI (tS τ)) hT.2.1 dX3_readStart_7 ?_
    refine y_iconst CC (nI 1) dX3_readStart_10 (by decide) ?_
    refine y_isub CC dX3_readStart_11 (v := nI ((tS τ) - 1)) (pk_sub (by omega)) ?_
    refine y_callVN (ci := 3) (st := []) CC cl_X3_72 (k_sleeperOrNull l D ad kI kS kL μ c hc τ hT hB (nI ((tS τ) - 1))) hc rfl rfl rfl (Nat.le_of_ble_eq_true rfl) ⟨by decide, by decide⟩ ⟨Nat.zero_le _, Nat.zero_le _⟩ dX3_readStart_12 (fun r_ μ_ w_8 => ?_)
    rcases w_8 with ⟨rfl, ⟨b_7, rfl⟩ | ⟨b_7, rfl⟩⟩
    · skip
      have hb_b_7 := inB_iff.mp b_7
      rw [nI_toInt (by omega)] at hb_b_7
      refine y_eq (st2 := [.ref (ad (4 * c + 18 + ((tS τ) - 1)))]) (by rw [ix_nI (by omega)]; rfl) ?_
      refine y_astore_n CC [(3, .ref (ad (4 * c + 18 + ((tS τ) - 1)))), (2, .int (-9)), (0, .ref (ad c)), (1, .int x)] dX3_readStart_15 rfl (by decide) rfl ?_
      refine y_aload_n CC 2 dX3_readStart_16 rfl rfl ?_
      refine y_iload_n CC 1 dX3_readStart_17 rfl rfl ?_
      refine y_callVI (ci := 3) (st := []) CC cl_X3_79 (k_hasPlace l D ad kI kS kL μ c hc τ hT hB (-9)) hc rfl rfl rfl (Nat.le_of_ble_eq_true rfl) ⟨by decide, by decide⟩ ⟨Nat.zero_le _, Nat.zero_le _⟩ dX3_readStart_18 (fun r_ μ_ w_10 => ?_)
      rcases w_10 with ⟨rfl, ⟨b_9, rfl⟩ | ⟨b_9, rfl⟩⟩
      · skip
        have hb_b_9 := inB_iff.mp b_9
        rw [show (-9 : Int32).toInt = -9 by decide] at hb_b_9
        refine z_if_eqF CC 28 dX3_readStart_21 (by decide) (a := (1 : Int)) (nI_toInt (by decide)) (by decide) ?_
        refine y_aload_n CC 0 dX3_readStart_24 rfl rfl ?_
        refine y_ifnonnull CC 30 dX3_readStart_25 (by decide) ?_
        skip
        · exfalso; omega
      · skip
        have hb_b_9 := inB_n b_9
        rw [show (-9 : Int32).toInt = -9 by decide] at hb_b_9
        refine z_if_eqT CC 28 dX3_readStart_21 (by decide) (a := (0 : Int)) (nI_toInt (by decide)) (by decide) ?_
        refine y_iconst CC (nI 0) dX3_readStart_28 (by decide) ?_
        exact y_zret CC hQ dX3_readStart_29 (by decide) (Or.inr ⟨if_neg (by omega), rfl, rfl⟩)
    · skip
      exfalso; rw [inB_nI (by omega) (by omega)] at b_7; cases b_7

set_option maxRecDepth 100000 in
set_option maxHeartbeats 4000000 in
theorem k_readStride (l : Launch) (D : va_G) (ad : Nat → Nat) (kI kS kL : ClassId) (μ : Mem) (c : Nat) (hc : isO 3 c) (τ : Tn) (hX : TXR μ c τ) (hpb : pB τ) (hpt : τ 0 3 = 5) (x : Int32) : MI l D ad kI kS kL yX3_readStride cX3_readStride 4 (some .boolean) 2 42 [.ref (ad c), .int x] μ (fun r μ2 => (∃ τ2, pD τ x = some τ2 ∧ r = nI 1 ∧ TXR μ2 c τ2 ∧ TF c μ μ2) ∨ (pD τ x = none ∧ r = nI 0 ∧ μ = μ2)) := by
  refine met_I RX3 rfl (by decide) (lv := [(0, .ref (ad c)), (1, .int x)]) rfl (Nat.le_of_ble_eq_true rfl) ?_
  intro pp ee ss mm aa bb me cd AA hA0 CC hnm QQ hQ
  have e1_ : tS τ = τ 0 1 := rfl
  have e2_ : tP τ = τ 0 0 := rfl
  have hT := hX.1
  have hB := hpb.1
  have hP9 : tP τ ≤ 9 := hB.1
  have hS4 : tS τ ≤ 4 := hB.2.1
  have hc2 : 1 ≤ c ∧ c ≤ 2 := by omega
  obtain ⟨-, hp7_, hq1_, hq2_, hq3_, hq4_, hq5_, -, -⟩ := hpb
  refine y_iload_n CC 1 dX3_readStride_0 rfl rfl ?_
  refine y_callSI (st := []) CC cl_X3_69 (k_digit l D ad kI kS kL μ x) rfl rfl (Nat.le_of_ble_eq_true rfl) ⟨by decide, by decide⟩ ⟨Nat.zero_le _, Nat.zero_le _⟩ dX3_readStride_1 (fun r_ μ_ w_2 => ?_)
  rcases w_2 with ⟨rfl, ⟨hd_, rfl⟩ | ⟨hd_, rfl⟩⟩
  · skip
    refine y_istore_n CC [(2, .int (nI (dgN x))), (0, .ref (ad c)), (1, .int x)] dX3_readStride_4 rfl (by decide) rfl ?_
    refine y_aload_n CC 1 dX3_readStride_5 rfl rfl ?_
    refine y_aload_n CC 1 dX3_readStride_6 rfl rfl ?_
    refine y_geti CC gl_X3_24 hc rfl (v := nI (tS τ)) hT.2.1 dX3_readStride_7 ?_
    refine y_iconst CC (nI 1) dX3_readStride_10 (by decide) ?_
    refine y_isub CC dX3_readStride_11 (v := nI ((tS τ) - 1)) (pk_sub (by omega)) ?_
    refine y_callVN (ci := 3) (st := []) CC cl_X3_72 (k_sleeperOrNull l D ad kI kS kL μ c hc τ hT hB (nI ((tS τ) - 1))) hc rfl rfl rfl (Nat.le_of_ble_eq_true rfl) ⟨by decide, by decide⟩ ⟨Nat.zero_le _, Nat.zero_le _⟩ dX3_readStride_12 (fun r_ μ_ w_4 => ?_)
    rcases w_4 with ⟨rfl, ⟨b_3, rfl⟩ | ⟨b_3, rfl⟩⟩
    · skip
      have hb_b_3 := inB_iff.mp b_3
      rw [nI_toInt (by omega)] at hb_b_3
      refine y_eq (st2 := [.ref (ad (4 * c + 18 + ((tS τ) - 1)))]) (by rw [ix_nI (by omega)]; rfl) ?_
      refine y_astore_n CC [(3, .ref (ad (4 * c + 18 + ((tS τ) - 1)))), (2, .int (nI (dgN x))), (0, .ref (ad c)), (1, .int x)] dX3_readStride_15 rfl (by decide) rfl ?_
      refine y_iload_n CC 1 dX3_readStride_16 rfl rfl ?_
      refine z_if_lt CC 29 dX3_readStride_17 (by decide) (a := ((dgN x : Nat) : Int)) (nI_toInt (by omega)) (fun c_5 => ?_) (fun c_5 => ?_)
      · skip
        refine y_iconst CC (nI 0) dX3_readStride_29 (by decide) ?_
        exact y_zret CC hQ dX3_readStride_30 (by decide) (Or.inr ⟨if_neg (by omega), rfl, rfl⟩)
      · skip
        refine y_iload_n CC 1 dX3_readStride_20 rfl rfl ?_
        refine y_iconst CC (nI 3) dX3_readStride_21 (by decide) ?_
        refine z_icmp_gt CC 29 dX3_readStride_22 (by decide) (a := ((dgN x : Nat) : Int)) (b := (3 : Int)) (nI_toInt (by omega)) (nI_toInt (by decide)) (fun c_6 => ?_) (fun c_6 => ?_)
        · skip
          refine y_iconst CC (nI 0) dX3_readStride_29 (by decide) ?_
          exact y_zret CC hQ dX3_readStride_30 (by decide) (Or.inr ⟨if_neg (by omega), rfl, rfl⟩)
        · skip
          refine y_aload_n CC 0 dX3_readStride_25 rfl rfl ?_
          refine y_ifnonnull CC 31 dX3_readStride_26 (by decide) ?_
          refine y_aload_n CC 0 dX3_readStride_31 rfl rfl ?_
          refine y_iload_n CC 1 dX3_readStride_32 rfl rfl ?_
          refine y_puti CC pl_X3_85 (by omega) rfl (Nat.le_of_ble_eq_true rfl) dX3_readStride_33 ?_
          refine y_aload_n CC 2 dX3_readStride_36 rfl rfl ?_
          refine y_iconst CC (nI 2) dX3_readStride_37 (by decide) ?_
          refine y_puti CC pl_X3_34 hc rfl (Nat.le_of_ble_eq_true rfl) dX3_readStride_38 ?_
          refine y_iconst CC (nI 1) dX3_readStride_41 (by decide) ?_
          exact y_zret CC hQ dX3_readStride_42 (by decide) (Or.inl ⟨_, if_pos (by omega), rfl, (hX.sl hc2 (a := tS τ - 1) (by omega) (k := 2) (by decide) _).f6 hc2 2, (TF.rf.mu _ _ (by omega)).mu _ _ (by omega)⟩)
    · skip
      exfalso; rw [inB_nI (by omega) (by omega)] at b_3; cases b_3
  · skip
    refine y_istore_n CC [(2, .int (-9)), (0, .ref (ad c)), (1, .int x)] dX3_readStride_4 rfl (by decide) rfl ?_
    refine y_aload_n CC 1 dX3_readStride_5 rfl rfl ?_
    refine y_aload_n CC 1 dX3_readStride_6 rfl rfl ?_
    refine y_geti CC gl_X3_24 hc rfl (v := nI (tS τ)) hT.2.1 dX3_readStride_7 ?_
    refine y_iconst CC (nI 1) dX3_readStride_10 (by decide) ?_
    refine y_isub CC dX3_readStride_11 (v := nI ((tS τ) - 1)) (pk_sub (by omega)) ?_
    refine y_callVN (ci := 3) (st := []) CC cl_X3_72 (k_sleeperOrNull l D ad kI kS kL μ c hc τ hT hB (nI ((tS τ) - 1))) hc rfl rfl rfl (Nat.le_of_ble_eq_true rfl) ⟨by decide, by decide⟩ ⟨Nat.zero_le _, Nat.zero_le _⟩ dX3_readStride_12 (fun r_ μ_ w_8 => ?_)
    rcases w_8 with ⟨rfl, ⟨b_7, rfl⟩ | ⟨b_7, rfl⟩⟩
    · skip
      have hb_b_7 := inB_iff.mp b_7
      rw [nI_toInt (by omega)] at hb_b_7
      refine y_eq (st2 := [.ref (ad (4 * c + 18 + ((tS τ) - 1)))]) (by rw [ix_nI (by omega)]; rfl) ?_
      refine y_astore_n CC [(3, .ref (ad (4 * c + 18 + ((tS τ) - 1)))), (2, .int (-9)), (0, .ref (ad c)), (1, .int x)] dX3_readStride_15 rfl (by decide) rfl ?_
      refine y_iload_n CC 1 dX3_readStride_16 rfl rfl ?_
      refine z_if_ltT CC 29 dX3_readStride_17 (by decide) (a := (-9 : Int)) (by decide) (by decide) ?_
      refine y_iconst CC (nI 0) dX3_readStride_29 (by decide) ?_
      exact y_zret CC hQ dX3_readStride_30 (by decide) (Or.inr ⟨if_neg (by omega), rfl, rfl⟩)
    · skip
      exfalso; rw [inB_nI (by omega) (by omega)] at b_7; cases b_7

set_option maxRecDepth 100000 in
set_option maxHeartbeats 4000000 in
theorem k_readGoods (l : Launch) (D : va_G) (ad : Nat → Nat) (kI kS kL : ClassId) (μ : Mem) (c : Nat) (hc : isO 3 c) (τ : Tn) (hX : TXR μ c τ) (hpb : pB τ) (hpt : τ 0 3 = 6) (x : Int32) : MI l D ad kI kS kL yX3_readGoods cX3_readGoods 3 (some .boolean) 2 43 [.ref (ad c), .int x] μ (fun r μ2 => (∃ τ2, pG τ x = some τ2 ∧ r = nI 1 ∧ TXR μ2 c τ2 ∧ TF c μ μ2) ∨ (pG τ x = none ∧ r = nI 0 ∧ μ = μ2)) := by
  refine met_I RX3 rfl (by decide) (lv := [(0, .ref (ad c)), (1, .int x)]) rfl (Nat.le_of_ble_eq_true rfl) ?_
  intro pp ee ss mm aa bb me cd AA hA0 CC hnm QQ hQ
  have e1_ : tS τ = τ 0 1 := rfl
  have e2_ : tP τ = τ 0 0 := rfl
  have hT := hX.1
  have hB := hpb.1
  have hP9 : tP τ ≤ 9 := hB.1
  have hS4 : tS τ ≤ 4 := hB.2.1
  have hc2 : 1 ≤ c ∧ c ≤ 2 := by omega
  obtain ⟨-, hp7_, hq1_, hq2_, hq3_, hq4_, hq5_, -, -⟩ := hpb
  refine y_iload_n CC 1 dX3_readGoods_0 rfl rfl ?_
  refine y_callSI (st := []) CC cl_X3_69 (k_digit l D ad kI kS kL μ x) rfl rfl (Nat.le_of_ble_eq_true rfl) ⟨by decide, by decide⟩ ⟨Nat.zero_le _, Nat.zero_le _⟩ dX3_readGoods_1 (fun r_ μ_ w_2 => ?_)
  rcases w_2 with ⟨rfl, ⟨hd_, rfl⟩ | ⟨hd_, rfl⟩⟩
  · skip
    refine y_istore_n CC [(2, .int (nI (dgN x))), (0, .ref (ad c)), (1, .int x)] dX3_readGoods_4 rfl (by decide) rfl ?_
    refine y_iload_n CC 0 dX3_readGoods_5 rfl rfl ?_
    refine z_if_ge CC 11 dX3_readGoods_6 (by decide) (a := ((dgN x : Nat) : Int)) (nI_toInt (by omega)) (fun c_3 => ?_) (fun c_3 => ?_)
    · skip
      refine y_aload_n CC 1 dX3_readGoods_11 rfl rfl ?_
      refine y_aload_n CC 1 dX3_readGoods_12 rfl rfl ?_
      refine y_geti CC gl_X3_31 hc rfl (v := nI (τ 0 2)) hX.2.1 dX3_readGoods_13 ?_
      refine y_iload_n CC 0 dX3_readGoods_16 rfl rfl ?_
      refine y_callVV (ci := 3) (st := []) CC cl_X3_88 (k_setGoods l D ad kI kS kL μ c hc τ hT hB (nI (τ 0 2)) (nI (dgN x))) hc rfl rfl rfl (Nat.le_of_ble_eq_true rfl) ⟨by decide, by decide⟩ ⟨Nat.zero_le _, Nat.zero_le _⟩ dX3_readGoods_17 (fun μ_ w_4 => ?_)
      obtain rfl := w_4
      refine y_mem (μ2 := mu μ (c + 6) (τ 0 2) (nI (dgN x))) (by rw [if_pos (inB_nI (by omega) (by omega)), ix_nI (by omega)]) ?_
      refine y_aload_n CC 1 dX3_readGoods_20 rfl rfl ?_
      refine y_dup CC dX3_readGoods_21 rfl ?_
      refine y_geti CC gl_X3_31 hc rfl (v := nI (τ 0 2)) (by rw [mu_ne _ _ (Or.inl (by omega))]; exact hX.2.1) dX3_readGoods_22 ?_
      refine y_iconst CC (nI 1) dX3_readGoods_25 (by decide) ?_
      refine y_iadd CC dX3_readGoods_26 (v := nI ((τ 0 2) + 1)) (nI_add _ _) ?_
      refine y_puti CC pl_X3_31 hc rfl (Nat.le_of_ble_eq_true rfl) dX3_readGoods_27 ?_
      refine y_aload_n CC 1 dX3_readGoods_30 rfl rfl ?_
      refine y_aload_n CC 1 dX3_readGoods_31 rfl rfl ?_
      refine y_geti CC gl_X3_31 hc rfl (v := nI (τ 0 2 + 1)) (mu_at _ _ _ _) dX3_readGoods_32 ?_
      refine y_aload_n CC 1 dX3_readGoods_35 rfl rfl ?_
      refine y_geti CC gl_X3_28 hc rfl (v := nI (tP τ)) (by rw [mu_k _ _ (by decide), mu_ne _ _ (Or.inl (by omega))]; exact hT.1) dX3_readGoods_36 ?_
      refine z_icmp_ge CC 47 dX3_readGoods_39 (by decide) (a := ((τ 0 2 + 1 : Nat) : Int)) (b := ((tP τ : Nat) : Int)) (nI_toInt (by omega)) (nI_toInt (by omega)) (fun c_5 => ?_) (fun c_5 => ?_)
      · skip
        have hge_ : ¬ τ 0 2 + 1 < τ 0 0 := by omega
        refine y_bipush CC (nI 7) dX3_readGoods_47 (by decide) ?_
        refine y_puti CC pl_X3_34 hc rfl (Nat.le_of_ble_eq_true rfl) dX3_readGoods_49 ?_
        refine y_iconst CC (nI 1) dX3_readGoods_52 (by decide) ?_
        exact y_zret CC hQ dX3_readGoods_53 (by decide) (Or.inl ⟨_, if_pos (by omega), rfl, (by first | (rw [if_pos hge_]; exact ((hX.gd hc2 _ _).f5 hc2 _).f6 hc2 _) | (rw [if_neg hge_]; exact ((hX.gd hc2 _ _).f5 hc2 _).f6 hc2 _)), ((TF.rf.mu _ _ (by omega)).mu _ _ (by omega)).mu _ _ (by omega)⟩)
      · skip
        have hge_ : τ 0 2 + 1 < τ 0 0 := by omega
        refine y_bipush CC (nI 6) dX3_readGoods_42 (by decide) ?_
        refine y_goto CC 49 dX3_readGoods_44 (by decide) ?_
        refine y_puti CC pl_X3_34 hc rfl (Nat.le_of_ble_eq_true rfl) dX3_readGoods_49 ?_
        refine y_iconst CC (nI 1) dX3_readGoods_52 (by decide) ?_
        exact y_zret CC hQ dX3_readGoods_53 (by decide) (Or.inl ⟨_, if_pos (by omega), rfl, (by first | (rw [if_pos hge_]; exact ((hX.gd hc2 _ _).f5 hc2 _).f6 hc2 _) | (rw [if_neg hge_]; exact ((hX.gd hc2 _ _).f5 hc2 _).f6 hc2 _)), ((TF.rf.mu _ _ (by omega)).mu _ _ (by omega)).mu _ _ (by omega)⟩)
    · skip
      refine y_iconst CC (nI 0) dX3_readGoods_9 (by decide) ?_
      exact y_zret CC hQ dX3_readGoods_10 (by decide) (Or.inr ⟨if_neg (by omega), rfl, rfl⟩)
  · skip
    refine y_istore_n CC [(2, .int (-9)), (0, .ref (ad c)), (1, .int x)] dX3_readGoods_4 rfl (by decide) rfl ?_
    refine y_iload_n CC 0 dX3_readGoods_5 rfl rfl ?_
    refine z_if_geF CC 11 dX3_readGoods_6 (by decide) (a := (-9 : Int)) (by decide) (by decide) ?_
    refine y_iconst CC (nI 0) dX3_readGoods_9 (by decide) ?_
    exact y_zret CC hQ dX3_readGoods_10 (by decide) (Or.inr ⟨if_neg (by omega), rfl, rfl⟩)

set_option maxRecDepth 100000 in
set_option maxHeartbeats 4000000 in
theorem k_goesOnWith (l : Launch) (D : va_G) (ad : Nat → Nat) (kI kS kL : ClassId) (μ : Mem) (c : Nat) (hc : isO 3 c) (τ : Tn) (hX : TXR μ c τ) (hpb : pB τ) (x : Int32) : MI l D ad kI kS kL yX3_goesOnWith cX3_goesOnWith 2 (some .boolean) 3 65 [.ref (ad c), .int x] μ (fun r μ2 => (∃ τ2, pst τ x = some τ2 ∧ r = nI 1 ∧ TXR μ2 c τ2 ∧ TF c μ μ2) ∨ (pst τ x = none ∧ r = nI 0 ∧ μ = μ2)) := by
  refine met_I RX3 rfl (by decide) (lv := [(0, .ref (ad c)), (1, .int x)]) rfl (Nat.le_of_ble_eq_true rfl) ?_
  intro pp ee ss mm aa bb me cd AA hA0 CC hnm QQ hQ
  have hpb0 := hpb
  have e1_ : tS τ = τ 0 1 := rfl
  have e2_ : tP τ = τ 0 0 := rfl
  have hT := hX.1
  have hB := hpb.1
  have hP9 : tP τ ≤ 9 := hB.1
  have hS4 : tS τ ≤ 4 := hB.2.1
  have hc2 : 1 ≤ c ∧ c ≤ 2 := by omega
  obtain ⟨-, hp7_, hq1_, hq2_, hq3_, hq4_, hq5_, -, -⟩ := hpb
  refine y_aload_n CC 0 dX3_goesOnWith_0 rfl rfl ?_
  refine y_geti CC gl_X3_34 hc rfl (v := nI (τ 0 3)) hX.2.2 dX3_goesOnWith_1 ?_
  rcases (show τ 0 3 = 0 ∨ τ 0 3 = 1 ∨ τ 0 3 = 2 ∨ τ 0 3 = 3 ∨ τ 0 3 = 4 ∨ τ 0 3 = 5 ∨ τ 0 3 = 6 ∨ τ 0 3 = 7 by omega) with hpt | hpt | hpt | hpt | hpt | hpt | hpt | hpt
  · skip
    refine y_top (y := nI 0) (by rw [hpt]) ?_
    refine y_tableIn CC (off := 44) 48 dX3_goesOnWith_4 (by decide) (by decide) (by decide +kernel) (by decide) ?_
    refine y_aload_n CC 0 dX3_goesOnWith_48 rfl rfl ?_
    refine y_iload_n CC 1 dX3_goesOnWith_49 rfl rfl ?_
    have hpst_ : pst τ x = pZ τ x := by unfold pst; simp [hpt]
    refine y_callVI (ci := 3) (st := []) CC cl_X3_48 (k_readZ l D ad kI kS kL μ c hc τ hX hpb0 x) hc rfl rfl rfl (Nat.le_of_ble_eq_true rfl) ⟨by decide, by decide⟩ ⟨Nat.zero_le _, Nat.zero_le _⟩ dX3_goesOnWith_50 (fun r_ μ_ w_1 => ?_)
    rcases w_1 with ⟨τ2, hs_, rfl, hX2, hF2⟩ | ⟨hs_, rfl, rfl⟩
    · skip
      exact y_zret CC hQ dX3_goesOnWith_53 (by decide) (Or.inl ⟨τ2, hpst_.trans hs_, rfl, hX2, hF2⟩)
    · skip
      exact y_zret CC hQ dX3_goesOnWith_53 (by decide) (Or.inr ⟨hpst_.trans hs_, rfl, rfl⟩)
  · skip
    refine y_top (y := nI 1) (by rw [hpt]) ?_
    refine y_tableIn CC (off := 50) 54 dX3_goesOnWith_4 (by decide) (by decide) (by decide +kernel) (by decide) ?_
    refine y_aload_n CC 0 dX3_goesOnWith_54 rfl rfl ?_
    refine y_iload_n CC 1 dX3_goesOnWith_55 rfl rfl ?_
    have hpst_ : pst τ x = pP τ x := by unfold pst; simp [hpt]
    refine y_callVI (ci := 3) (st := []) CC cl_X3_51 (k_readPlaces l D ad kI kS kL μ c hc τ hX hpb0 x) hc rfl rfl rfl (Nat.le_of_ble_eq_true rfl) ⟨by decide, by decide⟩ ⟨Nat.zero_le _, Nat.zero_le _⟩ dX3_goesOnWith_56 (fun r_ μ_ w_2 => ?_)
    rcases w_2 with ⟨τ2, hs_, rfl, hX2, hF2⟩ | ⟨hs_, rfl, rfl⟩
    · skip
      exact y_zret CC hQ dX3_goesOnWith_59 (by decide) (Or.inl ⟨τ2, hpst_.trans hs_, rfl, hX2, hF2⟩)
    · skip
      exact y_zret CC hQ dX3_goesOnWith_59 (by decide) (Or.inr ⟨hpst_.trans hs_, rfl, rfl⟩)
  · skip
    refine y_top (y := nI 2) (by rw [hpt]) ?_
    refine y_tableIn CC (off := 56) 60 dX3_goesOnWith_4 (by decide) (by decide) (by decide +kernel) (by decide) ?_
    refine y_aload_n CC 0 dX3_goesOnWith_60 rfl rfl ?_
    refine y_iload_n CC 1 dX3_goesOnWith_61 rfl rfl ?_
    have hpst_ : pst τ x = pK1 τ x := by unfold pst; simp [hpt]
    refine y_callVI (ci := 3) (st := []) CC cl_X3_54 (k_readBreak l D ad kI kS kL μ c hc τ hX hpb0 x) hc rfl rfl rfl (Nat.le_of_ble_eq_true rfl) ⟨by decide, by decide⟩ ⟨Nat.zero_le _, Nat.zero_le _⟩ dX3_goesOnWith_62 (fun r_ μ_ w_3 => ?_)
    rcases w_3 with ⟨τ2, hs_, rfl, hX2, hF2⟩ | ⟨hs_, rfl, rfl⟩
    · skip
      exact y_zret CC hQ dX3_goesOnWith_65 (by decide) (Or.inl ⟨τ2, hpst_.trans hs_, rfl, hX2, hF2⟩)
    · skip
      exact y_zret CC hQ dX3_goesOnWith_65 (by decide) (Or.inr ⟨hpst_.trans hs_, rfl, rfl⟩)
  · skip
    refine y_top (y := nI 3) (by rw [hpt]) ?_
    refine y_tableIn CC (off := 62) 66 dX3_goesOnWith_4 (by decide) (by decide) (by decide +kernel) (by decide) ?_
    refine y_aload_n CC 0 dX3_goesOnWith_66 rfl rfl ?_
    refine y_iload_n CC 1 dX3_goesOnWith_67 rfl rfl ?_
    have hpst_ : pst τ x = pK τ x := by unfold pst; simp [hpt]
    refine y_callVI (ci := 3) (st := []) CC cl_X3_57 (k_readKind l D ad kI kS kL μ c hc τ hX hpb0 hpt x) hc rfl rfl rfl (Nat.le_of_ble_eq_true rfl) ⟨by decide, by decide⟩ ⟨Nat.zero_le _, Nat.zero_le _⟩ dX3_goesOnWith_68 (fun r_ μ_ w_4 => ?_)
    rcases w_4 with ⟨τ2, hs_, rfl, hX2, hF2⟩ | ⟨hs_, rfl, rfl⟩
    · skip
      exact y_zret CC hQ dX3_goesOnWith_71 (by decide) (Or.inl ⟨τ2, hpst_.trans hs_, rfl, hX2, hF2⟩)
    · skip
      exact y_zret CC hQ dX3_goesOnWith_71 (by decide) (Or.inr ⟨hpst_.trans hs_, rfl, rfl⟩)
  · skip
    refine y_top (y := nI 4) (by rw [hpt]) ?_
    refine y_tableIn CC (off := 68) 72 dX3_goesOnWith_4 (by decide) (by decide) (by decide +kernel) (by decide) ?_
    refine y_aload_n CC 0 dX3_goesOnWith_72 rfl rfl ?_
    refine y_iload_n CC 1 dX3_goesOnWith_73 rfl rfl ?_
    have hpst_ : pst τ x = pS τ x := by unfold pst; simp [hpt]
    refine y_callVI (ci := 3) (st := []) CC cl_X3_60 (k_readStart l D ad kI kS kL μ c hc τ hX hpb0 hpt x) hc rfl rfl rfl (Nat.le_of_ble_eq_true rfl) ⟨by decide, by decide⟩ ⟨Nat.zero_le _, Nat.zero_le _⟩ dX3_goesOnWith_74 (fun r_ μ_ w_5 => ?_)
    rcases w_5 with ⟨τ2, hs_, rfl, hX2, hF2⟩ | ⟨hs_, rfl, rfl⟩
    · skip
      exact y_zret CC hQ dX3_goesOnWith_77 (by decide) (Or.inl ⟨τ2, hpst_.trans hs_, rfl, hX2, hF2⟩)
    · skip
      exact y_zret CC hQ dX3_goesOnWith_77 (by decide) (Or.inr ⟨hpst_.trans hs_, rfl, rfl⟩)
  · skip
    refine y_top (y := nI 5) (by rw [hpt]) ?_
    refine y_tableIn CC (off := 74) 78 dX3_goesOnWith_4 (by decide) (by decide) (by decide +kernel) (by decide) ?_
    refine y_aload_n CC 0 dX3_goesOnWith_78 rfl rfl ?_
    refine y_iload_n CC 1 dX3_goesOnWith_79 rfl rfl ?_
    have hpst_ : pst τ x = pD τ x := by unfold pst; simp [hpt]
    refine y_callVI (ci := 3) (st := []) CC cl_X3_63 (k_readStride l D ad kI kS kL μ c hc τ hX hpb0 hpt x) hc rfl rfl rfl (Nat.le_of_ble_eq_true rfl) ⟨by decide, by decide⟩ ⟨Nat.zero_le _, Nat.zero_le _⟩ dX3_goesOnWith_80 (fun r_ μ_ w_6 => ?_)
    rcases w_6 with ⟨τ2, hs_, rfl, hX2, hF2⟩ | ⟨hs_, rfl, rfl⟩
    · skip
      exact y_zret CC hQ dX3_goesOnWith_83 (by decide) (Or.inl ⟨τ2, hpst_.trans hs_, rfl, hX2, hF2⟩)
    · skip
      exact y_zret CC hQ dX3_goesOnWith_83 (by decide) (Or.inr ⟨hpst_.trans hs_, rfl, rfl⟩)
  · skip
    refine y_top (y := nI 6) (by rw [hpt]) ?_
    refine y_tableIn CC (off := 80) 84 dX3_goesOnWith_4 (by decide) (by decide) (by decide +kernel) (by decide) ?_
    refine y_aload_n CC 0 dX3_goesOnWith_84 rfl rfl ?_
    refine y_iload_n CC 1 dX3_goesOnWith_85 rfl rfl ?_
    have hpst_ : pst τ x = pG τ x := by unfold pst; simp [hpt]
    refine y_callVI (ci := 3) (st := []) CC cl_X3_66 (k_readGoods l D ad kI kS kL μ c hc τ hX hpb0 hpt x) hc rfl rfl rfl (Nat.le_of_ble_eq_true rfl) ⟨by decide, by decide⟩ ⟨Nat.zero_le _, Nat.zero_le _⟩ dX3_goesOnWith_86 (fun r_ μ_ w_7 => ?_)
    rcases w_7 with ⟨τ2, hs_, rfl, hX2, hF2⟩ | ⟨hs_, rfl, rfl⟩
    · skip
      exact y_zret CC hQ dX3_goesOnWith_89 (by decide) (Or.inl ⟨τ2, hpst_.trans hs_, rfl, hX2, hF2⟩)
    · skip
      exact y_zret CC hQ dX3_goesOnWith_89 (by decide) (Or.inr ⟨hpst_.trans hs_, rfl, rfl⟩)
  · skip
    refine y_top (y := nI 7) (by rw [hpt]) ?_
    refine y_tableOut CC 90 dX3_goesOnWith_4 (by decide) (by decide) ?_
    refine y_iconst CC (nI 0) dX3_goesOnWith_90 (by decide) ?_
    exact y_zret CC hQ dX3_goesOnWith_91 (by decide) (Or.inr ⟨by unfold pst; simp [hpt], rfl, rfl⟩)

set_option maxRecDepth 100000 in
set_option maxHeartbeats 4000000 in
theorem k_read (l : Launch) (D : va_G) (ad : Nat → Nat) (kI kS kL : ClassId) (μ : Mem) (c : Nat) (hc : isO 3 c) (τ : Tn) (hT : TX μ c τ) (hB : tB τ) (q : Nat) (hq : isO 1 q) (ln len : Nat) (z : Nat → Int32) (hQ1 : SQ μ q ln len z) (i n : Nat) (hin : i + n ≤ len) : MI l D ad kI kS kL yX3_read cX3_read 5 (some .int) 4 86 [.ref (ad c), .ref (ad q), .int (nI i), .int (nI n)] μ (fun r μ2 => r = oI (pz τ (fun x => z (i + x)) n) ∧ TF c μ μ2 ∧ ∃ t k, k ≤ n ∧ pr τ (fun x => z (i + x)) k = some t ∧ TXR μ2 c t ∧ (pz τ (fun x => z (i + x)) n = none → k = n ∧ t 0 3 = 7)) := by
  refine met_I RX3 rfl (by decide) (lv := [(0, .ref (ad c)), (1, .ref (ad q)), (2, .int (nI i)), (3, .int (nI n))]) rfl (Nat.le_of_ble_eq_true rfl) ?_
  intro pp ee ss mm aa bb me cd AA hA0 CC hnm QQ hQ
  have hc2 : 1 ≤ c ∧ c ≤ 2 := by omega
  have hq4 : 14 ≤ q ∧ q ≤ 17 := by omega
  have hlen := hQ1.2.2.2.1
  have hln := hQ1.2.2.1
  refine y_aload_n CC 0 dX3_read_0 rfl rfl ?_
  refine y_iconst CC (nI 0) dX3_read_1 (by decide) ?_
  refine y_puti CC pl_X3_24 hc rfl (Nat.le_of_ble_eq_true rfl) dX3_read_2 ?_
  refine y_aload_n CC 0 dX3_read_5 rfl rfl ?_
  refine y_iconst CC (nI 0) dX3_read_6 (by decide) ?_
  refine y_puti CC pl_X3_28 hc rfl (Nat.le_of_ble_eq_true rfl) dX3_read_7 ?_
  refine y_aload_n CC 0 dX3_read_10 rfl rfl ?_
  refine y_iconst CC (nI 0) dX3_read_11 (by decide) ?_
  refine y_puti CC pl_X3_31 hc rfl (Nat.le_of_ble_eq_true rfl) dX3_read_12 ?_
  refine y_aload_n CC 0 dX3_read_15 rfl rfl ?_
  refine y_iconst CC (nI 0) dX3_read_16 (by decide) ?_
  refine y_puti CC pl_X3_34 hc rfl (Nat.le_of_ble_eq_true rfl) dX3_read_17 ?_
  refine y_iconst CC (nI 0) dX3_read_20 (by decide) ?_
  refine y_istore CC [(4, .int (nI 0)), (0, .ref (ad c)), (1, .ref (ad q)), (2, .int (nI i)), (3, .int (nI n))] dX3_read_21 (by decide) rfl ?_
  have L23 : ∀ (n23 : Nat) (k : Nat) (t : Tn) (ν : Mem), n - k < n23 → (k ≤ n) → (pr τ (fun x => z (i + x)) k = some t) → (TXR ν c t) → (TF c μ ν) → (fs (fun x => (pr τ (fun x => z (i + x)) (x + 1)).isNone) k (n - k) = fs (fun x => (pr τ (fun x => z (i + x)) (x + 1)).isNone) 0 n) → Y pp l ee (rmY 4 86) ss mm aa bb me cd D ad kI kS kL AA 5 0 0 QQ 23 [(4, .int (nI k)), (0, .ref (ad c)), (1, .ref (ad q)), (2, .int (nI i)), (3, .int (nI n))] [] ν := by
    intro n23
    induction n23 with
    | zero => intro k t ν hm23; exact absurd hm23 (Nat.not_lt_zero _)
    | succ n23 ih23 =>
      intro k t ν hm23 hk ht hXt hF hs
      have hpt := pr_B hB _ k t ht
      have hQν : SQ ν q ln len z := ⟨by rw [hF _ _ (by omega) (by omega) (by omega)]; exact hQ1.1, by rw [hF _ _ (by omega) (by omega) (by omega)]; exact hQ1.2.1, hln, hlen, fun x_ hx_ => by rw [hF _ _ (by omega) (by omega) (by omega)]; exact hQ1.2.2.2.2 x_ hx_⟩
      refine y_iload CC 0 dX3_read_23 rfl ?_
      refine y_iload_n CC 4 dX3_read_25 rfl rfl ?_
      refine z_icmp_ge CC 53 dX3_read_26 (by decide) (a := ((k : Nat) : Int)) (b := ((n : Nat) : Int)) (nI_toInt (by omega)) (nI_toInt (by omega)) (fun c_2 => ?_) (fun c_2 => ?_)
      · skip
        have hpt7_ := hpt.2.1
        obtain rfl : k = n := by omega
        refine y_aload_n CC 1 dX3_read_53 rfl rfl ?_
        refine y_geti CC gl_X3_34 hc rfl (v := nI (t 0 3)) hXt.2.2 dX3_read_54 ?_
        refine y_bipush CC (nI 7) dX3_read_57 (by decide) ?_
        refine z_icmp_ne CC 67 dX3_read_59 (by decide) (a := ((t 0 3 : Nat) : Int)) (b := (7 : Int)) (nI_toInt (by omega)) (nI_toInt (by decide)) (fun c_3 => ?_) (fun c_3 => ?_)
        · skip
          have hend_ : ¬ t 0 3 = 7 := by omega
          refine y_iload_n CC 4 dX3_read_67 rfl rfl ?_
          exact y_iret CC hQ dX3_read_68 (⟨by rw [rd_end ht hs, if_neg hend_]; rfl, hF, t, k, Nat.le_refl _, ht, hXt, fun h_ => by rw [rd_end ht hs, if_neg hend_] at h_; cases h_⟩)
        · skip
          have hend_ : t 0 3 = 7 := by omega
          refine y_bipush CC ((-9)) dX3_read_62 (by decide) ?_
          refine y_goto CC 68 dX3_read_64 (by decide) ?_
          exact y_iret CC hQ dX3_read_68 (⟨by rw [rd_end ht hs, if_pos hend_]; rfl, hF, t, k, Nat.le_refl _, ht, hXt, fun _ => ⟨rfl, hend_⟩⟩)
      · skip
        refine y_aload_n CC 1 dX3_read_29 rfl rfl ?_
        refine y_aload_n CC 2 dX3_read_30 rfl rfl ?_
        refine y_iload_n CC 3 dX3_read_31 rfl rfl ?_
        refine y_iload CC 0 dX3_read_32 rfl ?_
        refine y_iadd CC dX3_read_34 (v := nI (i + k)) (nI_add _ _) ?_
        refine y_callVI (ci := 1) (st := [.ref (ad c)]) CC cl_X3_38 (k_at l D ad kI kS kL ν q hq ln len z hQν (nI (i + k))) hq rfl rfl rfl (Nat.le_of_ble_eq_true rfl) ⟨by decide, by decide⟩ ⟨Nat.zero_le _, Nat.zero_le _⟩ dX3_read_35 (fun r_ μ_ w_4 => ?_)
        obtain ⟨rfl, rfl⟩ := w_4
        refine y_top (y := z (i + k)) (by rw [if_pos (inB_nI (by omega) (by omega)), ix_nI (by omega)]) ?_
        refine y_callVI (ci := 3) (st := []) CC cl_X3_44 (k_goesOnWith l D ad kI kS kL ν c hc t hXt hpt (z (i + k))) hc rfl rfl rfl (Nat.le_of_ble_eq_true rfl) ⟨by decide, by decide⟩ ⟨Nat.zero_le _, Nat.zero_le _⟩ dX3_read_38 (fun r_ μ_ w_5 => ?_)
        rcases w_5 with ⟨t2, hs_, rfl, hX2, hF2⟩ | ⟨hs_, rfl, rfl⟩
        · skip
          refine z_if_neT CC 47 dX3_read_41 (by decide) (a := (1 : Int)) (nI_toInt (by decide)) (by decide) ?_
          refine y_iinc CC 0 (nI (k + 1)) [(4, .int (nI (k + 1))), (0, .ref (ad c)), (1, .ref (ad q)), (2, .int (nI i)), (3, .int (nI n))] dX3_read_47 rfl (i_inc _) (by decide) rfl ?_
          refine y_goto CC 23 dX3_read_50 (by decide) ?_
          exact ih23 (k + 1) t2 μ_ (by omega) (by omega) ((pr_s ht).trans hs_) hX2 (hF.tr hF2) (by rw [← fs_f (by show (pr τ (fun x => z (i + x)) (k + 1)).isNone = false; rw [(pr_s ht).trans hs_]; rfl) (by omega)]; exact hs)
        · skip
          refine z_if_neF CC 47 dX3_read_41 (by decide) (a := (0 : Int)) (nI_toInt (by decide)) (by decide) ?_
          refine y_iload CC 0 dX3_read_44 rfl ?_
          exact y_iret CC hQ dX3_read_46 (⟨by rw [rd_bad ht hs_ (by omega) hs]; rfl, hF, t, k, hk, ht, hXt, fun h_ => by rw [rd_bad ht hs_ (by omega) hs] at h_; cases h_⟩)
  exact L23 _ 0 (tz τ) (mu (mu (mu (mu μ c 3 (nI 0)) c 4 (nI 0)) c 5 (nI 0)) c 6 (nI 0)) (Nat.lt_succ_self _) (Nat.zero_le _) rfl (tz_X hT hc2) ((((TF.rf.mu _ _ (by omega)).mu _ _ (by omega)).mu _ _ (by omega)).mu _ _ (by omega)) (by rw [Nat.sub_zero])
