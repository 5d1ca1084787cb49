theorem SM.la {μ : Mem} {θ : Tn} {ζ : Nat → Nat → Int32} (h : SM μ θ ζ) {k : Nat} (hk : k < 4) (hp : 0 < θ k 0) : μ 45 k = nI (θ k 0 - 1) := ((h k hk).2.1 hp).2
theorem SM.ln {μ : Mem} {θ : Tn} {ζ : Nat → Nat → Int32} (h : SM μ θ ζ) {k : Nat} (hk : k < 4) (hp : 0 < θ k 0) : μ 44 k = nI (θ k 1) := ((h k hk).2.1 hp).1
theorem far_1 {ln j : Nat} (h : ln = 0) : farF ln j = 1 := by unfold farF; rw [if_pos h]
theorem far_0 {ln j : Nat} (h : ln = j + 1) : farF ln j = 0 := by unfold farF; rw [if_neg (by omega), if_pos h]
theorem far_2 {ln j : Nat} (h : 0 < ln) (h2 : ¬ ln = j + 1) : farF ln j = 2 := by unfold farF; rw [if_neg (by omega), if_neg h2]
theorem cb_1 {ln len la : Nat} {i n : Int32} (h : ln = 0) : cbF ln len la i n = 1 := by unfold cbF; rw [far_1 h]; rfl
theorem cb_2 {ln len la : Nat} {i n : Int32} (h : 0 < ln) (h2 : ¬ ln = la + 1) : cbF ln len la i n = 2 := by unfold cbF; rw [far_2 h h2]; rfl
theorem cb_4 {ln len la : Nat} {i n : Int32} (h : ln = la + 1) (h2 : n.toInt < 0) : cbF ln len la i n = 4 := by unfold cbF; rw [far_0 h, if_pos rfl, if_pos h2]
theorem cb_0 {ln len la : Nat} {i n : Int32} (h : ln = la + 1) (h2 : 0 ≤ n.toInt) (h3 : 0 ≤ i.toInt ∧ i.toInt + n.toInt ≤ (len : Int)) : cbF ln len la i n = 0 := by unfold cbF; rw [far_0 h, if_pos rfl, if_neg (by omega), if_pos (show focB len i n = true from decide_eq_true (by omega))]
theorem cb_3 {ln len la : Nat} {i n : Int32} (h : ln = la + 1) (h2 : 0 ≤ n.toInt) (h3 : ¬ (0 ≤ i.toInt ∧ i.toInt + n.toInt ≤ (len : Int))) : cbF ln len la i n = 3 := by unfold cbF; rw [far_0 h, if_pos rfl, if_neg (by omega), if_neg (by rw [focB, decide_eq_false (by omega)]; decide)]

set_option maxRecDepth 100000 in
set_option maxHeartbeats 4000000 in
theorem m_noCell (l : Launch) (D : va_G) (ad : Nat → Nat) (kI kS kL : ClassId) (μ : Mem) (θ : Tn) (ζ : Nat → Nat → Int32) (hSM : SM μ θ ζ) (hθ : thB θ) (k : Nat) (hk : k < 4) (i : Int32) : MI l D ad kI kS kL yX5_noCell cX5_noCell 3 (some .int) 1 25 [.ref (ad 30), .int (nI k), .int i] μ (fun r μ2 => μ = μ2 ∧ r = nI (ncF (θ k 0) (θ k 1) i)) := by
  refine met_I RX5 rfl (by decide) (lv := [(0, .ref (ad 30)), (1, .int (nI k)), (2, .int i)]) rfl (Nat.le_of_ble_eq_true rfl) ?_
  intro pp ee ss mm aa bb me cd AA hA0 CC hnm QQ hQ
  have hz_k := szZ_or (θ k 0) (θ k 1)
  have ht_k := hθ k (by omega)
  refine y_aload_n CC 0 dX5_noCell_0 rfl rfl ?_
  refine y_getr CC gl_X5_49 (by omega) (d := 44) rfl dX5_noCell_1 ?_
  refine y_iload_n CC 1 dX5_noCell_4 rfl rfl ?_
  refine y_ialdN CC (n := 4) (by omega) (by decide) (by omega) (by omega) (v := szV (θ k 0) (θ k 1)) (hSM.sz (by omega)) dX5_noCell_5 ?_
  refine z_if_ge CC 13 dX5_noCell_6 (by decide) (a := szZ (θ k 0) (θ k 1)) (szV_i (by omega)) (fun c_1 => ?_) (fun c_1 => ?_)
  · skip
    refine y_iload_n CC 2 dX5_noCell_13 rfl rfl ?_
    refine y_i2l CC dX5_noCell_14 (v := (i).toInt64) rfl ?_
    refine y_lconst CC 0 dX5_noCell_15 rfl ?_
    refine y_aload_n CC 0 dX5_noCell_16 rfl rfl ?_
    refine y_getr CC gl_X5_49 (by omega) (d := 44) rfl dX5_noCell_17 ?_
    refine y_iload_n CC 1 dX5_noCell_20 rfl rfl ?_
    refine y_ialdN CC (n := 4) (by omega) (by decide) (by omega) (by omega) (v := szV (θ k 0) (θ k 1)) (hSM.sz (by omega)) dX5_noCell_21 ?_
    refine y_i2l CC dX5_noCell_22 (v := (szV (θ k 0) (θ k 1)).toInt64) rfl ?_
    refine y_lconst CC 1 dX5_noCell_23 rfl ?_
    refine y_lsub CC dX5_noCell_24 (v := (((szV (θ k 0) (θ k 1)).toInt64) - 1)) rfl ?_
    refine y_callSI (st := []) CC cl_X5_74 (m_in l D ad kI kS kL μ ((i).toInt64) 0 (((szV (θ k 0) (θ k 1)).toInt64) - 1) ((i).toInt) ((0 : Int)) ((szZ (θ k 0) (θ k 1)) - (1 : Int))  ((l_i _).trans rfl) (by decide) (l_sub ((l_i _).trans (szV_i (by omega))) (by decide) (by omega))) rfl rfl (Nat.le_of_ble_eq_true rfl) ⟨by decide, by decide⟩ ⟨Nat.zero_le _, Nat.zero_le _⟩ dX5_noCell_25 (fun r_ μ_ w_3 => ?_)
    rcases w_3 with ⟨rfl, ⟨i_2, rfl⟩ | ⟨i_2, rfl⟩⟩
    · skip
      refine z_if_eqF CC 35 dX5_noCell_28 (by decide) (a := (1 : Int)) (nI_toInt (by decide)) (by decide) ?_
      refine y_iconst CC (nI 0) dX5_noCell_31 (by decide) ?_
      refine y_goto CC 36 dX5_noCell_32 (by decide) ?_
      exact y_iret CC hQ dX5_noCell_36 (⟨rfl, by unfold ncF; first | rw [if_pos (by omega)] | rw [if_neg (by omega), if_pos (inB_t (by omega))] | rw [if_neg (by omega), if_neg (by rw [inB_f (by omega)]; decide)]⟩)
    · skip
      refine z_if_eqT CC 35 dX5_noCell_28 (by decide) (a := (0 : Int)) (nI_toInt (by decide)) (by decide) ?_
      refine y_iconst CC (nI 3) dX5_noCell_35 (by decide) ?_
      exact y_iret CC hQ dX5_noCell_36 (⟨rfl, by unfold ncF; first | rw [if_pos (by omega)] | rw [if_neg (by omega), if_pos (inB_t (by omega))] | rw [if_neg (by omega), if_neg (by rw [inB_f (by omega)]; decide)]⟩)
  · skip
    refine y_iconst CC (nI 1) dX5_noCell_9 (by decide) ?_
    refine y_goto CC 36 dX5_noCell_10 (by decide) ?_
    exact y_iret CC hQ dX5_noCell_36 (⟨rfl, by unfold ncF; first | rw [if_pos (by omega)] | rw [if_neg (by omega), if_pos (inB_t (by omega))] | rw [if_neg (by omega), if_neg (by rw [inB_f (by omega)]; decide)]⟩)

set_option maxRecDepth 100000 in
set_option maxHeartbeats 4000000 in
theorem m_cellsBarred (l : Launch) (D : va_G) (ad : Nat → Nat) (kI kS kL : ClassId) (μ : Mem) (θ : Tn) (ζ : Nat → Nat → Int32) (hSM : SM μ θ ζ) (hθ : thB θ) (k la : Nat) (hk : k < 4) (hla : la < 3) (i n : Int32) : MI l D ad kI kS kL yX5_cellsBarred cX5_cellsBarred 6 (some .int) 1 23 [.ref (ad 30), .int (nI k), .int (nI la), .int i, .long n.toInt64] μ (fun r μ2 => (cbF (θ k 0) (θ k 1) la i n = 0 ∧ r = nI 0 ∧ μ = μ2) ∨ (True ∧ cbF (θ k 0) (θ k 1) la i n ≠ 0 ∧ r = -10 - nI (cbF (θ k 0) (θ k 1) la i n) ∧ μ2 = mu μ 30 0 (nI (cbF (θ k 0) (θ k 1) la i n)))) := by
  refine met_I RX5 rfl (by decide) (lv := [(0, .ref (ad 30)), (1, .int (nI k)), (2, .int (nI la)), (3, .int i), (4, .long n.toInt64)]) rfl (Nat.le_of_ble_eq_true rfl) ?_
  intro pp ee ss mm aa bb me cd AA hA0 CC hnm QQ hQ
  have hz_k := szZ_or (θ k 0) (θ k 1)
  have ht_k := hθ k (by omega)
  have hib_ := i.toInt_lt
  have hib2_ := i.le_toInt
  have hnb_ := n.toInt_lt
  have hnb2_ := n.le_toInt
  refine y_aload_n CC 0 dX5_cellsBarred_0 rfl rfl ?_
  refine y_getr CC gl_X5_49 (by omega) (d := 44) rfl dX5_cellsBarred_1 ?_
  refine y_iload_n CC 1 dX5_cellsBarred_4 rfl rfl ?_
  refine y_ialdN CC (n := 4) (by omega) (by decide) (by omega) (by omega) (v := szV (θ k 0) (θ k 1)) (hSM.sz (by omega)) dX5_cellsBarred_5 ?_
  refine z_if_lt CC 25 dX5_cellsBarred_6 (by decide) (a := szZ (θ k 0) (θ k 1)) (szV_i (by omega)) (fun c_1 => ?_) (fun c_1 => ?_)
  · skip
    refine y_aload_n CC 0 dX5_cellsBarred_25 rfl rfl ?_
    refine y_getr CC gl_X5_49 (by omega) (d := 44) rfl dX5_cellsBarred_26 ?_
    refine y_iload_n CC 1 dX5_cellsBarred_29 rfl rfl ?_
    refine y_ialdN CC (n := 4) (by omega) (by decide) (by omega) (by omega) (v := szV (θ k 0) (θ k 1)) (hSM.sz (by omega)) dX5_cellsBarred_30 ?_
    refine z_if_ge CC 40 dX5_cellsBarred_31 (by decide) (a := szZ (θ k 0) (θ k 1)) (szV_i (by omega)) (fun c_2 => ?_) (fun c_2 => ?_)
    · skip
      refine y_lload CC 4 dX5_cellsBarred_40 rfl ?_
      refine y_lconst CC 0 dX5_cellsBarred_42 rfl ?_
      refine y_lcmp CC dX5_cellsBarred_43 (v := lg_cmp n.toInt64 0) rfl ?_
      refine z_if_ge CC 53 dX5_cellsBarred_44 (by decide) (a := (lg_cmp n.toInt64 0).toInt) rfl (fun c_3 => ?_) (fun c_3 => ?_)
      · skip
        rw [lc_ge (a := n.toInt) (b := (0 : Int)) (l_i _) (by decide)] at c_3
        refine y_iload_n CC 3 dX5_cellsBarred_53 rfl rfl ?_
        refine y_lload CC 4 dX5_cellsBarred_54 rfl ?_
        refine y_aload_n CC 0 dX5_cellsBarred_56 rfl rfl ?_
        refine y_getr CC gl_X5_49 (by omega) (d := 44) rfl dX5_cellsBarred_57 ?_
        refine y_iload_n CC 1 dX5_cellsBarred_60 rfl rfl ?_
        refine y_ialdN CC (n := 4) (by omega) (by decide) (by omega) (by omega) (v := nI (θ k 1)) (hSM.ln (by omega) (by omega)) dX5_cellsBarred_61 ?_
        refine y_callSI (st := []) CC cl_X5_108 (m_isBeyond l D ad kI kS kL μ i n.toInt64 (n.toInt) (l_i _) (by omega) (θ k 1) (by omega)) rfl rfl (Nat.le_of_ble_eq_true rfl) ⟨by decide, by decide⟩ ⟨Nat.zero_le _, Nat.zero_le _⟩ dX5_cellsBarred_62 (fun r_ μ_ w_5 => ?_)
        rcases w_5 with ⟨rfl, ⟨y_4, rfl⟩ | ⟨y_4, rfl⟩⟩
        · skip
          refine z_if_eqF CC 76 dX5_cellsBarred_65 (by decide) (a := (1 : Int)) (nI_toInt (by decide)) (by decide) ?_
          refine y_aload_n CC 0 dX5_cellsBarred_68 rfl rfl ?_
          refine y_iconst CC (nI 3) dX5_cellsBarred_69 (by decide) ?_
          refine y_callVI (ci := 5) (st := []) CC cl_X5_104 (m_failed l D ad kI kS kL μ 3) (by omega) rfl rfl rfl (Nat.le_of_ble_eq_true rfl) ⟨by decide, by decide⟩ ⟨Nat.zero_le _, Nat.zero_le _⟩ dX5_cellsBarred_70 (fun r_ μ_ w_6 => ?_)
          obtain ⟨rfl, rfl⟩ := w_6
          refine y_goto CC 77 dX5_cellsBarred_73 (by decide) ?_
          exact y_iret CC hQ dX5_cellsBarred_77 (Or.inr ⟨trivial, by rw [show cbF (θ k 0) (θ k 1) la i n = 3 from cb_3 (by omega) (by omega) (by omega)]; exact ⟨by decide, rfl, rfl⟩⟩)
        · skip
          refine z_if_eqT CC 76 dX5_cellsBarred_65 (by decide) (a := (0 : Int)) (nI_toInt (by decide)) (by decide) ?_
          refine y_iconst CC (nI 0) dX5_cellsBarred_76 (by decide) ?_
          exact y_iret CC hQ dX5_cellsBarred_77 (Or.inl ⟨cb_0 (by omega) (by omega) (by omega), rfl, rfl⟩)
      · skip
        rw [lc_lt (a := n.toInt) (b := (0 : Int)) (l_i _) (by decide)] at c_3
        refine y_aload_n CC 0 dX5_cellsBarred_47 rfl rfl ?_
        refine y_iconst CC (nI 4) dX5_cellsBarred_48 (by decide) ?_
        refine y_callVI (ci := 5) (st := []) CC cl_X5_104 (m_failed l D ad kI kS kL μ 4) (by omega) rfl rfl rfl (Nat.le_of_ble_eq_true rfl) ⟨by decide, by decide⟩ ⟨Nat.zero_le _, Nat.zero_le _⟩ dX5_cellsBarred_49 (fun r_ μ_ w_7 => ?_)
        obtain ⟨rfl, rfl⟩ := w_7
        exact y_iret CC hQ dX5_cellsBarred_52 (Or.inr ⟨trivial, by rw [show cbF (θ k 0) (θ k 1) la i n = 4 from cb_4 (by omega) (by omega)]; exact ⟨by decide, rfl, rfl⟩⟩)
    · skip
      refine y_aload_n CC 0 dX5_cellsBarred_34 rfl rfl ?_
      refine y_iconst CC (nI 1) dX5_cellsBarred_35 (by decide) ?_
      refine y_callVI (ci := 5) (st := []) CC cl_X5_104 (m_failed l D ad kI kS kL μ 1) (by omega) rfl rfl rfl (Nat.le_of_ble_eq_true rfl) ⟨by decide, by decide⟩ ⟨Nat.zero_le _, Nat.zero_le _⟩ dX5_cellsBarred_36 (fun r_ μ_ w_8 => ?_)
      obtain ⟨rfl, rfl⟩ := w_8
      exact y_iret CC hQ dX5_cellsBarred_39 (Or.inr ⟨trivial, by rw [show cbF (θ k 0) (θ k 1) la i n = 1 from cb_1 (by omega)]; exact ⟨by decide, rfl, rfl⟩⟩)
  · skip
    refine y_aload_n CC 0 dX5_cellsBarred_9 rfl rfl ?_
    refine y_getr CC gl_X5_52 (by omega) (d := 45) rfl dX5_cellsBarred_10 ?_
    refine y_iload_n CC 1 dX5_cellsBarred_13 rfl rfl ?_
    refine y_ialdN CC (n := 4) (by omega) (by decide) (by omega) (by omega) (v := nI (θ k 0 - 1)) (hSM.la (by omega) (by omega)) dX5_cellsBarred_14 ?_
    refine y_iload_n CC 2 dX5_cellsBarred_15 rfl rfl ?_
    refine z_icmp_eq CC 25 dX5_cellsBarred_16 (by decide) (a := ((θ k 0 - 1 : Nat) : Int)) (b := ((la : Nat) : Int)) (nI_toInt (by omega)) (nI_toInt (by omega)) (fun c_9 => ?_) (fun c_9 => ?_)
    · skip
      refine y_aload_n CC 0 dX5_cellsBarred_25 rfl rfl ?_
      refine y_getr CC gl_X5_49 (by omega) (d := 44) rfl dX5_cellsBarred_26 ?_
      refine y_iload_n CC 1 dX5_cellsBarred_29 rfl rfl ?_
      refine y_ialdN CC (n := 4) (by omega) (by decide) (by omega) (by omega) (v := szV (θ k 0) (θ k 1)) (hSM.sz (by omega)) dX5_cellsBarred_30 ?_
      refine z_if_ge CC 40 dX5_cellsBarred_31 (by decide) (a := szZ (θ k 0) (θ k 1)) (szV_i (by omega)) (fun c_10 => ?_) (fun c_10 => ?_)
      · skip
        refine y_lload CC 4 dX5_cellsBarred_40 rfl ?_
        refine y_lconst CC 0 dX5_cellsBarred_42 rfl ?_
        refine y_lcmp CC dX5_cellsBarred_43 (v := lg_cmp n.toInt64 0) rfl ?_
        refine z_if_ge CC 53 dX5_cellsBarred_44 (by decide) (a := (lg_cmp n.toInt64 0).toInt) rfl (fun c_11 => ?_) (fun c_11 => ?_)
        · skip
          rw [lc_ge (a := n.toInt) (b := (0 : Int)) (l_i _) (by decide)] at c_11
          refine y_iload_n CC 3 dX5_cellsBarred_53 rfl rfl ?_
          refine y_lload CC 4 dX5_cellsBarred_54 rfl ?_
          refine y_aload_n CC 0 dX5_cellsBarred_56 rfl rfl ?_
          refine y_getr CC gl_X5_49 (by omega) (d := 44) rfl dX5_cellsBarred_57 ?_
          refine y_iload_n CC 1 dX5_cellsBarred_60 rfl rfl ?_
          refine y_ialdN CC (n := 4) (by omega) (by decide) (by omega) (by omega) (v := nI (θ k 1)) (hSM.ln (by omega) (by omega)) dX5_cellsBarred_61 ?_
          refine y_callSI (st := []) CC cl_X5_108 (m_isBeyond l D ad kI kS kL μ i n.toInt64 (n.toInt) (l_i _) (by omega) (θ k 1) (by omega)) rfl rfl (Nat.le_of_ble_eq_true rfl) ⟨by decide, by decide⟩ ⟨Nat.zero_le _, Nat.zero_le _⟩ dX5_cellsBarred_62 (fun r_ μ_ w_13 => ?_)
          rcases w_13 with ⟨rfl, ⟨y_12, rfl⟩ | ⟨y_12, rfl⟩⟩
          · skip
            refine z_if_eqF CC 76 dX5_cellsBarred_65 (by decide) (a := (1 : Int)) (nI_toInt (by decide)) (by decide) ?_
            refine y_aload_n CC 0 dX5_cellsBarred_68 rfl rfl ?_
            refine y_iconst CC (nI 3) dX5_cellsBarred_69 (by decide) ?_
            refine y_callVI (ci := 5) (st := []) CC cl_X5_104 (m_failed l D ad kI kS kL μ 3) (by omega) rfl rfl rfl (Nat.le_of_ble_eq_true rfl) ⟨by decide, by decide⟩ ⟨Nat.zero_le _, Nat.zero_le _⟩ dX5_cellsBarred_70 (fun r_ μ_ w_14 => ?_)
            obtain ⟨rfl, rfl⟩ := w_14
            refine y_goto CC 77 dX5_cellsBarred_73 (by decide) ?_
            exact y_iret CC hQ dX5_cellsBarred_77 (Or.inr ⟨trivial, by rw [show cbF (θ k 0) (θ k 1) la i n = 3 from cb_3 (by omega) (by omega) (by omega)]; exact ⟨by decide, rfl, rfl⟩⟩)
          · skip
            refine z_if_eqT CC 76 dX5_cellsBarred_65 (by decide) (a := (0 : Int)) (nI_toInt (by decide)) (by decide) ?_
            refine y_iconst CC (nI 0) dX5_cellsBarred_76 (by decide) ?_
            exact y_iret CC hQ dX5_cellsBarred_77 (Or.inl ⟨cb_0 (by omega) (by omega) (by omega), rfl, rfl⟩)
        · skip
          rw [lc_lt (a := n.toInt) (b := (0 : Int)) (l_i _) (by decide)] at c_11
          refine y_aload_n CC 0 dX5_cellsBarred_47 rfl rfl ?_
          refine y_iconst CC (nI 4) dX5_cellsBarred_48 (by decide) ?_
          refine y_callVI (ci := 5) (st := []) CC cl_X5_104 (m_failed l D ad kI kS kL μ 4) (by omega) rfl rfl rfl (Nat.le_of_ble_eq_true rfl) ⟨by decide, by decide⟩ ⟨Nat.zero_le _, Nat.zero_le _⟩ dX5_cellsBarred_49 (fun r_ μ_ w_15 => ?_)
          obtain ⟨rfl, rfl⟩ := w_15
          exact y_iret CC hQ dX5_cellsBarred_52 (Or.inr ⟨trivial, by rw [show cbF (θ k 0) (θ k 1) la i n = 4 from cb_4 (by omega) (by omega)]; exact ⟨by decide, rfl, rfl⟩⟩)
      · skip
        refine y_aload_n CC 0 dX5_cellsBarred_34 rfl rfl ?_
        refine y_iconst CC (nI 1) dX5_cellsBarred_35 (by decide) ?_
        refine y_callVI (ci := 5) (st := []) CC cl_X5_104 (m_failed l D ad kI kS kL μ 1) (by omega) rfl rfl rfl (Nat.le_of_ble_eq_true rfl) ⟨by decide, by decide⟩ ⟨Nat.zero_le _, Nat.zero_le _⟩ dX5_cellsBarred_36 (fun r_ μ_ w_16 => ?_)
        obtain ⟨rfl, rfl⟩ := w_16
        exact y_iret CC hQ dX5_cellsBarred_39 (Or.inr ⟨trivial, by rw [show cbF (θ k 0) (θ k 1) la i n = 1 from cb_1 (by omega)]; exact ⟨by decide, rfl, rfl⟩⟩)
    · skip
      refine y_aload_n CC 0 dX5_cellsBarred_19 rfl rfl ?_
      refine y_iconst CC (nI 2) dX5_cellsBarred_20 (by decide) ?_
      refine y_callVI (ci := 5) (st := []) CC cl_X5_104 (m_failed l D ad kI kS kL μ 2) (by omega) rfl rfl rfl (Nat.le_of_ble_eq_true rfl) ⟨by decide, by decide⟩ ⟨Nat.zero_le _, Nat.zero_le _⟩ dX5_cellsBarred_21 (fun r_ μ_ w_17 => ?_)
      obtain ⟨rfl, rfl⟩ := w_17
      exact y_iret CC hQ dX5_cellsBarred_24 (Or.inr ⟨trivial, by rw [show cbF (θ k 0) (θ k 1) la i n = 2 from cb_2 (by omega) (by omega)]; exact ⟨by decide, rfl, rfl⟩⟩)

set_option maxRecDepth 100000 in
set_option maxHeartbeats 4000000 in
theorem m_sheet (l : Launch) (D : va_G) (ad : Nat → Nat) (kI kS kL : ClassId) (μ : Mem) (θ : Tn) (ζ : Nat → Nat → Int32) (hSM : SM μ θ ζ) (hθ : thB θ) (k la n : Int32) : MI l D ad kI kS kL yX5_sheet cX5_sheet 5 (some .int) 2 45 [.ref (ad 30), .int k, .int la, .int n] μ (fun r μ2 => ((ok_sheet k la n = false → μ2 = mu μ 30 0 (nI (f_sheet k la n))) ∧ (ok_sheet k la n = true → (∀ c1 k1, (c1 ≠ 44 ∨ k1 ≠ ix k) → (c1 ≠ 45 ∨ k1 ≠ ix k) → (c1 ≠ 46 ∨ k1 < 60 * ix k ∨ 60 * ix k + ix n ≤ k1) → μ2 c1 k1 = mu μ 30 0 (nI 0) c1 k1) ∧ (∀ j, j < ix n → μ2 46 (60 * ix k + j) = nI 0) ∧ μ2 44 (ix k) = n ∧ μ2 45 (ix k) = la)) ∧ r = q_sheet k la n) := by
  refine met_I RX5 rfl (by decide) (lv := [(0, .ref (ad 30)), (1, .int k), (2, .int la), (3, .int n)]) rfl (Nat.le_of_ble_eq_true rfl) ?_
  intro pp ee ss mm aa bb me cd AA hA0 CC hnm QQ hQ
  refine y_iload_n CC 1 dX5_sheet_0 rfl rfl ?_
  refine y_callSI (st := []) CC cl_X5_112 (m_noSheet l D ad kI kS kL μ k) rfl rfl (Nat.le_of_ble_eq_true rfl) ⟨by decide, by decide⟩ ⟨Nat.zero_le _, Nat.zero_le _⟩ dX5_sheet_1 (fun r_ μ_ w_2 => ?_)
  rcases w_2 with ⟨rfl, ⟨b_1, rfl⟩ | ⟨b_1, rfl⟩⟩
  · skip
    refine z_if_eqF CC 13 dX5_sheet_4 (by decide) (a := (1 : Int)) (nI_toInt (by decide)) (by decide) ?_
    refine y_aload_n CC 0 dX5_sheet_7 rfl rfl ?_
    refine y_iconst CC ((-1)) dX5_sheet_8 (by decide) ?_
    refine y_callVI (ci := 5) (st := []) CC cl_X5_116 (m_refused l D ad kI kS kL μ (-1)) (by omega) rfl rfl rfl (Nat.le_of_ble_eq_true rfl) ⟨by decide, by decide⟩ ⟨Nat.zero_le _, Nat.zero_le _⟩ dX5_sheet_9 (fun r_ μ_ w_3 => ?_)
    obtain ⟨rfl, rfl⟩ := w_3
    exact y_iret CC hQ dX5_sheet_12 (⟨⟨fun _ => by simp [f_sheet, b_1], fun h_ => by simp [ok_sheet, b_1] at h_⟩, by simp [q_sheet, b_1]⟩)
  · skip
    obtain ⟨jk, hjk, rfl⟩ := inB_of b_1 (by omega)
    have hz_jk := szZ_or (θ jk 0) (θ jk 1)
    have ht_jk := hθ jk (by omega)
    refine z_if_eqT CC 13 dX5_sheet_4 (by decide) (a := (0 : Int)) (nI_toInt (by decide)) (by decide) ?_
    refine y_iload_n CC 2 dX5_sheet_13 rfl rfl ?_
    refine y_i2l CC dX5_sheet_14 (v := (la).toInt64) rfl ?_
    refine y_lconst CC 0 dX5_sheet_15 rfl ?_
    refine y_ldc2 CC kl_X5_119 dX5_sheet_16 ?_
    refine y_callSI (st := []) CC cl_X5_74 (m_in l D ad kI kS kL μ ((la).toInt64) 0 (2) ((la).toInt) ((0 : Int)) ((2 : Int))  ((l_i _).trans rfl) (by decide) (by decide)) rfl rfl (Nat.le_of_ble_eq_true rfl) ⟨by decide, by decide⟩ ⟨Nat.zero_le _, Nat.zero_le _⟩ dX5_sheet_19 (fun r_ μ_ w_5 => ?_)
    rcases w_5 with ⟨rfl, ⟨i_4, rfl⟩ | ⟨i_4, rfl⟩⟩
    · skip
      have hv_jl : inB la 3 = true := inB_t (by omega)
      obtain ⟨jl, hjl, rfl⟩ := inB_of hv_jl (by omega)
      refine z_if_eqF CC 31 dX5_sheet_22 (by decide) (a := (1 : Int)) (nI_toInt (by decide)) (by decide) ?_
      refine y_iload_n CC 3 dX5_sheet_25 rfl rfl ?_
      refine y_bipush CC (nI 60) dX5_sheet_26 (by decide) ?_
      refine z_icmp_le CC 38 dX5_sheet_28 (by decide) (a := (n).toInt) (b := (60 : Int)) rfl (nI_toInt (by decide)) (fun c_6 => ?_) (fun c_6 => ?_)
      · skip
        refine y_iload_n CC 3 dX5_sheet_38 rfl rfl ?_
        refine z_if_ge CC 48 dX5_sheet_39 (by decide) (a := (n).toInt) rfl (fun c_7 => ?_) (fun c_7 => ?_)
        · skip
          obtain ⟨jn, hjn, rfl⟩ := inB_of (x := n) (n := 61) (inB_t (by omega)) (by omega)
          have hn1_ : (nI jn).toInt ≤ 60 := by rw [nI_toInt (by omega)]; omega
          have hn2_ : ¬ (nI jn).toInt < 0 := by rw [nI_toInt (by omega)]; omega
          have hn3_ : inB (nI jn) 61 = true := inB_nI hjn (by omega)
          refine y_aload_n CC 0 dX5_sheet_48 rfl rfl ?_
          refine y_getr CC gl_X5_49 (by omega) (d := 44) rfl dX5_sheet_49 ?_
          refine y_iload_n CC 1 dX5_sheet_52 rfl rfl ?_
          refine y_iload_n CC 3 dX5_sheet_53 rfl rfl ?_
          refine y_iastN CC (n := 4) (by omega) (by decide) (by omega) (by omega) dX5_sheet_54 ?_
          refine y_aload_n CC 0 dX5_sheet_55 rfl rfl ?_
          refine y_getr CC gl_X5_52 (by omega) (d := 45) rfl dX5_sheet_56 ?_
          refine y_iload_n CC 1 dX5_sheet_59 rfl rfl ?_
          refine y_iload_n CC 2 dX5_sheet_60 rfl rfl ?_
          refine y_iastN CC (n := 4) (by omega) (by decide) (by omega) (by omega) dX5_sheet_61 ?_
          refine y_iconst CC (nI 0) dX5_sheet_62 (by decide) ?_
          refine y_istore CC [(4, .int (nI 0)), (0, .ref (ad 30)), (1, .int (nI jk)), (2, .int (nI jl)), (3, .int (nI jn))] dX5_sheet_63 (by decide) rfl ?_
          have L65 : ∀ (n65 : Nat) (x : Nat) (ν : Mem), jn - x < n65 → (x ≤ jn) → (∀ c1 k1, (c1 ≠ 46 ∨ k1 < 60 * jk ∨ 60 * jk + jn ≤ k1) → ν c1 k1 = mu (mu μ 44 jk (nI jn)) 45 jk (nI jl) c1 k1) → (∀ i, i < x → ν 46 (60 * jk + i) = nI 0) → Y pp l ee (rmY 2 45) ss mm aa bb me cd D ad kI kS kL AA 5 0 0 QQ 65 [(4, .int (nI x)), (0, .ref (ad 30)), (1, .int (nI jk)), (2, .int (nI jl)), (3, .int (nI jn))] [] ν := by
            intro n65
            induction n65 with
            | zero => intro x ν hm65; exact absurd hm65 (Nat.not_lt_zero _)
            | succ n65 ih65 =>
              intro x ν hm65 hx hF hW
              refine y_iload CC 0 dX5_sheet_65 rfl ?_
              refine y_iload_n CC 4 dX5_sheet_67 rfl rfl ?_
              refine z_icmp_ge CC 90 dX5_sheet_68 (by decide) (a := ((x : Nat) : Int)) (b := ((jn : Nat) : Int)) (nI_toInt (by omega)) (nI_toInt (by omega)) (fun c_9 => ?_) (fun c_9 => ?_)
              · skip
                refine y_aload_n CC 1 dX5_sheet_90 rfl rfl ?_
                refine y_iconst CC (nI 1) dX5_sheet_91 (by decide) ?_
                refine y_callVI (ci := 5) (st := []) CC cl_X5_116 (m_refused l D ad kI kS kL ν (nI 1)) (by omega) rfl rfl rfl (Nat.le_of_ble_eq_true rfl) ⟨by decide, by decide⟩ ⟨Nat.zero_le _, Nat.zero_le _⟩ dX5_sheet_92 (fun r_ μ_ w_10 => ?_)
                obtain ⟨rfl, rfl⟩ := w_10
                refine y_iret CC hQ dX5_sheet_95 ?_
                refine ⟨⟨fun h_ => by simp [ok_sheet, b_1, ix_nI (show jk < 2 ^ 31 by omega), hv_jl, ix_nI (show jl < 2 ^ 31 by omega), hn3_] at h_, fun _ => ?_⟩, by simp [q_sheet, b_1, ix_nI (show jk < 2 ^ 31 by omega), hv_jl, ix_nI (show jl < 2 ^ 31 by omega), hn3_, hn1_, hn2_]⟩
                simp only [ix_nI (show jk < 2 ^ 31 by omega), ix_nI (show jn < 2 ^ 31 by omega)]
                refine ⟨fun c1 k1 h1 h2 h3 => ?_, fun j hj => ?_, ?_, ?_⟩
                · rw [mu_if, mu_if]; split; rfl; rw [hF c1 k1 h3, mu_ne _ _ h2, mu_ne _ _ h1]
                · rw [mu_ne _ _ (Or.inl (by decide))]; exact hW j (by omega)
                · rw [mu_ne _ _ (Or.inl (by decide)), hF 44 jk (Or.inl (by decide)), mu_ne _ _ (Or.inl (by decide)), mu_at]
                · rw [mu_ne _ _ (Or.inl (by decide)), hF 45 jk (Or.inl (by decide)), mu_at]
              · skip
                refine y_aload_n CC 1 dX5_sheet_71 rfl rfl ?_
                refine y_getr CC gl_X5_55 (by omega) (d := 46) rfl dX5_sheet_72 ?_
                refine y_bipush CC (nI 60) dX5_sheet_75 (by decide) ?_
                refine y_iload_n CC 2 dX5_sheet_77 rfl rfl ?_
                refine y_imul CC dX5_sheet_78 (v := nI (60 * jk)) (pk_mul _ _) ?_
                refine y_iload CC 0 dX5_sheet_79 rfl ?_
                refine y_iadd CC dX5_sheet_81 (v := nI ((60 * jk) + x)) (nI_add _ _) ?_
                refine y_iconst CC (nI 0) dX5_sheet_82 (by decide) ?_
                refine y_iastN CC (n := 240) (by omega) (by decide) (by omega) (by omega) dX5_sheet_83 ?_
                refine y_iinc CC 0 (nI (x + 1)) [(4, .int (nI (x + 1))), (0, .ref (ad 30)), (1, .int (nI jk)), (2, .int (nI jl)), (3, .int (nI jn))] dX5_sheet_84 rfl (i_inc _) (by decide) rfl ?_
                refine y_goto CC 65 dX5_sheet_87 (by decide) ?_
                exact ih65 (x + 1) (mu ν 46 ((60 * jk) + x) (nI 0)) (by omega) (by omega) (fun c1 k1 h_ => by rw [mu_ne _ _ (by omega)]; exact hF c1 k1 h_) (fun i_ hi_ => by rcases (show i_ < x ∨ i_ = x by omega) with h_ | rfl; rw [mu_k _ _ (by omega)]; exact hW i_ h_; exact mu_at _ _ _ _)
          exact L65 _ 0 (mu (mu μ 44 jk (nI jn)) 45 jk (nI jl)) (Nat.lt_succ_self _) (Nat.zero_le _) (fun _ _ _ => rfl) (fun i_ h_ => absurd h_ (Nat.not_lt_zero i_))
        · skip
          have hn1_ : n.toInt ≤ 60 := by omega
          have hn2_ : n.toInt < 0 := by omega
          have hn3_ : inB n 61 = false := inB_f (by omega)
          refine y_aload_n CC 0 dX5_sheet_42 rfl rfl ?_
          refine y_iconst CC (nI 4) dX5_sheet_43 (by decide) ?_
          refine y_callVI (ci := 5) (st := []) CC cl_X5_104 (m_failed l D ad kI kS kL μ 4) (by omega) rfl rfl rfl (Nat.le_of_ble_eq_true rfl) ⟨by decide, by decide⟩ ⟨Nat.zero_le _, Nat.zero_le _⟩ dX5_sheet_44 (fun r_ μ_ w_11 => ?_)
          obtain ⟨rfl, rfl⟩ := w_11
          exact y_iret CC hQ dX5_sheet_47 (⟨⟨fun _ => by simp [f_sheet, b_1, ix_nI (show jk < 2 ^ 31 by omega), hv_jl, ix_nI (show jl < 2 ^ 31 by omega), hn1_, hn2_, hn3_], fun h_ => by simp [ok_sheet, b_1, ix_nI (show jk < 2 ^ 31 by omega), hv_jl, ix_nI (show jl < 2 ^ 31 by omega), hn1_, hn2_, hn3_] at h_⟩, by simp [q_sheet, b_1, ix_nI (show jk < 2 ^ 31 by omega), hv_jl, ix_nI (show jl < 2 ^ 31 by omega), hn1_, hn2_, hn3_]⟩)
      · skip
        have hn1_ : ¬ n.toInt ≤ 60 := by omega
        have hn2_ : ¬ n.toInt < 0 := by omega
        have hn3_ : inB n 61 = false := inB_f (by omega)
        refine y_aload_n CC 0 dX5_sheet_31 rfl rfl ?_
        refine y_bipush CC ((-2)) dX5_sheet_32 (by decide) ?_
        refine y_callVI (ci := 5) (st := []) CC cl_X5_116 (m_refused l D ad kI kS kL μ (-2)) (by omega) rfl rfl rfl (Nat.le_of_ble_eq_true rfl) ⟨by decide, by decide⟩ ⟨Nat.zero_le _, Nat.zero_le _⟩ dX5_sheet_34 (fun r_ μ_ w_12 => ?_)
        obtain ⟨rfl, rfl⟩ := w_12
        exact y_iret CC hQ dX5_sheet_37 (⟨⟨fun _ => by simp [f_sheet, b_1, ix_nI (show jk < 2 ^ 31 by omega), hv_jl, ix_nI (show jl < 2 ^ 31 by omega), hn1_, hn2_, hn3_], fun h_ => by simp [ok_sheet, b_1, ix_nI (show jk < 2 ^ 31 by omega), hv_jl, ix_nI (show jl < 2 ^ 31 by omega), hn1_, hn2_, hn3_] at h_⟩, by simp [q_sheet, b_1, ix_nI (show jk < 2 ^ 31 by omega), hv_jl, ix_nI (show jl < 2 ^ 31 by omega), hn1_, hn2_, hn3_]⟩)
    · skip
      have hv_jl : inB la 3 = false := inB_f (by omega)
      refine z_if_eqT CC 31 dX5_sheet_22 (by decide) (a := (0 : Int)) (nI_toInt (by decide)) (by decide) ?_
      refine y_aload_n CC 0 dX5_sheet_31 rfl rfl ?_
      refine y_bipush CC ((-2)) dX5_sheet_32 (by decide) ?_
      refine y_callVI (ci := 5) (st := []) CC cl_X5_116 (m_refused l D ad kI kS kL μ (-2)) (by omega) rfl rfl rfl (Nat.le_of_ble_eq_true rfl) ⟨by decide, by decide⟩ ⟨Nat.zero_le _, Nat.zero_le _⟩ dX5_sheet_34 (fun r_ μ_ w_13 => ?_)
      obtain ⟨rfl, rfl⟩ := w_13
      exact y_iret CC hQ dX5_sheet_37 (⟨⟨fun _ => by simp [f_sheet, b_1, ix_nI (show jk < 2 ^ 31 by omega), hv_jl], fun h_ => by simp [ok_sheet, b_1, ix_nI (show jk < 2 ^ 31 by omega), hv_jl] at h_⟩, by simp [q_sheet, b_1, ix_nI (show jk < 2 ^ 31 by omega), hv_jl]⟩)

set_option maxRecDepth 100000 in
set_option maxHeartbeats 4000000 in
theorem m_lose (l : Launch) (D : va_G) (ad : Nat → Nat) (kI kS kL : ClassId) (μ : Mem) (θ : Tn) (ζ : Nat → Nat → Int32) (hSM : SM μ θ ζ) (hθ : thB θ) (k : Int32) : MI l D ad kI kS kL yX5_lose cX5_lose 3 (some .int) 2 45 [.ref (ad 30), .int k] μ (fun r μ2 => (μ2 = if inB k 4 = true then mu μ 44 (ix k) (-1) else μ) ∧ r = q_lose θ k) := by
  refine met_I RX5 rfl (by decide) (lv := [(0, .ref (ad 30)), (1, .int k)]) rfl (Nat.le_of_ble_eq_true rfl) ?_
  intro pp ee ss mm aa bb me cd AA hA0 CC hnm QQ hQ
  refine y_iload_n CC 1 dX5_lose_0 rfl rfl ?_
  refine y_callSI (st := []) CC cl_X5_112 (m_noSheet l D ad kI kS kL μ k) rfl rfl (Nat.le_of_ble_eq_true rfl) ⟨by decide, by decide⟩ ⟨Nat.zero_le _, Nat.zero_le _⟩ dX5_lose_1 (fun r_ μ_ w_2 => ?_)
  rcases w_2 with ⟨rfl, ⟨b_1, rfl⟩ | ⟨b_1, rfl⟩⟩
  · skip
    refine z_if_eqF CC 9 dX5_lose_4 (by decide) (a := (1 : Int)) (nI_toInt (by decide)) (by decide) ?_
    refine y_iconst CC ((-1)) dX5_lose_7 (by decide) ?_
    exact y_iret CC hQ dX5_lose_8 (⟨by simp [b_1, mu_mu], by simp [q_lose, b_1]⟩)
  · skip
    obtain ⟨jk, hjk, rfl⟩ := inB_of b_1 (by omega)
    have hz_jk := szZ_or (θ jk 0) (θ jk 1)
    have ht_jk := hθ jk (by omega)
    refine z_if_eqT CC 9 dX5_lose_4 (by decide) (a := (0 : Int)) (nI_toInt (by decide)) (by decide) ?_
    refine y_aload_n CC 0 dX5_lose_9 rfl rfl ?_
    refine y_getr CC gl_X5_49 (by omega) (d := 44) rfl dX5_lose_10 ?_
    refine y_iload_n CC 1 dX5_lose_13 rfl rfl ?_
    refine y_ialdN CC (n := 4) (by omega) (by decide) (by omega) (by omega) (v := szV (θ jk 0) (θ jk 1)) (hSM.sz (by omega)) dX5_lose_14 ?_
    refine z_if_ge CC 22 dX5_lose_15 (by decide) (a := szZ (θ jk 0) (θ jk 1)) (szV_i (by omega)) (fun c_3 => ?_) (fun c_3 => ?_)
    · skip
      have hp_ : ¬ θ jk 0 = 0 := by omega
      refine y_iconst CC (nI 1) dX5_lose_22 (by decide) ?_
      refine y_istore_n CC [(2, .int (nI 1)), (0, .ref (ad 30)), (1, .int (nI jk))] dX5_lose_23 rfl (by decide) rfl ?_
      refine y_aload_n CC 1 dX5_lose_24 rfl rfl ?_
      refine y_getr CC gl_X5_49 (by omega) (d := 44) rfl dX5_lose_25 ?_
      refine y_iload_n CC 2 dX5_lose_28 rfl rfl ?_
      refine y_iconst CC ((-1)) dX5_lose_29 (by decide) ?_
      refine y_iastN CC (n := 4) (by omega) (by decide) (by omega) (by omega) dX5_lose_30 ?_
      refine y_iload_n CC 0 dX5_lose_31 rfl rfl ?_
      exact y_iret CC hQ dX5_lose_32 (⟨by simp [b_1, ix_nI (show jk < 2 ^ 31 by omega), hp_, mu_mu], by simp [q_lose, b_1, ix_nI (show jk < 2 ^ 31 by omega), hp_]⟩)
    · skip
      have hp_ : θ jk 0 = 0 := by omega
      refine y_iconst CC (nI 0) dX5_lose_18 (by decide) ?_
      refine y_goto CC 23 dX5_lose_19 (by decide) ?_
      refine y_istore_n CC [(2, .int (nI 0)), (0, .ref (ad 30)), (1, .int (nI jk))] dX5_lose_23 rfl (by decide) rfl ?_
      refine y_aload_n CC 1 dX5_lose_24 rfl rfl ?_
      refine y_getr CC gl_X5_49 (by omega) (d := 44) rfl dX5_lose_25 ?_
      refine y_iload_n CC 2 dX5_lose_28 rfl rfl ?_
      refine y_iconst CC ((-1)) dX5_lose_29 (by decide) ?_
      refine y_iastN CC (n := 4) (by omega) (by decide) (by omega) (by omega) dX5_lose_30 ?_
      refine y_iload_n CC 0 dX5_lose_31 rfl rfl ?_
      exact y_iret CC hQ dX5_lose_32 (⟨by simp [b_1, ix_nI (show jk < 2 ^ 31 by omega), hp_, mu_mu], by simp [q_lose, b_1, ix_nI (show jk < 2 ^ 31 by omega), hp_]⟩)

set_option maxRecDepth 100000 in
set_option maxHeartbeats 4000000 in
theorem m_put (l : Launch) (D : va_G) (ad : Nat → Nat) (kI kS kL : ClassId) (μ : Mem) (θ : Tn) (ζ : Nat → Nat → Int32) (hSM : SM μ θ ζ) (hθ : thB θ) (k i v : Int32) : MI l D ad kI kS kL yX5_put cX5_put 4 (some .int) 2 47 [.ref (ad 30), .int k, .int i, .int v] μ (fun r μ2 => (μ2 = if ok_put θ k i = true then mu (mu μ 46 (60 * ix k + ix i) (cutI (θ (ix k) 0) v)) 30 0 (nI 0) else mu μ 30 0 (nI (f_put θ k i))) ∧ r = q_put θ k i) := by
  refine met_I RX5 rfl (by decide) (lv := [(0, .ref (ad 30)), (1, .int k), (2, .int i), (3, .int v)]) rfl (Nat.le_of_ble_eq_true rfl) ?_
  intro pp ee ss mm aa bb me cd AA hA0 CC hnm QQ hQ
  refine y_iload_n CC 1 dX5_put_0 rfl rfl ?_
  refine y_callSI (st := []) CC cl_X5_112 (m_noSheet l D ad kI kS kL μ k) rfl rfl (Nat.le_of_ble_eq_true rfl) ⟨by decide, by decide⟩ ⟨Nat.zero_le _, Nat.zero_le _⟩ dX5_put_1 (fun r_ μ_ w_2 => ?_)
  rcases w_2 with ⟨rfl, ⟨b_1, rfl⟩ | ⟨b_1, rfl⟩⟩
  · skip
    refine z_if_eqF CC 13 dX5_put_4 (by decide) (a := (1 : Int)) (nI_toInt (by decide)) (by decide) ?_
    refine y_aload_n CC 0 dX5_put_7 rfl rfl ?_
    refine y_iconst CC ((-1)) dX5_put_8 (by decide) ?_
    refine y_callVI (ci := 5) (st := []) CC cl_X5_116 (m_refused l D ad kI kS kL μ (-1)) (by omega) rfl rfl rfl (Nat.le_of_ble_eq_true rfl) ⟨by decide, by decide⟩ ⟨Nat.zero_le _, Nat.zero_le _⟩ dX5_put_9 (fun r_ μ_ w_3 => ?_)
    obtain ⟨rfl, rfl⟩ := w_3
    exact y_iret CC hQ dX5_put_12 (⟨by simp [ok_put, f_put, b_1, mu_mu], by simp [q_put, b_1]⟩)
  · skip
    obtain ⟨jk, hjk, rfl⟩ := inB_of b_1 (by omega)
    have hz_jk := szZ_or (θ jk 0) (θ jk 1)
    have ht_jk := hθ jk (by omega)
    refine z_if_eqT CC 13 dX5_put_4 (by decide) (a := (0 : Int)) (nI_toInt (by decide)) (by decide) ?_
    refine y_aload_n CC 0 dX5_put_13 rfl rfl ?_
    refine y_iload_n CC 1 dX5_put_14 rfl rfl ?_
    refine y_iload_n CC 2 dX5_put_15 rfl rfl ?_
    refine y_callVI (ci := 5) (st := []) CC cl_X5_203 (m_noCell l D ad kI kS kL μ θ ζ hSM hθ jk (by omega) i) (by omega) rfl rfl rfl (Nat.le_of_ble_eq_true rfl) ⟨by decide, by decide⟩ ⟨Nat.zero_le _, Nat.zero_le _⟩ dX5_put_16 (fun r_ μ_ w_4 => ?_)
    obtain ⟨rfl, rfl⟩ := w_4
    rcases nc_or (θ jk 0) (θ jk 1) i with ⟨h0_, hn_⟩ | ⟨h0_, h1_, hn_⟩ | ⟨h0_, h1_, hn_⟩
    · skip
      refine y_top (y := nI 1) (by rw [hn_]) ?_
      refine z_if_leF CC 33 dX5_put_19 (by decide) (a := (1 : Int)) (nI_toInt (by decide)) (by decide) ?_
      refine y_aload_n CC 0 dX5_put_22 rfl rfl ?_
      refine y_aload_n CC 0 dX5_put_23 rfl rfl ?_
      refine y_iload_n CC 1 dX5_put_24 rfl rfl ?_
      refine y_iload_n CC 2 dX5_put_25 rfl rfl ?_
      refine y_callVI (ci := 5) (st := [.ref (ad 30)]) CC cl_X5_203 (m_noCell l D ad kI kS kL μ θ ζ hSM hθ jk (by omega) i) (by omega) rfl rfl rfl (Nat.le_of_ble_eq_true rfl) ⟨by decide, by decide⟩ ⟨Nat.zero_le _, Nat.zero_le _⟩ dX5_put_26 (fun r_ μ_ w_5 => ?_)
      obtain ⟨rfl, rfl⟩ := w_5
      refine y_top (y := nI 1) (by rw [hn_]) ?_
      refine y_callVI (ci := 5) (st := []) CC cl_X5_104 (m_failed l D ad kI kS kL μ 1) (by omega) rfl rfl rfl (Nat.le_of_ble_eq_true rfl) ⟨by decide, by decide⟩ ⟨Nat.zero_le _, Nat.zero_le _⟩ dX5_put_29 (fun r_ μ_ w_6 => ?_)
      obtain ⟨rfl, rfl⟩ := w_6
      exact y_iret CC hQ dX5_put_32 (⟨by simp [ok_put, f_put, b_1, ix_nI (show jk < 2 ^ 31 by omega), h0_, mu_mu], by simp [q_put, b_1, ix_nI (show jk < 2 ^ 31 by omega), h0_]⟩)
    · skip
      have hp_ : ¬ θ jk 0 = 0 := by omega
      refine y_top (y := nI 0) (by rw [hn_]) ?_
      obtain ⟨ji, hji, rfl⟩ := inB_of h1_ (by omega)
      refine z_if_leT CC 33 dX5_put_19 (by decide) (a := (0 : Int)) (nI_toInt (by decide)) (by decide) ?_
      refine y_aload_n CC 0 dX5_put_33 rfl rfl ?_
      refine y_getr CC gl_X5_55 (by omega) (d := 46) rfl dX5_put_34 ?_
      refine y_bipush CC (nI 60) dX5_put_37 (by decide) ?_
      refine y_iload_n CC 1 dX5_put_39 rfl rfl ?_
      refine y_imul CC dX5_put_40 (v := nI (60 * jk)) (pk_mul _ _) ?_
      refine y_iload_n CC 2 dX5_put_41 rfl rfl ?_
      refine y_iadd CC dX5_put_42 (v := nI ((60 * jk) + ji)) (nI_add _ _) ?_
      refine y_aload_n CC 0 dX5_put_43 rfl rfl ?_
      refine y_getr CC gl_X5_52 (by omega) (d := 45) rfl dX5_put_44 ?_
      refine y_iload_n CC 1 dX5_put_47 rfl rfl ?_
      refine y_ialdN CC (n := 4) (by omega) (by decide) (by omega) (by omega) (v := nI (θ jk 0 - 1)) (hSM.la (by omega) (by omega)) dX5_put_48 ?_
      refine z_if_ne CC 57 dX5_put_49 (by decide) (a := ((θ jk 0 - 1 : Nat) : Int)) (nI_toInt (by omega)) (fun c_7 => ?_) (fun c_7 => ?_)
      · skip
        refine y_aload_n CC 0 dX5_put_57 rfl rfl ?_
        refine y_getr CC gl_X5_52 (by omega) (d := 45) rfl dX5_put_58 ?_
        refine y_iload_n CC 1 dX5_put_61 rfl rfl ?_
        refine y_ialdN CC (n := 4) (by omega) (by decide) (by omega) (by omega) (v := nI (θ jk 0 - 1)) (hSM.la (by omega) (by omega)) dX5_put_62 ?_
        refine y_iconst CC (nI 1) dX5_put_63 (by decide) ?_
        refine z_icmp_ne CC 72 dX5_put_64 (by decide) (a := ((θ jk 0 - 1 : Nat) : Int)) (b := (1 : Int)) (nI_toInt (by omega)) (nI_toInt (by decide)) (fun c_8 => ?_) (fun c_8 => ?_)
        · skip
          refine y_iload_n CC 3 dX5_put_72 rfl rfl ?_
          refine y_top (y := cutI (θ jk 0) v) (by unfold cutI; first | rw [if_pos (by omega)] | rw [if_neg (by omega), if_pos (by omega)] | rw [if_neg (by omega), if_neg (by omega)]) ?_
          refine y_iastN CC (n := 240) (by omega) (by decide) (by omega) (by omega) dX5_put_73 ?_
          refine y_aload_n CC 0 dX5_put_74 rfl rfl ?_
          refine y_iconst CC (nI 1) dX5_put_75 (by decide) ?_
          refine y_callVI (ci := 5) (st := []) CC cl_X5_116 (m_refused l D ad kI kS kL (mu μ 46 ((60 * jk) + ji) (cutI (θ jk 0) v)) (nI 1)) (by omega) rfl rfl rfl (Nat.le_of_ble_eq_true rfl) ⟨by decide, by decide⟩ ⟨Nat.zero_le _, Nat.zero_le _⟩ dX5_put_76 (fun r_ μ_ w_9 => ?_)
          obtain ⟨rfl, rfl⟩ := w_9
          exact y_iret CC hQ dX5_put_79 (⟨by simp [ok_put, f_put, b_1, ix_nI (show jk < 2 ^ 31 by omega), h0_, hp_, h1_, ix_nI (show ji < 2 ^ 31 by omega), mu_mu], by simp [q_put, b_1, ix_nI (show jk < 2 ^ 31 by omega), h0_, hp_, h1_, ix_nI (show ji < 2 ^ 31 by omega)]⟩)
        · skip
          refine y_iload_n CC 3 dX5_put_67 rfl rfl ?_
          refine y_i2s CC dX5_put_68 (v := (v).toInt16.toInt32) rfl ?_
          refine y_goto CC 73 dX5_put_69 (by decide) ?_
          refine y_top (y := cutI (θ jk 0) v) (by unfold cutI; first | rw [if_pos (by omega)] | rw [if_neg (by omega), if_pos (by omega)] | rw [if_neg (by omega), if_neg (by omega)]) ?_
          refine y_iastN CC (n := 240) (by omega) (by decide) (by omega) (by omega) dX5_put_73 ?_
          refine y_aload_n CC 0 dX5_put_74 rfl rfl ?_
          refine y_iconst CC (nI 1) dX5_put_75 (by decide) ?_
          refine y_callVI (ci := 5) (st := []) CC cl_X5_116 (m_refused l D ad kI kS kL (mu μ 46 ((60 * jk) + ji) (cutI (θ jk 0) v)) (nI 1)) (by omega) rfl rfl rfl (Nat.le_of_ble_eq_true rfl) ⟨by decide, by decide⟩ ⟨Nat.zero_le _, Nat.zero_le _⟩ dX5_put_76 (fun r_ μ_ w_10 => ?_)
          obtain ⟨rfl, rfl⟩ := w_10
          exact y_iret CC hQ dX5_put_79 (⟨by simp [ok_put, f_put, b_1, ix_nI (show jk < 2 ^ 31 by omega), h0_, hp_, h1_, ix_nI (show ji < 2 ^ 31 by omega), mu_mu], by simp [q_put, b_1, ix_nI (show jk < 2 ^ 31 by omega), h0_, hp_, h1_, ix_nI (show ji < 2 ^ 31 by omega)]⟩)
      · skip
        refine y_iload_n CC 3 dX5_put_52 rfl rfl ?_
        refine y_i2b CC dX5_put_53 (v := (v).toInt8.toInt32) rfl ?_
        refine y_goto CC 73 dX5_put_54 (by decide) ?_
        refine y_top (y := cutI (θ jk 0) v) (by unfold cutI; first | rw [if_pos (by omega)] | rw [if_neg (by omega), if_pos (by omega)] | rw [if_neg (by omega), if_neg (by omega)]) ?_
        refine y_iastN CC (n := 240) (by omega) (by decide) (by omega) (by omega) dX5_put_73 ?_
        refine y_aload_n CC 0 dX5_put_74 rfl rfl ?_
        refine y_iconst CC (nI 1) dX5_put_75 (by decide) ?_
        refine y_callVI (ci := 5) (st := []) CC cl_X5_116 (m_refused l D ad kI kS kL (mu μ 46 ((60 * jk) + ji) (cutI (θ jk 0) v)) (nI 1)) (by omega) rfl rfl rfl (Nat.le_of_ble_eq_true rfl) ⟨by decide, by decide⟩ ⟨Nat.zero_le _, Nat.zero_le _⟩ dX5_put_76 (fun r_ μ_ w_11 => ?_)
        obtain ⟨rfl, rfl⟩ := w_11
        exact y_iret CC hQ dX5_put_79 (⟨by simp [ok_put, f_put, b_1, ix_nI (show jk < 2 ^ 31 by omega), h0_, hp_, h1_, ix_nI (show ji < 2 ^ 31 by omega), mu_mu], by simp [q_put, b_1, ix_nI (show jk < 2 ^ 31 by omega), h0_, hp_, h1_, ix_nI (show ji < 2 ^ 31 by omega)]⟩)
    · skip
      have hp_ : ¬ θ jk 0 = 0 := by omega
      refine y_top (y := nI 3) (by rw [hn_]) ?_
      refine z_if_leF CC 33 dX5_put_19 (by decide) (a := (3 : Int)) (nI_toInt (by decide)) (by decide) ?_
      refine y_aload_n CC 0 dX5_put_22 rfl rfl ?_
      refine y_aload_n CC 0 dX5_put_23 rfl rfl ?_
      refine y_iload_n CC 1 dX5_put_24 rfl rfl ?_
      refine y_iload_n CC 2 dX5_put_25 rfl rfl ?_
      refine y_callVI (ci := 5) (st := [.ref (ad 30)]) CC cl_X5_203 (m_noCell l D ad kI kS kL μ θ ζ hSM hθ jk (by omega) i) (by omega) rfl rfl rfl (Nat.le_of_ble_eq_true rfl) ⟨by decide, by decide⟩ ⟨Nat.zero_le _, Nat.zero_le _⟩ dX5_put_26 (fun r_ μ_ w_12 => ?_)
      obtain ⟨rfl, rfl⟩ := w_12
      refine y_top (y := nI 3) (by rw [hn_]) ?_
      refine y_callVI (ci := 5) (st := []) CC cl_X5_104 (m_failed l D ad kI kS kL μ 3) (by omega) rfl rfl rfl (Nat.le_of_ble_eq_true rfl) ⟨by decide, by decide⟩ ⟨Nat.zero_le _, Nat.zero_le _⟩ dX5_put_29 (fun r_ μ_ w_13 => ?_)
      obtain ⟨rfl, rfl⟩ := w_13
      exact y_iret CC hQ dX5_put_32 (⟨by simp [ok_put, f_put, b_1, ix_nI (show jk < 2 ^ 31 by omega), h0_, hp_, h1_, mu_mu], by simp [q_put, b_1, ix_nI (show jk < 2 ^ 31 by omega), h0_, hp_, h1_]⟩)

set_option maxRecDepth 100000 in
set_option maxHeartbeats 4000000 in
theorem m_cell (l : Launch) (D : va_G) (ad : Nat → Nat) (kI kS kL : ClassId) (μ : Mem) (θ : Tn) (ζ : Nat → Nat → Int32) (hSM : SM μ θ ζ) (hθ : thB θ) (k i la : Int32) : ML l D ad kI kS kL yX5_cell cX5_cell 4 (some .long) 2 47 [.ref (ad 30), .int k, .int i, .int la] μ (fun r μ2 => μ2 = mu μ 30 0 (nI (f_cell θ k i la)) ∧ r = q_cell θ ζ k i la) := by
  refine met_L RX5 rfl (by decide) (lv := [(0, .ref (ad 30)), (1, .int k), (2, .int i), (3, .int la)]) rfl (Nat.le_of_ble_eq_true rfl) ?_
  intro pp ee ss mm aa bb me cd AA hA0 CC hnm QQ hQ
  refine y_aload_n CC 0 dX5_cell_0 rfl rfl ?_
  refine y_iconst CC (nI 0) dX5_cell_1 (by decide) ?_
  refine y_puti CC pl_X5_63 (by omega) rfl (Nat.le_of_ble_eq_true rfl) dX5_cell_2 ?_
  have hS0 := hSM.f0 0 (nI 0)
  refine y_iload_n CC 1 dX5_cell_5 rfl rfl ?_
  refine y_callSI (st := []) CC cl_X5_112 (m_noSheet l D ad kI kS kL (mu μ 30 0 (nI 0)) k) rfl rfl (Nat.le_of_ble_eq_true rfl) ⟨by decide, by decide⟩ ⟨Nat.zero_le _, Nat.zero_le _⟩ dX5_cell_6 (fun r_ μ_ w_2 => ?_)
  rcases w_2 with ⟨rfl, ⟨b_1, rfl⟩ | ⟨b_1, rfl⟩⟩
  · skip
    refine z_if_neT CC 24 dX5_cell_9 (by decide) (a := (1 : Int)) (nI_toInt (by decide)) (by decide) ?_
    refine y_callSL (st := []) CC cl_X5_67 (m_lost l D ad kI kS kL (mu μ 30 0 (nI 0)) ) rfl rfl (Nat.le_of_ble_eq_true rfl) ⟨by decide, by decide⟩ ⟨Nat.zero_le _, Nat.zero_le _⟩ dX5_cell_24 (fun r_ μ_ w_3 => ?_)
    obtain ⟨rfl, rfl⟩ := w_3
    exact y_lret CC hQ dX5_cell_27 (⟨by first | (exfalso; omega) | simp [f_cell, farF, mu_mu, b_1], by first | (exfalso; omega) | simp [q_cell, farF, b_1]⟩)
  · skip
    obtain ⟨jk, hjk, rfl⟩ := inB_of b_1 (by omega)
    have hz_jk := szZ_or (θ jk 0) (θ jk 1)
    have ht_jk := hθ jk (by omega)
    refine z_if_neF CC 24 dX5_cell_9 (by decide) (a := (0 : Int)) (nI_toInt (by decide)) (by decide) ?_
    refine y_iload_n CC 3 dX5_cell_12 rfl rfl ?_
    refine y_i2l CC dX5_cell_13 (v := (la).toInt64) rfl ?_
    refine y_lconst CC 0 dX5_cell_14 rfl ?_
    refine y_ldc2 CC kl_X5_119 dX5_cell_15 ?_
    refine y_callSI (st := []) CC cl_X5_74 (m_in l D ad kI kS kL (mu μ 30 0 (nI 0)) ((la).toInt64) 0 (2) ((la).toInt) ((0 : Int)) ((2 : Int))  ((l_i _).trans rfl) (by decide) (by decide)) rfl rfl (Nat.le_of_ble_eq_true rfl) ⟨by decide, by decide⟩ ⟨Nat.zero_le _, Nat.zero_le _⟩ dX5_cell_18 (fun r_ μ_ w_5 => ?_)
    rcases w_5 with ⟨rfl, ⟨i_4, rfl⟩ | ⟨i_4, rfl⟩⟩
    · skip
      have hv_jl : inB la 3 = true := inB_t (by omega)
      obtain ⟨jl, hjl, rfl⟩ := inB_of hv_jl (by omega)
      refine z_if_neT CC 28 dX5_cell_21 (by decide) (a := (1 : Int)) (nI_toInt (by decide)) (by decide) ?_
      refine y_aload_n CC 0 dX5_cell_28 rfl rfl ?_
      refine y_getr CC gl_X5_49 (by omega) (d := 44) rfl dX5_cell_29 ?_
      refine y_iload_n CC 1 dX5_cell_32 rfl rfl ?_
      refine y_ialdN CC (n := 4) (by omega) (by decide) (by omega) (by omega) (v := szV (θ jk 0) (θ jk 1)) (hS0.sz (by omega)) dX5_cell_33 ?_
      refine z_if_lt CC 53 dX5_cell_34 (by decide) (a := szZ (θ jk 0) (θ jk 1)) (szV_i (by omega)) (fun c_6 => ?_) (fun c_6 => ?_)
      · skip
        have hp_ : θ jk 0 = 0 := by omega
        refine y_aload_n CC 0 dX5_cell_53 rfl rfl ?_
        refine y_iload_n CC 1 dX5_cell_54 rfl rfl ?_
        refine y_iload_n CC 2 dX5_cell_55 rfl rfl ?_
        refine y_callVI (ci := 5) (st := []) CC cl_X5_203 (m_noCell l D ad kI kS kL (mu μ 30 0 (nI 0)) θ ζ hS0 hθ jk (by omega) i) (by omega) rfl rfl rfl (Nat.le_of_ble_eq_true rfl) ⟨by decide, by decide⟩ ⟨Nat.zero_le _, Nat.zero_le _⟩ dX5_cell_56 (fun r_ μ_ w_7 => ?_)
        obtain ⟨rfl, rfl⟩ := w_7
        rcases nc_or (θ jk 0) (θ jk 1) i with ⟨h0_, hn_⟩ | ⟨h0_, h1_, hn_⟩ | ⟨h0_, h1_, hn_⟩
        · skip
          refine y_top (y := nI 1) (by rw [hn_]) ?_
          refine z_if_leF CC 75 dX5_cell_59 (by decide) (a := (1 : Int)) (nI_toInt (by decide)) (by decide) ?_
          refine y_aload_n CC 0 dX5_cell_62 rfl rfl ?_
          refine y_aload_n CC 0 dX5_cell_63 rfl rfl ?_
          refine y_iload_n CC 1 dX5_cell_64 rfl rfl ?_
          refine y_iload_n CC 2 dX5_cell_65 rfl rfl ?_
          refine y_callVI (ci := 5) (st := [.ref (ad 30)]) CC cl_X5_203 (m_noCell l D ad kI kS kL (mu μ 30 0 (nI 0)) θ ζ hS0 hθ jk (by omega) i) (by omega) rfl rfl rfl (Nat.le_of_ble_eq_true rfl) ⟨by decide, by decide⟩ ⟨Nat.zero_le _, Nat.zero_le _⟩ dX5_cell_66 (fun r_ μ_ w_8 => ?_)
          obtain ⟨rfl, rfl⟩ := w_8
          refine y_top (y := nI 1) (by rw [hn_]) ?_
          refine y_callVL (ci := 5) (st := []) CC cl_X5_206 (m_failedLong l D ad kI kS kL (mu μ 30 0 (nI 0)) 1) (by omega) rfl rfl rfl (Nat.le_of_ble_eq_true rfl) ⟨by decide, by decide⟩ ⟨Nat.zero_le _, Nat.zero_le _⟩ dX5_cell_69 (fun r_ μ_ w_9 => ?_)
          obtain ⟨rfl, rfl⟩ := w_9
          refine y_goto CC 87 dX5_cell_72 (by decide) ?_
          exact y_lret CC hQ dX5_cell_87 (⟨by first | (exfalso; omega) | simp [f_cell, farF, mu_mu, b_1, ix_nI (show jk < 2 ^ 31 by omega), hv_jl, ix_nI (show jl < 2 ^ 31 by omega), hp_, h0_], by first | (exfalso; omega) | simp [q_cell, farF, b_1, ix_nI (show jk < 2 ^ 31 by omega), hv_jl, ix_nI (show jl < 2 ^ 31 by omega), hp_, h0_]⟩)
        · skip
          have hp_ : ¬ θ jk 0 = 0 := by omega
          refine y_top (y := nI 0) (by rw [hn_]) ?_
          obtain ⟨ji, hji, rfl⟩ := inB_of h1_ (by omega)
          refine z_if_leT CC 75 dX5_cell_59 (by decide) (a := (0 : Int)) (nI_toInt (by decide)) (by decide) ?_
          refine y_aload_n CC 0 dX5_cell_75 rfl rfl ?_
          refine y_getr CC gl_X5_55 (by omega) (d := 46) rfl dX5_cell_76 ?_
          refine y_bipush CC (nI 60) dX5_cell_79 (by decide) ?_
          refine y_iload_n CC 1 dX5_cell_81 rfl rfl ?_
          refine y_imul CC dX5_cell_82 (v := nI (60 * jk)) (pk_mul _ _) ?_
          refine y_iload_n CC 2 dX5_cell_83 rfl rfl ?_
          refine y_iadd CC dX5_cell_84 (v := nI ((60 * jk) + ji)) (nI_add _ _) ?_
          refine y_ialdN CC (n := 240) (by omega) (by decide) (by omega) (by omega) (v := ζ jk ji) ((hS0 jk (by omega)).2.2 ji (by omega)) dX5_cell_85 ?_
          refine y_i2l CC dX5_cell_86 (v := (ζ jk ji).toInt64) rfl ?_
          exact y_lret CC hQ dX5_cell_87 (⟨by first | (exfalso; omega) | simp [f_cell, farF, mu_mu, b_1, ix_nI (show jk < 2 ^ 31 by omega), hv_jl, ix_nI (show jl < 2 ^ 31 by omega), hp_, h0_, hp_, h1_, ix_nI (show ji < 2 ^ 31 by omega)], by first | (exfalso; omega) | simp [q_cell, farF, b_1, ix_nI (show jk < 2 ^ 31 by omega), hv_jl, ix_nI (show jl < 2 ^ 31 by omega), hp_, h0_, hp_, h1_, ix_nI (show ji < 2 ^ 31 by omega)]⟩)
        · skip
          have hp_ : ¬ θ jk 0 = 0 := by omega
          refine y_top (y := nI 3) (by rw [hn_]) ?_
          refine z_if_leF CC 75 dX5_cell_59 (by decide) (a := (3 : Int)) (nI_toInt (by decide)) (by decide) ?_
          refine y_aload_n CC 0 dX5_cell_62 rfl rfl ?_
          refine y_aload_n CC 0 dX5_cell_63 rfl rfl ?_
          refine y_iload_n CC 1 dX5_cell_64 rfl rfl ?_
          refine y_iload_n CC 2 dX5_cell_65 rfl rfl ?_
          refine y_callVI (ci := 5) (st := [.ref (ad 30)]) CC cl_X5_203 (m_noCell l D ad kI kS kL (mu μ 30 0 (nI 0)) θ ζ hS0 hθ jk (by omega) i) (by omega) rfl rfl rfl (Nat.le_of_ble_eq_true rfl) ⟨by decide, by decide⟩ ⟨Nat.zero_le _, Nat.zero_le _⟩ dX5_cell_66 (fun r_ μ_ w_10 => ?_)
          obtain ⟨rfl, rfl⟩ := w_10
          refine y_top (y := nI 3) (by rw [hn_]) ?_
          refine y_callVL (ci := 5) (st := []) CC cl_X5_206 (m_failedLong l D ad kI kS kL (mu μ 30 0 (nI 0)) 3) (by omega) rfl rfl rfl (Nat.le_of_ble_eq_true rfl) ⟨by decide, by decide⟩ ⟨Nat.zero_le _, Nat.zero_le _⟩ dX5_cell_69 (fun r_ μ_ w_11 => ?_)
          obtain ⟨rfl, rfl⟩ := w_11
          refine y_goto CC 87 dX5_cell_72 (by decide) ?_
          exact y_lret CC hQ dX5_cell_87 (⟨by first | (exfalso; omega) | simp [f_cell, farF, mu_mu, b_1, ix_nI (show jk < 2 ^ 31 by omega), hv_jl, ix_nI (show jl < 2 ^ 31 by omega), hp_, h0_, hp_, h1_], by first | (exfalso; omega) | simp [q_cell, farF, b_1, ix_nI (show jk < 2 ^ 31 by omega), hv_jl, ix_nI (show jl < 2 ^ 31 by omega), hp_, h0_, hp_, h1_]⟩)
      · skip
        have hp_ : ¬ θ jk 0 = 0 := by omega
        refine y_aload_n CC 0 dX5_cell_37 rfl rfl ?_
        refine y_getr CC gl_X5_52 (by omega) (d := 45) rfl dX5_cell_38 ?_
        refine y_iload_n CC 1 dX5_cell_41 rfl rfl ?_
        refine y_ialdN CC (n := 4) (by omega) (by decide) (by omega) (by omega) (v := nI (θ jk 0 - 1)) (hS0.la (by omega) (by omega)) dX5_cell_42 ?_
        refine y_iload_n CC 3 dX5_cell_43 rfl rfl ?_
        refine z_icmp_eq CC 53 dX5_cell_44 (by decide) (a := ((θ jk 0 - 1 : Nat) : Int)) (b := ((jl : Nat) : Int)) (nI_toInt (by omega)) (nI_toInt (by omega)) (fun c_12 => ?_) (fun c_12 => ?_)
        · skip
          have hla_ : θ jk 0 = jl + 1 := by omega
          refine y_aload_n CC 0 dX5_cell_53 rfl rfl ?_
          refine y_iload_n CC 1 dX5_cell_54 rfl rfl ?_
          refine y_iload_n CC 2 dX5_cell_55 rfl rfl ?_
          refine y_callVI (ci := 5) (st := []) CC cl_X5_203 (m_noCell l D ad kI kS kL (mu μ 30 0 (nI 0)) θ ζ hS0 hθ jk (by omega) i) (by omega) rfl rfl rfl (Nat.le_of_ble_eq_true rfl) ⟨by decide, by decide⟩ ⟨Nat.zero_le _, Nat.zero_le _⟩ dX5_cell_56 (fun r_ μ_ w_13 => ?_)
          obtain ⟨rfl, rfl⟩ := w_13
          rcases nc_or (θ jk 0) (θ jk 1) i with ⟨h0_, hn_⟩ | ⟨h0_, h1_, hn_⟩ | ⟨h0_, h1_, hn_⟩
          · skip
            refine y_top (y := nI 1) (by rw [hn_]) ?_
            refine z_if_leF CC 75 dX5_cell_59 (by decide) (a := (1 : Int)) (nI_toInt (by decide)) (by decide) ?_
            refine y_aload_n CC 0 dX5_cell_62 rfl rfl ?_
            refine y_aload_n CC 0 dX5_cell_63 rfl rfl ?_
            refine y_iload_n CC 1 dX5_cell_64 rfl rfl ?_
            refine y_iload_n CC 2 dX5_cell_65 rfl rfl ?_
            refine y_callVI (ci := 5) (st := [.ref (ad 30)]) CC cl_X5_203 (m_noCell l D ad kI kS kL (mu μ 30 0 (nI 0)) θ ζ hS0 hθ jk (by omega) i) (by omega) rfl rfl rfl (Nat.le_of_ble_eq_true rfl) ⟨by decide, by decide⟩ ⟨Nat.zero_le _, Nat.zero_le _⟩ dX5_cell_66 (fun r_ μ_ w_14 => ?_)
            obtain ⟨rfl, rfl⟩ := w_14
            refine y_top (y := nI 1) (by rw [hn_]) ?_
            refine y_callVL (ci := 5) (st := []) CC cl_X5_206 (m_failedLong l D ad kI kS kL (mu μ 30 0 (nI 0)) 1) (by omega) rfl rfl rfl (Nat.le_of_ble_eq_true rfl) ⟨by decide, by decide⟩ ⟨Nat.zero_le _, Nat.zero_le _⟩ dX5_cell_69 (fun r_ μ_ w_15 => ?_)
            obtain ⟨rfl, rfl⟩ := w_15
            refine y_goto CC 87 dX5_cell_72 (by decide) ?_
            exact y_lret CC hQ dX5_cell_87 (⟨by first | (exfalso; omega) | simp [f_cell, farF, mu_mu, b_1, ix_nI (show jk < 2 ^ 31 by omega), hv_jl, ix_nI (show jl < 2 ^ 31 by omega), hp_, hla_, h0_], by first | (exfalso; omega) | simp [q_cell, farF, b_1, ix_nI (show jk < 2 ^ 31 by omega), hv_jl, ix_nI (show jl < 2 ^ 31 by omega), hp_, hla_, h0_]⟩)
          · skip
            have hp_ : ¬ θ jk 0 = 0 := by omega
            refine y_top (y := nI 0) (by rw [hn_]) ?_
            obtain ⟨ji, hji, rfl⟩ := inB_of h1_ (by omega)
            refine z_if_leT CC 75 dX5_cell_59 (by decide) (a := (0 : Int)) (nI_toInt (by decide)) (by decide) ?_
            refine y_aload_n CC 0 dX5_cell_75 rfl rfl ?_
            refine y_getr CC gl_X5_55 (by omega) (d := 46) rfl dX5_cell_76 ?_
            refine y_bipush CC (nI 60) dX5_cell_79 (by decide) ?_
            refine y_iload_n CC 1 dX5_cell_81 rfl rfl ?_
            refine y_imul CC dX5_cell_82 (v := nI (60 * jk)) (pk_mul _ _) ?_
            refine y_iload_n CC 2 dX5_cell_83 rfl rfl ?_
            refine y_iadd CC dX5_cell_84 (v := nI ((60 * jk) + ji)) (nI_add _ _) ?_
            refine y_ialdN CC (n := 240) (by omega) (by decide) (by omega) (by omega) (v := ζ jk ji) ((hS0 jk (by omega)).2.2 ji (by omega)) dX5_cell_85 ?_
            refine y_i2l CC dX5_cell_86 (v := (ζ jk ji).toInt64) rfl ?_
            exact y_lret CC hQ dX5_cell_87 (⟨by first | (exfalso; omega) | simp [f_cell, farF, mu_mu, b_1, ix_nI (show jk < 2 ^ 31 by omega), hv_jl, ix_nI (show jl < 2 ^ 31 by omega), hp_, hla_, h0_, hp_, h1_, ix_nI (show ji < 2 ^ 31 by omega)], by first | (exfalso; omega) | simp [q_cell, farF, b_1, ix_nI (show jk < 2 ^ 31 by omega), hv_jl, ix_nI (show jl < 2 ^ 31 by omega), hp_, hla_, h0_, hp_, h1_, ix_nI (show ji < 2 ^ 31 by omega)]⟩)
          · skip
            have hp_ : ¬ θ jk 0 = 0 := by omega
            refine y_top (y := nI 3) (by rw [hn_]) ?_
            refine z_if_leF CC 75 dX5_cell_59 (by decide) (a := (3 : Int)) (nI_toInt (by decide)) (by decide) ?_
            refine y_aload_n CC 0 dX5_cell_62 rfl rfl ?_
            refine y_aload_n CC 0 dX5_cell_63 rfl rfl ?_
            refine y_iload_n CC 1 dX5_cell_64 rfl rfl ?_
            refine y_iload_n CC 2 dX5_cell_65 rfl rfl ?_
            refine y_callVI (ci := 5) (st := [.ref (ad 30)]) CC cl_X5_203 (m_noCell l D ad kI kS kL (mu μ 30 0 (nI 0)) θ ζ hS0 hθ jk (by omega) i) (by omega) rfl rfl rfl (Nat.le_of_ble_eq_true rfl) ⟨by decide, by decide⟩ ⟨Nat.zero_le _, Nat.zero_le _⟩ dX5_cell_66 (fun r_ μ_ w_16 => ?_)
            obtain ⟨rfl, rfl⟩ := w_16
            refine y_top (y := nI 3) (by rw [hn_]) ?_
            refine y_callVL (ci := 5) (st := []) CC cl_X5_206 (m_failedLong l D ad kI kS kL (mu μ 30 0 (nI 0)) 3) (by omega) rfl rfl rfl (Nat.le_of_ble_eq_true rfl) ⟨by decide, by decide⟩ ⟨Nat.zero_le _, Nat.zero_le _⟩ dX5_cell_69 (fun r_ μ_ w_17 => ?_)
            obtain ⟨rfl, rfl⟩ := w_17
            refine y_goto CC 87 dX5_cell_72 (by decide) ?_
            exact y_lret CC hQ dX5_cell_87 (⟨by first | (exfalso; omega) | simp [f_cell, farF, mu_mu, b_1, ix_nI (show jk < 2 ^ 31 by omega), hv_jl, ix_nI (show jl < 2 ^ 31 by omega), hp_, hla_, h0_, hp_, h1_], by first | (exfalso; omega) | simp [q_cell, farF, b_1, ix_nI (show jk < 2 ^ 31 by omega), hv_jl, ix_nI (show jl < 2 ^ 31 by omega), hp_, hla_, h0_, hp_, h1_]⟩)
        · skip
          have hla_ : ¬ θ jk 0 = jl + 1 := by omega
          refine y_aload_n CC 0 dX5_cell_47 rfl rfl ?_
          refine y_iconst CC (nI 2) dX5_cell_48 (by decide) ?_
          refine y_callVL (ci := 5) (st := []) CC cl_X5_206 (m_failedLong l D ad kI kS kL (mu μ 30 0 (nI 0)) 2) (by omega) rfl rfl rfl (Nat.le_of_ble_eq_true rfl) ⟨by decide, by decide⟩ ⟨Nat.zero_le _, Nat.zero_le _⟩ dX5_cell_49 (fun r_ μ_ w_18 => ?_)
          obtain ⟨rfl, rfl⟩ := w_18
          exact y_lret CC hQ dX5_cell_52 (⟨by first | (exfalso; omega) | simp [f_cell, farF, mu_mu, b_1, ix_nI (show jk < 2 ^ 31 by omega), hv_jl, ix_nI (show jl < 2 ^ 31 by omega), hp_, hla_], by first | (exfalso; omega) | simp [q_cell, farF, b_1, ix_nI (show jk < 2 ^ 31 by omega), hv_jl, ix_nI (show jl < 2 ^ 31 by omega), hp_, hla_]⟩)
    · skip
      have hv_jl : inB la 3 = false := inB_f (by omega)
      refine z_if_neF CC 28 dX5_cell_21 (by decide) (a := (0 : Int)) (nI_toInt (by decide)) (by decide) ?_
      refine y_callSL (st := []) CC cl_X5_67 (m_lost l D ad kI kS kL (mu μ 30 0 (nI 0)) ) rfl rfl (Nat.le_of_ble_eq_true rfl) ⟨by decide, by decide⟩ ⟨Nat.zero_le _, Nat.zero_le _⟩ dX5_cell_24 (fun r_ μ_ w_19 => ?_)
      obtain ⟨rfl, rfl⟩ := w_19
      exact y_lret CC hQ dX5_cell_27 (⟨by first | (exfalso; omega) | simp [f_cell, farF, mu_mu, b_1, ix_nI (show jk < 2 ^ 31 by omega), hv_jl], by first | (exfalso; omega) | simp [q_cell, farF, b_1, ix_nI (show jk < 2 ^ 31 by omega), hv_jl]⟩)
