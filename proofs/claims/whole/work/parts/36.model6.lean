theorem foc_t {len : Nat} {i n : Int32} (h : 0 ≤ i.toInt ∧ 0 ≤ n.toInt ∧ i.toInt + n.toInt ≤ (len : Int)) : focB len i n = true := decide_eq_true h
theorem foc_f {len : Nat} {i n : Int32} (h : i.toInt < 0 ∨ n.toInt < 0 ∨ (len : Int) < i.toInt + n.toInt) : focB len i n = false := decide_eq_false (by omega)
theorem cb_far {ln len la : Nat} {i n : Int32} (h : 0 ≤ n.toInt) : cbF ln len la i n = if farF ln la = 0 then (if focB len i n = true then 0 else 3) else farF ln la := by
  unfold cbF
  rw [if_neg (show ¬ n.toInt < 0 by omega)]
theorem cb_ok {ln len la : Nat} {i n : Int32} (h : cbF ln len la i n = 0) : ln = la + 1 ∧ 0 ≤ n.toInt ∧ focB len i n = true := by
  unfold cbF at h
  split at h
  · rename_i hf
    split at h
    · cases h
    · split at h
      · refine ⟨?_, by omega, by assumption⟩
        unfold farF at hf
        split at hf
        · cases hf
        · split at hf
          · assumption
          · cases hf
      · cases h
  · exact absurd h (by assumption)

set_option maxRecDepth 100000 in
set_option maxHeartbeats 4000000 in
theorem m_copy (l : Launch) (D : va_G) (ad : Nat → Nat) (kI kS kL : ClassId) (μ : Mem) (θ : Tn) (ζ : Nat → Nat → Int32) (hSM : SM μ θ ζ) (hθ : thB θ) (k i o j n : Int32) : MI l D ad kI kS kL yX5_copy cX5_copy 7 (some .int) 2 45 [.ref (ad 30), .int k, .int i, .int o, .int j, .int n] μ (fun r μ2 => ((ok_copy θ k i o j n = false → μ2 = mu μ 30 0 (nI (f_copy θ k i o j n))) ∧ (ok_copy θ k i o j n = true → (∀ c1 k1, c1 ≠ 47 → (c1 ≠ 46 ∨ k1 < 60 * ix o ∨ 60 * ix o + 60 ≤ k1) → μ2 c1 k1 = mu μ 30 0 (nI 0) c1 k1) ∧ ∀ x, x < θ (ix o) 1 → μ2 46 (60 * ix o + x) = va_cpy (ζ (ix k)) (ζ (ix o)) (ix i) (ix j) (ix n) x)) ∧ r = q_copy θ k i o j n) := by
  refine met_I RX5 rfl (by decide) (lv := [(0, .ref (ad 30)), (1, .int k), (2, .int i), (3, .int o), (4, .int j), (5, .int n)]) rfl (Nat.le_of_ble_eq_true rfl) ?_
  intro pp ee ss mm aa bb me cd AA hA0 CC hnm QQ hQ
  have hib_ := i.toInt_lt
  have hib2_ := i.le_toInt
  have hnb_ := n.toInt_lt
  have hnb2_ := n.le_toInt
  have hjb_ := j.toInt_lt
  have hjb2_ := j.le_toInt
  refine y_iload_n CC 1 dX5_copy_0 rfl rfl ?_
  refine y_callSI (st := []) CC cl_X5_112 (m_noSheet l D ad kI kS kL μ k) rfl rfl (Nat.le_of_ble_eq_true rfl) ⟨by decide, by decide⟩ ⟨Nat.zero_le _, Nat.zero_le _⟩ dX5_copy_1 (fun r_ μ_ w_2 => ?_)
  rcases w_2 with ⟨rfl, ⟨b_1, rfl⟩ | ⟨b_1, rfl⟩⟩
  · skip
    refine z_if_neT CC 14 dX5_copy_4 (by decide) (a := (1 : Int)) (nI_toInt (by decide)) (by decide) ?_
    refine y_aload_n CC 0 dX5_copy_14 rfl rfl ?_
    refine y_iconst CC ((-1)) dX5_copy_15 (by decide) ?_
    refine y_callVI (ci := 5) (st := []) CC cl_X5_116 (m_refused l D ad kI kS kL μ (-1)) (by omega) rfl rfl rfl (Nat.le_of_ble_eq_true rfl) ⟨by decide, by decide⟩ ⟨Nat.zero_le _, Nat.zero_le _⟩ dX5_copy_16 (fun r_ μ_ w_3 => ?_)
    obtain ⟨rfl, rfl⟩ := w_3
    exact y_iret CC hQ dX5_copy_19 (⟨⟨fun _ => by simp [f_copy, b_1], fun h_ => by simp [ok_copy, b_1] at h_⟩, by simp [q_copy, f_copy, b_1]⟩)
  · skip
    obtain ⟨jk, hjk, rfl⟩ := inB_of b_1 (by omega)
    have hz_jk := szZ_or (θ jk 0) (θ jk 1)
    have ht_jk := hθ jk (by omega)
    refine z_if_neF CC 14 dX5_copy_4 (by decide) (a := (0 : Int)) (nI_toInt (by decide)) (by decide) ?_
    refine y_iload_n CC 3 dX5_copy_7 rfl rfl ?_
    refine y_callSI (st := []) CC cl_X5_112 (m_noSheet l D ad kI kS kL μ o) rfl rfl (Nat.le_of_ble_eq_true rfl) ⟨by decide, by decide⟩ ⟨Nat.zero_le _, Nat.zero_le _⟩ dX5_copy_8 (fun r_ μ_ w_5 => ?_)
    rcases w_5 with ⟨rfl, ⟨b_4, rfl⟩ | ⟨b_4, rfl⟩⟩
    · skip
      refine z_if_eqF CC 20 dX5_copy_11 (by decide) (a := (1 : Int)) (nI_toInt (by decide)) (by decide) ?_
      refine y_aload_n CC 0 dX5_copy_14 rfl rfl ?_
      refine y_iconst CC ((-1)) dX5_copy_15 (by decide) ?_
      refine y_callVI (ci := 5) (st := []) CC cl_X5_116 (m_refused l D ad kI kS kL μ (-1)) (by omega) rfl rfl rfl (Nat.le_of_ble_eq_true rfl) ⟨by decide, by decide⟩ ⟨Nat.zero_le _, Nat.zero_le _⟩ dX5_copy_16 (fun r_ μ_ w_6 => ?_)
      obtain ⟨rfl, rfl⟩ := w_6
      exact y_iret CC hQ dX5_copy_19 (⟨⟨fun _ => by simp [f_copy, b_1, ix_nI (show jk < 2 ^ 31 by omega), b_4], fun h_ => by simp [ok_copy, b_1, ix_nI (show jk < 2 ^ 31 by omega), b_4] at h_⟩, by simp [q_copy, f_copy, b_1, ix_nI (show jk < 2 ^ 31 by omega), b_4]⟩)
    · skip
      obtain ⟨jo, hjo, rfl⟩ := inB_of b_4 (by omega)
      have hz_jo := szZ_or (θ jo 0) (θ jo 1)
      have ht_jo := hθ jo (by omega)
      refine z_if_eqT CC 20 dX5_copy_11 (by decide) (a := (0 : Int)) (nI_toInt (by decide)) (by decide) ?_
      refine y_aload_n CC 0 dX5_copy_20 rfl rfl ?_
      refine y_getr CC gl_X5_49 (by omega) (d := 44) rfl dX5_copy_21 ?_
      refine y_iload_n CC 1 dX5_copy_24 rfl rfl ?_
      refine y_ialdN CC (n := 4) (by omega) (by decide) (by omega) (by omega) (v := szV (θ jk 0) (θ jk 1)) (hSM.sz (by omega)) dX5_copy_25 ?_
      refine z_if_lt CC 38 dX5_copy_26 (by decide) (a := szZ (θ jk 0) (θ jk 1)) (szV_i (by omega)) (fun c_7 => ?_) (fun c_7 => ?_)
      · skip
        have hz0_ : θ jk 0 = 0 := by omega
        refine y_aload_n CC 0 dX5_copy_38 rfl rfl ?_
        refine y_iconst CC (nI 1) dX5_copy_39 (by decide) ?_
        refine y_callVI (ci := 5) (st := []) CC cl_X5_104 (m_failed l D ad kI kS kL μ 1) (by omega) rfl rfl rfl (Nat.le_of_ble_eq_true rfl) ⟨by decide, by decide⟩ ⟨Nat.zero_le _, Nat.zero_le _⟩ dX5_copy_40 (fun r_ μ_ w_8 => ?_)
        obtain ⟨rfl, rfl⟩ := w_8
        exact y_iret CC hQ dX5_copy_43 (⟨⟨fun _ => by simp [f_copy, b_1, ix_nI (show jk < 2 ^ 31 by omega), b_4, ix_nI (show jo < 2 ^ 31 by omega), hz0_], fun h_ => by simp [ok_copy, b_1, ix_nI (show jk < 2 ^ 31 by omega), b_4, ix_nI (show jo < 2 ^ 31 by omega), hz0_] at h_⟩, by simp [q_copy, f_copy, b_1, ix_nI (show jk < 2 ^ 31 by omega), b_4, ix_nI (show jo < 2 ^ 31 by omega), hz0_]⟩)
      · skip
        refine y_aload_n CC 0 dX5_copy_29 rfl rfl ?_
        refine y_getr CC gl_X5_49 (by omega) (d := 44) rfl dX5_copy_30 ?_
        refine y_iload_n CC 3 dX5_copy_33 rfl rfl ?_
        refine y_ialdN CC (n := 4) (by omega) (by decide) (by omega) (by omega) (v := szV (θ jo 0) (θ jo 1)) (hSM.sz (by omega)) dX5_copy_34 ?_
        refine z_if_ge CC 44 dX5_copy_35 (by decide) (a := szZ (θ jo 0) (θ jo 1)) (szV_i (by omega)) (fun c_9 => ?_) (fun c_9 => ?_)
        · skip
          have hp1_ : 0 < θ jk 0 := by omega
          have hp2_ : 0 < θ jo 0 := by omega
          have hp3_ : ¬ θ jk 0 = 0 := by omega
          have hp4_ : ¬ θ jo 0 = 0 := by omega
          refine y_aload_n CC 0 dX5_copy_44 rfl rfl ?_
          refine y_getr CC gl_X5_52 (by omega) (d := 45) rfl dX5_copy_45 ?_
          refine y_iload_n CC 1 dX5_copy_48 rfl rfl ?_
          refine y_ialdN CC (n := 4) (by omega) (by decide) (by omega) (by omega) (v := nI (θ jk 0 - 1)) (hSM.la (by omega) (by omega)) dX5_copy_49 ?_
          refine y_aload_n CC 0 dX5_copy_50 rfl rfl ?_
          refine y_getr CC gl_X5_52 (by omega) (d := 45) rfl dX5_copy_51 ?_
          refine y_iload_n CC 3 dX5_copy_54 rfl rfl ?_
          refine y_ialdN CC (n := 4) (by omega) (by decide) (by omega) (by omega) (v := nI (θ jo 0 - 1)) (hSM.la (by omega) (by omega)) dX5_copy_55 ?_
          refine z_icmp_eq CC 65 dX5_copy_56 (by decide) (a := ((θ jk 0 - 1 : Nat) : Int)) (b := ((θ jo 0 - 1 : Nat) : Int)) (nI_toInt (by omega)) (nI_toInt (by omega)) (fun c_10 => ?_) (fun c_10 => ?_)
          · skip
            have heq_ : θ jk 0 = θ jo 0 := by omega
            refine y_iload_n CC 2 dX5_copy_65 rfl rfl ?_
            refine y_iload CC 5 dX5_copy_66 rfl ?_
            refine y_i2l CC dX5_copy_68 (v := (n).toInt64) rfl ?_
            refine y_aload_n CC 0 dX5_copy_69 rfl rfl ?_
            refine y_getr CC gl_X5_49 (by omega) (d := 44) rfl dX5_copy_70 ?_
            refine y_iload_n CC 1 dX5_copy_73 rfl rfl ?_
            refine y_ialdN CC (n := 4) (by omega) (by decide) (by omega) (by omega) (v := nI (θ jk 1)) (hSM.ln (by omega) (by omega)) dX5_copy_74 ?_
            refine y_callSI (st := []) CC cl_X5_108 (m_isBeyond l D ad kI kS kL μ i ((n).toInt64) ((n).toInt) ((l_i _).trans rfl) (by omega) (θ jk 1) (by omega)) rfl rfl (Nat.le_of_ble_eq_true rfl) ⟨by decide, by decide⟩ ⟨Nat.zero_le _, Nat.zero_le _⟩ dX5_copy_75 (fun r_ μ_ w_12 => ?_)
            rcases w_12 with ⟨rfl, ⟨y_11, rfl⟩ | ⟨y_11, rfl⟩⟩
            · skip
              refine z_if_neT CC 98 dX5_copy_78 (by decide) (a := (1 : Int)) (nI_toInt (by decide)) (by decide) ?_
              have hbe_ : focB (θ jk 1) i n = false := foc_f (by omega)
              refine y_aload_n CC 0 dX5_copy_98 rfl rfl ?_
              refine y_iconst CC (nI 3) dX5_copy_99 (by decide) ?_
              refine y_callVI (ci := 5) (st := []) CC cl_X5_104 (m_failed l D ad kI kS kL μ 3) (by omega) rfl rfl rfl (Nat.le_of_ble_eq_true rfl) ⟨by decide, by decide⟩ ⟨Nat.zero_le _, Nat.zero_le _⟩ dX5_copy_100 (fun r_ μ_ w_13 => ?_)
              obtain ⟨rfl, rfl⟩ := w_13
              exact y_iret CC hQ dX5_copy_103 (⟨⟨fun _ => by simp [f_copy, heq_, b_1, ix_nI (show jk < 2 ^ 31 by omega), b_4, ix_nI (show jo < 2 ^ 31 by omega), hp2_, hp4_, hbe_], fun h_ => by simp [ok_copy, heq_, b_1, ix_nI (show jk < 2 ^ 31 by omega), b_4, ix_nI (show jo < 2 ^ 31 by omega), hp2_, hp4_, hbe_] at h_⟩, by simp [q_copy, f_copy, heq_, b_1, ix_nI (show jk < 2 ^ 31 by omega), b_4, ix_nI (show jo < 2 ^ 31 by omega), hp2_, hp4_, hbe_]⟩)
            · skip
              refine z_if_neF CC 98 dX5_copy_78 (by decide) (a := (0 : Int)) (nI_toInt (by decide)) (by decide) ?_
              refine y_iload CC 4 dX5_copy_81 rfl ?_
              refine y_iload CC 5 dX5_copy_83 rfl ?_
              refine y_i2l CC dX5_copy_85 (v := (n).toInt64) rfl ?_
              refine y_aload_n CC 0 dX5_copy_86 rfl rfl ?_
              refine y_getr CC gl_X5_49 (by omega) (d := 44) rfl dX5_copy_87 ?_
              refine y_iload_n CC 3 dX5_copy_90 rfl rfl ?_
              refine y_ialdN CC (n := 4) (by omega) (by decide) (by omega) (by omega) (v := nI (θ jo 1)) (hSM.ln (by omega) (by omega)) dX5_copy_91 ?_
              refine y_callSI (st := []) CC cl_X5_108 (m_isBeyond l D ad kI kS kL μ j ((n).toInt64) ((n).toInt) ((l_i _).trans rfl) (by omega) (θ jo 1) (by omega)) rfl rfl (Nat.le_of_ble_eq_true rfl) ⟨by decide, by decide⟩ ⟨Nat.zero_le _, Nat.zero_le _⟩ dX5_copy_92 (fun r_ μ_ w_15 => ?_)
              rcases w_15 with ⟨rfl, ⟨y_14, rfl⟩ | ⟨y_14, rfl⟩⟩
              · skip
                refine z_if_eqF CC 104 dX5_copy_95 (by decide) (a := (1 : Int)) (nI_toInt (by decide)) (by decide) ?_
                have hbe_ : focB (θ jo 1) j n = false := foc_f (by omega)
                refine y_aload_n CC 0 dX5_copy_98 rfl rfl ?_
                refine y_iconst CC (nI 3) dX5_copy_99 (by decide) ?_
                refine y_callVI (ci := 5) (st := []) CC cl_X5_104 (m_failed l D ad kI kS kL μ 3) (by omega) rfl rfl rfl (Nat.le_of_ble_eq_true rfl) ⟨by decide, by decide⟩ ⟨Nat.zero_le _, Nat.zero_le _⟩ dX5_copy_100 (fun r_ μ_ w_16 => ?_)
                obtain ⟨rfl, rfl⟩ := w_16
                exact y_iret CC hQ dX5_copy_103 (⟨⟨fun _ => by simp [f_copy, heq_, b_1, ix_nI (show jk < 2 ^ 31 by omega), b_4, ix_nI (show jo < 2 ^ 31 by omega), hp2_, hp4_, hbe_], fun h_ => by simp [ok_copy, heq_, b_1, ix_nI (show jk < 2 ^ 31 by omega), b_4, ix_nI (show jo < 2 ^ 31 by omega), hp2_, hp4_, hbe_] at h_⟩, by simp [q_copy, f_copy, heq_, b_1, ix_nI (show jk < 2 ^ 31 by omega), b_4, ix_nI (show jo < 2 ^ 31 by omega), hp2_, hp4_, hbe_]⟩)
              · skip
                refine z_if_eqT CC 104 dX5_copy_95 (by decide) (a := (0 : Int)) (nI_toInt (by decide)) (by decide) ?_
                obtain ⟨jn, hjn, rfl⟩ := inB_of (x := n) (n := 61) (inB_t (by omega)) (by omega)
                obtain ⟨ji, hji, rfl⟩ := inB_of (x := i) (n := 61) (inB_t (by omega)) (by omega)
                obtain ⟨jj, hjj, rfl⟩ := inB_of (x := j) (n := 61) (inB_t (by omega)) (by omega)
                have hn_ : (nI jn).toInt = (jn : Int) := nI_toInt (by omega)
                have hi_ : (nI ji).toInt = (ji : Int) := nI_toInt (by omega)
                have hj_ : (nI jj).toInt = (jj : Int) := nI_toInt (by omega)
                have hsi_ : ji + jn ≤ θ jk 1 := by omega
                have hsj_ : jj + jn ≤ θ jo 1 := by omega
                have hfo1_ : focB (θ jk 1) (nI ji) (nI jn) = true := foc_t (by omega)
                have hfo2_ : focB (θ jo 1) (nI jj) (nI jn) = true := foc_t (by omega)
                refine y_iconst CC (nI 0) dX5_copy_104 (by decide) ?_
                refine y_istore CC [(6, .int (nI 0)), (0, .ref (ad 30)), (1, .int (nI jk)), (2, .int (nI ji)), (3, .int (nI jo)), (4, .int (nI jj)), (5, .int (nI jn))] dX5_copy_105 (by decide) rfl ?_
                have L107 : ∀ (n107 : Nat) (x : Nat) (ν : Mem), jn - x < n107 → (x ≤ jn) → (∀ c1 k1, c1 ≠ 47 → ν c1 k1 = μ c1 k1) → (∀ y, y < x → ν 47 y = μ 46 (60 * jk + ji + y)) → Y pp l ee (rmY 2 45) ss mm aa bb me cd D ad kI kS kL AA 7 0 0 QQ 107 [(6, .int (nI x)), (0, .ref (ad 30)), (1, .int (nI jk)), (2, .int (nI ji)), (3, .int (nI jo)), (4, .int (nI jj)), (5, .int (nI jn))] [] ν := by
                  intro n107
                  induction n107 with
                  | zero => intro x ν hm107; exact absurd hm107 (Nat.not_lt_zero _)
                  | succ n107 ih107 =>
                    intro x ν hm107 hx hF hW
                    refine y_iload CC 0 dX5_copy_107 rfl ?_
                    refine y_iload CC 6 dX5_copy_109 rfl ?_
                    refine z_icmp_ge CC 141 dX5_copy_111 (by decide) (a := ((x : Nat) : Int)) (b := ((jn : Nat) : Int)) (nI_toInt (by omega)) (nI_toInt (by omega)) (fun c_18 => ?_) (fun c_18 => ?_)
                    · skip
                      obtain rfl : x = jn := by omega
                      refine y_iconst CC (nI 0) dX5_copy_141 (by decide) ?_
                      refine y_istore CC [(6, .int (nI 0)), (0, .ref (ad 30)), (1, .int (nI jk)), (2, .int (nI ji)), (3, .int (nI jo)), (4, .int (nI jj)), (5, .int (nI x))] dX5_copy_142 (by decide) rfl ?_
                      have L144 : ∀ (n144 : Nat) (y : Nat) (ξ : Mem), x - y < n144 → (y ≤ x) → (∀ c1 k1, c1 ≠ 47 → (c1 ≠ 46 ∨ k1 < 60 * jo + jj ∨ 60 * jo + jj + x ≤ k1) → ξ c1 k1 = μ c1 k1) → (∀ z, z < x → ξ 47 z = μ 46 (60 * jk + ji + z)) → (∀ z, z < y → ξ 46 (60 * jo + jj + z) = μ 46 (60 * jk + ji + z)) → Y pp l ee (rmY 2 45) ss mm aa bb me cd D ad kI kS kL AA 7 0 0 QQ 144 [(6, .int (nI y)), (0, .ref (ad 30)), (1, .int (nI jk)), (2, .int (nI ji)), (3, .int (nI jo)), (4, .int (nI jj)), (5, .int (nI x))] [] ξ := by
                        intro n144
                        induction n144 with
                        | zero => intro y ξ hm144; exact absurd hm144 (Nat.not_lt_zero _)
                        | succ n144 ih144 =>
                          intro y ξ hm144 hy hF2 hH hW2
                          refine y_iload CC 0 dX5_copy_144 rfl ?_
                          refine y_iload CC 6 dX5_copy_146 rfl ?_
                          refine z_icmp_ge CC 179 dX5_copy_148 (by decide) (a := ((y : Nat) : Int)) (b := ((x : Nat) : Int)) (nI_toInt (by omega)) (nI_toInt (by omega)) (fun c_20 => ?_) (fun c_20 => ?_)
                          · skip
                            obtain rfl : y = x := by omega
                            refine y_aload_n CC 1 dX5_copy_179 rfl rfl ?_
                            refine y_iload CC 6 dX5_copy_180 rfl ?_
                            refine y_callVI (ci := 5) (st := []) CC cl_X5_116 (m_refused l D ad kI kS kL ξ (nI y)) (by omega) rfl rfl rfl (Nat.le_of_ble_eq_true rfl) ⟨by decide, by decide⟩ ⟨Nat.zero_le _, Nat.zero_le _⟩ dX5_copy_182 (fun r_ μ_ w_21 => ?_)
                            obtain ⟨rfl, rfl⟩ := w_21
                            refine y_iret CC hQ dX5_copy_185 ?_
                            refine ⟨⟨fun h_ => by simp [ok_copy, heq_, b_1, ix_nI (show jk < 2 ^ 31 by omega), b_4, ix_nI (show jo < 2 ^ 31 by omega), hp2_, hp4_, hfo1_, hfo2_] at h_, fun _ => ?_⟩, by simp [q_copy, f_copy, heq_, b_1, ix_nI (show jk < 2 ^ 31 by omega), b_4, ix_nI (show jo < 2 ^ 31 by omega), hp2_, hp4_, hfo1_, hfo2_]⟩
                            simp only [ix_nI (show jk < 2 ^ 31 by omega), ix_nI (show jo < 2 ^ 31 by omega), ix_nI (show ji < 2 ^ 31 by omega), ix_nI (show jj < 2 ^ 31 by omega), ix_nI (show y < 2 ^ 31 by omega)]
                            refine ⟨fun c1 k1 h1 h2 => ?_, fun q_ hq_ => ?_⟩
                            · rw [mu_if, mu_if]; split; rfl; exact hF2 c1 k1 h1 (by omega)
                            · rw [mu_ne _ _ (Or.inl (by decide))]
                              by_cases hy2 : jj ≤ q_ ∧ q_ < jj + y
                              · rw [pk_cpy_in hy2.1 hy2.2, show 60 * jo + q_ = 60 * jo + jj + (q_ - jj) by omega, hW2 (q_ - jj) (by omega), show 60 * jk + ji + (q_ - jj) = 60 * jk + (ji + (q_ - jj)) by omega]
                                exact (hSM jk (by omega)).2.2 _ (by omega)
                              · rw [pk_cpy_out (by omega), hF2 46 _ (by decide) (by omega)]
                                exact (hSM jo (by omega)).2.2 q_ hq_
                          · skip
                            refine y_aload_n CC 1 dX5_copy_151 rfl rfl ?_
                            refine y_getr CC gl_X5_55 (by omega) (d := 46) rfl dX5_copy_152 ?_
                            refine y_bipush CC (nI 60) dX5_copy_155 (by decide) ?_
                            refine y_iload_n CC 4 dX5_copy_157 rfl rfl ?_
                            refine y_imul CC dX5_copy_158 (v := nI (60 * jo)) (pk_mul _ _) ?_
                            refine y_iload CC 5 dX5_copy_159 rfl ?_
                            refine y_iadd CC dX5_copy_161 (v := nI ((60 * jo) + jj)) (nI_add _ _) ?_
                            refine y_iload CC 0 dX5_copy_162 rfl ?_
                            refine y_iadd CC dX5_copy_164 (v := nI (((60 * jo) + jj) + y)) (nI_add _ _) ?_
                            refine y_aload_n CC 1 dX5_copy_165 rfl rfl ?_
                            refine y_getr CC gl_X5_58 (by omega) (d := 47) rfl dX5_copy_166 ?_
                            refine y_iload CC 0 dX5_copy_169 rfl ?_
                            refine y_ialdN CC (n := 60) (by omega) (by decide) (by omega) (by omega) (v := μ 46 (60 * jk + ji + y)) (hH y (by omega)) dX5_copy_171 ?_
                            refine y_iastN CC (n := 240) (by omega) (by decide) (by omega) (by omega) dX5_copy_172 ?_
                            refine y_iinc CC 0 (nI (y + 1)) [(6, .int (nI (y + 1))), (0, .ref (ad 30)), (1, .int (nI jk)), (2, .int (nI ji)), (3, .int (nI jo)), (4, .int (nI jj)), (5, .int (nI x))] dX5_copy_173 rfl (i_inc _) (by decide) rfl ?_
                            refine y_goto CC 144 dX5_copy_176 (by decide) ?_
                            exact ih144 (y + 1) (mu ξ 46 (((60 * jo) + jj) + y) (μ 46 (60 * jk + ji + y))) (by omega) (by omega) (fun c1 k1 h_ h2_ => by rw [mu_ne _ _ (by omega)]; exact hF2 c1 k1 h_ h2_) (fun z_ hz_ => by rw [mu_ne _ _ (Or.inl (by decide))]; exact hH z_ hz_) (fun i_ hi_ => by rcases (show i_ < y ∨ i_ = y by omega) with h_ | rfl; rw [mu_k _ _ (by omega)]; exact hW2 i_ h_; exact mu_at _ _ _ _)
                      exact L144 _ 0 ν (Nat.lt_succ_self _) (Nat.zero_le _) (fun c1 k1 h_ _ => hF c1 k1 h_) hW (fun i_ h_ => absurd h_ (Nat.not_lt_zero i_))
                    · skip
                      refine y_aload_n CC 1 dX5_copy_114 rfl rfl ?_
                      refine y_getr CC gl_X5_58 (by omega) (d := 47) rfl dX5_copy_115 ?_
                      refine y_iload CC 0 dX5_copy_118 rfl ?_
                      refine y_aload_n CC 1 dX5_copy_120 rfl rfl ?_
                      refine y_getr CC gl_X5_55 (by omega) (d := 46) rfl dX5_copy_121 ?_
                      refine y_bipush CC (nI 60) dX5_copy_124 (by decide) ?_
                      refine y_iload_n CC 2 dX5_copy_126 rfl rfl ?_
                      refine y_imul CC dX5_copy_127 (v := nI (60 * jk)) (pk_mul _ _) ?_
                      refine y_iload_n CC 3 dX5_copy_128 rfl rfl ?_
                      refine y_iadd CC dX5_copy_129 (v := nI ((60 * jk) + ji)) (nI_add _ _) ?_
                      refine y_iload CC 0 dX5_copy_130 rfl ?_
                      refine y_iadd CC dX5_copy_132 (v := nI (((60 * jk) + ji) + x)) (nI_add _ _) ?_
                      refine y_ialdN CC (n := 240) (by omega) (by decide) (by omega) (by omega) (v := μ 46 (60 * jk + ji + x)) (hF _ _ (by decide)) dX5_copy_133 ?_
                      refine y_iastN CC (n := 60) (by omega) (by decide) (by omega) (by omega) dX5_copy_134 ?_
                      refine y_iinc CC 0 (nI (x + 1)) [(6, .int (nI (x + 1))), (0, .ref (ad 30)), (1, .int (nI jk)), (2, .int (nI ji)), (3, .int (nI jo)), (4, .int (nI jj)), (5, .int (nI jn))] dX5_copy_135 rfl (i_inc _) (by decide) rfl ?_
                      refine y_goto CC 107 dX5_copy_138 (by decide) ?_
                      exact ih107 (x + 1) (mu ν 47 x (μ 46 (60 * jk + ji + x))) (by omega) (by omega) (fun c1 k1 h_ => by rw [mu_ne _ _ (Or.inl h_)]; exact hF c1 k1 h_) (fun i_ hi_ => by rcases (show i_ < x ∨ i_ = x by omega) with h_ | rfl; rw [mu_k _ _ (by omega)]; exact hW i_ h_; exact mu_at _ _ _ _)
                exact L107 _ 0 μ (Nat.lt_succ_self _) (Nat.zero_le _) (fun _ _ _ => rfl) (fun i_ h_ => absurd h_ (Nat.not_lt_zero i_))
          · skip
            have hne_ : ¬ θ jk 0 = θ jo 0 := by omega
            refine y_aload_n CC 0 dX5_copy_59 rfl rfl ?_
            refine y_iconst CC (nI 2) dX5_copy_60 (by decide) ?_
            refine y_callVI (ci := 5) (st := []) CC cl_X5_104 (m_failed l D ad kI kS kL μ 2) (by omega) rfl rfl rfl (Nat.le_of_ble_eq_true rfl) ⟨by decide, by decide⟩ ⟨Nat.zero_le _, Nat.zero_le _⟩ dX5_copy_61 (fun r_ μ_ w_22 => ?_)
            obtain ⟨rfl, rfl⟩ := w_22
            exact y_iret CC hQ dX5_copy_64 (⟨⟨fun _ => by simp [f_copy, b_1, ix_nI (show jk < 2 ^ 31 by omega), b_4, ix_nI (show jo < 2 ^ 31 by omega), hp1_, hp2_, hp3_, hp4_, hne_], fun h_ => by simp [ok_copy, b_1, ix_nI (show jk < 2 ^ 31 by omega), b_4, ix_nI (show jo < 2 ^ 31 by omega), hp1_, hp2_, hp3_, hp4_, hne_] at h_⟩, by simp [q_copy, f_copy, b_1, ix_nI (show jk < 2 ^ 31 by omega), b_4, ix_nI (show jo < 2 ^ 31 by omega), hp1_, hp2_, hp3_, hp4_, hne_]⟩)
        · skip
          have hz0_ : θ jo 0 = 0 := by omega
          refine y_aload_n CC 0 dX5_copy_38 rfl rfl ?_
          refine y_iconst CC (nI 1) dX5_copy_39 (by decide) ?_
          refine y_callVI (ci := 5) (st := []) CC cl_X5_104 (m_failed l D ad kI kS kL μ 1) (by omega) rfl rfl rfl (Nat.le_of_ble_eq_true rfl) ⟨by decide, by decide⟩ ⟨Nat.zero_le _, Nat.zero_le _⟩ dX5_copy_40 (fun r_ μ_ w_23 => ?_)
          obtain ⟨rfl, rfl⟩ := w_23
          exact y_iret CC hQ dX5_copy_43 (⟨⟨fun _ => by simp [f_copy, b_1, ix_nI (show jk < 2 ^ 31 by omega), b_4, ix_nI (show jo < 2 ^ 31 by omega), hz0_], fun h_ => by simp [ok_copy, b_1, ix_nI (show jk < 2 ^ 31 by omega), b_4, ix_nI (show jo < 2 ^ 31 by omega), hz0_] at h_⟩, by simp [q_copy, f_copy, b_1, ix_nI (show jk < 2 ^ 31 by omega), b_4, ix_nI (show jo < 2 ^ 31 by omega), hz0_]⟩)
