def tM (μ μ2 : Mem) (τ θ : Tn) (ζ : Nat → Nat → Int32) (k la i n : Int32) : Prop :=
  (okT θ ζ k la i n = false → ∀ c1 k1, (c1 < 35 ∨ 38 < c1) → (c1 ≠ 30 ∨ k1 < 8 ∨ 10 < k1) → μ2 c1 k1 = mu μ 30 0 (nI (f_town θ k la i n)) c1 k1) ∧
  (okT θ ζ k la i n = true → (∀ c1 k1, (c1 < 31 ∨ 38 < c1) → (c1 ≠ 30 ∨ (k1 ≠ 1 ∧ k1 ≠ 3 ∧ k1 ≠ 8 ∧ k1 ≠ 9 ∧ k1 ≠ 10 ∧ k1 ≠ 21)) → μ2 c1 k1 = mu μ 30 0 (nI 0) c1 k1) ∧ μ2 30 21 = nI 0 ∧ ∃ t, pr τ (fT ζ k i) (ix n) = some t ∧ t 0 3 = 7 ∧ TM μ2 t)
theorem pzT_eq {τ : Tn} {ζ : Nat → Nat → Int32} {k i n : Int32} : pzT ζ k i n = pz τ (fT ζ k i) (ix n) := pz_r0 t00 τ _ _

set_option maxRecDepth 100000 in
set_option maxHeartbeats 4000000 in
theorem m_town (l : Launch) (D : va_G) (ad : Nat → Nat) (kI kS kL : ClassId) (μ : Mem) (θ : Tn) (ζ : Nat → Nat → Int32) (hSM : SM μ θ ζ) (hθ : thB θ) (τ : Tn) (hB : tB τ) (k la i n : Int32) : MI l D ad kI kS kL yX5_town cX5_town 7 (some .int) 4 100 [.ref (ad 30), .int k, .int la, .int i, .int n] μ (fun r μ2 => tM μ μ2 τ θ ζ k la i n ∧ r = q_town θ ζ k la i n) := by
  refine met_I RX5 rfl (by decide) (lv := [(0, .ref (ad 30)), (1, .int k), (2, .int la), (3, .int i), (4, .int n)]) rfl (Nat.le_of_ble_eq_true rfl) ?_
  intro pp ee ss mm aa bb me cd AA hA0 CC hnm QQ hQ
  refine y_iload_n CC 1 dX5_town_0 rfl rfl ?_
  refine y_callSI (st := []) CC cl_X5_112 (m_noSheet l D ad kI kS kL μ k) rfl rfl (Nat.le_of_ble_eq_true rfl) ⟨by decide, by decide⟩ ⟨Nat.zero_le _, Nat.zero_le _⟩ dX5_town_1 (fun r_ μ_ w_2 => ?_)
  rcases w_2 with ⟨rfl, ⟨b_1, rfl⟩ | ⟨b_1, rfl⟩⟩
  · skip
    refine z_if_eqF CC 13 dX5_town_4 (by decide) (a := (1 : Int)) (nI_toInt (by decide)) (by decide) ?_
    refine y_aload_n CC 0 dX5_town_7 rfl rfl ?_
    refine y_iconst CC ((-1)) dX5_town_8 (by decide) ?_
    refine y_callVI (ci := 5) (st := []) CC cl_X5_116 (m_refused l D ad kI kS kL μ (-1)) (by omega) rfl rfl rfl (Nat.le_of_ble_eq_true rfl) ⟨by decide, by decide⟩ ⟨Nat.zero_le _, Nat.zero_le _⟩ dX5_town_9 (fun r_ μ_ w_3 => ?_)
    obtain ⟨rfl, rfl⟩ := w_3
    exact y_iret CC hQ dX5_town_12 (⟨⟨fun _ c1 k1 _ _ => by simp [f_town, b_1], fun h_ => by simp [okT, b_1] at h_⟩, by simp [q_town, b_1]⟩)
  · skip
    obtain ⟨jk, hjk, rfl⟩ := inB_of b_1 (by omega)
    have hz_jk := szZ_or (θ jk 0) (θ jk 1)
    have ht_jk := hθ jk (by omega)
    refine z_if_eqT CC 13 dX5_town_4 (by decide) (a := (0 : Int)) (nI_toInt (by decide)) (by decide) ?_
    refine y_iload_n CC 2 dX5_town_13 rfl rfl ?_
    refine y_i2l CC dX5_town_14 (v := (la).toInt64) rfl ?_
    refine y_lconst CC 0 dX5_town_15 rfl ?_
    refine y_ldc2 CC kl_X5_119 dX5_town_16 ?_
    refine y_callSI (st := []) CC cl_X5_74 (m_in l D ad kI kS kL μ ((la).toInt64) 0 (2) ((la).toInt) ((0 : Int)) ((2 : Int))  ((l_i _).trans rfl) (by decide) (by decide)) rfl rfl (Nat.le_of_ble_eq_true rfl) ⟨by decide, by decide⟩ ⟨Nat.zero_le _, Nat.zero_le _⟩ dX5_town_19 (fun r_ μ_ w_5 => ?_)
    rcases w_5 with ⟨rfl, ⟨i_4, rfl⟩ | ⟨i_4, rfl⟩⟩
    · skip
      have hv_jl : inB la 3 = true := inB_t (by omega)
      obtain ⟨jl, hjl, rfl⟩ := inB_of hv_jl (by omega)
      refine z_if_neT CC 32 dX5_town_22 (by decide) (a := (1 : Int)) (nI_toInt (by decide)) (by decide) ?_
      refine y_aload_n CC 0 dX5_town_32 rfl rfl ?_
      refine y_iload_n CC 1 dX5_town_33 rfl rfl ?_
      refine y_iload_n CC 2 dX5_town_34 rfl rfl ?_
      refine y_iload_n CC 3 dX5_town_35 rfl rfl ?_
      refine y_iload CC 4 dX5_town_36 rfl ?_
      refine y_i2l CC dX5_town_38 (v := (n).toInt64) rfl ?_
      refine y_callVI (ci := 5) (st := []) CC cl_X5_121 (m_cellsBarred l D ad kI kS kL μ θ ζ hSM hθ jk jl (by omega) (by omega) i n) (by omega) rfl rfl rfl (Nat.le_of_ble_eq_true rfl) ⟨by decide, by decide⟩ ⟨Nat.zero_le _, Nat.zero_le _⟩ dX5_town_39 (fun r_ μ_ w_6 => ?_)
      rcases w_6 with ⟨hcb_, rfl, rfl⟩ | ⟨-, hcb_, rfl, rfl⟩
      · skip
        have hq_ : f_town θ (nI jk) (nI jl) i n = cbF (θ jk 0) (θ jk 1) jl i n := by simp [f_town, cbF, b_1, ix_nI (show jk < 2 ^ 31 by omega), hv_jl, ix_nI (show jl < 2 ^ 31 by omega)]
        rw [hcb_] at hq_
        obtain ⟨hla_, hn0_, hfo_⟩ := cb_ok hcb_
        have hfo2_ := of_decide_eq_true hfo_
        obtain ⟨jn, hjn, rfl⟩ := inB_of (x := n) (n := 61) (inB_t (by omega)) (by omega)
        obtain ⟨ji, hji, rfl⟩ := inB_of (x := i) (n := 61) (inB_t (by omega)) (by omega)
        rw [nI_toInt (show jn < 2 ^ 31 by omega), nI_toInt (show ji < 2 ^ 31 by omega)] at hfo2_
        have hz : ∀ x, x < jn → μ 46 (60 * jk + ji + x) = fT ζ (nI jk) (nI ji) x := fun x_ hx_ => by show _ = ζ (ix (nI jk)) (ix (nI ji) + x_); rw [ix_nI (by omega), ix_nI (by omega), show 60 * jk + ji + x_ = 60 * jk + (ji + x_) by omega]; exact (hSM jk (by omega)).2.2 _ (by omega)
        refine y_istore CC [(5, .int (nI 0)), (0, .ref (ad 30)), (1, .int (nI jk)), (2, .int (nI jl)), (3, .int (nI ji)), (4, .int (nI jn))] dX5_town_42 (by decide) rfl ?_
        refine y_iload CC 0 dX5_town_44 rfl ?_
        refine z_if_geT CC 52 dX5_town_46 (by decide) (a := (0 : Int)) (nI_toInt (by decide)) (by decide) ?_
        refine y_aload_n CC 1 dX5_town_52 rfl rfl ?_
        refine y_bipush CC (nI 60) dX5_town_53 (by decide) ?_
        refine y_iload_n CC 2 dX5_town_55 rfl rfl ?_
        refine y_imul CC dX5_town_56 (v := nI (60 * jk)) (pk_mul _ _) ?_
        refine y_iload_n CC 4 dX5_town_57 rfl rfl ?_
        refine y_iadd CC dX5_town_58 (v := nI ((60 * jk) + ji)) (nI_add _ _) ?_
        refine y_iload CC 5 dX5_town_59 rfl ?_
        refine y_callVI (ci := 5) (st := []) CC cl_X5_125 (m_readsTown l D ad kI kS kL μ τ hB (fT ζ (nI jk) (nI ji)) (60 * jk + ji) jn (by omega) (by omega) hz) (by omega) rfl rfl rfl (Nat.le_of_ble_eq_true rfl) ⟨by decide, by decide⟩ ⟨Nat.zero_le _, Nat.zero_le _⟩ dX5_town_61 (fun r_ μ_ w_7 => ?_)
        rcases w_7 with ⟨rfl, hpz_, t, hpr_, h7_, h2_, hRD, hF2_⟩ | ⟨rfl, ⟨k_, hk_, h8_, hpz_⟩, hF2_⟩
        · skip
          have hpT_ : pzT ζ (nI jk) (nI ji) (nI jn) = none := by rw [pzT_eq (τ := τ), ix_nI (by omega)]; exact hpz_
          have hpb_ := pr_B hB _ _ t hpr_
          have ht0_ : t 0 0 ≤ 9 := hpb_.1.1
          have ht1_ : t 0 1 ≤ 4 := hpb_.1.2.1
          have hns_ : nsT ζ (nI jk) (nI ji) (nI jn) = t 0 1 := nsT_of (τ := τ) (by rw [ix_nI (by omega)]; exact hpr_)
          refine z_if_neT CC 79 dX5_town_64 (by decide) (a := (1 : Int)) (nI_toInt (by decide)) (by decide) ?_
          refine y_aload_n CC 1 dX5_town_79 rfl rfl ?_
          refine y_aload_n CC 1 dX5_town_80 rfl rfl ?_
          refine y_geti CC gl_X5_93 (by omega) rfl (v := nI (t 0 0)) hRD.2.1 dX5_town_81 ?_
          refine y_puti CC pl_X5_71 (by omega) rfl (Nat.le_of_ble_eq_true rfl) dX5_town_84 ?_
          refine y_aload_n CC 1 dX5_town_87 rfl rfl ?_
          refine y_aload_n CC 1 dX5_town_88 rfl rfl ?_
          refine y_geti CC gl_X5_90 (by omega) rfl (v := nI (t 0 1)) ((mu_k _ _ (by decide)).trans hRD.2.2.1) dX5_town_89 ?_
          refine y_puti CC pl_X5_78 (by omega) rfl (Nat.le_of_ble_eq_true rfl) dX5_town_92 ?_
          refine y_iconst CC (nI 0) dX5_town_95 (by decide) ?_
          refine y_istore CC [(6, .int (nI 0)), (5, .int (nI 0)), (0, .ref (ad 30)), (1, .int (nI jk)), (2, .int (nI jl)), (3, .int (nI ji)), (4, .int (nI jn))] dX5_town_96 (by decide) rfl ?_
          have L98 : ∀ (n98 : Nat) (x : Nat) (ν : Mem), t 0 0 - x < n98 → (x ≤ t 0 0) → (∀ c1 k1, c1 ≠ 31 → ν c1 k1 = mu (mu μ_ 30 1 (nI (t 0 0))) 30 3 (nI (t 0 1)) c1 k1) → (∀ y, y < x → ν 31 y = nI (t 4 y)) → Y pp l ee (rmY 4 100) ss mm aa bb me cd D ad kI kS kL AA 7 0 0 QQ 98 [(6, .int (nI x)), (5, .int (nI 0)), (0, .ref (ad 30)), (1, .int (nI jk)), (2, .int (nI jl)), (3, .int (nI ji)), (4, .int (nI jn))] [] ν := by
            intro n98
            induction n98 with
            | zero => intro x ν hm98; exact absurd hm98 (Nat.not_lt_zero _)
            | succ n98 ih98 =>
              intro x ν hm98 hx hF hW
              refine y_iload CC 0 dX5_town_98 rfl ?_
              refine y_aload_n CC 2 dX5_town_100 rfl rfl ?_
              refine y_geti CC gl_X5_71 (by omega) rfl (v := nI (t 0 0)) (by rw [hF 30 1 (by decide), mu_k _ _ (by decide), mu_at]) dX5_town_101 ?_
              refine z_icmp_ge CC 127 dX5_town_104 (by decide) (a := ((x : Nat) : Int)) (b := ((t 0 0 : Nat) : Int)) (nI_toInt (by omega)) (nI_toInt (by omega)) (fun c_9 => ?_) (fun c_9 => ?_)
              · skip
                refine y_iconst CC (nI 0) dX5_town_127 (by decide) ?_
                refine y_istore CC [(6, .int (nI 0)), (5, .int (nI 0)), (0, .ref (ad 30)), (1, .int (nI jk)), (2, .int (nI jl)), (3, .int (nI ji)), (4, .int (nI jn))] dX5_town_128 (by decide) rfl ?_
                have L130 : ∀ (n130 : Nat) (y : Nat) (ξ : Mem), t 0 1 - y < n130 → (y ≤ t 0 1) → (∀ c1 k1, c1 ≠ 32 → c1 ≠ 33 → c1 ≠ 34 → ξ c1 k1 = ν c1 k1) → (∀ z, z < y → ξ 32 z = nI (t 1 z) ∧ ξ 33 z = nI (t 2 z) ∧ ξ 34 z = nI (t 3 z)) → Y pp l ee (rmY 4 100) ss mm aa bb me cd D ad kI kS kL AA 7 0 0 QQ 130 [(6, .int (nI y)), (5, .int (nI 0)), (0, .ref (ad 30)), (1, .int (nI jk)), (2, .int (nI jl)), (3, .int (nI ji)), (4, .int (nI jn))] [] ξ := by
                  intro n130
                  induction n130 with
                  | zero => intro y ξ hm130; exact absurd hm130 (Nat.not_lt_zero _)
                  | succ n130 ih130 =>
                    intro y ξ hm130 hy hG hV
                    refine y_iload CC 0 dX5_town_130 rfl ?_
                    refine y_aload_n CC 2 dX5_town_132 rfl rfl ?_
                    refine y_geti CC gl_X5_78 (by omega) rfl (v := nI (t 0 1)) (by rw [hG 30 3 (by decide) (by decide) (by decide), hF 30 3 (by decide), mu_at]) dX5_town_133 ?_
                    refine z_icmp_ge CC 187 dX5_town_136 (by decide) (a := ((y : Nat) : Int)) (b := ((t 0 1 : Nat) : Int)) (nI_toInt (by omega)) (nI_toInt (by omega)) (fun c_11 => ?_) (fun c_11 => ?_)
                    · skip
                      refine y_aload_n CC 2 dX5_town_187 rfl rfl ?_
                      refine y_iconst CC (nI 0) dX5_town_188 (by decide) ?_
                      refine y_puti CC pl_X5_128 (by omega) rfl (Nat.le_of_ble_eq_true rfl) dX5_town_189 ?_
                      refine y_aload_n CC 2 dX5_town_192 rfl rfl ?_
                      refine y_aload_n CC 2 dX5_town_193 rfl rfl ?_
                      refine y_geti CC gl_X5_78 (by omega) rfl (v := nI (t 0 1)) (by rw [mu_k _ _ (by decide), hG 30 3 (by decide) (by decide) (by decide), hF 30 3 (by decide), mu_at]) dX5_town_194 ?_
                      refine y_callVI (ci := 5) (st := []) CC cl_X5_116 (m_refused l D ad kI kS kL (mu ξ 30 21 (nI 0)) (nI (t 0 1))) (by omega) rfl rfl rfl (Nat.le_of_ble_eq_true rfl) ⟨by decide, by decide⟩ ⟨Nat.zero_le _, Nat.zero_le _⟩ dX5_town_197 (fun r_ μ_ w_12 => ?_)
                      obtain ⟨rfl, rfl⟩ := w_12
                      refine y_iret CC hQ dX5_town_200 ?_
                      refine ⟨⟨fun h_ => by simp [okT, b_1, ix_nI (show jk < 2 ^ 31 by omega), hv_jl, ix_nI (show jl < 2 ^ 31 by omega), hq_, hpT_] at h_, fun _ => ⟨fun c1 k1 h1 h2 => ?_, by rw [mu_k _ _ (by decide), mu_at], t, by rw [ix_nI (by omega)]; exact hpr_, h7_, ?_⟩⟩, by simp [q_town, hns_, b_1, ix_nI (show jk < 2 ^ 31 by omega), hv_jl, ix_nI (show jl < 2 ^ 31 by omega), hq_, hpT_]⟩
                      · rw [mu_if, mu_if (μ := μ)]
                        split
                        · rfl
                        · rw [mu_ne _ _ (by omega), hG c1 k1 (by omega) (by omega) (by omega), hF c1 k1 (by omega), mu_ne _ _ (by omega), mu_ne _ _ (by omega)]; exact hF2_ c1 k1 (by omega) (by omega)
                      · refine ⟨?_, ?_, fun a ha => ?_, fun p hp => ?_⟩
                        · rw [mu_k _ _ (by decide), mu_k _ _ (by decide), hG 30 1 (by decide) (by decide) (by decide), hF 30 1 (by decide), mu_k _ _ (by decide), mu_at]
                        · rw [mu_k _ _ (by decide), mu_k _ _ (by decide), hG 30 3 (by decide) (by decide) (by decide), hF 30 3 (by decide), mu_at]
                        · rw [mu_ne _ _ (Or.inl (by decide)), mu_ne _ _ (Or.inl (by decide)), mu_ne _ _ (Or.inl (by decide)), mu_ne _ _ (Or.inl (by decide)), mu_ne _ _ (Or.inl (by decide)), mu_ne _ _ (Or.inl (by decide))]
                          exact hV a (by have e_ : tS t = t 0 1 := rfl; omega)
                        · rw [mu_ne _ _ (Or.inl (by decide)), mu_ne _ _ (Or.inl (by decide)), hG 31 p (by decide) (by decide) (by decide)]
                          exact hW p (by have e_ : tP t = t 0 0 := rfl; omega)
                    · skip
                      refine y_aload_n CC 2 dX5_town_139 rfl rfl ?_
                      refine y_getr CC gl_X5_13 (by omega) (d := 32) rfl dX5_town_140 ?_
                      refine y_iload CC 0 dX5_town_143 rfl ?_
                      refine y_aload_n CC 2 dX5_town_145 rfl rfl ?_
                      refine y_getr CC gl_X5_25 (by omega) (d := 36) rfl dX5_town_146 ?_
                      refine y_iload CC 0 dX5_town_149 rfl ?_
                      refine y_ialdN CC (n := 4) (by omega) (by decide) (by omega) (by omega) (v := nI (t 1 y)) (by rw [hG 36 _ (by decide) (by decide) (by decide), hF 36 _ (by decide), mu_ne _ _ (Or.inl (by decide)), mu_ne _ _ (Or.inl (by decide))]; exact (hRD.2.2.2.1 y (by omega)).1) dX5_town_151 ?_
                      refine y_iastN CC (n := 4) (by omega) (by decide) (by omega) (by omega) dX5_town_152 ?_
                      refine y_aload_n CC 2 dX5_town_153 rfl rfl ?_
                      refine y_getr CC gl_X5_16 (by omega) (d := 33) rfl dX5_town_154 ?_
                      refine y_iload CC 0 dX5_town_157 rfl ?_
                      refine y_aload_n CC 2 dX5_town_159 rfl rfl ?_
                      refine y_getr CC gl_X5_28 (by omega) (d := 37) rfl dX5_town_160 ?_
                      refine y_iload CC 0 dX5_town_163 rfl ?_
                      refine y_ialdN CC (n := 4) (by omega) (by decide) (by omega) (by omega) (v := nI (t 2 y)) (by rw [mu_ne _ _ (Or.inl (by decide)), hG 37 _ (by decide) (by decide) (by decide), hF 37 _ (by decide), mu_ne _ _ (Or.inl (by decide)), mu_ne _ _ (Or.inl (by decide))]; exact (hRD.2.2.2.1 y (by omega)).2.1) dX5_town_165 ?_
                      refine y_iastN CC (n := 4) (by omega) (by decide) (by omega) (by omega) dX5_town_166 ?_
                      refine y_aload_n CC 2 dX5_town_167 rfl rfl ?_
                      refine y_getr CC gl_X5_19 (by omega) (d := 34) rfl dX5_town_168 ?_
                      refine y_iload CC 0 dX5_town_171 rfl ?_
                      refine y_aload_n CC 2 dX5_town_173 rfl rfl ?_
                      refine y_getr CC gl_X5_31 (by omega) (d := 38) rfl dX5_town_174 ?_
                      refine y_iload CC 0 dX5_town_177 rfl ?_
                      refine y_ialdN CC (n := 4) (by omega) (by decide) (by omega) (by omega) (v := nI (t 3 y)) (by rw [mu_ne _ _ (Or.inl (by decide)), mu_ne _ _ (Or.inl (by decide)), hG 38 _ (by decide) (by decide) (by decide), hF 38 _ (by decide), mu_ne _ _ (Or.inl (by decide)), mu_ne _ _ (Or.inl (by decide))]; exact (hRD.2.2.2.1 y (by omega)).2.2) dX5_town_179 ?_
                      refine y_iastN CC (n := 4) (by omega) (by decide) (by omega) (by omega) dX5_town_180 ?_
                      refine y_iinc CC 0 (nI (y + 1)) [(6, .int (nI (y + 1))), (5, .int (nI 0)), (0, .ref (ad 30)), (1, .int (nI jk)), (2, .int (nI jl)), (3, .int (nI ji)), (4, .int (nI jn))] dX5_town_181 rfl (i_inc _) (by decide) rfl ?_
                      refine y_goto CC 130 dX5_town_184 (by decide) ?_
                      exact ih130 (y + 1) (mu (mu (mu ξ 32 y (nI (t 1 y))) 33 y (nI (t 2 y))) 34 y (nI (t 3 y))) (by omega) (by omega) (fun c1 k1 h1_ h2_ h3_ => by rw [mu_ne _ _ (Or.inl h3_), mu_ne _ _ (Or.inl h2_), mu_ne _ _ (Or.inl h1_)]; exact hG c1 k1 h1_ h2_ h3_) (fun z hz_ => by rcases (show z < y ∨ z = y by omega) with h_ | rfl; obtain ⟨q1, q2, q3⟩ := hV z h_; exact ⟨by rw [mu_ne _ _ (Or.inl (by decide)), mu_ne _ _ (Or.inl (by decide)), mu_k _ _ (by omega)]; exact q1, by rw [mu_ne _ _ (Or.inl (by decide)), mu_k _ _ (by omega), mu_ne _ _ (Or.inl (by decide))]; exact q2, by rw [mu_k _ _ (by omega), mu_ne _ _ (Or.inl (by decide)), mu_ne _ _ (Or.inl (by decide))]; exact q3⟩; exact ⟨by rw [mu_ne _ _ (Or.inl (by decide)), mu_ne _ _ (Or.inl (by decide)), mu_at], by rw [mu_ne _ _ (Or.inl (by decide)), mu_at], mu_at _ _ _ _⟩)
                exact L130 _ 0 ν (Nat.lt_succ_self _) (Nat.zero_le _) (fun _ _ _ _ _ => rfl) (fun y h => absurd h (Nat.not_lt_zero y))
              · skip
                refine y_aload_n CC 2 dX5_town_107 rfl rfl ?_
                refine y_getr CC gl_X5_7 (by omega) (d := 31) rfl dX5_town_108 ?_
                refine y_iload CC 0 dX5_town_111 rfl ?_
                refine y_aload_n CC 2 dX5_town_113 rfl rfl ?_
                refine y_getr CC gl_X5_22 (by omega) (d := 35) rfl dX5_town_114 ?_
                refine y_iload CC 0 dX5_town_117 rfl ?_
                refine y_ialdN CC (n := 9) (by omega) (by decide) (by omega) (by omega) (v := nI (t 4 x)) (by rw [hF 35 x (by decide), mu_ne _ _ (Or.inl (by decide)), mu_ne _ _ (Or.inl (by decide))]; exact hRD.2.2.2.2 x (by omega)) dX5_town_119 ?_
                refine y_iastN CC (n := 9) (by omega) (by decide) (by omega) (by omega) dX5_town_120 ?_
                refine y_iinc CC 0 (nI (x + 1)) [(6, .int (nI (x + 1))), (5, .int (nI 0)), (0, .ref (ad 30)), (1, .int (nI jk)), (2, .int (nI jl)), (3, .int (nI ji)), (4, .int (nI jn))] dX5_town_121 rfl (i_inc _) (by decide) rfl ?_
                refine y_goto CC 98 dX5_town_124 (by decide) ?_
                exact ih98 (x + 1) (mu ν 31 x (nI (t 4 x))) (by omega) (by omega) (fun c1 k1 h_ => by rw [mu_ne _ _ (Or.inl h_)]; exact hF c1 k1 h_) (fun y hy => by rcases (show y < x ∨ y = x by omega) with h_ | rfl; rw [mu_k _ _ (by omega)]; exact hW y h_; exact mu_at _ _ _ _)
          exact L98 _ 0 (mu (mu μ_ 30 1 (nI (t 0 0))) 30 3 (nI (t 0 1))) (Nat.lt_succ_self _) (Nat.zero_le _) (fun _ _ _ => rfl) (fun y h => absurd h (Nat.not_lt_zero y))
        · skip
          have hpT_ : pzT ζ (nI jk) (nI ji) (nI jn) = some k_ := by rw [pzT_eq (τ := τ), ix_nI (by omega)]; exact hpz_
          refine z_if_neF CC 79 dX5_town_64 (by decide) (a := (0 : Int)) (nI_toInt (by decide)) (by decide) ?_
          refine y_aload_n CC 1 dX5_town_67 rfl rfl ?_
          refine y_bipush CC ((-100)) dX5_town_68 (by decide) ?_
          refine y_aload_n CC 1 dX5_town_70 rfl rfl ?_
          refine y_geti CC gl_X5_83 (by omega) rfl (v := nI k_) h8_ dX5_town_71 ?_
          refine y_isub CC dX5_town_74 (v := -100 - nI k_) (by rfl) ?_
          refine y_callVI (ci := 5) (st := []) CC cl_X5_116 (m_refused l D ad kI kS kL μ_ (-100 - nI k_)) (by omega) rfl rfl rfl (Nat.le_of_ble_eq_true rfl) ⟨by decide, by decide⟩ ⟨Nat.zero_le _, Nat.zero_le _⟩ dX5_town_75 (fun r_ μ_ w_13 => ?_)
          obtain ⟨rfl, rfl⟩ := w_13
          exact y_iret CC hQ dX5_town_78 (⟨⟨fun _ c1 k1 h1 h2 => by rw [hq_, mu_if, mu_if, hF2_ c1 k1 h1 h2], fun h_ => by simp [okT, b_1, ix_nI (show jk < 2 ^ 31 by omega), hv_jl, ix_nI (show jl < 2 ^ 31 by omega), hq_, hpT_] at h_⟩, by simp [q_town, b_1, ix_nI (show jk < 2 ^ 31 by omega), hv_jl, ix_nI (show jl < 2 ^ 31 by omega), hq_, hpT_]⟩)
      · skip
        have hq_ : f_town θ (nI jk) (nI jl) i n = cbF (θ jk 0) (θ jk 1) jl i n := by simp [f_town, cbF, b_1, ix_nI (show jk < 2 ^ 31 by omega), hv_jl, ix_nI (show jl < 2 ^ 31 by omega)]
        have hcl_ := cb_le (θ jk 0) (θ jk 1) jl i n
        refine y_istore CC [(5, .int (-10 - nI (cbF (θ jk 0) (θ jk 1) jl i n))), (0, .ref (ad 30)), (1, .int (nI jk)), (2, .int (nI jl)), (3, .int i), (4, .int n)] dX5_town_42 (by decide) rfl ?_
        refine y_iload CC 0 dX5_town_44 rfl ?_
        refine z_if_geF CC 52 dX5_town_46 (by decide) (a := -10 - ((cbF (θ jk 0) (θ jk 1) jl i n : Nat) : Int)) (m10_i (cb_le _ _ _ _ _)) (by omega) ?_
        refine y_iload CC 0 dX5_town_49 rfl ?_
        exact y_iret CC hQ dX5_town_51 (⟨⟨fun _ c1 k1 _ _ => by simp [b_1, ix_nI (show jk < 2 ^ 31 by omega), hv_jl, ix_nI (show jl < 2 ^ 31 by omega), hq_, hcb_], fun h_ => by simp [okT, b_1, ix_nI (show jk < 2 ^ 31 by omega), hv_jl, ix_nI (show jl < 2 ^ 31 by omega), hq_, hcb_] at h_⟩, by simp [q_town, b_1, ix_nI (show jk < 2 ^ 31 by omega), hv_jl, ix_nI (show jl < 2 ^ 31 by omega), hq_, hcb_]⟩)
    · skip
      have hv_jl : inB la 3 = false := inB_f (by omega)
      refine z_if_neF CC 32 dX5_town_22 (by decide) (a := (0 : Int)) (nI_toInt (by decide)) (by decide) ?_
      refine y_aload_n CC 0 dX5_town_25 rfl rfl ?_
      refine y_bipush CC ((-2)) dX5_town_26 (by decide) ?_
      refine y_callVI (ci := 5) (st := []) CC cl_X5_116 (m_refused l D ad kI kS kL μ (-2)) (by omega) rfl rfl rfl (Nat.le_of_ble_eq_true rfl) ⟨by decide, by decide⟩ ⟨Nat.zero_le _, Nat.zero_le _⟩ dX5_town_28 (fun r_ μ_ w_14 => ?_)
      obtain ⟨rfl, rfl⟩ := w_14
      exact y_iret CC hQ dX5_town_31 (⟨⟨fun _ c1 k1 _ _ => by simp [f_town, b_1, ix_nI (show jk < 2 ^ 31 by omega), hv_jl], fun h_ => by simp [okT, b_1, ix_nI (show jk < 2 ^ 31 by omega), hv_jl] at h_⟩, by simp [q_town, b_1, ix_nI (show jk < 2 ^ 31 by omega), hv_jl]⟩)
