theorem RD0 (μ : Mem) (τ : Tn) (x : Int32) : RD (mu (mu (mu (mu (mu μ 30 8 (nI 0)) 30 10 (nI 0)) 30 8 (nI 1)) 30 8 (nI (1 + 1))) 30 9 (nI (dgN x))) (sP τ x) (1 + 1) := by
  have e0 : sP τ x 0 0 = dgN x := by simp [sP, tu_if]
  have e1 : sP τ x 0 1 = 0 := by simp [sP, sZ, tz, tu_if]
  have e2 : sP τ x 0 2 = 0 := by simp [sP, sZ, tz, tu_if]
  refine ⟨?_, ?_, ?_, fun a ha => ?_, fun p hp => ?_⟩
  · rw [mu_k _ _ (by decide), mu_at]
  · rw [mu_at, e0]
  · rw [mu_k _ _ (by decide), mu_k _ _ (by decide), mu_k _ _ (by decide), mu_at, e1]
  · rw [e1] at ha; exact absurd ha (Nat.not_lt_zero a)
  · rw [e2] at hp; exact absurd hp (Nat.not_lt_zero p)
theorem RD.p3 {μ : Mem} {t : Tn} {k : Nat} (h : RD μ t k) (j : Nat) : RD μ (tu t 0 3 j) k := by simpa [RD, tu_if] using h
def sG (v : Tn) (p d : Nat) : Tn := tu (tu (tu v 4 p d) 0 2 (p + 1)) 0 3 (if p + 1 < v 0 0 then 6 else 7)
theorem RD.gd {μ : Mem} {v : Tn} {u p d : Nat} (h : RD μ v u) (hp : v 0 2 = p) : RD (mu (mu μ 30 8 (nI (u + 1))) 35 p (nI d)) (sG v p d) (u + 1) := by
  have e0 : sG v p d 0 0 = v 0 0 := by simp [sG, tu_if]
  have e1 : sG v p d 0 1 = v 0 1 := by simp [sG, tu_if]
  have e2 : sG v p d 0 2 = p + 1 := by simp [sG, tu_if]
  refine ⟨?_, ?_, ?_, fun a ha => ?_, fun q hq => ?_⟩
  · rw [mu_ne _ _ (Or.inl (by decide)), mu_at]
  · rw [mu_ne _ _ (Or.inl (by decide)), mu_k _ _ (by decide), e0]; exact h.2.1
  · rw [mu_ne _ _ (Or.inl (by decide)), mu_k _ _ (by decide), e1]; exact h.2.2.1
  · rw [e1] at ha
    obtain ⟨q1, q2, q3⟩ := h.2.2.2.1 a ha
    refine ⟨?_, ?_, ?_⟩ <;> rw [mu_ne _ _ (Or.inl (by decide)), mu_ne _ _ (Or.inl (by decide))]
    · simpa [sG, tu_if] using q1
    · simpa [sG, tu_if] using q2
    · simpa [sG, tu_if] using q3
  · rw [e2] at hq
    have e4 : sG v p d 4 q = if q = p then d else v 4 q := by simp [sG, tu_if]
    rw [e4]
    by_cases e : q = p
    · subst e; rw [mu_at, if_pos rfl]
    · rw [mu_k _ _ e, mu_ne _ _ (Or.inl (by decide)), if_neg e]; exact h.2.2.2.2 q (by omega)

set_option maxRecDepth 100000 in
set_option maxHeartbeats 4000000 in
theorem m_readsTown (l : Launch) (D : va_G) (ad : Nat → Nat) (kI kS kL : ClassId) (μ : Mem) (τ : Tn) (hB : tB τ) (f : Nat → Int32) (fr n : Nat) (hn : n ≤ 60) (hfr : fr + n ≤ 240) (hz : ∀ x, x < n → μ 46 (fr + x) = f x) : MI l D ad kI kS kL yX5_readsTown cX5_readsTown 5 (some .boolean) 3 76 [.ref (ad 30), .int (nI fr), .int (nI n)] μ (fun r μ2 => (r = nI 1 ∧ pz τ f n = none ∧ ∃ t, pr τ f n = some t ∧ t 0 3 = 7 ∧ t 0 2 = t 0 0 ∧ RD μ2 t n ∧ FRT μ μ2) ∨ (r = nI 0 ∧ stkP τ f n μ2 ∧ FRT μ μ2)) := by
  refine met_I RX5 rfl (by decide) (lv := [(0, .ref (ad 30)), (1, .int (nI fr)), (2, .int (nI n))]) rfl (Nat.le_of_ble_eq_true rfl) ?_
  intro pp ee ss mm aa bb me cd AA hA0 CC hnm QQ hQ
  refine y_aload_n CC 0 dX5_readsTown_0 rfl rfl ?_
  refine y_iconst CC (nI 0) dX5_readsTown_1 (by decide) ?_
  refine y_puti CC pl_X5_83 (by omega) (fl5_8 _ _ _) (Nat.le_of_ble_eq_true rfl) dX5_readsTown_2 ?_
  refine y_aload_n CC 0 dX5_readsTown_5 rfl rfl ?_
  refine y_iconst CC (nI 0) dX5_readsTown_6 (by decide) ?_
  refine y_puti CC pl_X5_90 (by omega) (fl5_10 _ _ _) (Nat.le_of_ble_eq_true rfl) dX5_readsTown_7 ?_
  refine y_aload_n CC 0 dX5_readsTown_10 rfl rfl ?_
  refine y_iload_n CC 1 dX5_readsTown_11 rfl rfl ?_
  refine y_iload_n CC 2 dX5_readsTown_12 rfl rfl ?_
  refine y_callVI (ci := 5) (st := []) CC cl_X5_86 (m_codeAt l D ad kI kS kL (mu (mu μ 30 8 (nI 0)) 30 10 (nI 0)) f fr n 0 ((mu_k _ _ (by decide)).trans (mu_at _ _ _ _)) (by omega) hfr (fun x_ hx_ => by rw [mu_ne _ _ (Or.inl (by decide))]; rw [mu_ne _ _ (Or.inl (by decide))]; exact hz x_ hx_)) (by omega) rfl rfl rfl (Nat.le_of_ble_eq_true rfl) ⟨by decide, by decide⟩ ⟨Nat.zero_le _, Nat.zero_le _⟩ dX5_readsTown_13 (fun r_ μ_ w_1 => ?_)
  obtain ⟨rfl, rfl⟩ := w_1
  refine y_bipush CC (nI 122) dX5_readsTown_16 (by decide) ?_
  refine z_icmp_ne CC 25 dX5_readsTown_18 (by decide) (a := (cdF f n 0).toInt) (b := (122 : Int)) rfl (nI_toInt (by decide)) (fun c_2 => ?_) (fun c_2 => ?_)
  · skip
    refine y_iconst CC (nI 0) dX5_readsTown_25 (by decide) ?_
    refine y_istore_n CC [(3, .int (nI 0)), (0, .ref (ad 30)), (1, .int (nI fr)), (2, .int (nI n))] dX5_readsTown_26 rfl (by decide) rfl ?_
    refine y_aload_n CC 1 dX5_readsTown_27 rfl rfl ?_
    refine y_dup CC dX5_readsTown_28 rfl ?_
    refine y_geti CC gl_X5_83 (by omega) rfl (v := nI 0) ((mu_k _ _ (by decide)).trans (mu_at _ _ _ _)) dX5_readsTown_29 ?_
    refine y_iload_n CC 0 dX5_readsTown_32 rfl rfl ?_
    refine z_if_eqT CC 40 dX5_readsTown_33 (by decide) (a := (0 : Int)) (nI_toInt (by decide)) (by decide) ?_
    refine y_iconst CC (nI 0) dX5_readsTown_40 (by decide) ?_
    refine y_iadd CC dX5_readsTown_41 (v := nI 0) (nI_add _ _) ?_
    refine y_puti CC pl_X5_83 (by omega) (fl5_8 _ _ _) (Nat.le_of_ble_eq_true rfl) dX5_readsTown_42 ?_
    refine y_aload_n CC 1 dX5_readsTown_45 rfl rfl ?_
    refine y_iload_n CC 0 dX5_readsTown_46 rfl rfl ?_
    refine z_if_eqT CC 62 dX5_readsTown_47 (by decide) (a := (0 : Int)) (nI_toInt (by decide)) (by decide) ?_
    refine y_bipush CC ((-9)) dX5_readsTown_62 (by decide) ?_
    refine y_puti CC pl_X5_93 (by omega) (fl5_9 _ _ _) (Nat.le_of_ble_eq_true rfl) dX5_readsTown_64 ?_
    refine y_aload_n CC 1 dX5_readsTown_67 rfl rfl ?_
    refine y_geti CC gl_X5_93 (by omega) rfl (v := (-9)) (mu_at _ _ _ _) dX5_readsTown_68 ?_
    refine z_if_leT CC 78 dX5_readsTown_71 (by decide) (a := (-9 : Int)) (by decide) (by decide) ?_
    refine y_iconst CC (nI 0) dX5_readsTown_78 (by decide) ?_
    refine y_istore_n CC [(3, .int (nI 0)), (0, .ref (ad 30)), (1, .int (nI fr)), (2, .int (nI n))] dX5_readsTown_79 rfl (by decide) rfl ?_
    refine y_iload_n CC 0 dX5_readsTown_80 rfl rfl ?_
    refine z_if_eqT CC 112 dX5_readsTown_81 (by decide) (a := (0 : Int)) (nI_toInt (by decide)) (by decide) ?_
    refine y_iload_n CC 0 dX5_readsTown_112 rfl rfl ?_
    refine z_if_eqT CC 131 dX5_readsTown_113 (by decide) (a := (0 : Int)) (nI_toInt (by decide)) (by decide) ?_
    refine y_iconst CC (nI 0) dX5_readsTown_131 (by decide) ?_
    refine y_istore_n CC [(3, .int (nI 0)), (0, .ref (ad 30)), (1, .int (nI fr)), (2, .int (nI n))] dX5_readsTown_132 rfl (by decide) rfl ?_
    refine y_aload_n CC 1 dX5_readsTown_133 rfl rfl ?_
    refine y_dup CC dX5_readsTown_134 rfl ?_
    refine y_geti CC gl_X5_83 (by omega) rfl (v := nI 0) ((mu_k _ _ (by decide)).trans (mu_at _ _ _ _)) dX5_readsTown_135 ?_
    refine y_iload_n CC 0 dX5_readsTown_138 rfl rfl ?_
    refine z_if_eqT CC 146 dX5_readsTown_139 (by decide) (a := (0 : Int)) (nI_toInt (by decide)) (by decide) ?_
    refine y_iconst CC (nI 0) dX5_readsTown_146 (by decide) ?_
    refine y_iadd CC dX5_readsTown_147 (v := nI 0) (nI_add _ _) ?_
    refine y_puti CC pl_X5_83 (by omega) (fl5_8 _ _ _) (Nat.le_of_ble_eq_true rfl) dX5_readsTown_148 ?_
    refine y_iconst CC (nI 0) dX5_readsTown_151 (by decide) ?_
    refine y_istore CC [(4, .int (nI 0)), (3, .int (nI 0)), (0, .ref (ad 30)), (1, .int (nI fr)), (2, .int (nI n))] dX5_readsTown_152 (by decide) rfl ?_
    refine y_iload_n CC 1 dX5_readsTown_154 rfl rfl ?_
    refine z_if_eqT CC 205 dX5_readsTown_155 (by decide) (a := (0 : Int)) (nI_toInt (by decide)) (by decide) ?_
    refine y_iload_n CC 1 dX5_readsTown_205 rfl rfl ?_
    refine z_if_eqT CC 221 dX5_readsTown_206 (by decide) (a := (0 : Int)) (nI_toInt (by decide)) (by decide) ?_
    refine y_iconst CC (nI 0) dX5_readsTown_221 (by decide) ?_
    exact y_zret CC hQ dX5_readsTown_222 (by decide) (Or.inr ⟨rfl, ⟨0, Nat.zero_le _, mu_at _ _ _ _, stuck (t := tz τ) rfl (Nat.zero_le _) (by simp [tz]) (by rw [ps0, if_neg (by omega)])⟩, ((((((FRT.rf μ).mu _ (by omega)).mu _ (by omega)).mu _ (by omega)).mu _ (by omega)).mu _ (by omega))⟩)
  · skip
    have hc0_ := cd_lt (f := f) (n := n) (k := 0) (by omega)
    have hc0b_ := hc0_.1
    have hp1_ : pr τ f (0 + 1) = some (sZ τ) := by rw [pr_s (t := tz τ) rfl, ← hc0_.2, ps0, if_pos (by omega)]
    refine y_iconst CC (nI 1) dX5_readsTown_21 (by decide) ?_
    refine y_goto CC 26 dX5_readsTown_22 (by decide) ?_
    refine y_istore_n CC [(3, .int (nI 1)), (0, .ref (ad 30)), (1, .int (nI fr)), (2, .int (nI n))] dX5_readsTown_26 rfl (by decide) rfl ?_
    refine y_aload_n CC 1 dX5_readsTown_27 rfl rfl ?_
    refine y_dup CC dX5_readsTown_28 rfl ?_
    refine y_geti CC gl_X5_83 (by omega) rfl (v := nI 0) ((mu_k _ _ (by decide)).trans (mu_at _ _ _ _)) dX5_readsTown_29 ?_
    refine y_iload_n CC 0 dX5_readsTown_32 rfl rfl ?_
    refine z_if_eqF CC 40 dX5_readsTown_33 (by decide) (a := (1 : Int)) (nI_toInt (by decide)) (by decide) ?_
    refine y_iconst CC (nI 1) dX5_readsTown_36 (by decide) ?_
    refine y_goto CC 41 dX5_readsTown_37 (by decide) ?_
    refine y_iadd CC dX5_readsTown_41 (v := nI 1) (nI_add _ _) ?_
    refine y_puti CC pl_X5_83 (by omega) (fl5_8 _ _ _) (Nat.le_of_ble_eq_true rfl) dX5_readsTown_42 ?_
    refine y_aload_n CC 1 dX5_readsTown_45 rfl rfl ?_
    refine y_iload_n CC 0 dX5_readsTown_46 rfl rfl ?_
    refine z_if_eqF CC 62 dX5_readsTown_47 (by decide) (a := (1 : Int)) (nI_toInt (by decide)) (by decide) ?_
    refine y_aload_n CC 1 dX5_readsTown_50 rfl rfl ?_
    refine y_iload_n CC 2 dX5_readsTown_51 rfl rfl ?_
    refine y_iload_n CC 3 dX5_readsTown_52 rfl rfl ?_
    refine y_iconst CC (nI 3) dX5_readsTown_53 (by decide) ?_
    refine y_bipush CC (nI 9) dX5_readsTown_54 (by decide) ?_
    refine y_callVI (ci := 5) (st := [.ref (ad 30)]) CC cl_X5_96 (m_figure l D ad kI kS kL (mu (mu (mu μ 30 8 (nI 0)) 30 10 (nI 0)) 30 8 (nI 1)) f fr n 1 (mu_at _ _ _ _) (by omega) hfr (fun x_ hx_ => by rw [mu_ne _ _ (Or.inl (by decide))]; rw [mu_ne _ _ (Or.inl (by decide))]; rw [mu_ne _ _ (Or.inl (by decide))]; exact hz x_ hx_) 3 9 (by omega) (by omega)) (by omega) rfl rfl rfl (Nat.le_of_ble_eq_true rfl) ⟨by decide, by decide⟩ ⟨Nat.zero_le _, Nat.zero_le _⟩ dX5_readsTown_56 (fun r_ μ_ w_4 => ?_)
    rcases w_4 with ⟨g_3, rfl, rfl⟩ | ⟨g_3, rfl, rfl⟩
    · skip
      have hc1_ := cd_lt (f := f) (n := n) (k := 1) (fun q_ => by have := dg_out (x := cdF f n 1) (by omega); omega)
      have hc1b_ := hc1_.1
      have hp2_ : pr τ f (1 + 1) = some (sP τ (cdF f n 1)) := by rw [pr_s hp1_, ← hc1_.2, ps1, if_pos (by omega)]
      refine y_goto CC 64 dX5_readsTown_59 (by decide) ?_
      refine y_puti CC pl_X5_93 (by omega) (fl5_9 _ _ _) (Nat.le_of_ble_eq_true rfl) dX5_readsTown_64 ?_
      refine y_aload_n CC 1 dX5_readsTown_67 rfl rfl ?_
      refine y_geti CC gl_X5_93 (by omega) rfl (v := nI (dgN (cdF f n 1))) (mu_at _ _ _ _) dX5_readsTown_68 ?_
      refine z_if_leF CC 78 dX5_readsTown_71 (by decide) (a := ((dgN (cdF f n 1) : Nat) : Int)) (nI_toInt (by omega)) (by omega) ?_
      refine y_iconst CC (nI 1) dX5_readsTown_74 (by decide) ?_
      refine y_goto CC 79 dX5_readsTown_75 (by decide) ?_
      refine y_istore_n CC [(3, .int (nI 1)), (0, .ref (ad 30)), (1, .int (nI fr)), (2, .int (nI n))] dX5_readsTown_79 rfl (by decide) rfl ?_
      have L80 : ∀ (n80 : Nat) (fl : Nat) (k : Nat) (t : Tn) (ν : Mem), fl * (5 - t 0 1) < n80 → ((fl = 1 ∧ k ≤ n ∧ pr τ f k = some t ∧ t 0 3 = 2 ∧ t 0 2 = 0 ∧ RD ν t k) ∨ (fl = 0 ∧ stkP τ f n ν)) → (FRT μ ν) → Y pp l ee (rmY 3 76) ss mm aa bb me cd D ad kI kS kL AA 5 0 0 QQ 80 [(3, .int (nI fl)), (0, .ref (ad 30)), (1, .int (nI fr)), (2, .int (nI n))] [] ν := by
        intro n80
        induction n80 with
        | zero => intro fl k t ν hm80; exact absurd hm80 (Nat.not_lt_zero _)
        | succ n80 ih80 =>
          intro fl k t ν hm80 hI hF
          rcases hI with ⟨rfl, hkn_, hpr, h3, h2, hRD⟩ | ⟨rfl, k_, hk_, h8_, hpz_⟩
          · skip
            have hpb_ := pr_B hB f k t hpr
            have ht0_ : t 0 0 ≤ 9 := hpb_.1.1
            have ht1_ : t 0 1 ≤ 4 := hpb_.1.2.1
            have ht3_ : 3 ≤ t 0 0 := hpb_.2.2.2.1 (by omega)
            refine y_iload_n CC 0 dX5_readsTown_80 rfl rfl ?_
            refine z_if_eqF CC 112 dX5_readsTown_81 (by decide) (a := (1 : Int)) (nI_toInt (by decide)) (by decide) ?_
            refine y_aload_n CC 1 dX5_readsTown_84 rfl rfl ?_
            refine y_geti CC gl_X5_90 (by omega) rfl (v := nI (t 0 1)) hRD.2.2.1 dX5_readsTown_85 ?_
            refine z_if_eq CC 102 dX5_readsTown_88 (by decide) (a := ((t 0 1 : Nat) : Int)) (nI_toInt (by omega)) (fun c_6 => ?_) (fun c_6 => ?_)
            · skip
              refine y_aload_n CC 1 dX5_readsTown_102 rfl rfl ?_
              refine y_iload_n CC 2 dX5_readsTown_103 rfl rfl ?_
              refine y_iload_n CC 3 dX5_readsTown_104 rfl rfl ?_
              refine y_callVI (ci := 5) (st := []) CC cl_X5_100 (m_readsSleeper l D ad kI kS kL ν τ hB f fr n k t hkn_ hn hfr (fun x_ hx_ => (hF 46 _ (Or.inr (by decide)) (Or.inl (by decide))).trans (hz x_ hx_)) hpr h3 hRD (by omega)) (by omega) rfl rfl rfl (Nat.le_of_ble_eq_true rfl) ⟨by decide, by decide⟩ ⟨Nat.zero_le _, Nat.zero_le _⟩ dX5_readsTown_105 (fun r_ μ_ w_7 => ?_)
              rcases w_7 with ⟨rfl, t2, hk4_, hpr2_, h32_, h22_, h12_, hRD2_, hF2_⟩ | ⟨rfl, hst_, hF2_⟩
              · skip
                refine y_istore_n CC [(3, .int (nI 1)), (0, .ref (ad 30)), (1, .int (nI fr)), (2, .int (nI n))] dX5_readsTown_108 rfl (by decide) rfl ?_
                refine y_goto CC 80 dX5_readsTown_109 (by decide) ?_
                exact ih80 1 (k + 1 + 1 + 1 + 1) t2 μ_ (by omega) (Or.inl ⟨rfl, by omega, hpr2_, h32_, h22_.trans h2, hRD2_⟩) (hF.tr hF2_)
              · skip
                refine y_istore_n CC [(3, .int (nI 0)), (0, .ref (ad 30)), (1, .int (nI fr)), (2, .int (nI n))] dX5_readsTown_108 rfl (by decide) rfl ?_
                refine y_goto CC 80 dX5_readsTown_109 (by decide) ?_
                exact ih80 0 k t μ_ (by omega) (Or.inr ⟨rfl, hst_⟩) (hF.tr hF2_)
            · skip
              refine y_aload_n CC 1 dX5_readsTown_91 rfl rfl ?_
              refine y_iload_n CC 2 dX5_readsTown_92 rfl rfl ?_
              refine y_iload_n CC 3 dX5_readsTown_93 rfl rfl ?_
              refine y_callVI (ci := 5) (st := []) CC cl_X5_86 (m_codeAt l D ad kI kS kL ν f fr n k hRD.1 (by omega) hfr (fun x_ hx_ => (hF 46 _ (Or.inr (by decide)) (Or.inl (by decide))).trans (hz x_ hx_))) (by omega) rfl rfl rfl (Nat.le_of_ble_eq_true rfl) ⟨by decide, by decide⟩ ⟨Nat.zero_le _, Nat.zero_le _⟩ dX5_readsTown_94 (fun r_ μ_ w_8 => ?_)
              obtain ⟨rfl, rfl⟩ := w_8
              refine y_bipush CC (nI 59) dX5_readsTown_97 (by decide) ?_
              refine z_icmp_ne CC 112 dX5_readsTown_99 (by decide) (a := (cdF f n k).toInt) (b := (59 : Int)) rfl (nI_toInt (by decide)) (fun c_9 => ?_) (fun c_9 => ?_)
              · skip
                refine y_iload_n CC 0 dX5_readsTown_112 rfl rfl ?_
                refine z_if_eqF CC 131 dX5_readsTown_113 (by decide) (a := (1 : Int)) (nI_toInt (by decide)) (by decide) ?_
                refine y_aload_n CC 1 dX5_readsTown_116 rfl rfl ?_
                refine y_iload_n CC 2 dX5_readsTown_117 rfl rfl ?_
                refine y_iload_n CC 3 dX5_readsTown_118 rfl rfl ?_
                refine y_callVI (ci := 5) (st := []) CC cl_X5_86 (m_codeAt l D ad kI kS kL ν f fr n k hRD.1 (by omega) hfr (fun x_ hx_ => (hF 46 _ (Or.inr (by decide)) (Or.inl (by decide))).trans (hz x_ hx_))) (by omega) rfl rfl rfl (Nat.le_of_ble_eq_true rfl) ⟨by decide, by decide⟩ ⟨Nat.zero_le _, Nat.zero_le _⟩ dX5_readsTown_119 (fun r_ μ_ w_10 => ?_)
                obtain ⟨rfl, rfl⟩ := w_10
                refine y_bipush CC (nI 47) dX5_readsTown_122 (by decide) ?_
                refine z_icmp_ne CC 131 dX5_readsTown_124 (by decide) (a := (cdF f n k).toInt) (b := (47 : Int)) rfl (nI_toInt (by decide)) (fun c_11 => ?_) (fun c_11 => ?_)
                · skip
                  refine y_iconst CC (nI 0) dX5_readsTown_131 (by decide) ?_
                  refine y_istore_n CC [(3, .int (nI 0)), (0, .ref (ad 30)), (1, .int (nI fr)), (2, .int (nI n))] dX5_readsTown_132 rfl (by decide) rfl ?_
                  refine y_aload_n CC 1 dX5_readsTown_133 rfl rfl ?_
                  refine y_dup CC dX5_readsTown_134 rfl ?_
                  refine y_geti CC gl_X5_83 (by omega) rfl (v := nI k) hRD.1 dX5_readsTown_135 ?_
                  refine y_iload_n CC 0 dX5_readsTown_138 rfl rfl ?_
                  refine z_if_eqT CC 146 dX5_readsTown_139 (by decide) (a := (0 : Int)) (nI_toInt (by decide)) (by decide) ?_
                  refine y_iconst CC (nI 0) dX5_readsTown_146 (by decide) ?_
                  refine y_iadd CC dX5_readsTown_147 (v := nI k) (nI_add _ _) ?_
                  refine y_puti CC pl_X5_83 (by omega) (fl5_8 _ _ _) (Nat.le_of_ble_eq_true rfl) dX5_readsTown_148 ?_
                  refine y_iconst CC (nI 0) dX5_readsTown_151 (by decide) ?_
                  refine y_istore CC [(4, .int (nI 0)), (3, .int (nI 0)), (0, .ref (ad 30)), (1, .int (nI fr)), (2, .int (nI n))] dX5_readsTown_152 (by decide) rfl ?_
                  refine y_iload_n CC 1 dX5_readsTown_154 rfl rfl ?_
                  refine z_if_eqT CC 205 dX5_readsTown_155 (by decide) (a := (0 : Int)) (nI_toInt (by decide)) (by decide) ?_
                  refine y_iload_n CC 1 dX5_readsTown_205 rfl rfl ?_
                  refine z_if_eqT CC 221 dX5_readsTown_206 (by decide) (a := (0 : Int)) (nI_toInt (by decide)) (by decide) ?_
                  refine y_iconst CC (nI 0) dX5_readsTown_221 (by decide) ?_
                  exact y_zret CC hQ dX5_readsTown_222 (by decide) (Or.inr ⟨rfl, ⟨k, hkn_, mu_at _ _ _ _, stuck hpr hkn_ (by omega) (by rw [ps2 h3, if_neg (by omega), if_neg (by omega)])⟩, (hF.mu _ (by omega))⟩)
                · skip
                  have hck_ := cd_lt (f := f) (n := n) (k := k) (by omega)
                  have hckb_ := hck_.1
                  have hp6_ : pr τ f (k + 1) = some (tu t 0 3 6) := by rw [pr_s hpr, ← hck_.2, ps2 h3, if_neg (by omega), if_pos ⟨by omega, by omega⟩]
                  refine y_iconst CC (nI 1) dX5_readsTown_127 (by decide) ?_
                  refine y_goto CC 132 dX5_readsTown_128 (by decide) ?_
                  refine y_istore_n CC [(3, .int (nI 1)), (0, .ref (ad 30)), (1, .int (nI fr)), (2, .int (nI n))] dX5_readsTown_132 rfl (by decide) rfl ?_
                  refine y_aload_n CC 1 dX5_readsTown_133 rfl rfl ?_
                  refine y_dup CC dX5_readsTown_134 rfl ?_
                  refine y_geti CC gl_X5_83 (by omega) rfl (v := nI k) hRD.1 dX5_readsTown_135 ?_
                  refine y_iload_n CC 0 dX5_readsTown_138 rfl rfl ?_
                  refine z_if_eqF CC 146 dX5_readsTown_139 (by decide) (a := (1 : Int)) (nI_toInt (by decide)) (by decide) ?_
                  refine y_iconst CC (nI 1) dX5_readsTown_142 (by decide) ?_
                  refine y_goto CC 147 dX5_readsTown_143 (by decide) ?_
                  refine y_iadd CC dX5_readsTown_147 (v := nI (k + 1)) (nI_add _ _) ?_
                  refine y_puti CC pl_X5_83 (by omega) (fl5_8 _ _ _) (Nat.le_of_ble_eq_true rfl) dX5_readsTown_148 ?_
                  refine y_iconst CC (nI 0) dX5_readsTown_151 (by decide) ?_
                  refine y_istore CC [(4, .int (nI 0)), (3, .int (nI 1)), (0, .ref (ad 30)), (1, .int (nI fr)), (2, .int (nI n))] dX5_readsTown_152 (by decide) rfl ?_
                  have L154 : ∀ (n154 : Nat) (gl : Nat) (p : Nat) (u : Nat) (v : Tn) (ξ : Mem), gl * (10 - p) < n154 → ((gl = 1 ∧ u ≤ n ∧ pr τ f u = some v ∧ v 0 2 = p ∧ p ≤ v 0 0 ∧ v 0 3 = (if p < v 0 0 then 6 else 7) ∧ RD ξ v u) ∨ (gl = 0 ∧ stkP τ f n ξ)) → (FRT μ ξ) → Y pp l ee (rmY 3 76) ss mm aa bb me cd D ad kI kS kL AA 5 0 0 QQ 154 [(4, .int (nI p)), (3, .int (nI gl)), (0, .ref (ad 30)), (1, .int (nI fr)), (2, .int (nI n))] [] ξ := by
                    intro n154
                    induction n154 with
                    | zero => intro gl p u v ξ hm154; exact absurd hm154 (Nat.not_lt_zero _)
                    | succ n154 ih154 =>
                      intro gl p u v ξ hm154 hJ hG
                      rcases hJ with ⟨rfl, hu_, hprv_, h2v_, hpv_, h3v_, hRDv_⟩ | ⟨rfl, k2_, hk2_, h82_, hpz2_⟩
                      · skip
                        have hpbv_ := pr_B hB f u v hprv_
                        have hv0_ : v 0 0 ≤ 9 := hpbv_.1.1
                        refine y_iload_n CC 1 dX5_readsTown_154 rfl rfl ?_
                        refine z_if_eqF CC 205 dX5_readsTown_155 (by decide) (a := (1 : Int)) (nI_toInt (by decide)) (by decide) ?_
                        refine y_iload CC 0 dX5_readsTown_158 rfl ?_
                        refine y_aload_n CC 2 dX5_readsTown_160 rfl rfl ?_
                        refine y_geti CC gl_X5_93 (by omega) rfl (v := nI (v 0 0)) hRDv_.2.1 dX5_readsTown_161 ?_
                        refine z_icmp_ge CC 205 dX5_readsTown_164 (by decide) (a := ((p : Nat) : Int)) (b := ((v 0 0 : Nat) : Int)) (nI_toInt (by omega)) (nI_toInt (by omega)) (fun c_13 => ?_) (fun c_13 => ?_)
                        · skip
                          have h37_ : v 0 3 = 7 := by rw [h3v_, if_neg (by omega)]
                          refine y_iload_n CC 1 dX5_readsTown_205 rfl rfl ?_
                          refine z_if_eqF CC 221 dX5_readsTown_206 (by decide) (a := (1 : Int)) (nI_toInt (by decide)) (by decide) ?_
                          refine y_aload_n CC 2 dX5_readsTown_209 rfl rfl ?_
                          refine y_geti CC gl_X5_83 (by omega) rfl (v := nI u) hRDv_.1 dX5_readsTown_210 ?_
                          refine y_iload_n CC 4 dX5_readsTown_213 rfl rfl ?_
                          refine z_icmp_ne CC 221 dX5_readsTown_214 (by decide) (a := ((u : Nat) : Int)) (b := ((n : Nat) : Int)) (nI_toInt (by omega)) (nI_toInt (by omega)) (fun c_14 => ?_) (fun c_14 => ?_)
                          · skip
                            refine y_iconst CC (nI 0) dX5_readsTown_221 (by decide) ?_
                            exact y_zret CC hQ dX5_readsTown_222 (by decide) (Or.inr ⟨rfl, ⟨u, hu_, hRDv_.1, stuck7 hprv_ (by omega) h37_⟩, hG⟩)
                          · skip
                            obtain rfl : u = n := by omega
                            refine y_iconst CC (nI 1) dX5_readsTown_217 (by decide) ?_
                            refine y_goto CC 222 dX5_readsTown_218 (by decide) ?_
                            exact y_zret CC hQ dX5_readsTown_222 (by decide) (Or.inl ⟨rfl, done7 hprv_ h37_, v, hprv_, h37_, h2v_.trans (by omega), hRDv_, hG⟩)
                        · skip
                          have h36_ : v 0 3 = 6 := by rw [h3v_, if_pos (by omega)]
                          refine y_aload_n CC 2 dX5_readsTown_167 rfl rfl ?_
                          refine y_getr CC gl_X5_22 (by omega) (d := 35) rfl dX5_readsTown_168 ?_
                          refine y_iload CC 0 dX5_readsTown_171 rfl ?_
                          refine y_aload_n CC 2 dX5_readsTown_173 rfl rfl ?_
                          refine y_iload_n CC 3 dX5_readsTown_174 rfl rfl ?_
                          refine y_iload_n CC 4 dX5_readsTown_175 rfl rfl ?_
                          refine y_iconst CC (nI 0) dX5_readsTown_176 (by decide) ?_
                          refine y_bipush CC (nI 9) dX5_readsTown_177 (by decide) ?_
                          refine y_callVI (ci := 5) (st := [.int (nI p), .ref (ad 35)]) CC cl_X5_96 (m_figure l D ad kI kS kL ξ f fr n u hRDv_.1 (by omega) hfr (fun x_ hx_ => (hG 46 _ (Or.inr (by decide)) (Or.inl (by decide))).trans (hz x_ hx_)) 0 9 (by omega) (by omega)) (by omega) rfl rfl rfl (Nat.le_of_ble_eq_true rfl) ⟨by decide, by decide⟩ ⟨Nat.zero_le _, Nat.zero_le _⟩ dX5_readsTown_179 (fun r_ μ_ w_16 => ?_)
                          rcases w_16 with ⟨g_15, rfl, rfl⟩ | ⟨g_15, rfl, rfl⟩
                          · skip
                            have hcu_ := cd_lt (f := f) (n := n) (k := u) (fun q_ => by have := dg_out (x := cdF f n u) (by omega); omega)
                            have hcub_ := hcu_.1
                            have hpg_ : pr τ f (u + 1) = some (sG v p (dgN (cdF f n u))) := by rw [pr_s hprv_, ← hcu_.2, ps6 (by omega), if_pos (by omega), h2v_]; rfl
                            refine y_iastN CC (n := 9) (by omega) (by decide) (by omega) (by omega) dX5_readsTown_182 ?_
                            refine y_aload_n CC 2 dX5_readsTown_183 rfl rfl ?_
                            refine y_getr CC gl_X5_22 (by omega) (d := 35) rfl dX5_readsTown_184 ?_
                            refine y_iload CC 0 dX5_readsTown_187 rfl ?_
                            refine y_ialdN CC (n := 9) (by omega) (by decide) (by omega) (by omega) (v := nI (dgN (cdF f n u))) (mu_at _ _ _ _) dX5_readsTown_189 ?_
                            refine z_if_ltF CC 197 dX5_readsTown_190 (by decide) (a := ((dgN (cdF f n u) : Nat) : Int)) (nI_toInt (by omega)) (by omega) ?_
                            refine y_iconst CC (nI 1) dX5_readsTown_193 (by decide) ?_
                            refine y_goto CC 198 dX5_readsTown_194 (by decide) ?_
                            refine y_istore_n CC [(3, .int (nI 1)), (4, .int (nI p)), (0, .ref (ad 30)), (1, .int (nI fr)), (2, .int (nI n))] dX5_readsTown_198 rfl (by decide) rfl ?_
                            refine y_iinc CC 1 (nI (p + 1)) [(4, .int (nI (p + 1))), (3, .int (nI 1)), (0, .ref (ad 30)), (1, .int (nI fr)), (2, .int (nI n))] dX5_readsTown_199 rfl (i_inc _) (by decide) rfl ?_
                            refine y_goto CC 154 dX5_readsTown_202 (by decide) ?_
                            exact ih154 1 (p + 1) (u + 1) (sG v p (dgN (cdF f n u))) (mu (mu ξ 30 8 (nI (u + 1))) 35 p (nI (dgN (cdF f n u)))) (by omega) (Or.inl ⟨rfl, by omega, hpg_, by simp [sG, tu_if], by simp [sG, tu_if]; omega, by simp [sG, tu_if], hRDv_.gd h2v_⟩) ((hG.mu _ (by omega)).mu _ (by omega))
                          · skip
                            have hsu_ := stuck hprv_ hu_ (by omega) (by rw [ps6 (by omega), if_neg (by omega)])
                            refine y_iastN CC (n := 9) (by omega) (by decide) (by omega) (by omega) dX5_readsTown_182 ?_
                            refine y_aload_n CC 2 dX5_readsTown_183 rfl rfl ?_
                            refine y_getr CC gl_X5_22 (by omega) (d := 35) rfl dX5_readsTown_184 ?_
                            refine y_iload CC 0 dX5_readsTown_187 rfl ?_
                            refine y_ialdN CC (n := 9) (by omega) (by decide) (by omega) (by omega) (v := (-9)) (mu_at _ _ _ _) dX5_readsTown_189 ?_
                            refine z_if_ltT CC 197 dX5_readsTown_190 (by decide) (a := (-9 : Int)) (by decide) (by decide) ?_
                            refine y_iconst CC (nI 0) dX5_readsTown_197 (by decide) ?_
                            refine y_istore_n CC [(3, .int (nI 0)), (4, .int (nI p)), (0, .ref (ad 30)), (1, .int (nI fr)), (2, .int (nI n))] dX5_readsTown_198 rfl (by decide) rfl ?_
                            refine y_iinc CC 1 (nI (p + 1)) [(4, .int (nI (p + 1))), (3, .int (nI 0)), (0, .ref (ad 30)), (1, .int (nI fr)), (2, .int (nI n))] dX5_readsTown_199 rfl (i_inc _) (by decide) rfl ?_
                            refine y_goto CC 154 dX5_readsTown_202 (by decide) ?_
                            exact ih154 0 (p + 1) u v (mu ξ 35 p (-9)) (by omega) (Or.inr ⟨rfl, u, hu_, by rw [mu_ne _ _ (Or.inl (by decide))]; exact hRDv_.1, hsu_⟩) (hG.mu _ (by omega))
                      · skip
                        refine y_iload_n CC 1 dX5_readsTown_154 rfl rfl ?_
                        refine z_if_eqT CC 205 dX5_readsTown_155 (by decide) (a := (0 : Int)) (nI_toInt (by decide)) (by decide) ?_
                        refine y_iload_n CC 1 dX5_readsTown_205 rfl rfl ?_
                        refine z_if_eqT CC 221 dX5_readsTown_206 (by decide) (a := (0 : Int)) (nI_toInt (by decide)) (by decide) ?_
                        refine y_iconst CC (nI 0) dX5_readsTown_221 (by decide) ?_
                        exact y_zret CC hQ dX5_readsTown_222 (by decide) (Or.inr ⟨rfl, ⟨k2_, hk2_, h82_, hpz2_⟩, hG⟩)
                  exact L154 _ 1 0 (k + 1) (tu t 0 3 6) (mu ν 30 8 (nI (k + 1))) (Nat.lt_succ_self _) (Or.inl ⟨rfl, by omega, hp6_, (by simpa [tu_if] using h2), Nat.zero_le _, (by rw [if_pos (by simp [tu_if]; omega)]; simp [tu_if]), (RD.at _ _ _ _ hRD).p3 6⟩) (hF.mu _ (by omega))
              · skip
                refine y_aload_n CC 1 dX5_readsTown_102 rfl rfl ?_
                refine y_iload_n CC 2 dX5_readsTown_103 rfl rfl ?_
                refine y_iload_n CC 3 dX5_readsTown_104 rfl rfl ?_
                refine y_callVI (ci := 5) (st := []) CC cl_X5_100 (m_readsSleeper l D ad kI kS kL ν τ hB f fr n k t hkn_ hn hfr (fun x_ hx_ => (hF 46 _ (Or.inr (by decide)) (Or.inl (by decide))).trans (hz x_ hx_)) hpr h3 hRD (by omega)) (by omega) rfl rfl rfl (Nat.le_of_ble_eq_true rfl) ⟨by decide, by decide⟩ ⟨Nat.zero_le _, Nat.zero_le _⟩ dX5_readsTown_105 (fun r_ μ_ w_17 => ?_)
                rcases w_17 with ⟨rfl, t2, hk4_, hpr2_, h32_, h22_, h12_, hRD2_, hF2_⟩ | ⟨rfl, hst_, hF2_⟩
                · skip
                  refine y_istore_n CC [(3, .int (nI 1)), (0, .ref (ad 30)), (1, .int (nI fr)), (2, .int (nI n))] dX5_readsTown_108 rfl (by decide) rfl ?_
                  refine y_goto CC 80 dX5_readsTown_109 (by decide) ?_
                  exact ih80 1 (k + 1 + 1 + 1 + 1) t2 μ_ (by omega) (Or.inl ⟨rfl, by omega, hpr2_, h32_, h22_.trans h2, hRD2_⟩) (hF.tr hF2_)
                · skip
                  refine y_istore_n CC [(3, .int (nI 0)), (0, .ref (ad 30)), (1, .int (nI fr)), (2, .int (nI n))] dX5_readsTown_108 rfl (by decide) rfl ?_
                  refine y_goto CC 80 dX5_readsTown_109 (by decide) ?_
                  exact ih80 0 k t μ_ (by omega) (Or.inr ⟨rfl, hst_⟩) (hF.tr hF2_)
          · skip
            refine y_iload_n CC 0 dX5_readsTown_80 rfl rfl ?_
            refine z_if_eqT CC 112 dX5_readsTown_81 (by decide) (a := (0 : Int)) (nI_toInt (by decide)) (by decide) ?_
            refine y_iload_n CC 0 dX5_readsTown_112 rfl rfl ?_
            refine z_if_eqT CC 131 dX5_readsTown_113 (by decide) (a := (0 : Int)) (nI_toInt (by decide)) (by decide) ?_
            refine y_iconst CC (nI 0) dX5_readsTown_131 (by decide) ?_
            refine y_istore_n CC [(3, .int (nI 0)), (0, .ref (ad 30)), (1, .int (nI fr)), (2, .int (nI n))] dX5_readsTown_132 rfl (by decide) rfl ?_
            refine y_aload_n CC 1 dX5_readsTown_133 rfl rfl ?_
            refine y_dup CC dX5_readsTown_134 rfl ?_
            refine y_geti CC gl_X5_83 (by omega) rfl (v := nI k_) h8_ dX5_readsTown_135 ?_
            refine y_iload_n CC 0 dX5_readsTown_138 rfl rfl ?_
            refine z_if_eqT CC 146 dX5_readsTown_139 (by decide) (a := (0 : Int)) (nI_toInt (by decide)) (by decide) ?_
            refine y_iconst CC (nI 0) dX5_readsTown_146 (by decide) ?_
            refine y_iadd CC dX5_readsTown_147 (v := nI k_) (nI_add _ _) ?_
            refine y_puti CC pl_X5_83 (by omega) (fl5_8 _ _ _) (Nat.le_of_ble_eq_true rfl) dX5_readsTown_148 ?_
            refine y_iconst CC (nI 0) dX5_readsTown_151 (by decide) ?_
            refine y_istore CC [(4, .int (nI 0)), (3, .int (nI 0)), (0, .ref (ad 30)), (1, .int (nI fr)), (2, .int (nI n))] dX5_readsTown_152 (by decide) rfl ?_
            refine y_iload_n CC 1 dX5_readsTown_154 rfl rfl ?_
            refine z_if_eqT CC 205 dX5_readsTown_155 (by decide) (a := (0 : Int)) (nI_toInt (by decide)) (by decide) ?_
            refine y_iload_n CC 1 dX5_readsTown_205 rfl rfl ?_
            refine z_if_eqT CC 221 dX5_readsTown_206 (by decide) (a := (0 : Int)) (nI_toInt (by decide)) (by decide) ?_
            refine y_iconst CC (nI 0) dX5_readsTown_221 (by decide) ?_
            exact y_zret CC hQ dX5_readsTown_222 (by decide) (Or.inr ⟨rfl, ⟨k_, hk_, mu_at _ _ _ _, hpz_⟩, (hF.mu _ (by omega))⟩)
      exact L80 _ 1 (1 + 1) (sP τ (cdF f n 1)) (mu (mu (mu (mu (mu μ 30 8 (nI 0)) 30 10 (nI 0)) 30 8 (nI 1)) 30 8 (nI (1 + 1))) 30 9 (nI (dgN (cdF f n 1)))) (Nat.lt_succ_self _) (Or.inl ⟨rfl, by omega, hp2_, by simp [sP, tu_if], by simp [sP, sZ, tz, tu_if], RD0 μ τ _⟩) ((((((FRT.rf μ).mu _ (by omega)).mu _ (by omega)).mu _ (by omega)).mu _ (by omega)).mu _ (by omega))
    · skip
      refine y_goto CC 64 dX5_readsTown_59 (by decide) ?_
      refine y_puti CC pl_X5_93 (by omega) (fl5_9 _ _ _) (Nat.le_of_ble_eq_true rfl) dX5_readsTown_64 ?_
      refine y_aload_n CC 1 dX5_readsTown_67 rfl rfl ?_
      refine y_geti CC gl_X5_93 (by omega) rfl (v := (-9)) (mu_at _ _ _ _) dX5_readsTown_68 ?_
      refine z_if_leT CC 78 dX5_readsTown_71 (by decide) (a := (-9 : Int)) (by decide) (by decide) ?_
      refine y_iconst CC (nI 0) dX5_readsTown_78 (by decide) ?_
      refine y_istore_n CC [(3, .int (nI 0)), (0, .ref (ad 30)), (1, .int (nI fr)), (2, .int (nI n))] dX5_readsTown_79 rfl (by decide) rfl ?_
      refine y_iload_n CC 0 dX5_readsTown_80 rfl rfl ?_
      refine z_if_eqT CC 112 dX5_readsTown_81 (by decide) (a := (0 : Int)) (nI_toInt (by decide)) (by decide) ?_
      refine y_iload_n CC 0 dX5_readsTown_112 rfl rfl ?_
      refine z_if_eqT CC 131 dX5_readsTown_113 (by decide) (a := (0 : Int)) (nI_toInt (by decide)) (by decide) ?_
      refine y_iconst CC (nI 0) dX5_readsTown_131 (by decide) ?_
      refine y_istore_n CC [(3, .int (nI 0)), (0, .ref (ad 30)), (1, .int (nI fr)), (2, .int (nI n))] dX5_readsTown_132 rfl (by decide) rfl ?_
      refine y_aload_n CC 1 dX5_readsTown_133 rfl rfl ?_
      refine y_dup CC dX5_readsTown_134 rfl ?_
      refine y_geti CC gl_X5_83 (by omega) rfl (v := nI 1) ((mu_k _ _ (by decide)).trans (mu_at _ _ _ _)) dX5_readsTown_135 ?_
      refine y_iload_n CC 0 dX5_readsTown_138 rfl rfl ?_
      refine z_if_eqT CC 146 dX5_readsTown_139 (by decide) (a := (0 : Int)) (nI_toInt (by decide)) (by decide) ?_
      refine y_iconst CC (nI 0) dX5_readsTown_146 (by decide) ?_
      refine y_iadd CC dX5_readsTown_147 (v := nI 1) (nI_add _ _) ?_
      refine y_puti CC pl_X5_83 (by omega) (fl5_8 _ _ _) (Nat.le_of_ble_eq_true rfl) dX5_readsTown_148 ?_
      refine y_iconst CC (nI 0) dX5_readsTown_151 (by decide) ?_
      refine y_istore CC [(4, .int (nI 0)), (3, .int (nI 0)), (0, .ref (ad 30)), (1, .int (nI fr)), (2, .int (nI n))] dX5_readsTown_152 (by decide) rfl ?_
      refine y_iload_n CC 1 dX5_readsTown_154 rfl rfl ?_
      refine z_if_eqT CC 205 dX5_readsTown_155 (by decide) (a := (0 : Int)) (nI_toInt (by decide)) (by decide) ?_
      refine y_iload_n CC 1 dX5_readsTown_205 rfl rfl ?_
      refine z_if_eqT CC 221 dX5_readsTown_206 (by decide) (a := (0 : Int)) (nI_toInt (by decide)) (by decide) ?_
      refine y_iconst CC (nI 0) dX5_readsTown_221 (by decide) ?_
      exact y_zret CC hQ dX5_readsTown_222 (by decide) (Or.inr ⟨rfl, ⟨1, by omega, mu_at _ _ _ _, stuck hp1_ (by omega) (by simp [sZ, tu_if]) (by rw [ps1, if_neg (by omega)])⟩, ((((((FRT.rf μ).mu _ (by omega)).mu _ (by omega)).mu _ (by omega)).mu _ (by omega)).mu _ (by omega))⟩)
