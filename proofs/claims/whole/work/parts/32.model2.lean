theorem i_sh1 {b : Nat} (hb : b < 32) : nI 1 <<< (nI b &&& 31) = nI (2 ^ b) := (i_shl hb (by rw [Nat.one_mul]; exact Nat.pow_lt_pow_right (by decide) hb)).trans (by rw [Nat.one_mul])
theorem i_m1 (x : Int32) : x &&& (-1) = x := by
  apply Int32.toBitVec_inj.mp
  show x.toBitVec &&& BitVec.allOnes 32 = x.toBitVec
  exact BitVec.and_allOnes
theorem l_ne0 {b : Nat} (h0 : 0 < b) (h : b < 2 ^ 63) : ¬ lN b = 0 := fun q => by
  have := (pk_lEQ h (show 0 < 2 ^ 63 by decide)).mp (q.trans (show (0 : Int64) = lN 0 from rfl))
  omega
/-- what is left before p behind n steps -/
def lfS (τ : Tn) (n p : Nat) : Nat := if (vis τ n).testBit p = true then 0 else tG τ p
theorem lfS_s {τ : Tn} {n p : Nat} : lfS τ (n + 1) p = if p = pl τ (n % tS τ) (n / tS τ) then 0 else lfS τ n p := by
  unfold lfS
  rw [vis, Nat.testBit_or, Nat.testBit_two_pow]
  by_cases h : pl τ (n % tS τ) (n / tS τ) = p
  · rw [if_pos h.symm]; simp [h]
  · rw [decide_eq_false h, Bool.or_false, if_neg (fun q : p = pl τ (n % tS τ) (n / tS τ) => h q.symm)]
theorem tk_lf {τ : Tn} {a n : Nat} (h : n % tS τ = a) : tk τ a (n + 1) = tk τ a n + lfS τ n (pl τ (n % tS τ) (n / tS τ)) := by
  rw [tk]
  unfold lfS
  cases hb : (vis τ n).testBit (pl τ (n % tS τ) (n / tS τ)) with
  | true => rw [if_neg (by simp), if_pos rfl, Nat.add_zero]
  | false => rw [if_pos ⟨h, rfl⟩, if_neg (by simp)]
theorem tk_ne {τ : Tn} {a n : Nat} (h : ¬ n % tS τ = a) : tk τ a (n + 1) = tk τ a n := by rw [tk, if_neg (fun q => h q.1)]
theorem div_le_of {n S M : Nat} (h : n < S * (M + 1)) (hS : 0 < S) : n / S ≤ M := by
  have := (Nat.div_lt_iff_lt_mul hS).mpr (show n < (M + 1) * S by rw [Nat.mul_comm]; exact h)
  omega
def sbN (P s : Nat) : Nat → Nat
  | 0 => 0
  | k + 1 => sbN P s k ||| (if s.testBit k = true then (2 ^ k ||| 2 ^ after P k 1) ||| 2 ^ after P k 2 else 0)
theorem sbN_eq : ∀ P, P < 10 → 3 ≤ P → ∀ s, s < 2 ^ P → sbN P s P = nbS P s := by decide +kernel
def gbN (P g : Nat) : Nat → Nat
  | 0 => 0
  | k + 1 => gbN P g k ||| (if ((2 ^ k ||| 2 ^ after P k 1) ||| 2 ^ after P k 2) &&& g = 0 then 0 else 2 ^ k)
theorem gbN_eq : ∀ P, P < 10 → 3 ≤ P → ∀ g, g < 2 ^ P → gbN P g P = nbS P g := by decide +kernel
def rcM (τ : Tn) (w f : Nat) : Nat → Nat
  | 0 => 2 ^ f &&& frS τ w 0
  | m + 1 => nbS (tP τ) (rcM τ w f m) &&& frS τ w (m + 1)
theorem rcM_lt {τ : Tn} {w f : Nat} : ∀ m, rcM τ w f m < 2 ^ tP τ
  | 0 => Nat.lt_of_le_of_lt Nat.and_le_right (frS_lt _ _ _)
  | m + 1 => Nat.lt_of_le_of_lt Nat.and_le_left (nbS_lt _ _)
theorem rcM_eq {τ : Tn} {w f : Nat} (h : (frS τ w 0).testBit f = true) : ∀ m, rcM τ w f m = rcS τ w f m
  | 0 => by rw [rcM, rcS, Nat.and_comm, tb_and, if_pos h]
  | m + 1 => by rw [rcM, rcS, rcM_eq h m]
theorem nbS_0 (P : Nat) : nbS P 0 = 0 := by
  apply Nat.eq_of_testBit_eq
  intro i
  rw [nbS, bs_bit]
  simp
theorem rcM_0 {τ : Tn} {w f : Nat} (h : (frS τ w 0).testBit f = false) : ∀ m, rcM τ w f m = 0
  | 0 => by rw [rcM, Nat.and_comm, tb_and, if_neg (by rw [h]; decide)]
  | m + 1 => by rw [rcM, rcM_0 h m, nbS_0, Nat.zero_and]
theorem sn_ext {R R' : Nat → Nat} {to : Nat} (h : ∀ m, R m = R' m) : ∀ (n k : Nat), sn R to n k = sn R' to n k
  | n, 0 => rfl
  | n, k + 1 => by rw [sn, sn, h n, sn_ext h (n + 1) k]
theorem snT {R : Nat → Nat} {to n K : Nat} (h : (R n).testBit to = true) (hn : n < K) : sn R to n (K - n) = some n := by
  obtain ⟨k, hk⟩ : ∃ k, K - n = k + 1 := ⟨K - n - 1, by omega⟩
  rw [hk, sn, if_pos h]
theorem snF {R : Nat → Nat} {to n K : Nat} (h : (R n).testBit to = false) (hn : n < K) : sn R to n (K - n) = sn R to (n + 1) (K - (n + 1)) := by
  obtain ⟨k, hk⟩ : ∃ k, K - n = k + 1 := ⟨K - n - 1, by omega⟩
  rw [hk, sn, if_neg (by rw [h]; decide), show K - (n + 1) = k by omega]
theorem sn0 {R : Nat → Nat} {to n K : Nat} (h : n = K) : sn R to n (K - n) = none := by rw [h, Nat.sub_self, sn]
theorem bw_n {τ : Tn} {t n : Nat} (h : (frS τ 15 n).testBit t = true) : bwS τ t n n = 2 ^ t := by rw [bwS, Nat.sub_self, bj, Nat.and_comm, tb_and, if_pos h]
theorem bw_s {τ : Tn} {t n m : Nat} (h : m < n) : bwS τ t n m = nbS (tP τ) (bwS τ t n (m + 1)) &&& frS τ 15 m := by
  rw [bwS, show n - m = (n - (m + 1)) + 1 by omega, bj, bwS, show n - (n - (m + 1)) = m + 1 by omega]
theorem rc_in {τ : Tn} {f t n : Nat} (h0 : (frS τ 15 0).testBit f = true) (h : (rcS τ 15 f n).testBit t = true) : (frS τ 15 n).testBit t = true := by
  cases n with
  | zero => rw [rcS, Nat.testBit_two_pow] at h; rw [← of_decide_eq_true h]; exact h0
  | succ n => rw [rcS, Nat.testBit_and, Bool.and_eq_true] at h; exact h.2

set_option maxRecDepth 100000 in
set_option maxHeartbeats 4000000 in
theorem m_taken (l : Launch) (D : va_G) (ad : Nat → Nat) (kI kS kL : ClassId) (μ : Mem) (τ : Tn) (hM : TM μ τ) (hV : tV τ) (a m : Int32) : MI l D ad kI kS kL yX5_taken cX5_taken 7 (some .int) 2 46 [.ref (ad 30), .int a, .int m] μ (fun r μ2 => (∀ c1 k1, c1 ≠ 39 → μ2 c1 k1 = μ c1 k1) ∧ r = q_taken τ a m) := by
  refine met_I RX5 rfl (by decide) (lv := [(0, .ref (ad 30)), (1, .int a), (2, .int m)]) rfl (Nat.le_of_ble_eq_true rfl) ?_
  intro pp ee ss mm aa bb me cd AA hA0 CC hnm QQ hQ
  have hB := hV.1
  have hP9 : tP τ ≤ 9 := hB.1
  have hS4 : tS τ ≤ 4 := hB.2.1
  have hVc := hV.2.1
  refine y_aload_n CC 0 dX5_taken_0 rfl rfl ?_
  refine y_iload_n CC 1 dX5_taken_1 rfl rfl ?_
  refine y_callVI (ci := 5) (st := []) CC cl_X5_131 (m_noSleeper l D ad kI kS kL μ τ hM hB a) (by omega) rfl rfl rfl (Nat.le_of_ble_eq_true rfl) ⟨by decide, by decide⟩ ⟨Nat.zero_le _, Nat.zero_le _⟩ dX5_taken_2 (fun r_ μ_ w_2 => ?_)
  rcases w_2 with ⟨rfl, ⟨b_1, rfl⟩ | ⟨b_1, rfl⟩⟩
  · skip
    refine z_if_eqF CC 10 dX5_taken_5 (by decide) (a := (1 : Int)) (nI_toInt (by decide)) (by decide) ?_
    refine y_iconst CC ((-1)) dX5_taken_8 (by decide) ?_
    exact y_iret CC hQ dX5_taken_9 (⟨fun _ _ _ => rfl, by simp [q_taken, b_1]⟩)
  · skip
    obtain ⟨j, hj, rfl⟩ := inB_of b_1 (by omega)
    refine z_if_eqT CC 10 dX5_taken_5 (by decide) (a := (0 : Int)) (nI_toInt (by decide)) (by decide) ?_
    refine y_iload_n CC 2 dX5_taken_10 rfl rfl ?_
    refine y_callSI (st := []) CC cl_X5_141 (m_noMinute l D ad kI kS kL μ m) rfl rfl (Nat.le_of_ble_eq_true rfl) ⟨by decide, by decide⟩ ⟨Nat.zero_le _, Nat.zero_le _⟩ dX5_taken_11 (fun r_ μ_ w_4 => ?_)
    rcases w_4 with ⟨rfl, ⟨b_3, rfl⟩ | ⟨b_3, rfl⟩⟩
    · skip
      refine z_if_eqF CC 20 dX5_taken_14 (by decide) (a := (1 : Int)) (nI_toInt (by decide)) (by decide) ?_
      refine y_bipush CC ((-2)) dX5_taken_17 (by decide) ?_
      exact y_iret CC hQ dX5_taken_19 (⟨fun _ _ _ => rfl, by simp [q_taken, b_1, ix_nI (show j < 2 ^ 31 by omega), b_3]⟩)
    · skip
      obtain ⟨jm, hjm, rfl⟩ := inB_of b_3 (by omega)
      refine z_if_eqT CC 20 dX5_taken_14 (by decide) (a := (0 : Int)) (nI_toInt (by decide)) (by decide) ?_
      refine y_iconst CC (nI 0) dX5_taken_20 (by decide) ?_
      refine y_istore_n CC [(3, .int (nI 0)), (0, .ref (ad 30)), (1, .int (nI j)), (2, .int (nI jm))] dX5_taken_21 rfl (by decide) rfl ?_
      have L22 : ∀ (n22 : Nat) (p : Nat) (ν : Mem), tP τ - p < n22 → (p ≤ tP τ) → (∀ c1 k1, c1 ≠ 39 → ν c1 k1 = μ c1 k1) → (∀ q, q < p → ν 39 q = nI (tG τ q)) → Y pp l ee (rmY 2 46) ss mm aa bb me cd D ad kI kS kL AA 7 0 0 QQ 22 [(3, .int (nI p)), (0, .ref (ad 30)), (1, .int (nI j)), (2, .int (nI jm))] [] ν := by
        intro n22
        induction n22 with
        | zero => intro p ν hm22; exact absurd hm22 (Nat.not_lt_zero _)
        | succ n22 ih22 =>
          intro p ν hm22 hp hF hL
          have hMν : TM ν τ := hM.same (hF 30 1 (by decide)) (hF 30 3 (by decide)) (fun c_ k_ h1_ h2_ => hF c_ k_ (by omega))
          refine y_iload_n CC 0 dX5_taken_22 rfl rfl ?_
          refine y_aload_n CC 1 dX5_taken_23 rfl rfl ?_
          refine y_geti CC gl_X5_71 (by omega) rfl (v := nI (tP τ)) hMν.1 dX5_taken_24 ?_
          refine z_icmp_ge CC 48 dX5_taken_27 (by decide) (a := ((p : Nat) : Int)) (b := ((tP τ : Nat) : Int)) (nI_toInt (by omega)) (nI_toInt (by omega)) (fun c_6 => ?_) (fun c_6 => ?_)
          · skip
            refine y_iconst CC (nI 0) dX5_taken_48 (by decide) ?_
            refine y_istore_n CC [(3, .int (nI 0)), (0, .ref (ad 30)), (1, .int (nI j)), (2, .int (nI jm))] dX5_taken_49 rfl (by decide) rfl ?_
            have hSm : tS τ * (jm + 1) ≤ 4 * 61 := Nat.mul_le_mul hS4 (by omega)
            refine y_iconst CC (nI 0) dX5_taken_50 (by decide) ?_
            refine y_istore CC [(4, .int (nI 0)), (3, .int (nI 0)), (0, .ref (ad 30)), (1, .int (nI j)), (2, .int (nI jm))] dX5_taken_51 (by decide) rfl ?_
            have L53 : ∀ (n53 : Nat) (x : Nat) (ξ : Mem), tS τ * (jm + 1) - x < n53 → (x ≤ tS τ * (jm + 1)) → (∀ c1 k1, c1 ≠ 39 → ξ c1 k1 = μ c1 k1) → (∀ q, q < tP τ → ξ 39 q = nI (lfS τ x q)) → Y pp l ee (rmY 2 46) ss mm aa bb me cd D ad kI kS kL AA 7 0 0 QQ 53 [(4, .int (nI x)), (3, .int (nI (tk τ j x))), (0, .ref (ad 30)), (1, .int (nI j)), (2, .int (nI jm))] [] ξ := by
              intro n53
              induction n53 with
              | zero => intro x ξ hm53; exact absurd hm53 (Nat.not_lt_zero _)
              | succ n53 ih53 =>
                intro x ξ hm53 hx hF hL
                have hMξ : TM ξ τ := hM.same (hF 30 1 (by decide)) (hF 30 3 (by decide)) (fun c_ k_ h1_ h2_ => hF c_ k_ (by omega))
                refine y_iload CC 0 dX5_taken_53 rfl ?_
                refine y_aload_n CC 2 dX5_taken_55 rfl rfl ?_
                refine y_geti CC gl_X5_78 (by omega) rfl (v := nI (tS τ)) hMξ.2.1 dX5_taken_56 ?_
                refine y_iload_n CC 4 dX5_taken_59 rfl rfl ?_
                refine y_iconst CC (nI 1) dX5_taken_60 (by decide) ?_
                refine y_iadd CC dX5_taken_61 (v := nI (jm + 1)) (nI_add _ _) ?_
                refine y_imul CC dX5_taken_62 (v := nI ((tS τ) * (jm + 1))) (pk_mul _ _) ?_
                refine z_icmp_ge CC 124 dX5_taken_63 (by decide) (a := ((x : Nat) : Int)) (b := (((tS τ) * (jm + 1) : Nat) : Int)) (nI_toInt (by omega)) (nI_toInt (by omega)) (fun c_8 => ?_) (fun c_8 => ?_)
                · skip
                  refine y_iload_n CC 1 dX5_taken_124 rfl rfl ?_
                  exact y_iret CC hQ dX5_taken_125 (⟨hF, by simp [q_taken, b_1, ix_nI (show j < 2 ^ 31 by omega), b_3, ix_nI (show jm < 2 ^ 31 by omega)]; rw [show x = (jm + 1) * tS τ by rw [Nat.mul_comm]; omega]⟩)
                · skip
                  have hmod_ := Nat.mod_lt x (show 0 < tS τ by omega)
                  have hdiv_ := div_le_of (n := x) (S := tS τ) (M := jm) (by omega) (by omega)
                  refine y_iload CC 0 dX5_taken_66 rfl ?_
                  refine y_aload_n CC 2 dX5_taken_68 rfl rfl ?_
                  refine y_geti CC gl_X5_78 (by omega) rfl (v := nI (tS τ)) hMξ.2.1 dX5_taken_69 ?_
                  refine y_irem CC dX5_taken_72 (nI_ne0 (by omega) (by omega)) (v := nI (x % (tS τ))) (i_rem (by omega) (by omega) (by omega)) ?_
                  refine y_istore CC [(5, .int (nI (x % (tS τ)))), (4, .int (nI x)), (3, .int (nI (tk τ j x))), (0, .ref (ad 30)), (1, .int (nI j)), (2, .int (nI jm))] dX5_taken_73 (by decide) rfl ?_
                  refine y_aload_n CC 3 dX5_taken_75 rfl rfl ?_
                  refine y_iload CC 0 dX5_taken_76 rfl ?_
                  refine y_iload CC 1 dX5_taken_78 rfl ?_
                  refine y_aload_n CC 3 dX5_taken_80 rfl rfl ?_
                  refine y_geti CC gl_X5_78 (by omega) rfl (v := nI (tS τ)) hMξ.2.1 dX5_taken_81 ?_
                  refine y_idiv CC dX5_taken_84 (nI_ne0 (by omega) (by omega)) (v := nI (x / (tS τ))) (i_div (by omega) (by omega) (by omega)) ?_
                  refine y_callVI (ci := 5) (st := []) CC cl_X5_144 (m_whereAt l D ad kI kS kL ξ τ hMξ hB (by omega) (x % (tS τ)) (x / (tS τ)) (by omega) (by omega)) (by omega) rfl rfl rfl (Nat.le_of_ble_eq_true rfl) ⟨by decide, by decide⟩ ⟨Nat.zero_le _, Nat.zero_le _⟩ dX5_taken_85 (fun r_ μ_ w_10 => ?_)
                  obtain ⟨rfl, rfl⟩ := w_10
                  have h_pl_9 := pl_lt (τ := τ) (by omega) (x % (tS τ)) (x / (tS τ))
                  refine y_istore CC [(6, .int (nI (pl τ (x % (tS τ)) (x / (tS τ))))), (5, .int (nI (x % (tS τ)))), (4, .int (nI x)), (3, .int (nI (tk τ j x))), (0, .ref (ad 30)), (1, .int (nI j)), (2, .int (nI jm))] dX5_taken_88 (by decide) rfl ?_
                  refine y_iload_n CC 3 dX5_taken_90 rfl rfl ?_
                  refine y_iload CC 1 dX5_taken_91 rfl ?_
                  refine y_iload_n CC 5 dX5_taken_93 rfl rfl ?_
                  refine z_icmp_ne CC 107 dX5_taken_94 (by decide) (a := ((x % (tS τ) : Nat) : Int)) (b := ((j : Nat) : Int)) (nI_toInt (by omega)) (nI_toInt (by omega)) (fun c_11 => ?_) (fun c_11 => ?_)
                  · skip
                    have hwho_ : ¬ x % tS τ = j := by omega
                    refine y_iconst CC (nI 0) dX5_taken_107 (by decide) ?_
                    refine y_iadd CC dX5_taken_108 (v := nI (tk τ j (x + 1))) ((nI_add _ _).trans (by rw [tk_ne hwho_, Nat.add_zero])) ?_
                    refine y_istore_n CC [(3, .int (nI (tk τ j (x + 1)))), (6, .int (nI (pl τ (x % (tS τ)) (x / (tS τ))))), (5, .int (nI (x % (tS τ)))), (4, .int (nI x)), (0, .ref (ad 30)), (1, .int (nI j)), (2, .int (nI jm))] dX5_taken_109 rfl (by decide) rfl ?_
                    refine y_aload_n CC 4 dX5_taken_110 rfl rfl ?_
                    refine y_getr CC gl_X5_34 (by omega) (d := 39) rfl dX5_taken_111 ?_
                    refine y_iload CC 1 dX5_taken_114 rfl ?_
                    refine y_iconst CC (nI 0) dX5_taken_116 (by decide) ?_
                    refine y_iastN CC (n := 9) (by omega) (by decide) (by omega) (by omega) dX5_taken_117 ?_
                    refine y_iinc CC 3 (nI (x + 1)) [(4, .int (nI (x + 1))), (3, .int (nI (tk τ j (x + 1)))), (6, .int (nI (pl τ (x % (tS τ)) (x / (tS τ))))), (5, .int (nI (x % (tS τ)))), (0, .ref (ad 30)), (1, .int (nI j)), (2, .int (nI jm))] dX5_taken_118 rfl (i_inc _) (by decide) rfl ?_
                    refine y_goto CC 53 dX5_taken_121 (by decide) ?_
                    refine y_lv [0, 1, 4, 5, 6] rfl ?_
                    exact ih53 (x + 1) (mu ξ 39 (pl τ (x % (tS τ)) (x / (tS τ))) (nI 0)) (by omega) (by omega) (fun c1 k1 h_ => by rw [mu_ne _ _ (Or.inl h_)]; exact hF c1 k1 h_) (fun q_ hq_ => by rw [lfS_s]; by_cases e_ : q_ = pl τ (x % tS τ) (x / tS τ); rw [if_pos e_, e_, mu_at]; rw [if_neg e_, mu_k _ _ e_]; exact hL q_ hq_)
                  · skip
                    have hwho_ : x % tS τ = j := by omega
                    refine y_aload_n CC 4 dX5_taken_97 rfl rfl ?_
                    refine y_getr CC gl_X5_34 (by omega) (d := 39) rfl dX5_taken_98 ?_
                    refine y_iload CC 0 dX5_taken_101 rfl ?_
                    refine y_ialdN CC (n := 9) (by omega) (by decide) (by omega) (by omega) (v := nI (lfS τ x (pl τ (x % tS τ) (x / tS τ)))) (hL _ (by omega)) dX5_taken_103 ?_
                    refine y_goto CC 108 dX5_taken_104 (by decide) ?_
                    refine y_iadd CC dX5_taken_108 (v := nI (tk τ j (x + 1))) ((nI_add _ _).trans (by rw [tk_lf hwho_])) ?_
                    refine y_istore_n CC [(3, .int (nI (tk τ j (x + 1)))), (6, .int (nI (pl τ (x % (tS τ)) (x / (tS τ))))), (5, .int (nI (x % (tS τ)))), (4, .int (nI x)), (0, .ref (ad 30)), (1, .int (nI j)), (2, .int (nI jm))] dX5_taken_109 rfl (by decide) rfl ?_
                    refine y_aload_n CC 4 dX5_taken_110 rfl rfl ?_
                    refine y_getr CC gl_X5_34 (by omega) (d := 39) rfl dX5_taken_111 ?_
                    refine y_iload CC 1 dX5_taken_114 rfl ?_
                    refine y_iconst CC (nI 0) dX5_taken_116 (by decide) ?_
                    refine y_iastN CC (n := 9) (by omega) (by decide) (by omega) (by omega) dX5_taken_117 ?_
                    refine y_iinc CC 3 (nI (x + 1)) [(4, .int (nI (x + 1))), (3, .int (nI (tk τ j (x + 1)))), (6, .int (nI (pl τ (x % (tS τ)) (x / (tS τ))))), (5, .int (nI (x % (tS τ)))), (0, .ref (ad 30)), (1, .int (nI j)), (2, .int (nI jm))] dX5_taken_118 rfl (i_inc _) (by decide) rfl ?_
                    refine y_goto CC 53 dX5_taken_121 (by decide) ?_
                    refine y_lv [0, 1, 4, 5, 6] rfl ?_
                    exact ih53 (x + 1) (mu ξ 39 (pl τ (x % (tS τ)) (x / (tS τ))) (nI 0)) (by omega) (by omega) (fun c1 k1 h_ => by rw [mu_ne _ _ (Or.inl h_)]; exact hF c1 k1 h_) (fun q_ hq_ => by rw [lfS_s]; by_cases e_ : q_ = pl τ (x % tS τ) (x / tS τ); rw [if_pos e_, e_, mu_at]; rw [if_neg e_, mu_k _ _ e_]; exact hL q_ hq_)
            exact L53 _ 0 ν (Nat.lt_succ_self _) (Nat.zero_le _) hF (fun q hq => by rw [hL q (by omega)]; simp [lfS, vis])
          · skip
            refine y_aload_n CC 1 dX5_taken_30 rfl rfl ?_
            refine y_getr CC gl_X5_34 (by omega) (d := 39) rfl dX5_taken_31 ?_
            refine y_iload_n CC 0 dX5_taken_34 rfl rfl ?_
            refine y_aload_n CC 1 dX5_taken_35 rfl rfl ?_
            refine y_getr CC gl_X5_7 (by omega) (d := 31) rfl dX5_taken_36 ?_
            refine y_iload_n CC 0 dX5_taken_39 rfl rfl ?_
            refine y_ialdN CC (n := 9) (by omega) (by decide) (by omega) (by omega) (v := nI (tG τ p)) (hMν.2.2.2 p (by omega)) dX5_taken_40 ?_
            refine y_iastN CC (n := 9) (by omega) (by decide) (by omega) (by omega) dX5_taken_41 ?_
            refine y_iinc CC 0 (nI (p + 1)) [(3, .int (nI (p + 1))), (0, .ref (ad 30)), (1, .int (nI j)), (2, .int (nI jm))] dX5_taken_42 rfl (i_inc _) (by decide) rfl ?_
            refine y_goto CC 22 dX5_taken_45 (by decide) ?_
            exact ih22 (p + 1) (mu ν 39 p (nI (tG τ p))) (by omega) (by omega) (fun c1 k1 h_ => by rw [mu_ne _ _ (Or.inl h_)]; exact hF c1 k1 h_) (fun q hq => by rcases (show q < p ∨ q = p by omega) with h_ | rfl; rw [mu_k _ _ (by omega)]; exact hL q h_; exact mu_at _ _ _ _)
      exact L22 _ 0 μ (Nat.lt_succ_self _) (Nat.zero_le _) (fun _ _ _ => rfl) (fun q h => absurd h (Nat.not_lt_zero q))

set_option maxRecDepth 100000 in
set_option maxHeartbeats 4000000 in
theorem m_freeAt (l : Launch) (D : va_G) (ad : Nat → Nat) (kI kS kL : ClassId) (μ : Mem) (τ : Tn) (hM : TM μ τ) (hB : tB τ) (hP3 : 3 ≤ tP τ) (w ab : Nat) (hab : μ 30 7 = nI ab) (hab16 : ab < 16) (hw : ∀ a, a < 4 → w.testBit a = !ab.testBit a) (m : Nat) (hm : m ≤ 61) : MI l D ad kI kS kL yX5_freeAt cX5_freeAt 4 (some .int) 1 24 [.ref (ad 30), .int (nI m)] μ (fun r μ2 => μ = μ2 ∧ r = nI (frS τ w m)) := by
  refine met_I RX5 rfl (by decide) (lv := [(0, .ref (ad 30)), (1, .int (nI m))]) rfl (Nat.le_of_ble_eq_true rfl) ?_
  intro pp ee ss mm aa bb me cd AA hA0 CC hnm QQ hQ
  have hP9 : tP τ ≤ 9 := hB.1
  have hS4 : tS τ ≤ 4 := hB.2.1
  refine y_iconst CC (nI 1) dX5_freeAt_0 (by decide) ?_
  refine y_aload_n CC 0 dX5_freeAt_1 rfl rfl ?_
  refine y_geti CC gl_X5_71 (by omega) rfl (v := nI (tP τ)) hM.1 dX5_freeAt_2 ?_
  refine y_ishl CC dX5_freeAt_5 (v := nI (2 ^ (tP τ))) (i_sh1 (by omega)) ?_
  refine y_iconst CC (nI 1) dX5_freeAt_6 (by decide) ?_
  refine y_isub CC dX5_freeAt_7 (v := nI (2 ^ tP τ - 1)) (pk_sub Nat.one_le_two_pow) ?_
  refine y_top (y := nI (bs (tP τ) (frB τ w m 0))) (by rw [← bs_full]; exact congrArg nI (bs_ext (fun p_ _ => rfl))) ?_
  refine y_istore_n CC [(2, .int (nI (bs (tP τ) (frB τ w m 0)))), (0, .ref (ad 30)), (1, .int (nI m))] dX5_freeAt_8 rfl (by decide) rfl ?_
  refine y_iconst CC (nI 0) dX5_freeAt_9 (by decide) ?_
  refine y_istore_n CC [(3, .int (nI 0)), (2, .int (nI (bs (tP τ) (frB τ w m 0)))), (0, .ref (ad 30)), (1, .int (nI m))] dX5_freeAt_10 rfl (by decide) rfl ?_
  have L11 : ∀ (n11 : Nat) (a : Nat), tS τ - a < n11 → (a ≤ tS τ) → Y pp l ee (rmY 1 24) ss mm aa bb me cd D ad kI kS kL AA 4 0 0 QQ 11 [(3, .int (nI a)), (2, .int (nI (bs (tP τ) (frB τ w m a)))), (0, .ref (ad 30)), (1, .int (nI m))] [] μ := by
    intro n11
    induction n11 with
    | zero => intro a hm11; exact absurd hm11 (Nat.not_lt_zero _)
    | succ n11 ih11 =>
      intro a hm11 ha
      refine y_iload_n CC 0 dX5_freeAt_11 rfl rfl ?_
      refine y_aload_n CC 2 dX5_freeAt_12 rfl rfl ?_
      refine y_geti CC gl_X5_78 (by omega) rfl (v := nI (tS τ)) hM.2.1 dX5_freeAt_13 ?_
      refine z_icmp_ge CC 53 dX5_freeAt_16 (by decide) (a := ((a : Nat) : Int)) (b := ((tS τ : Nat) : Int)) (nI_toInt (by omega)) (nI_toInt (by omega)) (fun c_2 => ?_) (fun c_2 => ?_)
      · skip
        refine y_iload_n CC 1 dX5_freeAt_53 rfl rfl ?_
        exact y_iret CC hQ dX5_freeAt_54 (⟨rfl, by rw [show a = tS τ by omega]; rfl⟩)
      · skip
        refine y_iload_n CC 1 dX5_freeAt_19 rfl rfl ?_
        refine y_aload_n CC 2 dX5_freeAt_20 rfl rfl ?_
        refine y_geti CC gl_X5_147 (by omega) rfl (v := nI ab) hab dX5_freeAt_21 ?_
        refine y_iload_n CC 0 dX5_freeAt_24 rfl rfl ?_
        refine y_callSI (st := [.int (nI (bs (tP τ) (frB τ w m a)))]) CC cl_X5_150 (m_isIn l D ad kI kS kL μ ab a (by omega) (by omega)) rfl rfl (Nat.le_of_ble_eq_true rfl) ⟨by decide, by decide⟩ ⟨Nat.zero_le _, Nat.zero_le _⟩ dX5_freeAt_25 (fun r_ μ_ w_4 => ?_)
        rcases w_4 with ⟨rfl, ⟨b_3, rfl⟩ | ⟨b_3, rfl⟩⟩
        · skip
          have hwa_ : w.testBit a = false := by rw [hw a (by omega), b_3]; rfl
          refine z_if_eqF CC 35 dX5_freeAt_28 (by decide) (a := (1 : Int)) (nI_toInt (by decide)) (by decide) ?_
          refine y_iconst CC ((-1)) dX5_freeAt_31 (by decide) ?_
          refine y_goto CC 45 dX5_freeAt_32 (by decide) ?_
          refine y_iand CC dX5_freeAt_45 (v := nI (bs (tP τ) (frB τ w m (a + 1)))) ((i_m1 _).trans (congrArg nI (bs_ext (fun p_ _ => by rw [frB_s, hwa_]; simp)))) ?_
          refine y_istore_n CC [(2, .int (nI (bs (tP τ) (frB τ w m (a + 1))))), (3, .int (nI a)), (0, .ref (ad 30)), (1, .int (nI m))] dX5_freeAt_46 rfl (by decide) rfl ?_
          refine y_iinc CC 1 (nI (a + 1)) [(3, .int (nI (a + 1))), (2, .int (nI (bs (tP τ) (frB τ w m (a + 1))))), (0, .ref (ad 30)), (1, .int (nI m))] dX5_freeAt_47 rfl (i_inc _) (by decide) rfl ?_
          refine y_goto CC 11 dX5_freeAt_50 (by decide) ?_
          exact ih11 (a + 1) (by omega) (by omega)
        · skip
          have hwa_ : w.testBit a = true := by rw [hw a (by omega), b_3]; rfl
          refine z_if_eqT CC 35 dX5_freeAt_28 (by decide) (a := (0 : Int)) (nI_toInt (by decide)) (by decide) ?_
          refine y_iconst CC (nI 1) dX5_freeAt_35 (by decide) ?_
          refine y_aload_n CC 2 dX5_freeAt_36 rfl rfl ?_
          refine y_iload_n CC 0 dX5_freeAt_37 rfl rfl ?_
          refine y_iload_n CC 3 dX5_freeAt_38 rfl rfl ?_
          refine y_callVI (ci := 5) (st := [.int (nI 1), .int (nI (bs (tP τ) (frB τ w m a)))]) CC cl_X5_144 (m_whereAt l D ad kI kS kL μ τ hM hB (by omega) a m (by omega) (by omega)) (by omega) rfl rfl rfl (Nat.le_of_ble_eq_true rfl) ⟨by decide, by decide⟩ ⟨Nat.zero_le _, Nat.zero_le _⟩ dX5_freeAt_39 (fun r_ μ_ w_6 => ?_)
          obtain ⟨rfl, rfl⟩ := w_6
          have h_pl_5 := pl_lt (τ := τ) (by omega) a m
          refine y_ishl CC dX5_freeAt_42 (v := nI (2 ^ (pl τ a m))) (i_sh1 (by omega)) ?_
          refine y_iconst CC ((-1)) dX5_freeAt_43 (by decide) ?_
          refine y_ixor CC dX5_freeAt_44 (v := (nI (2 ^ (pl τ a m))) ^^^ (-1)) rfl ?_
          refine y_iand CC dX5_freeAt_45 (v := nI (bs (tP τ) (frB τ w m (a + 1)))) ((i_clr _).trans (congrArg nI (bs_ext (fun p_ _ => by rw [frB_s, hwa_]; simp)))) ?_
          refine y_istore_n CC [(2, .int (nI (bs (tP τ) (frB τ w m (a + 1))))), (3, .int (nI a)), (0, .ref (ad 30)), (1, .int (nI m))] dX5_freeAt_46 rfl (by decide) rfl ?_
          refine y_iinc CC 1 (nI (a + 1)) [(3, .int (nI (a + 1))), (2, .int (nI (bs (tP τ) (frB τ w m (a + 1))))), (0, .ref (ad 30)), (1, .int (nI m))] dX5_freeAt_47 rfl (i_inc _) (by decide) rfl ?_
          refine y_goto CC 11 dX5_freeAt_50 (by decide) ?_
          exact ih11 (a + 1) (by omega) (by omega)
  exact L11 _ 0 (Nat.lt_succ_self _) (Nat.zero_le _)

set_option maxRecDepth 100000 in
set_option maxHeartbeats 4000000 in
theorem m_setBehind (l : Launch) (D : va_G) (ad : Nat → Nat) (kI kS kL : ClassId) (μ : Mem) (τ : Tn) (hM : TM μ τ) (hB : tB τ) (hP3 : 3 ≤ tP τ) (w ab : Nat) (hab : μ 30 7 = nI ab) (hab16 : ab < 16) (hw : ∀ a, a < 4 → w.testBit a = !ab.testBit a) (s m : Nat) (hs : s < 2 ^ tP τ) (hm : m ≤ 60) : MI l D ad kI kS kL yX5_setBehind cX5_setBehind 5 (some .int) 2 47 [.ref (ad 30), .int (nI s), .int (nI m)] μ (fun r μ2 => μ = μ2 ∧ r = nI (nbS (tP τ) s &&& frS τ w (m + 1))) := by
  refine met_I RX5 rfl (by decide) (lv := [(0, .ref (ad 30)), (1, .int (nI s)), (2, .int (nI m))]) rfl (Nat.le_of_ble_eq_true rfl) ?_
  intro pp ee ss mm aa bb me cd AA hA0 CC hnm QQ hQ
  have hP9 : tP τ ≤ 9 := hB.1
  have hS4 : tS τ ≤ 4 := hB.2.1
  have hs9 := set9 hP9 hs
  refine y_iconst CC (nI 0) dX5_setBehind_0 (by decide) ?_
  refine y_istore_n CC [(3, .int (nI 0)), (0, .ref (ad 30)), (1, .int (nI s)), (2, .int (nI m))] dX5_setBehind_1 rfl (by decide) rfl ?_
  refine y_iconst CC (nI 0) dX5_setBehind_2 (by decide) ?_
  refine y_istore CC [(4, .int (nI 0)), (3, .int (nI 0)), (0, .ref (ad 30)), (1, .int (nI s)), (2, .int (nI m))] dX5_setBehind_3 (by decide) rfl ?_
  have L5 : ∀ (n5 : Nat) (k : Nat), tP τ - k < n5 → (k ≤ tP τ) → Y pp l ee (rmY 2 47) ss mm aa bb me cd D ad kI kS kL AA 5 0 0 QQ 5 [(4, .int (nI k)), (3, .int (nI (sbN (tP τ) s k))), (0, .ref (ad 30)), (1, .int (nI s)), (2, .int (nI m))] [] μ := by
    intro n5
    induction n5 with
    | zero => intro k hm5; exact absurd hm5 (Nat.not_lt_zero _)
    | succ n5 ih5 =>
      intro k hm5 hk
      refine y_iload CC 0 dX5_setBehind_5 rfl ?_
      refine y_aload_n CC 2 dX5_setBehind_7 rfl rfl ?_
      refine y_geti CC gl_X5_71 (by omega) rfl (v := nI (tP τ)) hM.1 dX5_setBehind_8 ?_
      refine z_icmp_ge CC 60 dX5_setBehind_11 (by decide) (a := ((k : Nat) : Int)) (b := ((tP τ : Nat) : Int)) (nI_toInt (by omega)) (nI_toInt (by omega)) (fun c_2 => ?_) (fun c_2 => ?_)
      · skip
        refine y_lvE (lv2 := [(4, .int (nI k)), (3, .int (nI (nbS (tP τ) s))), (0, .ref (ad 30)), (1, .int (nI s)), (2, .int (nI m))]) (by rw [show k = tP τ by omega, sbN_eq (tP τ) (by omega) hP3 s hs]) ?_
        refine y_iload_n CC 1 dX5_setBehind_60 rfl rfl ?_
        refine y_aload_n CC 2 dX5_setBehind_61 rfl rfl ?_
        refine y_iload_n CC 4 dX5_setBehind_62 rfl rfl ?_
        refine y_iconst CC (nI 1) dX5_setBehind_63 (by decide) ?_
        refine y_iadd CC dX5_setBehind_64 (v := nI (m + 1)) (nI_add _ _) ?_
        refine y_callVI (ci := 5) (st := [.int (nI (nbS (tP τ) s))]) CC cl_X5_153 (m_freeAt l D ad kI kS kL μ τ hM hB hP3 w ab hab hab16 hw (m + 1) (by omega)) (by omega) rfl rfl rfl (Nat.le_of_ble_eq_true rfl) ⟨by decide, by decide⟩ ⟨Nat.zero_le _, Nat.zero_le _⟩ dX5_setBehind_65 (fun r_ μ_ w_4 => ?_)
        obtain ⟨rfl, rfl⟩ := w_4
        have h_fr_3 := set9 (P := tP τ) (by omega) (frS_lt τ w (m + 1))
        refine y_iand CC dX5_setBehind_68 (v := nI ((nbS (tP τ) s) &&& (frS τ w (m + 1)))) (i_and _ _) ?_
        exact y_iret CC hQ dX5_setBehind_69 (⟨rfl, rfl⟩)
      · skip
        refine y_iload_n CC 1 dX5_setBehind_14 rfl rfl ?_
        refine y_iload_n CC 3 dX5_setBehind_15 rfl rfl ?_
        refine y_iload CC 0 dX5_setBehind_16 rfl ?_
        refine y_callSI (st := [.int (nI (sbN (tP τ) s k))]) CC cl_X5_150 (m_isIn l D ad kI kS kL μ s k (by omega) (by omega)) rfl rfl (Nat.le_of_ble_eq_true rfl) ⟨by decide, by decide⟩ ⟨Nat.zero_le _, Nat.zero_le _⟩ dX5_setBehind_18 (fun r_ μ_ w_6 => ?_)
        rcases w_6 with ⟨rfl, ⟨b_5, rfl⟩ | ⟨b_5, rfl⟩⟩
        · skip
          refine z_if_eqF CC 51 dX5_setBehind_21 (by decide) (a := (1 : Int)) (nI_toInt (by decide)) (by decide) ?_
          refine y_iconst CC (nI 1) dX5_setBehind_24 (by decide) ?_
          refine y_iload CC 0 dX5_setBehind_25 rfl ?_
          refine y_ishl CC dX5_setBehind_27 (v := nI (2 ^ k)) (i_sh1 (by omega)) ?_
          refine y_iconst CC (nI 1) dX5_setBehind_28 (by decide) ?_
          refine y_aload_n CC 2 dX5_setBehind_29 rfl rfl ?_
          refine y_iload CC 0 dX5_setBehind_30 rfl ?_
          refine y_iconst CC (nI 1) dX5_setBehind_32 (by decide) ?_
          refine y_callVI (ci := 5) (st := [.int (nI 1), .int (nI (2 ^ k)), .int (nI (sbN (tP τ) s k))]) CC cl_X5_168 (m_behind l D ad kI kS kL μ τ hM hB k 1 (by omega) (by omega)) (by omega) rfl rfl rfl (Nat.le_of_ble_eq_true rfl) ⟨by decide, by decide⟩ ⟨Nat.zero_le _, Nat.zero_le _⟩ dX5_setBehind_33 (fun r_ μ_ w_8 => ?_)
          obtain ⟨rfl, rfl⟩ := w_8
          have h_af_7 := after_lt (P := tP τ) (p := k) (act := 1) (by omega)
          refine y_ishl CC dX5_setBehind_36 (v := nI (2 ^ (after (tP τ) k 1))) (i_sh1 (by omega)) ?_
          refine y_ior CC dX5_setBehind_37 (v := nI ((2 ^ k) ||| (2 ^ (after (tP τ) k 1)))) (i_or _ _) ?_
          refine y_iconst CC (nI 1) dX5_setBehind_38 (by decide) ?_
          refine y_aload_n CC 2 dX5_setBehind_39 rfl rfl ?_
          refine y_iload CC 0 dX5_setBehind_40 rfl ?_
          refine y_iconst CC (nI 2) dX5_setBehind_42 (by decide) ?_
          refine y_callVI (ci := 5) (st := [.int (nI 1), .int (nI ((2 ^ k) ||| (2 ^ (after (tP τ) k 1)))), .int (nI (sbN (tP τ) s k))]) CC cl_X5_168 (m_behind l D ad kI kS kL μ τ hM hB k 2 (by omega) (by omega)) (by omega) rfl rfl rfl (Nat.le_of_ble_eq_true rfl) ⟨by decide, by decide⟩ ⟨Nat.zero_le _, Nat.zero_le _⟩ dX5_setBehind_43 (fun r_ μ_ w_10 => ?_)
          obtain ⟨rfl, rfl⟩ := w_10
          have h_af_9 := after_lt (P := tP τ) (p := k) (act := 2) (by omega)
          refine y_ishl CC dX5_setBehind_46 (v := nI (2 ^ (after (tP τ) k 2))) (i_sh1 (by omega)) ?_
          refine y_ior CC dX5_setBehind_47 (v := nI (((2 ^ k) ||| (2 ^ (after (tP τ) k 1))) ||| (2 ^ (after (tP τ) k 2)))) (i_or _ _) ?_
          refine y_goto CC 52 dX5_setBehind_48 (by decide) ?_
          refine y_ior CC dX5_setBehind_52 (v := nI (sbN (tP τ) s (k + 1))) ((i_or _ _).trans (by rw [sbN, if_pos b_5])) ?_
          refine y_istore_n CC [(3, .int (nI (sbN (tP τ) s (k + 1)))), (4, .int (nI k)), (0, .ref (ad 30)), (1, .int (nI s)), (2, .int (nI m))] dX5_setBehind_53 rfl (by decide) rfl ?_
          refine y_iinc CC 1 (nI (k + 1)) [(4, .int (nI (k + 1))), (3, .int (nI (sbN (tP τ) s (k + 1)))), (0, .ref (ad 30)), (1, .int (nI s)), (2, .int (nI m))] dX5_setBehind_54 rfl (i_inc _) (by decide) rfl ?_
          refine y_goto CC 5 dX5_setBehind_57 (by decide) ?_
          exact ih5 (k + 1) (by omega) (by omega)
        · skip
          refine z_if_eqT CC 51 dX5_setBehind_21 (by decide) (a := (0 : Int)) (nI_toInt (by decide)) (by decide) ?_
          refine y_iconst CC (nI 0) dX5_setBehind_51 (by decide) ?_
          refine y_ior CC dX5_setBehind_52 (v := nI (sbN (tP τ) s (k + 1))) ((i_or _ _).trans (by rw [sbN, if_neg (by rw [b_5]; decide)])) ?_
          refine y_istore_n CC [(3, .int (nI (sbN (tP τ) s (k + 1)))), (4, .int (nI k)), (0, .ref (ad 30)), (1, .int (nI s)), (2, .int (nI m))] dX5_setBehind_53 rfl (by decide) rfl ?_
          refine y_iinc CC 1 (nI (k + 1)) [(4, .int (nI (k + 1))), (3, .int (nI (sbN (tP τ) s (k + 1)))), (0, .ref (ad 30)), (1, .int (nI s)), (2, .int (nI m))] dX5_setBehind_54 rfl (i_inc _) (by decide) rfl ?_
          refine y_goto CC 5 dX5_setBehind_57 (by decide) ?_
          exact ih5 (k + 1) (by omega) (by omega)
  exact L5 _ 0 (Nat.lt_succ_self _) (Nat.zero_le _)

set_option maxRecDepth 100000 in
set_option maxHeartbeats 4000000 in
theorem m_soonestOf (l : Launch) (D : va_G) (ad : Nat → Nat) (kI kS kL : ClassId) (μ : Mem) (τ : Tn) (hM : TM μ τ) (hB : tB τ) (hP3 : 3 ≤ tP τ) (w ab : Nat) (hab : μ 30 7 = nI ab) (hab16 : ab < 16) (hw : ∀ a, a < 4 → w.testBit a = !ab.testBit a) (f t M : Nat) (hf : f < tP τ) (ht : t < tP τ) (hM60 : M ≤ 60) : MI l D ad kI kS kL yX5_soonestOf cX5_soonestOf 6 (some .int) 3 71 [.ref (ad 30), .int (nI f), .int (nI t), .int (nI M)] μ (fun r μ2 => μ = μ2 ∧ r = oI (sn (rcM τ w f) t 0 (M + 1))) := by
  refine met_I RX5 rfl (by decide) (lv := [(0, .ref (ad 30)), (1, .int (nI f)), (2, .int (nI t)), (3, .int (nI M))]) rfl (Nat.le_of_ble_eq_true rfl) ?_
  intro pp ee ss mm aa bb me cd AA hA0 CC hnm QQ hQ
  have hP9 : tP τ ≤ 9 := hB.1
  have hS4 : tS τ ≤ 4 := hB.2.1
  refine y_iconst CC (nI 1) dX5_soonestOf_0 (by decide) ?_
  refine y_iload_n CC 1 dX5_soonestOf_1 rfl rfl ?_
  refine y_ishl CC dX5_soonestOf_2 (v := nI (2 ^ f)) (i_sh1 (by omega)) ?_
  refine y_aload_n CC 0 dX5_soonestOf_3 rfl rfl ?_
  refine y_iconst CC (nI 0) dX5_soonestOf_4 (by decide) ?_
  refine y_callVI (ci := 5) (st := [.int (nI (2 ^ f))]) CC cl_X5_153 (m_freeAt l D ad kI kS kL μ τ hM hB hP3 w ab hab hab16 hw 0 (by omega)) (by omega) rfl rfl rfl (Nat.le_of_ble_eq_true rfl) ⟨by decide, by decide⟩ ⟨Nat.zero_le _, Nat.zero_le _⟩ dX5_soonestOf_5 (fun r_ μ_ w_2 => ?_)
  obtain ⟨rfl, rfl⟩ := w_2
  have h_fr_1 := set9 (P := tP τ) (by omega) (frS_lt τ w 0)
  refine y_iand CC dX5_soonestOf_8 (v := nI (rcM τ w f 0)) (i_and _ _) ?_
  refine y_istore CC [(4, .int (nI (rcM τ w f 0))), (0, .ref (ad 30)), (1, .int (nI f)), (2, .int (nI t)), (3, .int (nI M))] dX5_soonestOf_9 (by decide) rfl ?_
  refine y_iconst CC (nI 0) dX5_soonestOf_11 (by decide) ?_
  refine y_istore CC [(5, .int (nI 0)), (4, .int (nI (rcM τ w f 0))), (0, .ref (ad 30)), (1, .int (nI f)), (2, .int (nI t)), (3, .int (nI M))] dX5_soonestOf_12 (by decide) rfl ?_
  have L14 : ∀ (n14 : Nat) (n : Nat), M + 1 - n < n14 → (n ≤ M + 1) → (sn (rcM τ w f) t n (M + 1 - n) = sn (rcM τ w f) t 0 (M + 1)) → Y pp l ee (rmY 3 71) ss mm aa bb me cd D ad kI kS kL AA 6 0 0 QQ 14 [(5, .int (nI n)), (4, .int (nI (rcM τ w f n))), (0, .ref (ad 30)), (1, .int (nI f)), (2, .int (nI t)), (3, .int (nI M))] [] μ := by
    intro n14
    induction n14 with
    | zero => intro n hm14; exact absurd hm14 (Nat.not_lt_zero _)
    | succ n14 ih14 =>
      intro n hm14 hn hs
      have hr := rcM_lt (τ := τ) (w := w) (f := f) n
      have hr9 := set9 hP9 hr
      refine y_iload CC 0 dX5_soonestOf_14 rfl ?_
      refine y_iload_n CC 5 dX5_soonestOf_16 rfl rfl ?_
      refine z_icmp_gt CC 48 dX5_soonestOf_17 (by decide) (a := ((n : Nat) : Int)) (b := ((M : Nat) : Int)) (nI_toInt (by omega)) (nI_toInt (by omega)) (fun c_4 => ?_) (fun c_4 => ?_)
      · skip
        refine y_bipush CC ((-9)) dX5_soonestOf_48 (by decide) ?_
        exact y_iret CC hQ dX5_soonestOf_50 (⟨rfl, by rw [← hs, sn0 (by omega)]; rfl⟩)
      · skip
        refine y_iload CC 1 dX5_soonestOf_20 rfl ?_
        refine y_iload_n CC 4 dX5_soonestOf_22 rfl rfl ?_
        refine y_callSI (st := []) CC cl_X5_150 (m_isIn l D ad kI kS kL μ (rcM τ w f n) t (by omega) (by omega)) rfl rfl (Nat.le_of_ble_eq_true rfl) ⟨by decide, by decide⟩ ⟨Nat.zero_le _, Nat.zero_le _⟩ dX5_soonestOf_23 (fun r_ μ_ w_6 => ?_)
        rcases w_6 with ⟨rfl, ⟨b_5, rfl⟩ | ⟨b_5, rfl⟩⟩
        · skip
          refine z_if_eqF CC 32 dX5_soonestOf_26 (by decide) (a := (1 : Int)) (nI_toInt (by decide)) (by decide) ?_
          refine y_iload CC 0 dX5_soonestOf_29 rfl ?_
          exact y_iret CC hQ dX5_soonestOf_31 (⟨rfl, by rw [← hs, snT b_5 (by omega)]; rfl⟩)
        · skip
          refine z_if_eqT CC 32 dX5_soonestOf_26 (by decide) (a := (0 : Int)) (nI_toInt (by decide)) (by decide) ?_
          refine y_aload_n CC 2 dX5_soonestOf_32 rfl rfl ?_
          refine y_iload CC 1 dX5_soonestOf_33 rfl ?_
          refine y_iload CC 0 dX5_soonestOf_35 rfl ?_
          refine y_callVI (ci := 5) (st := []) CC cl_X5_177 (m_setBehind l D ad kI kS kL μ τ hM hB hP3 w ab hab hab16 hw (rcM τ w f n) n hr (by omega)) (by omega) rfl rfl rfl (Nat.le_of_ble_eq_true rfl) ⟨by decide, by decide⟩ ⟨Nat.zero_le _, Nat.zero_le _⟩ dX5_soonestOf_37 (fun r_ μ_ w_7 => ?_)
          obtain ⟨rfl, rfl⟩ := w_7
          refine y_top (y := nI (rcM τ w f (n + 1))) rfl ?_
          refine y_istore CC [(4, .int (nI (rcM τ w f (n + 1)))), (5, .int (nI n)), (0, .ref (ad 30)), (1, .int (nI f)), (2, .int (nI t)), (3, .int (nI M))] dX5_soonestOf_40 (by decide) rfl ?_
          refine y_iinc CC 1 (nI (n + 1)) [(5, .int (nI (n + 1))), (4, .int (nI (rcM τ w f (n + 1)))), (0, .ref (ad 30)), (1, .int (nI f)), (2, .int (nI t)), (3, .int (nI M))] dX5_soonestOf_42 rfl (i_inc _) (by decide) rfl ?_
          refine y_goto CC 14 dX5_soonestOf_45 (by decide) ?_
          exact ih14 (n + 1) (by omega) (by omega) (by rw [← snF b_5 (by omega)]; exact hs)
  exact L14 _ 0 (Nat.lt_succ_self _) (Nat.zero_le _) (by rw [Nat.sub_zero])

set_option maxRecDepth 100000 in
set_option maxHeartbeats 4000000 in
theorem m_goBack (l : Launch) (D : va_G) (ad : Nat → Nat) (kI kS kL : ClassId) (μ : Mem) (τ : Tn) (hM : TM μ τ) (hB : tB τ) (hP3 : 3 ≤ tP τ) (hab : μ 30 7 = nI 0) (t n : Nat) (ht : t < tP τ) (hn : n ≤ 60) (hfr : (frS τ 15 n).testBit t = true) : MV l D ad kI kS kL yX5_goBack cX5_goBack 7 none 2 47 [.ref (ad 30), .int (nI t), .int (nI n)] μ (fun μ2 => (∀ c1 k1, c1 ≠ 40 → μ2 c1 k1 = μ c1 k1) ∧ ∀ m, m ≤ n → μ2 40 m = nI (bwS τ t n m)) := by
  refine met_V RX5 rfl (by decide) (lv := [(0, .ref (ad 30)), (1, .int (nI t)), (2, .int (nI n))]) rfl (Nat.le_of_ble_eq_true rfl) ?_
  intro pp ee ss mm aa bb me cd AA hA0 CC hnm QQ hQ
  have hP9 : tP τ ≤ 9 := hB.1
  have hS4 : tS τ ≤ 4 := hB.2.1
  refine y_aload_n CC 0 dX5_goBack_0 rfl rfl ?_
  refine y_getr CC gl_X5_37 (by omega) (d := 40) rfl dX5_goBack_1 ?_
  refine y_iload_n CC 2 dX5_goBack_4 rfl rfl ?_
  refine y_iconst CC (nI 1) dX5_goBack_5 (by decide) ?_
  refine y_iload_n CC 1 dX5_goBack_6 rfl rfl ?_
  refine y_ishl CC dX5_goBack_7 (v := nI (2 ^ t)) (i_sh1 (by omega)) ?_
  refine y_iastN CC (n := 61) (by omega) (by decide) (by omega) (by omega) dX5_goBack_8 ?_
  refine y_iload_n CC 2 dX5_goBack_9 rfl rfl ?_
  refine y_iconst CC (nI 1) dX5_goBack_10 (by decide) ?_
  refine y_isub CC dX5_goBack_11 (v := nI n - 1) (by rfl) ?_
  refine y_istore_n CC [(3, .int (nI n - 1)), (0, .ref (ad 30)), (1, .int (nI t)), (2, .int (nI n))] dX5_goBack_12 rfl (by decide) rfl ?_
  have L13 : ∀ (n13 : Nat) (j : Nat) (ν : Mem), n + 1 - j < n13 → (j ≤ n) → (∀ c1 k1, c1 ≠ 40 → ν c1 k1 = μ c1 k1) → (∀ m, n ≤ m + j → m ≤ n → ν 40 m = nI (bwS τ t n m)) → Y pp l ee (rmY 2 47) ss mm aa bb me cd D ad kI kS kL AA 7 0 0 QQ 13 [(3, .int (nI (n - j) - 1)), (0, .ref (ad 30)), (1, .int (nI t)), (2, .int (nI n))] [] ν := by
    intro n13
    induction n13 with
    | zero => intro j ν hm13; exact absurd hm13 (Nat.not_lt_zero _)
    | succ n13 ih13 =>
      intro j ν hm13 hj hF hW
      have hMν : TM ν τ := hM.same (hF 30 1 (by decide)) (hF 30 3 (by decide)) (fun c_ k_ h1_ h2_ => hF c_ k_ (by omega))
      have habν : ν 30 7 = nI 0 := (hF 30 7 (by decide)).trans hab
      refine y_iload_n CC 0 dX5_goBack_13 rfl rfl ?_
      refine z_if_lt CC 111 dX5_goBack_14 (by decide) (a := ((n - j : Nat) : Int) - 1) (i_pred (by omega)) (fun c_2 => ?_) (fun c_2 => ?_)
      · skip
        exact y_vret CC hQ dX5_goBack_111 (⟨hF, fun m h => hW m (by omega) h⟩)
      · skip
        refine y_lvE (lv2 := [(3, .int (nI (n - j - 1))), (0, .ref (ad 30)), (1, .int (nI t)), (2, .int (nI n))]) (by rw [show nI (n - j) - 1 = nI (n - j - 1) from pk_sub (show 1 ≤ n - j by omega)]) ?_
        have hg9 := set9 hP9 (bwS_lt (τ := τ) (t := t) (n := n) (n - j))
        refine y_iconst CC (nI 0) dX5_goBack_17 (by decide) ?_
        refine y_istore CC [(4, .int (nI 0)), (3, .int (nI (n - j - 1))), (0, .ref (ad 30)), (1, .int (nI t)), (2, .int (nI n))] dX5_goBack_18 (by decide) rfl ?_
        refine y_iconst CC (nI 0) dX5_goBack_20 (by decide) ?_
        refine y_istore CC [(5, .int (nI 0)), (4, .int (nI 0)), (3, .int (nI (n - j - 1))), (0, .ref (ad 30)), (1, .int (nI t)), (2, .int (nI n))] dX5_goBack_21 (by decide) rfl ?_
        have L23 : ∀ (n23 : Nat) (p : Nat), tP τ - p < n23 → (p ≤ tP τ) → Y pp l ee (rmY 2 47) ss mm aa bb me cd D ad kI kS kL AA 7 0 0 QQ 23 [(5, .int (nI p)), (4, .int (nI (gbN (tP τ) (bwS τ t n (n - j)) p))), (3, .int (nI (n - j - 1))), (0, .ref (ad 30)), (1, .int (nI t)), (2, .int (nI n))] [] ν := by
          intro n23
          induction n23 with
          | zero => intro p hm23; exact absurd hm23 (Nat.not_lt_zero _)
          | succ n23 ih23 =>
            intro p hm23 hp
            refine y_iload CC 0 dX5_goBack_23 rfl ?_
            refine y_aload_n CC 3 dX5_goBack_25 rfl rfl ?_
            refine y_geti CC gl_X5_71 (by omega) rfl (v := nI (tP τ)) hMν.1 dX5_goBack_26 ?_
            refine z_icmp_ge CC 91 dX5_goBack_29 (by decide) (a := ((p : Nat) : Int)) (b := ((tP τ : Nat) : Int)) (nI_toInt (by omega)) (nI_toInt (by omega)) (fun c_4 => ?_) (fun c_4 => ?_)
            · skip
              refine y_lvE (lv2 := [(5, .int (nI p)), (4, .int (nI (nbS (tP τ) (bwS τ t n (n - j))))), (3, .int (nI (n - j - 1))), (0, .ref (ad 30)), (1, .int (nI t)), (2, .int (nI n))]) (by rw [show p = tP τ by omega, gbN_eq (tP τ) (by omega) hP3 _ (bwS_lt _)]) ?_
              refine y_aload_n CC 3 dX5_goBack_91 rfl rfl ?_
              refine y_getr CC gl_X5_37 (by omega) (d := 40) rfl dX5_goBack_92 ?_
              refine y_iload_n CC 2 dX5_goBack_95 rfl rfl ?_
              refine y_iload CC 1 dX5_goBack_96 rfl ?_
              refine y_aload_n CC 3 dX5_goBack_98 rfl rfl ?_
              refine y_iload_n CC 2 dX5_goBack_99 rfl rfl ?_
              refine y_callVI (ci := 5) (st := [.int (nI (nbS (tP τ) (bwS τ t n (n - j)))), .int (nI (n - j - 1)), .ref (ad 40)]) CC cl_X5_153 (m_freeAt l D ad kI kS kL ν τ hMν hB hP3 15 0 habν (by decide) (by decide) (n - j - 1) (by omega)) (by omega) rfl rfl rfl (Nat.le_of_ble_eq_true rfl) ⟨by decide, by decide⟩ ⟨Nat.zero_le _, Nat.zero_le _⟩ dX5_goBack_100 (fun r_ μ_ w_6 => ?_)
              obtain ⟨rfl, rfl⟩ := w_6
              have h_fr_5 := set9 (P := tP τ) (by omega) (frS_lt τ 15 (n - j - 1))
              refine y_iand CC dX5_goBack_103 (v := nI ((nbS (tP τ) (bwS τ t n (n - j))) &&& (frS τ 15 (n - j - 1)))) (i_and _ _) ?_
              refine y_iastN CC (n := 61) (by omega) (by decide) (by omega) (by omega) dX5_goBack_104 ?_
              refine y_iinc CC 2 (nI (n - (j + 1)) - 1) [(3, .int (nI (n - (j + 1)) - 1)), (5, .int (nI p)), (4, .int (nI (nbS (tP τ) (bwS τ t n (n - j))))), (0, .ref (ad 30)), (1, .int (nI t)), (2, .int (nI n))] dX5_goBack_105 rfl (by rw [show n - (j + 1) = n - j - 1 by omega, Int32.sub_eq_add_neg]; rfl) (by decide) rfl ?_
              refine y_goto CC 13 dX5_goBack_108 (by decide) ?_
              refine y_lv [0, 3, 4, 5] rfl ?_
              exact ih13 (j + 1) (mu ν 40 (n - j - 1) (nI ((nbS (tP τ) (bwS τ t n (n - j))) &&& (frS τ 15 (n - j - 1))))) (by omega) (by omega) (fun c1 k1 h_ => by rw [mu_ne _ _ (Or.inl h_)]; exact hF c1 k1 h_) (fun m h1 h2 => by rcases (show m = n - j - 1 ∨ n ≤ m + j by omega) with rfl | h_; rw [mu_at, bw_s (m := n - j - 1) (by omega), show n - j - 1 + 1 = n - j by omega]; rw [mu_k _ _ (by omega)]; exact hW m h_ h2)
            · skip
              refine y_iconst CC (nI 1) dX5_goBack_32 (by decide) ?_
              refine y_iload CC 0 dX5_goBack_33 rfl ?_
              refine y_ishl CC dX5_goBack_35 (v := nI (2 ^ p)) (i_sh1 (by omega)) ?_
              refine y_iconst CC (nI 1) dX5_goBack_36 (by decide) ?_
              refine y_aload_n CC 3 dX5_goBack_37 rfl rfl ?_
              refine y_iload CC 0 dX5_goBack_38 rfl ?_
              refine y_iconst CC (nI 1) dX5_goBack_40 (by decide) ?_
              refine y_callVI (ci := 5) (st := [.int (nI 1), .int (nI (2 ^ p))]) CC cl_X5_168 (m_behind l D ad kI kS kL ν τ hMν hB p 1 (by omega) (by omega)) (by omega) rfl rfl rfl (Nat.le_of_ble_eq_true rfl) ⟨by decide, by decide⟩ ⟨Nat.zero_le _, Nat.zero_le _⟩ dX5_goBack_41 (fun r_ μ_ w_8 => ?_)
              obtain ⟨rfl, rfl⟩ := w_8
              have h_af_7 := after_lt (P := tP τ) (p := p) (act := 1) (by omega)
              refine y_ishl CC dX5_goBack_44 (v := nI (2 ^ (after (tP τ) p 1))) (i_sh1 (by omega)) ?_
              refine y_ior CC dX5_goBack_45 (v := nI ((2 ^ p) ||| (2 ^ (after (tP τ) p 1)))) (i_or _ _) ?_
              refine y_iconst CC (nI 1) dX5_goBack_46 (by decide) ?_
              refine y_aload_n CC 3 dX5_goBack_47 rfl rfl ?_
              refine y_iload CC 0 dX5_goBack_48 rfl ?_
              refine y_iconst CC (nI 2) dX5_goBack_50 (by decide) ?_
              refine y_callVI (ci := 5) (st := [.int (nI 1), .int (nI ((2 ^ p) ||| (2 ^ (after (tP τ) p 1))))]) CC cl_X5_168 (m_behind l D ad kI kS kL ν τ hMν hB p 2 (by omega) (by omega)) (by omega) rfl rfl rfl (Nat.le_of_ble_eq_true rfl) ⟨by decide, by decide⟩ ⟨Nat.zero_le _, Nat.zero_le _⟩ dX5_goBack_51 (fun r_ μ_ w_10 => ?_)
              obtain ⟨rfl, rfl⟩ := w_10
              have h_af_9 := after_lt (P := tP τ) (p := p) (act := 2) (by omega)
              refine y_ishl CC dX5_goBack_54 (v := nI (2 ^ (after (tP τ) p 2))) (i_sh1 (by omega)) ?_
              refine y_ior CC dX5_goBack_55 (v := nI (((2 ^ p) ||| (2 ^ (after (tP τ) p 1))) ||| (2 ^ (after (tP τ) p 2)))) (i_or _ _) ?_
              refine y_istore CC [(6, .int (nI (((2 ^ p) ||| (2 ^ (after (tP τ) p 1))) ||| (2 ^ (after (tP τ) p 2))))), (5, .int (nI p)), (4, .int (nI (gbN (tP τ) (bwS τ t n (n - j)) p))), (3, .int (nI (n - j - 1))), (0, .ref (ad 30)), (1, .int (nI t)), (2, .int (nI n))] dX5_goBack_56 (by decide) rfl ?_
              refine y_iload CC 2 dX5_goBack_58 rfl ?_
              refine y_iload CC 0 dX5_goBack_60 rfl ?_
              refine y_aload_n CC 4 dX5_goBack_62 rfl rfl ?_
              refine y_getr CC gl_X5_37 (by omega) (d := 40) rfl dX5_goBack_63 ?_
              refine y_iload_n CC 3 dX5_goBack_66 rfl rfl ?_
              refine y_iconst CC (nI 1) dX5_goBack_67 (by decide) ?_
              refine y_iadd CC dX5_goBack_68 (v := nI ((n - j - 1) + 1)) (nI_add _ _) ?_
              refine y_ialdN CC (n := 61) (by omega) (by decide) (by omega) (by omega) (v := nI (bwS τ t n (n - j))) (by rw [show n - j - 1 + 1 = n - j by omega]; exact hW (n - j) (by omega) (by omega)) dX5_goBack_69 ?_
              refine y_iand CC dX5_goBack_70 (v := nI ((((2 ^ p) ||| (2 ^ (after (tP τ) p 1))) ||| (2 ^ (after (tP τ) p 2))) &&& (bwS τ t n (n - j)))) (i_and _ _) ?_
              have hand_ : ((2 ^ p ||| 2 ^ after (tP τ) p 1) ||| 2 ^ after (tP τ) p 2) &&& bwS τ t n (n - j) ≤ 511 := Nat.le_trans Nat.and_le_right (by omega)
              refine z_if_eq CC 81 dX5_goBack_71 (by decide) (a := (((((2 ^ p) ||| (2 ^ (after (tP τ) p 1))) ||| (2 ^ (after (tP τ) p 2))) &&& (bwS τ t n (n - j)) : Nat) : Int)) (nI_toInt (by omega)) (fun c_11 => ?_) (fun c_11 => ?_)
              · skip
                have hz_ : ((2 ^ p ||| 2 ^ after (tP τ) p 1) ||| 2 ^ after (tP τ) p 2) &&& bwS τ t n (n - j) = 0 := by omega
                refine y_iconst CC (nI 0) dX5_goBack_81 (by decide) ?_
                refine y_ior CC dX5_goBack_82 (v := nI (gbN (tP τ) (bwS τ t n (n - j)) (p + 1))) ((i_or _ _).trans (by rw [gbN, if_pos hz_])) ?_
                refine y_istore CC [(4, .int (nI (gbN (tP τ) (bwS τ t n (n - j)) (p + 1)))), (6, .int (nI (((2 ^ p) ||| (2 ^ (after (tP τ) p 1))) ||| (2 ^ (after (tP τ) p 2))))), (5, .int (nI p)), (3, .int (nI (n - j - 1))), (0, .ref (ad 30)), (1, .int (nI t)), (2, .int (nI n))] dX5_goBack_83 (by decide) rfl ?_
                refine y_iinc CC 2 (nI (p + 1)) [(5, .int (nI (p + 1))), (4, .int (nI (gbN (tP τ) (bwS τ t n (n - j)) (p + 1)))), (6, .int (nI (((2 ^ p) ||| (2 ^ (after (tP τ) p 1))) ||| (2 ^ (after (tP τ) p 2))))), (3, .int (nI (n - j - 1))), (0, .ref (ad 30)), (1, .int (nI t)), (2, .int (nI n))] dX5_goBack_85 rfl (i_inc _) (by decide) rfl ?_
                refine y_goto CC 23 dX5_goBack_88 (by decide) ?_
                refine y_lv [0, 1, 3, 4, 5, 6] rfl ?_
                exact ih23 (p + 1) (by omega) (by omega)
              · skip
                have hz_ : ¬ ((2 ^ p ||| 2 ^ after (tP τ) p 1) ||| 2 ^ after (tP τ) p 2) &&& bwS τ t n (n - j) = 0 := by omega
                refine y_iconst CC (nI 1) dX5_goBack_74 (by decide) ?_
                refine y_iload CC 1 dX5_goBack_75 rfl ?_
                refine y_ishl CC dX5_goBack_77 (v := nI (2 ^ p)) (i_sh1 (by omega)) ?_
                refine y_goto CC 82 dX5_goBack_78 (by decide) ?_
                refine y_ior CC dX5_goBack_82 (v := nI (gbN (tP τ) (bwS τ t n (n - j)) (p + 1))) ((i_or _ _).trans (by rw [gbN, if_neg hz_])) ?_
                refine y_istore CC [(4, .int (nI (gbN (tP τ) (bwS τ t n (n - j)) (p + 1)))), (6, .int (nI (((2 ^ p) ||| (2 ^ (after (tP τ) p 1))) ||| (2 ^ (after (tP τ) p 2))))), (5, .int (nI p)), (3, .int (nI (n - j - 1))), (0, .ref (ad 30)), (1, .int (nI t)), (2, .int (nI n))] dX5_goBack_83 (by decide) rfl ?_
                refine y_iinc CC 2 (nI (p + 1)) [(5, .int (nI (p + 1))), (4, .int (nI (gbN (tP τ) (bwS τ t n (n - j)) (p + 1)))), (6, .int (nI (((2 ^ p) ||| (2 ^ (after (tP τ) p 1))) ||| (2 ^ (after (tP τ) p 2))))), (3, .int (nI (n - j - 1))), (0, .ref (ad 30)), (1, .int (nI t)), (2, .int (nI n))] dX5_goBack_85 rfl (i_inc _) (by decide) rfl ?_
                refine y_goto CC 23 dX5_goBack_88 (by decide) ?_
                refine y_lv [0, 1, 3, 4, 5, 6] rfl ?_
                exact ih23 (p + 1) (by omega) (by omega)
        exact L23 _ 0 (Nat.lt_succ_self _) (Nat.zero_le _)
  exact L13 _ 0 (mu μ 40 n (nI (2 ^ t))) (Nat.lt_succ_self _) (Nat.zero_le _) (fun c1 k1 h_ => mu_ne _ _ (Or.inl h_)) (fun m h1 h2 => by rw [show m = n by omega, mu_at, bw_n hfr])
