theorem act_ix {v : Int32} (h : inB v 3 = true) : nI (ix v) = v ∧ ix v ≤ 2 := by
  obtain ⟨j, hj, rfl⟩ := inB_of h (by omega)
  rw [ix_nI (by omega)]
  exact ⟨rfl, by omega⟩
/-- what stands there when the reference has walked -/
def wkQ (τ : Tn) (z : Nat → Int32) (i p n : Nat) (μ : Mem) (o : Option Nat) : Prop := match o with
  | some x => μ 30 16 = nI x
  | none => μ 30 16 = -9 ∧ μ 30 17 = nI (wkP τ z i p n) ∧ μ 30 18 = nI (wkN τ z i p n) ∧ μ 30 19 = nI (wkS z i n)
theorem far_le (ln j : Nat) : farF ln j ≤ 2 := by unfold farF; split; omega; split <;> omega
theorem cb_le (ln len la : Nat) (i n : Int32) : cbF ln len la i n ≤ 4 := by
  have h := far_le ln la
  unfold cbF
  split
  · split
    · omega
    · split <;> omega
  · omega
theorem m10_i {f : Nat} (h : f ≤ 4) : (-10 - nI f).toInt = -10 - (f : Int) := by
  rw [Int32.toInt_sub, nI_toInt (by omega), show ((-10 : Int32)).toInt = -10 from by decide, Int.bmod_eq_of_le] <;> omega
theorem fs_lt {p : Nat → Bool} {m : Nat} : ∀ {k n : Nat}, fs p n k = some m → m < n + k
  | 0, n, h => by cases h
  | k + 1, n, h => by
    rw [fs] at h
    split at h
    · cases h; omega
    · have := fs_lt h; omega

set_option maxRecDepth 100000 in
set_option maxHeartbeats 4000000 in
theorem m_goWalk (l : Launch) (D : va_G) (ad : Nat → Nat) (kI kS kL : ClassId) (μ : Mem) (τ : Tn) (hM : TM μ τ) (hB : tB τ) (hP3 : 3 ≤ tP τ) (hab : μ 30 7 = nI 0) (p fr n : Nat) (hp : p < tP τ) (hfr : fr + n ≤ 240) (hn : n ≤ 40) (z : Nat → Int32) (i : Nat) (hz : ∀ x, x < n → μ 46 (fr + x) = z (i + x)) (hact : actB z i n = true) : MV l D ad kI kS kL yX5_goWalk cX5_goWalk 7 none 2 47 [.ref (ad 30), .int (nI p), .int (nI fr), .int (nI n)] μ (fun μ2 => (∀ c1 k1, (c1 ≠ 30 ∨ k1 < 16 ∨ 19 < k1) → μ2 c1 k1 = μ c1 k1) ∧ wkQ τ z i p n μ2 (fs (wkB τ z i p) 0 n)) := by
  refine met_V RX5 rfl (by decide) (lv := [(0, .ref (ad 30)), (1, .int (nI p)), (2, .int (nI fr)), (3, .int (nI n))]) rfl (Nat.le_of_ble_eq_true rfl) ?_
  intro pp ee ss mm aa bb me cd AA hA0 CC hnm QQ hQ
  have hP9 : tP τ ≤ 9 := hB.1
  have hS4 : tS τ ≤ 4 := hB.2.1
  refine y_aload_n CC 0 dX5_goWalk_0 rfl rfl ?_
  refine y_bipush CC ((-9)) dX5_goWalk_1 (by decide) ?_
  refine y_puti CC pl_X5_156 (by omega) rfl (Nat.le_of_ble_eq_true rfl) dX5_goWalk_3 ?_
  refine y_aload_n CC 0 dX5_goWalk_6 rfl rfl ?_
  refine y_iload_n CC 1 dX5_goWalk_7 rfl rfl ?_
  refine y_puti CC pl_X5_159 (by omega) rfl (Nat.le_of_ble_eq_true rfl) dX5_goWalk_8 ?_
  refine y_aload_n CC 0 dX5_goWalk_11 rfl rfl ?_
  refine y_iconst CC (nI 1) dX5_goWalk_12 (by decide) ?_
  refine y_iload_n CC 1 dX5_goWalk_13 rfl rfl ?_
  refine y_ishl CC dX5_goWalk_14 (v := nI (2 ^ p)) (i_sh1 (by omega)) ?_
  refine y_puti CC pl_X5_162 (by omega) rfl (Nat.le_of_ble_eq_true rfl) dX5_goWalk_15 ?_
  refine y_aload_n CC 0 dX5_goWalk_18 rfl rfl ?_
  refine y_iconst CC (nI 0) dX5_goWalk_19 (by decide) ?_
  refine y_puti CC pl_X5_165 (by omega) rfl (Nat.le_of_ble_eq_true rfl) dX5_goWalk_20 ?_
  refine y_iconst CC (nI 0) dX5_goWalk_23 (by decide) ?_
  refine y_istore CC [(4, .int (nI 0)), (0, .ref (ad 30)), (1, .int (nI p)), (2, .int (nI fr)), (3, .int (nI n))] dX5_goWalk_24 (by decide) rfl ?_
  have L26 : ∀ (n26 : Nat) (x : Nat) (ν : Mem), n - x < n26 → (x ≤ n) → (∀ c1 k1, (c1 ≠ 30 ∨ k1 < 16 ∨ 19 < k1) → ν c1 k1 = μ c1 k1) → ((ν 30 16 = -9 ∧ ν 30 17 = nI (wkP τ z i p x) ∧ ν 30 18 = nI (wkN τ z i p x) ∧ ν 30 19 = nI (wkS z i x) ∧ fs (wkB τ z i p) x (n - x) = fs (wkB τ z i p) 0 n) ∨ (∃ y, y < 40 ∧ ν 30 16 = nI y ∧ fs (wkB τ z i p) 0 n = some y)) → Y pp l ee (rmY 2 47) ss mm aa bb me cd D ad kI kS kL AA 7 0 0 QQ 26 [(4, .int (nI x)), (0, .ref (ad 30)), (1, .int (nI p)), (2, .int (nI fr)), (3, .int (nI n))] [] ν := by
    intro n26
    induction n26 with
    | zero => intro x ν hm26; exact absurd hm26 (Nat.not_lt_zero _)
    | succ n26 ih26 =>
      intro x ν hm26 hx hF hR
      have hMν : TM ν τ := hM.same (hF 30 1 (by decide)) (hF 30 3 (by decide)) (fun c_ k_ h1_ h2_ => hF c_ k_ (by omega))
      have habν : ν 30 7 = nI 0 := (hF 30 7 (by decide)).trans hab
      have hlt_ := wkP_lt (τ := τ) (ζ := z) (i := i) hp x
      have hlt2_ := wkP_lt (τ := τ) (ζ := z) (i := i) hp (x + 1)
      have hsl_ := wkS_le (ζ := z) (i := i) x
      have hN9_ := set9 hP9 (wkN_lt (τ := τ) (ζ := z) (i := i) hp x)
      rcases hR with ⟨h16, h17, h18, h19, hs⟩ | ⟨y_, hy_, h16, hfs_⟩
      · skip
        refine y_iload CC 0 dX5_goWalk_26 rfl ?_
        refine y_iload_n CC 4 dX5_goWalk_28 rfl rfl ?_
        refine z_icmp_ge CC 131 dX5_goWalk_29 (by decide) (a := ((x : Nat) : Int)) (b := ((n : Nat) : Int)) (nI_toInt (by omega)) (nI_toInt (by omega)) (fun c_2 => ?_) (fun c_2 => ?_)
        · skip
          refine y_vret CC hQ dX5_goWalk_131 ?_
          refine ⟨hF, ?_⟩
          obtain rfl : x = n := by omega
          rw [← hs, fs_0 rfl]
          exact ⟨h16, h17, h18, h19⟩
        · skip
          refine y_aload_n CC 1 dX5_goWalk_32 rfl rfl ?_
          refine y_geti CC gl_X5_156 (by omega) rfl (v := (-9)) h16 dX5_goWalk_33 ?_
          refine z_if_geF CC 131 dX5_goWalk_36 (by decide) (a := (-9 : Int)) (by decide) (by decide) ?_
          have hb3_ := act_ix (actB_at (x := x) (by omega) hact)
          have hb3b_ := hb3_.2
          refine y_aload_n CC 1 dX5_goWalk_39 rfl rfl ?_
          refine y_getr CC gl_X5_55 (by omega) (d := 46) rfl dX5_goWalk_40 ?_
          refine y_iload_n CC 3 dX5_goWalk_43 rfl rfl ?_
          refine y_iload CC 0 dX5_goWalk_44 rfl ?_
          refine y_iadd CC dX5_goWalk_46 (v := nI (fr + x)) (nI_add _ _) ?_
          refine y_ialdN CC (n := 240) (by omega) (by decide) (by omega) (by omega) (v := nI (ix (z (i + x)))) ((hF 46 _ (Or.inl (by decide))).trans ((hz x (by omega)).trans hb3_.1.symm)) dX5_goWalk_47 ?_
          refine y_istore CC [(5, .int (nI (ix (z (i + x))))), (4, .int (nI x)), (0, .ref (ad 30)), (1, .int (nI p)), (2, .int (nI fr)), (3, .int (nI n))] dX5_goWalk_48 (by decide) rfl ?_
          refine y_aload_n CC 2 dX5_goWalk_50 rfl rfl ?_
          refine y_aload_n CC 2 dX5_goWalk_51 rfl rfl ?_
          refine y_geti CC gl_X5_159 (by omega) rfl (v := nI (wkP τ z i p x)) h17 dX5_goWalk_52 ?_
          refine y_iload CC 0 dX5_goWalk_55 rfl ?_
          refine y_callVI (ci := 5) (st := []) CC cl_X5_168 (m_behind l D ad kI kS kL ν τ hMν hB (wkP τ z i p x) (ix (z (i + x))) (by omega) (by omega)) (by omega) rfl rfl rfl (Nat.le_of_ble_eq_true rfl) ⟨by decide, by decide⟩ ⟨Nat.zero_le _, Nat.zero_le _⟩ dX5_goWalk_57 (fun r_ μ_ w_4 => ?_)
          obtain ⟨rfl, rfl⟩ := w_4
          have h_af_3 := after_lt (P := tP τ) (p := wkP τ z i p x) (act := ix (z (i + x))) (by omega)
          refine y_top (y := nI (wkP τ z i p (x + 1))) rfl ?_
          refine y_istore CC [(6, .int (nI (wkP τ z i p (x + 1)))), (5, .int (nI (ix (z (i + x))))), (4, .int (nI x)), (0, .ref (ad 30)), (1, .int (nI p)), (2, .int (nI fr)), (3, .int (nI n))] dX5_goWalk_60 (by decide) rfl ?_
          refine y_aload_n CC 3 dX5_goWalk_62 rfl rfl ?_
          refine y_iload CC 2 dX5_goWalk_63 rfl ?_
          refine y_iconst CC (nI 1) dX5_goWalk_65 (by decide) ?_
          refine y_iadd CC dX5_goWalk_66 (v := nI (x + 1)) (nI_add _ _) ?_
          refine y_callVI (ci := 5) (st := []) CC cl_X5_153 (m_freeAt l D ad kI kS kL ν τ hMν hB hP3 15 0 habν (by decide) (by decide) (x + 1) (by omega)) (by omega) rfl rfl rfl (Nat.le_of_ble_eq_true rfl) ⟨by decide, by decide⟩ ⟨Nat.zero_le _, Nat.zero_le _⟩ dX5_goWalk_67 (fun r_ μ_ w_6 => ?_)
          obtain ⟨rfl, rfl⟩ := w_6
          have h_fr_5 := set9 (P := tP τ) (by omega) (frS_lt τ 15 (x + 1))
          refine y_iload CC 0 dX5_goWalk_70 rfl ?_
          refine y_callSI (st := []) CC cl_X5_150 (m_isIn l D ad kI kS kL ν (frS τ 15 (x + 1)) (wkP τ z i p (x + 1)) (by omega) (by omega)) rfl rfl (Nat.le_of_ble_eq_true rfl) ⟨by decide, by decide⟩ ⟨Nat.zero_le _, Nat.zero_le _⟩ dX5_goWalk_72 (fun r_ μ_ w_8 => ?_)
          rcases w_8 with ⟨rfl, ⟨b_7, rfl⟩ | ⟨b_7, rfl⟩⟩
          · skip
            have hwb_ : wkB τ z i p x = false := by unfold wkB; rw [b_7]; rfl
            refine z_if_eqF CC 119 dX5_goWalk_75 (by decide) (a := (1 : Int)) (nI_toInt (by decide)) (by decide) ?_
            refine y_aload_n CC 3 dX5_goWalk_78 rfl rfl ?_
            refine y_iload CC 0 dX5_goWalk_79 rfl ?_
            refine y_puti CC pl_X5_159 (by omega) rfl (Nat.le_of_ble_eq_true rfl) dX5_goWalk_81 ?_
            refine y_aload_n CC 3 dX5_goWalk_84 rfl rfl ?_
            refine y_dup CC dX5_goWalk_85 rfl ?_
            refine y_geti CC gl_X5_162 (by omega) rfl (v := nI (wkN τ z i p x)) ((mu_k _ _ (by decide)).trans h18) dX5_goWalk_86 ?_
            refine y_iconst CC (nI 1) dX5_goWalk_89 (by decide) ?_
            refine y_iload CC 0 dX5_goWalk_90 rfl ?_
            refine y_ishl CC dX5_goWalk_92 (v := nI (2 ^ (wkP τ z i p (x + 1)))) (i_sh1 (by omega)) ?_
            refine y_ior CC dX5_goWalk_93 (v := nI (wkN τ z i p (x + 1))) (i_or _ _) ?_
            refine y_puti CC pl_X5_162 (by omega) rfl (Nat.le_of_ble_eq_true rfl) dX5_goWalk_94 ?_
            refine y_aload_n CC 3 dX5_goWalk_97 rfl rfl ?_
            refine y_dup CC dX5_goWalk_98 rfl ?_
            refine y_geti CC gl_X5_165 (by omega) rfl (v := nI (wkS z i x)) ((mu_k _ _ (by decide)).trans ((mu_k _ _ (by decide)).trans h19)) dX5_goWalk_99 ?_
            refine y_iload CC 1 dX5_goWalk_102 rfl ?_
            refine z_if_ne CC 111 dX5_goWalk_104 (by decide) (a := ((ix (z (i + x)) : Nat) : Int)) (nI_toInt (by omega)) (fun c_9 => ?_) (fun c_9 => ?_)
            · skip
              refine y_iconst CC (nI 0) dX5_goWalk_111 (by decide) ?_
              refine y_iadd CC dX5_goWalk_112 (v := nI (wkS z i (x + 1))) ((nI_add _ _).trans (by rw [wkS, if_neg (by omega), Nat.add_zero])) ?_
              refine y_puti CC pl_X5_165 (by omega) rfl (Nat.le_of_ble_eq_true rfl) dX5_goWalk_113 ?_
              refine y_goto CC 125 dX5_goWalk_116 (by decide) ?_
              refine y_iinc CC 2 (nI (x + 1)) [(4, .int (nI (x + 1))), (6, .int (nI (wkP τ z i p (x + 1)))), (5, .int (nI (ix (z (i + x))))), (0, .ref (ad 30)), (1, .int (nI p)), (2, .int (nI fr)), (3, .int (nI n))] dX5_goWalk_125 rfl (i_inc _) (by decide) rfl ?_
              refine y_goto CC 26 dX5_goWalk_128 (by decide) ?_
              refine y_lv [0, 3, 4, 5, 6] rfl ?_
              exact ih26 (x + 1) (mu (mu (mu ν 30 17 (nI (wkP τ z i p (x + 1)))) 30 18 (nI (wkN τ z i p (x + 1)))) 30 19 (nI (wkS z i (x + 1)))) (by omega) (by omega) (fun c1 k1 h_ => by rw [mu_ne _ _ (by omega), mu_ne _ _ (by omega), mu_ne _ _ (by omega)]; exact hF c1 k1 h_) (Or.inl ⟨by rw [mu_k _ _ (by decide), mu_k _ _ (by decide), mu_k _ _ (by decide)]; exact h16, by rw [mu_k _ _ (by decide), mu_k _ _ (by decide), mu_at], by rw [mu_k _ _ (by decide), mu_at], mu_at _ _ _ _, by rw [← fs_f hwb_ (by omega)]; exact hs⟩)
            · skip
              refine y_iconst CC (nI 1) dX5_goWalk_107 (by decide) ?_
              refine y_goto CC 112 dX5_goWalk_108 (by decide) ?_
              refine y_iadd CC dX5_goWalk_112 (v := nI (wkS z i (x + 1))) ((nI_add _ _).trans (by rw [wkS, if_pos (by omega)])) ?_
              refine y_puti CC pl_X5_165 (by omega) rfl (Nat.le_of_ble_eq_true rfl) dX5_goWalk_113 ?_
              refine y_goto CC 125 dX5_goWalk_116 (by decide) ?_
              refine y_iinc CC 2 (nI (x + 1)) [(4, .int (nI (x + 1))), (6, .int (nI (wkP τ z i p (x + 1)))), (5, .int (nI (ix (z (i + x))))), (0, .ref (ad 30)), (1, .int (nI p)), (2, .int (nI fr)), (3, .int (nI n))] dX5_goWalk_125 rfl (i_inc _) (by decide) rfl ?_
              refine y_goto CC 26 dX5_goWalk_128 (by decide) ?_
              refine y_lv [0, 3, 4, 5, 6] rfl ?_
              exact ih26 (x + 1) (mu (mu (mu ν 30 17 (nI (wkP τ z i p (x + 1)))) 30 18 (nI (wkN τ z i p (x + 1)))) 30 19 (nI (wkS z i (x + 1)))) (by omega) (by omega) (fun c1 k1 h_ => by rw [mu_ne _ _ (by omega), mu_ne _ _ (by omega), mu_ne _ _ (by omega)]; exact hF c1 k1 h_) (Or.inl ⟨by rw [mu_k _ _ (by decide), mu_k _ _ (by decide), mu_k _ _ (by decide)]; exact h16, by rw [mu_k _ _ (by decide), mu_k _ _ (by decide), mu_at], by rw [mu_k _ _ (by decide), mu_at], mu_at _ _ _ _, by rw [← fs_f hwb_ (by omega)]; exact hs⟩)
          · skip
            have hwb_ : wkB τ z i p x = true := by unfold wkB; rw [b_7]; rfl
            have hfs_ : fs (wkB τ z i p) 0 n = some x := by rw [← hs]; exact fs_t hwb_ (by omega)
            refine z_if_eqT CC 119 dX5_goWalk_75 (by decide) (a := (0 : Int)) (nI_toInt (by decide)) (by decide) ?_
            refine y_aload_n CC 3 dX5_goWalk_119 rfl rfl ?_
            refine y_iload CC 2 dX5_goWalk_120 rfl ?_
            refine y_puti CC pl_X5_156 (by omega) rfl (Nat.le_of_ble_eq_true rfl) dX5_goWalk_122 ?_
            refine y_iinc CC 2 (nI (x + 1)) [(4, .int (nI (x + 1))), (6, .int (nI (wkP τ z i p (x + 1)))), (5, .int (nI (ix (z (i + x))))), (0, .ref (ad 30)), (1, .int (nI p)), (2, .int (nI fr)), (3, .int (nI n))] dX5_goWalk_125 rfl (i_inc _) (by decide) rfl ?_
            refine y_goto CC 26 dX5_goWalk_128 (by decide) ?_
            refine y_lv [0, 3, 4, 5, 6] rfl ?_
            exact ih26 (x + 1) (mu ν 30 16 (nI x)) (by omega) (by omega) (fun c1 k1 h_ => by rw [mu_ne _ _ (by omega)]; exact hF c1 k1 h_) (Or.inr ⟨x, by omega, mu_at _ _ _ _, hfs_⟩)
      · skip
        refine y_iload CC 0 dX5_goWalk_26 rfl ?_
        refine y_iload_n CC 4 dX5_goWalk_28 rfl rfl ?_
        refine z_icmp_ge CC 131 dX5_goWalk_29 (by decide) (a := ((x : Nat) : Int)) (b := ((n : Nat) : Int)) (nI_toInt (by omega)) (nI_toInt (by omega)) (fun c_10 => ?_) (fun c_10 => ?_)
        · skip
          exact y_vret CC hQ dX5_goWalk_131 (⟨hF, by rw [hfs_]; exact h16⟩)
        · skip
          refine y_aload_n CC 1 dX5_goWalk_32 rfl rfl ?_
          refine y_geti CC gl_X5_156 (by omega) rfl (v := nI y_) h16 dX5_goWalk_33 ?_
          refine z_if_geT CC 131 dX5_goWalk_36 (by decide) (a := ((y_ : Nat) : Int)) (nI_toInt (by omega)) (by omega) ?_
          exact y_vret CC hQ dX5_goWalk_131 (⟨hF, by rw [hfs_]; exact h16⟩)
  exact L26 _ 0 (mu (mu (mu (mu μ 30 16 (-9)) 30 17 (nI p)) 30 18 (nI (2 ^ p))) 30 19 (nI 0)) (Nat.lt_succ_self _) (Nat.zero_le _) (fun c1 k1 h_ => by rw [mu_ne _ _ (by omega), mu_ne _ _ (by omega), mu_ne _ _ (by omega), mu_ne _ _ (by omega)]) (Or.inl ⟨by rw [mu_k _ _ (by decide), mu_k _ _ (by decide), mu_k _ _ (by decide), mu_at], by rw [mu_k _ _ (by decide), mu_k _ _ (by decide), mu_at]; rfl, by rw [mu_k _ _ (by decide), mu_at]; rfl, mu_at _ _ _ _, by rw [Nat.sub_zero]⟩)

set_option maxRecDepth 100000 in
set_option maxHeartbeats 4000000 in
theorem m_walk (l : Launch) (D : va_G) (ad : Nat → Nat) (kI kS kL : ClassId) (μ : Mem) (τ : Tn) (hM : TM μ τ) (hB : tB τ) (θ : Tn) (ζ : Nat → Nat → Int32) (hSM : SM μ θ ζ) (hθ : thB θ) (hV : tV τ) (hab : μ 30 7 = nI 0) (p k la i n w : Int32) : MI l D ad kI kS kL yX5_walk cX5_walk 9 (some .int) 3 73 [.ref (ad 30), .int p, .int k, .int la, .int i, .int n, .int w] μ (fun r μ2 => (∀ c1 k1, (c1 ≠ 30 ∨ k1 < 16 ∨ 19 < k1) → μ2 c1 k1 = mu μ 30 0 (nI (f_walk τ θ ζ p k la i n w)) c1 k1) ∧ r = q_walk τ θ ζ p k la i n w) := by
  refine met_I RX5 rfl (by decide) (lv := [(0, .ref (ad 30)), (1, .int p), (2, .int k), (3, .int la), (4, .int i), (5, .int n), (6, .int w)]) rfl (Nat.le_of_ble_eq_true rfl) ?_
  intro pp ee ss mm aa bb me cd AA hA0 CC hnm QQ hQ
  have hP9 : tP τ ≤ 9 := hB.1
  have hS4 : tS τ ≤ 4 := hB.2.1
  have hVP := hV.2.1
  refine y_aload_n CC 0 dX5_walk_0 rfl rfl ?_
  refine y_iload_n CC 1 dX5_walk_1 rfl rfl ?_
  refine y_callVI (ci := 5) (st := []) CC cl_X5_134 (m_noPlace l D ad kI kS kL μ τ hM hB p) (by omega) rfl rfl rfl (Nat.le_of_ble_eq_true rfl) ⟨by decide, by decide⟩ ⟨Nat.zero_le _, Nat.zero_le _⟩ dX5_walk_2 (fun r_ μ_ w_2 => ?_)
  rcases w_2 with ⟨rfl, ⟨b_1, rfl⟩ | ⟨b_1, rfl⟩⟩
  · skip
    refine z_if_neT CC 15 dX5_walk_5 (by decide) (a := (1 : Int)) (nI_toInt (by decide)) (by decide) ?_
    refine y_aload_n CC 0 dX5_walk_15 rfl rfl ?_
    refine y_iconst CC ((-1)) dX5_walk_16 (by decide) ?_
    refine y_callVI (ci := 5) (st := []) CC cl_X5_116 (m_refused l D ad kI kS kL μ (-1)) (by omega) rfl rfl rfl (Nat.le_of_ble_eq_true rfl) ⟨by decide, by decide⟩ ⟨Nat.zero_le _, Nat.zero_le _⟩ dX5_walk_17 (fun r_ μ_ w_3 => ?_)
    obtain ⟨rfl, rfl⟩ := w_3
    exact y_iret CC hQ dX5_walk_20 (⟨fun _ _ _ => by simp [f_walk, b_1], by simp [q_walk, b_1]⟩)
  · skip
    obtain ⟨jp, hjp, rfl⟩ := inB_of b_1 (by omega)
    refine z_if_neF CC 15 dX5_walk_5 (by decide) (a := (0 : Int)) (nI_toInt (by decide)) (by decide) ?_
    refine y_iload_n CC 2 dX5_walk_8 rfl rfl ?_
    refine y_callSI (st := []) CC cl_X5_112 (m_noSheet l D ad kI kS kL μ k) rfl rfl (Nat.le_of_ble_eq_true rfl) ⟨by decide, by decide⟩ ⟨Nat.zero_le _, Nat.zero_le _⟩ dX5_walk_9 (fun r_ μ_ w_5 => ?_)
    rcases w_5 with ⟨rfl, ⟨b_4, rfl⟩ | ⟨b_4, rfl⟩⟩
    · skip
      refine z_if_eqF CC 21 dX5_walk_12 (by decide) (a := (1 : Int)) (nI_toInt (by decide)) (by decide) ?_
      refine y_aload_n CC 0 dX5_walk_15 rfl rfl ?_
      refine y_iconst CC ((-1)) dX5_walk_16 (by decide) ?_
      refine y_callVI (ci := 5) (st := []) CC cl_X5_116 (m_refused l D ad kI kS kL μ (-1)) (by omega) rfl rfl rfl (Nat.le_of_ble_eq_true rfl) ⟨by decide, by decide⟩ ⟨Nat.zero_le _, Nat.zero_le _⟩ dX5_walk_17 (fun r_ μ_ w_6 => ?_)
      obtain ⟨rfl, rfl⟩ := w_6
      exact y_iret CC hQ dX5_walk_20 (⟨fun _ _ _ => by simp [f_walk, b_1, ix_nI (show jp < 2 ^ 31 by omega), b_4], by simp [q_walk, b_1, ix_nI (show jp < 2 ^ 31 by omega), b_4]⟩)
    · skip
      obtain ⟨jk, hjk, rfl⟩ := inB_of b_4 (by omega)
      have hz_jk := szZ_or (θ jk 0) (θ jk 1)
      have ht_jk := hθ jk (by omega)
      refine z_if_eqT CC 21 dX5_walk_12 (by decide) (a := (0 : Int)) (nI_toInt (by decide)) (by decide) ?_
      refine y_iload_n CC 3 dX5_walk_21 rfl rfl ?_
      refine y_i2l CC dX5_walk_22 (v := (la).toInt64) rfl ?_
      refine y_lconst CC 0 dX5_walk_23 rfl ?_
      refine y_ldc2 CC kl_X5_119 dX5_walk_24 ?_
      refine y_callSI (st := []) CC cl_X5_74 (m_in l D ad kI kS kL μ ((la).toInt64) 0 (2) ((la).toInt) ((0 : Int)) ((2 : Int))  ((l_i _).trans rfl) (by decide) (by decide)) rfl rfl (Nat.le_of_ble_eq_true rfl) ⟨by decide, by decide⟩ ⟨Nat.zero_le _, Nat.zero_le _⟩ dX5_walk_27 (fun r_ μ_ w_8 => ?_)
      rcases w_8 with ⟨rfl, ⟨i_7, rfl⟩ | ⟨i_7, rfl⟩⟩
      · skip
        have hv_jl : inB la 3 = true := inB_t (by omega)
        obtain ⟨jl, hjl, rfl⟩ := inB_of hv_jl (by omega)
        refine z_if_eqF CC 59 dX5_walk_30 (by decide) (a := (1 : Int)) (nI_toInt (by decide)) (by decide) ?_
        refine y_iload CC 5 dX5_walk_33 rfl ?_
        refine y_i2l CC dX5_walk_35 (v := (n).toInt64) rfl ?_
        refine y_lconst CC 0 dX5_walk_36 rfl ?_
        refine y_ldc2 CC kl_X5_171 dX5_walk_37 ?_
        refine y_callSI (st := []) CC cl_X5_74 (m_in l D ad kI kS kL μ ((n).toInt64) 0 (40) ((n).toInt) ((0 : Int)) ((40 : Int))  ((l_i _).trans rfl) (by decide) (by decide)) rfl rfl (Nat.le_of_ble_eq_true rfl) ⟨by decide, by decide⟩ ⟨Nat.zero_le _, Nat.zero_le _⟩ dX5_walk_40 (fun r_ μ_ w_10 => ?_)
        rcases w_10 with ⟨rfl, ⟨i_9, rfl⟩ | ⟨i_9, rfl⟩⟩
        · skip
          have hv_jn : inB n 41 = true := inB_t (by omega)
          obtain ⟨jn, hjn, rfl⟩ := inB_of hv_jn (by omega)
          refine z_if_eqF CC 59 dX5_walk_43 (by decide) (a := (1 : Int)) (nI_toInt (by decide)) (by decide) ?_
          refine y_iload CC 6 dX5_walk_46 rfl ?_
          refine y_i2l CC dX5_walk_48 (v := (w).toInt64) rfl ?_
          refine y_lconst CC 0 dX5_walk_49 rfl ?_
          refine y_ldc2 CC kl_X5_139 dX5_walk_50 ?_
          refine y_callSI (st := []) CC cl_X5_74 (m_in l D ad kI kS kL μ ((w).toInt64) 0 (3) ((w).toInt) ((0 : Int)) ((3 : Int))  ((l_i _).trans rfl) (by decide) (by decide)) rfl rfl (Nat.le_of_ble_eq_true rfl) ⟨by decide, by decide⟩ ⟨Nat.zero_le _, Nat.zero_le _⟩ dX5_walk_53 (fun r_ μ_ w_12 => ?_)
          rcases w_12 with ⟨rfl, ⟨i_11, rfl⟩ | ⟨i_11, rfl⟩⟩
          · skip
            have hv_jw : inB w 4 = true := inB_t (by omega)
            obtain ⟨jw, hjw, rfl⟩ := inB_of hv_jw (by omega)
            refine z_if_neT CC 66 dX5_walk_56 (by decide) (a := (1 : Int)) (nI_toInt (by decide)) (by decide) ?_
            refine y_aload_n CC 0 dX5_walk_66 rfl rfl ?_
            refine y_iconst CC (nI 0) dX5_walk_67 (by decide) ?_
            refine y_callVI (ci := 5) (st := []) CC cl_X5_153 (m_freeAt l D ad kI kS kL μ τ hM hB (by omega) 15 0 hab (by decide) (by decide) 0 (by omega)) (by omega) rfl rfl rfl (Nat.le_of_ble_eq_true rfl) ⟨by decide, by decide⟩ ⟨Nat.zero_le _, Nat.zero_le _⟩ dX5_walk_68 (fun r_ μ_ w_14 => ?_)
            obtain ⟨rfl, rfl⟩ := w_14
            have h_fr_13 := set9 (P := tP τ) (by omega) (frS_lt τ 15 0)
            refine y_iload_n CC 1 dX5_walk_71 rfl rfl ?_
            refine y_callSI (st := []) CC cl_X5_150 (m_isIn l D ad kI kS kL μ (frS τ 15 0) jp (by omega) (by omega)) rfl rfl (Nat.le_of_ble_eq_true rfl) ⟨by decide, by decide⟩ ⟨Nat.zero_le _, Nat.zero_le _⟩ dX5_walk_72 (fun r_ μ_ w_16 => ?_)
            rcases w_16 with ⟨rfl, ⟨b_15, rfl⟩ | ⟨b_15, rfl⟩⟩
            · skip
              refine z_if_neT CC 85 dX5_walk_75 (by decide) (a := (1 : Int)) (nI_toInt (by decide)) (by decide) ?_
              refine y_aload_n CC 0 dX5_walk_85 rfl rfl ?_
              refine y_iload_n CC 2 dX5_walk_86 rfl rfl ?_
              refine y_iload_n CC 3 dX5_walk_87 rfl rfl ?_
              refine y_iload CC 4 dX5_walk_88 rfl ?_
              refine y_iload CC 5 dX5_walk_90 rfl ?_
              refine y_i2l CC dX5_walk_92 (v := (nI jn).toInt64) rfl ?_
              refine y_callVI (ci := 5) (st := []) CC cl_X5_121 (m_cellsBarred l D ad kI kS kL μ θ ζ hSM hθ jk jl (by omega) (by omega) i (nI jn)) (by omega) rfl rfl rfl (Nat.le_of_ble_eq_true rfl) ⟨by decide, by decide⟩ ⟨Nat.zero_le _, Nat.zero_le _⟩ dX5_walk_93 (fun r_ μ_ w_17 => ?_)
              rcases w_17 with ⟨hcb_, rfl, rfl⟩ | ⟨-, hcb_, rfl, rfl⟩
              · skip
                obtain ⟨hla_, -, hfo_⟩ := cb_ok hcb_
                have hfo2_ := of_decide_eq_true hfo_
                rw [nI_toInt (show jn < 2 ^ 31 by omega)] at hfo2_
                obtain ⟨ji, hji, rfl⟩ := inB_of (x := i) (n := 61) (inB_t (by omega)) (by omega)
                rw [nI_toInt (show ji < 2 ^ 31 by omega)] at hfo2_
                have hfar_ := far_0 hla_
                have hq_ : f_walk τ θ ζ (nI jp) (nI jk) (nI jl) (nI ji) (nI jn) (nI jw) = 0 := by simp [f_walk, b_1, ix_nI (show jp < 2 ^ 31 by omega), b_4, ix_nI (show jk < 2 ^ 31 by omega), hv_jl, ix_nI (show jl < 2 ^ 31 by omega), hv_jn, ix_nI (show jn < 2 ^ 31 by omega), hv_jw, ix_nI (show jw < 2 ^ 31 by omega), b_15, hfo_, hfar_, ix_nI (show ji < 2 ^ 31 by omega)]
                have hqw_ : q_walk τ θ ζ (nI jp) (nI jk) (nI jl) (nI ji) (nI jn) (nI jw) = if actB (ζ jk) ji jn = true then q_wk τ (ζ jk) ji jp jn jw else -2 := by simp [q_walk, hq_, b_1, ix_nI (show jp < 2 ^ 31 by omega), b_4, ix_nI (show jk < 2 ^ 31 by omega), hv_jl, ix_nI (show jl < 2 ^ 31 by omega), hv_jn, ix_nI (show jn < 2 ^ 31 by omega), hv_jw, ix_nI (show jw < 2 ^ 31 by omega), b_15, hfo_, hfar_, ix_nI (show ji < 2 ^ 31 by omega)]
                refine y_istore CC [(7, .int (nI 0)), (0, .ref (ad 30)), (1, .int (nI jp)), (2, .int (nI jk)), (3, .int (nI jl)), (4, .int (nI ji)), (5, .int (nI jn)), (6, .int (nI jw))] dX5_walk_96 (by decide) rfl ?_
                refine y_iload CC 0 dX5_walk_98 rfl ?_
                refine z_if_geT CC 106 dX5_walk_100 (by decide) (a := (0 : Int)) (nI_toInt (by decide)) (by decide) ?_
                refine y_iconst CC (nI 0) dX5_walk_106 (by decide) ?_
                refine y_istore CC [(8, .int (nI 0)), (7, .int (nI 0)), (0, .ref (ad 30)), (1, .int (nI jp)), (2, .int (nI jk)), (3, .int (nI jl)), (4, .int (nI ji)), (5, .int (nI jn)), (6, .int (nI jw))] dX5_walk_107 (by decide) rfl ?_
                have L109 : ∀ (n109 : Nat) (x : Nat), jn - x < n109 → (x ≤ jn) → (∀ y, y < x → inB (ζ jk (ji + y)) 3 = true) → Y pp l ee (rmY 3 73) ss mm aa bb me cd D ad kI kS kL AA 9 0 0 QQ 109 [(8, .int (nI x)), (7, .int (nI 0)), (0, .ref (ad 30)), (1, .int (nI jp)), (2, .int (nI jk)), (3, .int (nI jl)), (4, .int (nI ji)), (5, .int (nI jn)), (6, .int (nI jw))] [] μ := by
                  intro n109
                  induction n109 with
                  | zero => intro x hm109; exact absurd hm109 (Nat.not_lt_zero _)
                  | succ n109 ih109 =>
                    intro x hm109 hx ha
                    refine y_iload CC 0 dX5_walk_109 rfl ?_
                    refine y_iload CC 7 dX5_walk_111 rfl ?_
                    refine z_icmp_ge CC 155 dX5_walk_113 (by decide) (a := ((x : Nat) : Int)) (b := ((jn : Nat) : Int)) (nI_toInt (by omega)) (nI_toInt (by omega)) (fun c_19 => ?_) (fun c_19 => ?_)
                    · skip
                      refine y_aload_n CC 2 dX5_walk_155 rfl rfl ?_
                      refine y_iload_n CC 3 dX5_walk_156 rfl rfl ?_
                      refine y_bipush CC (nI 60) dX5_walk_157 (by decide) ?_
                      refine y_iload_n CC 4 dX5_walk_159 rfl rfl ?_
                      refine y_imul CC dX5_walk_160 (v := nI (60 * jk)) (pk_mul _ _) ?_
                      refine y_iload CC 6 dX5_walk_161 rfl ?_
                      refine y_iadd CC dX5_walk_163 (v := nI ((60 * jk) + ji)) (nI_add _ _) ?_
                      refine y_iload CC 7 dX5_walk_164 rfl ?_
                      have hac_ : actB (ζ jk) ji jn = true := actB_t (fun y hy => ha y (by omega))
                      refine y_callVV (ci := 5) (st := []) CC cl_X5_173 (m_goWalk l D ad kI kS kL μ τ hM hB (by omega) hab jp (60 * jk + ji) jn (by omega) (by omega) (by omega) (ζ jk) ji (fun x_ hx_ => by rw [show 60 * jk + ji + x_ = 60 * jk + (ji + x_) by omega]; exact (hSM jk (by omega)).2.2 _ (by omega)) hac_) (by omega) rfl rfl rfl (Nat.le_of_ble_eq_true rfl) ⟨by decide, by decide⟩ ⟨Nat.zero_le _, Nat.zero_le _⟩ dX5_walk_166 (fun μ_ w_20 => ?_)
                      obtain ⟨hF, hR⟩ := w_20
                      rcases hfs_ : fs (wkB τ (ζ jk) ji jp) 0 jn with _ | x_
                      · rw [hfs_] at hR
                        obtain ⟨h16, h17, h18, h19⟩ := hR
                        refine y_iload CC 8 dX5_walk_169 rfl ?_
                        refine y_iconst CC (nI 1) dX5_walk_171 (by decide) ?_
                        refine z_icmp_ne CC 184 dX5_walk_172 (by decide) (a := ((jw : Nat) : Int)) (b := (1 : Int)) (nI_toInt (by omega)) (nI_toInt (by decide)) (fun c_21 => ?_) (fun c_21 => ?_)
                        · skip
                          have hw1_ : ¬ jw = 1 := by omega
                          refine y_aload_n CC 2 dX5_walk_184 rfl rfl ?_
                          refine y_geti CC gl_X5_156 (by omega) rfl (v := (-9)) h16 dX5_walk_185 ?_
                          refine z_if_ltT CC 203 dX5_walk_188 (by decide) (a := (-9 : Int)) (by decide) (by decide) ?_
                          refine y_aload_n CC 2 dX5_walk_203 rfl rfl ?_
                          refine y_iload CC 8 dX5_walk_204 rfl ?_
                          refine z_if_ne CC 216 dX5_walk_206 (by decide) (a := ((jw : Nat) : Int)) (nI_toInt (by omega)) (fun c_22 => ?_) (fun c_22 => ?_)
                          · skip
                            have hw0_ : ¬ jw = 0 := by omega
                            refine y_iload CC 8 dX5_walk_216 rfl ?_
                            refine y_iconst CC (nI 2) dX5_walk_218 (by decide) ?_
                            refine z_icmp_ne CC 229 dX5_walk_219 (by decide) (a := ((jw : Nat) : Int)) (b := (2 : Int)) (nI_toInt (by omega)) (nI_toInt (by decide)) (fun c_23 => ?_) (fun c_23 => ?_)
                            · skip
                              have hw2_ : ¬ jw = 2 := by omega
                              refine y_aload_n CC 2 dX5_walk_229 rfl rfl ?_
                              refine y_geti CC gl_X5_165 (by omega) rfl (v := nI (wkS (ζ jk) ji jn)) h19 dX5_walk_230 ?_
                              refine y_callVI (ci := 5) (st := []) CC cl_X5_116 (m_refused l D ad kI kS kL μ_ (nI (wkS (ζ jk) ji jn))) (by omega) rfl rfl rfl (Nat.le_of_ble_eq_true rfl) ⟨by decide, by decide⟩ ⟨Nat.zero_le _, Nat.zero_le _⟩ dX5_walk_233 (fun r_ μ_ w_24 => ?_)
                              obtain ⟨rfl, rfl⟩ := w_24
                              exact y_iret CC hQ dX5_walk_236 (⟨fun c1 k1 h_ => by rw [hq_, mu_if, mu_if, hF c1 k1 h_], by rw [hqw_]; simp [q_wk, hac_, hfs_, hw1_, hw0_, hw2_]⟩)
                            · skip
                              have hw2_ : jw = 2 := by omega
                              refine y_aload_n CC 2 dX5_walk_222 rfl rfl ?_
                              refine y_geti CC gl_X5_162 (by omega) rfl (v := nI (wkN τ (ζ jk) ji jp jn)) h18 dX5_walk_223 ?_
                              refine y_goto CC 233 dX5_walk_226 (by decide) ?_
                              refine y_callVI (ci := 5) (st := []) CC cl_X5_116 (m_refused l D ad kI kS kL μ_ (nI (wkN τ (ζ jk) ji jp jn))) (by omega) rfl rfl rfl (Nat.le_of_ble_eq_true rfl) ⟨by decide, by decide⟩ ⟨Nat.zero_le _, Nat.zero_le _⟩ dX5_walk_233 (fun r_ μ_ w_25 => ?_)
                              obtain ⟨rfl, rfl⟩ := w_25
                              exact y_iret CC hQ dX5_walk_236 (⟨fun c1 k1 h_ => by rw [hq_, mu_if, mu_if, hF c1 k1 h_], by rw [hqw_]; simp [q_wk, hac_, hfs_, hw1_, hw0_, hw2_]⟩)
                          · skip
                            have hw0_ : jw = 0 := by omega
                            refine y_aload_n CC 2 dX5_walk_209 rfl rfl ?_
                            refine y_geti CC gl_X5_159 (by omega) rfl (v := nI (wkP τ (ζ jk) ji jp jn)) h17 dX5_walk_210 ?_
                            refine y_goto CC 233 dX5_walk_213 (by decide) ?_
                            refine y_callVI (ci := 5) (st := []) CC cl_X5_116 (m_refused l D ad kI kS kL μ_ (nI (wkP τ (ζ jk) ji jp jn))) (by omega) rfl rfl rfl (Nat.le_of_ble_eq_true rfl) ⟨by decide, by decide⟩ ⟨Nat.zero_le _, Nat.zero_le _⟩ dX5_walk_233 (fun r_ μ_ w_26 => ?_)
                            obtain ⟨rfl, rfl⟩ := w_26
                            exact y_iret CC hQ dX5_walk_236 (⟨fun c1 k1 h_ => by rw [hq_, mu_if, mu_if, hF c1 k1 h_], by rw [hqw_]; simp [q_wk, hac_, hfs_, hw1_, hw0_]⟩)
                        · skip
                          have hw1_ : jw = 1 := by omega
                          refine y_aload_n CC 2 dX5_walk_175 rfl rfl ?_
                          refine y_aload_n CC 2 dX5_walk_176 rfl rfl ?_
                          refine y_geti CC gl_X5_156 (by omega) rfl (v := (-9)) h16 dX5_walk_177 ?_
                          refine y_callVI (ci := 5) (st := []) CC cl_X5_116 (m_refused l D ad kI kS kL μ_ (-9)) (by omega) rfl rfl rfl (Nat.le_of_ble_eq_true rfl) ⟨by decide, by decide⟩ ⟨Nat.zero_le _, Nat.zero_le _⟩ dX5_walk_180 (fun r_ μ_ w_27 => ?_)
                          obtain ⟨rfl, rfl⟩ := w_27
                          exact y_iret CC hQ dX5_walk_183 (⟨fun c1 k1 h_ => by rw [hq_, mu_if, mu_if, hF c1 k1 h_], by rw [hqw_]; simp [q_wk, hac_, hfs_, hw1_]⟩)
                      · rw [hfs_] at hR
                        have h16 : μ_ 30 16 = nI x_ := hR
                        have hx40_ := fs_lt hfs_
                        refine y_iload CC 8 dX5_walk_169 rfl ?_
                        refine y_iconst CC (nI 1) dX5_walk_171 (by decide) ?_
                        refine z_icmp_ne CC 184 dX5_walk_172 (by decide) (a := ((jw : Nat) : Int)) (b := (1 : Int)) (nI_toInt (by omega)) (nI_toInt (by decide)) (fun c_28 => ?_) (fun c_28 => ?_)
                        · skip
                          have hw1_ : ¬ jw = 1 := by omega
                          refine y_aload_n CC 2 dX5_walk_184 rfl rfl ?_
                          refine y_geti CC gl_X5_156 (by omega) rfl (v := nI x_) h16 dX5_walk_185 ?_
                          refine z_if_ltF CC 203 dX5_walk_188 (by decide) (a := ((x_ : Nat) : Int)) (nI_toInt (by omega)) (by omega) ?_
                          refine y_aload_n CC 2 dX5_walk_191 rfl rfl ?_
                          refine y_bipush CC ((-100)) dX5_walk_192 (by decide) ?_
                          refine y_aload_n CC 2 dX5_walk_194 rfl rfl ?_
                          refine y_geti CC gl_X5_156 (by omega) rfl (v := nI x_) h16 dX5_walk_195 ?_
                          refine y_isub CC dX5_walk_198 (v := -100 - nI x_) (by rfl) ?_
                          refine y_callVI (ci := 5) (st := []) CC cl_X5_116 (m_refused l D ad kI kS kL μ_ (-100 - nI x_)) (by omega) rfl rfl rfl (Nat.le_of_ble_eq_true rfl) ⟨by decide, by decide⟩ ⟨Nat.zero_le _, Nat.zero_le _⟩ dX5_walk_199 (fun r_ μ_ w_29 => ?_)
                          obtain ⟨rfl, rfl⟩ := w_29
                          exact y_iret CC hQ dX5_walk_202 (⟨fun c1 k1 h_ => by rw [hq_, mu_if, mu_if, hF c1 k1 h_], by rw [hqw_]; simp [q_wk, hac_, hfs_, hw1_]⟩)
                        · skip
                          have hw1_ : jw = 1 := by omega
                          refine y_aload_n CC 2 dX5_walk_175 rfl rfl ?_
                          refine y_aload_n CC 2 dX5_walk_176 rfl rfl ?_
                          refine y_geti CC gl_X5_156 (by omega) rfl (v := nI x_) h16 dX5_walk_177 ?_
                          refine y_callVI (ci := 5) (st := []) CC cl_X5_116 (m_refused l D ad kI kS kL μ_ (nI x_)) (by omega) rfl rfl rfl (Nat.le_of_ble_eq_true rfl) ⟨by decide, by decide⟩ ⟨Nat.zero_le _, Nat.zero_le _⟩ dX5_walk_180 (fun r_ μ_ w_30 => ?_)
                          obtain ⟨rfl, rfl⟩ := w_30
                          exact y_iret CC hQ dX5_walk_183 (⟨fun c1 k1 h_ => by rw [hq_, mu_if, mu_if, hF c1 k1 h_], by rw [hqw_]; simp [q_wk, hac_, hfs_, hw1_]⟩)
                    · skip
                      refine y_aload_n CC 2 dX5_walk_116 rfl rfl ?_
                      refine y_getr CC gl_X5_55 (by omega) (d := 46) rfl dX5_walk_117 ?_
                      refine y_bipush CC (nI 60) dX5_walk_120 (by decide) ?_
                      refine y_iload_n CC 4 dX5_walk_122 rfl rfl ?_
                      refine y_imul CC dX5_walk_123 (v := nI (60 * jk)) (pk_mul _ _) ?_
                      refine y_iload CC 6 dX5_walk_124 rfl ?_
                      refine y_iadd CC dX5_walk_126 (v := nI ((60 * jk) + ji)) (nI_add _ _) ?_
                      refine y_iload CC 0 dX5_walk_127 rfl ?_
                      refine y_iadd CC dX5_walk_129 (v := nI (((60 * jk) + ji) + x)) (nI_add _ _) ?_
                      refine y_ialdN CC (n := 240) (by omega) (by decide) (by omega) (by omega) (v := ζ jk (ji + x)) (by rw [show 60 * jk + ji + x = 60 * jk + (ji + x) by omega]; exact (hSM jk (by omega)).2.2 _ (by omega)) dX5_walk_130 ?_
                      refine y_i2l CC dX5_walk_131 (v := (ζ jk (ji + x)).toInt64) rfl ?_
                      refine y_lconst CC 0 dX5_walk_132 rfl ?_
                      refine y_ldc2 CC kl_X5_119 dX5_walk_133 ?_
                      refine y_callSI (st := []) CC cl_X5_74 (m_in l D ad kI kS kL μ ((ζ jk (ji + x)).toInt64) 0 (2) ((ζ jk (ji + x)).toInt) ((0 : Int)) ((2 : Int))  ((l_i _).trans rfl) (by decide) (by decide)) rfl rfl (Nat.le_of_ble_eq_true rfl) ⟨by decide, by decide⟩ ⟨Nat.zero_le _, Nat.zero_le _⟩ dX5_walk_136 (fun r_ μ_ w_32 => ?_)
                      rcases w_32 with ⟨rfl, ⟨i_31, rfl⟩ | ⟨i_31, rfl⟩⟩
                      · skip
                        have hax_ : inB (ζ jk (ji + x)) 3 = true := inB_t (by omega)
                        refine z_if_neT CC 149 dX5_walk_139 (by decide) (a := (1 : Int)) (nI_toInt (by decide)) (by decide) ?_
                        refine y_iinc CC 0 (nI (x + 1)) [(8, .int (nI (x + 1))), (7, .int (nI 0)), (0, .ref (ad 30)), (1, .int (nI jp)), (2, .int (nI jk)), (3, .int (nI jl)), (4, .int (nI ji)), (5, .int (nI jn)), (6, .int (nI jw))] dX5_walk_149 rfl (i_inc _) (by decide) rfl ?_
                        refine y_goto CC 109 dX5_walk_152 (by decide) ?_
                        exact ih109 (x + 1) (by omega) (by omega) (fun y hy => by rcases (show y < x ∨ y = x by omega) with h_ | rfl; exact ha y h_; exact hax_)
                      · skip
                        have hac_ : actB (ζ jk) ji jn = false := actB_f (x := x) (by omega) (inB_f (by omega))
                        refine z_if_neF CC 149 dX5_walk_139 (by decide) (a := (0 : Int)) (nI_toInt (by decide)) (by decide) ?_
                        refine y_aload_n CC 2 dX5_walk_142 rfl rfl ?_
                        refine y_bipush CC ((-2)) dX5_walk_143 (by decide) ?_
                        refine y_callVI (ci := 5) (st := []) CC cl_X5_116 (m_refused l D ad kI kS kL μ (-2)) (by omega) rfl rfl rfl (Nat.le_of_ble_eq_true rfl) ⟨by decide, by decide⟩ ⟨Nat.zero_le _, Nat.zero_le _⟩ dX5_walk_145 (fun r_ μ_ w_33 => ?_)
                        obtain ⟨rfl, rfl⟩ := w_33
                        exact y_iret CC hQ dX5_walk_148 (⟨fun _ _ _ => by rw [hq_], by rw [hqw_]; simp [hac_]⟩)
                exact L109 _ 0 (Nat.lt_succ_self _) (Nat.zero_le _) (fun y h => absurd h (Nat.not_lt_zero y))
              · skip
                have hcl_ := cb_le (θ jk 0) (θ jk 1) jl i (nI jn)
                have hq_ : f_walk τ θ ζ (nI jp) (nI jk) (nI jl) i (nI jn) (nI jw) = cbF (θ jk 0) (θ jk 1) jl i (nI jn) := by rw [cb_far (by rw [nI_toInt (by omega)]; omega)]; simp [f_walk, b_1, ix_nI (show jp < 2 ^ 31 by omega), b_4, ix_nI (show jk < 2 ^ 31 by omega), hv_jl, ix_nI (show jl < 2 ^ 31 by omega), hv_jn, ix_nI (show jn < 2 ^ 31 by omega), hv_jw, ix_nI (show jw < 2 ^ 31 by omega), b_15]
                refine y_istore CC [(7, .int (-10 - nI (cbF (θ jk 0) (θ jk 1) jl i (nI jn)))), (0, .ref (ad 30)), (1, .int (nI jp)), (2, .int (nI jk)), (3, .int (nI jl)), (4, .int i), (5, .int (nI jn)), (6, .int (nI jw))] dX5_walk_96 (by decide) rfl ?_
                refine y_iload CC 0 dX5_walk_98 rfl ?_
                refine z_if_geF CC 106 dX5_walk_100 (by decide) (a := -10 - ((cbF (θ jk 0) (θ jk 1) jl i (nI jn) : Nat) : Int)) (m10_i (cb_le _ _ _ _ _)) (by omega) ?_
                refine y_iload CC 0 dX5_walk_103 rfl ?_
                exact y_iret CC hQ dX5_walk_105 (⟨fun _ _ _ => by rw [hq_], by simp [q_walk, b_1, ix_nI (show jp < 2 ^ 31 by omega), b_4, ix_nI (show jk < 2 ^ 31 by omega), hv_jl, ix_nI (show jl < 2 ^ 31 by omega), hv_jn, ix_nI (show jn < 2 ^ 31 by omega), hv_jw, ix_nI (show jw < 2 ^ 31 by omega), b_15, hq_, hcb_]⟩)
            · skip
              refine z_if_neF CC 85 dX5_walk_75 (by decide) (a := (0 : Int)) (nI_toInt (by decide)) (by decide) ?_
              refine y_aload_n CC 0 dX5_walk_78 rfl rfl ?_
              refine y_bipush CC ((-3)) dX5_walk_79 (by decide) ?_
              refine y_callVI (ci := 5) (st := []) CC cl_X5_116 (m_refused l D ad kI kS kL μ (-3)) (by omega) rfl rfl rfl (Nat.le_of_ble_eq_true rfl) ⟨by decide, by decide⟩ ⟨Nat.zero_le _, Nat.zero_le _⟩ dX5_walk_81 (fun r_ μ_ w_34 => ?_)
              obtain ⟨rfl, rfl⟩ := w_34
              exact y_iret CC hQ dX5_walk_84 (⟨fun _ _ _ => by simp [f_walk, b_1, ix_nI (show jp < 2 ^ 31 by omega), b_4, ix_nI (show jk < 2 ^ 31 by omega), hv_jl, ix_nI (show jl < 2 ^ 31 by omega), hv_jn, ix_nI (show jn < 2 ^ 31 by omega), hv_jw, ix_nI (show jw < 2 ^ 31 by omega), b_15], by simp [q_walk, b_1, ix_nI (show jp < 2 ^ 31 by omega), b_4, ix_nI (show jk < 2 ^ 31 by omega), hv_jl, ix_nI (show jl < 2 ^ 31 by omega), hv_jn, ix_nI (show jn < 2 ^ 31 by omega), hv_jw, ix_nI (show jw < 2 ^ 31 by omega), b_15]⟩)
          · skip
            have hv_jw : inB w 4 = false := inB_f (by omega)
            refine z_if_neF CC 66 dX5_walk_56 (by decide) (a := (0 : Int)) (nI_toInt (by decide)) (by decide) ?_
            refine y_aload_n CC 0 dX5_walk_59 rfl rfl ?_
            refine y_bipush CC ((-2)) dX5_walk_60 (by decide) ?_
            refine y_callVI (ci := 5) (st := []) CC cl_X5_116 (m_refused l D ad kI kS kL μ (-2)) (by omega) rfl rfl rfl (Nat.le_of_ble_eq_true rfl) ⟨by decide, by decide⟩ ⟨Nat.zero_le _, Nat.zero_le _⟩ dX5_walk_62 (fun r_ μ_ w_35 => ?_)
            obtain ⟨rfl, rfl⟩ := w_35
            exact y_iret CC hQ dX5_walk_65 (⟨fun _ _ _ => by simp [f_walk, b_1, ix_nI (show jp < 2 ^ 31 by omega), b_4, ix_nI (show jk < 2 ^ 31 by omega), hv_jl, ix_nI (show jl < 2 ^ 31 by omega), hv_jn, ix_nI (show jn < 2 ^ 31 by omega), hv_jw], by simp [q_walk, b_1, ix_nI (show jp < 2 ^ 31 by omega), b_4, ix_nI (show jk < 2 ^ 31 by omega), hv_jl, ix_nI (show jl < 2 ^ 31 by omega), hv_jn, ix_nI (show jn < 2 ^ 31 by omega), hv_jw]⟩)
        · skip
          have hv_jn : inB n 41 = false := inB_f (by omega)
          refine z_if_eqT CC 59 dX5_walk_43 (by decide) (a := (0 : Int)) (nI_toInt (by decide)) (by decide) ?_
          refine y_aload_n CC 0 dX5_walk_59 rfl rfl ?_
          refine y_bipush CC ((-2)) dX5_walk_60 (by decide) ?_
          refine y_callVI (ci := 5) (st := []) CC cl_X5_116 (m_refused l D ad kI kS kL μ (-2)) (by omega) rfl rfl rfl (Nat.le_of_ble_eq_true rfl) ⟨by decide, by decide⟩ ⟨Nat.zero_le _, Nat.zero_le _⟩ dX5_walk_62 (fun r_ μ_ w_36 => ?_)
          obtain ⟨rfl, rfl⟩ := w_36
          exact y_iret CC hQ dX5_walk_65 (⟨fun _ _ _ => by simp [f_walk, b_1, ix_nI (show jp < 2 ^ 31 by omega), b_4, ix_nI (show jk < 2 ^ 31 by omega), hv_jl, ix_nI (show jl < 2 ^ 31 by omega), hv_jn], by simp [q_walk, b_1, ix_nI (show jp < 2 ^ 31 by omega), b_4, ix_nI (show jk < 2 ^ 31 by omega), hv_jl, ix_nI (show jl < 2 ^ 31 by omega), hv_jn]⟩)
      · skip
        have hv_jl : inB la 3 = false := inB_f (by omega)
        refine z_if_eqT CC 59 dX5_walk_30 (by decide) (a := (0 : Int)) (nI_toInt (by decide)) (by decide) ?_
        refine y_aload_n CC 0 dX5_walk_59 rfl rfl ?_
        refine y_bipush CC ((-2)) dX5_walk_60 (by decide) ?_
        refine y_callVI (ci := 5) (st := []) CC cl_X5_116 (m_refused l D ad kI kS kL μ (-2)) (by omega) rfl rfl rfl (Nat.le_of_ble_eq_true rfl) ⟨by decide, by decide⟩ ⟨Nat.zero_le _, Nat.zero_le _⟩ dX5_walk_62 (fun r_ μ_ w_37 => ?_)
        obtain ⟨rfl, rfl⟩ := w_37
        exact y_iret CC hQ dX5_walk_65 (⟨fun _ _ _ => by simp [f_walk, b_1, ix_nI (show jp < 2 ^ 31 by omega), b_4, ix_nI (show jk < 2 ^ 31 by omega), hv_jl], by simp [q_walk, b_1, ix_nI (show jp < 2 ^ 31 by omega), b_4, ix_nI (show jk < 2 ^ 31 by omega), hv_jl]⟩)
