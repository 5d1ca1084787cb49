/-- two towns half read of which the numbers that a reader looks at are the same -/
def r0 (a b : Tn) : Prop := ∀ i, a 0 i = b 0 i
theorem r0_tu {a b : Tn} (h : r0 a b) (r i v : Nat) : r0 (tu a r i v) (tu b r i v) := fun j => by
  simp only [tu]; rw [h j]
theorem r0_td {a b : Tn} (h : r0 a b) {r r' i i' v v' : Nat} (hr : 0 < r) (hr' : 0 < r') : r0 (tu a r i v) (tu b r' i' v') := fun j => by
  rw [tu_r _ _ _ (by omega), tu_r _ _ _ (by omega)]; exact h j
theorem pst_r0 {a b : Tn} (h : r0 a b) (x : Int32) : (pst a x = none ∧ pst b x = none) ∨ ∃ a' b', pst a x = some a' ∧ pst b x = some b' ∧ r0 a' b' := by
  have e0 := h 0
  have e1 := h 1
  have e2 := h 2
  have e3 := h 3
  unfold pst
  rw [e3]
  split
  · unfold pZ
    split
    · exact Or.inr ⟨_, _, rfl, rfl, r0_tu h _ _ _⟩
    · exact Or.inl ⟨rfl, rfl⟩
  · split
    · unfold pP
      split
      · exact Or.inr ⟨_, _, rfl, rfl, r0_tu (r0_tu h _ _ _) _ _ _⟩
      · exact Or.inl ⟨rfl, rfl⟩
    · split
      · unfold pK1
        rw [e1]
        split
        · exact Or.inr ⟨_, _, rfl, rfl, r0_tu (r0_tu h _ _ _) _ _ _⟩
        · split
          · exact Or.inr ⟨_, _, rfl, rfl, r0_tu h _ _ _⟩
          · exact Or.inl ⟨rfl, rfl⟩
      · split
        · unfold pK
          rw [e1]
          split
          · exact Or.inr ⟨_, _, rfl, rfl, r0_tu (r0_td h (by omega) (by omega)) _ _ _⟩
          · exact Or.inl ⟨rfl, rfl⟩
        · split
          · unfold pS
            rw [e0, e1]
            split
            · exact Or.inr ⟨_, _, rfl, rfl, r0_tu (r0_td h (by omega) (by omega)) _ _ _⟩
            · exact Or.inl ⟨rfl, rfl⟩
          · split
            · unfold pD
              rw [e1]
              split
              · exact Or.inr ⟨_, _, rfl, rfl, r0_tu (r0_td h (by omega) (by omega)) _ _ _⟩
              · exact Or.inl ⟨rfl, rfl⟩
            · split
              · unfold pG
                rw [e0, e2]
                split
                · exact Or.inr ⟨_, _, rfl, rfl, r0_tu (r0_tu (r0_td h (by omega) (by omega)) _ _ _) _ _ _⟩
                · exact Or.inl ⟨rfl, rfl⟩
              · exact Or.inl ⟨rfl, rfl⟩
theorem pr_r0 (a b : Tn) (f : Nat → Int32) : ∀ k, (pr a f k = none ∧ pr b f k = none) ∨ ∃ a' b', pr a f k = some a' ∧ pr b f k = some b' ∧ r0 a' b'
  | 0 => Or.inr ⟨tz a, tz b, rfl, rfl, fun _ => rfl⟩
  | k + 1 => by
    rcases pr_r0 a b f k with ⟨h1, h2⟩ | ⟨a', b', h1, h2, h3⟩
    · left; constructor
      · rw [pr, h1]
      · rw [pr, h2]
    · rw [pr_s h1, pr_s h2]
      exact pst_r0 h3 (f k)
theorem fs_ext {p q : Nat → Bool} (h : ∀ k, p k = q k) : ∀ (n k : Nat), fs p n k = fs q n k
  | n, 0 => rfl
  | n, k + 1 => by rw [fs, fs, h n, fs_ext h (n + 1) k]
theorem pz_r0 (a b : Tn) (f : Nat → Int32) (n : Nat) : pz a f n = pz b f n := by
  unfold pz
  rw [fs_ext (q := fun k => (pr b f (k + 1)).isNone) (fun k => by
    show (pr a f (k + 1)).isNone = (pr b f (k + 1)).isNone
    rcases pr_r0 a b f (k + 1) with ⟨h1, h2⟩ | ⟨a', b', h1, h2, -⟩ <;> rw [h1, h2]
    rfl)]
  cases fs (fun k => (pr b f (k + 1)).isNone) 0 n with
  | some k => rfl
  | none =>
    rcases pr_r0 a b f n with ⟨h1, h2⟩ | ⟨a', b', h1, h2, h3⟩
    · rw [h1, h2]
    · rw [h1, h2]
      show (if a' 0 3 = 7 then none else some n) = (if b' 0 3 = 7 then none else some n)
      rw [h3 3]
abbrev t00 : Tn := fun _ _ => 0
def f_town (θ : Tn) (k la i n : Int32) : Nat := if inB k 4 = true ∧ inB la 3 = true then (if farF (θ (ix k) 0) (ix la) = 0 then (if n.toInt < 0 then 4 else if focB (θ (ix k) 1) i n = true then 0 else 3) else farF (θ (ix k) 0) (ix la)) else 0
def fT (ζ : Nat → Nat → Int32) (k i : Int32) : Nat → Int32 := fun x => ζ (ix k) (ix i + x)
def pzT (ζ : Nat → Nat → Int32) (k i n : Int32) : Option Nat := pz t00 (fT ζ k i) (ix n)
def nsT (ζ : Nat → Nat → Int32) (k i n : Int32) : Nat := match pr t00 (fT ζ k i) (ix n) with
  | none => 0
  | some t => t 0 1
def q_town (θ : Tn) (ζ : Nat → Nat → Int32) (k la i n : Int32) : Int32 := if inB k 4 = true then (if inB la 3 = true then (if f_town θ k la i n = 0 then (match pzT ζ k i n with
  | some x => -100 - nI x
  | none => nI (nsT ζ k i n)) else -10 - nI (f_town θ k la i n)) else -2) else -1
def okT (θ : Tn) (ζ : Nat → Nat → Int32) (k la i n : Int32) : Bool := inB k 4 && (inB la 3 && (decide (f_town θ k la i n = 0) && (pzT ζ k i n).isNone))
theorem nsT_of {ζ : Nat → Nat → Int32} {k i n : Int32} {τ t : Tn} (h : pr τ (fT ζ k i) (ix n) = some t) : nsT ζ k i n = tS t := by
  unfold nsT
  rcases pr_r0 τ t00 (fT ζ k i) (ix n) with ⟨h1, h2⟩ | ⟨a', b', h1, h2, h3⟩
  · rw [h] at h1; cases h1
  · rw [h] at h1
    cases h1
    rw [h2]
    exact (h3 1).symm
theorem RX.same {μ μ' : Mem} {ρ : Tn} (h : RX μ ρ) (h1 : μ' 3 3 = μ 3 3) (h2 : ∀ c k, 11 ≤ c → c ≤ 13 → μ' c k = μ c k) : RX μ' ρ :=
  ⟨by rw [h1]; exact h.1, fun i hi => by rw [h2 11 i (by decide) (by decide), h2 12 i (by decide) (by decide), h2 13 i (by decide) (by decide)]; exact h.2 i hi⟩
theorem SQ.same {μ μ' : Mem} {q ln len : Nat} {z : Nat → Int32} (h : SQ μ q ln len z) (h1 : ∀ k, μ' q k = μ q k) (h2 : ∀ k, μ' (q + 4) k = μ (q + 4) k) : SQ μ' q ln len z :=
  ⟨by rw [h1]; exact h.1, by rw [h1]; exact h.2.1, h.2.2.1, h.2.2.2.1, fun i hi => by rw [h2]; exact h.2.2.2.2 i hi⟩
def tT (μ μ2 : Mem) (τ θ : Tn) (ζ : Nat → Nat → Int32) (k la i n : Int32) : Prop :=
  μ2 0 5 = nI (f_town θ k la i n) ∧ (∃ τ2, TX μ2 2 τ2 ∧ tB τ2) ∧
  (∀ c1 k1, c1 ≠ 1 → c1 ≠ 7 → (c1 < 22 ∨ 25 < c1) → (c1 ≠ 3 ∨ k1 ≠ 3) → c1 ≠ 2 → c1 ≠ 8 → (c1 < 26 ∨ 29 < c1) → (c1 ≠ 0 ∨ k1 ≠ 5) → μ2 c1 k1 = μ c1 k1) ∧
  (okT θ ζ k la i n = false → ∀ c1 k1, c1 ≠ 2 → c1 ≠ 8 → (c1 < 26 ∨ 29 < c1) → (c1 ≠ 0 ∨ k1 ≠ 5) → μ2 c1 k1 = μ c1 k1) ∧
  (okT θ ζ k la i n = true → μ2 3 3 = nI 0 ∧ ∃ t, pr τ (fT ζ k i) (ix n) = some t ∧ t 0 3 = 7 ∧ TX μ2 1 t)
theorem tT_f {μ : Mem} {τ θ τ2 : Tn} {ζ : Nat → Nat → Int32} {k la i n : Int32} {f : Nat} (hf : f_town θ k la i n = f) (ho : okT θ ζ k la i n = false) (h2 : TX μ 2 τ2) (hb : tB τ2) : tT μ (mu μ 0 5 (nI f)) τ θ ζ k la i n :=
  ⟨by rw [mu_at, hf], ⟨τ2, h2.same (fun _ _ => mu_ne _ _ (Or.inl (by decide))) (fun _ _ _ => mu_ne _ _ (Or.inl (by omega))) (fun _ => mu_ne _ _ (Or.inl (by decide))), hb⟩, fun c1 k1 _ _ _ _ _ _ _ h => mu_ne _ _ h, fun _ c1 k1 _ _ _ h => mu_ne _ _ h, fun h => by rw [ho] at h; cases h⟩
theorem fs_le {p : Nat → Bool} : ∀ {k n m : Nat}, fs p n k = some m → m ≤ n + k
  | 0, n, m, h => by cases h
  | k + 1, n, m, h => by
    rw [fs] at h
    split at h
    · cases h; omega
    · have := fs_le h; omega
theorem pz_le {τ : Tn} {f : Nat → Int32} {n x : Nat} (h : pz τ f n = some x) : x ≤ n := by
  unfold pz at h
  cases e : fs (fun k => (pr τ f (k + 1)).isNone) 0 n with
  | some k => rw [e] at h; cases h; have := fs_le e; omega
  | none =>
    rw [e] at h
    cases e2 : pr τ f n with
    | none => rw [e2] at h; cases h; omega
    | some t =>
      rw [e2] at h
      dsimp only at h
      split at h
      · cases h
      · cases h; omega

set_option maxRecDepth 100000 in
set_option maxHeartbeats 4000000 in
theorem x_town (l : Launch) (D : va_G) (ad : Nat → Nat) (kI kS kL : ClassId) (μ : Mem) (τ : Tn) (hT : TX μ 1 τ) (hV : tV τ) (τ2 : Tn) (h2T : TX μ 2 τ2) (hB2 : tB τ2) (ρ : Tn) (hR : RX μ ρ) (hrb : rB τ ρ) (θ : Tn) (ζ : Nat → Nat → Int32) (hS : SX μ θ ζ) (k la i n : Int32) : MI l D ad kI kS kL yX4_town cX4_town 8 (some .int) 5 110 [.ref (ad 0), .int k, .int la, .int i, .int n] μ (fun r μ2 => tT μ μ2 τ θ ζ k la i n ∧ r = q_town θ ζ k la i n) := by
  refine met_I RX4 rfl (by decide) (lv := [(0, .ref (ad 0)), (1, .int k), (2, .int la), (3, .int i), (4, .int n)]) rfl (Nat.le_of_ble_eq_true rfl) ?_
  intro pp ee ss mm aa bb me cd AA hA0 CC hnm QQ hQ
  have hB := hV.1
  have hP9 : tP τ ≤ 9 := hB.1
  have hS4 : tS τ ≤ 4 := hB.2.1
  have hVc := hV.2.1
  refine y_aload_n CC 0 dX4_town_0 rfl rfl ?_
  refine y_iconst CC (nI 0) dX4_town_1 (by decide) ?_
  refine y_puti CC pl_X4_38 (by omega) rfl (Nat.le_of_ble_eq_true rfl) dX4_town_2 ?_
  have hT0 : TX (mu μ 0 5 (nI 0)) 1 τ := hT.f0 5 _
  have hS0 : SX (mu μ 0 5 (nI 0)) θ ζ := hS.f0 5 _
  have h2T0 : TX (mu μ 0 5 (nI 0)) 2 τ2 := h2T.same (fun _ _ => mu_ne _ _ (Or.inl (by decide))) (fun _ _ _ => mu_ne _ _ (Or.inl (by omega))) (fun _ => mu_ne _ _ (Or.inl (by decide)))
  refine y_aload_n CC 0 dX4_town_5 rfl rfl ?_
  refine y_iload_n CC 1 dX4_town_6 rfl rfl ?_
  refine y_callVN (ci := 4) (st := []) CC cl_X4_42 (k_sheetOrNull l D ad kI kS kL (mu μ 0 5 (nI 0)) k) (by omega) rfl rfl rfl (Nat.le_of_ble_eq_true rfl) ⟨by decide, by decide⟩ ⟨Nat.zero_le _, Nat.zero_le _⟩ dX4_town_7 (fun r_ μ_ w_2 => ?_)
  rcases w_2 with ⟨rfl, ⟨b_1, rfl⟩ | ⟨b_1, rfl⟩⟩
  · skip
    obtain ⟨jk, hjk, rfl⟩ := inB_of b_1 (by omega)
    refine y_eq (st2 := [.ref (ad (14 + jk))]) (by rw [ix_nI (by omega)]; rfl) ?_
    have hs_jk := hS0 jk hjk
    have hs3_jk := hs_jk.2.2.1
    have hs4_jk := hs_jk.2.2.2.1
    refine y_astore CC [(5, .ref (ad (14 + jk))), (0, .ref (ad 0)), (1, .int (nI jk)), (2, .int la), (3, .int i), (4, .int n)] dX4_town_10 (by decide) rfl ?_
    refine y_aload CC 0 dX4_town_12 rfl ?_
    refine y_ifnonnull CC 19 dX4_town_14 (by decide) ?_
    refine y_iload_n CC 3 dX4_town_19 rfl rfl ?_
    refine y_callSI (st := []) CC cl_X4_46 (k_isLane l D ad kI kS kL (mu μ 0 5 (nI 0)) la) rfl rfl (Nat.le_of_ble_eq_true rfl) ⟨by decide, by decide⟩ ⟨Nat.zero_le _, Nat.zero_le _⟩ dX4_town_20 (fun r_ μ_ w_4 => ?_)
    rcases w_4 with ⟨rfl, ⟨b_3, rfl⟩ | ⟨b_3, rfl⟩⟩
    · skip
      obtain ⟨jl, hjl, rfl⟩ := inB_of b_3 (by omega)
      refine z_if_neT CC 29 dX4_town_23 (by decide) (a := (1 : Int)) (nI_toInt (by decide)) (by decide) ?_
      refine y_aload CC 0 dX4_town_29 rfl ?_
      refine y_iload_n CC 3 dX4_town_31 rfl rfl ?_
      refine y_callVI (ci := 1) (st := []) CC cl_X4_50 (k_faultAsRow l D ad kI kS kL (mu μ 0 5 (nI 0)) (14 + jk) (by omega) (θ jk 0) (θ jk 1) (ζ jk) hs_jk jl (by omega)) (by omega) rfl rfl rfl (Nat.le_of_ble_eq_true rfl) ⟨by decide, by decide⟩ ⟨Nat.zero_le _, Nat.zero_le _⟩ dX4_town_32 (fun r_ μ_ w_5 => ?_)
      obtain ⟨rfl, rfl⟩ := w_5
      have hfar_ : farF (θ jk 0) jl ≤ 2 := by unfold farF; split; omega; split <;> omega
      refine y_istore CC [(6, .int (nI (farF (θ jk 0) jl))), (5, .ref (ad (14 + jk))), (0, .ref (ad 0)), (1, .int (nI jk)), (2, .int (nI jl)), (3, .int i), (4, .int n)] dX4_town_35 (by decide) rfl ?_
      refine y_iload CC 0 dX4_town_37 rfl ?_
      refine z_if_ne CC 61 dX4_town_39 (by decide) (a := ((farF (θ jk 0) jl : Nat) : Int)) (nI_toInt (by omega)) (fun c_6 => ?_) (fun c_6 => ?_)
      · skip
        have hf0_ : ¬ farF (θ jk 0) jl = 0 := by omega
        refine y_iload CC 0 dX4_town_61 rfl ?_
        refine z_if_eqF CC 73 dX4_town_63 (by decide) (a := ((farF (θ jk 0) jl : Nat) : Int)) (nI_toInt (by omega)) (by omega) ?_
        refine y_aload_n CC 2 dX4_town_66 rfl rfl ?_
        refine y_iload CC 0 dX4_town_67 rfl ?_
        refine y_callVI (ci := 4) (st := []) CC cl_X4_58 (k_cameTo l D ad kI kS kL (mu μ 0 5 (nI 0)) (farF (θ jk 0) jl) (by omega)) (by omega) rfl rfl rfl (Nat.le_of_ble_eq_true rfl) ⟨by decide, by decide⟩ ⟨Nat.zero_le _, Nat.zero_le _⟩ dX4_town_69 (fun r_ μ_ w_7 => ?_)
        obtain ⟨rfl, rfl⟩ := w_7
        exact y_iret CC hQ dX4_town_72 (⟨by rw [show mu (mu μ 0 5 (nI 0)) 0 5 (nI (farF (θ jk 0) jl)) = _ from mu_mu _ _ _ _ _]; exact tT_f (by simp [f_town, b_1, ix_nI (show jk < 2 ^ 31 by omega), b_3, ix_nI (show jl < 2 ^ 31 by omega), hf0_]) (by simp [okT, f_town, b_1, ix_nI (show jk < 2 ^ 31 by omega), b_3, ix_nI (show jl < 2 ^ 31 by omega), hf0_]) h2T hB2, by simp [q_town, f_town, b_1, ix_nI (show jk < 2 ^ 31 by omega), b_3, ix_nI (show jl < 2 ^ 31 by omega), hf0_]⟩)
      · skip
        have hf0_ : farF (θ jk 0) jl = 0 := by omega
        refine y_iload CC 6 dX4_town_42 rfl ?_
        refine z_if_ge CC 51 dX4_town_44 (by decide) (a := (n).toInt) rfl (fun c_8 => ?_) (fun c_8 => ?_)
        · skip
          have hn0_ : ¬ n.toInt < 0 := by omega
          refine y_aload CC 1 dX4_town_51 rfl ?_
          refine y_iload_n CC 5 dX4_town_53 rfl rfl ?_
          refine y_iload CC 6 dX4_town_54 rfl ?_
          refine y_callVI (ci := 1) (st := []) CC cl_X4_54 (k_faultOfCells l D ad kI kS kL (mu μ 0 5 (nI 0)) (14 + jk) (by omega) (θ jk 0) (θ jk 1) (ζ jk) hs_jk i n) (by omega) rfl rfl rfl (Nat.le_of_ble_eq_true rfl) ⟨by decide, by decide⟩ ⟨Nat.zero_le _, Nat.zero_le _⟩ dX4_town_56 (fun r_ μ_ w_10 => ?_)
          rcases w_10 with ⟨rfl, ⟨g_9, rfl⟩ | ⟨g_9, rfl⟩⟩
          · skip
            refine y_istore CC [(6, .int (nI 0)), (5, .ref (ad (14 + jk))), (0, .ref (ad 0)), (1, .int (nI jk)), (2, .int (nI jl)), (3, .int i), (4, .int n)] dX4_town_59 (by decide) rfl ?_
            refine y_iload CC 0 dX4_town_61 rfl ?_
            refine z_if_eqT CC 73 dX4_town_63 (by decide) (a := (0 : Int)) (nI_toInt (by decide)) (by decide) ?_
            have hg_ := of_decide_eq_true g_9
            obtain ⟨ji, hji, rfl⟩ := inB_of (x := i) (n := 61) (inB_t (by omega)) (by omega)
            obtain ⟨jn, hjn, rfl⟩ := inB_of (x := n) (n := 61) (inB_t (by omega)) (by omega)
            rw [nI_toInt (show ji < 2 ^ 31 by omega), nI_toInt (show jn < 2 ^ 31 by omega)] at hg_
            refine y_aload_n CC 2 dX4_town_73 rfl rfl ?_
            refine y_getr CC gl_X4_18 (by omega) (d := 2) rfl dX4_town_74 ?_
            refine y_aload CC 1 dX4_town_77 rfl ?_
            refine y_iload_n CC 5 dX4_town_79 rfl rfl ?_
            refine y_iload CC 6 dX4_town_80 rfl ?_
            refine y_callVI (ci := 3) (st := []) CC cl_X4_61 (k_read l D ad kI kS kL (mu μ 0 5 (nI 0)) 2 (by omega) τ2 h2T0 hB2 (14 + jk) (by omega) (θ jk 0) (θ jk 1) (ζ jk) hs_jk ji jn (by omega)) (by omega) rfl rfl rfl (Nat.le_of_ble_eq_true rfl) ⟨by decide, by decide⟩ ⟨Nat.zero_le _, Nat.zero_le _⟩ dX4_town_82 (fun r_ μ_ w_11 => ?_)
            obtain ⟨rfl, h1F, t2, k2, h1k, h1t, h1X, h1z⟩ := w_11
            have hTb := h1X.1
            have hBb : tB t2 := (pr_B hB2 _ _ _ h1t).1
            have hT1 : TX μ_ 1 τ := hT0.same (fun _ _ => h1F _ _ (by omega) (by omega) (by omega)) (fun _ _ _ => h1F _ _ (by omega) (by omega) (by omega)) (fun _ => h1F _ _ (by omega) (by omega) (by omega))
            have hs1_ : SQ μ_ (14 + jk) (θ jk 0) (θ jk 1) (ζ jk) := hs_jk.same (fun _ => h1F _ _ (by omega) (by omega) (by omega)) (fun _ => h1F _ _ (by omega) (by omega) (by omega))
            refine y_istore CC [(7, .int (oI (pz τ2 (fun x_ => ζ jk (ji + x_)) jn))), (6, .int (nI 0)), (5, .ref (ad (14 + jk))), (0, .ref (ad 0)), (1, .int (nI jk)), (2, .int (nI jl)), (3, .int (nI ji)), (4, .int (nI jn))] dX4_town_85 (by decide) rfl ?_
            rcases hb_ : pz τ2 (fun x_ => ζ jk (ji + x_)) jn with _ | x0
            · skip
              refine y_lvE (lv2 := [(7, .int (-9)), (6, .int (nI 0)), (5, .ref (ad (14 + jk))), (0, .ref (ad 0)), (1, .int (nI jk)), (2, .int (nI jl)), (3, .int (nI ji)), (4, .int (nI jn))]) (by first | rfl | (rw [hb_]; rfl)) ?_
              refine y_iload CC 0 dX4_town_87 rfl ?_
              refine y_bipush CC ((-9)) dX4_town_89 (by decide) ?_
              refine z_icmp_eqT CC 100 dX4_town_91 (by decide) (a := (-9 : Int)) (b := (-9 : Int)) (by decide) (by decide) (by decide) ?_
              refine y_aload_n CC 3 dX4_town_100 rfl rfl ?_
              refine y_getr CC gl_X4_14 (by omega) (d := 1) rfl dX4_town_101 ?_
              refine y_aload CC 2 dX4_town_104 rfl ?_
              refine y_iload_n CC 6 dX4_town_106 rfl rfl ?_
              refine y_iload CC 7 dX4_town_107 rfl ?_
              refine y_callVI (ci := 3) (st := []) CC cl_X4_61 (k_read l D ad kI kS kL μ_ 1 (by omega) τ hT1 hB (14 + jk) (by omega) (θ jk 0) (θ jk 1) (ζ jk) hs1_ ji jn (by omega)) (by omega) rfl rfl rfl (Nat.le_of_ble_eq_true rfl) ⟨by decide, by decide⟩ ⟨Nat.zero_le _, Nat.zero_le _⟩ dX4_town_109 (fun r_ μ_ w_12 => ?_)
              obtain ⟨rfl, h2F, t1, k1, h2k, h2t, h2X, h2z⟩ := w_12
              have hz1_ : pz τ (fun x_ => ζ jk (ji + x_)) jn = none := (pz_r0 τ τ2 _ _).trans hb_
              have hend_ := h2z hz1_
              have hpr_ : pr τ (fT ζ (nI jk) (nI ji)) (ix (nI jn)) = some t1 := by rw [ix_nI (show jn < 2 ^ 31 by omega), ← hend_.1]; unfold fT; rw [ix_nI (show jk < 2 ^ 31 by omega), ix_nI (show ji < 2 ^ 31 by omega)]; exact h2t
              have hns_ := nsT_of hpr_
              have hpz_ : pzT ζ (nI jk) (nI ji) (nI jn) = none := by unfold pzT fT; rw [ix_nI (show jk < 2 ^ 31 by omega), ix_nI (show ji < 2 ^ 31 by omega), ix_nI (show jn < 2 ^ 31 by omega)]; exact (pz_r0 _ τ2 _ _).trans hb_
              refine y_pop CC dX4_town_112 rfl ?_
              refine y_aload_n CC 3 dX4_town_113 rfl rfl ?_
              refine y_getr CC gl_X4_24 (by omega) (d := 3) rfl dX4_town_114 ?_
              refine y_iconst CC (nI 0) dX4_town_117 (by decide) ?_
              refine y_callVV (ci := 0) (st := []) CC cl_X4_65 (k_keepFirst l D ad kI kS kL μ_ ρ (hR.same ((h2F _ _ (by decide) (by decide) (by decide)).trans ((h1F _ _ (by decide) (by decide) (by decide)).trans (mu_ne _ _ (Or.inl (by decide))))) (fun _ _ _ _ => (h2F _ _ (by omega) (by omega) (by omega)).trans ((h1F _ _ (by omega) (by omega) (by omega)).trans (mu_ne _ _ (Or.inl (by omega)))))) hrb.1 0) (by omega) rfl rfl rfl (Nat.le_of_ble_eq_true rfl) ⟨by decide, by decide⟩ ⟨Nat.zero_le _, Nat.zero_le _⟩ dX4_town_118 (fun μ_ w_13 => ?_)
              obtain rfl := w_13
              refine y_aload_n CC 3 dX4_town_121 rfl rfl ?_
              refine y_getr CC gl_X4_14 (by omega) (d := 1) rfl dX4_town_122 ?_
              have hTc : TX (mu μ_ 3 3 (nI 0)) 1 t1 := h2X.1.same (fun _ _ => mu_ne _ _ (Or.inl (by decide))) (fun _ _ _ => mu_ne _ _ (Or.inl (by omega))) (fun _ => mu_ne _ _ (Or.inl (by decide)))
              have hBc : tB t1 := (pr_B hB _ _ _ h2t).1
              refine y_callVI (ci := 3) (st := []) CC cl_X4_69 (k_sleeperCount l D ad kI kS kL (mu μ_ 3 3 (nI 0)) 1 (by omega) t1 hTc hBc) (by omega) rfl rfl rfl (Nat.le_of_ble_eq_true rfl) ⟨by decide, by decide⟩ ⟨Nat.zero_le _, Nat.zero_le _⟩ dX4_town_125 (fun r_ μ_ w_14 => ?_)
              obtain ⟨rfl, rfl⟩ := w_14
              refine y_iret CC hQ dX4_town_128 ?_
              refine ⟨⟨?_, ⟨t2, ?_, hBb⟩, ?_, ?_, ?_⟩, ?_⟩
              · rw [mu_ne _ _ (Or.inl (by decide)), h2F _ _ (by decide) (by decide) (by decide), h1F _ _ (by decide) (by decide) (by decide), mu_at]; simp [f_town, b_1, ix_nI (show jk < 2 ^ 31 by omega), b_3, ix_nI (show jl < 2 ^ 31 by omega), hf0_, show ¬ (nI jn).toInt < 0 by rw [nI_toInt (by omega)]; omega, g_9, ix_nI (show ji < 2 ^ 31 by omega), ix_nI (show jn < 2 ^ 31 by omega)]
              · exact hTb.same (fun _ _ => by rw [mu_ne _ _ (Or.inl (by decide))]; exact h2F _ _ (by omega) (by omega) (by omega)) (fun _ _ _ => by rw [mu_ne _ _ (Or.inl (by omega))]; exact h2F _ _ (by omega) (by omega) (by omega)) (fun _ => by rw [mu_ne _ _ (Or.inl (by decide))]; exact h2F _ _ (by omega) (by omega) (by omega))
              · intro c1 k1 a1 a2 a3 a4 a5 a6 a7 a8; rw [mu_ne _ _ a4, h2F _ _ (by omega) (by omega) (by omega), h1F _ _ (by omega) (by omega) (by omega)]; exact mu_ne _ _ a8
              · intro h_; simp [okT, f_town, hpz_, b_1, ix_nI (show jk < 2 ^ 31 by omega), b_3, ix_nI (show jl < 2 ^ 31 by omega), hf0_, show ¬ (nI jn).toInt < 0 by rw [nI_toInt (by omega)]; omega, g_9, ix_nI (show ji < 2 ^ 31 by omega), ix_nI (show jn < 2 ^ 31 by omega)] at h_
              · intro _; exact ⟨mu_at _ _ _ _, t1, hpr_, hend_.2, hTc⟩
              · simp [q_town, f_town, hpz_, hns_, b_1, ix_nI (show jk < 2 ^ 31 by omega), b_3, ix_nI (show jl < 2 ^ 31 by omega), hf0_, show ¬ (nI jn).toInt < 0 by rw [nI_toInt (by omega)]; omega, g_9, ix_nI (show ji < 2 ^ 31 by omega), ix_nI (show jn < 2 ^ 31 by omega)]
            · skip
              refine y_lvE (lv2 := [(7, .int (nI x0)), (6, .int (nI 0)), (5, .ref (ad (14 + jk))), (0, .ref (ad 0)), (1, .int (nI jk)), (2, .int (nI jl)), (3, .int (nI ji)), (4, .int (nI jn))]) (by first | rfl | (rw [hb_]; rfl)) ?_
              have hx0_ := pz_le hb_
              refine y_iload CC 0 dX4_town_87 rfl ?_
              refine y_bipush CC ((-9)) dX4_town_89 (by decide) ?_
              refine z_icmp_eqF CC 100 dX4_town_91 (by decide) (a := ((x0 : Nat) : Int)) (b := (-9 : Int)) (nI_toInt (by omega)) (by decide) (by omega) ?_
              have hpz_ : pzT ζ (nI jk) (nI ji) (nI jn) = some x0 := by unfold pzT fT; rw [ix_nI (show jk < 2 ^ 31 by omega), ix_nI (show ji < 2 ^ 31 by omega), ix_nI (show jn < 2 ^ 31 by omega)]; exact (pz_r0 _ τ2 _ _).trans hb_
              refine y_bipush CC ((-100)) dX4_town_94 (by decide) ?_
              refine y_iload CC 0 dX4_town_96 rfl ?_
              refine y_isub CC dX4_town_98 (v := -100 - nI x0) (by rfl) ?_
              refine y_iret CC hQ dX4_town_99 ?_
              refine ⟨⟨?_, ⟨t2, hTb, hBb⟩, ?_, ?_, ?_⟩, ?_⟩
              · rw [h1F _ _ (by decide) (by decide) (by decide), mu_at]; simp [f_town, b_1, ix_nI (show jk < 2 ^ 31 by omega), b_3, ix_nI (show jl < 2 ^ 31 by omega), hf0_, show ¬ (nI jn).toInt < 0 by rw [nI_toInt (by omega)]; omega, g_9, ix_nI (show ji < 2 ^ 31 by omega), ix_nI (show jn < 2 ^ 31 by omega)]
              · intro c1 k1 a1 a2 a3 a4 a5 a6 a7 a8; rw [h1F _ _ (by omega) (by omega) (by omega)]; exact mu_ne _ _ a8
              · intro _ c1 k1 a5 a6 a7 a8; rw [h1F _ _ (by omega) (by omega) (by omega)]; exact mu_ne _ _ a8
              · intro h_; simp [okT, f_town, hpz_, b_1, ix_nI (show jk < 2 ^ 31 by omega), b_3, ix_nI (show jl < 2 ^ 31 by omega), hf0_, show ¬ (nI jn).toInt < 0 by rw [nI_toInt (by omega)]; omega, g_9, ix_nI (show ji < 2 ^ 31 by omega), ix_nI (show jn < 2 ^ 31 by omega)] at h_
              · simp [q_town, f_town, hpz_, b_1, ix_nI (show jk < 2 ^ 31 by omega), b_3, ix_nI (show jl < 2 ^ 31 by omega), hf0_, show ¬ (nI jn).toInt < 0 by rw [nI_toInt (by omega)]; omega, g_9, ix_nI (show ji < 2 ^ 31 by omega), ix_nI (show jn < 2 ^ 31 by omega)]
          · skip
            refine y_istore CC [(6, .int (nI 3)), (5, .ref (ad (14 + jk))), (0, .ref (ad 0)), (1, .int (nI jk)), (2, .int (nI jl)), (3, .int i), (4, .int n)] dX4_town_59 (by decide) rfl ?_
            refine y_iload CC 0 dX4_town_61 rfl ?_
            refine z_if_eqF CC 73 dX4_town_63 (by decide) (a := (3 : Int)) (nI_toInt (by decide)) (by decide) ?_
            refine y_aload_n CC 2 dX4_town_66 rfl rfl ?_
            refine y_iload CC 0 dX4_town_67 rfl ?_
            refine y_callVI (ci := 4) (st := []) CC cl_X4_58 (k_cameTo l D ad kI kS kL (mu μ 0 5 (nI 0)) 3 (by omega)) (by omega) rfl rfl rfl (Nat.le_of_ble_eq_true rfl) ⟨by decide, by decide⟩ ⟨Nat.zero_le _, Nat.zero_le _⟩ dX4_town_69 (fun r_ μ_ w_15 => ?_)
            obtain ⟨rfl, rfl⟩ := w_15
            exact y_iret CC hQ dX4_town_72 (⟨by rw [show mu (mu μ 0 5 (nI 0)) 0 5 (nI 3) = _ from mu_mu _ _ _ _ _]; exact tT_f (by simp [f_town, b_1, ix_nI (show jk < 2 ^ 31 by omega), b_3, ix_nI (show jl < 2 ^ 31 by omega), hf0_, hn0_, g_9]) (by simp [okT, f_town, b_1, ix_nI (show jk < 2 ^ 31 by omega), b_3, ix_nI (show jl < 2 ^ 31 by omega), hf0_, hn0_, g_9]) h2T hB2, by simp [q_town, f_town, b_1, ix_nI (show jk < 2 ^ 31 by omega), b_3, ix_nI (show jl < 2 ^ 31 by omega), hf0_, hn0_, g_9]⟩)
        · skip
          have hn0_ : n.toInt < 0 := by omega
          refine y_iconst CC (nI 4) dX4_town_47 (by decide) ?_
          refine y_goto CC 59 dX4_town_48 (by decide) ?_
          refine y_istore CC [(6, .int (nI 4)), (5, .ref (ad (14 + jk))), (0, .ref (ad 0)), (1, .int (nI jk)), (2, .int (nI jl)), (3, .int i), (4, .int n)] dX4_town_59 (by decide) rfl ?_
          refine y_iload CC 0 dX4_town_61 rfl ?_
          refine z_if_eqF CC 73 dX4_town_63 (by decide) (a := (4 : Int)) (nI_toInt (by decide)) (by decide) ?_
          refine y_aload_n CC 2 dX4_town_66 rfl rfl ?_
          refine y_iload CC 0 dX4_town_67 rfl ?_
          refine y_callVI (ci := 4) (st := []) CC cl_X4_58 (k_cameTo l D ad kI kS kL (mu μ 0 5 (nI 0)) 4 (by omega)) (by omega) rfl rfl rfl (Nat.le_of_ble_eq_true rfl) ⟨by decide, by decide⟩ ⟨Nat.zero_le _, Nat.zero_le _⟩ dX4_town_69 (fun r_ μ_ w_16 => ?_)
          obtain ⟨rfl, rfl⟩ := w_16
          exact y_iret CC hQ dX4_town_72 (⟨by rw [show mu (mu μ 0 5 (nI 0)) 0 5 (nI 4) = _ from mu_mu _ _ _ _ _]; exact tT_f (by simp [f_town, b_1, ix_nI (show jk < 2 ^ 31 by omega), b_3, ix_nI (show jl < 2 ^ 31 by omega), hf0_, hn0_]) (by simp [okT, f_town, b_1, ix_nI (show jk < 2 ^ 31 by omega), b_3, ix_nI (show jl < 2 ^ 31 by omega), hf0_, hn0_]) h2T hB2, by simp [q_town, f_town, b_1, ix_nI (show jk < 2 ^ 31 by omega), b_3, ix_nI (show jl < 2 ^ 31 by omega), hf0_, hn0_]⟩)
    · skip
      refine z_if_neF CC 29 dX4_town_23 (by decide) (a := (0 : Int)) (nI_toInt (by decide)) (by decide) ?_
      refine y_bipush CC ((-2)) dX4_town_26 (by decide) ?_
      exact y_iret CC hQ dX4_town_28 (⟨tT_f (by simp [f_town, b_1, ix_nI (show jk < 2 ^ 31 by omega), b_3]) (by simp [okT, f_town, b_1, ix_nI (show jk < 2 ^ 31 by omega), b_3]) h2T hB2, by simp [q_town, f_town, b_1, ix_nI (show jk < 2 ^ 31 by omega), b_3]⟩)
  · skip
    refine y_eq (st2 := [.null]) rfl ?_
    refine y_astoreN CC [(5, .null), (0, .ref (ad 0)), (1, .int k), (2, .int la), (3, .int i), (4, .int n)] dX4_town_10 (by decide) rfl ?_
    refine y_aloadN CC 0 dX4_town_12 rfl ?_
    refine y_ifnonnullN CC 19 dX4_town_14 (by decide) ?_
    refine y_iconst CC ((-1)) dX4_town_17 (by decide) ?_
    exact y_iret CC hQ dX4_town_18 (⟨tT_f (by simp [f_town, b_1]) (by simp [okT, f_town, b_1]) h2T hB2, by simp [q_town, f_town, b_1]⟩)
