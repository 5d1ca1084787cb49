/-- readings: rows 0 sleepers, 1 minutes, 2 places; how many: 3 0 -/
def RX (μ : Mem) (ρ : Tn) : Prop := μ 3 3 = nI (ρ 3 0) ∧ ∀ i, i < 8 → μ 11 i = nI (ρ 0 i) ∧ μ 12 i = nI (ρ 1 i) ∧ μ 13 i = nI (ρ 2 i)
def RM (μ : Mem) (ρ : Tn) : Prop := μ 30 21 = nI (ρ 3 0) ∧ ∀ i, i < ρ 3 0 → μ 41 i = nI (ρ 0 i) ∧ μ 42 i = nI (ρ 1 i) ∧ μ 43 i = nI (ρ 2 i)
def rB (τ ρ : Tn) : Prop := ρ 3 0 ≤ 8 ∧ ∀ i, i < ρ 3 0 → ρ 0 i < tS τ ∧ ρ 1 i ≤ 60 ∧ ρ 2 i < tP τ
/-- all readings are so in a town -/
def soB (τ ρ : Tn) : Bool := (List.range (ρ 3 0)).all (fun i => decide (pl τ (ρ 0 i) (ρ 1 i) = ρ 2 i))
theorem soB_t {τ ρ : Tn} (h : ∀ i, i < ρ 3 0 → pl τ (ρ 0 i) (ρ 1 i) = ρ 2 i) : soB τ ρ = true := List.all_eq_true.mpr (fun i hi => decide_eq_true (h i (List.mem_range.mp hi)))
theorem soB_f {τ ρ : Tn} {i : Nat} (hi : i < ρ 3 0) (h : ¬ pl τ (ρ 0 i) (ρ 1 i) = ρ 2 i) : soB τ ρ = false := by
  cases hb : soB τ ρ with
  | false => rfl
  | true => exact absurd (of_decide_eq_true (List.all_eq_true.mp hb i (List.mem_range.mpr hi))) h
/-- the class's sheet at cell q: its lane and one (0: nothing), its length, its cells -/
def SQ (μ : Mem) (q ln len : Nat) (ζ : Nat → Int32) : Prop := μ q 1 = nI ln - 1 ∧ μ q 2 = nI len ∧ ln ≤ 3 ∧ len ≤ 60 ∧ ∀ i, i < len → μ (q + 4) i = ζ i
def SX (μ : Mem) (θ : Tn) (ζ : Nat → Nat → Int32) : Prop := ∀ k, k < 4 → SQ μ (14 + k) (θ k 0) (θ k 1) (ζ k)
/-- the reference's -/
def SM (μ : Mem) (θ : Tn) (ζ : Nat → Nat → Int32) : Prop := ∀ k, k < 4 → (θ k 0 = 0 → μ 44 k = -1) ∧ (0 < θ k 0 → μ 44 k = nI (θ k 1) ∧ μ 45 k = nI (θ k 0 - 1)) ∧ ∀ i, i < θ k 1 → μ 46 (60 * k + i) = ζ k i
def cutI (ln : Nat) (v : Int32) : Int32 := if ln = 1 then v.toInt8.toInt32 else if ln = 2 then v.toInt16.toInt32 else v
/-- fault of a row taken as one of lane j; of n cells from i on -/
def farF (ln j : Nat) : Nat := if ln = 0 then 1 else if ln = j + 1 then 0 else 2
def focB (len : Nat) (i n : Int32) : Bool := decide (0 ≤ i.toInt ∧ 0 ≤ n.toInt ∧ i.toInt + n.toInt ≤ (len : Int))
def focR (r : Int32) (len : Nat) (i n : Int32) : Prop := (focB len i n = true ∧ r = nI 0) ∨ (focB len i n = false ∧ r = nI 3)
theorem len_sub {len : Nat} {i : Int32} (hl : len ≤ 60) (h0 : 0 ≤ i.toInt) (h1 : i.toInt ≤ len) : (nI len - i).toInt = len - i.toInt := by
  rw [Int32.toInt_sub, nI_toInt (by omega), Int.bmod_eq_of_le] <;> omega

set_option maxRecDepth 100000 in
set_option maxHeartbeats 4000000 in
theorem k_howMany (l : Launch) (D : va_G) (ad : Nat → Nat) (kI kS kL : ClassId) (μ : Mem) (ρ : Tn) (hR : RX μ ρ) (hR8 : ρ 3 0 ≤ 8)  : MI l D ad kI kS kL yX0_howMany cX0_howMany 1 (some .int) 0 0 [.ref (ad 3)] μ (fun r μ2 => μ = μ2 ∧ r = nI (ρ 3 0)) := by
  refine met_I RX0 rfl (by decide) (lv := [(0, .ref (ad 3))]) rfl (Nat.le_of_ble_eq_true rfl) ?_
  intro pp ee ss mm aa bb me cd AA hA0 CC hnm QQ hQ
  refine y_aload_n CC 0 dX0_howMany_0 rfl rfl ?_
  refine y_geti CC gl_X0_21 (by omega) rfl (v := nI (ρ 3 0)) hR.1 dX0_howMany_1 ?_
  exact y_iret CC hQ dX0_howMany_4 (⟨rfl, rfl⟩)

set_option maxRecDepth 100000 in
set_option maxHeartbeats 4000000 in
theorem k_keepFirst (l : Launch) (D : va_G) (ad : Nat → Nat) (kI kS kL : ClassId) (μ : Mem) (ρ : Tn) (hR : RX μ ρ) (hR8 : ρ 3 0 ≤ 8) (n : Nat) : MV l D ad kI kS kL yX0_keepFirst cX0_keepFirst 2 none 0 0 [.ref (ad 3), .int (nI n)] μ (fun μ2 => μ2 = mu μ 3 3 (nI n)) := by
  refine met_V RX0 rfl (by decide) (lv := [(0, .ref (ad 3)), (1, .int (nI n))]) rfl (Nat.le_of_ble_eq_true rfl) ?_
  intro pp ee ss mm aa bb me cd AA hA0 CC hnm QQ hQ
  refine y_aload_n CC 0 dX0_keepFirst_0 rfl rfl ?_
  refine y_iload_n CC 1 dX0_keepFirst_1 rfl rfl ?_
  refine y_puti CC pl_X0_21 (by omega) rfl (Nat.le_of_ble_eq_true rfl) dX0_keepFirst_2 ?_
  exact y_vret CC hQ dX0_keepFirst_5 rfl

set_option maxRecDepth 100000 in
set_option maxHeartbeats 4000000 in
theorem k_add (l : Launch) (D : va_G) (ad : Nat → Nat) (kI kS kL : ClassId) (μ : Mem) (ρ : Tn) (hR : RX μ ρ) (hR8 : ρ 3 0 ≤ 8) (a m p : Nat) : MI l D ad kI kS kL yX0_add cX0_add 4 (some .int) 0 0 [.ref (ad 3), .int (nI a), .int (nI m), .int (nI p)] μ (fun r μ2 => (ρ 3 0 = 8 ∧ μ = μ2 ∧ r = -4) ∨ (ρ 3 0 < 8 ∧ r = nI (ρ 3 0) ∧ μ2 = mu (mu (mu (mu μ 11 (ρ 3 0) (nI a)) 12 (ρ 3 0) (nI m)) 13 (ρ 3 0) (nI p)) 3 3 (nI (ρ 3 0 + 1)))) := by
  refine met_I RX0 rfl (by decide) (lv := [(0, .ref (ad 3)), (1, .int (nI a)), (2, .int (nI m)), (3, .int (nI p))]) rfl (Nat.le_of_ble_eq_true rfl) ?_
  intro pp ee ss mm aa bb me cd AA hA0 CC hnm QQ hQ
  refine y_aload_n CC 0 dX0_add_0 rfl rfl ?_
  refine y_geti CC gl_X0_21 (by omega) rfl (v := nI (ρ 3 0)) hR.1 dX0_add_1 ?_
  refine z_if_lt CC 16 dX0_add_4 (by decide) (a := ((ρ 3 0 : Nat) : Int)) (nI_toInt (by omega)) (fun c_1 => ?_) (fun c_1 => ?_)
  · skip
    exfalso; omega
  · skip
    refine y_aload_n CC 0 dX0_add_7 rfl rfl ?_
    refine y_geti CC gl_X0_21 (by omega) rfl (v := nI (ρ 3 0)) hR.1 dX0_add_8 ?_
    refine y_bipush CC (nI 8) dX0_add_11 (by decide) ?_
    refine z_icmp_lt CC 19 dX0_add_13 (by decide) (a := ((ρ 3 0 : Nat) : Int)) (b := (8 : Int)) (nI_toInt (by omega)) (nI_toInt (by decide)) (fun c_2 => ?_) (fun c_2 => ?_)
    · skip
      refine y_aload_n CC 0 dX0_add_19 rfl rfl ?_
      refine y_getr CC gl_X0_9 (by omega) (d := 11) rfl dX0_add_20 ?_
      refine y_aload_n CC 0 dX0_add_23 rfl rfl ?_
      refine y_geti CC gl_X0_21 (by omega) rfl (v := nI (ρ 3 0)) hR.1 dX0_add_24 ?_
      refine y_iload_n CC 1 dX0_add_27 rfl rfl ?_
      refine y_iastN CC (n := 8) (by omega) (by decide) (by omega) (by omega) dX0_add_28 ?_
      refine y_aload_n CC 0 dX0_add_29 rfl rfl ?_
      refine y_getr CC gl_X0_15 (by omega) (d := 12) rfl dX0_add_30 ?_
      refine y_aload_n CC 0 dX0_add_33 rfl rfl ?_
      refine y_geti CC gl_X0_21 (by omega) rfl (v := nI (ρ 3 0)) (by rw [mu_ne _ _ (Or.inl (by decide))]; exact hR.1) dX0_add_34 ?_
      refine y_iload_n CC 2 dX0_add_37 rfl rfl ?_
      refine y_iastN CC (n := 8) (by omega) (by decide) (by omega) (by omega) dX0_add_38 ?_
      refine y_aload_n CC 0 dX0_add_39 rfl rfl ?_
      refine y_getr CC gl_X0_18 (by omega) (d := 13) rfl dX0_add_40 ?_
      refine y_aload_n CC 0 dX0_add_43 rfl rfl ?_
      refine y_geti CC gl_X0_21 (by omega) rfl (v := nI (ρ 3 0)) (by rw [mu_ne _ _ (Or.inl (by decide))]; rw [mu_ne _ _ (Or.inl (by decide))]; exact hR.1) dX0_add_44 ?_
      refine y_iload_n CC 3 dX0_add_47 rfl rfl ?_
      refine y_iastN CC (n := 8) (by omega) (by decide) (by omega) (by omega) dX0_add_48 ?_
      refine y_aload_n CC 0 dX0_add_49 rfl rfl ?_
      refine y_dup CC dX0_add_50 rfl ?_
      refine y_geti CC gl_X0_21 (by omega) rfl (v := nI (ρ 3 0)) (by rw [mu_ne _ _ (Or.inl (by decide))]; rw [mu_ne _ _ (Or.inl (by decide))]; rw [mu_ne _ _ (Or.inl (by decide))]; exact hR.1) dX0_add_51 ?_
      refine y_iconst CC (nI 1) dX0_add_54 (by decide) ?_
      refine y_iadd CC dX0_add_55 (v := nI ((ρ 3 0) + 1)) (nI_add _ _) ?_
      refine y_puti CC pl_X0_21 (by omega) rfl (Nat.le_of_ble_eq_true rfl) dX0_add_56 ?_
      refine y_aload_n CC 0 dX0_add_59 rfl rfl ?_
      refine y_geti CC gl_X0_21 (by omega) rfl (v := nI (ρ 3 0 + 1)) (mu_at _ _ _ _) dX0_add_60 ?_
      refine y_iconst CC (nI 1) dX0_add_63 (by decide) ?_
      refine y_isub CC dX0_add_64 (v := nI (ρ 3 0)) ((pk_sub (by omega)).trans (by rw [Nat.add_sub_cancel])) ?_
      exact y_iret CC hQ dX0_add_65 (Or.inr ⟨by omega, rfl, rfl⟩)
    · skip
      refine y_bipush CC ((-4)) dX0_add_16 (by decide) ?_
      exact y_iret CC hQ dX0_add_18 (Or.inl ⟨by omega, rfl, rfl⟩)

set_option maxRecDepth 100000 in
set_option maxHeartbeats 4000000 in
theorem k_areSo (l : Launch) (D : va_G) (ad : Nat → Nat) (kI kS kL : ClassId) (μ : Mem) (ρ : Tn) (hR : RX μ ρ) (hR8 : ρ 3 0 ≤ 8) (c : Nat) (hc : isO 3 c) (τ : Tn) (hT : TX μ c τ) (hB : tB τ) (hP : 0 < tP τ) (hrb : rB τ ρ) (τ2 : Tn) (a k st d : Nat) (ha : a < 2 ^ 31) (hk : k ≤ 2) (hst : st ≤ 9) (hd : d ≤ 9) (h1 : ∀ m, pif τ k st d m = pl τ2 a m) (h2 : ∀ b m, b ≠ a → pl τ b m = pl τ2 b m) : MI l D ad kI kS kL yX0_areSo cX0_areSo 8 (some .boolean) 3 69 [.ref (ad 3), .ref (ad c), .int (nI a), .int (nI k), .int (nI st), .int (nI d)] μ (fun r μ2 => μ = μ2 ∧ bo r (soB τ2 ρ)) := by
  refine met_I RX0 rfl (by decide) (lv := [(0, .ref (ad 3)), (1, .ref (ad c)), (2, .int (nI a)), (3, .int (nI k)), (4, .int (nI st)), (5, .int (nI d))]) rfl (Nat.le_of_ble_eq_true rfl) ?_
  intro pp ee ss mm aa bb me cd AA hA0 CC hnm QQ hQ
  have hP9 : tP τ ≤ 9 := hB.1
  have hS4 : tS τ ≤ 4 := hB.2.1
  have hc2 : 1 ≤ c ∧ c ≤ 2 := by omega
  refine y_iconst CC (nI 0) dX0_areSo_0 (by decide) ?_
  refine y_istore CC [(6, .int (nI 0)), (0, .ref (ad 3)), (1, .ref (ad c)), (2, .int (nI a)), (3, .int (nI k)), (4, .int (nI st)), (5, .int (nI d))] dX0_areSo_1 (by decide) rfl ?_
  have L3 : ∀ (n3 : Nat) (i : Nat), ρ 3 0 - i < n3 → (i ≤ ρ 3 0) → (∀ j, j < i → pl τ2 (ρ 0 j) (ρ 1 j) = ρ 2 j) → Y pp l ee (rmY 3 69) ss mm aa bb me cd D ad kI kS kL AA 8 0 0 QQ 3 [(6, .int (nI i)), (0, .ref (ad 3)), (1, .ref (ad c)), (2, .int (nI a)), (3, .int (nI k)), (4, .int (nI st)), (5, .int (nI d))] [] μ := by
    intro n3
    induction n3 with
    | zero => intro i hm3; exact absurd hm3 (Nat.not_lt_zero _)
    | succ n3 ih3 =>
      intro i hm3 hi hn
      refine y_iload CC 0 dX0_areSo_3 rfl ?_
      refine y_aload_n CC 1 dX0_areSo_5 rfl rfl ?_
      refine y_geti CC gl_X0_21 (by omega) rfl (v := nI (ρ 3 0)) hR.1 dX0_areSo_6 ?_
      refine z_icmp_ge CC 89 dX0_areSo_9 (by decide) (a := ((i : Nat) : Int)) (b := ((ρ 3 0 : Nat) : Int)) (nI_toInt (by omega)) (nI_toInt (by omega)) (fun c_2 => ?_) (fun c_2 => ?_)
      · skip
        refine y_iconst CC (nI 1) dX0_areSo_89 (by decide) ?_
        exact y_zret CC hQ dX0_areSo_90 (by decide) (⟨rfl, Or.inl ⟨soB_t (fun j hj => hn j (by omega)), rfl⟩⟩)
      · skip
        refine y_iload CC 0 dX0_areSo_12 rfl ?_
        refine y_bipush CC (nI 8) dX0_areSo_14 (by decide) ?_
        refine z_icmp_geF CC 89 dX0_areSo_16 (by decide) (a := ((i : Nat) : Int)) (b := (8 : Int)) (nI_toInt (by omega)) (nI_toInt (by decide)) (by omega) ?_
        have hri := hrb.2 i (by omega)
        refine y_aload_n CC 1 dX0_areSo_19 rfl rfl ?_
        refine y_getr CC gl_X0_9 (by omega) (d := 11) rfl dX0_areSo_20 ?_
        refine y_iload CC 0 dX0_areSo_23 rfl ?_
        refine y_ialdN CC (n := 8) (by omega) (by decide) (by omega) (by omega) (v := nI (ρ 0 i)) (hR.2 i (by omega)).1 dX0_areSo_25 ?_
        refine y_iload_n CC 3 dX0_areSo_26 rfl rfl ?_
        refine z_icmp_ne CC 49 dX0_areSo_27 (by decide) (a := ((ρ 0 i : Nat) : Int)) (b := ((a : Nat) : Int)) (nI_toInt (by omega)) (nI_toInt (by omega)) (fun c_3 => ?_) (fun c_3 => ?_)
        · skip
          refine y_aload_n CC 2 dX0_areSo_49 rfl rfl ?_
          refine y_aload_n CC 1 dX0_areSo_50 rfl rfl ?_
          refine y_getr CC gl_X0_9 (by omega) (d := 11) rfl dX0_areSo_51 ?_
          refine y_iload CC 0 dX0_areSo_54 rfl ?_
          refine y_ialdN CC (n := 8) (by omega) (by decide) (by omega) (by omega) (v := nI (ρ 0 i)) (hR.2 i (by omega)).1 dX0_areSo_56 ?_
          refine y_aload_n CC 1 dX0_areSo_57 rfl rfl ?_
          refine y_getr CC gl_X0_15 (by omega) (d := 12) rfl dX0_areSo_58 ?_
          refine y_iload CC 0 dX0_areSo_61 rfl ?_
          refine y_ialdN CC (n := 8) (by omega) (by decide) (by omega) (by omega) (v := nI (ρ 1 i)) (hR.2 i (by omega)).2.1 dX0_areSo_63 ?_
          refine y_callVI (st := []) CC cl_X0_31 (k_placeOf l D ad kI kS kL μ c hc τ hT hB hP (ρ 0 i) (ρ 1 i) (by omega) (by omega)) hc rfl rfl rfl (Nat.le_of_ble_eq_true rfl) ⟨by decide, by decide⟩ ⟨Nat.zero_le _, Nat.zero_le _⟩ dX0_areSo_64 (fun r_ μ_ w_5 => ?_)
          obtain ⟨rfl, rfl⟩ := w_5
          have h_pl_4 := pl_lt (τ := τ) hP (ρ 0 i) (ρ 1 i)
          have hv2 := h2 (ρ 0 i) (ρ 1 i) (by omega)
          refine y_istore CC [(7, .int (nI (pl τ (ρ 0 i) (ρ 1 i)))), (6, .int (nI i)), (0, .ref (ad 3)), (1, .ref (ad c)), (2, .int (nI a)), (3, .int (nI k)), (4, .int (nI st)), (5, .int (nI d))] dX0_areSo_67 (by decide) rfl ?_
          refine y_iload CC 0 dX0_areSo_69 rfl ?_
          refine y_aload_n CC 2 dX0_areSo_71 rfl rfl ?_
          refine y_getr CC gl_X0_18 (by omega) (d := 13) rfl dX0_areSo_72 ?_
          refine y_iload CC 1 dX0_areSo_75 rfl ?_
          refine y_ialdN CC (n := 8) (by omega) (by decide) (by omega) (by omega) (v := nI (ρ 2 i)) (hR.2 i (by omega)).2.2 dX0_areSo_77 ?_
          refine z_icmp_eq CC 83 dX0_areSo_78 (by decide) (a := ((pl τ (ρ 0 i) (ρ 1 i) : Nat) : Int)) (b := ((ρ 2 i : Nat) : Int)) (nI_toInt (by omega)) (nI_toInt (by omega)) (fun c_6 => ?_) (fun c_6 => ?_)
          · skip
            refine y_iinc CC 1 (nI (i + 1)) [(6, .int (nI (i + 1))), (7, .int (nI (pl τ (ρ 0 i) (ρ 1 i)))), (0, .ref (ad 3)), (1, .ref (ad c)), (2, .int (nI a)), (3, .int (nI k)), (4, .int (nI st)), (5, .int (nI d))] dX0_areSo_83 rfl (i_inc _) (by decide) rfl ?_
            refine y_goto CC 3 dX0_areSo_86 (by decide) ?_
            refine y_lv [0, 2, 3, 4, 5, 6, 7] rfl ?_
            exact ih3 (i + 1) (by omega) (by omega) (fun j hj => by rcases (show j < i ∨ j = i by omega) with h | rfl; exact hn j h; omega)
          · skip
            refine y_iconst CC (nI 0) dX0_areSo_81 (by decide) ?_
            exact y_zret CC hQ dX0_areSo_82 (by decide) (⟨rfl, Or.inr ⟨soB_f (i := i) (by omega) (by omega), rfl⟩⟩)
        · skip
          refine y_aload_n CC 2 dX0_areSo_30 rfl rfl ?_
          refine y_iload_n CC 4 dX0_areSo_31 rfl rfl ?_
          refine y_iload CC 5 dX0_areSo_32 rfl ?_
          refine y_iload CC 6 dX0_areSo_34 rfl ?_
          refine y_aload_n CC 1 dX0_areSo_36 rfl rfl ?_
          refine y_getr CC gl_X0_15 (by omega) (d := 12) rfl dX0_areSo_37 ?_
          refine y_iload CC 0 dX0_areSo_40 rfl ?_
          refine y_ialdN CC (n := 8) (by omega) (by decide) (by omega) (by omega) (v := nI (ρ 1 i)) (hR.2 i (by omega)).2.1 dX0_areSo_42 ?_
          refine y_callVI (st := []) CC cl_X0_25 (k_placeIf l D ad kI kS kL μ c hc τ hT hB hP k st d (ρ 1 i) (by omega) (by omega) (by omega) (by omega)) hc rfl rfl rfl (Nat.le_of_ble_eq_true rfl) ⟨by decide, by decide⟩ ⟨Nat.zero_le _, Nat.zero_le _⟩ dX0_areSo_43 (fun r_ μ_ w_7 => ?_)
          obtain ⟨rfl, rfl⟩ := w_7
          have hv := h1 (ρ 1 i)
          have hlt := pif_lt hP k st d (ρ 1 i)
          have hv2 : pif τ k st d (ρ 1 i) = pl τ2 (ρ 0 i) (ρ 1 i) := by rw [show ρ 0 i = a by omega]; exact hv
          refine y_goto CC 67 dX0_areSo_46 (by decide) ?_
          refine y_istore CC [(7, .int (nI (pif τ k st d (ρ 1 i)))), (6, .int (nI i)), (0, .ref (ad 3)), (1, .ref (ad c)), (2, .int (nI a)), (3, .int (nI k)), (4, .int (nI st)), (5, .int (nI d))] dX0_areSo_67 (by decide) rfl ?_
          refine y_iload CC 0 dX0_areSo_69 rfl ?_
          refine y_aload_n CC 2 dX0_areSo_71 rfl rfl ?_
          refine y_getr CC gl_X0_18 (by omega) (d := 13) rfl dX0_areSo_72 ?_
          refine y_iload CC 1 dX0_areSo_75 rfl ?_
          refine y_ialdN CC (n := 8) (by omega) (by decide) (by omega) (by omega) (v := nI (ρ 2 i)) (hR.2 i (by omega)).2.2 dX0_areSo_77 ?_
          refine z_icmp_eq CC 83 dX0_areSo_78 (by decide) (a := ((pif τ k st d (ρ 1 i) : Nat) : Int)) (b := ((ρ 2 i : Nat) : Int)) (nI_toInt (by omega)) (nI_toInt (by omega)) (fun c_8 => ?_) (fun c_8 => ?_)
          · skip
            refine y_iinc CC 1 (nI (i + 1)) [(6, .int (nI (i + 1))), (7, .int (nI (pif τ k st d (ρ 1 i)))), (0, .ref (ad 3)), (1, .ref (ad c)), (2, .int (nI a)), (3, .int (nI k)), (4, .int (nI st)), (5, .int (nI d))] dX0_areSo_83 rfl (i_inc _) (by decide) rfl ?_
            refine y_goto CC 3 dX0_areSo_86 (by decide) ?_
            refine y_lv [0, 2, 3, 4, 5, 6, 7] rfl ?_
            exact ih3 (i + 1) (by omega) (by omega) (fun j hj => by rcases (show j < i ∨ j = i by omega) with h | rfl; exact hn j h; omega)
          · skip
            refine y_iconst CC (nI 0) dX0_areSo_81 (by decide) ?_
            exact y_zret CC hQ dX0_areSo_82 (by decide) (⟨rfl, Or.inr ⟨soB_f (i := i) (by omega) (by omega), rfl⟩⟩)
  exact L3 _ 0 (Nat.lt_succ_self _) (Nat.zero_le _) (fun j hj => absurd hj (Nat.not_lt_zero j))

set_option maxRecDepth 100000 in
set_option maxHeartbeats 4000000 in
theorem k_hasNothing (l : Launch) (D : va_G) (ad : Nat → Nat) (kI kS kL : ClassId) (μ : Mem) (q : Nat) (hq : isO 1 q) (ln len : Nat) (ζ : Nat → Int32) (hS : SQ μ q ln len ζ)  : MI l D ad kI kS kL yX1_hasNothing cX1_hasNothing 1 (some .boolean) 0 0 [.ref (ad q)] μ (fun r μ2 => μ = μ2 ∧ bo r (decide (ln = 0))) := by
  refine met_I RX1 rfl (by decide) (lv := [(0, .ref (ad q))]) rfl (Nat.le_of_ble_eq_true rfl) ?_
  intro pp ee ss mm aa bb me cd AA hA0 CC hnm QQ hQ
  have hln := hS.2.2.1
  have hlen := hS.2.2.2.1
  have hq4 : 14 ≤ q ∧ q ≤ 17 := by omega
  refine y_aload_n CC 0 dX1_hasNothing_0 rfl rfl ?_
  refine y_geti CC gl_X1_15 hq rfl (v := nI ln - 1) hS.1 dX1_hasNothing_1 ?_
  refine y_iconst CC ((-1)) dX1_hasNothing_4 (by decide) ?_
  refine z_icmp_ne CC 12 dX1_hasNothing_5 (by decide) (a := ((ln : Nat) : Int) - 1) (b := (-1 : Int)) (i_pred (by omega)) (by decide) (fun c_1 => ?_) (fun c_1 => ?_)
  · skip
    refine y_iconst CC (nI 0) dX1_hasNothing_12 (by decide) ?_
    exact y_zret CC hQ dX1_hasNothing_13 (by decide) (⟨rfl, Or.inr ⟨decide_eq_false (by omega), rfl⟩⟩)
  · skip
    refine y_iconst CC (nI 1) dX1_hasNothing_8 (by decide) ?_
    refine y_goto CC 13 dX1_hasNothing_9 (by decide) ?_
    exact y_zret CC hQ dX1_hasNothing_13 (by decide) (⟨rfl, Or.inl ⟨decide_eq_true (by omega), rfl⟩⟩)

set_option maxRecDepth 100000 in
set_option maxHeartbeats 4000000 in
theorem k_drop (l : Launch) (D : va_G) (ad : Nat → Nat) (kI kS kL : ClassId) (μ : Mem) (q : Nat) (hq : isO 1 q) (ln len : Nat) (ζ : Nat → Int32) (hS : SQ μ q ln len ζ)  : MV l D ad kI kS kL yX1_drop cX1_drop 1 none 0 0 [.ref (ad q)] μ (fun μ2 => μ2 = mu (mu μ q 1 (-1)) q 2 (nI 0)) := by
  refine met_V RX1 rfl (by decide) (lv := [(0, .ref (ad q))]) rfl (Nat.le_of_ble_eq_true rfl) ?_
  intro pp ee ss mm aa bb me cd AA hA0 CC hnm QQ hQ
  have hln := hS.2.2.1
  have hlen := hS.2.2.2.1
  have hq4 : 14 ≤ q ∧ q ≤ 17 := by omega
  refine y_aload_n CC 0 dX1_drop_0 rfl rfl ?_
  refine y_iconst CC ((-1)) dX1_drop_1 (by decide) ?_
  refine y_puti CC pl_X1_15 hq rfl (Nat.le_of_ble_eq_true rfl) dX1_drop_2 ?_
  refine y_aload_n CC 0 dX1_drop_5 rfl rfl ?_
  refine y_iconst CC (nI 0) dX1_drop_6 (by decide) ?_
  refine y_puti CC pl_X1_19 hq rfl (Nat.le_of_ble_eq_true rfl) dX1_drop_7 ?_
  exact y_vret CC hQ dX1_drop_10 rfl

set_option maxRecDepth 100000 in
set_option maxHeartbeats 4000000 in
theorem k_hasCell (l : Launch) (D : va_G) (ad : Nat → Nat) (kI kS kL : ClassId) (μ : Mem) (q : Nat) (hq : isO 1 q) (ln len : Nat) (ζ : Nat → Int32) (hS : SQ μ q ln len ζ) (x : Int32) : MI l D ad kI kS kL yX1_hasCell cX1_hasCell 2 (some .boolean) 0 0 [.ref (ad q), .int x] μ (fun r μ2 => μ = μ2 ∧ bo r (inB x len)) := by
  refine met_I RX1 rfl (by decide) (lv := [(0, .ref (ad q)), (1, .int x)]) rfl (Nat.le_of_ble_eq_true rfl) ?_
  intro pp ee ss mm aa bb me cd AA hA0 CC hnm QQ hQ
  have hln := hS.2.2.1
  have hlen := hS.2.2.2.1
  have hq4 : 14 ≤ q ∧ q ≤ 17 := by omega
  refine y_iload_n CC 1 dX1_hasCell_0 rfl rfl ?_
  refine z_if_lt CC 25 dX1_hasCell_1 (by decide) (a := (x).toInt) rfl (fun c_1 => ?_) (fun c_1 => ?_)
  · skip
    refine y_iconst CC (nI 0) dX1_hasCell_25 (by decide) ?_
    exact y_zret CC hQ dX1_hasCell_26 (by decide) (⟨rfl, Or.inr ⟨inB_f (by omega), rfl⟩⟩)
  · skip
    refine y_iload_n CC 1 dX1_hasCell_4 rfl rfl ?_
    refine y_aload_n CC 0 dX1_hasCell_5 rfl rfl ?_
    refine y_geti CC gl_X1_19 hq rfl (v := nI len) hS.2.1 dX1_hasCell_6 ?_
    refine z_icmp_ge CC 25 dX1_hasCell_9 (by decide) (a := (x).toInt) (b := ((len : Nat) : Int)) rfl (nI_toInt (by omega)) (fun c_2 => ?_) (fun c_2 => ?_)
    · skip
      refine y_iconst CC (nI 0) dX1_hasCell_25 (by decide) ?_
      exact y_zret CC hQ dX1_hasCell_26 (by decide) (⟨rfl, Or.inr ⟨inB_f (by omega), rfl⟩⟩)
    · skip
      refine y_iload_n CC 1 dX1_hasCell_12 rfl rfl ?_
      refine y_aload_n CC 0 dX1_hasCell_13 rfl rfl ?_
      refine y_getr CC gl_X1_9 hq (d := (q + 4)) rfl dX1_hasCell_14 ?_
      refine y_alen CC (n := 60) (by omega) (by unfold alen; rw [if_neg (by omega), if_neg (by omega), if_neg (by omega), if_pos (by omega)]) dX1_hasCell_17 ?_
      refine z_icmp_ge CC 25 dX1_hasCell_18 (by decide) (a := (x).toInt) (b := (60 : Int)) rfl (nI_toInt (by decide)) (fun c_3 => ?_) (fun c_3 => ?_)
      · skip
        refine y_iconst CC (nI 0) dX1_hasCell_25 (by decide) ?_
        exact y_zret CC hQ dX1_hasCell_26 (by decide) (⟨rfl, Or.inr ⟨inB_f (by omega), rfl⟩⟩)
      · skip
        refine y_iconst CC (nI 1) dX1_hasCell_21 (by decide) ?_
        refine y_goto CC 26 dX1_hasCell_22 (by decide) ?_
        exact y_zret CC hQ dX1_hasCell_26 (by decide) (⟨rfl, Or.inl ⟨inB_t (by omega), rfl⟩⟩)

set_option maxRecDepth 100000 in
set_option maxHeartbeats 4000000 in
theorem k_at (l : Launch) (D : va_G) (ad : Nat → Nat) (kI kS kL : ClassId) (μ : Mem) (q : Nat) (hq : isO 1 q) (ln len : Nat) (ζ : Nat → Int32) (hS : SQ μ q ln len ζ) (x : Int32) : MI l D ad kI kS kL yX1_at cX1_at 2 (some .int) 1 21 [.ref (ad q), .int x] μ (fun r μ2 => μ = μ2 ∧ r = if inB x len = true then ζ (ix x) else nI 0) := by
  refine met_I RX1 rfl (by decide) (lv := [(0, .ref (ad q)), (1, .int x)]) rfl (Nat.le_of_ble_eq_true rfl) ?_
  intro pp ee ss mm aa bb me cd AA hA0 CC hnm QQ hQ
  have hln := hS.2.2.1
  have hlen := hS.2.2.2.1
  have hq4 : 14 ≤ q ∧ q ≤ 17 := by omega
  refine y_aload_n CC 0 dX1_at_0 rfl rfl ?_
  refine y_iload_n CC 1 dX1_at_1 rfl rfl ?_
  refine y_callVI (st := []) CC cl_X1_28 (k_hasCell l D ad kI kS kL μ q hq ln len ζ hS x) hq rfl rfl rfl (Nat.le_of_ble_eq_true rfl) ⟨by decide, by decide⟩ ⟨Nat.zero_le _, Nat.zero_le _⟩ dX1_at_2 (fun r_ μ_ w_2 => ?_)
  rcases w_2 with ⟨rfl, ⟨b_1, rfl⟩ | ⟨b_1, rfl⟩⟩
  · skip
    obtain ⟨j, hj, rfl⟩ := inB_of b_1 (by omega)
    refine z_if_eqF CC 17 dX1_at_5 (by decide) (a := (1 : Int)) (nI_toInt (by decide)) (by decide) ?_
    refine y_aload_n CC 0 dX1_at_8 rfl rfl ?_
    refine y_getr CC gl_X1_9 hq (d := (q + 4)) rfl dX1_at_9 ?_
    refine y_iload_n CC 1 dX1_at_12 rfl rfl ?_
    refine y_ialdN CC (n := 60) (by omega) (by unfold alen; rw [if_neg (by omega), if_neg (by omega), if_neg (by omega), if_pos (by omega)]) (by omega) (by omega) (v := ζ j) (hS.2.2.2.2 j (by omega)) dX1_at_13 ?_
    refine y_goto CC 18 dX1_at_14 (by decide) ?_
    exact y_iret CC hQ dX1_at_18 (⟨rfl, by rw [if_pos b_1, ix_nI (by omega)]⟩)
  · skip
    refine z_if_eqT CC 17 dX1_at_5 (by decide) (a := (0 : Int)) (nI_toInt (by decide)) (by decide) ?_
    refine y_iconst CC (nI 0) dX1_at_17 (by decide) ?_
    exact y_iret CC hQ dX1_at_18 (⟨rfl, by rw [b_1]; rfl⟩)

set_option maxRecDepth 100000 in
set_option maxHeartbeats 4000000 in
theorem k_set (l : Launch) (D : va_G) (ad : Nat → Nat) (kI kS kL : ClassId) (μ : Mem) (q : Nat) (hq : isO 1 q) (ln len : Nat) (ζ : Nat → Int32) (hS : SQ μ q ln len ζ) (x v : Int32) : MV l D ad kI kS kL yX1_set cX1_set 3 none 1 21 [.ref (ad q), .int x, .int v] μ (fun μ2 => (inB x len = true → μ2 = mu μ (q + 4) (ix x) (cutI ln v)) ∧ (inB x len = false → μ2 = μ)) := by
  refine met_V RX1 rfl (by decide) (lv := [(0, .ref (ad q)), (1, .int x), (2, .int v)]) rfl (Nat.le_of_ble_eq_true rfl) ?_
  intro pp ee ss mm aa bb me cd AA hA0 CC hnm QQ hQ
  have hln := hS.2.2.1
  have hlen := hS.2.2.2.1
  have hq4 : 14 ≤ q ∧ q ≤ 17 := by omega
  refine y_aload_n CC 0 dX1_set_0 rfl rfl ?_
  refine y_iload_n CC 1 dX1_set_1 rfl rfl ?_
  refine y_callVI (st := []) CC cl_X1_28 (k_hasCell l D ad kI kS kL μ q hq ln len ζ hS x) hq rfl rfl rfl (Nat.le_of_ble_eq_true rfl) ⟨by decide, by decide⟩ ⟨Nat.zero_le _, Nat.zero_le _⟩ dX1_set_2 (fun r_ μ_ w_2 => ?_)
  rcases w_2 with ⟨rfl, ⟨b_1, rfl⟩ | ⟨b_1, rfl⟩⟩
  · skip
    obtain ⟨j, hj, rfl⟩ := inB_of b_1 (by omega)
    refine z_if_eqF CC 40 dX1_set_5 (by decide) (a := (1 : Int)) (nI_toInt (by decide)) (by decide) ?_
    refine y_aload_n CC 0 dX1_set_8 rfl rfl ?_
    refine y_getr CC gl_X1_9 hq (d := (q + 4)) rfl dX1_set_9 ?_
    refine y_iload_n CC 1 dX1_set_12 rfl rfl ?_
    refine y_aload_n CC 0 dX1_set_13 rfl rfl ?_
    refine y_geti CC gl_X1_15 hq rfl (v := nI ln - 1) hS.1 dX1_set_14 ?_
    refine z_if_ne CC 25 dX1_set_17 (by decide) (a := ((ln : Nat) : Int) - 1) (i_pred (by omega)) (fun c_3 => ?_) (fun c_3 => ?_)
    · skip
      refine y_aload_n CC 0 dX1_set_25 rfl rfl ?_
      refine y_geti CC gl_X1_15 hq rfl (v := nI ln - 1) hS.1 dX1_set_26 ?_
      refine y_iconst CC (nI 1) dX1_set_29 (by decide) ?_
      refine z_icmp_ne CC 38 dX1_set_30 (by decide) (a := ((ln : Nat) : Int) - 1) (b := (1 : Int)) (i_pred (by omega)) (nI_toInt (by decide)) (fun c_4 => ?_) (fun c_4 => ?_)
      · skip
        refine y_iload_n CC 2 dX1_set_38 rfl rfl ?_
        refine y_iastN CC (n := 60) (by omega) (by unfold alen; rw [if_neg (by omega), if_neg (by omega), if_neg (by omega), if_pos (by omega)]) (by omega) (by omega) dX1_set_39 ?_
        exact y_vret CC hQ dX1_set_40 (⟨fun _ => by rw [ix_nI (by omega)]; unfold cutI; first | rw [if_pos (by omega)] | rw [if_neg (by omega), if_pos (by omega)] | rw [if_neg (by omega), if_neg (by omega)], fun h => (by rw [b_1] at h; cases h)⟩)
      · skip
        refine y_iload_n CC 2 dX1_set_33 rfl rfl ?_
        refine y_i2s CC dX1_set_34 (v := (v).toInt16.toInt32) rfl ?_
        refine y_goto CC 39 dX1_set_35 (by decide) ?_
        refine y_iastN CC (n := 60) (by omega) (by unfold alen; rw [if_neg (by omega), if_neg (by omega), if_neg (by omega), if_pos (by omega)]) (by omega) (by omega) dX1_set_39 ?_
        exact y_vret CC hQ dX1_set_40 (⟨fun _ => by rw [ix_nI (by omega)]; unfold cutI; first | rw [if_pos (by omega)] | rw [if_neg (by omega), if_pos (by omega)] | rw [if_neg (by omega), if_neg (by omega)], fun h => (by rw [b_1] at h; cases h)⟩)
    · skip
      refine y_iload_n CC 2 dX1_set_20 rfl rfl ?_
      refine y_i2b CC dX1_set_21 (v := (v).toInt8.toInt32) rfl ?_
      refine y_goto CC 39 dX1_set_22 (by decide) ?_
      refine y_iastN CC (n := 60) (by omega) (by unfold alen; rw [if_neg (by omega), if_neg (by omega), if_neg (by omega), if_pos (by omega)]) (by omega) (by omega) dX1_set_39 ?_
      exact y_vret CC hQ dX1_set_40 (⟨fun _ => by rw [ix_nI (by omega)]; unfold cutI; first | rw [if_pos (by omega)] | rw [if_neg (by omega), if_pos (by omega)] | rw [if_neg (by omega), if_neg (by omega)], fun h => (by rw [b_1] at h; cases h)⟩)
  · skip
    refine z_if_eqT CC 40 dX1_set_5 (by decide) (a := (0 : Int)) (nI_toInt (by decide)) (by decide) ?_
    exact y_vret CC hQ dX1_set_40 (⟨fun h => (by rw [b_1] at h; cases h), fun _ => rfl⟩)

set_option maxRecDepth 100000 in
set_option maxHeartbeats 4000000 in
theorem k_faultAsRow (l : Launch) (D : va_G) (ad : Nat → Nat) (kI kS kL : ClassId) (μ : Mem) (q : Nat) (hq : isO 1 q) (ln len : Nat) (ζ : Nat → Int32) (hS : SQ μ q ln len ζ) (j : Nat) (hj : j < 3) : MI l D ad kI kS kL yX1_faultAsRow cX1_faultAsRow 2 (some .int) 1 20 [.ref (ad q), .int (nI j)] μ (fun r μ2 => μ = μ2 ∧ r = nI (farF ln j)) := by
  refine met_I RX1 rfl (by decide) (lv := [(0, .ref (ad q)), (1, .int (nI j))]) rfl (Nat.le_of_ble_eq_true rfl) ?_
  intro pp ee ss mm aa bb me cd AA hA0 CC hnm QQ hQ
  have hln := hS.2.2.1
  have hlen := hS.2.2.2.1
  have hq4 : 14 ≤ q ∧ q ≤ 17 := by omega
  refine y_aload_n CC 0 dX1_faultAsRow_0 rfl rfl ?_
  refine y_callVI (st := []) CC cl_X1_32 (k_hasNothing l D ad kI kS kL μ q hq ln len ζ hS) hq rfl rfl rfl (Nat.le_of_ble_eq_true rfl) ⟨by decide, by decide⟩ ⟨Nat.zero_le _, Nat.zero_le _⟩ dX1_faultAsRow_1 (fun r_ μ_ w_2 => ?_)
  rcases w_2 with ⟨rfl, ⟨b_1, rfl⟩ | ⟨b_1, rfl⟩⟩
  · skip
    have hb_b_1 := of_decide_eq_true b_1
    refine z_if_eqF CC 9 dX1_faultAsRow_4 (by decide) (a := (1 : Int)) (nI_toInt (by decide)) (by decide) ?_
    refine y_iconst CC (nI 1) dX1_faultAsRow_7 (by decide) ?_
    exact y_iret CC hQ dX1_faultAsRow_8 (⟨rfl, by unfold farF; first | rw [if_pos (by omega)] | rw [if_neg (by omega), if_pos (by omega)] | rw [if_neg (by omega), if_neg (by omega)]⟩)
  · skip
    have hb_b_1 := of_decide_eq_false b_1
    refine z_if_eqT CC 9 dX1_faultAsRow_4 (by decide) (a := (0 : Int)) (nI_toInt (by decide)) (by decide) ?_
    refine y_aload_n CC 0 dX1_faultAsRow_9 rfl rfl ?_
    refine y_geti CC gl_X1_15 hq rfl (v := nI ln - 1) hS.1 dX1_faultAsRow_10 ?_
    refine y_iload_n CC 1 dX1_faultAsRow_13 rfl rfl ?_
    refine z_icmp_ne CC 21 dX1_faultAsRow_14 (by decide) (a := ((ln : Nat) : Int) - 1) (b := ((j : Nat) : Int)) (i_pred (by omega)) (nI_toInt (by omega)) (fun c_3 => ?_) (fun c_3 => ?_)
    · skip
      refine y_iconst CC (nI 2) dX1_faultAsRow_21 (by decide) ?_
      exact y_iret CC hQ dX1_faultAsRow_22 (⟨rfl, by unfold farF; first | rw [if_pos (by omega)] | rw [if_neg (by omega), if_pos (by omega)] | rw [if_neg (by omega), if_neg (by omega)]⟩)
    · skip
      refine y_iconst CC (nI 0) dX1_faultAsRow_17 (by decide) ?_
      refine y_goto CC 22 dX1_faultAsRow_18 (by decide) ?_
      exact y_iret CC hQ dX1_faultAsRow_22 (⟨rfl, by unfold farF; first | rw [if_pos (by omega)] | rw [if_neg (by omega), if_pos (by omega)] | rw [if_neg (by omega), if_neg (by omega)]⟩)

set_option maxRecDepth 100000 in
set_option maxHeartbeats 4000000 in
theorem k_faultOfCells (l : Launch) (D : va_G) (ad : Nat → Nat) (kI kS kL : ClassId) (μ : Mem) (q : Nat) (hq : isO 1 q) (ln len : Nat) (ζ : Nat → Int32) (hS : SQ μ q ln len ζ) (i n : Int32) : MI l D ad kI kS kL yX1_faultOfCells cX1_faultOfCells 3 (some .int) 0 0 [.ref (ad q), .int i, .int n] μ (fun r μ2 => μ = μ2 ∧ focR r len i n) := by
  refine met_I RX1 rfl (by decide) (lv := [(0, .ref (ad q)), (1, .int i), (2, .int n)]) rfl (Nat.le_of_ble_eq_true rfl) ?_
  intro pp ee ss mm aa bb me cd AA hA0 CC hnm QQ hQ
  have hln := hS.2.2.1
  have hlen := hS.2.2.2.1
  have hq4 : 14 ≤ q ∧ q ≤ 17 := by omega
  refine y_iload_n CC 1 dX1_faultOfCells_0 rfl rfl ?_
  refine z_if_lt CC 26 dX1_faultOfCells_1 (by decide) (a := (i).toInt) rfl (fun c_1 => ?_) (fun c_1 => ?_)
  · skip
    refine y_iconst CC (nI 3) dX1_faultOfCells_26 (by decide) ?_
    refine y_goto CC 31 dX1_faultOfCells_27 (by decide) ?_
    exact y_iret CC hQ dX1_faultOfCells_31 (⟨rfl, Or.inr ⟨decide_eq_false (by omega), rfl⟩⟩)
  · skip
    refine y_iload_n CC 2 dX1_faultOfCells_4 rfl rfl ?_
    refine z_if_lt CC 26 dX1_faultOfCells_5 (by decide) (a := (n).toInt) rfl (fun c_2 => ?_) (fun c_2 => ?_)
    · skip
      refine y_iconst CC (nI 3) dX1_faultOfCells_26 (by decide) ?_
      refine y_goto CC 31 dX1_faultOfCells_27 (by decide) ?_
      exact y_iret CC hQ dX1_faultOfCells_31 (⟨rfl, Or.inr ⟨decide_eq_false (by omega), rfl⟩⟩)
    · skip
      refine y_iload_n CC 1 dX1_faultOfCells_8 rfl rfl ?_
      refine y_aload_n CC 0 dX1_faultOfCells_9 rfl rfl ?_
      refine y_geti CC gl_X1_19 hq rfl (v := nI len) hS.2.1 dX1_faultOfCells_10 ?_
      refine z_icmp_gt CC 26 dX1_faultOfCells_13 (by decide) (a := (i).toInt) (b := ((len : Nat) : Int)) rfl (nI_toInt (by omega)) (fun c_3 => ?_) (fun c_3 => ?_)
      · skip
        refine y_iconst CC (nI 3) dX1_faultOfCells_26 (by decide) ?_
        refine y_goto CC 31 dX1_faultOfCells_27 (by decide) ?_
        exact y_iret CC hQ dX1_faultOfCells_31 (⟨rfl, Or.inr ⟨decide_eq_false (by omega), rfl⟩⟩)
      · skip
        refine y_iload_n CC 2 dX1_faultOfCells_16 rfl rfl ?_
        refine y_aload_n CC 0 dX1_faultOfCells_17 rfl rfl ?_
        refine y_geti CC gl_X1_19 hq rfl (v := nI len) hS.2.1 dX1_faultOfCells_18 ?_
        refine y_iload_n CC 1 dX1_faultOfCells_21 rfl rfl ?_
        refine y_isub CC dX1_faultOfCells_22 (v := nI len - i) (by rfl) ?_
        refine z_icmp_le CC 30 dX1_faultOfCells_23 (by decide) (a := (n).toInt) (b := ((len : Nat) : Int) - i.toInt) rfl (len_sub hlen (by omega) (by omega)) (fun c_4 => ?_) (fun c_4 => ?_)
        · skip
          refine y_iconst CC (nI 0) dX1_faultOfCells_30 (by decide) ?_
          exact y_iret CC hQ dX1_faultOfCells_31 (⟨rfl, Or.inl ⟨decide_eq_true (by omega), rfl⟩⟩)
        · skip
          refine y_iconst CC (nI 3) dX1_faultOfCells_26 (by decide) ?_
          refine y_goto CC 31 dX1_faultOfCells_27 (by decide) ?_
          exact y_iret CC hQ dX1_faultOfCells_31 (⟨rfl, Or.inr ⟨decide_eq_false (by omega), rfl⟩⟩)

set_option maxRecDepth 100000 in
set_option maxHeartbeats 4000000 in
theorem k_fill (l : Launch) (D : va_G) (ad : Nat → Nat) (kI kS kL : ClassId) (μ : Mem) (c n : Nat) (hc : isA c) (hn : alen c = n) (hn9 : n < 1000) (v : Int32) : MV l D ad kI kS kL yJ7_fill_53178 cJ7_fill_53178 4 none 0 0 [.ref (ad c), .int v] μ (fun μ2 => (∀ c1 k1, c1 ≠ c → μ2 c1 k1 = μ c1 k1) ∧ ∀ j, j < n → μ2 c j = v) := by
  refine met_V RJ7 rfl (by decide) (lv := [(0, .ref (ad c)), (1, .int v)]) rfl (Nat.le_of_ble_eq_true rfl) ?_
  intro pp ee ss mm aa bb me cd AA hA0 CC hnm QQ hQ
  refine y_iconst CC (nI 0) dJ7_fill_53178_0 (by decide) ?_
  refine y_istore_n CC [(2, .int (nI 0)), (0, .ref (ad c)), (1, .int v)] dJ7_fill_53178_1 rfl (by decide) rfl ?_
  refine y_aload_n CC 1 dJ7_fill_53178_2 rfl rfl ?_
  refine y_alen CC (n := n) hc hn dJ7_fill_53178_3 ?_
  refine y_istore_n CC [(3, .int (nI n)), (2, .int (nI 0)), (0, .ref (ad c)), (1, .int v)] dJ7_fill_53178_4 rfl (by decide) rfl ?_
  have L5 : ∀ (n5 : Nat) (j : Nat) (ν : Mem), n - j < n5 → (j ≤ n) → (∀ c1 k1, c1 ≠ c → ν c1 k1 = μ c1 k1) → (∀ i, i < j → ν c i = v) → Y pp l ee (rmY 0 0) ss mm aa bb me cd D ad kI kS kL AA 4 0 0 QQ 5 [(3, .int (nI n)), (2, .int (nI j)), (0, .ref (ad c)), (1, .int v)] [] ν := by
    intro n5
    induction n5 with
    | zero => intro j ν hm5; exact absurd hm5 (Nat.not_lt_zero _)
    | succ n5 ih5 =>
      intro j ν hm5 hj hF hW
      refine y_iload_n CC 1 dJ7_fill_53178_5 rfl rfl ?_
      refine y_iload_n CC 0 dJ7_fill_53178_6 rfl rfl ?_
      refine z_icmp_ge CC 20 dJ7_fill_53178_7 (by decide) (a := ((j : Nat) : Int)) (b := ((n : Nat) : Int)) (nI_toInt (by omega)) (nI_toInt (by omega)) (fun c_2 => ?_) (fun c_2 => ?_)
      · skip
        exact y_vret CC hQ dJ7_fill_53178_20 (⟨hF, fun j h => hW j (by omega)⟩)
      · skip
        refine y_aload_n CC 2 dJ7_fill_53178_10 rfl rfl ?_
        refine y_iload_n CC 1 dJ7_fill_53178_11 rfl rfl ?_
        refine y_iload_n CC 3 dJ7_fill_53178_12 rfl rfl ?_
        refine y_iastN CC (n := n) hc hn (by omega) (by omega) dJ7_fill_53178_13 ?_
        refine y_iinc CC 1 (nI (j + 1)) [(2, .int (nI (j + 1))), (3, .int (nI n)), (0, .ref (ad c)), (1, .int v)] dJ7_fill_53178_14 rfl (i_inc _) (by decide) rfl ?_
        refine y_goto CC 5 dJ7_fill_53178_17 (by decide) ?_
        refine y_lv [1, 0, 2, 3] rfl ?_
        exact ih5 (j + 1) (mu ν c j v) (by omega) (by omega) (fun c1 k1 h => by rw [mu_ne _ _ (Or.inl h)]; exact hF c1 k1 h) (fun i h => by rcases (show i < j ∨ i = j by omega) with h2 | rfl; rw [mu_k _ _ (by omega)]; exact hW i h2; exact mu_at _ _ _ _)
  exact L5 _ 0 μ (Nat.lt_succ_self _) (Nat.zero_le _) (fun _ _ _ => rfl) (fun i h => absurd h (Nat.not_lt_zero i))

set_option maxRecDepth 100000 in
set_option maxHeartbeats 4000000 in
theorem k_renew (l : Launch) (D : va_G) (ad : Nat → Nat) (kI kS kL : ClassId) (μ : Mem) (q : Nat) (hq : isO 1 q) (ln len : Nat) (ζ : Nat → Int32) (hS : SQ μ q ln len ζ) (x y : Int32) : MV l D ad kI kS kL yX1_renew cX1_renew 3 none 1 23 [.ref (ad q), .int x, .int y] μ (fun μ2 => (∀ c1 k1, c1 ≠ q → c1 ≠ q + 4 → μ2 c1 k1 = μ c1 k1) ∧ (∀ j, j < 60 → μ2 (q + 4) j = nI 0) ∧ μ2 q 1 = x ∧ μ2 q 2 = y) := by
  refine met_V RX1 rfl (by decide) (lv := [(0, .ref (ad q)), (1, .int x), (2, .int y)]) rfl (Nat.le_of_ble_eq_true rfl) ?_
  intro pp ee ss mm aa bb me cd AA hA0 CC hnm QQ hQ
  have hln := hS.2.2.1
  have hlen := hS.2.2.2.1
  have hq4 : 14 ≤ q ∧ q ≤ 17 := by omega
  refine y_aload_n CC 0 dX1_renew_0 rfl rfl ?_
  refine y_getr CC gl_X1_9 hq (d := (q + 4)) rfl dX1_renew_1 ?_
  refine y_iconst CC (nI 0) dX1_renew_4 (by decide) ?_
  refine y_callSV (st := []) CC cl_X1_22 (k_fill l D ad kI kS kL μ (q + 4) 60 (by omega) (by unfold alen; rw [if_neg (by omega), if_neg (by omega), if_neg (by omega), if_pos (by omega)]) (by omega) (nI 0)) rfl rfl (Nat.le_of_ble_eq_true rfl) ⟨by decide, by decide⟩ ⟨Nat.zero_le _, Nat.zero_le _⟩ dX1_renew_5 (fun μ_ w_1 => ?_)
  obtain ⟨hF, hW⟩ := w_1
  refine y_aload_n CC 0 dX1_renew_8 rfl rfl ?_
  refine y_iload_n CC 1 dX1_renew_9 rfl rfl ?_
  refine y_puti CC pl_X1_15 hq rfl (Nat.le_of_ble_eq_true rfl) dX1_renew_10 ?_
  refine y_aload_n CC 0 dX1_renew_13 rfl rfl ?_
  refine y_iload_n CC 2 dX1_renew_14 rfl rfl ?_
  refine y_puti CC pl_X1_19 hq rfl (Nat.le_of_ble_eq_true rfl) dX1_renew_15 ?_
  exact y_vret CC hQ dX1_renew_18 (⟨fun c1 k1 h1 h2 => by rw [mu_ne _ _ (Or.inl h1), mu_ne _ _ (Or.inl h1)]; exact hF c1 k1 h2, fun j h => by rw [mu_ne _ _ (Or.inl (by omega)), mu_ne _ _ (Or.inl (by omega))]; exact hW j h, by rw [mu_k _ _ (by decide)]; exact mu_at _ _ _ _, mu_at _ _ _ _⟩)
